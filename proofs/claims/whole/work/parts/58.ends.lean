/-! PURE PART: ENDS. -/
theorem keep_loop (x1 x2 x3 x4 : Int32) (E : zM → Option (Int32 × zM)) : ∀ (d v F : Nat) (M : zM), v + d = 6 → d < F → ∃ M', (∀ R, E M' = R → qM_ends_L43 x1 x2 x3 x4 E F M (nI v) = R) ∧ M'.2 = M.2 ∧ (∀ a i j, a ≠ 65 → M'.1 a i j = M.1 a i j) ∧ (∀ j, j < v → M'.1 65 0 j = M.1 65 0 j) ∧ ∀ j, v ≤ j → j < 6 → M'.1 65 0 j = M.1 43 0 j
  | 0, v, F + 1, M, hd, hF => by
    refine ⟨M, fun R hR => ?_, rfl, fun _ _ _ _ => rfl, fun _ _ => rfl, fun j h1 h2 => by omega⟩
    unfold qM_ends_L43
    simp only [zl0, zl1, zl2, zl3, zl4, zl5, zl6, zl7, zl8, zl9, zl10, zl11, zl12, zl13, zl14, zl16, zl18, zl19, zl20, zl22, zl24, zl30, zl32, zl33, zl36, zl38, zl40, zl41, zl48, zl50, zl51, zl57, zl59, zl60, zl61, zl62, zl70, zl71, zl99, zl100, zl103, zl104, zl105, zl106, zl107, zl108, zl109, zl110, zl111, zl112, zl113, zl114, zl115, zl116, zl124, zl127, zl255, zl999, zl1000, zl1001, zl1002, zl1003]
    rw [if_pos (nI_le (by omega) (by omega))]
    exact hR
  | d + 1, v, F + 1, M, hd, hF => by
    obtain ⟨M', k1, k2, k3, k4, k5⟩ := keep_loop x1 x2 x3 x4 E d (v + 1) F (zset M 65 0 v (M.1 43 0 v)) (by omega) (by omega)
    refine ⟨M', fun R hR => ?_, k2, fun a i j h => by rw [k3 a i j h, zg_n (by omega)], fun j hj => by rw [k4 j (by omega), zg_n (by omega)], fun j h1 h2 => ?_⟩
    · unfold qM_ends_L43
      simp only [zl0, zl1, zl2, zl3, zl4, zl5, zl6, zl7, zl8, zl9, zl10, zl11, zl12, zl13, zl14, zl16, zl18, zl19, zl20, zl22, zl24, zl30, zl32, zl33, zl36, zl38, zl40, zl41, zl48, zl50, zl51, zl57, zl59, zl60, zl61, zl62, zl70, zl71, zl99, zl100, zl103, zl104, zl105, zl106, zl107, zl108, zl109, zl110, zl111, zl112, zl113, zl114, zl115, zl116, zl124, zl127, zl255, zl999, zl1000, zl1001, zl1002, zl1003]
      rw [if_neg (nI_ge (by omega) (by omega)), zchk_e (ze_in (by omega) (by omega)), zchk_e (ze_in (by omega) (by omega)), znm_e, ze_cl (show v < 2 ^ 31 by omega), ze_add]
      exact k1 R hR
    · by_cases e : j = v
      · rw [e, k4 v (by omega), zg_e ⟨rfl, rfl, rfl⟩]
      · rw [k5 j (by omega) h2, zg_n (by omega)]
theorem back_loop (x1 x2 : Int32) (E : zM → Option (Int32 × zM)) : ∀ (d v F : Nat) (M : zM), v + d = 6 → d < F → ∃ M', (∀ R, E M' = R → qM_ends_L167 x1 x2 E F M (nI v) = R) ∧ M'.2 = M.2 ∧ (∀ a j, ¬ (a = 43 ∧ j < 6) → M'.1 a 0 j = M.1 a 0 j) ∧ (∀ j, j < v → M'.1 43 0 j = M.1 43 0 j) ∧ ∀ j, v ≤ j → j < 6 → M'.1 43 0 j = M.1 65 0 j
  | 0, v, F + 1, M, hd, hF => by
    refine ⟨M, fun R hR => ?_, rfl, fun _ _ _ => rfl, fun _ _ => rfl, fun j h1 h2 => by omega⟩
    unfold qM_ends_L167
    simp only [zl0, zl1, zl2, zl3, zl4, zl5, zl6, zl7, zl8, zl9, zl10, zl11, zl12, zl13, zl14, zl16, zl18, zl19, zl20, zl22, zl24, zl30, zl32, zl33, zl36, zl38, zl40, zl41, zl48, zl50, zl51, zl57, zl59, zl60, zl61, zl62, zl70, zl71, zl99, zl100, zl103, zl104, zl105, zl106, zl107, zl108, zl109, zl110, zl111, zl112, zl113, zl114, zl115, zl116, zl124, zl127, zl255, zl999, zl1000, zl1001, zl1002, zl1003]
    rw [if_pos (nI_le (by omega) (by omega))]
    exact hR
  | d + 1, v, F + 1, M, hd, hF => by
    obtain ⟨M', k1, k2, k3, k4, k5⟩ := back_loop x1 x2 E d (v + 1) F (zset M 43 0 v (M.1 65 0 v)) (by omega) (by omega)
    refine ⟨M', fun R hR => ?_, k2, fun a j h => by rw [k3 a j h, zg_n (by omega)], fun j hj => by rw [k4 j (by omega), zg_n (by omega)], fun j h1 h2 => ?_⟩
    · unfold qM_ends_L167
      simp only [zl0, zl1, zl2, zl3, zl4, zl5, zl6, zl7, zl8, zl9, zl10, zl11, zl12, zl13, zl14, zl16, zl18, zl19, zl20, zl22, zl24, zl30, zl32, zl33, zl36, zl38, zl40, zl41, zl48, zl50, zl51, zl57, zl59, zl60, zl61, zl62, zl70, zl71, zl99, zl100, zl103, zl104, zl105, zl106, zl107, zl108, zl109, zl110, zl111, zl112, zl113, zl114, zl115, zl116, zl124, zl127, zl255, zl999, zl1000, zl1001, zl1002, zl1003]
      rw [if_neg (nI_ge (by omega) (by omega)), zchk_e (ze_in (by omega) (by omega)), zchk_e (ze_in (by omega) (by omega)), znm_e, ze_cl (show v < 2 ^ 31 by omega), ze_add]
      exact k1 R hR
    · by_cases e : j = v
      · rw [e, k4 v (by omega), zg_e ⟨rfl, rfl, rfl⟩]
      · rw [k5 j (by omega) h2, zg_n (by omega)]
theorem go_loop {n h e k : Nat} {cs : List Cl} {c1 c3 d1 d3 d4 : Int32} {E E' : zM → Option (Int32 × zM)} (hn : 0 < n) (hk : k ≤ 30) : ∀ (d v rd F : Nat) (C M : zM), v + d = k → d < F → rd + d < 4000 → PH C M 2 n rd h e cs → M.1 40 0 30 = -nI 1 →
    ∃ C' M' rd', (∀ R, E C' = R → qG_ends_L49 c1 (nI k) c3 E F C (nI v) = R) ∧ (∀ R, E' M' = R → qM_ends_L73 d1 (nI k) d3 d4 E' F M (nI v) = R) ∧ PH C' M' 2 n rd' h e cs ∧ FRT C C' ∧ FPm M M'
  | 0, v, rd, F + 1, C, M, hd, hF, hr, H, hpl => by
    refine ⟨C, M, rd, fun R hR => ?_, fun R hR => ?_, H, FRT_refl _, FPm_refl _⟩
    · unfold qG_ends_L49
      rw [if_pos (nI_le (by omega) (by omega))]
      exact hR
    · unfold qM_ends_L73
      rw [if_pos (nI_le (by omega) (by omega))]
      exact hR
  | d + 1, v, rd, F + 1, C, M, hd, hF, hr, H, hpl => by
    have hn6 := H.2.1
    have hm : rd % n < n := Nat.mod_lt _ hn
    obtain ⟨D, N, tk, k1, k2, k3, k4, k5⟩ := pts_e H (by omega) hm hpl
    obtain ⟨C', M', rd', x1, x2, x3, x4, x5⟩ := go_loop (c1 := c1) (c3 := c3) (d1 := d1) (d3 := d3) (d4 := d4) (E := E) (E' := E') hn hk d (v + 1) (rd + 1) F D N (by omega) (by omega) (by omega) k3 (by rw [k5.2 _ _ (by decide) (by decide) (by decide) (by omega) (by omega), hpl])
    have fD : FRT C D := ⟨k4.1, fun i => k4.2 _ _ _ (by omega) (by omega) (by omega), fun a i j q1 q2 q3 => k4.2 _ _ _ (by omega) (by omega) (by omega)⟩
    refine ⟨C', M', rd', fun R hR => ?_, fun R hR => ?_, x3, FRT_trans fD x4, FPm_trans k5 x5⟩
    · unfold qG_ends_L49
      simp only [zl0, zl1, zl2, zl3, zl4, zl5, zl6, zl7, zl8, zl9, zl10, zl11, zl12, zl13, zl14, zl16, zl18, zl19, zl20, zl22, zl24, zl30, zl32, zl33, zl36, zl38, zl40, zl41, zl48, zl50, zl51, zl57, zl59, zl60, zl61, zl62, zl70, zl71, zl99, zl100, zl103, zl104, zl105, zl106, zl107, zl108, zl109, zl110, zl111, zl112, zl113, zl114, zl115, zl116, zl124, zl127, zl255, zl999, zl1000, zl1001, zl1002, zl1003]
      rw [if_neg (nI_ge (by omega) (by omega)), H.2.2.2.2.2.1, if_neg (nI_ge (by omega) (by omega)), zchk_e (ze_nz (by omega) (by omega)), H.2.2.2.2.2.2.1, ze_rem (by omega) (by omega) (by omega), zbnd_c k1, ze_add]
      exact x1 R hR
    · unfold qM_ends_L73
      simp only [zl0, zl1, zl2, zl3, zl4, zl5, zl6, zl7, zl8, zl9, zl10, zl11, zl12, zl13, zl14, zl16, zl18, zl19, zl20, zl22, zl24, zl30, zl32, zl33, zl36, zl38, zl40, zl41, zl48, zl50, zl51, zl57, zl59, zl60, zl61, zl62, zl70, zl71, zl99, zl100, zl103, zl104, zl105, zl106, zl107, zl108, zl109, zl110, zl111, zl112, zl113, zl114, zl115, zl116, zl124, zl127, zl255, zl999, zl1000, zl1001, zl1002, zl1003]
      rw [if_neg (nI_ge (by omega) (by omega)), H.2.2.2.2.2.2.2.1, zchk_e (ze_nz (by omega) (by omega)), H.2.2.2.2.2.2.2.2.1, ze_rem (by omega) (by omega) (by omega), zbnd_c k2, ze_add]
      exact x2 R hR
theorem lead_loop {C M : zM} {n rd h e : Nat} {cs : List Cl} {d1 d3 d4 : Int32} {E' : zM → Int32 → Option (Int32 × zM)} (H : PH C M 2 n rd h e cs) : ∀ (d v F b : Nat), v + d = n ∨ (d = 0 ∧ n ≤ v ∧ v < 10) → d < F → b < n → ∃ y, qP_leader_L4 2 F C (nI b) (nI v) = some (nI y, C) ∧ ∀ R, E' M (nI y) = R → qM_ends_L106 d1 d3 d4 E' F M (nI b) (nI v) = R
  | 0, v, F + 1, b, hd, hF, hb => by
    have hn6 := H.2.1
    refine ⟨b, ?_, fun R hR => ?_⟩
    · unfold qP_leader_L4
      rw [H.2.2.2.2.2.1, if_pos (nI_le (by omega) (by omega))]
    · unfold qM_ends_L106
      rw [H.2.2.2.2.2.2.2.1, if_pos (nI_le (by omega) (by omega))]
      exact hR
  | d + 1, v, F + 1, b, hd, hF, hb => by
    have hn6 := H.2.1
    have p1 : C.1 2 (12 + v) 3 = M.1 43 0 v := (H.2.2.2.2.1 v (by omega)).1.2.2.1
    have p2 : C.1 2 (12 + b) 3 = M.1 43 0 b := (H.2.2.2.2.1 b hb).1.2.2.1
    have hC : ∀ R, qP_leader_L4 2 F C (nI (if M.1 43 0 v ≤ M.1 43 0 b then b else v)) (nI (v + 1)) = R → qP_leader_L4 2 (F + 1) C (nI b) (nI v) = R := by
      intro R hR
      unfold qP_leader_L4
      simp only [zl0, zl1, zl2, zl3, zl4, zl5, zl6, zl7, zl8, zl9, zl10, zl11, zl12, zl13, zl14, zl16, zl18, zl19, zl20, zl22, zl24, zl30, zl32, zl33, zl36, zl38, zl40, zl41, zl48, zl50, zl51, zl57, zl59, zl60, zl61, zl62, zl70, zl71, zl99, zl100, zl103, zl104, zl105, zl106, zl107, zl108, zl109, zl110, zl111, zl112, zl113, zl114, zl115, zl116, zl124, zl127, zl255, zl999, zl1000, zl1001, zl1002, zl1003]
      rw [H.2.2.2.2.2.1, if_neg (nI_ge (by omega) (by omega)), zchk_e (ze_in (by omega) (by omega)), znm_e, zchk_e (ze_in (by omega) (by omega)), znm_e, zjn_e, ze_cl (show v < 2 ^ 31 by omega), ze_cl (show b < 2 ^ 31 by omega), show 6 * 2 + v = 12 + v from rfl, show 6 * 2 + b = 12 + b from rfl, p1, p2, ze_add]
      by_cases q : M.1 43 0 v ≤ M.1 43 0 b
      · rw [if_pos q] at hR ⊢
        exact hR
      · rw [if_neg q] at hR ⊢
        exact hR
    have hM : ∀ R, qM_ends_L106 d1 d3 d4 E' F M (nI (if M.1 43 0 v ≤ M.1 43 0 b then b else v)) (nI (v + 1)) = R → qM_ends_L106 d1 d3 d4 E' (F + 1) M (nI b) (nI v) = R := by
      intro R hR
      unfold qM_ends_L106
      simp only [zl0, zl1, zl2, zl3, zl4, zl5, zl6, zl7, zl8, zl9, zl10, zl11, zl12, zl13, zl14, zl16, zl18, zl19, zl20, zl22, zl24, zl30, zl32, zl33, zl36, zl38, zl40, zl41, zl48, zl50, zl51, zl57, zl59, zl60, zl61, zl62, zl70, zl71, zl99, zl100, zl103, zl104, zl105, zl106, zl107, zl108, zl109, zl110, zl111, zl112, zl113, zl114, zl115, zl116, zl124, zl127, zl255, zl999, zl1000, zl1001, zl1002, zl1003]
      rw [H.2.2.2.2.2.2.2.1, if_neg (nI_ge (by omega) (by omega)), zchk_e (ze_in (by omega) (by omega)), zchk_e (ze_in (by omega) (by omega)), zjn_e, ze_cl (show v < 2 ^ 31 by omega), ze_cl (show b < 2 ^ 31 by omega), ze_add]
      by_cases q : M.1 43 0 v ≤ M.1 43 0 b
      · rw [if_pos q] at hR ⊢
        exact hR
      · rw [if_neg q] at hR ⊢
        exact hR
    obtain ⟨y, y1, y2⟩ := lead_loop (d1 := d1) (d3 := d3) (d4 := d4) (E' := E') H d (v + 1) F (if M.1 43 0 v ≤ M.1 43 0 b then b else v) (by omega) (by omega) (by split <;> omega)
    exact ⟨y, hC _ y1, fun R hR => hM _ (y2 R hR)⟩
theorem st_ends (c m : zM) (a0 a1 a2 : Int32) (h : Rl c m) : ∃ (r : Int32) (c1 m1 : zM), qG_ends c a0 a1 a2 = some (r, c1) ∧ qM_ends m a0 a1 a2 = some (r, m1) ∧ Rl c1 m1 := by
  obtain ⟨n, rd, bk, ec, tl, ev, h1, h2, h3, h4, h5, h6, h7, h8, h9, h10, h11, h12, h13⟩ := h; obtain ⟨b1, b2, b3, b4, b5, b6⟩ := h1; have h1 : Rb1 n rd bk ec tl ev := ⟨b1, b2, b3, b4, b5, b6⟩; obtain ⟨c1, c2, c3, c4, c5, c6⟩ := h2; have h2 : Rb2 c n rd bk ec tl ev := ⟨c1, c2, c3, c4, c5, c6⟩; obtain ⟨m1, m2, m3, m4, m5, m6, m7⟩ := h3; have h3 : Rb3 m n rd bk ec tl ev := ⟨m1, m2, m3, m4, m5, m6, m7⟩
  have hB : RB c m n rd bk ec tl ev := ⟨h1, h2, h3, h4, h5, h6, h7, h8, h9, h10, h11, h12, h13⟩
  obtain ⟨hh, e, cs, H⟩ := PH_0 hB
  have hn6 := H.2.1
  unfold qG_ends qM_ends
  simp only [zl0, zl1, zl2, zl3, zl4, zl5, zl6, zl7, zl8, zl9, zl10, zl11, zl12, zl13, zl14, zl16, zl18, zl19, zl20, zl22, zl24, zl30, zl32, zl33, zl36, zl38, zl40, zl41, zl48, zl50, zl51, zl57, zl59, zl60, zl61, zl62, zl70, zl71, zl99, zl100, zl103, zl104, zl105, zl106, zl107, zl108, zl109, zl110, zl111, zl112, zl113, zl114, zl115, zl116, zl124, zl127, zl255, zl999, zl1000, zl1001, zl1002, zl1003]
  rcases zcase a0 (n := n) (by omega) with g | ⟨p, hp, rfl⟩
  · rw [zb_n (qP_has_no c1 g), zb_n (qM_isPerson_no m1 (by omega) g)]
    exact ⟨_, c, m, rfl, rfl, n, rd, bk, ec, tl, ev, h1, h2, h3, h4, h5, h6, h7, h8, h9, h10, h11, h12, h13⟩
  rw [zb_y (qP_has_ok c1 hp (by omega)), zb_y (qM_isPerson_ok m1 hp (by omega))]
  rcases zcase a2 (n := 2) (by omega) with g | ⟨w, hw, rfl⟩
  · rw [zno_i3 g (k := 1) rfl (by decide), zb_n (qM_in_no m (h := 1) rfl (by decide) g)]
    exact ⟨_, c, m, rfl, rfl, n, rd, bk, ec, tl, ev, h1, h2, h3, h4, h5, h6, h7, h8, h9, h10, h11, h12, h13⟩
  rw [if_neg (nI_nlt (by omega) (by omega)), if_pos (nI_le (by omega) (by omega)), zb_y (qM_in_ok m (show w ≤ 1 by omega) (by decide))]
  rcases zcase a1 (n := 31) (by omega) with g | ⟨k, hk, rfl⟩
  · rw [zno_i3 g (k := 30) rfl (by decide), zb_n (qM_in_no m (h := 30) rfl (by decide) g)]
    exact ⟨_, c, m, rfl, rfl, n, rd, bk, ec, tl, ev, h1, h2, h3, h4, h5, h6, h7, h8, h9, h10, h11, h12, h13⟩
  rw [if_neg (nI_nlt (by omega) (by omega)), if_pos (nI_le (by omega) (by omega)), zb_y (qM_in_ok m (show k ≤ 30 by omega) (by decide)), m2, znm_e]
  obtain ⟨A, a1, a2, a3⟩ := trial_e H
  obtain ⟨M1, u1, u2, u3, u4, u5⟩ := keep_loop (nI p) (nI k) (nI w) (nI rd) (fun (M12 : zM)  => qM_ends_L73 (nI p) (nI k) (nI w) (nI rd) (fun (M16 : zM)  => qM_ends_L106 (nI p) (nI w) (nI rd) (fun (M20 : zM) (x21 : Int32) => zjn (fun (M23 : zM) (x22 : Int32) => qM_ends_L167 (nI rd) x22 (fun (M26 : zM)  => znm (zset M26 40 0 1 (nI rd)) fun M27 => some (x22, M27)) 1000 M23 (nI 0)) (fun j24 => if nI w = nI 0 then (zchk (zin (nI p) 6) (j24 M20 (M20.1 43 0 (nI p).toNatClampNeg))) else (j24 M20 x21))) 1000 M16 (nI 0) (nI 1)) 1000 M12 (nI 0)) 6 0 1000 m (by omega) (by omega)
  have HA : PH A M1 2 n rd hh e cs := by
    refine PH_mk a2 (by decide) H.2.2.1 a2.2.2.2.1 (Rppl_cg (fun _ _ _ _ _ => rfl) (fun t j ht => u3 _ _ _ (by omega)) a2.2.2.2.2.1) a2.2.2.2.2.2.1 a2.2.2.2.2.2.2.1 (by rw [u3 _ _ _ (by decide)]; exact H.2.2.2.2.2.2.2.1) (by rw [u3 _ _ _ (by decide)]; exact H.2.2.2.2.2.2.2.2.1) (fun _ _ _ _ => rfl) rfl (fun a j ha => u3 _ _ _ (by omega))
  obtain ⟨C', M', rd', x1, x2, x3, x4, x5⟩ := go_loop (k := k) (c1 := nI p) (c3 := nI w) (d1 := nI p) (d3 := nI w) (d4 := nI rd) (E := fun (M9 : zM)  => if nI w = nI 0 then (zchk (zin (nI p) 6) (znm (12 + (nI p).toNatClampNeg) fun i10 => some ((M9.1 2 i10 3), M9))) else (zbnd (qP_leader M9 2) fun x12 M11 => some (x12, M11))) (E' := fun (M16 : zM)  => qM_ends_L106 (nI p) (nI w) (nI rd) (fun (M20 : zM) (x21 : Int32) => zjn (fun (M23 : zM) (x22 : Int32) => qM_ends_L167 (nI rd) x22 (fun (M26 : zM)  => znm (zset M26 40 0 1 (nI rd)) fun M27 => some (x22, M27)) 1000 M23 (nI 0)) (fun j24 => if nI w = nI 0 then (zchk (zin (nI p) 6) (j24 M20 (M20.1 43 0 (nI p).toNatClampNeg))) else (j24 M20 x21))) 1000 M16 (nI 0) (nI 1)) (by omega) (by omega) k 0 rd 1000 A M1 (by omega) (by omega) (by omega) HA (by rw [u3 _ _ _ (by decide), m7])
  have pp : C'.1 2 (12 + p) 3 = M'.1 43 0 p := (x3.2.2.2.2.1 p hp).1.2.2.1
  obtain ⟨y, y1, y2⟩ := lead_loop (d1 := nI p) (d3 := nI w) (d4 := nI rd) (E' := fun (M20 : zM) (x21 : Int32) => zjn (fun (M23 : zM) (x22 : Int32) => qM_ends_L167 (nI rd) x22 (fun (M26 : zM)  => znm (zset M26 40 0 1 (nI rd)) fun M27 => some (x22, M27)) 1000 M23 (nI 0)) (fun j24 => if nI w = nI 0 then (zchk (zin (nI p) 6) (j24 M20 (M20.1 43 0 (nI p).toNatClampNeg))) else (j24 M20 x21))) x3 (n - 1) 1 1000 0 (by omega) (by omega) (by omega)
  obtain ⟨N, v1, v2, v3, v4, v5⟩ := back_loop (nI rd) (if w = 0 then M'.1 43 0 p else nI y) (fun (M26 : zM)  => znm (zset M26 40 0 1 (nI rd)) fun M27 => some ((if w = 0 then M'.1 43 0 p else nI y), M27)) 6 0 1000 M' (by omega) (by omega)
  have fin : FRX m (zset N 40 0 1 (nI rd)) := by
    refine ⟨by rw [zg_2, v2, x5.1, u2], fun a j q1 q2 => ?_⟩
    by_cases e1 : a = 40 ∧ j = 1
    · rw [zg_e (by omega), e1.1, e1.2, m2]
    rw [zg_n (by omega)]
    by_cases e2 : a = 43 ∧ j < 6
    · obtain ⟨rfl, e3⟩ := e2
      rw [v5 j (by omega) e3, x5.2 _ _ (by decide) (by decide) (by decide) (by omega) (by omega), u5 j (by omega) e3]
    · rw [v3 _ _ e2, x5.2 _ _ (by omega) (by omega) (by omega) e2 e1, u3 _ _ _ (by omega)]
  refine ⟨if w = 0 then M'.1 43 0 p else nI y, C', zset N 40 0 1 (nI rd), ?_, u1 _ (x2 _ (y2 _ ?_)), n, rd, bk, ec, tl, ev, RB_T hB (FRT_trans a3 x4) fin⟩
  · rw [zbnd_c a1]
    refine x1 _ ?_
    by_cases q : w = 0
    · rw [if_pos q, if_pos (by rw [q]), zchk_e (ze_in (by omega) (by omega)), znm_e, ze_cl (show p < 2 ^ 31 by omega), pp]
    · rw [if_neg q, if_neg (znI_ne (by omega) (by omega) q)]
      have : qP_leader C' 2 = some (nI y, C') := by
        unfold qP_leader
        simp only [zl0, zl1]
        exact y1
      rw [zbnd_c this]
  · rw [zjn_e]
    have v1' := v1 (some (if w = 0 then M'.1 43 0 p else nI y, zset N 40 0 1 (nI rd))) rfl
    by_cases q : w = 0
    · simp only [if_pos q] at v1' ⊢
      rw [if_pos (by rw [q]), zchk_e (ze_in (by omega) (by omega)), ze_cl (show p < 2 ^ 31 by omega)]
      exact v1'
    · simp only [if_neg q] at v1' ⊢
      rw [if_neg (znI_ne (by omega) (by omega) q)]
      exact v1'
