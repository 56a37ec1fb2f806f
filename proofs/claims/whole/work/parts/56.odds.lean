/-! PURE PART: MEAN and ODDS. -/
def gl (a b : Nat) : Nat → Nat → Nat → Nat
  | 0, _, cur => cur
  | k + 1, v, cur => gl a b k (v + 1) (if a % v = 0 ∧ b % v = 0 then v else cur)
def gd : Nat → Nat → Nat → Nat
  | 0, a, _ => a
  | k + 1, a, b => if b = 0 then a else gd k b (a % b)
theorem gl_gd : ∀ b, b < 7 → 1 ≤ b → ∀ a, a < 37 → gl a b (b - 1) 2 1 = gd 8 a b ∧ 1 ≤ gd 8 a b ∧ gd 8 a b < 40 := by decide +kernel
theorem part_loop {a b : Nat} {c2 : Int32} {E : zM → Int32 → Option (Int64 × zM)} {M : zM} (ha : a < 1000) (hb : b < 1000) : ∀ (k v cur F : Nat), v + k = b + 1 → 1 ≤ v → k < F → qG_partOfFraction_L5 (nI a) (nI b) c2 E F M (nI cur) (nI v) = E M (nI (gl a b k v cur))
  | 0, v, cur, F + 1, hv, h1, hF => by
    unfold qG_partOfFraction_L5
    rw [if_pos (nI_lt (by omega) (by omega))]
    rfl
  | k + 1, v, cur, F + 1, hv, h1, hF => by
    have ih := part_loop (c2 := c2) (E := E) (M := M) ha hb k (v + 1) (if a % v = 0 ∧ b % v = 0 then v else cur) F (by omega) (by omega) (by omega)
    have m1 : a % v < v := Nat.mod_lt _ (by omega)
    have m2 : b % v < v := Nat.mod_lt _ (by omega)
    have e : gl a b (k + 1) v cur = gl a b k (v + 1) (if a % v = 0 ∧ b % v = 0 then v else cur) := rfl
    rw [e]
    unfold qG_partOfFraction_L5
    simp only [zl0, zl1, zl2, zl3, zl4, zl5, zl6, zl7, zl8, zl9, zl10, zl11, zl12, zl13, zl14, zl16, zl18, zl19, zl20, zl22, zl24, zl30, zl32, zl33, zl36, zl38, zl40, zl41, zl48, zl50, zl51, zl57, zl59, zl60, zl61, zl62, zl70, zl71, zl99, zl100, zl103, zl104, zl105, zl106, zl107, zl108, zl109, zl110, zl111, zl112, zl113, zl114, zl115, zl116, zl124, zl127, zl255, zl999, zl1000, zl1001, zl1002, zl1003]
    rw [if_neg (nI_nlt (by omega) (by omega)), zchk_e (ze_nz (by omega) (by omega)), zjn_e, ze_rem (by omega) (by omega) (by omega), ze_rem (by omega) (by omega) (by omega), zchk_e (ze_nz (by omega) (by omega)), ze_add]
    by_cases e1 : a % v = 0
    · rw [if_pos (by rw [e1])]
      by_cases e2 : b % v = 0
      · rw [if_pos (by rw [e2])]
        rw [if_pos ⟨e1, e2⟩] at ih ⊢
        exact ih
      · rw [if_neg (znI_ne (by omega) (by omega) e2)]
        rw [if_neg (fun q => e2 q.2)] at ih ⊢
        exact ih
    · rw [if_neg (znI_ne (by omega) (by omega) e1)]
      rw [if_neg (fun q => e1 q.1)] at ih ⊢
      exact ih
theorem div_loop {M : zM} : ∀ (k a b F : Nat), b < k → a < 1000 → b < 1000 → k ≤ F → qM_divisor_L5 F M (nI a) (nI b) = some (nI (gd k a b), M)
  | k + 1, a, b, F + 1, hb, ha, hb', hF => by
    unfold qM_divisor_L5
    simp only [zl0, zl1, zl2, zl3, zl4, zl5, zl6, zl7, zl8, zl9, zl10, zl11, zl12, zl13, zl14, zl16, zl18, zl19, zl20, zl22, zl24, zl30, zl32, zl33, zl36, zl38, zl40, zl41, zl48, zl50, zl51, zl57, zl59, zl60, zl61, zl62, zl70, zl71, zl99, zl100, zl103, zl104, zl105, zl106, zl107, zl108, zl109, zl110, zl111, zl112, zl113, zl114, zl115, zl116, zl124, zl127, zl255, zl999, zl1000, zl1001, zl1002, zl1003]
    by_cases e : b = 0
    · rw [if_pos (by rw [e])]
      unfold gd
      rw [if_pos e]
    · have m1 : a % b < b := Nat.mod_lt _ (by omega)
      have ih := div_loop (M := M) k b (a % b) F (by omega) (by omega) (by omega) (by omega)
      rw [if_neg (znI_ne (by omega) (by omega) e), zchk_e (ze_nz (by omega) (by omega)), znm_e, ze_rem (by omega) (by omega) (by omega), ih]
      have eg : gd (k + 1) a b = gd k b (a % b) := by
        show (if b = 0 then a else gd k b (a % b)) = _
        rw [if_neg e]
      rw [eg]
theorem part_e {a b w : Nat} (C M : zM) (ha : a < 37) (hb : b < 7) (hb1 : 1 ≤ b) (hw : w < 2) : ∃ x, qG_partOfFraction C (nI a) (nI b) (nI w) = some (x, C) ∧ qM_lowest M (nI a) (nI b) (nI w) = some (x, M) := by
  obtain ⟨g1, g2, g3⟩ := gl_gd b hb hb1 a ha
  refine ⟨if w = 0 then (nI a / nI (gd 8 a b)).toInt64 else (nI b / nI (gd 8 a b)).toInt64, ?_, ?_⟩
  · unfold qG_partOfFraction
    simp only [zl0, zl1, zl2, zl3, zl4, zl5, zl6, zl7, zl8, zl9, zl10, zl11, zl12, zl13, zl14, zl16, zl18, zl19, zl20, zl22, zl24, zl30, zl32, zl33, zl36, zl38, zl40, zl41, zl48, zl50, zl51, zl57, zl59, zl60, zl61, zl62, zl70, zl71, zl99, zl100, zl103, zl104, zl105, zl106, zl107, zl108, zl109, zl110, zl111, zl112, zl113, zl114, zl115, zl116, zl124, zl127, zl255, zl999, zl1000, zl1001, zl1002, zl1003]
    rw [part_loop (by omega) (by omega) (b - 1) 2 1 1000 (by omega) (by omega) (by omega), g1, zchk_e (ze_nz (by omega) (by omega)), zchk_e (ze_nz (by omega) (by omega))]
    by_cases e : w = 0
    · rw [if_pos e, if_pos (by rw [e])]
    · rw [if_neg e, if_neg (znI_ne (by omega) (by omega) e)]
  · unfold qM_lowest qM_divisor
    simp only [zl0, zl1, zl2, zl3, zl4, zl5, zl6, zl7, zl8, zl9, zl10, zl11, zl12, zl13, zl14, zl16, zl18, zl19, zl20, zl22, zl24, zl30, zl32, zl33, zl36, zl38, zl40, zl41, zl48, zl50, zl51, zl57, zl59, zl60, zl61, zl62, zl70, zl71, zl99, zl100, zl103, zl104, zl105, zl106, zl107, zl108, zl109, zl110, zl111, zl112, zl113, zl114, zl115, zl116, zl124, zl127, zl255, zl999, zl1000, zl1001, zl1002, zl1003]
    rw [zbnd_c (div_loop 8 a b 1000 (by omega) (by omega) (by omega) (by omega)), zchk_e (ze_nz (by omega) (by omega)), zchk_e (ze_nz (by omega) (by omega))]
    by_cases e : w = 0
    · rw [if_pos e, if_pos (by rw [e])]
    · rw [if_neg e, if_neg (znI_ne (by omega) (by omega) e)]
theorem mean_loop {m : zM} {n rd h e : Nat} {cs : List Cl} {c1 c1' : Int32} {E E' : zM → Int32 → Option (Int64 × zM)} (hn6 : n ≤ 6) (hpl : m.1 40 0 30 = -nI 1) : ∀ (d v F s : Nat) (C M : zM), v + d = n → d < F → PH C m 0 n rd h e cs → FR3 m M → s ≤ 5 * v →
    ∃ C' M' s', s' ≤ 30 ∧ (∀ R, E C' (nI s') = R → qG_mean_L27 c1 E F C (nI s) (nI v) = R) ∧ (∀ R, E' M' (nI s') = R → qM_mean_L25 c1' E' F M (nI s) (nI v) = R) ∧ FRc C C' ∧ FR3 m M'
  | 0, v, F + 1, s, C, M, hd, hF, H, hM, hs => by
    have e : v = n := hd
    subst e
    refine ⟨C, M, s, by omega, fun R hR => ?_, fun R hR => ?_, FRc_refl _, hM⟩
    · unfold qG_mean_L27
      rw [H.2.2.2.2.2.1, if_pos (nI_le (by omega) (by omega))]
      exact hR
    · unfold qM_mean_L25
      rw [hM.2 _ _ _ (by decide) (by decide) (by decide), H.2.2.2.2.2.2.2.1, if_pos (nI_le (by omega) (by omega))]
      exact hR
  | d + 1, v, F + 1, s, C, M, hd, hF, H, hM, hs => by
    have HM := PH_fr H (FRc_refl C) hM
    obtain ⟨lp, hl⟩ := LPl_ex (PH_pp HM (show v < n by omega)).2.2.2.2.2.2.2.2
    obtain ⟨D, N, hh, tk, gs, k1, k2, k3, k4, k5, k6, k7, k8⟩ := play_e HM hl (show v < n by omega) (by rw [hM.2 _ _ _ (by decide) (by decide) (by decide), hpl])
    obtain ⟨C', M', s', x0, x1, x2, x3, x4⟩ := mean_loop (c1 := c1) (c1' := c1') (E := E) (E' := E') hn6 hpl d (v + 1) F (s + tk) D N (by omega) (by omega) (PH_fr H k4 (FR3_refl m)) (FR3_trans hM k5) (by omega)
    refine ⟨C', M', s', x0, fun R hR => ?_, fun R hR => ?_, FRc_trans k4 x3, x4⟩
    · unfold qG_mean_L27
      simp only [zl0, zl1, zl2, zl3, zl4, zl5, zl6, zl7, zl8, zl9, zl10, zl11, zl12, zl13, zl14, zl16, zl18, zl19, zl20, zl22, zl24, zl30, zl32, zl33, zl36, zl38, zl40, zl41, zl48, zl50, zl51, zl57, zl59, zl60, zl61, zl62, zl70, zl71, zl99, zl100, zl103, zl104, zl105, zl106, zl107, zl108, zl109, zl110, zl111, zl112, zl113, zl114, zl115, zl116, zl124, zl127, zl255, zl999, zl1000, zl1001, zl1002, zl1003]
      rw [H.2.2.2.2.2.1, if_neg (nI_ge (by omega) (by omega)), zbnd_c k1, znm_e, ze_add, ze_add]
      exact x1 R hR
    · unfold qM_mean_L25
      simp only [zl0, zl1, zl2, zl3, zl4, zl5, zl6, zl7, zl8, zl9, zl10, zl11, zl12, zl13, zl14, zl16, zl18, zl19, zl20, zl22, zl24, zl30, zl32, zl33, zl36, zl38, zl40, zl41, zl48, zl50, zl51, zl57, zl59, zl60, zl61, zl62, zl70, zl71, zl99, zl100, zl103, zl104, zl105, zl106, zl107, zl108, zl109, zl110, zl111, zl112, zl113, zl114, zl115, zl116, zl124, zl127, zl255, zl999, zl1000, zl1001, zl1002, zl1003]
      rw [hM.2 _ _ _ (by decide) (by decide) (by decide), H.2.2.2.2.2.2.2.1, if_neg (nI_ge (by omega) (by omega)), zbnd_c k2, znm_e, ze_add, ze_add]
      exact x2 R hR
theorem st_mean (c m : zM) (a0 : Int32) (h : Rl c m) : ∃ (r : Int64) (c1 m1 : zM), qG_mean c a0 = some (r, c1) ∧ qM_mean m a0 = some (r, m1) ∧ Rl c1 m1 := by
  obtain ⟨n, rd, bk, ec, tl, ev, h1, h2, h3, h4, h5, h6, h7, h8, h9, h10, h11, h12, h13⟩ := h; obtain ⟨b1, b2, b3, b4, b5, b6⟩ := h1; have h1 : Rb1 n rd bk ec tl ev := ⟨b1, b2, b3, b4, b5, b6⟩; obtain ⟨c1, c2, c3, c4, c5, c6⟩ := h2; have h2 : Rb2 c n rd bk ec tl ev := ⟨c1, c2, c3, c4, c5, c6⟩; obtain ⟨m1, m2, m3, m4, m5, m6, m7⟩ := h3; have h3 : Rb3 m n rd bk ec tl ev := ⟨m1, m2, m3, m4, m5, m6, m7⟩
  have hB : RB c m n rd bk ec tl ev := ⟨h1, h2, h3, h4, h5, h6, h7, h8, h9, h10, h11, h12, h13⟩
  obtain ⟨hh, e, cs, H⟩ := PH_0 hB
  have hn6 := H.2.1
  unfold qG_mean qM_mean
  simp only [zl0, zl1, zl2, zl3, zl4, zl5, zl6, zl7, zl8, zl9, zl10, zl11, zl12, zl13, zl14, zl16, zl18, zl19, zl20, zl22, zl24, zl30, zl32, zl33, zl36, zl38, zl40, zl41, zl48, zl50, zl51, zl57, zl59, zl60, zl61, zl62, zl70, zl71, zl99, zl100, zl103, zl104, zl105, zl106, zl107, zl108, zl109, zl110, zl111, zl112, zl113, zl114, zl115, zl116, zl124, zl127, zl255, zl999, zl1000, zl1001, zl1002, zl1003]
  rcases zcase a0 (n := 2) (by omega) with g | ⟨w, hw, rfl⟩
  · rw [zno_i3 g (k := 1) rfl (by decide), zb_n (qM_in_no m (h := 1) rfl (by decide) g), ite_self]
    exact ⟨_, c, m, rfl, rfl, n, rd, bk, ec, tl, ev, h1, h2, h3, h4, h5, h6, h7, h8, h9, h10, h11, h12, h13⟩
  rw [zb_y (qM_in_ok m (show w ≤ 1 by omega) (by decide)), c1, m1]
  by_cases e0 : n = 0
  · rw [if_pos (by rw [e0]), if_pos (by rw [e0])]
    exact ⟨_, c, m, rfl, rfl, n, rd, bk, ec, tl, ev, h1, h2, h3, h4, h5, h6, h7, h8, h9, h10, h11, h12, h13⟩
  rw [if_neg (znI_ne (by omega) (by omega) e0), if_neg (znI_ne (by omega) (by omega) e0), if_neg (nI_nlt (by omega) (by omega)), if_pos (nI_le (by omega) (by omega))]
  obtain ⟨C', M', s', x0, x1, x2, x3, x4⟩ := mean_loop (c1 := nI w) (c1' := nI w) (E := fun (M5 : zM) (x6 : Int32) => zbnd (qG_partOfFraction M5 x6 (M5.1 1 0 1) (nI w)) fun x8 M7 => some (x8, M7)) (E' := fun (M8 : zM) (x9 : Int32) => zbnd (qM_lowest M8 x9 (M8.1 40 0 0) (nI w)) fun x11 M10 => some (x11, M10)) hn6 m7 n 0 1000 0 c m (by omega) (by omega) H (FR3_refl m) (by omega)
  obtain ⟨x, p1, p2⟩ := part_e C' M' (show s' < 37 by omega) (show n < 7 by omega) (by omega) hw
  refine ⟨x, C', M', x1 _ ?_, x2 _ ?_, n, rd, bk, ec, tl, ev, RB_T hB (FRT_c x3) (FRX_3 x4)⟩
  · rw [x3.2 _ _ _ (by omega), c1, zbnd_c p1]
  · rw [x4.2 _ _ _ (by decide) (by decide) (by decide), m1, zbnd_c p2]
theorem PH_T {c m C M : zM} {n rd h e : Nat} {cs : List Cl} (H : PH c m 0 n rd h e cs) (hC : FRT c C) (hM : FRX m M) : PH C M 0 n rd h e cs := by
  have K := hC.2.2
  have L := hM.2
  have hn6 := H.2.1
  exact PH_mk H (by decide) H.2.2.1 (fun i hi => by rw [hC.2.1 i]; exact H.2.2.2.1 i hi) (Rppl_cg (fun k p j hp hk => K _ _ _ (by omega) (by omega) (by omega)) (fun t j ht => L _ _ (by omega) (by omega)) H.2.2.2.2.1) (by rw [K _ _ _ (by omega) (by omega) (by omega)]; exact H.2.2.2.2.2.1) (by rw [K _ _ _ (by omega) (by omega) (by omega)]; exact H.2.2.2.2.2.2.1) (by rw [L _ _ (by omega) (by omega)]; exact H.2.2.2.2.2.2.2.1) (by rw [L _ _ (by omega) (by omega)]; exact H.2.2.2.2.2.2.2.2.1) (fun a i j ha => K _ _ _ (by omega) (by omega) (by omega)) (K _ _ _ (by omega) (by omega) (by omega)) (fun a j ha => L _ _ (by omega) (by omega))
theorem odds_loop {c m : zM} {n rd h e t : Nat} {cs : List Cl} {w : Int32} {E E' : zM → Int32 → Option (Int64 × zM)} (H0 : PH c m 0 n rd h e cs) (ht : t < n) (hpl : m.1 40 0 30 = -nI 1) : ∀ (d v F s : Nat) (C M : zM), v + d = 3 → d < F → FRT c C → FRV (fun _ _ => False) m M → s ≤ v →
    ∃ C' M' s', s' ≤ 3 ∧ (∀ R, E C' (nI s') = R → qG_odds_L29 (nI t) w E F C (nI s) (nI v) = R) ∧ (∀ R, E' M' (nI s') = R → qM_odds_L27 (nI t) w E' F M (nI s) (nI v) = R) ∧ FRT c C' ∧ FRV (fun _ _ => False) m M'
  | 0, v, F + 1, s, C, M, hd, hF, hC, hM, hs => by
    refine ⟨C, M, s, by omega, fun R hR => ?_, fun R hR => ?_, hC, hM⟩
    · unfold qG_odds_L29
      simp only [zl0, zl1, zl2, zl3, zl4, zl5, zl6, zl7, zl8, zl9, zl10, zl11, zl12, zl13, zl14, zl16, zl18, zl19, zl20, zl22, zl24, zl30, zl32, zl33, zl36, zl38, zl40, zl41, zl48, zl50, zl51, zl57, zl59, zl60, zl61, zl62, zl70, zl71, zl99, zl100, zl103, zl104, zl105, zl106, zl107, zl108, zl109, zl110, zl111, zl112, zl113, zl114, zl115, zl116, zl124, zl127, zl255, zl999, zl1000, zl1001, zl1002, zl1003]
      rw [if_pos (nI_le (by omega) (by omega))]
      exact hR
    · unfold qM_odds_L27
      simp only [zl0, zl1, zl2, zl3, zl4, zl5, zl6, zl7, zl8, zl9, zl10, zl11, zl12, zl13, zl14, zl16, zl18, zl19, zl20, zl22, zl24, zl30, zl32, zl33, zl36, zl38, zl40, zl41, zl48, zl50, zl51, zl57, zl59, zl60, zl61, zl62, zl70, zl71, zl99, zl100, zl103, zl104, zl105, zl106, zl107, zl108, zl109, zl110, zl111, zl112, zl113, zl114, zl115, zl116, zl124, zl127, zl255, zl999, zl1000, zl1001, zl1002, zl1003]
      rw [if_pos (nI_le (by omega) (by omega))]
      exact hR
  | d + 1, v, F + 1, s, C, M, hd, hF, hC, hM, hs => by
    have hn6 := H0.2.1
    have HX : FRX m M := ⟨hM.1, fun a j q1 q2 => hM.2 a j (by omega) (by omega) (by omega) (by omega) (fun q => q)⟩
    have H := PH_T H0 hC HX
    obtain ⟨A, a1, a2, a3⟩ := trial_e H
    have H1 := PH_seem (v := 50) a2 ht (show v < 3 by omega) (by omega)
    have f1 : FRV (fun a j => a = 45 ∧ j = 3 * t + v) M (zset M 45 0 (3 * t + v) (nI 50)) := FRV_set _ _ (Or.inl ⟨rfl, rfl⟩)
    have hplM : M.1 40 0 30 = -nI 1 := by rw [hM.2 _ _ (by decide) (by decide) (by decide) (by omega) (fun q => q), hpl]
    obtain ⟨D, N, hs', tk, k1, k2, k3, k4, k5, k6, k7⟩ := var_e H1 ht (by rw [zg_n (by omega), hplM])
    have f2 := FRV_trans f1 (FRV_3 k5)
    have g1 : FRT c D := FRT_trans hC (FRT_trans a3 (FRT_trans (FRT_seat (by omega) (by omega) (by omega)) (FRT_c k4)))
    have f3 : FRV (fun _ _ => False) m (zset N 45 0 (3 * t + v) (M.1 45 0 (3 * t + v))) := by
      refine FRV_trans hM ⟨f2.1, fun a j q1 q2 q3 q4 q5 => ?_⟩
      by_cases q : a = 45 ∧ j = 3 * t + v
      · rw [zg_e (by omega), q.1, q.2]
      · rw [zg_n (by omega), f2.2 a j q1 q2 q3 q4 q]
    have e1 : D.1 1 0 1 = nI n := by rw [g1.2.2 _ _ _ (by omega) (by omega) (by omega)]; exact H0.2.2.2.2.2.1
    have e2 : N.1 40 0 0 = nI n := by rw [f2.2 _ _ (by decide) (by decide) (by decide) (by omega) (by omega), hM.2 _ _ (by decide) (by decide) (by decide) (by omega) (fun q => q)]; exact H0.2.2.2.2.2.2.2.1
    obtain ⟨C', M', s', x0, x1, x2, x3, x4⟩ := odds_loop (w := w) (E := E) (E' := E') H0 ht hpl d (v + 1) F (s + if tk ≤ n - 1 - tk then 0 else 1) D (zset N 45 0 (3 * t + v) (M.1 45 0 (3 * t + v))) (by omega) (by omega) g1 f3 (by split <;> omega)
    refine ⟨C', M', s', x0, fun R hR => ?_, fun R hR => ?_, x3, x4⟩
    · have y := x1 R hR
      unfold qG_odds_L29
      simp only [zl0, zl1, zl2, zl3, zl4, zl5, zl6, zl7, zl8, zl9, zl10, zl11, zl12, zl13, zl14, zl16, zl18, zl19, zl20, zl22, zl24, zl30, zl32, zl33, zl36, zl38, zl40, zl41, zl48, zl50, zl51, zl57, zl59, zl60, zl61, zl62, zl70, zl71, zl99, zl100, zl103, zl104, zl105, zl106, zl107, zl108, zl109, zl110, zl111, zl112, zl113, zl114, zl115, zl116, zl124, zl127, zl255, zl999, zl1000, zl1001, zl1002, zl1003]
      rw [if_neg (nI_ge (by omega) (by omega)), zbnd_c a1, zchk_e (ze_in (by omega) (by omega)), znm_e, zchk_e (ze_in (by omega) (by omega)), znm_e, ze_cl (show t < 2 ^ 31 by omega), ze_cl (show v < 2 ^ 31 by omega), zbnd_c k1, zjn_e, e1, ze_sub (by omega), ze_sub (by omega), ze_add]
      by_cases q : tk ≤ n - 1 - tk
      · rw [if_pos q] at y
        rw [if_pos (nI_le (by omega) (by omega))]
        exact y
      · rw [if_neg q] at y
        rw [if_neg (nI_ge (by omega) (by omega)), ze_add]
        exact y
    · have y := x2 R hR
      unfold qM_odds_L27
      simp only [zl0, zl1, zl2, zl3, zl4, zl5, zl6, zl7, zl8, zl9, zl10, zl11, zl12, zl13, zl14, zl16, zl18, zl19, zl20, zl22, zl24, zl30, zl32, zl33, zl36, zl38, zl40, zl41, zl48, zl50, zl51, zl57, zl59, zl60, zl61, zl62, zl70, zl71, zl99, zl100, zl103, zl104, zl105, zl106, zl107, zl108, zl109, zl110, zl111, zl112, zl113, zl114, zl115, zl116, zl124, zl127, zl255, zl999, zl1000, zl1001, zl1002, zl1003]
      rw [if_neg (nI_ge (by omega) (by omega)), ze_mul, ze_add, zchk_e (ze_in (by omega) (by omega)), znm_e, zchk_e (ze_in (by omega) (by omega)), znm_e, ze_cl (show 3 * t + v < 2 ^ 31 by omega), zbnd_c k2, zjn_e, e2, ze_sub (by omega), ze_mul]
      simp only [znm_e, zchk_e (ze_in (show 3 * t + v < 18 by omega) (by decide)), ze_add]
      by_cases q : tk ≤ n - 1 - tk
      · rw [if_pos q] at y
        rw [if_pos (nI_le (by omega) (by omega))]
        exact y
      · rw [if_neg q] at y
        rw [if_neg (nI_ge (by omega) (by omega))]
        exact y
theorem st_odds (c m : zM) (a0 a1 : Int32) (h : Rl c m) : ∃ (r : Int64) (c1 m1 : zM), qG_odds c a0 a1 = some (r, c1) ∧ qM_odds m a0 a1 = some (r, m1) ∧ Rl c1 m1 := by
  obtain ⟨n, rd, bk, ec, tl, ev, h1, h2, h3, h4, h5, h6, h7, h8, h9, h10, h11, h12, h13⟩ := h; obtain ⟨b1, b2, b3, b4, b5, b6⟩ := h1; have h1 : Rb1 n rd bk ec tl ev := ⟨b1, b2, b3, b4, b5, b6⟩; obtain ⟨c1, c2, c3, c4, c5, c6⟩ := h2; have h2 : Rb2 c n rd bk ec tl ev := ⟨c1, c2, c3, c4, c5, c6⟩; obtain ⟨m1, m2, m3, m4, m5, m6, m7⟩ := h3; have h3 : Rb3 m n rd bk ec tl ev := ⟨m1, m2, m3, m4, m5, m6, m7⟩
  have hB : RB c m n rd bk ec tl ev := ⟨h1, h2, h3, h4, h5, h6, h7, h8, h9, h10, h11, h12, h13⟩
  obtain ⟨hh, e, cs, H⟩ := PH_0 hB
  have hn6 := H.2.1
  unfold qG_odds qM_odds
  simp only [zl0, zl1, zl2, zl3, zl4, zl5, zl6, zl7, zl8, zl9, zl10, zl11, zl12, zl13, zl14, zl16, zl18, zl19, zl20, zl22, zl24, zl30, zl32, zl33, zl36, zl38, zl40, zl41, zl48, zl50, zl51, zl57, zl59, zl60, zl61, zl62, zl70, zl71, zl99, zl100, zl103, zl104, zl105, zl106, zl107, zl108, zl109, zl110, zl111, zl112, zl113, zl114, zl115, zl116, zl124, zl127, zl255, zl999, zl1000, zl1001, zl1002, zl1003]
  rcases zcase a0 (n := n) (by omega) with g | ⟨p, hp, rfl⟩
  · rw [zbnd_c (qP_has_no c1 g), zbnd_c (qM_isPerson_no m1 (by omega) g), if_pos rfl, if_pos rfl]
    exact ⟨_, c, m, rfl, rfl, n, rd, bk, ec, tl, ev, h1, h2, h3, h4, h5, h6, h7, h8, h9, h10, h11, h12, h13⟩
  rw [zbnd_c (qP_has_ok c1 hp (by omega)), zbnd_c (qM_isPerson_ok m1 hp (by omega)), if_neg (show ¬ nI 1 = nI 0 from znI_ne (by decide) (by decide) (by decide)), if_neg (show ¬ nI 1 = nI 0 from znI_ne (by decide) (by decide) (by decide))]
  rcases zcase a1 (n := 2) (by omega) with g | ⟨w, hw, rfl⟩
  · rw [zno_i3 g (k := 1) rfl (by decide), zbnd_c (qM_in_no m (h := 1) rfl (by decide) g), if_pos rfl]
    exact ⟨_, c, m, rfl, rfl, n, rd, bk, ec, tl, ev, h1, h2, h3, h4, h5, h6, h7, h8, h9, h10, h11, h12, h13⟩
  rw [if_neg (nI_nlt (by omega) (by omega)), if_pos (nI_le (by omega) (by omega)), zbnd_c (qM_in_ok m (show w ≤ 1 by omega) (by decide)), if_neg (show ¬ nI 1 = nI 0 from znI_ne (by decide) (by decide) (by decide))]
  obtain ⟨C', M', s', x0, x1, x2, x3, x4⟩ := odds_loop (w := nI w) (E := fun (M14 : zM) (x15 : Int32) => zbnd (qG_partOfFraction M14 x15 (nI 3) (nI w)) fun x17 M16 => some (x17, M16)) (E' := fun (M17 : zM) (x18 : Int32) => zbnd (qM_lowest M17 x18 (nI 3) (nI w)) fun x20 M19 => some (x20, M19)) H hp m7 3 0 1000 0 c m (by omega) (by omega) (FRT_refl c) (FRV_refl _ m) (by omega)
  obtain ⟨x, p1, p2⟩ := part_e C' M' (show s' < 37 by omega) (show 3 < 7 by omega) (by omega) hw
  refine ⟨x, C', M', x1 _ ?_, x2 _ ?_, n, rd, bk, ec, tl, ev, RB_T hB x3 ⟨x4.1, fun a j q1 q2 => x4.2 a j (by omega) (by omega) (by omega) q2 (fun q => q)⟩⟩
  · rw [zbnd_c p1]
  · rw [zbnd_c p2]
