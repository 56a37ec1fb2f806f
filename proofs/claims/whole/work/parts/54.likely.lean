/-! PURE PART: LIKELY and LIES. -/
theorem likely_loop {m : zM} {n rd h e t l : Nat} {cs : List Cl} {a1 was : Int32} {E : zM → Int32 → Int32 → Option (Int32 × zM)} {E' : zM → Option (Int32 × zM)} (hn6 : n ≤ 6) (ht : t < n) (hpl : m.1 40 0 30 = -nI 1) (hl : l < 3) (hlm : m.1 44 0 t = nI l) : ∀ (d v F : Nat) (C M : zM) (v3 v4 : Int32), v + 9 * d = 108 → d < F → PH C M 2 n rd h e cs → FRV (fun a j => a = 45 ∧ j = 3 * t + l) m M → M.1 40 0 32 = v3 → (v3 = -nI 1 ∨ M.1 40 0 31 = v4) → (d = 0 → v3 ≠ -nI 1) →
    ∃ C' M' w3 w4, (∀ R, E C' w3 w4 = R → qG_likely_L52 (nI t) a1 (12 + t) E F C v3 v4 (nI v) = R) ∧ (∀ R, E' M' = R → qM_likely_L47 (nI t) a1 (nI (3 * t + l)) was E' F M (nI v) = R) ∧ FRT C C' ∧ FRV (fun a j => a = 45 ∧ j = 3 * t + l) m M' ∧ M'.1 40 0 32 = w3 ∧ M'.1 40 0 31 = w4
  | 0, v, F + 1, C, M, v3, v4, hd, hF, H, hM, h3, h4, h5 => by
    refine ⟨C, M, v3, v4, fun R hR => ?_, fun R hR => ?_, FRT_refl _, hM, h3, ?_⟩
    · unfold qG_likely_L52
      simp only [zl0, zl1, zl2, zl3, zl4, zl5, zl6, zl7, zl8, zl9, zl10, zl11, zl12, zl13, zl14, zl16, zl18, zl19, zl20, zl22, zl24, zl30, zl32, zl33, zl36, zl38, zl40, zl41, zl48, zl50, zl51, zl57, zl59, zl60, zl61, zl62, zl70, zl71, zl99, zl100, zl103, zl104, zl105, zl106, zl107, zl108, zl109, zl110, zl111, zl112, zl113, zl114, zl115, zl116, zl124, zl127, zl255, zl999, zl1000, zl1001, zl1002, zl1003]
      rw [if_pos (nI_lt (by omega) (by omega))]
      exact hR
    · unfold qM_likely_L47
      simp only [zl0, zl1, zl2, zl3, zl4, zl5, zl6, zl7, zl8, zl9, zl10, zl11, zl12, zl13, zl14, zl16, zl18, zl19, zl20, zl22, zl24, zl30, zl32, zl33, zl36, zl38, zl40, zl41, zl48, zl50, zl51, zl57, zl59, zl60, zl61, zl62, zl70, zl71, zl99, zl100, zl103, zl104, zl105, zl106, zl107, zl108, zl109, zl110, zl111, zl112, zl113, zl114, zl115, zl116, zl124, zl127, zl255, zl999, zl1000, zl1001, zl1002, zl1003]
      rw [if_pos (nI_le (by omega) (by omega))]
      exact hR
    · exact h4.resolve_left (h5 rfl)
  | d + 1, v, F + 1, C, M, v3, v4, hd, hF, H, hM, h3, h4, h5 => by
    have H1 := PH_seem (v := v) H ht hl (by omega)
    have e4 : C.1 2 (12 + t) 4 = nI l := by
      have := (PH_pp H ht).2.2.2.1
      rw [hM.2 _ _ (by decide) (by decide) (by decide) (by omega) (by omega), hlm] at this
      exact this
    have f1 : FRV (fun a j => a = 45 ∧ j = 3 * t + l) m (zset M 45 0 (3 * t + l) (nI v)) := FRV_trans hM (FRV_set _ _ (Or.inl ⟨rfl, rfl⟩))
    obtain ⟨D, N, hs, tk, k1, k2, k3, k4, k5, k6, k7⟩ := var_e H1 ht (by rw [f1.2 _ _ (by decide) (by decide) (by decide) (by omega) (by omega), hpl])
    have f2 := FRV_trans f1 (FRV_3 k5)
    have g1 : FRT C D := FRT_trans (FRT_seat (by omega) (by omega) (by omega)) (FRT_c k4)
    have e32 : N.1 40 0 32 = v3 := by rw [k5.2 _ _ _ (by decide) (by decide) (by decide), zg_n (by omega), h3]
    have e31 : N.1 40 0 31 = M.1 40 0 31 := by rw [k5.2 _ _ _ (by decide) (by decide) (by decide), zg_n (by omega)]
    by_cases hc : v3 < nI tk
    · have f3 : FRV (fun a j => a = 45 ∧ j = 3 * t + l) m (zset (zset N 40 0 32 (nI tk)) 40 0 31 (nI v)) := FRV_trans f2 (FRV_trans (FRV_set _ _ (Or.inr (by omega))) (FRV_set _ _ (Or.inr (by omega))))
      obtain ⟨C', M', w3, w4, x1, x2, x3, x4, x5, x6⟩ := likely_loop (a1 := a1) (was := was) (E := E) (E' := E') hn6 ht hpl hl hlm d (v + 9) F D (zset (zset N 40 0 32 (nI tk)) 40 0 31 (nI v)) (nI tk) (nI v) (by omega) (by omega) (PH_40 k3 (by omega) (by omega)) f3 (by rw [zg_n (by omega), zg_e (by omega)]) (Or.inr (zg_e (by omega))) (fun _ => of_eq_false (ze_neq (by omega) (by omega) (by omega)))
      refine ⟨C', M', w3, w4, fun R hR => ?_, fun R hR => ?_, FRT_trans g1 x3, x4, x5, x6⟩
      · unfold qG_likely_L52
        simp only [zl0, zl1, zl2, zl3, zl4, zl5, zl6, zl7, zl8, zl9, zl10, zl11, zl12, zl13, zl14, zl16, zl18, zl19, zl20, zl22, zl24, zl30, zl32, zl33, zl36, zl38, zl40, zl41, zl48, zl50, zl51, zl57, zl59, zl60, zl61, zl62, zl70, zl71, zl99, zl100, zl103, zl104, zl105, zl106, zl107, zl108, zl109, zl110, zl111, zl112, zl113, zl114, zl115, zl116, zl124, zl127, zl255, zl999, zl1000, zl1001, zl1002, zl1003]
        rw [if_neg (nI_nlt (by omega) (by omega)), e4, zchk_e (ze_in (by omega) (by omega)), znm_e, ze_cl (show l < 2 ^ 31 by omega), zbnd_c k1, zjn_e, if_neg (Int32.not_le.mpr hc), ze_add]
        exact x1 R hR
      · unfold qM_likely_L47
        simp only [zl0, zl1, zl2, zl3, zl4, zl5, zl6, zl7, zl8, zl9, zl10, zl11, zl12, zl13, zl14, zl16, zl18, zl19, zl20, zl22, zl24, zl30, zl32, zl33, zl36, zl38, zl40, zl41, zl48, zl50, zl51, zl57, zl59, zl60, zl61, zl62, zl70, zl71, zl99, zl100, zl103, zl104, zl105, zl106, zl107, zl108, zl109, zl110, zl111, zl112, zl113, zl114, zl115, zl116, zl124, zl127, zl255, zl999, zl1000, zl1001, zl1002, zl1003]
        rw [if_neg (nI_ge (by omega) (by omega)), zchk_e (ze_in (by omega) (by omega)), znm_e, ze_cl (show 3 * t + l < 2 ^ 31 by omega), zbnd_c k2, zjn_e, e32, if_pos hc, znm_e, znm_e, ze_add]
        exact x2 R hR
    · have hne : v3 ≠ -nI 1 := fun q => hc (by rw [q]; exact of_eq_true (ze_nlt (by omega) (by omega) (by omega)))
      obtain ⟨C', M', w3, w4, x1, x2, x3, x4, x5, x6⟩ := likely_loop (a1 := a1) (was := was) (E := E) (E' := E') hn6 ht hpl hl hlm d (v + 9) F D N v3 v4 (by omega) (by omega) k3 f2 e32 (Or.inr (by rw [e31]; exact h4.resolve_left hne)) (fun _ => hne)
      refine ⟨C', M', w3, w4, fun R hR => ?_, fun R hR => ?_, FRT_trans g1 x3, x4, x5, x6⟩
      · unfold qG_likely_L52
        simp only [zl0, zl1, zl2, zl3, zl4, zl5, zl6, zl7, zl8, zl9, zl10, zl11, zl12, zl13, zl14, zl16, zl18, zl19, zl20, zl22, zl24, zl30, zl32, zl33, zl36, zl38, zl40, zl41, zl48, zl50, zl51, zl57, zl59, zl60, zl61, zl62, zl70, zl71, zl99, zl100, zl103, zl104, zl105, zl106, zl107, zl108, zl109, zl110, zl111, zl112, zl113, zl114, zl115, zl116, zl124, zl127, zl255, zl999, zl1000, zl1001, zl1002, zl1003]
        rw [if_neg (nI_nlt (by omega) (by omega)), e4, zchk_e (ze_in (by omega) (by omega)), znm_e, ze_cl (show l < 2 ^ 31 by omega), zbnd_c k1, zjn_e, if_pos (Int32.not_lt.mp hc), ze_add]
        exact x1 R hR
      · unfold qM_likely_L47
        simp only [zl0, zl1, zl2, zl3, zl4, zl5, zl6, zl7, zl8, zl9, zl10, zl11, zl12, zl13, zl14, zl16, zl18, zl19, zl20, zl22, zl24, zl30, zl32, zl33, zl36, zl38, zl40, zl41, zl48, zl50, zl51, zl57, zl59, zl60, zl61, zl62, zl70, zl71, zl99, zl100, zl103, zl104, zl105, zl106, zl107, zl108, zl109, zl110, zl111, zl112, zl113, zl114, zl115, zl116, zl124, zl127, zl255, zl999, zl1000, zl1001, zl1002, zl1003]
        rw [if_neg (nI_ge (by omega) (by omega)), zchk_e (ze_in (by omega) (by omega)), znm_e, ze_cl (show 3 * t + l < 2 ^ 31 by omega), zbnd_c k2, zjn_e, e32, if_neg hc, ze_add]
        exact x2 R hR
theorem PH_m32 {C m : zM} {n rd h e q : Nat} {cs : List Cl} {v : Int32} (H : PH C m q n rd h e cs) : PH C (zset m 40 0 32 v) q n rd h e cs := by
  have F : ∀ a j, ¬ (a = 40 ∧ (j = 31 ∨ j = 32)) → (zset m 40 0 32 v).1 a 0 j = m.1 a 0 j := fun a j q => by rw [zg_n (by omega)]
  exact PH_mk H H.1 H.2.2.1 H.2.2.2.1 (Rppl_cg (fun _ _ _ _ _ => rfl) (fun t j ht => F _ _ (by omega)) H.2.2.2.2.1) H.2.2.2.2.2.1 H.2.2.2.2.2.2.1 (by rw [F _ _ (by omega)]; exact H.2.2.2.2.2.2.2.1) (by rw [F _ _ (by omega)]; exact H.2.2.2.2.2.2.2.2.1) (fun _ _ _ _ => rfl) rfl (fun a j ha => F _ _ (by omega))
theorem st_likely (c m : zM) (a0 a1 : Int32) (h : Rl c m) : ∃ (r : Int32) (c1 m1 : zM), qG_likely c a0 a1 = some (r, c1) ∧ qM_likely m a0 a1 = some (r, m1) ∧ Rl c1 m1 := by
  obtain ⟨n, rd, bk, ec, tl, ev, h1, h2, h3, h4, h5, h6, h7, h8, h9, h10, h11, h12, h13⟩ := h; obtain ⟨b1, b2, b3, b4, b5, b6⟩ := h1; have h1 : Rb1 n rd bk ec tl ev := ⟨b1, b2, b3, b4, b5, b6⟩; obtain ⟨c1, c2, c3, c4, c5, c6⟩ := h2; have h2 : Rb2 c n rd bk ec tl ev := ⟨c1, c2, c3, c4, c5, c6⟩; obtain ⟨m1, m2, m3, m4, m5, m6, m7⟩ := h3; have h3 : Rb3 m n rd bk ec tl ev := ⟨m1, m2, m3, m4, m5, m6, m7⟩
  have hB : RB c m n rd bk ec tl ev := ⟨h1, h2, h3, h4, h5, h6, h7, h8, h9, h10, h11, h12, h13⟩
  obtain ⟨hh, e, cs, H⟩ := PH_0 hB
  unfold qG_likely qM_likely
  simp only [zl0, zl1, zl2, zl3, zl4, zl5, zl6, zl7, zl8, zl9, zl10, zl11, zl12, zl13, zl14, zl16, zl18, zl19, zl20, zl22, zl24, zl30, zl32, zl33, zl36, zl38, zl40, zl41, zl48, zl50, zl51, zl57, zl59, zl60, zl61, zl62, zl70, zl71, zl99, zl100, zl103, zl104, zl105, zl106, zl107, zl108, zl109, zl110, zl111, zl112, zl113, zl114, zl115, zl116, zl124, zl127, zl255, zl999, zl1000, zl1001, zl1002, zl1003]
  rcases zcase a0 (n := n) (by omega) with g | ⟨p, hp, rfl⟩
  · rw [zb_n (qP_has_no c1 g), zb_n (qM_isPerson_no m1 (by omega) g)]
    exact ⟨_, c, m, rfl, rfl, n, rd, bk, ec, tl, ev, h1, h2, h3, h4, h5, h6, h7, h8, h9, h10, h11, h12, h13⟩
  rw [zb_y (qP_has_ok c1 hp (by omega)), zb_y (qM_isPerson_ok m1 hp (by omega))]
  rcases zcase a1 (n := 2) (by omega) with g | ⟨w, hw, rfl⟩
  · rw [zno_i3 g (k := 1) rfl (by decide), zb_n (qM_in_no m (h := 1) rfl (by decide) g)]
    exact ⟨_, c, m, rfl, rfl, n, rd, bk, ec, tl, ev, h1, h2, h3, h4, h5, h6, h7, h8, h9, h10, h11, h12, h13⟩
  rw [if_neg (nI_nlt (by omega) (by omega)), if_pos (nI_le (by omega) (by omega)), zb_y (qM_in_ok m (show w ≤ 1 by omega) (by decide))]
  obtain ⟨C, k1, k2, k3⟩ := trial_e H
  have hn6 := H.2.1
  obtain ⟨l, l1, l2⟩ : ∃ l, l < 3 ∧ m.1 44 0 p = nI l := (PH_pp H hp).2.2.2.2.2.2.2.2.2.2.1
  obtain ⟨C', M', w3, w4, x1, x2, x3, x4, x5, x6⟩ := likely_loop (m := m) (a1 := nI w) (was := m.1 45 0 (3 * p + l)) (E := fun (M15 : zM) (x16 : Int32) (x17 : Int32) => if nI w = nI 0 then (some (x17, M15)) else (some (x16, M15))) (E' := fun (M18 : zM)  => zchk (zin (nI (3 * p + l)) 18) (znm (zset M18 45 0 (3 * p + l) (m.1 45 0 (3 * p + l))) fun M19 => if nI w = nI 0 then (some ((M19.1 40 0 31), M19)) else (some ((M19.1 40 0 32), M19)))) hn6 hp m7 l1 l2 12 0 1000 C (zset m 40 0 32 (-nI 1)) (-nI 1) (nI 0) (by omega) (by omega) (PH_m32 k2) (FRV_set _ _ (Or.inr (by omega))) (zg_e (by omega)) (Or.inl rfl) (by omega)
  have fin : RB C' (zset M' 45 0 (3 * p + l) (m.1 45 0 (3 * p + l))) n rd bk ec tl ev := by
    refine RB_T hB (FRT_trans k3 x3) ⟨x4.1, fun a j r1 r2 => ?_⟩
    by_cases q : a = 45 ∧ j = 3 * p + l
    · rw [zg_e (by omega), q.1, q.2]
    · rw [zg_n (by omega), x4.2 _ _ (by omega) (by omega) (by omega) (by omega) (by omega)]
  refine ⟨if w = 0 then w4 else w3, C', zset M' 45 0 (3 * p + l) (m.1 45 0 (3 * p + l)), ?_, ?_, n, rd, bk, ec, tl, ev, fin⟩
  · rw [zbnd_c k1, zchk_e (ze_in (by omega) (by omega)), znm_e, ze_cl (show p < 2 ^ 31 by omega)]
    refine x1 _ ?_
    by_cases q : w = 0
    · rw [if_pos q, if_pos (by rw [q])]
    · rw [if_neg q, if_neg (znI_ne (by omega) (by omega) q)]
  · rw [zchk_e (ze_in (by omega) (by omega)), ze_cl (show p < 2 ^ 31 by omega), l2, ze_mul, ze_add, znm_e, zchk_e (ze_in (by omega) (by omega)), ze_cl (show 3 * p + l < 2 ^ 31 by omega), znm_e, znm_e]
    refine x2 _ ?_
    rw [zchk_e (ze_in (by omega) (by omega)), znm_e, zg_n (by omega), zg_n (by omega), x5, x6]
    by_cases q : w = 0
    · rw [if_pos q, if_pos (by rw [q])]
    · rw [if_neg q, if_neg (znI_ne (by omega) (by omega) q)]
/-! LIES -/
theorem zor0 (a : Int32) : a ||| nI 0 = a := by rw [nI_0]; exact Int32.or_zero
theorem lies_loop {m : zM} {n rd h e t : Nat} {cs : List Cl} {was : Int32} {E' : zM → Int32 → Option (Int32 × zM)} (hn6 : n ≤ 6) (ht : t < n) (hpl : m.1 40 0 30 = -nI 1) : ∀ (d v F : Nat) (C M : zM) (x : Int32), v + d = 3 → d < F → PH C M 2 n rd h e cs → FRV (fun a j => a = 44 ∧ j = t) m M → (∀ p, p < 3 → C.1 8 0 p = m.1 64 0 p) →
    ∃ C' M' y, (qG_lies_L28 (nI t) F C x (nI v) = some (y, C')) ∧ (∀ R, E' M' y = R → qM_lies_L22 (nI t) was E' F M x (nI v) = R) ∧ FRT C C' ∧ FRV (fun a j => a = 44 ∧ j = t) m M'
  | 0, v, F + 1, C, M, x, hd, hF, H, hM, h8 => by
    refine ⟨C, M, x, ?_, fun R hR => ?_, FRT_refl _, hM⟩
    · unfold qG_lies_L28
      simp only [zl0, zl1, zl2, zl3, zl4, zl5, zl6, zl7, zl8, zl9, zl10, zl11, zl12, zl13, zl14, zl16, zl18, zl19, zl20, zl22, zl24, zl30, zl32, zl33, zl36, zl38, zl40, zl41, zl48, zl50, zl51, zl57, zl59, zl60, zl61, zl62, zl70, zl71, zl99, zl100, zl103, zl104, zl105, zl106, zl107, zl108, zl109, zl110, zl111, zl112, zl113, zl114, zl115, zl116, zl124, zl127, zl255, zl999, zl1000, zl1001, zl1002, zl1003]
      rw [if_pos (nI_le (by omega) (by omega))]
    · unfold qM_lies_L22
      simp only [zl0, zl1, zl2, zl3, zl4, zl5, zl6, zl7, zl8, zl9, zl10, zl11, zl12, zl13, zl14, zl16, zl18, zl19, zl20, zl22, zl24, zl30, zl32, zl33, zl36, zl38, zl40, zl41, zl48, zl50, zl51, zl57, zl59, zl60, zl61, zl62, zl70, zl71, zl99, zl100, zl103, zl104, zl105, zl106, zl107, zl108, zl109, zl110, zl111, zl112, zl113, zl114, zl115, zl116, zl124, zl127, zl255, zl999, zl1000, zl1001, zl1002, zl1003]
      rw [if_pos (nI_le (by omega) (by omega))]
      exact hR
  | d + 1, v, F + 1, C, M, x, hd, hF, H, hM, h8 => by
    have H1 := PH_lie (v := v) H ht (by omega)
    have f1 : FRV (fun a j => a = 44 ∧ j = t) m (zset M 44 0 t (nI v)) := FRV_trans hM (FRV_set _ _ (Or.inl ⟨rfl, rfl⟩))
    obtain ⟨D, N, hs, tk, k1, k2, k3, k4, k5, k6, k7⟩ := var_e H1 ht (by rw [f1.2 _ _ (by decide) (by decide) (by decide) (by omega) (by omega), hpl])
    have f2 := FRV_trans f1 (FRV_3 k5)
    have g1 : FRT C D := FRT_trans (FRT_seat (by omega) (by omega) (by omega)) (FRT_c k4)
    have s8 : ∀ p, p < 3 → D.1 8 0 p = m.1 64 0 p := fun p hp => by rw [g1.2.2 _ _ _ (by omega) (by omega) (by omega), h8 p hp]
    have s64 : ∀ p, N.1 64 0 p = m.1 64 0 p := fun p => by rw [f2.2 _ _ (by decide) (by decide) (by decide) (by omega) (by omega)]
    -- whether the hands are as seen
    obtain ⟨b, hbC, hbM⟩ : ∃ b : Bool, qY_isRaised D = some (nI (bv b), D) ∧ ∀ (A B : Option (Int32 × zM)), zchk (zin (nI 0) 3) (zchk (zin (nI 0) 3) (if N.1 59 0 0 = N.1 64 0 0 then zchk (zin (nI 1) 3) (zchk (zin (nI 1) 3) (if N.1 59 0 1 = N.1 64 0 1 then zchk (zin (nI 2) 3) (zchk (zin (nI 2) 3) (if N.1 59 0 2 = N.1 64 0 2 then A else B)) else B)) else B)) = if b then A else B := by
      unfold qY_isRaised
      simp only [zl0, zl1, zl2, zl3, zl4, zl5, zl6, zl7, zl8, zl9, zl10, zl11, zl12, zl13, zl14, zl16, zl18, zl19, zl20, zl22, zl24, zl30, zl32, zl33, zl36, zl38, zl40, zl41, zl48, zl50, zl51, zl57, zl59, zl60, zl61, zl62, zl70, zl71, zl99, zl100, zl103, zl104, zl105, zl106, zl107, zl108, zl109, zl110, zl111, zl112, zl113, zl114, zl115, zl116, zl124, zl127, zl255, zl999, zl1000, zl1001, zl1002, zl1003]
      simp only [zchk_e (ze_in (show 0 < 3 by decide) (by decide)), zchk_e (ze_in (show 1 < 3 by decide) (by decide)), zchk_e (ze_in (show 2 < 3 by decide) (by decide)), ze_cl (show 0 < 2 ^ 31 by decide), ze_cl (show 1 < 2 ^ 31 by decide), ze_cl (show 2 < 2 ^ 31 by decide), (k7 0 (by decide)).2.1, (k7 1 (by decide)).2.1, (k7 2 (by decide)).2.1, (k7 0 (by decide)).2.2, (k7 1 (by decide)).2.2, (k7 2 (by decide)).2.2, s8 0 (by decide), s8 1 (by decide), s8 2 (by decide), s64]
      by_cases e0 : nI (hs 0) = m.1 64 0 0
      · simp only [if_pos e0]
        by_cases e1 : nI (hs 1) = m.1 64 0 1
        · simp only [if_pos e1]
          by_cases e2 : nI (hs 2) = m.1 64 0 2
          · simp only [if_pos e2]
            exact ⟨true, rfl, fun A B => rfl⟩
          · simp only [if_neg e2]
            exact ⟨false, rfl, fun A B => rfl⟩
        · simp only [if_neg e1]
          exact ⟨false, rfl, fun A B => rfl⟩
      · simp only [if_neg e0]
        exact ⟨false, rfl, fun A B => rfl⟩
    obtain ⟨C', M', y, x1, x2, x3, x4⟩ := lies_loop (was := was) (E' := E') hn6 ht hpl d (v + 1) F D N (x ||| (if b then nI 1 <<< (nI v &&& 31) else nI 0)) (by omega) (by omega) k3 f2 s8
    refine ⟨C', M', y, ?_, fun R hR => ?_, FRT_trans g1 x3, x4⟩
    · unfold qG_lies_L28
      simp only [zl0, zl1, zl3]
      rw [if_neg (nI_ge (by omega) (by omega)), zchk_e (ze_in (by omega) (by omega)), znm_e, znm_e, ze_cl (show t < 2 ^ 31 by omega), zbnd_c k1, zbnd_c hbC, zjn_e]
      cases b
      · rw [if_pos (show nI (bv false) = nI 0 from rfl), ze_add]
        rw [if_neg (by decide), zor0] at x1
        exact x1
      · rw [if_neg (show ¬ nI (bv true) = nI 0 from znI_ne (by decide) (by decide) (by decide)), znm_e, ze_add]
        rw [if_pos rfl] at x1
        exact x1
    · have y2 := x2 R hR
      unfold qM_lies_L22
      simp only [zl0, zl1, zl2, zl3]
      rw [if_neg (nI_ge (by omega) (by omega)), zchk_e (ze_in (by omega) (by omega)), znm_e, ze_cl (show t < 2 ^ 31 by omega), zbnd_c k2]
      simp only [zjn_e, znm_e, ze_cl (show 0 < 2 ^ 31 by decide), ze_cl (show 1 < 2 ^ 31 by decide), ze_cl (show 2 < 2 ^ 31 by decide)]
      rw [hbM, ze_add]
      cases b
      · rw [if_neg (by decide)] at y2 ⊢
        exact y2
      · rw [if_pos rfl] at y2 ⊢
        exact y2
theorem st_lies (c m : zM) (a0 : Int32) (h : Rl c m) : ∃ (r : Int32) (c1 m1 : zM), qG_lies c a0 = some (r, c1) ∧ qM_lies m a0 = some (r, m1) ∧ Rl c1 m1 := by
  obtain ⟨n, rd, bk, ec, tl, ev, h1, h2, h3, h4, h5, h6, h7, h8, h9, h10, h11, h12, h13⟩ := h; obtain ⟨b1, b2, b3, b4, b5, b6⟩ := h1; have h1 : Rb1 n rd bk ec tl ev := ⟨b1, b2, b3, b4, b5, b6⟩; obtain ⟨c1, c2, c3, c4, c5, c6⟩ := h2; have h2 : Rb2 c n rd bk ec tl ev := ⟨c1, c2, c3, c4, c5, c6⟩; obtain ⟨m1, m2, m3, m4, m5, m6, m7⟩ := h3; have h3 : Rb3 m n rd bk ec tl ev := ⟨m1, m2, m3, m4, m5, m6, m7⟩
  have hB : RB c m n rd bk ec tl ev := ⟨h1, h2, h3, h4, h5, h6, h7, h8, h9, h10, h11, h12, h13⟩
  obtain ⟨hh, e, cs, H⟩ := PH_0 hB
  unfold qG_lies qM_lies
  simp only [zl0, zl1, zl2, zl3, zl4, zl5, zl6, zl7, zl8, zl9, zl10, zl11, zl12, zl13, zl14, zl16, zl18, zl19, zl20, zl22, zl24, zl30, zl32, zl33, zl36, zl38, zl40, zl41, zl48, zl50, zl51, zl57, zl59, zl60, zl61, zl62, zl70, zl71, zl99, zl100, zl103, zl104, zl105, zl106, zl107, zl108, zl109, zl110, zl111, zl112, zl113, zl114, zl115, zl116, zl124, zl127, zl255, zl999, zl1000, zl1001, zl1002, zl1003]
  rcases zcase a0 (n := n) (by omega) with g | ⟨p, hp, rfl⟩
  · rw [zb_n (qP_has_no c1 g), zb_n (qM_isPerson_no m1 (by omega) g)]
    exact ⟨_, c, m, rfl, rfl, n, rd, bk, ec, tl, ev, h1, h2, h3, h4, h5, h6, h7, h8, h9, h10, h11, h12, h13⟩
  rw [zb_y (qP_has_ok c1 hp (by omega)), zb_y (qM_isPerson_ok m1 hp (by omega))]
  obtain ⟨C, k1, k2, k3⟩ := trial_e H
  have hn6 := H.2.1
  obtain ⟨C', M', y, x1, x2, x3, x4⟩ := lies_loop (m := m) (was := m.1 44 0 p) (E' := fun (M15 : zM) (x16 : Int32) => zchk (zin (nI p) 6) (znm (zset M15 44 0 p (m.1 44 0 p)) fun M17 => some (x16, M17))) hn6 hp m7 3 0 1000 C m (nI 0) (by omega) (by omega) k2 (FRV_refl _ _) (fun p hp => by rw [k3.2.2 _ _ _ (by omega) (by omega) (by omega), h7 p hp])
  have fin : RB C' (zset M' 44 0 p (m.1 44 0 p)) n rd bk ec tl ev := by
    refine RB_T hB (FRT_trans k3 x3) ⟨x4.1, fun a j r1 r2 => ?_⟩
    by_cases q : a = 44 ∧ j = p
    · rw [zg_e (by omega), q.1, q.2]
    · rw [zg_n (by omega), x4.2 _ _ (by omega) (by omega) (by omega) (by omega) (by omega)]
  refine ⟨y, C', zset M' 44 0 p (m.1 44 0 p), ?_, ?_, n, rd, bk, ec, tl, ev, fin⟩
  · rw [zbnd_c k1]
    exact x1
  · rw [zchk_e (ze_in (by omega) (by omega)), znm_e, ze_cl (show p < 2 ^ 31 by omega)]
    refine x2 _ ?_
    rw [zchk_e (ze_in (by omega) (by omega)), znm_e]
