theorem sh_loop1 (t i o j n : Nat) (e : zM → Option (Int32 × zM)) (ht : t < 6) (hi : i + n ≤ 60) : ∀ (d v : Nat) (M : zM) (f : Nat), v + d = n → d < f → ∃ M', qM_shift_L104 (nI t) (nI i) (nI o) (nI j) (nI n) e f M (nI v) = e M' ∧ M'.1 = M.1 ∧ ∀ k q x, M'.2 k q x = if k = 85 ∧ q = 0 ∧ v ≤ x ∧ x < n then M.2 84 0 (60 * t + i + x) else M.2 k q x
  | 0, v, M, f + 1, hv, hf => by
    refine ⟨M, ?_, rfl, fun k i j => ?_⟩
    · unfold qM_shift_L104
      rw [if_pos (nI_le (by omega) (by omega))]
    · rw [if_neg (by omega)]
  | d + 1, v, M, f + 1, hv, hf => by
    obtain ⟨M', g1, g2, g3⟩ := sh_loop1 t i o j n e ht hi d (v + 1) (zsetL M 85 0 v (M.2 84 0 (60 * t + i + v))) f (by omega) (by omega)
    refine ⟨M', ?_, ?_, fun k i' j' => ?_⟩
    · unfold qM_shift_L104
      simp (disch := omega) only [↓reduceIte, zbnd_s, zchk_t, znm_e, zjn_e, if_true, if_false, ite_true, ite_false, Nat.zero_add, Nat.add_zero, Nat.mul_zero, Nat.zero_mul, Nat.mul_one, Nat.one_mul, zl0, zl1, zl2, zl3, zl4, zl5, zl6, zl7, zl8, zl9, zl10, zl11, zl12, zl13, zl14, zl16, zl18, zl19, zl20, zl22, zl24, zl30, zl32, zl33, zl36, zl38, zl40, zl41, zl48, zl50, zl51, zl57, zl59, zl60, zl61, zl62, zl70, zl71, zl99, zl100, zl103, zl104, zl105, zl106, zl107, zl108, zl109, zl110, zl111, zl112, zl113, zl114, zl115, zl116, zl124, zl127, zl255, zl999, zl1000, zl1001, zl1002, zl1003, ze_in, ze_ltt, ze_ltf, ze_let, ze_lef, ze_eqt, ze_eqf, ze_cl, ze_add, ze_mul, ze_sub, ze_div, ze_rem, ze_nz, ze_ngt, ze_nle, ze_neq, ze_neq', ze_nlt, ze_nle', zg_e, zg_n, zg_2, zgL_e, zgL_n, zgL_1]
      exact g1
    · rw [g2]; rfl
    · rw [g3]
      by_cases e : k = 85 ∧ i' = 0 ∧ v + 1 ≤ j' ∧ j' < n
      · rw [if_pos e, if_pos (by omega), zgL_n (by omega)]
      · rw [if_neg e]
        by_cases e2 : k = 85 ∧ i' = 0 ∧ j' = v
        · rw [zgL_e (by omega), if_pos (by omega), e2.2.2]
        · rw [zgL_n (by omega), if_neg (by omega)]
theorem sh_loop2 (o j n : Nat) (ho : o < 6) (hj : j + n ≤ 60) : ∀ (d v : Nat) (M : zM) (f : Nat), v + d = n → d < f → ∃ M', qM_shift_L141 (nI o) (nI j) (nI n) f M (nI v) = some (nI n, M') ∧ M'.1 = M.1 ∧ ∀ k q x, M'.2 k q x = if k = 84 ∧ q = 0 ∧ 60 * o + j + v ≤ x ∧ x < 60 * o + j + n then M.2 85 0 (x - (60 * o + j)) else M.2 k q x
  | 0, v, M, f + 1, hv, hf => by
    refine ⟨M, ?_, rfl, fun k i j => ?_⟩
    · unfold qM_shift_L141
      rw [if_pos (nI_le (by omega) (by omega))]
    · rw [if_neg (by omega)]
  | d + 1, v, M, f + 1, hv, hf => by
    obtain ⟨M', g1, g2, g3⟩ := sh_loop2 o j n ho hj d (v + 1) (zsetL M 84 0 (60 * o + j + v) (M.2 85 0 v)) f (by omega) (by omega)
    refine ⟨M', ?_, ?_, fun k i' j' => ?_⟩
    · unfold qM_shift_L141
      simp (disch := omega) only [↓reduceIte, zbnd_s, zchk_t, znm_e, zjn_e, if_true, if_false, ite_true, ite_false, Nat.zero_add, Nat.add_zero, Nat.mul_zero, Nat.zero_mul, Nat.mul_one, Nat.one_mul, zl0, zl1, zl2, zl3, zl4, zl5, zl6, zl7, zl8, zl9, zl10, zl11, zl12, zl13, zl14, zl16, zl18, zl19, zl20, zl22, zl24, zl30, zl32, zl33, zl36, zl38, zl40, zl41, zl48, zl50, zl51, zl57, zl59, zl60, zl61, zl62, zl70, zl71, zl99, zl100, zl103, zl104, zl105, zl106, zl107, zl108, zl109, zl110, zl111, zl112, zl113, zl114, zl115, zl116, zl124, zl127, zl255, zl999, zl1000, zl1001, zl1002, zl1003, ze_in, ze_ltt, ze_ltf, ze_let, ze_lef, ze_eqt, ze_eqf, ze_cl, ze_add, ze_mul, ze_sub, ze_div, ze_rem, ze_nz, ze_ngt, ze_nle, ze_neq, ze_neq', ze_nlt, ze_nle', zg_e, zg_n, zg_2, zgL_e, zgL_n, zgL_1]
      exact g1
    · rw [g2]; rfl
    · rw [g3]
      by_cases e : k = 84 ∧ i' = 0 ∧ 60 * o + j + (v + 1) ≤ j' ∧ j' < 60 * o + j + n
      · rw [if_pos e, if_pos (by omega), zgL_n (by omega)]
      · rw [if_neg e]
        by_cases e2 : k = 84 ∧ i' = 0 ∧ j' = 60 * o + j + v
        · rw [zgL_e (by omega), if_pos (by omega), e2.2.2, show 60 * o + j + v - (60 * o + j) = v by omega]
        · rw [zgL_n (by omega), if_neg (by omega)]
/-- a part of a tape: all in, or not -/
theorem sh_in {a b : Int32} {N : Nat} (hN : N ≤ 60) : (b < nI 0 ∨ a < nI 0 ∨ nI N - b < a) ∨ ∃ i n, i + n ≤ N ∧ a = nI i ∧ b = nI n := by
  by_cases e1 : b < nI 0
  · exact Or.inl (Or.inl e1)
  by_cases e2 : a < nI 0
  · exact Or.inl (Or.inr (Or.inl e2))
  by_cases e3 : nI N - b < a
  · exact Or.inl (Or.inr (Or.inr e3))
  right
  rw [nI_0] at e1 e2
  obtain ⟨n, hn, rfl⟩ := nI_of e1
  obtain ⟨i, hi, rfl⟩ := nI_of e2
  refine ⟨i, n, ?_, rfl, rfl⟩
  rw [Int32.lt_iff_toInt_lt, Int32.toInt_sub, nI_toInt (by omega), nI_toInt hn, nI_toInt hi, Int.bmod_eq_of_le (by omega) (by omega)] at e3
  omega
theorem st_shift (c m : zM) (a0 a1 a2 a3 a4 : Int32) (h : Rl c m) : ∃ (r : Int32) (c1 m1 : zM), qG_shift c a0 a1 a2 a3 a4 = some (r, c1) ∧ qM_shift m a0 a1 a2 a3 a4 = some (r, m1) ∧ Rl c1 m1 := by
  obtain ⟨n, rd, bk, ec, tl, ev, h1, h2, h3, h4, h5, h6, h7, h8, h9, h10, h11, h12, h13⟩ := h; obtain ⟨b1, b2, b3, b4, b5, b6⟩ := h1; have h1 : Rb1 n rd bk ec tl ev := ⟨b1, b2, b3, b4, b5, b6⟩; obtain ⟨c1, c2, c3, c4, c5, c6⟩ := h2; have h2 : Rb2 c n rd bk ec tl ev := ⟨c1, c2, c3, c4, c5, c6⟩; obtain ⟨m1, m2, m3, m4, m5, m6, m7⟩ := h3; have h3 : Rb3 m n rd bk ec tl ev := ⟨m1, m2, m3, m4, m5, m6, m7⟩
  unfold qG_shift qM_shift
  simp only [zl0, zl1, zl2, zl3, zl4, zl5, zl6, zl7, zl8, zl9, zl10, zl11, zl12, zl13, zl14, zl16, zl18, zl19, zl20, zl22, zl24, zl30, zl32, zl33, zl36, zl38, zl40, zl41, zl48, zl50, zl51, zl57, zl59, zl60, zl61, zl62, zl70, zl71, zl99, zl100, zl103, zl104, zl105, zl106, zl107, zl108, zl109, zl110, zl111, zl112, zl113, zl114, zl115, zl116, zl124, zl127, zl255, zl999, zl1000, zl1001, zl1002, zl1003]
  rcases zcase a0 (n := 6) (by omega) with g | ⟨t, ht, rfl⟩
  · rw [zb_n (qK_has_no _ g), zb_n (qM_isTape_no _ g)]
    exact ⟨_, c, m, rfl, rfl, n, rd, bk, ec, tl, ev, h1, h2, h3, h4, h5, h6, h7, h8, h9, h10, h11, h12, h13⟩
  rw [zb_y (qK_has_ok _ ht), zb_y (qM_isTape_ok _ ht)]
  rcases zcase a2 (n := 6) (by omega) with g | ⟨o, ho, rfl⟩
  · rw [zb_n (qK_has_no _ g), zb_n (qM_isTape_no _ g)]
    exact ⟨_, c, m, rfl, rfl, n, rd, bk, ec, tl, ev, h1, h2, h3, h4, h5, h6, h7, h8, h9, h10, h11, h12, h13⟩
  rw [zb_y (qK_has_ok _ ho), zb_y (qM_isTape_ok _ ho)]
  obtain ⟨N, g1, g2, g3, g4, g5⟩ := h12 t ht
  obtain ⟨P, p1, p2, p3, p4, p5⟩ := h12 o ho
  rw [zchk_e (ze_in ht (show 6 < 2 ^ 31 by omega)), ze_cl (show t < 2 ^ 31 by omega), ze_cl (show o < 2 ^ 31 by omega)]
  rcases g5 with ⟨g5, g6, g7⟩ | ⟨k, hk, g5, g6⟩
  · rw [zb_n (qK_holds_n ht g5), g6, if_pos zneg1_lt]
    exact ⟨_, c, m, rfl, rfl, n, rd, bk, ec, tl, ev, h1, h2, h3, h4, h5, h6, h7, h8, h9, h10, h11, h12, h13⟩
  rw [zb_y (qK_holds_y ht hk g5), g6, if_neg (nI_nlt (by omega) (by omega)), zchk_e (ze_in ho (show 6 < 2 ^ 31 by omega))]
  rcases p5 with ⟨p5, p6, p7⟩ | ⟨l, hl, p5, p6⟩
  · rw [zb_n (qK_holds_n ho p5), p6, if_neg zneg1_le]
    exact ⟨_, c, m, rfl, rfl, n, rd, bk, ec, tl, ev, h1, h2, h3, h4, h5, h6, h7, h8, h9, h10, h11, h12, h13⟩
  rw [zb_y (qK_holds_y ho hl p5), p6, if_pos (nI_le (by omega) (by omega))]
  simp only [zchk_e (ze_in ht (show 6 < 2 ^ 31 by omega)), zchk_e (ze_in ho (show 6 < 2 ^ 31 by omega)), g5, p5, g3, p3]
  by_cases hkl : k = l
  rotate_left
  · rw [if_neg (znI_ne (by omega) (by omega) hkl), if_neg (znI_ne (by omega) (by omega) hkl)]
    exact ⟨_, c, m, rfl, rfl, n, rd, bk, ec, tl, ev, h1, h2, h3, h4, h5, h6, h7, h8, h9, h10, h11, h12, h13⟩
  rw [if_pos (by rw [hkl]), if_pos (by rw [hkl])]
  rcases sh_in (a := a1) (b := a4) g1 with g | ⟨i, n', hin, rfl, rfl⟩
  · have e1 : (if a4 < nI 0 then nI 0 else if a1 < nI 0 then nI 0 else if nI N - a4 < a1 then nI 0 else nI 1) = nI 0 := by
      by_cases e1 : a4 < nI 0
      · rw [if_pos e1]
      by_cases e2 : a1 < nI 0
      · rw [if_neg e1, if_pos e2]
      · rw [if_neg e1, if_neg e2, if_pos (by rcases g with g | g | g; exact absurd g e1; exact absurd g e2; exact g)]
    rw [zb_n ((qK_hasPlaces_e c ht g2 a1 a4).trans (by rw [e1]))]
    refine ⟨-nI 13, c, m, rfl, ?_, n, rd, bk, ec, tl, ev, h1, h2, h3, h4, h5, h6, h7, h8, h9, h10, h11, h12, h13⟩
    by_cases e1 : a4 < nI 0
    · rw [if_pos e1]
    by_cases e2 : a1 < nI 0
    · rw [if_neg e1, if_pos e2]
    by_cases e3 : a3 < nI 0
    · rw [if_neg e1, if_neg e2, if_pos e3]
    · rw [if_neg e1, if_neg e2, if_neg e3, if_pos (by rcases g with g | g | g; exact absurd g e1; exact absurd g e2; exact g)]
  have f1 : ¬ nI n' < nI 0 := nI_nlt (by omega) (by omega)
  have f2 : ¬ nI i < nI 0 := nI_nlt (by omega) (by omega)
  have f3 : ¬ nI N - nI n' < nI i := by rw [pk_sub (by omega)]; exact nI_nlt (by omega) (by omega)
  rw [zb_y ((qK_hasPlaces_e c ht g2 _ _).trans (by rw [if_neg f1, if_neg f2, if_neg f3])), if_neg f1, if_neg f2]
  rcases sh_in (a := a3) (b := nI n') p1 with g | ⟨j, n'', hjn, rfl, e⟩
  · have e1 : (if nI n' < nI 0 then nI 0 else if a3 < nI 0 then nI 0 else if nI P - nI n' < a3 then nI 0 else nI 1) = nI 0 := by
      by_cases e2 : a3 < nI 0
      · rw [if_neg f1, if_pos e2]
      · rw [if_neg f1, if_neg e2, if_pos (by rcases g with g | g | g; exact absurd g f1; exact absurd g e2; exact g)]
    rw [zb_n ((qK_hasPlaces_e c ho p2 a3 _).trans (by rw [e1]))]
    refine ⟨-nI 13, c, m, rfl, ?_, n, rd, bk, ec, tl, ev, h1, h2, h3, h4, h5, h6, h7, h8, h9, h10, h11, h12, h13⟩
    by_cases e3 : a3 < nI 0
    · rw [if_pos e3]
    · rw [if_neg e3, if_neg f3, if_neg]
      intro q
      rcases g with g | g | g
      · exact f1 g
      · exact e3 g
      · rw [Int32.lt_iff_toInt_lt] at g
        rw [Int32.le_iff_toInt_le] at q
        omega
  have hnn : n'' = n' := by
    rcases Nat.lt_or_ge n'' (2 ^ 31) with q | q
    · exact ((nI_eq (by omega) q).mp e).symm
    · omega
  subst hnn
  have f4 : ¬ nI j < nI 0 := nI_nlt (by omega) (by omega)
  have f5 : ¬ nI P - nI n'' < nI j := by rw [pk_sub (by omega)]; exact nI_nlt (by omega) (by omega)
  have f6 : nI j ≤ nI P - nI n'' := by rw [pk_sub (by omega)]; exact nI_le (by omega) (by omega)
  rw [zb_y ((qK_hasPlaces_e c ho p2 _ _).trans (by rw [if_neg f1, if_neg f4, if_neg f5])), if_neg f4, if_neg f3, if_pos f6]
  obtain ⟨M1, s1, s2, s3⟩ := sh_loop1 t i o j n'' (fun (M8 : zM) => qM_shift_L141 (nI o) (nI j) (nI n'') 1000 M8 (nI 0)) ht (by omega) n'' 0 m 1000 (by omega) (by omega)
  obtain ⟨M2, s4, s5, s6⟩ := sh_loop2 o j n'' ho (by omega) n'' 0 M1 1000 (by omega) (by omega)
  refine ⟨nI n'', zcpyL c 30 0 30 0 (60 * t + i) (60 * o + j) n'', M2, ?_, ?_, n, rd, bk, ec, tl, ev, Rl_tp (c := c) (m := m) ?_ ?_ ⟨h1, h2, h3, h4, h5, h6, h7, h8, h9, h10, h11, h12, h13⟩ ?_⟩
  · unfold qK_copy
    simp only [zl0, zl1, zl2, zl3, zl4, zl5, zl6, zl7, zl8, zl9, zl10, zl11, zl12, zl13, zl14, zl16, zl18, zl19, zl20, zl22, zl24, zl30, zl32, zl33, zl36, zl38, zl40, zl41, zl48, zl50, zl51, zl57, zl59, zl60, zl61, zl62, zl70, zl71, zl99, zl100, zl103, zl104, zl105, zl106, zl107, zl108, zl109, zl110, zl111, zl112, zl113, zl114, zl115, zl116, zl124, zl127, zl255, zl999, zl1000, zl1001, zl1002, zl1003, ze_mul, ze_add]
    rw [zchk_e (zcp_ok (by omega) (by omega) (by omega) (by omega)), ze_cl (by omega), ze_cl (by omega), ze_cl (by omega), Nat.mul_comm t 60, Nat.mul_comm o 60]
    rfl
  · rw [s1]; exact s4
  · intro k i j hk hk'; rfl
  · intro k i j hk hk'; rw [s5, s2]
  · intro t' ht'
    obtain ⟨N', g1', g2', g3', g4', g5'⟩ := h12 t' ht'
    refine ⟨N', g1', g2', by rw [s5, s2]; exact g3', fun x hx => ?_, by rw [s5, s2]; exact g5'⟩
    rw [s6]
    by_cases e : 60 * o + j ≤ 60 * t' + x ∧ 60 * t' + x < 60 * o + j + n''
    · rw [zcpL_e (by omega), if_pos (by omega), s3, if_pos (by omega)]
      have := g4 (i + (60 * t' + x - (60 * o + j))) (by omega)
      rw [← Nat.add_assoc] at this
      exact this
    · rw [zcpL_n (by omega), if_neg (by omega), s3, if_neg (by omega)]
      exact g4' x hx
