theorem qN_become_e (M : zM) {r0 r1 : Nat} (hr : r0 ≠ r1) : ∃ M', qN_become M r0 r1 = some ((), M') ∧ M'.2 = M.2 ∧ (∀ k i j, ¬ (i = r0 ∧ ((k = 2 ∧ 1 ≤ j ∧ j ≤ 4) ∨ (3 ≤ k ∧ k ≤ 5 ∧ j < 3) ∨ (k = 6 ∧ j < 4))) → M'.1 k i j = M.1 k i j) ∧
    ∀ k j, (k = 2 ∧ 1 ≤ j ∧ j ≤ 4) ∨ (3 ≤ k ∧ k ≤ 5 ∧ j < 3) ∨ (k = 6 ∧ j < 4) → M'.1 k r0 j = M.1 k r1 j := by
  refine ⟨zcpy (zcpy (zcpy (zcpy (zset (zset (zset (zset M 2 r0 1 (M.1 2 r1 1)) 2 r0 2 (M.1 2 r1 2)) 2 r0 3 (M.1 2 r1 3)) 2 r0 4 (M.1 2 r1 4)) 3 r1 3 r0 0 0 3) 4 r1 4 r0 0 0 3) 5 r1 5 r0 0 0 3) 6 r1 6 r0 0 0 4, ?_, rfl, ?_, ?_⟩
  · unfold qN_become
    simp (disch := omega) only [zl0, zl1, zl2, zl3, zl4, zl5, zl6, zl7, zl8, zl9, zl10, zl11, zl12, zl13, zl14, zl16, zl18, zl19, zl20, zl22, zl24, zl30, zl32, zl33, zl36, zl38, zl40, zl41, zl48, zl50, zl51, zl57, zl59, zl60, zl61, zl62, zl70, zl71, zl99, zl100, zl103, zl104, zl105, zl106, zl107, zl108, zl109, zl110, zl111, zl112, zl113, zl114, zl115, zl116, zl124, zl127, zl255, zl999, zl1000, zl1001, zl1002, zl1003, zchk_t, znm_e, zcp_ok, ze_cl, zg_n]
  · intro k i j h
    rw [zcp_n (by omega), zcp_n (by omega), zcp_n (by omega), zcp_n (by omega), zg_n (by omega), zg_n (by omega), zg_n (by omega), zg_n (by omega)]
  · intro k j h
    rcases h with ⟨rfl, h⟩ | ⟨h0, h1, h2⟩ | ⟨rfl, h⟩
    · rw [zcp_n (by omega), zcp_n (by omega), zcp_n (by omega), zcp_n (by omega)]
      rcases (show j = 1 ∨ j = 2 ∨ j = 3 ∨ j = 4 by omega) with rfl | rfl | rfl | rfl
      · rw [zg_n (by omega), zg_n (by omega), zg_n (by omega), zg_e (by omega)]
      · rw [zg_n (by omega), zg_n (by omega), zg_e (by omega)]
      · rw [zg_n (by omega), zg_e (by omega)]
      · rw [zg_e (by omega)]
    · rcases (show k = 3 ∨ k = 4 ∨ k = 5 by omega) with rfl | rfl | rfl
      · rw [zcp_n (by omega), zcp_n (by omega), zcp_n (by omega), zcp_e (by omega), zg_n (by omega), zg_n (by omega), zg_n (by omega), zg_n (by omega), Nat.zero_add, Nat.sub_zero]
      · rw [zcp_n (by omega), zcp_n (by omega), zcp_e (by omega), zcp_n (by omega), zg_n (by omega), zg_n (by omega), zg_n (by omega), zg_n (by omega), Nat.zero_add, Nat.sub_zero]
      · rw [zcp_n (by omega), zcp_e (by omega), zcp_n (by omega), zcp_n (by omega), zg_n (by omega), zg_n (by omega), zg_n (by omega), zg_n (by omega), Nat.zero_add, Nat.sub_zero]
    · rw [zcp_e (by omega), zcp_n (by omega), zcp_n (by omega), zcp_n (by omega), zg_n (by omega), zg_n (by omega), zg_n (by omega), zg_n (by omega), Nat.zero_add, Nat.sub_zero]
theorem become_loop {q0 q1 : Nat} (hq : q0 ≠ q1) (n : Nat) (hn : n ≤ 6) : ∀ (d v : Nat) (M : zM) (f : Nat), M.1 1 q0 1 = nI n → v + d = n → d < f → ∃ M', qP_become_L63 q0 q1 f M (nI v) = some ((), M') ∧ M'.2 = M.2 ∧
    (∀ k i j, ¬ (6 * q0 + v ≤ i ∧ i < 6 * q0 + n ∧ ((k = 2 ∧ 1 ≤ j ∧ j ≤ 4) ∨ (3 ≤ k ∧ k ≤ 5 ∧ j < 3) ∨ (k = 6 ∧ j < 4))) → M'.1 k i j = M.1 k i j) ∧
    ∀ k p j, v ≤ p → p < n → (k = 2 ∧ 1 ≤ j ∧ j ≤ 4) ∨ (3 ≤ k ∧ k ≤ 5 ∧ j < 3) ∨ (k = 6 ∧ j < 4) → M'.1 k (6 * q0 + p) j = M.1 k (6 * q1 + p) j
  | 0, v, M, f + 1, hM, hv, hf => by
    refine ⟨M, ?_, rfl, fun k i j _ => rfl, fun k p j h1 h2 => ?_⟩
    · unfold qP_become_L63
      rw [hM, if_pos (nI_le (by omega) (by omega))]
    · omega
  | d + 1, v, M, f + 1, hM, hv, hf => by
    obtain ⟨M1, b1, b2, b3, b4⟩ := qN_become_e M (r0 := 6 * q0 + v) (r1 := 6 * q1 + v) (by omega)
    obtain ⟨M', g1, g2, g3, g4⟩ := become_loop hq n hn d (v + 1) M1 f (by rw [b3 _ _ _ (by omega)]; exact hM) (by omega) (by omega)
    refine ⟨M', ?_, g2.trans b2, fun k i j h => ?_, fun k p j h1 h2 h3 => ?_⟩
    · unfold qP_become_L63
      simp only [zl0, zl1, zl2, zl3, zl4, zl5, zl6, zl7, zl8, zl9, zl10, zl11, zl12, zl13, zl14, zl16, zl18, zl19, zl20, zl22, zl24, zl30, zl32, zl33, zl36, zl38, zl40, zl41, zl48, zl50, zl51, zl57, zl59, zl60, zl61, zl62, zl70, zl71, zl99, zl100, zl103, zl104, zl105, zl106, zl107, zl108, zl109, zl110, zl111, zl112, zl113, zl114, zl115, zl116, zl124, zl127, zl255, zl999, zl1000, zl1001, zl1002, zl1003]
      rw [hM, if_neg (nI_ge (by omega) (by omega)), zchk_e (ze_in (show v < 6 by omega) (by omega)), znm_e, zchk_e (ze_in (show v < 6 by omega) (by omega)), znm_e, ze_cl (show v < 2 ^ 31 by omega), b1, zbnd_s, ze_add]
      exact g1
    · rw [g3 _ _ _ (by omega), b3 _ _ _ (by omega)]
    · by_cases e : p = v
      · subst e
        rw [g3 _ _ _ (by omega), b4 _ _ h3]
      · rw [g4 _ _ _ (by omega) h2 h3, b3 _ _ _ (by omega)]
theorem qP_become_e (M : zM) {q0 q1 n : Nat} (hq : q0 ≠ q1) (h0 : q0 < 3) (h1 : q1 < 3) (hn : n ≤ 6) (hM : M.1 1 q1 1 = nI n) : ∃ M', qP_become M q0 q1 = some ((), M') ∧ M'.2 = M.2 ∧
    (∀ k i j, ¬ ((k = 1 ∧ i = q0 ∧ (j = 1 ∨ j = 2 ∨ j = 3 ∨ j = 6)) ∨ (k = 8 ∧ i = q0 ∧ j < 3) ∨ (k = 9 ∧ i = q0 ∧ j < 36) ∨ (6 * q0 ≤ i ∧ i < 6 * q0 + 6 ∧ ((k = 2 ∧ 1 ≤ j ∧ j ≤ 4) ∨ (3 ≤ k ∧ k ≤ 5 ∧ j < 3) ∨ (k = 6 ∧ j < 4)))) → M'.1 k i j = M.1 k i j) ∧
    (∀ j, (j = 1 ∨ j = 2 ∨ j = 3 ∨ j = 6) → M'.1 1 q0 j = M.1 1 q1 j) ∧ (∀ j, j < 3 → M'.1 8 q0 j = M.1 8 q1 j) ∧ (∀ j, j < 36 → M'.1 9 q0 j = M.1 9 q1 j) ∧
    ∀ k p j, p < n → (k = 2 ∧ 1 ≤ j ∧ j ≤ 4) ∨ (3 ≤ k ∧ k ≤ 5 ∧ j < 3) ∨ (k = 6 ∧ j < 4) → M'.1 k (6 * q0 + p) j = M.1 k (6 * q1 + p) j := by
  obtain ⟨M', g1, g2, g3, g4⟩ := become_loop hq n hn n 0 (zcpy (zcpy (zset (zset (zset (zset M 1 q0 1 (M.1 1 q1 1)) 1 q0 2 (M.1 1 q1 2)) 1 q0 3 (M.1 1 q1 3)) 1 q0 6 (M.1 1 q1 6)) 8 q1 8 q0 0 0 3) 9 q1 9 q0 0 0 36) 1000 (by rw [zcp_n (by omega), zcp_n (by omega), zg_n (by omega), zg_n (by omega), zg_n (by omega), zg_e (by omega)]; exact hM) (by omega) (by omega)
  refine ⟨M', ?_, g2, fun k i j h => ?_, fun j h => ?_, fun j h => ?_, fun j h => ?_, fun k p j h1 h2 => ?_⟩
  · unfold qP_become
    refine Eq.trans ?_ g1
    simp (disch := omega) only [zl0, zl1, zl2, zl3, zl4, zl5, zl6, zl7, zl8, zl9, zl10, zl11, zl12, zl13, zl14, zl16, zl18, zl19, zl20, zl22, zl24, zl30, zl32, zl33, zl36, zl38, zl40, zl41, zl48, zl50, zl51, zl57, zl59, zl60, zl61, zl62, zl70, zl71, zl99, zl100, zl103, zl104, zl105, zl106, zl107, zl108, zl109, zl110, zl111, zl112, zl113, zl114, zl115, zl116, zl124, zl127, zl255, zl999, zl1000, zl1001, zl1002, zl1003, zchk_t, znm_e, zcp_ok, ze_cl, zg_n]
  · rw [g3 _ _ _ (by omega), zcp_n (by omega), zcp_n (by omega), zg_n (by omega), zg_n (by omega), zg_n (by omega), zg_n (by omega)]
  · rw [g3 _ _ _ (by omega), zcp_n (by omega), zcp_n (by omega)]
    rcases h with rfl | rfl | rfl | rfl
    · rw [zg_n (by omega), zg_n (by omega), zg_n (by omega), zg_e (by omega)]
    · rw [zg_n (by omega), zg_n (by omega), zg_e (by omega)]
    · rw [zg_n (by omega), zg_e (by omega)]
    · rw [zg_e (by omega)]
  · rw [g3 _ _ _ (by omega), zcp_n (by omega), zcp_e (by omega), zg_n (by omega), zg_n (by omega), zg_n (by omega), zg_n (by omega), Nat.zero_add, Nat.sub_zero]
  · rw [g3 _ _ _ (by omega), zcp_e (by omega), zcp_n (by omega), zg_n (by omega), zg_n (by omega), zg_n (by omega), zg_n (by omega), Nat.zero_add, Nat.sub_zero]
  · rw [g4 _ _ _ (by omega) h1 h2, zcp_n (by omega), zcp_n (by omega), zg_n (by omega), zg_n (by omega), zg_n (by omega), zg_n (by omega)]
/-! loops that copy -/
theorem qM_image_L39_e (e : zM → Option (Int32 × zM)) : ∀ (d v : Nat) (M : zM) (f : Nat), v + d = 6 → d < f → ∃ M', qM_image_L39 e f M (nI v) = e M' ∧ M'.2 = M.2 ∧ ∀ k i j, M'.1 k i j = if i = 0 ∧ v ≤ j ∧ j < 6 ∧ 69 ≤ k ∧ k ≤ 72 then M.1 (k - 28) 0 j else M.1 k i j
  | 0, v, M, f + 1, hv, hf => by
    refine ⟨M, ?_, rfl, fun k i j => ?_⟩
    · unfold qM_image_L39
      simp (disch := omega) only [↓reduceIte, zbnd_s, zchk_t, znm_e, zjn_e, if_true, if_false, ite_true, ite_false, Nat.zero_add, Nat.add_zero, Nat.mul_zero, Nat.zero_mul, Nat.mul_one, Nat.one_mul, zl0, zl1, zl2, zl3, zl4, zl5, zl6, zl7, zl8, zl9, zl10, zl11, zl12, zl13, zl14, zl16, zl18, zl19, zl20, zl22, zl24, zl30, zl32, zl33, zl36, zl38, zl40, zl41, zl48, zl50, zl51, zl57, zl59, zl60, zl61, zl62, zl70, zl71, zl99, zl100, zl103, zl104, zl105, zl106, zl107, zl108, zl109, zl110, zl111, zl112, zl113, zl114, zl115, zl116, zl124, zl127, zl255, zl999, zl1000, zl1001, zl1002, zl1003, ze_in, ze_ltt, ze_ltf, ze_let, ze_lef, ze_eqt, ze_eqf, ze_cl, ze_add, ze_mul, ze_sub, ze_div, ze_rem, ze_nz, ze_ngt, ze_nle, ze_neq, ze_neq', ze_nlt, ze_nle', zg_e, zg_n, zg_2, zgL_e, zgL_n, zgL_1]
    · rw [if_neg (by omega)]
  | d + 1, v, M, f + 1, hv, hf => by
    obtain ⟨M', g1, g2, g3⟩ := qM_image_L39_e e d (v + 1) (zset (zset (zset (zset M 69 0 v (M.1 41 0 v)) 70 0 v (M.1 42 0 v)) 71 0 v (M.1 43 0 v)) 72 0 v (M.1 44 0 v)) f (by omega) (by omega)
    refine ⟨M', ?_, ?_, fun k i j => ?_⟩
    · unfold qM_image_L39
      simp (disch := omega) only [↓reduceIte, zbnd_s, zchk_t, znm_e, zjn_e, if_true, if_false, ite_true, ite_false, Nat.zero_add, Nat.add_zero, Nat.mul_zero, Nat.zero_mul, Nat.mul_one, Nat.one_mul, zl0, zl1, zl2, zl3, zl4, zl5, zl6, zl7, zl8, zl9, zl10, zl11, zl12, zl13, zl14, zl16, zl18, zl19, zl20, zl22, zl24, zl30, zl32, zl33, zl36, zl38, zl40, zl41, zl48, zl50, zl51, zl57, zl59, zl60, zl61, zl62, zl70, zl71, zl99, zl100, zl103, zl104, zl105, zl106, zl107, zl108, zl109, zl110, zl111, zl112, zl113, zl114, zl115, zl116, zl124, zl127, zl255, zl999, zl1000, zl1001, zl1002, zl1003, ze_in, ze_ltt, ze_ltf, ze_let, ze_lef, ze_eqt, ze_eqf, ze_cl, ze_add, ze_mul, ze_sub, ze_div, ze_rem, ze_nz, ze_ngt, ze_nle, ze_neq, ze_neq', ze_nlt, ze_nle', zg_e, zg_n, zg_2, zgL_e, zgL_n, zgL_1]
      exact g1
    · rw [g2]; rfl
    · rw [g3]
      by_cases e1 : i = 0 ∧ v + 1 ≤ j ∧ j < 6 ∧ 69 ≤ k ∧ k ≤ 72
      · rw [if_pos e1, if_pos (by omega), zg_n (by omega), zg_n (by omega), zg_n (by omega), zg_n (by omega)]
      · rw [if_neg e1]
        by_cases e2 : i = 0 ∧ j = v ∧ 69 ≤ k ∧ k ≤ 72
        · obtain ⟨rfl, rfl, e3, e4⟩ := e2
          rw [if_pos (by omega)]
          rcases (show k = 69 ∨ k = 70 ∨ k = 71 ∨ k = 72 by omega) with rfl | rfl | rfl | rfl
          · rw [zg_n (by omega), zg_n (by omega), zg_n (by omega), zg_e (by omega)]
          · rw [zg_n (by omega), zg_n (by omega), zg_e (by omega)]
          · rw [zg_n (by omega), zg_e (by omega)]
          · rw [zg_e (by omega)]
        · rw [zg_n (by omega), zg_n (by omega), zg_n (by omega), zg_n (by omega), if_neg (by omega)]
theorem qM_image_L101_e (e : zM → Option (Int32 × zM)) : ∀ (d v : Nat) (M : zM) (f : Nat), v + d = 18 → d < f → ∃ M', qM_image_L101 e f M (nI v) = e M' ∧ M'.2 = M.2 ∧ ∀ k i j, M'.1 k i j = if i = 0 ∧ v ≤ j ∧ j < 18 ∧ 73 ≤ k ∧ k ≤ 75 then M.1 (k - 28) 0 j else M.1 k i j
  | 0, v, M, f + 1, hv, hf => by
    refine ⟨M, ?_, rfl, fun k i j => ?_⟩
    · unfold qM_image_L101
      simp (disch := omega) only [↓reduceIte, zbnd_s, zchk_t, znm_e, zjn_e, if_true, if_false, ite_true, ite_false, Nat.zero_add, Nat.add_zero, Nat.mul_zero, Nat.zero_mul, Nat.mul_one, Nat.one_mul, zl0, zl1, zl2, zl3, zl4, zl5, zl6, zl7, zl8, zl9, zl10, zl11, zl12, zl13, zl14, zl16, zl18, zl19, zl20, zl22, zl24, zl30, zl32, zl33, zl36, zl38, zl40, zl41, zl48, zl50, zl51, zl57, zl59, zl60, zl61, zl62, zl70, zl71, zl99, zl100, zl103, zl104, zl105, zl106, zl107, zl108, zl109, zl110, zl111, zl112, zl113, zl114, zl115, zl116, zl124, zl127, zl255, zl999, zl1000, zl1001, zl1002, zl1003, ze_in, ze_ltt, ze_ltf, ze_let, ze_lef, ze_eqt, ze_eqf, ze_cl, ze_add, ze_mul, ze_sub, ze_div, ze_rem, ze_nz, ze_ngt, ze_nle, ze_neq, ze_neq', ze_nlt, ze_nle', zg_e, zg_n, zg_2, zgL_e, zgL_n, zgL_1]
    · rw [if_neg (by omega)]
  | d + 1, v, M, f + 1, hv, hf => by
    obtain ⟨M', g1, g2, g3⟩ := qM_image_L101_e e d (v + 1) (zset (zset (zset M 73 0 v (M.1 45 0 v)) 74 0 v (M.1 46 0 v)) 75 0 v (M.1 47 0 v)) f (by omega) (by omega)
    refine ⟨M', ?_, ?_, fun k i j => ?_⟩
    · unfold qM_image_L101
      simp (disch := omega) only [↓reduceIte, zbnd_s, zchk_t, znm_e, zjn_e, if_true, if_false, ite_true, ite_false, Nat.zero_add, Nat.add_zero, Nat.mul_zero, Nat.zero_mul, Nat.mul_one, Nat.one_mul, zl0, zl1, zl2, zl3, zl4, zl5, zl6, zl7, zl8, zl9, zl10, zl11, zl12, zl13, zl14, zl16, zl18, zl19, zl20, zl22, zl24, zl30, zl32, zl33, zl36, zl38, zl40, zl41, zl48, zl50, zl51, zl57, zl59, zl60, zl61, zl62, zl70, zl71, zl99, zl100, zl103, zl104, zl105, zl106, zl107, zl108, zl109, zl110, zl111, zl112, zl113, zl114, zl115, zl116, zl124, zl127, zl255, zl999, zl1000, zl1001, zl1002, zl1003, ze_in, ze_ltt, ze_ltf, ze_let, ze_lef, ze_eqt, ze_eqf, ze_cl, ze_add, ze_mul, ze_sub, ze_div, ze_rem, ze_nz, ze_ngt, ze_nle, ze_neq, ze_neq', ze_nlt, ze_nle', zg_e, zg_n, zg_2, zgL_e, zgL_n, zgL_1]
      exact g1
    · rw [g2]; rfl
    · rw [g3]
      by_cases e1 : i = 0 ∧ v + 1 ≤ j ∧ j < 18 ∧ 73 ≤ k ∧ k ≤ 75
      · rw [if_pos e1, if_pos (by omega), zg_n (by omega), zg_n (by omega), zg_n (by omega)]
      · rw [if_neg e1]
        by_cases e2 : i = 0 ∧ j = v ∧ 73 ≤ k ∧ k ≤ 75
        · obtain ⟨rfl, rfl, e3, e4⟩ := e2
          rw [if_pos (by omega)]
          rcases (show k = 73 ∨ k = 74 ∨ k = 75 by omega) with rfl | rfl | rfl
          · rw [zg_n (by omega), zg_n (by omega), zg_e (by omega)]
          · rw [zg_n (by omega), zg_e (by omega)]
          · rw [zg_e (by omega)]
        · rw [zg_n (by omega), zg_n (by omega), zg_n (by omega), if_neg (by omega)]
theorem qM_image_L151_e (e : zM → Option (Int32 × zM)) : ∀ (d v : Nat) (M : zM) (f : Nat), v + d = 24 → d < f → ∃ M', qM_image_L151 e f M (nI v) = e M' ∧ M'.2 = M.2 ∧ ∀ k i j, M'.1 k i j = if i = 0 ∧ v ≤ j ∧ j < 24 ∧ 76 ≤ k ∧ k ≤ 76 then M.1 (k - 28) 0 j else M.1 k i j
  | 0, v, M, f + 1, hv, hf => by
    refine ⟨M, ?_, rfl, fun k i j => ?_⟩
    · unfold qM_image_L151
      simp (disch := omega) only [↓reduceIte, zbnd_s, zchk_t, znm_e, zjn_e, if_true, if_false, ite_true, ite_false, Nat.zero_add, Nat.add_zero, Nat.mul_zero, Nat.zero_mul, Nat.mul_one, Nat.one_mul, zl0, zl1, zl2, zl3, zl4, zl5, zl6, zl7, zl8, zl9, zl10, zl11, zl12, zl13, zl14, zl16, zl18, zl19, zl20, zl22, zl24, zl30, zl32, zl33, zl36, zl38, zl40, zl41, zl48, zl50, zl51, zl57, zl59, zl60, zl61, zl62, zl70, zl71, zl99, zl100, zl103, zl104, zl105, zl106, zl107, zl108, zl109, zl110, zl111, zl112, zl113, zl114, zl115, zl116, zl124, zl127, zl255, zl999, zl1000, zl1001, zl1002, zl1003, ze_in, ze_ltt, ze_ltf, ze_let, ze_lef, ze_eqt, ze_eqf, ze_cl, ze_add, ze_mul, ze_sub, ze_div, ze_rem, ze_nz, ze_ngt, ze_nle, ze_neq, ze_neq', ze_nlt, ze_nle', zg_e, zg_n, zg_2, zgL_e, zgL_n, zgL_1]
    · rw [if_neg (by omega)]
  | d + 1, v, M, f + 1, hv, hf => by
    obtain ⟨M', g1, g2, g3⟩ := qM_image_L151_e e d (v + 1) (zset M 76 0 v (M.1 48 0 v)) f (by omega) (by omega)
    refine ⟨M', ?_, ?_, fun k i j => ?_⟩
    · unfold qM_image_L151
      simp (disch := omega) only [↓reduceIte, zbnd_s, zchk_t, znm_e, zjn_e, if_true, if_false, ite_true, ite_false, Nat.zero_add, Nat.add_zero, Nat.mul_zero, Nat.zero_mul, Nat.mul_one, Nat.one_mul, zl0, zl1, zl2, zl3, zl4, zl5, zl6, zl7, zl8, zl9, zl10, zl11, zl12, zl13, zl14, zl16, zl18, zl19, zl20, zl22, zl24, zl30, zl32, zl33, zl36, zl38, zl40, zl41, zl48, zl50, zl51, zl57, zl59, zl60, zl61, zl62, zl70, zl71, zl99, zl100, zl103, zl104, zl105, zl106, zl107, zl108, zl109, zl110, zl111, zl112, zl113, zl114, zl115, zl116, zl124, zl127, zl255, zl999, zl1000, zl1001, zl1002, zl1003, ze_in, ze_ltt, ze_ltf, ze_let, ze_lef, ze_eqt, ze_eqf, ze_cl, ze_add, ze_mul, ze_sub, ze_div, ze_rem, ze_nz, ze_ngt, ze_nle, ze_neq, ze_neq', ze_nlt, ze_nle', zg_e, zg_n, zg_2, zgL_e, zgL_n, zgL_1]
      exact g1
    · rw [g2]; rfl
    · rw [g3]
      by_cases e1 : i = 0 ∧ v + 1 ≤ j ∧ j < 24 ∧ 76 ≤ k ∧ k ≤ 76
      · rw [if_pos e1, if_pos (by omega), zg_n (by omega)]
      · rw [if_neg e1]
        by_cases e2 : i = 0 ∧ j = v ∧ 76 ≤ k ∧ k ≤ 76
        · obtain ⟨rfl, rfl, e3, e4⟩ := e2
          rw [if_pos (by omega)]
          obtain rfl : k = 76 := by omega
          · rw [zg_e (by omega)]
        · rw [zg_n (by omega), if_neg (by omega)]
theorem qM_image_L177_e (e : zM → Option (Int32 × zM)) : ∀ (d v : Nat) (M : zM) (f : Nat), v + d = 3 → d < f → ∃ M', qM_image_L177 e f M (nI v) = e M' ∧ M'.2 = M.2 ∧ ∀ k i j, M'.1 k i j = if i = 0 ∧ v ≤ j ∧ j < 3 ∧ 77 ≤ k ∧ k ≤ 77 then M.1 (k - 13) 0 j else M.1 k i j
  | 0, v, M, f + 1, hv, hf => by
    refine ⟨M, ?_, rfl, fun k i j => ?_⟩
    · unfold qM_image_L177
      simp (disch := omega) only [↓reduceIte, zbnd_s, zchk_t, znm_e, zjn_e, if_true, if_false, ite_true, ite_false, Nat.zero_add, Nat.add_zero, Nat.mul_zero, Nat.zero_mul, Nat.mul_one, Nat.one_mul, zl0, zl1, zl2, zl3, zl4, zl5, zl6, zl7, zl8, zl9, zl10, zl11, zl12, zl13, zl14, zl16, zl18, zl19, zl20, zl22, zl24, zl30, zl32, zl33, zl36, zl38, zl40, zl41, zl48, zl50, zl51, zl57, zl59, zl60, zl61, zl62, zl70, zl71, zl99, zl100, zl103, zl104, zl105, zl106, zl107, zl108, zl109, zl110, zl111, zl112, zl113, zl114, zl115, zl116, zl124, zl127, zl255, zl999, zl1000, zl1001, zl1002, zl1003, ze_in, ze_ltt, ze_ltf, ze_let, ze_lef, ze_eqt, ze_eqf, ze_cl, ze_add, ze_mul, ze_sub, ze_div, ze_rem, ze_nz, ze_ngt, ze_nle, ze_neq, ze_neq', ze_nlt, ze_nle', zg_e, zg_n, zg_2, zgL_e, zgL_n, zgL_1]
    · rw [if_neg (by omega)]
  | d + 1, v, M, f + 1, hv, hf => by
    obtain ⟨M', g1, g2, g3⟩ := qM_image_L177_e e d (v + 1) (zset M 77 0 v (M.1 64 0 v)) f (by omega) (by omega)
    refine ⟨M', ?_, ?_, fun k i j => ?_⟩
    · unfold qM_image_L177
      simp (disch := omega) only [↓reduceIte, zbnd_s, zchk_t, znm_e, zjn_e, if_true, if_false, ite_true, ite_false, Nat.zero_add, Nat.add_zero, Nat.mul_zero, Nat.zero_mul, Nat.mul_one, Nat.one_mul, zl0, zl1, zl2, zl3, zl4, zl5, zl6, zl7, zl8, zl9, zl10, zl11, zl12, zl13, zl14, zl16, zl18, zl19, zl20, zl22, zl24, zl30, zl32, zl33, zl36, zl38, zl40, zl41, zl48, zl50, zl51, zl57, zl59, zl60, zl61, zl62, zl70, zl71, zl99, zl100, zl103, zl104, zl105, zl106, zl107, zl108, zl109, zl110, zl111, zl112, zl113, zl114, zl115, zl116, zl124, zl127, zl255, zl999, zl1000, zl1001, zl1002, zl1003, ze_in, ze_ltt, ze_ltf, ze_let, ze_lef, ze_eqt, ze_eqf, ze_cl, ze_add, ze_mul, ze_sub, ze_div, ze_rem, ze_nz, ze_ngt, ze_nle, ze_neq, ze_neq', ze_nlt, ze_nle', zg_e, zg_n, zg_2, zgL_e, zgL_n, zgL_1]
      exact g1
    · rw [g2]; rfl
    · rw [g3]
      by_cases e1 : i = 0 ∧ v + 1 ≤ j ∧ j < 3 ∧ 77 ≤ k ∧ k ≤ 77
      · rw [if_pos e1, if_pos (by omega), zg_n (by omega)]
      · rw [if_neg e1]
        by_cases e2 : i = 0 ∧ j = v ∧ 77 ≤ k ∧ k ≤ 77
        · obtain ⟨rfl, rfl, e3, e4⟩ := e2
          rw [if_pos (by omega)]
          obtain rfl : k = 77 := by omega
          · rw [zg_e (by omega)]
        · rw [zg_n (by omega), if_neg (by omega)]
theorem qM_image_L202_e : ∀ (d v : Nat) (M : zM) (f : Nat), v + d = 12 → d < f → ∃ M', qM_image_L202 f M (nI v) = some (M'.1 40 0 0, M') ∧ M'.2 = M.2 ∧ ∀ k i j, M'.1 k i j = if i = 0 ∧ v ≤ j ∧ j < 12 ∧ 78 ≤ k ∧ k ≤ 80 then M.1 (k - 12) 0 j else M.1 k i j
  | 0, v, M, f + 1, hv, hf => by
    refine ⟨M, ?_, rfl, fun k i j => ?_⟩
    · unfold qM_image_L202
      simp (disch := omega) only [↓reduceIte, zbnd_s, zchk_t, znm_e, zjn_e, if_true, if_false, ite_true, ite_false, Nat.zero_add, Nat.add_zero, Nat.mul_zero, Nat.zero_mul, Nat.mul_one, Nat.one_mul, zl0, zl1, zl2, zl3, zl4, zl5, zl6, zl7, zl8, zl9, zl10, zl11, zl12, zl13, zl14, zl16, zl18, zl19, zl20, zl22, zl24, zl30, zl32, zl33, zl36, zl38, zl40, zl41, zl48, zl50, zl51, zl57, zl59, zl60, zl61, zl62, zl70, zl71, zl99, zl100, zl103, zl104, zl105, zl106, zl107, zl108, zl109, zl110, zl111, zl112, zl113, zl114, zl115, zl116, zl124, zl127, zl255, zl999, zl1000, zl1001, zl1002, zl1003, ze_in, ze_ltt, ze_ltf, ze_let, ze_lef, ze_eqt, ze_eqf, ze_cl, ze_add, ze_mul, ze_sub, ze_div, ze_rem, ze_nz, ze_ngt, ze_nle, ze_neq, ze_neq', ze_nlt, ze_nle', zg_e, zg_n, zg_2, zgL_e, zgL_n, zgL_1]
    · rw [if_neg (by omega)]
  | d + 1, v, M, f + 1, hv, hf => by
    obtain ⟨M', g1, g2, g3⟩ := qM_image_L202_e d (v + 1) (zset (zset (zset M 78 0 v (M.1 66 0 v)) 79 0 v (M.1 67 0 v)) 80 0 v (M.1 68 0 v)) f (by omega) (by omega)
    refine ⟨M', ?_, ?_, fun k i j => ?_⟩
    · unfold qM_image_L202
      simp (disch := omega) only [↓reduceIte, zbnd_s, zchk_t, znm_e, zjn_e, if_true, if_false, ite_true, ite_false, Nat.zero_add, Nat.add_zero, Nat.mul_zero, Nat.zero_mul, Nat.mul_one, Nat.one_mul, zl0, zl1, zl2, zl3, zl4, zl5, zl6, zl7, zl8, zl9, zl10, zl11, zl12, zl13, zl14, zl16, zl18, zl19, zl20, zl22, zl24, zl30, zl32, zl33, zl36, zl38, zl40, zl41, zl48, zl50, zl51, zl57, zl59, zl60, zl61, zl62, zl70, zl71, zl99, zl100, zl103, zl104, zl105, zl106, zl107, zl108, zl109, zl110, zl111, zl112, zl113, zl114, zl115, zl116, zl124, zl127, zl255, zl999, zl1000, zl1001, zl1002, zl1003, ze_in, ze_ltt, ze_ltf, ze_let, ze_lef, ze_eqt, ze_eqf, ze_cl, ze_add, ze_mul, ze_sub, ze_div, ze_rem, ze_nz, ze_ngt, ze_nle, ze_neq, ze_neq', ze_nlt, ze_nle', zg_e, zg_n, zg_2, zgL_e, zgL_n, zgL_1]
      exact g1
    · rw [g2]; rfl
    · rw [g3]
      by_cases e1 : i = 0 ∧ v + 1 ≤ j ∧ j < 12 ∧ 78 ≤ k ∧ k ≤ 80
      · rw [if_pos e1, if_pos (by omega), zg_n (by omega), zg_n (by omega), zg_n (by omega)]
      · rw [if_neg e1]
        by_cases e2 : i = 0 ∧ j = v ∧ 78 ≤ k ∧ k ≤ 80
        · obtain ⟨rfl, rfl, e3, e4⟩ := e2
          rw [if_pos (by omega)]
          rcases (show k = 78 ∨ k = 79 ∨ k = 80 by omega) with rfl | rfl | rfl
          · rw [zg_n (by omega), zg_n (by omega), zg_e (by omega)]
          · rw [zg_n (by omega), zg_e (by omega)]
          · rw [zg_e (by omega)]
        · rw [zg_n (by omega), zg_n (by omega), zg_n (by omega), if_neg (by omega)]
theorem qM_undo_L44_e (e : zM → Option (Int32 × zM)) : ∀ (d v : Nat) (M : zM) (f : Nat), v + d = 6 → d < f → ∃ M', qM_undo_L44 e f M (nI v) = e M' ∧ M'.2 = M.2 ∧ ∀ k i j, M'.1 k i j = if i = 0 ∧ v ≤ j ∧ j < 6 ∧ 41 ≤ k ∧ k ≤ 44 then M.1 (k + 28) 0 j else M.1 k i j
  | 0, v, M, f + 1, hv, hf => by
    refine ⟨M, ?_, rfl, fun k i j => ?_⟩
    · unfold qM_undo_L44
      simp (disch := omega) only [↓reduceIte, zbnd_s, zchk_t, znm_e, zjn_e, if_true, if_false, ite_true, ite_false, Nat.zero_add, Nat.add_zero, Nat.mul_zero, Nat.zero_mul, Nat.mul_one, Nat.one_mul, zl0, zl1, zl2, zl3, zl4, zl5, zl6, zl7, zl8, zl9, zl10, zl11, zl12, zl13, zl14, zl16, zl18, zl19, zl20, zl22, zl24, zl30, zl32, zl33, zl36, zl38, zl40, zl41, zl48, zl50, zl51, zl57, zl59, zl60, zl61, zl62, zl70, zl71, zl99, zl100, zl103, zl104, zl105, zl106, zl107, zl108, zl109, zl110, zl111, zl112, zl113, zl114, zl115, zl116, zl124, zl127, zl255, zl999, zl1000, zl1001, zl1002, zl1003, ze_in, ze_ltt, ze_ltf, ze_let, ze_lef, ze_eqt, ze_eqf, ze_cl, ze_add, ze_mul, ze_sub, ze_div, ze_rem, ze_nz, ze_ngt, ze_nle, ze_neq, ze_neq', ze_nlt, ze_nle', zg_e, zg_n, zg_2, zgL_e, zgL_n, zgL_1]
    · rw [if_neg (by omega)]
  | d + 1, v, M, f + 1, hv, hf => by
    obtain ⟨M', g1, g2, g3⟩ := qM_undo_L44_e e d (v + 1) (zset (zset (zset (zset M 41 0 v (M.1 69 0 v)) 42 0 v (M.1 70 0 v)) 43 0 v (M.1 71 0 v)) 44 0 v (M.1 72 0 v)) f (by omega) (by omega)
    refine ⟨M', ?_, ?_, fun k i j => ?_⟩
    · unfold qM_undo_L44
      simp (disch := omega) only [↓reduceIte, zbnd_s, zchk_t, znm_e, zjn_e, if_true, if_false, ite_true, ite_false, Nat.zero_add, Nat.add_zero, Nat.mul_zero, Nat.zero_mul, Nat.mul_one, Nat.one_mul, zl0, zl1, zl2, zl3, zl4, zl5, zl6, zl7, zl8, zl9, zl10, zl11, zl12, zl13, zl14, zl16, zl18, zl19, zl20, zl22, zl24, zl30, zl32, zl33, zl36, zl38, zl40, zl41, zl48, zl50, zl51, zl57, zl59, zl60, zl61, zl62, zl70, zl71, zl99, zl100, zl103, zl104, zl105, zl106, zl107, zl108, zl109, zl110, zl111, zl112, zl113, zl114, zl115, zl116, zl124, zl127, zl255, zl999, zl1000, zl1001, zl1002, zl1003, ze_in, ze_ltt, ze_ltf, ze_let, ze_lef, ze_eqt, ze_eqf, ze_cl, ze_add, ze_mul, ze_sub, ze_div, ze_rem, ze_nz, ze_ngt, ze_nle, ze_neq, ze_neq', ze_nlt, ze_nle', zg_e, zg_n, zg_2, zgL_e, zgL_n, zgL_1]
      exact g1
    · rw [g2]; rfl
    · rw [g3]
      by_cases e1 : i = 0 ∧ v + 1 ≤ j ∧ j < 6 ∧ 41 ≤ k ∧ k ≤ 44
      · rw [if_pos e1, if_pos (by omega), zg_n (by omega), zg_n (by omega), zg_n (by omega), zg_n (by omega)]
      · rw [if_neg e1]
        by_cases e2 : i = 0 ∧ j = v ∧ 41 ≤ k ∧ k ≤ 44
        · obtain ⟨rfl, rfl, e3, e4⟩ := e2
          rw [if_pos (by omega)]
          rcases (show k = 41 ∨ k = 42 ∨ k = 43 ∨ k = 44 by omega) with rfl | rfl | rfl | rfl
          · rw [zg_n (by omega), zg_n (by omega), zg_n (by omega), zg_e (by omega)]
          · rw [zg_n (by omega), zg_n (by omega), zg_e (by omega)]
          · rw [zg_n (by omega), zg_e (by omega)]
          · rw [zg_e (by omega)]
        · rw [zg_n (by omega), zg_n (by omega), zg_n (by omega), zg_n (by omega), if_neg (by omega)]
theorem qM_undo_L106_e (e : zM → Option (Int32 × zM)) : ∀ (d v : Nat) (M : zM) (f : Nat), v + d = 18 → d < f → ∃ M', qM_undo_L106 e f M (nI v) = e M' ∧ M'.2 = M.2 ∧ ∀ k i j, M'.1 k i j = if i = 0 ∧ v ≤ j ∧ j < 18 ∧ 45 ≤ k ∧ k ≤ 47 then M.1 (k + 28) 0 j else M.1 k i j
  | 0, v, M, f + 1, hv, hf => by
    refine ⟨M, ?_, rfl, fun k i j => ?_⟩
    · unfold qM_undo_L106
      simp (disch := omega) only [↓reduceIte, zbnd_s, zchk_t, znm_e, zjn_e, if_true, if_false, ite_true, ite_false, Nat.zero_add, Nat.add_zero, Nat.mul_zero, Nat.zero_mul, Nat.mul_one, Nat.one_mul, zl0, zl1, zl2, zl3, zl4, zl5, zl6, zl7, zl8, zl9, zl10, zl11, zl12, zl13, zl14, zl16, zl18, zl19, zl20, zl22, zl24, zl30, zl32, zl33, zl36, zl38, zl40, zl41, zl48, zl50, zl51, zl57, zl59, zl60, zl61, zl62, zl70, zl71, zl99, zl100, zl103, zl104, zl105, zl106, zl107, zl108, zl109, zl110, zl111, zl112, zl113, zl114, zl115, zl116, zl124, zl127, zl255, zl999, zl1000, zl1001, zl1002, zl1003, ze_in, ze_ltt, ze_ltf, ze_let, ze_lef, ze_eqt, ze_eqf, ze_cl, ze_add, ze_mul, ze_sub, ze_div, ze_rem, ze_nz, ze_ngt, ze_nle, ze_neq, ze_neq', ze_nlt, ze_nle', zg_e, zg_n, zg_2, zgL_e, zgL_n, zgL_1]
    · rw [if_neg (by omega)]
  | d + 1, v, M, f + 1, hv, hf => by
    obtain ⟨M', g1, g2, g3⟩ := qM_undo_L106_e e d (v + 1) (zset (zset (zset M 45 0 v (M.1 73 0 v)) 46 0 v (M.1 74 0 v)) 47 0 v (M.1 75 0 v)) f (by omega) (by omega)
    refine ⟨M', ?_, ?_, fun k i j => ?_⟩
    · unfold qM_undo_L106
      simp (disch := omega) only [↓reduceIte, zbnd_s, zchk_t, znm_e, zjn_e, if_true, if_false, ite_true, ite_false, Nat.zero_add, Nat.add_zero, Nat.mul_zero, Nat.zero_mul, Nat.mul_one, Nat.one_mul, zl0, zl1, zl2, zl3, zl4, zl5, zl6, zl7, zl8, zl9, zl10, zl11, zl12, zl13, zl14, zl16, zl18, zl19, zl20, zl22, zl24, zl30, zl32, zl33, zl36, zl38, zl40, zl41, zl48, zl50, zl51, zl57, zl59, zl60, zl61, zl62, zl70, zl71, zl99, zl100, zl103, zl104, zl105, zl106, zl107, zl108, zl109, zl110, zl111, zl112, zl113, zl114, zl115, zl116, zl124, zl127, zl255, zl999, zl1000, zl1001, zl1002, zl1003, ze_in, ze_ltt, ze_ltf, ze_let, ze_lef, ze_eqt, ze_eqf, ze_cl, ze_add, ze_mul, ze_sub, ze_div, ze_rem, ze_nz, ze_ngt, ze_nle, ze_neq, ze_neq', ze_nlt, ze_nle', zg_e, zg_n, zg_2, zgL_e, zgL_n, zgL_1]
      exact g1
    · rw [g2]; rfl
    · rw [g3]
      by_cases e1 : i = 0 ∧ v + 1 ≤ j ∧ j < 18 ∧ 45 ≤ k ∧ k ≤ 47
      · rw [if_pos e1, if_pos (by omega), zg_n (by omega), zg_n (by omega), zg_n (by omega)]
      · rw [if_neg e1]
        by_cases e2 : i = 0 ∧ j = v ∧ 45 ≤ k ∧ k ≤ 47
        · obtain ⟨rfl, rfl, e3, e4⟩ := e2
          rw [if_pos (by omega)]
          rcases (show k = 45 ∨ k = 46 ∨ k = 47 by omega) with rfl | rfl | rfl
          · rw [zg_n (by omega), zg_n (by omega), zg_e (by omega)]
          · rw [zg_n (by omega), zg_e (by omega)]
          · rw [zg_e (by omega)]
        · rw [zg_n (by omega), zg_n (by omega), zg_n (by omega), if_neg (by omega)]
theorem qM_undo_L156_e (e : zM → Option (Int32 × zM)) : ∀ (d v : Nat) (M : zM) (f : Nat), v + d = 24 → d < f → ∃ M', qM_undo_L156 e f M (nI v) = e M' ∧ M'.2 = M.2 ∧ ∀ k i j, M'.1 k i j = if i = 0 ∧ v ≤ j ∧ j < 24 ∧ 48 ≤ k ∧ k ≤ 48 then M.1 (k + 28) 0 j else M.1 k i j
  | 0, v, M, f + 1, hv, hf => by
    refine ⟨M, ?_, rfl, fun k i j => ?_⟩
    · unfold qM_undo_L156
      simp (disch := omega) only [↓reduceIte, zbnd_s, zchk_t, znm_e, zjn_e, if_true, if_false, ite_true, ite_false, Nat.zero_add, Nat.add_zero, Nat.mul_zero, Nat.zero_mul, Nat.mul_one, Nat.one_mul, zl0, zl1, zl2, zl3, zl4, zl5, zl6, zl7, zl8, zl9, zl10, zl11, zl12, zl13, zl14, zl16, zl18, zl19, zl20, zl22, zl24, zl30, zl32, zl33, zl36, zl38, zl40, zl41, zl48, zl50, zl51, zl57, zl59, zl60, zl61, zl62, zl70, zl71, zl99, zl100, zl103, zl104, zl105, zl106, zl107, zl108, zl109, zl110, zl111, zl112, zl113, zl114, zl115, zl116, zl124, zl127, zl255, zl999, zl1000, zl1001, zl1002, zl1003, ze_in, ze_ltt, ze_ltf, ze_let, ze_lef, ze_eqt, ze_eqf, ze_cl, ze_add, ze_mul, ze_sub, ze_div, ze_rem, ze_nz, ze_ngt, ze_nle, ze_neq, ze_neq', ze_nlt, ze_nle', zg_e, zg_n, zg_2, zgL_e, zgL_n, zgL_1]
    · rw [if_neg (by omega)]
  | d + 1, v, M, f + 1, hv, hf => by
    obtain ⟨M', g1, g2, g3⟩ := qM_undo_L156_e e d (v + 1) (zset M 48 0 v (M.1 76 0 v)) f (by omega) (by omega)
    refine ⟨M', ?_, ?_, fun k i j => ?_⟩
    · unfold qM_undo_L156
      simp (disch := omega) only [↓reduceIte, zbnd_s, zchk_t, znm_e, zjn_e, if_true, if_false, ite_true, ite_false, Nat.zero_add, Nat.add_zero, Nat.mul_zero, Nat.zero_mul, Nat.mul_one, Nat.one_mul, zl0, zl1, zl2, zl3, zl4, zl5, zl6, zl7, zl8, zl9, zl10, zl11, zl12, zl13, zl14, zl16, zl18, zl19, zl20, zl22, zl24, zl30, zl32, zl33, zl36, zl38, zl40, zl41, zl48, zl50, zl51, zl57, zl59, zl60, zl61, zl62, zl70, zl71, zl99, zl100, zl103, zl104, zl105, zl106, zl107, zl108, zl109, zl110, zl111, zl112, zl113, zl114, zl115, zl116, zl124, zl127, zl255, zl999, zl1000, zl1001, zl1002, zl1003, ze_in, ze_ltt, ze_ltf, ze_let, ze_lef, ze_eqt, ze_eqf, ze_cl, ze_add, ze_mul, ze_sub, ze_div, ze_rem, ze_nz, ze_ngt, ze_nle, ze_neq, ze_neq', ze_nlt, ze_nle', zg_e, zg_n, zg_2, zgL_e, zgL_n, zgL_1]
      exact g1
    · rw [g2]; rfl
    · rw [g3]
      by_cases e1 : i = 0 ∧ v + 1 ≤ j ∧ j < 24 ∧ 48 ≤ k ∧ k ≤ 48
      · rw [if_pos e1, if_pos (by omega), zg_n (by omega)]
      · rw [if_neg e1]
        by_cases e2 : i = 0 ∧ j = v ∧ 48 ≤ k ∧ k ≤ 48
        · obtain ⟨rfl, rfl, e3, e4⟩ := e2
          rw [if_pos (by omega)]
          obtain rfl : k = 48 := by omega
          · rw [zg_e (by omega)]
        · rw [zg_n (by omega), if_neg (by omega)]
theorem qM_undo_L182_e (e : zM → Option (Int32 × zM)) : ∀ (d v : Nat) (M : zM) (f : Nat), v + d = 3 → d < f → ∃ M', qM_undo_L182 e f M (nI v) = e M' ∧ M'.2 = M.2 ∧ ∀ k i j, M'.1 k i j = if i = 0 ∧ v ≤ j ∧ j < 3 ∧ 64 ≤ k ∧ k ≤ 64 then M.1 (k + 13) 0 j else M.1 k i j
  | 0, v, M, f + 1, hv, hf => by
    refine ⟨M, ?_, rfl, fun k i j => ?_⟩
    · unfold qM_undo_L182
      simp (disch := omega) only [↓reduceIte, zbnd_s, zchk_t, znm_e, zjn_e, if_true, if_false, ite_true, ite_false, Nat.zero_add, Nat.add_zero, Nat.mul_zero, Nat.zero_mul, Nat.mul_one, Nat.one_mul, zl0, zl1, zl2, zl3, zl4, zl5, zl6, zl7, zl8, zl9, zl10, zl11, zl12, zl13, zl14, zl16, zl18, zl19, zl20, zl22, zl24, zl30, zl32, zl33, zl36, zl38, zl40, zl41, zl48, zl50, zl51, zl57, zl59, zl60, zl61, zl62, zl70, zl71, zl99, zl100, zl103, zl104, zl105, zl106, zl107, zl108, zl109, zl110, zl111, zl112, zl113, zl114, zl115, zl116, zl124, zl127, zl255, zl999, zl1000, zl1001, zl1002, zl1003, ze_in, ze_ltt, ze_ltf, ze_let, ze_lef, ze_eqt, ze_eqf, ze_cl, ze_add, ze_mul, ze_sub, ze_div, ze_rem, ze_nz, ze_ngt, ze_nle, ze_neq, ze_neq', ze_nlt, ze_nle', zg_e, zg_n, zg_2, zgL_e, zgL_n, zgL_1]
    · rw [if_neg (by omega)]
  | d + 1, v, M, f + 1, hv, hf => by
    obtain ⟨M', g1, g2, g3⟩ := qM_undo_L182_e e d (v + 1) (zset M 64 0 v (M.1 77 0 v)) f (by omega) (by omega)
    refine ⟨M', ?_, ?_, fun k i j => ?_⟩
    · unfold qM_undo_L182
      simp (disch := omega) only [↓reduceIte, zbnd_s, zchk_t, znm_e, zjn_e, if_true, if_false, ite_true, ite_false, Nat.zero_add, Nat.add_zero, Nat.mul_zero, Nat.zero_mul, Nat.mul_one, Nat.one_mul, zl0, zl1, zl2, zl3, zl4, zl5, zl6, zl7, zl8, zl9, zl10, zl11, zl12, zl13, zl14, zl16, zl18, zl19, zl20, zl22, zl24, zl30, zl32, zl33, zl36, zl38, zl40, zl41, zl48, zl50, zl51, zl57, zl59, zl60, zl61, zl62, zl70, zl71, zl99, zl100, zl103, zl104, zl105, zl106, zl107, zl108, zl109, zl110, zl111, zl112, zl113, zl114, zl115, zl116, zl124, zl127, zl255, zl999, zl1000, zl1001, zl1002, zl1003, ze_in, ze_ltt, ze_ltf, ze_let, ze_lef, ze_eqt, ze_eqf, ze_cl, ze_add, ze_mul, ze_sub, ze_div, ze_rem, ze_nz, ze_ngt, ze_nle, ze_neq, ze_neq', ze_nlt, ze_nle', zg_e, zg_n, zg_2, zgL_e, zgL_n, zgL_1]
      exact g1
    · rw [g2]; rfl
    · rw [g3]
      by_cases e1 : i = 0 ∧ v + 1 ≤ j ∧ j < 3 ∧ 64 ≤ k ∧ k ≤ 64
      · rw [if_pos e1, if_pos (by omega), zg_n (by omega)]
      · rw [if_neg e1]
        by_cases e2 : i = 0 ∧ j = v ∧ 64 ≤ k ∧ k ≤ 64
        · obtain ⟨rfl, rfl, e3, e4⟩ := e2
          rw [if_pos (by omega)]
          obtain rfl : k = 64 := by omega
          · rw [zg_e (by omega)]
        · rw [zg_n (by omega), if_neg (by omega)]
theorem qM_undo_L207_e : ∀ (d v : Nat) (M : zM) (f : Nat), v + d = 12 → d < f → ∃ M', qM_undo_L207 f M (nI v) = some (M'.1 40 0 0, M') ∧ M'.2 = M.2 ∧ ∀ k i j, M'.1 k i j = if i = 0 ∧ v ≤ j ∧ j < 12 ∧ 66 ≤ k ∧ k ≤ 68 then M.1 (k + 12) 0 j else M.1 k i j
  | 0, v, M, f + 1, hv, hf => by
    refine ⟨M, ?_, rfl, fun k i j => ?_⟩
    · unfold qM_undo_L207
      simp (disch := omega) only [↓reduceIte, zbnd_s, zchk_t, znm_e, zjn_e, if_true, if_false, ite_true, ite_false, Nat.zero_add, Nat.add_zero, Nat.mul_zero, Nat.zero_mul, Nat.mul_one, Nat.one_mul, zl0, zl1, zl2, zl3, zl4, zl5, zl6, zl7, zl8, zl9, zl10, zl11, zl12, zl13, zl14, zl16, zl18, zl19, zl20, zl22, zl24, zl30, zl32, zl33, zl36, zl38, zl40, zl41, zl48, zl50, zl51, zl57, zl59, zl60, zl61, zl62, zl70, zl71, zl99, zl100, zl103, zl104, zl105, zl106, zl107, zl108, zl109, zl110, zl111, zl112, zl113, zl114, zl115, zl116, zl124, zl127, zl255, zl999, zl1000, zl1001, zl1002, zl1003, ze_in, ze_ltt, ze_ltf, ze_let, ze_lef, ze_eqt, ze_eqf, ze_cl, ze_add, ze_mul, ze_sub, ze_div, ze_rem, ze_nz, ze_ngt, ze_nle, ze_neq, ze_neq', ze_nlt, ze_nle', zg_e, zg_n, zg_2, zgL_e, zgL_n, zgL_1]
    · rw [if_neg (by omega)]
  | d + 1, v, M, f + 1, hv, hf => by
    obtain ⟨M', g1, g2, g3⟩ := qM_undo_L207_e d (v + 1) (zset (zset (zset M 66 0 v (M.1 78 0 v)) 67 0 v (M.1 79 0 v)) 68 0 v (M.1 80 0 v)) f (by omega) (by omega)
    refine ⟨M', ?_, ?_, fun k i j => ?_⟩
    · unfold qM_undo_L207
      simp (disch := omega) only [↓reduceIte, zbnd_s, zchk_t, znm_e, zjn_e, if_true, if_false, ite_true, ite_false, Nat.zero_add, Nat.add_zero, Nat.mul_zero, Nat.zero_mul, Nat.mul_one, Nat.one_mul, zl0, zl1, zl2, zl3, zl4, zl5, zl6, zl7, zl8, zl9, zl10, zl11, zl12, zl13, zl14, zl16, zl18, zl19, zl20, zl22, zl24, zl30, zl32, zl33, zl36, zl38, zl40, zl41, zl48, zl50, zl51, zl57, zl59, zl60, zl61, zl62, zl70, zl71, zl99, zl100, zl103, zl104, zl105, zl106, zl107, zl108, zl109, zl110, zl111, zl112, zl113, zl114, zl115, zl116, zl124, zl127, zl255, zl999, zl1000, zl1001, zl1002, zl1003, ze_in, ze_ltt, ze_ltf, ze_let, ze_lef, ze_eqt, ze_eqf, ze_cl, ze_add, ze_mul, ze_sub, ze_div, ze_rem, ze_nz, ze_ngt, ze_nle, ze_neq, ze_neq', ze_nlt, ze_nle', zg_e, zg_n, zg_2, zgL_e, zgL_n, zgL_1]
      exact g1
    · rw [g2]; rfl
    · rw [g3]
      by_cases e1 : i = 0 ∧ v + 1 ≤ j ∧ j < 12 ∧ 66 ≤ k ∧ k ≤ 68
      · rw [if_pos e1, if_pos (by omega), zg_n (by omega), zg_n (by omega), zg_n (by omega)]
      · rw [if_neg e1]
        by_cases e2 : i = 0 ∧ j = v ∧ 66 ≤ k ∧ k ≤ 68
        · obtain ⟨rfl, rfl, e3, e4⟩ := e2
          rw [if_pos (by omega)]
          rcases (show k = 66 ∨ k = 67 ∨ k = 68 by omega) with rfl | rfl | rfl
          · rw [zg_n (by omega), zg_n (by omega), zg_e (by omega)]
          · rw [zg_n (by omega), zg_e (by omega)]
          · rw [zg_e (by omega)]
        · rw [zg_n (by omega), zg_n (by omega), zg_n (by omega), if_neg (by omega)]
