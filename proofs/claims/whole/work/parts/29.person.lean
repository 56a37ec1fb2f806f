theorem pb_loop1 (r0 : Nat) (e : zM → Option (Unit × zM)) : ∀ (d v : Nat) (M : zM) (f : Nat), v + d = 3 → d < f → ∃ M', qN_begin_L22 r0 e f M (nI v) = e M' ∧ M'.2 = M.2 ∧ ∀ k i j, M'.1 k i j = if k = 3 ∧ i = r0 ∧ v ≤ j ∧ j < 3 then nI 50 else if k = 4 ∧ i = r0 ∧ v ≤ j ∧ j < 3 then nI 5 else if k = 5 ∧ i = r0 ∧ v ≤ j ∧ j < 3 then nI j else M.1 k i j
  | 0, v, M, f + 1, hv, hf => by
    refine ⟨M, ?_, rfl, fun k i j => ?_⟩
    · unfold qN_begin_L22
      simp (disch := omega) only [↓reduceIte, zbnd_s, zchk_t, znm_e, zjn_e, if_true, if_false, ite_true, ite_false, Nat.zero_add, Nat.add_zero, Nat.mul_zero, Nat.zero_mul, Nat.mul_one, Nat.one_mul, zl0, zl1, zl2, zl3, zl4, zl5, zl6, zl7, zl8, zl9, zl10, zl11, zl12, zl13, zl14, zl16, zl18, zl19, zl20, zl22, zl24, zl30, zl32, zl33, zl36, zl38, zl40, zl41, zl48, zl50, zl51, zl57, zl59, zl60, zl61, zl62, zl70, zl71, zl99, zl100, zl103, zl104, zl105, zl106, zl107, zl108, zl109, zl110, zl111, zl112, zl113, zl114, zl115, zl116, zl124, zl127, zl255, zl999, zl1000, zl1001, zl1002, zl1003, ze_in, ze_ltt, ze_ltf, ze_let, ze_lef, ze_eqt, ze_eqf, ze_cl, ze_add, ze_mul, ze_sub, ze_div, ze_rem, ze_nz, ze_ngt, ze_nle, ze_neq, ze_neq', ze_nlt, ze_nle', zg_e, zg_n, zg_2, zgL_e, zgL_n, zgL_1]
    · rw [if_neg (by omega), if_neg (by omega), if_neg (by omega)]
  | d + 1, v, M, f + 1, hv, hf => by
    obtain ⟨M', g1, g2, g3⟩ := pb_loop1 r0 e d (v + 1) (zset (zset (zset M 3 r0 v (nI 50)) 4 r0 v (nI 5)) 5 r0 v (nI v)) f (by omega) (by omega)
    refine ⟨M', ?_, ?_, fun k i j => ?_⟩
    · unfold qN_begin_L22
      simp (disch := omega) only [↓reduceIte, zbnd_s, zchk_t, znm_e, zjn_e, if_true, if_false, ite_true, ite_false, Nat.zero_add, Nat.add_zero, Nat.mul_zero, Nat.zero_mul, Nat.mul_one, Nat.one_mul, zl0, zl1, zl2, zl3, zl4, zl5, zl6, zl7, zl8, zl9, zl10, zl11, zl12, zl13, zl14, zl16, zl18, zl19, zl20, zl22, zl24, zl30, zl32, zl33, zl36, zl38, zl40, zl41, zl48, zl50, zl51, zl57, zl59, zl60, zl61, zl62, zl70, zl71, zl99, zl100, zl103, zl104, zl105, zl106, zl107, zl108, zl109, zl110, zl111, zl112, zl113, zl114, zl115, zl116, zl124, zl127, zl255, zl999, zl1000, zl1001, zl1002, zl1003, ze_in, ze_ltt, ze_ltf, ze_let, ze_lef, ze_eqt, ze_eqf, ze_cl, ze_add, ze_mul, ze_sub, ze_div, ze_rem, ze_nz, ze_ngt, ze_nle, ze_neq, ze_neq', ze_nlt, ze_nle', zg_e, zg_n, zg_2, zgL_e, zgL_n, zgL_1]
      exact g1
    · rw [g2]; rfl
    · rw [g3]
      by_cases e1 : i = r0 ∧ v + 1 ≤ j ∧ j < 3 ∧ (k = 3 ∨ k = 4 ∨ k = 5)
      · obtain ⟨e1, e2, e3, e4⟩ := e1
        rcases e4 with e4 | e4 | e4
        · rw [if_pos (by omega), if_pos (by omega)]
        · rw [if_neg (by omega), if_pos (by omega), if_neg (by omega), if_pos (by omega)]
        · rw [if_neg (by omega), if_neg (by omega), if_pos (by omega), if_neg (by omega), if_neg (by omega), if_pos (by omega)]
      · rw [if_neg (by omega), if_neg (by omega), if_neg (by omega)]
        by_cases e2 : i = r0 ∧ j = v ∧ (k = 3 ∨ k = 4 ∨ k = 5)
        · obtain ⟨e2, e3, e4⟩ := e2
          rcases e4 with e4 | e4 | e4
          · rw [zg_n (by omega), zg_n (by omega), zg_e (by omega), if_pos (by omega)]
          · rw [zg_n (by omega), zg_e (by omega), if_neg (by omega), if_pos (by omega)]
          · rw [zg_e (by omega), if_neg (by omega), if_neg (by omega), if_pos (by omega), e3]
        · rw [zg_n (by omega), zg_n (by omega), zg_n (by omega), if_neg (by omega), if_neg (by omega), if_neg (by omega)]
theorem pb_loop2 (r0 : Nat) : ∀ (d v : Nat) (M : zM) (f : Nat), v + d = 4 → d < f → ∃ M', qN_begin_L57 r0 f M (nI v) = some ((), M') ∧ M'.2 = M.2 ∧ ∀ k i j, M'.1 k i j = if k = 6 ∧ i = r0 ∧ v ≤ j ∧ j < 4 then nI 0 else M.1 k i j
  | 0, v, M, f + 1, hv, hf => by
    refine ⟨M, ?_, rfl, fun k i j => ?_⟩
    · unfold qN_begin_L57
      simp (disch := omega) only [↓reduceIte, zbnd_s, zchk_t, znm_e, zjn_e, if_true, if_false, ite_true, ite_false, Nat.zero_add, Nat.add_zero, Nat.mul_zero, Nat.zero_mul, Nat.mul_one, Nat.one_mul, zl0, zl1, zl2, zl3, zl4, zl5, zl6, zl7, zl8, zl9, zl10, zl11, zl12, zl13, zl14, zl16, zl18, zl19, zl20, zl22, zl24, zl30, zl32, zl33, zl36, zl38, zl40, zl41, zl48, zl50, zl51, zl57, zl59, zl60, zl61, zl62, zl70, zl71, zl99, zl100, zl103, zl104, zl105, zl106, zl107, zl108, zl109, zl110, zl111, zl112, zl113, zl114, zl115, zl116, zl124, zl127, zl255, zl999, zl1000, zl1001, zl1002, zl1003, ze_in, ze_ltt, ze_ltf, ze_let, ze_lef, ze_eqt, ze_eqf, ze_cl, ze_add, ze_mul, ze_sub, ze_div, ze_rem, ze_nz, ze_ngt, ze_nle, ze_neq, ze_neq', ze_nlt, ze_nle', zg_e, zg_n, zg_2, zgL_e, zgL_n, zgL_1]
    · rw [if_neg (by omega)]
  | d + 1, v, M, f + 1, hv, hf => by
    obtain ⟨M', g1, g2, g3⟩ := pb_loop2 r0 d (v + 1) (zset M 6 r0 v (nI 0)) f (by omega) (by omega)
    refine ⟨M', ?_, ?_, fun k i j => ?_⟩
    · unfold qN_begin_L57
      simp (disch := omega) only [↓reduceIte, zbnd_s, zchk_t, znm_e, zjn_e, if_true, if_false, ite_true, ite_false, Nat.zero_add, Nat.add_zero, Nat.mul_zero, Nat.zero_mul, Nat.mul_one, Nat.one_mul, zl0, zl1, zl2, zl3, zl4, zl5, zl6, zl7, zl8, zl9, zl10, zl11, zl12, zl13, zl14, zl16, zl18, zl19, zl20, zl22, zl24, zl30, zl32, zl33, zl36, zl38, zl40, zl41, zl48, zl50, zl51, zl57, zl59, zl60, zl61, zl62, zl70, zl71, zl99, zl100, zl103, zl104, zl105, zl106, zl107, zl108, zl109, zl110, zl111, zl112, zl113, zl114, zl115, zl116, zl124, zl127, zl255, zl999, zl1000, zl1001, zl1002, zl1003, ze_in, ze_ltt, ze_ltf, ze_let, ze_lef, ze_eqt, ze_eqf, ze_cl, ze_add, ze_mul, ze_sub, ze_div, ze_rem, ze_nz, ze_ngt, ze_nle, ze_neq, ze_neq', ze_nlt, ze_nle', zg_e, zg_n, zg_2, zgL_e, zgL_n, zgL_1]
      exact g1
    · rw [g2]; rfl
    · rw [g3]
      by_cases e1 : k = 6 ∧ i = r0 ∧ v + 1 ≤ j ∧ j < 4
      · rw [if_pos e1, if_pos (by omega)]
      · rw [if_neg e1]
        by_cases e2 : k = 6 ∧ i = r0 ∧ j = v
        · rw [zg_e (by omega), if_pos (by omega)]
        · rw [zg_n (by omega), if_neg (by omega)]
theorem qN_begin_e (M : zM) (r0 : Nat) (a0 a1 : Int32) : ∃ M', qN_begin M r0 a0 a1 = some ((), M') ∧ M'.2 = M.2 ∧ (∀ k i j, ¬ (i = r0 ∧ 2 ≤ k ∧ k ≤ 6) ∨ (k = 2 ∧ j = 0) → M'.1 k i j = M.1 k i j) ∧ M'.1 2 r0 1 = a0 ∧ M'.1 2 r0 2 = a1 ∧ M'.1 2 r0 3 = nI 0 ∧ M'.1 2 r0 4 = nI 0 ∧
    (∀ t, t < 3 → M'.1 3 r0 t = nI 50) ∧ (∀ t, t < 3 → M'.1 4 r0 t = nI 5) ∧ (∀ t, t < 3 → M'.1 5 r0 t = nI t) ∧ ∀ t, t < 4 → M'.1 6 r0 t = nI 0 := by
  obtain ⟨M1, f1, f2, f3⟩ := pb_loop1 r0 (fun (M8 : zM) => qN_begin_L57 r0 1000 M8 (nI 0)) 3 0 (zset (zset (zset (zset M 2 r0 1 a0) 2 r0 2 a1) 2 r0 3 (nI 0)) 2 r0 4 (nI 0)) 1000 (by omega) (by omega)
  obtain ⟨M2, g1, g2, g3⟩ := pb_loop2 r0 4 0 M1 1000 (by omega) (by omega)
  refine ⟨M2, ?_, ?_, fun k i j hk => ?_, ?_, ?_, ?_, ?_, fun t ht => ?_, fun t ht => ?_, fun t ht => ?_, fun t ht => ?_⟩
  · unfold qN_begin
    simp only [zl0, zl1, zl2, zl3, zl4, zl5, zl6, zl7, zl8, zl9, zl10, zl11, zl12, zl13, zl14, zl16, zl18, zl19, zl20, zl22, zl24, zl30, zl32, zl33, zl36, zl38, zl40, zl41, zl48, zl50, zl51, zl57, zl59, zl60, zl61, zl62, zl70, zl71, zl99, zl100, zl103, zl104, zl105, zl106, zl107, zl108, zl109, zl110, zl111, zl112, zl113, zl114, zl115, zl116, zl124, zl127, zl255, zl999, zl1000, zl1001, zl1002, zl1003, znm_e]
    exact f1.trans g1
  · rw [g2, f2]; rfl
  · rw [g3, if_neg (by omega), f3, if_neg (by omega), if_neg (by omega), if_neg (by omega), zg_n (by omega), zg_n (by omega), zg_n (by omega), zg_n (by omega)]
  · rw [g3, if_neg (by omega), f3, if_neg (by omega), if_neg (by omega), if_neg (by omega), zg_n (by omega), zg_n (by omega), zg_n (by omega), zg_e (by omega)]
  · rw [g3, if_neg (by omega), f3, if_neg (by omega), if_neg (by omega), if_neg (by omega), zg_n (by omega), zg_n (by omega), zg_e (by omega)]
  · rw [g3, if_neg (by omega), f3, if_neg (by omega), if_neg (by omega), if_neg (by omega), zg_n (by omega), zg_e (by omega)]
  · rw [g3, if_neg (by omega), f3, if_neg (by omega), if_neg (by omega), if_neg (by omega), zg_e (by omega)]
  · rw [g3, if_neg (by omega), f3, if_pos (by omega)]
  · rw [g3, if_neg (by omega), f3, if_neg (by omega), if_pos (by omega)]
  · rw [g3, if_neg (by omega), f3, if_neg (by omega), if_neg (by omega), if_pos (by omega)]
  · rw [g3, if_pos (by omega)]
theorem pm_loop1 (n : Nat) (hn : n < 6) (e : zM → Option (Int32 × zM)) : ∀ (d v : Nat) (M : zM) (f : Nat), M.1 40 0 0 = nI n → v + d = 3 → d < f → ∃ M', qM_person_L81 e f M (nI v) = e M' ∧ M'.2 = M.2 ∧ ∀ k i j, M'.1 k i j = if k = 45 ∧ i = 0 ∧ 3 * n + v ≤ j ∧ j < 3 * n + 3 then nI 50 else if k = 46 ∧ i = 0 ∧ 3 * n + v ≤ j ∧ j < 3 * n + 3 then nI 5 else if k = 47 ∧ i = 0 ∧ 3 * n + v ≤ j ∧ j < 3 * n + 3 then nI (j - 3 * n) else M.1 k i j
  | 0, v, M, f + 1, hM, hv, hf => by
    refine ⟨M, ?_, rfl, fun k i j => ?_⟩
    · unfold qM_person_L81
      simp (disch := omega) only [↓reduceIte, zbnd_s, zchk_t, znm_e, zjn_e, if_true, if_false, ite_true, ite_false, Nat.zero_add, Nat.add_zero, Nat.mul_zero, Nat.zero_mul, Nat.mul_one, Nat.one_mul, zl0, zl1, zl2, zl3, zl4, zl5, zl6, zl7, zl8, zl9, zl10, zl11, zl12, zl13, zl14, zl16, zl18, zl19, zl20, zl22, zl24, zl30, zl32, zl33, zl36, zl38, zl40, zl41, zl48, zl50, zl51, zl57, zl59, zl60, zl61, zl62, zl70, zl71, zl99, zl100, zl103, zl104, zl105, zl106, zl107, zl108, zl109, zl110, zl111, zl112, zl113, zl114, zl115, zl116, zl124, zl127, zl255, zl999, zl1000, zl1001, zl1002, zl1003, ze_in, ze_ltt, ze_ltf, ze_let, ze_lef, ze_eqt, ze_eqf, ze_cl, ze_add, ze_mul, ze_sub, ze_div, ze_rem, ze_nz, ze_ngt, ze_nle, ze_neq, ze_neq', ze_nlt, ze_nle', zg_e, zg_n, zg_2, zgL_e, zgL_n, zgL_1]
    · rw [if_neg (by omega), if_neg (by omega), if_neg (by omega)]
  | d + 1, v, M, f + 1, hM, hv, hf => by
    obtain ⟨M', g1, g2, g3⟩ := pm_loop1 n hn e d (v + 1) (zset (zset (zset M 45 0 (3 * n + v) (nI 50)) 46 0 (3 * n + v) (nI 5)) 47 0 (3 * n + v) (nI v)) f (by rw [zg_n (by omega), zg_n (by omega), zg_n (by omega)]; exact hM) (by omega) (by omega)
    refine ⟨M', ?_, ?_, fun k i j => ?_⟩
    · unfold qM_person_L81
      simp (disch := omega) only [↓reduceIte, zbnd_s, zchk_t, znm_e, zjn_e, if_true, if_false, ite_true, ite_false, Nat.zero_add, Nat.add_zero, Nat.mul_zero, Nat.zero_mul, Nat.mul_one, Nat.one_mul, zl0, zl1, zl2, zl3, zl4, zl5, zl6, zl7, zl8, zl9, zl10, zl11, zl12, zl13, zl14, zl16, zl18, zl19, zl20, zl22, zl24, zl30, zl32, zl33, zl36, zl38, zl40, zl41, zl48, zl50, zl51, zl57, zl59, zl60, zl61, zl62, zl70, zl71, zl99, zl100, zl103, zl104, zl105, zl106, zl107, zl108, zl109, zl110, zl111, zl112, zl113, zl114, zl115, zl116, zl124, zl127, zl255, zl999, zl1000, zl1001, zl1002, zl1003, ze_in, ze_ltt, ze_ltf, ze_let, ze_lef, ze_eqt, ze_eqf, ze_cl, ze_add, ze_mul, ze_sub, ze_div, ze_rem, ze_nz, ze_ngt, ze_nle, ze_neq, ze_neq', ze_nlt, ze_nle', zg_e, zg_n, zg_2, zgL_e, zgL_n, zgL_1, hM]
      exact g1
    · rw [g2]; rfl
    · rw [g3]
      by_cases e1 : i = 0 ∧ 3 * n + (v + 1) ≤ j ∧ j < 3 * n + 3 ∧ (k = 45 ∨ k = 46 ∨ k = 47)
      · obtain ⟨e1, e2, e3, e4⟩ := e1
        rcases e4 with e4 | e4 | e4
        · rw [if_pos (by omega), if_pos (by omega)]
        · rw [if_neg (by omega), if_pos (by omega), if_neg (by omega), if_pos (by omega)]
        · rw [if_neg (by omega), if_neg (by omega), if_pos (by omega), if_neg (by omega), if_neg (by omega), if_pos (by omega)]
      · rw [if_neg (by omega), if_neg (by omega), if_neg (by omega)]
        by_cases e2 : i = 0 ∧ j = 3 * n + v ∧ (k = 45 ∨ k = 46 ∨ k = 47)
        · obtain ⟨e2, e3, e4⟩ := e2
          rcases e4 with e4 | e4 | e4
          · rw [zg_n (by omega), zg_n (by omega), zg_e (by omega), if_pos (by omega)]
          · rw [zg_n (by omega), zg_e (by omega), if_neg (by omega), if_pos (by omega)]
          · rw [zg_e (by omega), if_neg (by omega), if_neg (by omega), if_pos (by omega), e3, show 3 * n + v - 3 * n = v by omega]
        · rw [zg_n (by omega), zg_n (by omega), zg_n (by omega), if_neg (by omega), if_neg (by omega), if_neg (by omega)]
theorem pm_loop2 (n : Nat) (hn : n < 6) (e : zM → Option (Int32 × zM)) : ∀ (d v : Nat) (M : zM) (f : Nat), M.1 40 0 0 = nI n → v + d = 4 → d < f → ∃ M', qM_person_L137 e f M (nI v) = e M' ∧ M'.2 = M.2 ∧ ∀ k i j, M'.1 k i j = if k = 48 ∧ i = 0 ∧ 4 * n + v ≤ j ∧ j < 4 * n + 4 then nI 0 else M.1 k i j
  | 0, v, M, f + 1, hM, hv, hf => by
    refine ⟨M, ?_, rfl, fun k i j => ?_⟩
    · unfold qM_person_L137
      simp (disch := omega) only [↓reduceIte, zbnd_s, zchk_t, znm_e, zjn_e, if_true, if_false, ite_true, ite_false, Nat.zero_add, Nat.add_zero, Nat.mul_zero, Nat.zero_mul, Nat.mul_one, Nat.one_mul, zl0, zl1, zl2, zl3, zl4, zl5, zl6, zl7, zl8, zl9, zl10, zl11, zl12, zl13, zl14, zl16, zl18, zl19, zl20, zl22, zl24, zl30, zl32, zl33, zl36, zl38, zl40, zl41, zl48, zl50, zl51, zl57, zl59, zl60, zl61, zl62, zl70, zl71, zl99, zl100, zl103, zl104, zl105, zl106, zl107, zl108, zl109, zl110, zl111, zl112, zl113, zl114, zl115, zl116, zl124, zl127, zl255, zl999, zl1000, zl1001, zl1002, zl1003, ze_in, ze_ltt, ze_ltf, ze_let, ze_lef, ze_eqt, ze_eqf, ze_cl, ze_add, ze_mul, ze_sub, ze_div, ze_rem, ze_nz, ze_ngt, ze_nle, ze_neq, ze_neq', ze_nlt, ze_nle', zg_e, zg_n, zg_2, zgL_e, zgL_n, zgL_1]
    · rw [if_neg (by omega)]
  | d + 1, v, M, f + 1, hM, hv, hf => by
    obtain ⟨M', g1, g2, g3⟩ := pm_loop2 n hn e d (v + 1) (zset M 48 0 (4 * n + v) (nI 0)) f (by rw [zg_n (by omega)]; exact hM) (by omega) (by omega)
    refine ⟨M', ?_, ?_, fun k i j => ?_⟩
    · unfold qM_person_L137
      simp (disch := omega) only [↓reduceIte, zbnd_s, zchk_t, znm_e, zjn_e, if_true, if_false, ite_true, ite_false, Nat.zero_add, Nat.add_zero, Nat.mul_zero, Nat.zero_mul, Nat.mul_one, Nat.one_mul, zl0, zl1, zl2, zl3, zl4, zl5, zl6, zl7, zl8, zl9, zl10, zl11, zl12, zl13, zl14, zl16, zl18, zl19, zl20, zl22, zl24, zl30, zl32, zl33, zl36, zl38, zl40, zl41, zl48, zl50, zl51, zl57, zl59, zl60, zl61, zl62, zl70, zl71, zl99, zl100, zl103, zl104, zl105, zl106, zl107, zl108, zl109, zl110, zl111, zl112, zl113, zl114, zl115, zl116, zl124, zl127, zl255, zl999, zl1000, zl1001, zl1002, zl1003, ze_in, ze_ltt, ze_ltf, ze_let, ze_lef, ze_eqt, ze_eqf, ze_cl, ze_add, ze_mul, ze_sub, ze_div, ze_rem, ze_nz, ze_ngt, ze_nle, ze_neq, ze_neq', ze_nlt, ze_nle', zg_e, zg_n, zg_2, zgL_e, zgL_n, zgL_1, hM]
      exact g1
    · rw [g2]; rfl
    · rw [g3]
      by_cases e1 : k = 48 ∧ i = 0 ∧ 4 * n + (v + 1) ≤ j ∧ j < 4 * n + 4
      · rw [if_pos e1, if_pos (by omega)]
      · rw [if_neg e1]
        by_cases e2 : k = 48 ∧ i = 0 ∧ j = 4 * n + v
        · rw [zg_e (by omega), if_pos (by omega)]
        · rw [zg_n (by omega), if_neg (by omega)]
theorem st_person (c m : zM) (a0 a1 : Int32) (h : Rl c m) : ∃ (r : Int32) (c1 m1 : zM), qG_person c a0 a1 = some (r, c1) ∧ qM_person m a0 a1 = some (r, m1) ∧ Rl c1 m1 := by
  obtain ⟨n, rd, bk, ec, tl, ev, h1, h2, h3, h4, h5, h6, h7, h8, h9, h10, h11, h12, h13⟩ := h; obtain ⟨b1, b2, b3, b4, b5, b6⟩ := h1; have h1 : Rb1 n rd bk ec tl ev := ⟨b1, b2, b3, b4, b5, b6⟩; obtain ⟨c1, c2, c3, c4, c5, c6⟩ := h2; have h2 : Rb2 c n rd bk ec tl ev := ⟨c1, c2, c3, c4, c5, c6⟩; obtain ⟨m1, m2, m3, m4, m5, m6, m7⟩ := h3; have h3 : Rb3 m n rd bk ec tl ev := ⟨m1, m2, m3, m4, m5, m6, m7⟩
  unfold qG_person qM_person
  simp only [zl0, zl1, zl2, zl3, zl4, zl5, zl6, zl7, zl8, zl9, zl10, zl11, zl12, zl13, zl14, zl16, zl18, zl19, zl20, zl22, zl24, zl30, zl32, zl33, zl36, zl38, zl40, zl41, zl48, zl50, zl51, zl57, zl59, zl60, zl61, zl62, zl70, zl71, zl99, zl100, zl103, zl104, zl105, zl106, zl107, zl108, zl109, zl110, zl111, zl112, zl113, zl114, zl115, zl116, zl124, zl127, zl255, zl999, zl1000, zl1001, zl1002, zl1003]
  rcases zcase a0 (n := 7) (by omega) with g | ⟨k, hk, rfl⟩
  · rw [zno_i2 g (by omega), zb_n (qM_in_no _ (h := 6) rfl (by omega) g)]
    exact ⟨_, c, m, rfl, rfl, n, rd, bk, ec, tl, ev, h1, h2, h3, h4, h5, h6, h7, h8, h9, h10, h11, h12, h13⟩
  rw [if_neg (nI_nlt (by omega) (by omega)), if_pos (nI_lt hk (by omega)), zb_y (qM_in_ok _ (h := 6) (by omega) (by omega))]
  rcases zcase a1 (n := 10) (by omega) with g | ⟨x, hx, rfl⟩
  · rw [zno_i3 g (k := 9) rfl (by omega), zb_n (qM_in_no _ (h := 9) rfl (by omega) g)]
    exact ⟨_, c, m, rfl, rfl, n, rd, bk, ec, tl, ev, h1, h2, h3, h4, h5, h6, h7, h8, h9, h10, h11, h12, h13⟩
  rw [if_neg (nI_nlt (by omega) (by omega)), if_pos (nI_le (show x ≤ 9 by omega) (by omega)), zb_y (qM_in_ok _ (h := 9) (by omega) (by omega)), c1, m1]
  by_cases hn : n = 6
  · rw [if_neg (nI_nlt (by omega) (by omega)), if_pos (by rw [hn])]
    exact ⟨_, c, m, rfl, rfl, n, rd, bk, ec, tl, ev, h1, h2, h3, h4, h5, h6, h7, h8, h9, h10, h11, h12, h13⟩
  have hn6 : n < 6 := by omega
  rw [if_pos (nI_lt hn6 (by omega)), if_neg (znI_ne (by omega) (by omega) hn)]
  obtain ⟨C1, d1, d2, d3, d4, d5, d6, d7, d8, d9, d10, d11⟩ := qN_begin_e c n (nI k) (nI x)
  have d0 : C1.1 1 0 1 = nI n := by rw [d3 _ _ _ (by omega), c1]
  obtain ⟨M1, e1, e2, e3⟩ := pm_loop1 n hn6 (fun (M14 : zM)  => qM_person_L137 (fun (M16 : zM)  => znm (zset M16 40 0 0 ((M16.1 40 0 0) + nI 1)) fun M17 => some (((M17.1 40 0 0) - nI 1), M17)) 1000 M14 (nI 0)) 3 0 (zset (zset (zset (zset m 41 0 n (nI k)) 42 0 n (nI x)) 43 0 n (nI 0)) 44 0 n (nI 0)) 1000 (by rw [zg_n (by omega), zg_n (by omega), zg_n (by omega), zg_n (by omega)]; exact m1) (by omega) (by omega)
  have e0 : M1.1 40 0 0 = nI n := by rw [e3, if_neg (by omega), if_neg (by omega), if_neg (by omega), zg_n (by omega), zg_n (by omega), zg_n (by omega), zg_n (by omega), m1]
  obtain ⟨M2, f1, f2, f3⟩ := pm_loop2 n hn6 (fun (M16 : zM)  => znm (zset M16 40 0 0 ((M16.1 40 0 0) + nI 1)) fun M17 => some (((M17.1 40 0 0) - nI 1), M17)) 4 0 M1 1000 e0 (by omega) (by omega)
  have f0 : M2.1 40 0 0 = nI n := by rw [f3, if_neg (by omega), e0]
  refine ⟨nI n, zset C1 1 0 1 (nI (n + 1)), zset M2 40 0 0 (nI (n + 1)), ?_, ?_, ?_⟩
  · unfold qP_join
    simp only [zl0, zl1, zl2, zl3, zl4, zl5, zl6, zl7, zl8, zl9, zl10, zl11, zl12, zl13, zl14, zl16, zl18, zl19, zl20, zl22, zl24, zl30, zl32, zl33, zl36, zl38, zl40, zl41, zl48, zl50, zl51, zl57, zl59, zl60, zl61, zl62, zl70, zl71, zl99, zl100, zl103, zl104, zl105, zl106, zl107, zl108, zl109, zl110, zl111, zl112, zl113, zl114, zl115, zl116, zl124, zl127, zl255, zl999, zl1000, zl1001, zl1002, zl1003]
    rw [c1, zchk_e (ze_in hn6 (by omega)), znm_e, ze_cl (by omega), Nat.mul_zero, Nat.zero_add, d1, zbnd_s, znm_e, zg_e (by omega), d0, ze_add, pk_sub (by omega)]
    rfl
  · refine Eq.trans ?_ (e1.trans (f1.trans ?_))
    · simp (disch := omega) only [m1, zchk_t, ze_in, ze_cl, znm_e, zg_n]
    · simp only [znm_e]
      rw [f0, zg_e (by omega), ze_add, pk_sub (by omega)]
      rfl
  have C : ∀ k i j, ¬ (i = n ∧ 2 ≤ k ∧ k ≤ 6) ∨ (k = 2 ∧ j = 0) → ¬ (k = 1 ∧ i = 0 ∧ j = 1) → (zset C1 1 0 1 (nI (n + 1))).1 k i j = c.1 k i j := by
    intro k i j h1 h2
    rw [zg_n (by omega), d3 _ _ _ (by omega)]
  have N : ∀ k j, ¬ (k = 40 ∧ j = 0) → ¬ (41 ≤ k ∧ k ≤ 44 ∧ j = n) → ¬ (45 ≤ k ∧ k ≤ 47 ∧ 3 * n ≤ j ∧ j < 3 * n + 3) → ¬ (k = 48 ∧ 4 * n ≤ j ∧ j < 4 * n + 4) → (zset M2 40 0 0 (nI (n + 1))).1 k 0 j = m.1 k 0 j := by
    intro k j h1 h2 h3 h4
    rw [zg_n (by omega), f3, if_neg (by omega), e3, if_neg (by omega), if_neg (by omega), if_neg (by omega), zg_n (by omega), zg_n (by omega), zg_n (by omega), zg_n (by omega)]
  have C2 : (zset C1 1 0 1 (nI (n + 1))).2 = c.2 := d2
  have N2 : (zset M2 40 0 0 (nI (n + 1))).2 = m.2 := f2.trans e2
  refine ⟨n + 1, rd, bk, ec, tl, ev, ⟨by omega, b2, b3, b4, b5, b6⟩, ⟨zg_e (by omega), ?_, ?_, ?_, ?_, ?_⟩, ⟨zg_e (by omega), ?_, ?_, ?_, ?_, ?_, ?_⟩, ?_, ?_, ?_, ?_, ?_, ?_, ?_, ?_, ?_, ?_⟩
  · rw [C _ _ _ (by omega) (by omega), c2]
  · rw [C _ _ _ (by omega) (by omega), c3]
  · rw [C _ _ _ (by omega) (by omega), c4]
  · rw [C _ _ _ (by omega) (by omega), c5]
  · rw [C _ _ _ (by omega) (by omega), c6]
  · rw [N _ _ (by omega) (by omega) (by omega) (by omega), m2]
  · rw [N _ _ (by omega) (by omega) (by omega) (by omega), m3]
  · rw [N _ _ (by omega) (by omega) (by omega) (by omega), m4]
  · rw [N _ _ (by omega) (by omega) (by omega) (by omega), m5]
  · rw [N _ _ (by omega) (by omega) (by omega) (by omega), m6]
  · rw [N _ _ (by omega) (by omega) (by omega) (by omega), m7]
  · intro i hi; rw [C _ _ _ (by omega) (by omega), h4 i hi]
  · intro p hp
    by_cases e : p = n
    · subst e
      have q0 : (zset M2 40 0 0 (nI (p + 1))).1 41 0 p = nI k := by
        rw [zg_n (by omega), f3, if_neg (by omega), e3, if_neg (by omega), if_neg (by omega), if_neg (by omega), zg_n (by omega), zg_n (by omega), zg_n (by omega), zg_e (by omega)]
      have q1 : (zset M2 40 0 0 (nI (p + 1))).1 42 0 p = nI x := by
        rw [zg_n (by omega), f3, if_neg (by omega), e3, if_neg (by omega), if_neg (by omega), if_neg (by omega), zg_n (by omega), zg_n (by omega), zg_e (by omega)]
      have q2 : (zset M2 40 0 0 (nI (p + 1))).1 43 0 p = nI 0 := by
        rw [zg_n (by omega), f3, if_neg (by omega), e3, if_neg (by omega), if_neg (by omega), if_neg (by omega), zg_n (by omega), zg_e (by omega)]
      have q3 : (zset M2 40 0 0 (nI (p + 1))).1 44 0 p = nI 0 := by
        rw [zg_n (by omega), f3, if_neg (by omega), e3, if_neg (by omega), if_neg (by omega), if_neg (by omega), zg_e (by omega)]
      have q4 : ∀ t, t < 3 → (zset M2 40 0 0 (nI (p + 1))).1 45 0 (3 * p + t) = nI 50 := by
        intro t ht
        rw [zg_n (by omega), f3, if_neg (by omega), e3, if_pos (by omega)]
      have q5 : ∀ t, t < 3 → (zset M2 40 0 0 (nI (p + 1))).1 46 0 (3 * p + t) = nI 5 := by
        intro t ht
        rw [zg_n (by omega), f3, if_neg (by omega), e3, if_neg (by omega), if_pos (by omega)]
      have q6 : ∀ t, t < 3 → (zset M2 40 0 0 (nI (p + 1))).1 47 0 (3 * p + t) = nI t := by
        intro t ht
        rw [zg_n (by omega), f3, if_neg (by omega), e3, if_neg (by omega), if_neg (by omega), if_pos (by omega), show 3 * p + t - 3 * p = t by omega]
      have q7 : ∀ t, t < 4 → (zset M2 40 0 0 (nI (p + 1))).1 48 0 (4 * p + t) = nI 0 := by
        intro t ht
        rw [zg_n (by omega), f3, if_pos (by omega)]
      rw [Nat.mul_zero, Nat.zero_add]
      refine ⟨⟨?_, ?_, ?_, ?_, ?_, ?_, ?_, ?_⟩, ⟨k, hk, q0⟩, ⟨x, hx, q1⟩, ⟨0, by omega, q3⟩, fun t ht => ⟨50, by omega, q4 t ht⟩, fun t ht => ⟨5, by omega, q5 t ht⟩, ⟨0, 1, 2, by omega, by omega, by omega, by omega, by omega, by omega, q6 0 (by omega), q6 1 (by omega), q6 2 (by omega)⟩, fun t ht => ⟨0, by omega, q7 t ht⟩⟩
      · rw [q0, zg_n (by omega), d4]
      · rw [q1, zg_n (by omega), d5]
      · rw [q2, zg_n (by omega), d6]
      · rw [q3, zg_n (by omega), d7]
      · intro t ht; rw [q4 t ht, zg_n (by omega), d8 t ht]
      · intro t ht; rw [q5 t ht, zg_n (by omega), d9 t ht]
      · intro t ht; rw [q6 t ht, zg_n (by omega), d10 t ht]
      · intro t ht; rw [q7 t ht, zg_n (by omega), d11 t ht]
    · exact Rppl_cg (n := n) (fun k p j hp hk => C _ _ _ (by omega) (by omega)) (fun t j ht => N _ _ (by omega) (by omega) (by omega) (by omega)) h5 p (by omega)
  · exact Rbk_cg (by omega) (fun j _ => C _ _ _ (by omega) (by omega)) (fun j _ => ⟨N _ _ (by omega) (by omega) (by omega) (by omega), N _ _ (by omega) (by omega) (by omega) (by omega), N _ _ (by omega) (by omega) (by omega) (by omega)⟩) h6
  · intro p hp; rw [C _ _ _ (by omega) (by omega), N _ _ (by omega) (by omega) (by omega) (by omega)]; exact h7 p hp
  · intro j hj; rw [C _ _ _ (by omega) (by omega), N _ _ (by omega) (by omega) (by omega) (by omega)]; exact h8 j hj
  · exact Rev_cg b4 (fun k i j _ => C _ _ _ (by omega) (by omega)) (fun k j _ => N _ _ (by omega) (by omega) (by omega) (by omega)) h9
  · exact Rim_cg (Nat.le_refl _) (fun k i j _ => C _ _ _ (by omega) (by omega)) (fun k j _ => N _ _ (by omega) (by omega) (by omega) (by omega)) h10
  · obtain ⟨k, k1, k2, k3, k4⟩ := h11
    exact ⟨k, k1, by rw [C _ _ _ (by omega) (by omega), k2], by rw [N _ _ (by omega) (by omega) (by omega) (by omega), k3], fun j hj hj' => by rw [C _ _ _ (by omega) (by omega), N _ _ (by omega) (by omega) (by omega) (by omega), k4 j hj hj']⟩
  · intro t ht
    obtain ⟨N', g1, g2, g3, g4, g5⟩ := h12 t ht
    refine ⟨N', g1, by rw [C _ _ _ (by omega) (by omega), g2], by rw [N _ _ (by omega) (by omega) (by omega) (by omega), g3], fun j hj => by rw [C2, N2, g4 j hj], ?_⟩
    rw [C _ _ _ (by omega) (by omega), N _ _ (by omega) (by omega) (by omega) (by omega)]
    exact g5
  · intro j hj; rw [N _ _ (by omega) (by omega) (by omega) (by omega)]; exact h13 j hj
