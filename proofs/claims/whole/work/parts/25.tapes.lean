theorem st_taken (c m : zM) (a0 a1 : Int32) (h : Rl c m) : ∃ (r : Int32) (c1 m1 : zM), qG_taken c a0 a1 = some (r, c1) ∧ qM_taken m a0 a1 = some (r, m1) ∧ Rl c1 m1 := by
  obtain ⟨n, rd, bk, ec, tl, ev, h1, h2, h3, h4, h5, h6, h7, h8, h9, h10, h11, h12, h13⟩ := h; obtain ⟨b1, b2, b3, b4, b5, b6⟩ := h1; have h1 : Rb1 n rd bk ec tl ev := ⟨b1, b2, b3, b4, b5, b6⟩; obtain ⟨c1, c2, c3, c4, c5, c6⟩ := h2; have h2 : Rb2 c n rd bk ec tl ev := ⟨c1, c2, c3, c4, c5, c6⟩; obtain ⟨m1, m2, m3, m4, m5, m6, m7⟩ := h3; have h3 : Rb3 m n rd bk ec tl ev := ⟨m1, m2, m3, m4, m5, m6, m7⟩
  unfold qG_taken qM_taken
  simp only [zl0, zl1, zl2, zl3, zl4, zl5, zl6, zl7, zl8, zl9, zl10, zl11, zl12, zl13, zl14, zl16, zl18, zl19, zl20, zl22, zl24, zl30, zl32, zl33, zl36, zl38, zl40, zl41, zl48, zl50, zl51, zl57, zl59, zl60, zl61, zl62, zl70, zl71, zl99, zl100, zl103, zl104, zl105, zl106, zl107, zl108, zl109, zl110, zl111, zl112, zl113, zl114, zl115, zl116, zl124, zl127, zl255, zl999, zl1000, zl1001, zl1002, zl1003]
  rcases zcase a1 (n := 7) (by decide) with g | ⟨j, hj, rfl⟩
  · rw [zb_n (qM_in_no _ (h := 6) rfl (by decide) g), zno_i2 g (by decide)]
    exact ⟨_, c, m, rfl, rfl, n, rd, bk, ec, tl, ev, h1, h2, h3, h4, h5, h6, h7, h8, h9, h10, h11, h12, h13⟩
  rw [if_neg (by rw [nI_0]; exact nI_pos (by omega)), if_pos (nI_lt hj (by decide)), zb_y (qM_in_ok _ (h := 6) (by omega) (by decide))]
  rcases zcase a0 (n := n) (by omega) with g | ⟨p, hp, rfl⟩
  · rw [zb_n (qP_has_no c1 g), zb_n (qM_isPerson_no m1 (by omega) g)]
    exact ⟨_, c, m, rfl, rfl, n, rd, bk, ec, tl, ev, h1, h2, h3, h4, h5, h6, h7, h8, h9, h10, h11, h12, h13⟩
  rw [zb_y (qP_has_ok c1 hp (by omega)), zb_y (qM_isPerson_ok m1 hp (by omega))]
  obtain ⟨⟨f1, f2, f3, f4, f5, f6, f7, f8⟩, ⟨k, q1, q1'⟩, q2, q3, q4, q5, q6, q7⟩ := h5 p hp
  rw [Nat.mul_zero, Nat.zero_add] at f1
  rw [zchk_e (ze_in (by omega) (by decide)), znm_e, znm_e, ze_cl (by omega), Nat.zero_add, f1, q1', zbnd_c (qG_isOfKind_e c q1 hj), zchk_e (ze_in (by omega) (by decide)), znm_e]
  rcases (show j = 0 ∨ j = 1 ∨ j = 2 ∨ j = 3 ∨ j = 4 ∨ j = 5 ∨ j = 6 by omega) with rfl | rfl | rfl | rfl | rfl | rfl | rfl <;>
  rcases (show k = 0 ∨ k = 1 ∨ k = 2 ∨ k = 3 ∨ k = 4 ∨ k = 5 ∨ k = 6 by omega) with rfl | rfl | rfl | rfl | rfl | rfl | rfl <;>
  exact ⟨_, c, m, rfl, rfl, n, rd, bk, ec, tl, ev, h1, h2, h3, h4, h5, h6, h7, h8, h9, h10, h11, h12, h13⟩
theorem qK_has_ok (c : zM) {t : Nat} (ht : t < 6) : qK_has c (nI t) = some (nI 1, c) := by
  unfold qK_has
  simp (disch := omega) only [↓reduceIte, zbnd_s, zchk_t, znm_e, zjn_e, if_true, if_false, ite_true, ite_false, Nat.zero_add, Nat.add_zero, Nat.mul_zero, Nat.zero_mul, Nat.mul_one, Nat.one_mul, zl0, zl1, zl2, zl3, zl4, zl5, zl6, zl7, zl8, zl9, zl10, zl11, zl12, zl13, zl14, zl16, zl18, zl19, zl20, zl22, zl24, zl30, zl32, zl33, zl36, zl38, zl40, zl41, zl48, zl50, zl51, zl57, zl59, zl60, zl61, zl62, zl70, zl71, zl99, zl100, zl103, zl104, zl105, zl106, zl107, zl108, zl109, zl110, zl111, zl112, zl113, zl114, zl115, zl116, zl124, zl127, zl255, zl999, zl1000, zl1001, zl1002, zl1003, ze_in, ze_ltt, ze_ltf, ze_let, ze_lef, ze_eqt, ze_eqf, ze_cl, ze_add, ze_mul, ze_sub, ze_div, ze_rem, ze_nz, ze_ngt, ze_nle, ze_neq, ze_neq', ze_nlt, ze_nle', zg_e, zg_n, zg_2, zgL_e, zgL_n, zgL_1]
theorem qK_has_no (c : zM) {a : Int32} (g : zno a 6) : qK_has c a = some (nI 0, c) := by
  unfold qK_has
  simp only [zl0, zl1, zl2, zl3, zl4, zl5, zl6, zl7, zl8, zl9, zl10, zl11, zl12, zl13, zl14, zl16, zl18, zl19, zl20, zl22, zl24, zl30, zl32, zl33, zl36, zl38, zl40, zl41, zl48, zl50, zl51, zl57, zl59, zl60, zl61, zl62, zl70, zl71, zl99, zl100, zl103, zl104, zl105, zl106, zl107, zl108, zl109, zl110, zl111, zl112, zl113, zl114, zl115, zl116, zl124, zl127, zl255, zl999, zl1000, zl1001, zl1002, zl1003]
  rw [zno_if g]
theorem qM_isTape_ok (c : zM) {t : Nat} (ht : t < 6) : qM_isTape c (nI t) = some (nI 1, c) := by
  unfold qM_isTape
  simp only [zl0, zl1, zl2, zl3, zl4, zl5, zl6, zl7, zl8, zl9, zl10, zl11, zl12, zl13, zl14, zl16, zl18, zl19, zl20, zl22, zl24, zl30, zl32, zl33, zl36, zl38, zl40, zl41, zl48, zl50, zl51, zl57, zl59, zl60, zl61, zl62, zl70, zl71, zl99, zl100, zl103, zl104, zl105, zl106, zl107, zl108, zl109, zl110, zl111, zl112, zl113, zl114, zl115, zl116, zl124, zl127, zl255, zl999, zl1000, zl1001, zl1002, zl1003]
  rw [qM_in_ok _ (h := 5) (by omega) (by decide), zbnd_s]
theorem qM_isTape_no (c : zM) {a : Int32} (g : zno a 6) : qM_isTape c a = some (nI 0, c) := by
  unfold qM_isTape
  simp only [zl0, zl1, zl2, zl3, zl4, zl5, zl6, zl7, zl8, zl9, zl10, zl11, zl12, zl13, zl14, zl16, zl18, zl19, zl20, zl22, zl24, zl30, zl32, zl33, zl36, zl38, zl40, zl41, zl48, zl50, zl51, zl57, zl59, zl60, zl61, zl62, zl70, zl71, zl99, zl100, zl103, zl104, zl105, zl106, zl107, zl108, zl109, zl110, zl111, zl112, zl113, zl114, zl115, zl116, zl124, zl127, zl255, zl999, zl1000, zl1001, zl1002, zl1003]
  rw [qM_in_no _ (h := 5) rfl (by decide) g, zbnd_s]
theorem qK_lay_loop (t n : Nat) (ht : t < 6) (hn : n ≤ 60) : ∀ (d v : Nat) (M : zM) (f : Nat), v + d = n → d < f → ∃ M', qK_lay_L17 (nI t) (nI n) f M (nI v) = some ((), M') ∧ M'.1 = M.1 ∧ ∀ k i j, M'.2 k i j = if k = 30 ∧ i = 0 ∧ 60 * t + v ≤ j ∧ j < 60 * t + n then 0 else M.2 k i j
  | 0, v, M, f + 1, hv, hf => by
    refine ⟨M, ?_, rfl, fun k i j => ?_⟩
    · unfold qK_lay_L17
      rw [if_pos (nI_le (by omega) (by omega))]
    · rw [if_neg (by omega)]
  | d + 1, v, M, f + 1, hv, hf => by
    obtain ⟨M', g1, g2, g3⟩ := qK_lay_loop t n ht hn d (v + 1) (zsetL M 30 0 (60 * t + v) 0) f (by omega) (by omega)
    refine ⟨M', ?_, ?_, fun k i j => ?_⟩
    · unfold qK_lay_L17
      rw [Nat.mul_comm 60 t] at g1
      simp (disch := omega) only [↓reduceIte, zbnd_s, zchk_t, znm_e, zjn_e, if_true, if_false, ite_true, ite_false, Nat.zero_add, Nat.add_zero, Nat.mul_zero, Nat.zero_mul, Nat.mul_one, Nat.one_mul, zl0, zl1, zl2, zl3, zl4, zl5, zl6, zl7, zl8, zl9, zl10, zl11, zl12, zl13, zl14, zl16, zl18, zl19, zl20, zl22, zl24, zl30, zl32, zl33, zl36, zl38, zl40, zl41, zl48, zl50, zl51, zl57, zl59, zl60, zl61, zl62, zl70, zl71, zl99, zl100, zl103, zl104, zl105, zl106, zl107, zl108, zl109, zl110, zl111, zl112, zl113, zl114, zl115, zl116, zl124, zl127, zl255, zl999, zl1000, zl1001, zl1002, zl1003, ze_in, ze_ltt, ze_ltf, ze_let, ze_lef, ze_eqt, ze_eqf, ze_cl, ze_add, ze_mul, ze_sub, ze_div, ze_rem, ze_nz, ze_ngt, ze_nle, ze_neq, ze_neq', ze_nlt, ze_nle', zg_e, zg_n, zg_2, zgL_e, zgL_n, zgL_1]
      exact g1
    · rw [g2]; rfl
    · rw [g3]
      by_cases e : k = 30 ∧ i = 0 ∧ 60 * t + (v + 1) ≤ j ∧ j < 60 * t + n
      · rw [if_pos e, if_pos (by omega)]
      · rw [if_neg e]
        by_cases e2 : k = 30 ∧ i = 0 ∧ j = 60 * t + v
        · rw [zgL_e (by omega), if_pos (by omega)]
        · rw [zgL_n (by omega), if_neg (by omega)]
theorem qK_lay_e (c : zM) {t n : Nat} (s : Int32) (ht : t < 6) (hn : n ≤ 60) : ∃ M', qK_lay c (nI t) s (nI n) = some ((), M') ∧ M'.1 = (zset (zset c 28 0 t s) 29 0 t (nI n)).1 ∧ ∀ k i j, M'.2 k i j = if k = 30 ∧ i = 0 ∧ 60 * t ≤ j ∧ j < 60 * t + n then 0 else c.2 k i j := by
  obtain ⟨M', g1, g2, g3⟩ := qK_lay_loop t n ht hn n 0 (zset (zset c 28 0 t s) 29 0 t (nI n)) 1000 (by omega) (by omega)
  refine ⟨M', ?_, g2, g3⟩
  unfold qK_lay
  simp (disch := omega) only [↓reduceIte, zbnd_s, zchk_t, znm_e, zjn_e, if_true, if_false, ite_true, ite_false, Nat.zero_add, Nat.add_zero, Nat.mul_zero, Nat.zero_mul, Nat.mul_one, Nat.one_mul, zl0, zl1, zl2, zl3, zl4, zl5, zl6, zl7, zl8, zl9, zl10, zl11, zl12, zl13, zl14, zl16, zl18, zl19, zl20, zl22, zl24, zl30, zl32, zl33, zl36, zl38, zl40, zl41, zl48, zl50, zl51, zl57, zl59, zl60, zl61, zl62, zl70, zl71, zl99, zl100, zl103, zl104, zl105, zl106, zl107, zl108, zl109, zl110, zl111, zl112, zl113, zl114, zl115, zl116, zl124, zl127, zl255, zl999, zl1000, zl1001, zl1002, zl1003, ze_in, ze_ltt, ze_ltf, ze_let, ze_lef, ze_eqt, ze_eqf, ze_cl, ze_add, ze_mul, ze_sub, ze_div, ze_rem, ze_nz, ze_ngt, ze_nle, ze_neq, ze_neq', ze_nlt, ze_nle', zg_e, zg_n, zg_2, zgL_e, zgL_n, zgL_1]
  exact g1
theorem qM_tape_loop (t : Nat) (ht : t < 6) : ∀ (d v : Nat) (M : zM) (f : Nat), v + d = 60 → d < f → ∃ M', qM_tape_L69 (nI t) f M (nI v) = some (nI 1, M') ∧ M'.1 = M.1 ∧ ∀ k i j, M'.2 k i j = if k = 84 ∧ i = 0 ∧ 60 * t + v ≤ j ∧ j < 60 * t + 60 then 0 else M.2 k i j
  | 0, v, M, f + 1, hv, hf => by
    refine ⟨M, ?_, rfl, fun k i j => ?_⟩
    · unfold qM_tape_L69
      simp (disch := omega) only [↓reduceIte, zbnd_s, zchk_t, znm_e, zjn_e, if_true, if_false, ite_true, ite_false, Nat.zero_add, Nat.add_zero, Nat.mul_zero, Nat.zero_mul, Nat.mul_one, Nat.one_mul, zl0, zl1, zl2, zl3, zl4, zl5, zl6, zl7, zl8, zl9, zl10, zl11, zl12, zl13, zl14, zl16, zl18, zl19, zl20, zl22, zl24, zl30, zl32, zl33, zl36, zl38, zl40, zl41, zl48, zl50, zl51, zl57, zl59, zl60, zl61, zl62, zl70, zl71, zl99, zl100, zl103, zl104, zl105, zl106, zl107, zl108, zl109, zl110, zl111, zl112, zl113, zl114, zl115, zl116, zl124, zl127, zl255, zl999, zl1000, zl1001, zl1002, zl1003, ze_in, ze_ltt, ze_ltf, ze_let, ze_lef, ze_eqt, ze_eqf, ze_cl, ze_add, ze_mul, ze_sub, ze_div, ze_rem, ze_nz, ze_ngt, ze_nle, ze_neq, ze_neq', ze_nlt, ze_nle', zg_e, zg_n, zg_2, zgL_e, zgL_n, zgL_1]
    · rw [if_neg (by omega)]
  | d + 1, v, M, f + 1, hv, hf => by
    obtain ⟨M', g1, g2, g3⟩ := qM_tape_loop t ht d (v + 1) (zsetL M 84 0 (60 * t + v) 0) f (by omega) (by omega)
    refine ⟨M', ?_, ?_, fun k i j => ?_⟩
    · unfold qM_tape_L69
      simp (disch := omega) only [↓reduceIte, zbnd_s, zchk_t, znm_e, zjn_e, if_true, if_false, ite_true, ite_false, Nat.zero_add, Nat.add_zero, Nat.mul_zero, Nat.zero_mul, Nat.mul_one, Nat.one_mul, zl0, zl1, zl2, zl3, zl4, zl5, zl6, zl7, zl8, zl9, zl10, zl11, zl12, zl13, zl14, zl16, zl18, zl19, zl20, zl22, zl24, zl30, zl32, zl33, zl36, zl38, zl40, zl41, zl48, zl50, zl51, zl57, zl59, zl60, zl61, zl62, zl70, zl71, zl99, zl100, zl103, zl104, zl105, zl106, zl107, zl108, zl109, zl110, zl111, zl112, zl113, zl114, zl115, zl116, zl124, zl127, zl255, zl999, zl1000, zl1001, zl1002, zl1003, ze_in, ze_ltt, ze_ltf, ze_let, ze_lef, ze_eqt, ze_eqf, ze_cl, ze_add, ze_mul, ze_sub, ze_div, ze_rem, ze_nz, ze_ngt, ze_nle, ze_neq, ze_neq', ze_nlt, ze_nle', zg_e, zg_n, zg_2, zgL_e, zgL_n, zgL_1]
      exact g1
    · rw [g2]; rfl
    · rw [g3]
      by_cases e : k = 84 ∧ i = 0 ∧ 60 * t + (v + 1) ≤ j ∧ j < 60 * t + 60
      · rw [if_pos e, if_pos (by omega)]
      · rw [if_neg e]
        by_cases e2 : k = 84 ∧ i = 0 ∧ j = 60 * t + v
        · rw [zgL_e (by omega), if_pos (by omega)]
        · rw [zgL_n (by omega), if_neg (by omega)]
theorem Rtp_lay {c m c' m' : zM} {t n : Nat} {s : Int32} (ht : t < 6) (hn : n ≤ 60) (hs : (s = -nI 1 ∧ n = 0) ∨ ∃ k, k < 5 ∧ s = nI k) (hc1 : c'.1 = (zset (zset c 28 0 t s) 29 0 t (nI n)).1) (hc2 : ∀ k i j, c'.2 k i j = if k = 30 ∧ i = 0 ∧ 60 * t ≤ j ∧ j < 60 * t + n then 0 else c.2 k i j)
    (hm1 : m'.1 = (zset (zset m 82 0 t s) 83 0 t (nI n)).1) (hm2 : ∀ k i j, m'.2 k i j = if k = 84 ∧ i = 0 ∧ 60 * t ≤ j ∧ j < 60 * t + 60 then 0 else m.2 k i j) (h : Rtp c m) : Rtp c' m' := by
  intro t' ht'
  by_cases e : t' = t
  · subst e
    refine ⟨n, hn, by rw [hc1, zg_e (by omega)], by rw [hm1, zg_e (by omega)], fun j hj => by rw [hc2, hm2, if_pos (by omega), if_pos (by omega)], ?_⟩
    have a1 : c'.1 28 0 t' = s := by rw [hc1, zg_n (by omega), zg_e (by omega)]
    have a2 : m'.1 82 0 t' = s := by rw [hm1, zg_n (by omega), zg_e (by omega)]
    rw [a1, a2]
    rcases hs with ⟨g1, g2⟩ | ⟨k, g1, g2⟩
    · exact Or.inl ⟨g1, g1, g2⟩
    · exact Or.inr ⟨k, g1, g2, g2⟩
  · obtain ⟨n', g1, g2, g3, g4, g5⟩ := h t' ht'
    refine ⟨n', g1, by rw [hc1, zg_n (by omega), zg_n (by omega), g2], by rw [hm1, zg_n (by omega), zg_n (by omega), g3], fun j hj => ?_, ?_⟩
    · rw [hc2, hm2, if_neg (by omega), if_neg (by omega), g4 j hj]
    · have a1 : c'.1 28 0 t' = c.1 28 0 t' := by rw [hc1, zg_n (by omega), zg_n (by omega)]
      have a2 : m'.1 82 0 t' = m.1 82 0 t' := by rw [hm1, zg_n (by omega), zg_n (by omega)]
      rw [a1, a2]
      exact g5
theorem Rl_tp {c m c' m' : zM} {n rd bk ec tl : Nat} {ev : Int32} (hc1 : ∀ k i j, k ≠ 28 → k ≠ 29 → c'.1 k i j = c.1 k i j) (hm1 : ∀ k i j, k ≠ 82 → k ≠ 83 → m'.1 k i j = m.1 k i j) (h : RB c m n rd bk ec tl ev) (hp : Rtp c' m') : RB c' m' n rd bk ec tl ev := by
  obtain ⟨h1, h2, h3, h4, h5, h6, h7, h8, h9, h10, h11, h12, h13⟩ := h
  obtain ⟨c1, c2, c3, c4, c5, c6⟩ := h2
  obtain ⟨m1, m2, m3, m4, m5, m6, m7⟩ := h3
  refine ⟨h1, ⟨?_, ?_, ?_, ?_, ?_, ?_⟩, ⟨?_, ?_, ?_, ?_, ?_, ?_, ?_⟩, ?_, ?_, ?_, ?_, ?_, ?_, ?_, ?_, hp, ?_⟩
  · rw [hc1 _ _ _ (by omega) (by omega), c1]
  · rw [hc1 _ _ _ (by omega) (by omega), c2]
  · rw [hc1 _ _ _ (by omega) (by omega), c3]
  · rw [hc1 _ _ _ (by omega) (by omega), c4]
  · rw [hc1 _ _ _ (by omega) (by omega), c5]
  · rw [hc1 _ _ _ (by omega) (by omega), c6]
  · rw [hm1 _ _ _ (by omega) (by omega), m1]
  · rw [hm1 _ _ _ (by omega) (by omega), m2]
  · rw [hm1 _ _ _ (by omega) (by omega), m3]
  · rw [hm1 _ _ _ (by omega) (by omega), m4]
  · rw [hm1 _ _ _ (by omega) (by omega), m5]
  · rw [hm1 _ _ _ (by omega) (by omega), m6]
  · rw [hm1 _ _ _ (by omega) (by omega), m7]
  · intro i hi; rw [hc1 _ _ _ (by omega) (by omega), h4 i hi]
  · exact Rppl_cg (fun k p j _ hk => hc1 _ _ _ (by omega) (by omega)) (fun t j ht => hm1 _ _ _ (by omega) (by omega)) h5
  · exact Rbk_cg (Nat.le_refl _) (fun j _ => hc1 _ _ _ (by omega) (by omega)) (fun j _ => ⟨hm1 _ _ _ (by omega) (by omega), hm1 _ _ _ (by omega) (by omega), hm1 _ _ _ (by omega) (by omega)⟩) h6
  · intro p hp; rw [hc1 _ _ _ (by omega) (by omega), hm1 _ _ _ (by omega) (by omega)]; exact h7 p hp
  · intro j hj; rw [hc1 _ _ _ (by omega) (by omega), hm1 _ _ _ (by omega) (by omega)]; exact h8 j hj
  · exact Rev_cg h1.2.2.2.1 (fun k i j _ => hc1 _ _ _ (by omega) (by omega)) (fun k j _ => hm1 _ _ _ (by omega) (by omega)) h9
  · exact Rim_cg (Nat.le_refl _) (fun k i j _ => hc1 _ _ _ (by omega) (by omega)) (fun k j _ => hm1 _ _ _ (by omega) (by omega)) h10
  · obtain ⟨k, k1, k2, k3, k4⟩ := h11
    exact ⟨k, k1, by rw [hc1 _ _ _ (by omega) (by omega), k2], by rw [hm1 _ _ _ (by omega) (by omega), k3], fun j hj hj' => by rw [hc1 _ _ _ (by omega) (by omega), hm1 _ _ _ (by omega) (by omega), k4 j hj hj']⟩
  · intro j hj; rw [hm1 _ _ _ (by omega) (by omega)]; exact h13 j hj
theorem qM_in_m1 (m : zM) {a1 : Int32} (e1 : a1 = -nI 1) : qM_in m a1 (-nI 1) (nI 4) = some (nI 1, m) := by
  unfold qM_in
  rw [e1, if_neg (fun q => Int32.lt_irrefl q), if_neg]
  · exact congrArg (fun x => some (x, m)) zl1
  · intro q
    rw [Int32.lt_iff_toInt_lt, sb_negT (by omega), nI_toInt (by omega)] at q
    omega
theorem qM_in_m1n (m : zM) {a1 : Int32} (g : zno a1 5) (e1 : ¬ a1 = -nI 1) : qM_in m a1 (-nI 1) (nI 4) = some (nI 0, m) := by
  unfold qM_in
  by_cases g0 : a1 < -nI 1
  · rw [if_pos g0, zl0]
  · rw [if_neg g0, if_pos, zl0]
    rw [Int32.lt_iff_toInt_lt, sb_negT (by decide)] at g0
    rw [Int32.lt_iff_toInt_lt, nI_toInt (by decide)]
    rcases g with g | g
    · exfalso
      have h4 : (0 : Int32).toInt = 0 := by decide
      have := Int32.lt_iff_toInt_lt.mp g
      apply e1
      apply Int32.toInt_inj.mp
      rw [sb_negT (by decide)]
      omega
    · have := Int32.le_iff_toInt_le.mp g
      rw [nI_toInt (by omega)] at this
      omega
theorem qM_in_m1k (m : zM) {k : Nat} (hk : k < 5) : qM_in m (nI k) (-nI 1) (nI 4) = some (nI 1, m) := by
  unfold qM_in
  simp (disch := omega) only [↓reduceIte, zbnd_s, zchk_t, znm_e, zjn_e, if_true, if_false, ite_true, ite_false, Nat.zero_add, Nat.add_zero, Nat.mul_zero, Nat.zero_mul, Nat.mul_one, Nat.one_mul, zl0, zl1, zl2, zl3, zl4, zl5, zl6, zl7, zl8, zl9, zl10, zl11, zl12, zl13, zl14, zl16, zl18, zl19, zl20, zl22, zl24, zl30, zl32, zl33, zl36, zl38, zl40, zl41, zl48, zl50, zl51, zl57, zl59, zl60, zl61, zl62, zl70, zl71, zl99, zl100, zl103, zl104, zl105, zl106, zl107, zl108, zl109, zl110, zl111, zl112, zl113, zl114, zl115, zl116, zl124, zl127, zl255, zl999, zl1000, zl1001, zl1002, zl1003, ze_in, ze_ltt, ze_ltf, ze_let, ze_lef, ze_eqt, ze_eqf, ze_cl, ze_add, ze_mul, ze_sub, ze_div, ze_rem, ze_nz, ze_ngt, ze_nle, ze_neq, ze_neq', ze_nlt, ze_nle', zg_e, zg_n, zg_2, zgL_e, zgL_n, zgL_1]
theorem st_tape (c m : zM) (a0 a1 a2 : Int32) (h : Rl c m) : ∃ (r : Int32) (c1 m1 : zM), qG_tape c a0 a1 a2 = some (r, c1) ∧ qM_tape m a0 a1 a2 = some (r, m1) ∧ Rl c1 m1 := by
  obtain ⟨n, rd, bk, ec, tl, ev, h1, h2, h3, h4, h5, h6, h7, h8, h9, h10, h11, h12, h13⟩ := h; obtain ⟨b1, b2, b3, b4, b5, b6⟩ := h1; have h1 : Rb1 n rd bk ec tl ev := ⟨b1, b2, b3, b4, b5, b6⟩; obtain ⟨c1, c2, c3, c4, c5, c6⟩ := h2; have h2 : Rb2 c n rd bk ec tl ev := ⟨c1, c2, c3, c4, c5, c6⟩; obtain ⟨m1, m2, m3, m4, m5, m6, m7⟩ := h3; have h3 : Rb3 m n rd bk ec tl ev := ⟨m1, m2, m3, m4, m5, m6, m7⟩
  unfold qG_tape qM_tape
  simp only [zl0, zl1, zl2, zl3, zl4, zl5, zl6, zl7, zl8, zl9, zl10, zl11, zl12, zl13, zl14, zl16, zl18, zl19, zl20, zl22, zl24, zl30, zl32, zl33, zl36, zl38, zl40, zl41, zl48, zl50, zl51, zl57, zl59, zl60, zl61, zl62, zl70, zl71, zl99, zl100, zl103, zl104, zl105, zl106, zl107, zl108, zl109, zl110, zl111, zl112, zl113, zl114, zl115, zl116, zl124, zl127, zl255, zl999, zl1000, zl1001, zl1002, zl1003]
  rcases zcase a0 (n := 6) (by omega) with g | ⟨t, ht, rfl⟩
  · rw [zb_n (qK_has_no _ g), zb_n (qM_isTape_no _ g)]
    exact ⟨_, c, m, rfl, rfl, n, rd, bk, ec, tl, ev, h1, h2, h3, h4, h5, h6, h7, h8, h9, h10, h11, h12, h13⟩
  rw [zb_y (qK_has_ok _ ht), zb_y (qM_isTape_ok _ ht)]
  by_cases e1 : a1 = -nI 1
  · obtain ⟨c', g1, g2, g3⟩ := qK_lay_e c (t := t) (n := 0) (-nI 1) ht (by omega)
    obtain ⟨m', g4, g5, g6⟩ := qM_tape_loop t ht 60 0 (zset (zset m 82 0 t a1) 83 0 t (nI 0)) 1000 (by omega) (by omega)
    have e := qM_in_m1 m e1
    have e2 : a1 < nI 0 := by rw [e1]; exact of_eq_true (ze_nlt (by omega) (by omega) (by omega))
    have e3 : ¬ nI 0 ≤ a1 := by rw [e1]; exact of_eq_false (ze_nle (by omega) (by omega) (by omega))
    refine ⟨nI 1, c', m', ?_, ?_, n, rd, bk, ec, tl, ev, Rl_tp (c := c) (m := m) ?_ ?_ ⟨h1, h2, h3, h4, h5, h6, h7, h8, h9, h10, h11, h12, h13⟩ (Rtp_lay (s := a1) ht (by omega) (Or.inl ⟨e1, rfl⟩) (by rw [e1]; exact g2) g3 g5 g6 h12)⟩
    · rw [if_pos e1, g1, zbnd_s]
    · rw [zb_y e]
      simp only [zjn_e, znm_e, if_pos e2, if_neg e3, zchk_e (ze_in ht (show 6 < 2 ^ 31 by omega)), ze_cl (show t < 2 ^ 31 by omega)]
      exact g4
    · intro k i j hk hk'; rw [g2, zg_n (by omega), zg_n (by omega)]
    · intro k i j hk hk'; rw [g5, zg_n (by omega), zg_n (by omega)]
  rw [if_neg e1]
  rcases zcase a1 (n := 5) (by decide) with g | ⟨k, hk, rfl⟩
  · have e := qM_in_m1n m g e1
    rw [zb_n e, zno_if g]
    exact ⟨_, c, m, rfl, rfl, n, rd, bk, ec, tl, ev, h1, h2, h3, h4, h5, h6, h7, h8, h9, h10, h11, h12, h13⟩
  rw [if_neg (by rw [nI_0]; exact nI_pos (by omega)), if_neg (nI_ge hk (by decide))]
  have e := qM_in_m1k m hk
  have k0 : ¬ nI k < nI 0 := nI_nlt (by omega) (by omega)
  have k1 : nI 0 ≤ nI k := nI_le (by omega) (by omega)
  rw [zb_y e]
  simp only [zjn_e, znm_e, if_neg k0, if_pos k1]
  rcases zcase a2 (n := 61) (by decide) with g | ⟨x, hx, rfl⟩
  · by_cases e60 : a2 ≤ nI 60
    · rw [if_pos e60, if_pos e60]
      have e0 : ¬ nI 0 ≤ a2 := by
        intro q
        rcases g with g | g
        · rw [nI_0] at q
          have h1 := Int32.lt_iff_toInt_lt.mp g
          have h2 := Int32.le_iff_toInt_le.mp q
          omega
        · have h1 := Int32.le_iff_toInt_le.mp g
          have h2 := Int32.le_iff_toInt_le.mp e60
          rw [nI_toInt (by decide)] at h1 h2
          omega
      rw [if_neg e0, if_neg e0]
      exact ⟨_, c, m, rfl, rfl, n, rd, bk, ec, tl, ev, h1, h2, h3, h4, h5, h6, h7, h8, h9, h10, h11, h12, h13⟩
    · rw [if_neg e60, if_neg e60]
      exact ⟨_, c, m, rfl, rfl, n, rd, bk, ec, tl, ev, h1, h2, h3, h4, h5, h6, h7, h8, h9, h10, h11, h12, h13⟩
  · obtain ⟨c', g1, g2, g3⟩ := qK_lay_e c (t := t) (n := x) (nI k) ht (by omega)
    obtain ⟨m', g4, g5, g6⟩ := qM_tape_loop t ht 60 0 (zset (zset m 82 0 t (nI k)) 83 0 t (nI x)) 1000 (by omega) (by omega)
    refine ⟨nI 1, c', m', ?_, ?_, n, rd, bk, ec, tl, ev, Rl_tp (c := c) (m := m) ?_ ?_ ⟨h1, h2, h3, h4, h5, h6, h7, h8, h9, h10, h11, h12, h13⟩ (Rtp_lay ht (by omega) (Or.inr ⟨k, hk, rfl⟩) g2 g3 g5 g6 h12)⟩
    · rw [if_pos (nI_le (by omega) (by omega)), if_pos (nI_le (by omega) (by omega)), g1, zbnd_s]
    · rw [if_pos (nI_le (by omega) (by omega)), if_pos (nI_le (by omega) (by omega)), zchk_e (ze_in ht (by omega)), zchk_e (ze_in ht (by omega)), ze_cl (by omega)]
      exact g4
    · intro k i j hk hk'; rw [g2, zg_n (by omega), zg_n (by omega)]
    · intro k i j hk hk'; rw [g5, zg_n (by omega), zg_n (by omega)]
