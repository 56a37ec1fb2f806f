theorem qK_holds_y {c : zM} {t k : Nat} (ht : t < 6) (hk : k < 5) (h : c.1 28 0 t = nI k) : qK_holds c (nI t) = some (nI 1, c) := by
  unfold qK_holds
  have e : ¬ nI k = -nI 1 := of_eq_false (ze_neq (by omega) (by omega) (by omega))
  simp only [zl0, zl1, zl2, zl3, zl4, zl5, zl6, zl7, zl8, zl9, zl10, zl11, zl12, zl13, zl14, zl16, zl18, zl19, zl20, zl22, zl24, zl30, zl32, zl33, zl36, zl38, zl40, zl41, zl48, zl50, zl51, zl57, zl59, zl60, zl61, zl62, zl70, zl71, zl99, zl100, zl103, zl104, zl105, zl106, zl107, zl108, zl109, zl110, zl111, zl112, zl113, zl114, zl115, zl116, zl124, zl127, zl255, zl999, zl1000, zl1001, zl1002, zl1003]
  rw [zchk_e (ze_in ht (by omega)), ze_cl (by omega), h, if_neg e]
theorem qK_holds_n {c : zM} {t : Nat} (ht : t < 6) (h : c.1 28 0 t = -nI 1) : qK_holds c (nI t) = some (nI 0, c) := by
  unfold qK_holds
  simp only [zl0, zl1, zl2, zl3, zl4, zl5, zl6, zl7, zl8, zl9, zl10, zl11, zl12, zl13, zl14, zl16, zl18, zl19, zl20, zl22, zl24, zl30, zl32, zl33, zl36, zl38, zl40, zl41, zl48, zl50, zl51, zl57, zl59, zl60, zl61, zl62, zl70, zl71, zl99, zl100, zl103, zl104, zl105, zl106, zl107, zl108, zl109, zl110, zl111, zl112, zl113, zl114, zl115, zl116, zl124, zl127, zl255, zl999, zl1000, zl1001, zl1002, zl1003]
  rw [zchk_e (ze_in ht (by omega)), ze_cl (by omega), h, if_pos rfl]
theorem zneg1_lt : (-nI 1 : Int32) < nI 0 := of_eq_true (ze_nlt (by omega) (by omega) (by omega))
theorem zneg1_le : ¬ nI 0 ≤ (-nI 1 : Int32) := of_eq_false (ze_nle (by omega) (by omega) (by omega))
theorem qK_hasPlace_y {c : zM} {t i n : Nat} (ht : t < 6) (h : c.1 29 0 t = nI n) (hi : i < n) (hn : n ≤ 60) : qK_hasPlace c (nI t) (nI i) = some (nI 1, c) := by
  unfold qK_hasPlace
  simp only [zl0, zl1, zl2, zl3, zl4, zl5, zl6, zl7, zl8, zl9, zl10, zl11, zl12, zl13, zl14, zl16, zl18, zl19, zl20, zl22, zl24, zl30, zl32, zl33, zl36, zl38, zl40, zl41, zl48, zl50, zl51, zl57, zl59, zl60, zl61, zl62, zl70, zl71, zl99, zl100, zl103, zl104, zl105, zl106, zl107, zl108, zl109, zl110, zl111, zl112, zl113, zl114, zl115, zl116, zl124, zl127, zl255, zl999, zl1000, zl1001, zl1002, zl1003]
  rw [if_neg (nI_nlt (by omega) (by omega)), zchk_e (ze_in ht (by omega)), ze_cl (by omega), h, if_neg (nI_ge hi (by omega))]
theorem qK_hasPlace_n {c : zM} {t n : Nat} {a : Int32} (ht : t < 6) (h : c.1 29 0 t = nI n) (hi : zno a n) : qK_hasPlace c (nI t) a = some (nI 0, c) := by
  unfold qK_hasPlace
  simp only [zl0, zl1, zl2, zl3, zl4, zl5, zl6, zl7, zl8, zl9, zl10, zl11, zl12, zl13, zl14, zl16, zl18, zl19, zl20, zl22, zl24, zl30, zl32, zl33, zl36, zl38, zl40, zl41, zl48, zl50, zl51, zl57, zl59, zl60, zl61, zl62, zl70, zl71, zl99, zl100, zl103, zl104, zl105, zl106, zl107, zl108, zl109, zl110, zl111, zl112, zl113, zl114, zl115, zl116, zl124, zl127, zl255, zl999, zl1000, zl1001, zl1002, zl1003]
  rw [zchk_e (ze_in ht (by omega)), ze_cl (by omega), h, zno_if hi]
/-- in(a, 0, n - 1) -/
theorem qM_in_pred_y (m : zM) {i n : Nat} (hi : i < n) (hn : n < 2 ^ 31) : qM_in m (nI i) (nI 0) (nI n - nI 1) = some (nI 1, m) := by
  rw [pk_sub (by omega)]
  exact qM_in_ok m (by omega) (by omega)
theorem qM_in_pred_n (m : zM) {a : Int32} {n : Nat} (g : zno a n) (hn : n < 2 ^ 31) : qM_in m a (nI 0) (nI n - nI 1) = some (nI 0, m) := by
  cases n with
  | succ k =>
    rw [pk_sub (by omega)]
    exact qM_in_no m (h := k) rfl hn g
  | zero =>
    unfold qM_in
    by_cases g0 : a < nI 0
    · rw [if_pos g0, zl0]
    · rw [if_neg g0, if_pos, zl0]
      rw [Int32.lt_iff_toInt_lt, pk_sub_toInt (by omega) (by omega)]
      rw [Int32.lt_iff_toInt_lt, nI_toInt (by omega)] at g0
      omega
theorem qK_cut_e (k : Nat) (hk : k < 5) (v : Int64) : ∃ w, (∀ M, qK_cut M (nI k) v = some (w, M)) ∧ ∀ M, qM_narrow M (nI k) v = some (w, M) := by
  rcases (show k = 0 ∨ k = 1 ∨ k = 2 ∨ k = 3 ∨ k = 4 by omega) with rfl | rfl | rfl | rfl | rfl
  · exact ⟨_, fun M => rfl, fun M => rfl⟩
  · exact ⟨_, fun M => rfl, fun M => rfl⟩
  · exact ⟨_, fun M => rfl, fun M => rfl⟩
  · exact ⟨v, fun M => rfl, fun M => rfl⟩
  · by_cases e : lg_cmp v 0 = 0
    · exact ⟨0, fun M => if_pos e, fun M => if_pos e⟩
    · exact ⟨1, fun M => if_neg e, fun M => if_neg e⟩
theorem st_item (c m : zM) (a0 a1 : Int32) (a2 : Int64) (h : Rl c m) : ∃ (r : Int32) (c1 m1 : zM), qG_item c a0 a1 a2 = some (r, c1) ∧ qM_item m a0 a1 a2 = some (r, m1) ∧ Rl c1 m1 := by
  obtain ⟨n, rd, bk, ec, tl, ev, h1, h2, h3, h4, h5, h6, h7, h8, h9, h10, h11, h12, h13⟩ := h; obtain ⟨b1, b2, b3, b4, b5, b6⟩ := h1; have h1 : Rb1 n rd bk ec tl ev := ⟨b1, b2, b3, b4, b5, b6⟩; obtain ⟨c1, c2, c3, c4, c5, c6⟩ := h2; have h2 : Rb2 c n rd bk ec tl ev := ⟨c1, c2, c3, c4, c5, c6⟩; obtain ⟨m1, m2, m3, m4, m5, m6, m7⟩ := h3; have h3 : Rb3 m n rd bk ec tl ev := ⟨m1, m2, m3, m4, m5, m6, m7⟩
  unfold qG_item qM_item
  simp only [zl0, zl1, zl2, zl3, zl4, zl5, zl6, zl7, zl8, zl9, zl10, zl11, zl12, zl13, zl14, zl16, zl18, zl19, zl20, zl22, zl24, zl30, zl32, zl33, zl36, zl38, zl40, zl41, zl48, zl50, zl51, zl57, zl59, zl60, zl61, zl62, zl70, zl71, zl99, zl100, zl103, zl104, zl105, zl106, zl107, zl108, zl109, zl110, zl111, zl112, zl113, zl114, zl115, zl116, zl124, zl127, zl255, zl999, zl1000, zl1001, zl1002, zl1003]
  rcases zcase a0 (n := 6) (by omega) with g | ⟨t, ht, rfl⟩
  · rw [zb_n (qK_has_no _ g), zb_n (qM_isTape_no _ g)]
    exact ⟨_, c, m, rfl, rfl, n, rd, bk, ec, tl, ev, h1, h2, h3, h4, h5, h6, h7, h8, h9, h10, h11, h12, h13⟩
  rw [zb_y (qK_has_ok _ ht), zb_y (qM_isTape_ok _ ht)]
  obtain ⟨N, g1, g2, g3, g4, g5⟩ := h12 t ht
  rw [zchk_e (ze_in ht (by omega)), ze_cl (by omega)]
  rcases g5 with ⟨g5, g6, g7⟩ | ⟨k, hk, g5, g6⟩
  · rw [zb_n (qK_holds_n ht g5), g6, if_neg zneg1_le]
    exact ⟨_, c, m, rfl, rfl, n, rd, bk, ec, tl, ev, h1, h2, h3, h4, h5, h6, h7, h8, h9, h10, h11, h12, h13⟩
  rw [zb_y (qK_holds_y ht hk g5), g6, if_pos (nI_le (by omega) (by omega)), zchk_e (ze_in ht (by omega)), g3]
  rcases zcase a1 (n := N) (by omega) with g | ⟨i, hi, rfl⟩
  · rw [zb_n (qK_hasPlace_n ht g2 g), zb_n (qM_in_pred_n m g (by omega))]
    exact ⟨_, c, m, rfl, rfl, n, rd, bk, ec, tl, ev, h1, h2, h3, h4, h5, h6, h7, h8, h9, h10, h11, h12, h13⟩
  rw [zb_y (qK_hasPlace_y ht g2 hi g1), zb_y (qM_in_pred_y m hi (by omega))]
  obtain ⟨w, w1, w2⟩ := qK_cut_e k hk a2
  unfold qK_put
  simp only [zl0, zl1, zl2, zl3, zl4, zl5, zl6, zl7, zl8, zl9, zl10, zl11, zl12, zl13, zl14, zl16, zl18, zl19, zl20, zl22, zl24, zl30, zl32, zl33, zl36, zl38, zl40, zl41, zl48, zl50, zl51, zl57, zl59, zl60, zl61, zl62, zl70, zl71, zl99, zl100, zl103, zl104, zl105, zl106, zl107, zl108, zl109, zl110, zl111, zl112, zl113, zl114, zl115, zl116, zl124, zl127, zl255, zl999, zl1000, zl1001, zl1002, zl1003]
  simp only [zchk_e (ze_in ht (show 6 < 2 ^ 31 by omega)), ze_cl (show t < 2 ^ 31 by omega), g5, g6, w1, w2, zbnd_s, znm_e, ze_mul, ze_add]
  rw [zchk_e (ze_in (by omega) (by omega)), zchk_e (ze_in (by omega) (by omega)), ze_cl (by omega), ze_cl (by omega), zbnd_s]
  refine ⟨_, _, _, rfl, rfl, n, rd, bk, ec, tl, ev, h1, h2, h3, h4, h5, h6, h7, h8, h9, h10, h11, ?_, h13⟩
  intro t' ht'
  obtain ⟨N', g1', g2', g3', g4', g5'⟩ := h12 t' ht'
  refine ⟨N', g1', g2', g3', fun j hj => ?_, g5'⟩
  by_cases e : t' = t ∧ j = i
  · rw [zgL_e (by omega), zgL_e (by omega)]
  · have e' : ¬ 60 * t' + j = 60 * t + i := by
      intro q
      by_cases e1 : t' = t
      · subst e1
        omega
      · omega
    rw [zgL_n (by omega), zgL_n (by omega)]
    exact g4' j hj
theorem st_read (c m : zM) (a0 a1 : Int32) (h : Rl c m) : ∃ (r : Int64) (c1 m1 : zM), qG_read c a0 a1 = some (r, c1) ∧ qM_read m a0 a1 = some (r, m1) ∧ Rl c1 m1 := by
  obtain ⟨n, rd, bk, ec, tl, ev, h1, h2, h3, h4, h5, h6, h7, h8, h9, h10, h11, h12, h13⟩ := h; obtain ⟨b1, b2, b3, b4, b5, b6⟩ := h1; have h1 : Rb1 n rd bk ec tl ev := ⟨b1, b2, b3, b4, b5, b6⟩; obtain ⟨c1, c2, c3, c4, c5, c6⟩ := h2; have h2 : Rb2 c n rd bk ec tl ev := ⟨c1, c2, c3, c4, c5, c6⟩; obtain ⟨m1, m2, m3, m4, m5, m6, m7⟩ := h3; have h3 : Rb3 m n rd bk ec tl ev := ⟨m1, m2, m3, m4, m5, m6, m7⟩
  unfold qG_read qM_read
  simp only [zl0, zl1, zl2, zl3, zl4, zl5, zl6, zl7, zl8, zl9, zl10, zl11, zl12, zl13, zl14, zl16, zl18, zl19, zl20, zl22, zl24, zl30, zl32, zl33, zl36, zl38, zl40, zl41, zl48, zl50, zl51, zl57, zl59, zl60, zl61, zl62, zl70, zl71, zl99, zl100, zl103, zl104, zl105, zl106, zl107, zl108, zl109, zl110, zl111, zl112, zl113, zl114, zl115, zl116, zl124, zl127, zl255, zl999, zl1000, zl1001, zl1002, zl1003]
  rcases zcase a0 (n := 6) (by omega) with g | ⟨t, ht, rfl⟩
  · rw [zb_n (qK_has_no _ g), zb_n (qM_isTape_no _ g)]
    exact ⟨_, c, m, rfl, rfl, n, rd, bk, ec, tl, ev, h1, h2, h3, h4, h5, h6, h7, h8, h9, h10, h11, h12, h13⟩
  rw [zb_y (qK_has_ok _ ht), zb_y (qM_isTape_ok _ ht)]
  obtain ⟨N, g1, g2, g3, g4, g5⟩ := h12 t ht
  rw [zchk_e (ze_in ht (by omega)), ze_cl (by omega)]
  rcases g5 with ⟨g5, g6, g7⟩ | ⟨k, hk, g5, g6⟩
  · subst g7
    have g : zno a1 0 := by
      rcases zcase a1 (n := 0) (by omega) with g | ⟨j, hj, _⟩
      · exact g
      · omega
    rw [zb_n (qK_hasPlace_n ht g2 g), g6, if_pos zneg1_lt]
    exact ⟨_, c, m, rfl, rfl, n, rd, bk, ec, tl, ev, h1, h2, h3, h4, h5, h6, h7, h8, h9, h10, h11, h12, h13⟩
  rw [g6, if_neg (nI_nlt (by omega) (by omega)), zchk_e (ze_in ht (by omega)), g3]
  rcases zcase a1 (n := N) (by omega) with g | ⟨i, hi, rfl⟩
  · rw [zb_n (qK_hasPlace_n ht g2 g), zb_n (qM_in_pred_n m g (by omega))]
    exact ⟨_, c, m, rfl, rfl, n, rd, bk, ec, tl, ev, h1, h2, h3, h4, h5, h6, h7, h8, h9, h10, h11, h12, h13⟩
  rw [zb_y (qK_hasPlace_y ht g2 hi g1), zb_y (qM_in_pred_y m hi (by omega))]
  unfold qK_at
  simp only [zl0, zl1, zl2, zl3, zl4, zl5, zl6, zl7, zl8, zl9, zl10, zl11, zl12, zl13, zl14, zl16, zl18, zl19, zl20, zl22, zl24, zl30, zl32, zl33, zl36, zl38, zl40, zl41, zl48, zl50, zl51, zl57, zl59, zl60, zl61, zl62, zl70, zl71, zl99, zl100, zl103, zl104, zl105, zl106, zl107, zl108, zl109, zl110, zl111, zl112, zl113, zl114, zl115, zl116, zl124, zl127, zl255, zl999, zl1000, zl1001, zl1002, zl1003]
  simp only [ze_mul, ze_add]
  rw [zchk_e (ze_in (by omega) (by omega)), zchk_e (ze_in (by omega) (by omega)), ze_cl (by omega), ze_cl (by omega), zbnd_s, ← g4 i hi, Nat.mul_comm t 60]
  exact ⟨_, c, m, rfl, rfl, n, rd, bk, ec, tl, ev, h1, h2, h3, h4, h5, h6, h7, h8, h9, h10, h11, h12, h13⟩
theorem qK_hasPlaces_e (c : zM) {t N : Nat} (ht : t < 6) (h : c.1 29 0 t = nI N) (a1 a2 : Int32) : qK_hasPlaces c (nI t) a1 a2 = some (if a2 < nI 0 then nI 0 else if a1 < nI 0 then nI 0 else if nI N - a2 < a1 then nI 0 else nI 1, c) := by
  unfold qK_hasPlaces
  simp only [zl0, zl1, zl2, zl3, zl4, zl5, zl6, zl7, zl8, zl9, zl10, zl11, zl12, zl13, zl14, zl16, zl18, zl19, zl20, zl22, zl24, zl30, zl32, zl33, zl36, zl38, zl40, zl41, zl48, zl50, zl51, zl57, zl59, zl60, zl61, zl62, zl70, zl71, zl99, zl100, zl103, zl104, zl105, zl106, zl107, zl108, zl109, zl110, zl111, zl112, zl113, zl114, zl115, zl116, zl124, zl127, zl255, zl999, zl1000, zl1001, zl1002, zl1003]
  rw [zchk_e (ze_in ht (by omega)), ze_cl (by omega), h]
  by_cases e : a2 < nI 0
  · rw [if_pos e, if_pos e]
  rw [if_neg e, if_neg e]
  by_cases e : a1 < nI 0
  · rw [if_pos e, if_pos e]
  rw [if_neg e, if_neg e]
  by_cases e : nI N - a2 < a1
  · rw [if_pos e, if_pos e]
  · rw [if_neg e, if_neg e]
