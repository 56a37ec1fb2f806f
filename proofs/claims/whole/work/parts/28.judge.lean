theorem zsub2_toInt {N v : Nat} (hN : N ≤ 60) (hv : v < 7) : (nI N - nI v - nI 1).toInt = (N : Int) - v - 1 := by
  rw [Int32.toInt_sub, Int32.toInt_sub, nI_toInt (by omega), nI_toInt (by omega), nI_toInt (by omega), Int.bmod_eq_of_le (n := (N : Int) - v) (by omega) (by omega), Int.bmod_eq_of_le (by omega) (by omega)]
  rfl
theorem jd_loop {c m : zM} {t i N n k : Nat} (ht : t < 6) (hN : N ≤ 60) (hi : i ≤ N) (hn : n ≤ 6) (hk : k < 5) (c1 : c.1 1 0 1 = nI n) (m1 : m.1 40 0 0 = nI n) (g6 : m.1 82 0 t = nI k) (g3 : m.1 83 0 t = nI N)
    (g4 : ∀ j, j < N → c.2 30 0 (60 * t + j) = m.2 84 0 (60 * t + j)) (hp : ∀ p, p < n → c.1 2 p 3 = m.1 43 0 p) :
    ∀ (d v f : Nat), v + d = n → d < f → ∃ r, qG_judge_L76 (nI t) (nI i) (nI (N - i)) f c (nI v) = some (r, c) ∧ qM_judge_L34 (nI t) (nI i) f m (nI v) = some (r, m)
  | 0, v, f + 1, hv, hf => by
    refine ⟨-nI 5, ?_, ?_⟩
    · unfold qG_judge_L76
      rw [c1, if_pos (nI_le (by omega) (by omega))]; rfl
    · unfold qM_judge_L34
      rw [m1, if_pos (nI_le (by omega) (by omega))]; rfl
  | d + 1, v, f + 1, hv, hf => by
    obtain ⟨r', r1, r2⟩ := jd_loop ht hN hi hn hk c1 m1 g6 g3 g4 hp d (v + 1) f (by omega) (by omega)
    have e1 : ¬ nI n ≤ nI v := nI_ge (by omega) (by omega)
    have e2 : ¬ nI k < nI 0 := nI_nlt (by omega) (by omega)
    have e3 : ¬ nI i < nI 0 := nI_nlt (by omega) (by omega)
    by_cases hv2 : v < N - i
    · have e4 : nI i ≤ nI N - nI v - nI 1 := by rw [Int32.le_iff_toInt_le, zsub2_toInt hN (by omega), nI_toInt (by omega)]; omega
      have e5 := g4 (i + v) (by omega)
      rw [← Nat.add_assoc] at e5
      by_cases hc : lg_cmp (m.2 84 0 (60 * t + i + v)) (m.1 43 0 v).toInt64 = nI 0
      · refine ⟨r', ?_, ?_⟩
        · unfold qG_judge_L76 qK_at
          simp only [zl0, zl1, zl2, zl3, zl4, zl5, zl6, zl7, zl8, zl9, zl10, zl11, zl12, zl13, zl14, zl16, zl18, zl19, zl20, zl22, zl24, zl30, zl32, zl33, zl36, zl38, zl40, zl41, zl48, zl50, zl51, zl57, zl59, zl60, zl61, zl62, zl70, zl71, zl99, zl100, zl103, zl104, zl105, zl106, zl107, zl108, zl109, zl110, zl111, zl112, zl113, zl114, zl115, zl116, zl124, zl127, zl255, zl999, zl1000, zl1001, zl1002, zl1003]
          simp only [c1, if_neg e1, if_pos (nI_lt hv2 (show N - i < 2 ^ 31 by omega)), ze_mul, ze_add, zchk_e (ze_in (show t * 60 + (i + v) < 360 by omega) (by omega)), zchk_e (ze_in (show v < 6 by omega) (by omega)), ze_cl (show t * 60 + (i + v) < 2 ^ 31 by omega), ze_cl (show v < 2 ^ 31 by omega), zbnd_s, znm_e, Nat.zero_add]
          rw [show t * 60 + (i + v) = 60 * t + i + v by omega, e5, hp v (by omega), if_pos hc]
          exact r1
        · unfold qM_judge_L34
          simp only [zl0, zl1, zl2, zl3, zl4, zl5, zl6, zl7, zl8, zl9, zl10, zl11, zl12, zl13, zl14, zl16, zl18, zl19, zl20, zl22, zl24, zl30, zl32, zl33, zl36, zl38, zl40, zl41, zl48, zl50, zl51, zl57, zl59, zl60, zl61, zl62, zl70, zl71, zl99, zl100, zl103, zl104, zl105, zl106, zl107, zl108, zl109, zl110, zl111, zl112, zl113, zl114, zl115, zl116, zl124, zl127, zl255, zl999, zl1000, zl1001, zl1002, zl1003]
          simp only [m1, if_neg e1, zchk_e (ze_in ht (show 6 < 2 ^ 31 by omega)), ze_cl (show t < 2 ^ 31 by omega), g6, if_neg e2, if_neg e3, g3, if_pos e4, ze_mul, ze_add, zchk_e (ze_in (show 60 * t + i + v < 360 by omega) (by omega)), zchk_e (ze_in (show v < 6 by omega) (by omega)), ze_cl (show 60 * t + i + v < 2 ^ 31 by omega), ze_cl (show v < 2 ^ 31 by omega)]
          rw [if_pos hc]
          exact r2
      · refine ⟨nI v, ?_, ?_⟩
        · unfold qG_judge_L76 qK_at
          simp only [zl0, zl1, zl2, zl3, zl4, zl5, zl6, zl7, zl8, zl9, zl10, zl11, zl12, zl13, zl14, zl16, zl18, zl19, zl20, zl22, zl24, zl30, zl32, zl33, zl36, zl38, zl40, zl41, zl48, zl50, zl51, zl57, zl59, zl60, zl61, zl62, zl70, zl71, zl99, zl100, zl103, zl104, zl105, zl106, zl107, zl108, zl109, zl110, zl111, zl112, zl113, zl114, zl115, zl116, zl124, zl127, zl255, zl999, zl1000, zl1001, zl1002, zl1003]
          simp only [c1, if_neg e1, if_pos (nI_lt hv2 (show N - i < 2 ^ 31 by omega)), ze_mul, ze_add, zchk_e (ze_in (show t * 60 + (i + v) < 360 by omega) (by omega)), zchk_e (ze_in (show v < 6 by omega) (by omega)), ze_cl (show t * 60 + (i + v) < 2 ^ 31 by omega), ze_cl (show v < 2 ^ 31 by omega), zbnd_s, znm_e, Nat.zero_add]
          rw [show t * 60 + (i + v) = 60 * t + i + v by omega, e5, hp v (by omega), if_neg hc]
        · unfold qM_judge_L34
          simp only [zl0, zl1, zl2, zl3, zl4, zl5, zl6, zl7, zl8, zl9, zl10, zl11, zl12, zl13, zl14, zl16, zl18, zl19, zl20, zl22, zl24, zl30, zl32, zl33, zl36, zl38, zl40, zl41, zl48, zl50, zl51, zl57, zl59, zl60, zl61, zl62, zl70, zl71, zl99, zl100, zl103, zl104, zl105, zl106, zl107, zl108, zl109, zl110, zl111, zl112, zl113, zl114, zl115, zl116, zl124, zl127, zl255, zl999, zl1000, zl1001, zl1002, zl1003]
          simp only [m1, if_neg e1, zchk_e (ze_in ht (show 6 < 2 ^ 31 by omega)), ze_cl (show t < 2 ^ 31 by omega), g6, if_neg e2, if_neg e3, g3, if_pos e4, ze_mul, ze_add, zchk_e (ze_in (show 60 * t + i + v < 360 by omega) (by omega)), zchk_e (ze_in (show v < 6 by omega) (by omega)), ze_cl (show 60 * t + i + v < 2 ^ 31 by omega), ze_cl (show v < 2 ^ 31 by omega)]
          rw [if_neg hc]
    · have e4 : ¬ nI i ≤ nI N - nI v - nI 1 := by rw [Int32.le_iff_toInt_le, zsub2_toInt hN (by omega), nI_toInt (by omega)]; omega
      refine ⟨nI (100 + v), ?_, ?_⟩
      · unfold qG_judge_L76
        simp only [zl0, zl1, zl2, zl3, zl4, zl5, zl6, zl7, zl8, zl9, zl10, zl11, zl12, zl13, zl14, zl16, zl18, zl19, zl20, zl22, zl24, zl30, zl32, zl33, zl36, zl38, zl40, zl41, zl48, zl50, zl51, zl57, zl59, zl60, zl61, zl62, zl70, zl71, zl99, zl100, zl103, zl104, zl105, zl106, zl107, zl108, zl109, zl110, zl111, zl112, zl113, zl114, zl115, zl116, zl124, zl127, zl255, zl999, zl1000, zl1001, zl1002, zl1003]
        rw [c1, if_neg e1, if_neg (nI_nlt (by omega) (by omega)), ze_add]
      · unfold qM_judge_L34
        simp only [zl0, zl1, zl2, zl3, zl4, zl5, zl6, zl7, zl8, zl9, zl10, zl11, zl12, zl13, zl14, zl16, zl18, zl19, zl20, zl22, zl24, zl30, zl32, zl33, zl36, zl38, zl40, zl41, zl48, zl50, zl51, zl57, zl59, zl60, zl61, zl62, zl70, zl71, zl99, zl100, zl103, zl104, zl105, zl106, zl107, zl108, zl109, zl110, zl111, zl112, zl113, zl114, zl115, zl116, zl124, zl127, zl255, zl999, zl1000, zl1001, zl1002, zl1003]
        simp only [m1, if_neg e1, zchk_e (ze_in ht (show 6 < 2 ^ 31 by omega)), ze_cl (show t < 2 ^ 31 by omega), g6, if_neg e2, if_neg e3, g3, if_neg e4, ze_add]
/-- nothing left of the tape at the first look -/
theorem jd_none {c m : zM} {t N n : Nat} {a : Int32} (ht : t < 6) (hN : N ≤ 60) (hn : n ≤ 6) (c1 : c.1 1 0 1 = nI n) (m1 : m.1 40 0 0 = nI n) (g3 : m.1 83 0 t = nI N) (hs : m.1 82 0 t < nI 0 ∨ a < nI 0 ∨ ¬ a ≤ nI N - nI 0 - nI 1) :
    ∃ r, qG_judge_L76 (nI t) a (nI 0) 1000 c (nI 0) = some (r, c) ∧ qM_judge_L34 (nI t) a 1000 m (nI 0) = some (r, m) := by
  by_cases e : n = 0
  · refine ⟨-nI 5, ?_, ?_⟩
    · unfold qG_judge_L76
      rw [c1, if_pos (nI_le (by omega) (by omega))]; rfl
    · unfold qM_judge_L34
      rw [m1, if_pos (nI_le (by omega) (by omega))]; rfl
  · have e1 : ¬ nI n ≤ nI 0 := nI_ge (by omega) (by omega)
    refine ⟨nI 100, ?_, ?_⟩
    · unfold qG_judge_L76
      simp only [zl0, zl1, zl2, zl3, zl4, zl5, zl6, zl7, zl8, zl9, zl10, zl11, zl12, zl13, zl14, zl16, zl18, zl19, zl20, zl22, zl24, zl30, zl32, zl33, zl36, zl38, zl40, zl41, zl48, zl50, zl51, zl57, zl59, zl60, zl61, zl62, zl70, zl71, zl99, zl100, zl103, zl104, zl105, zl106, zl107, zl108, zl109, zl110, zl111, zl112, zl113, zl114, zl115, zl116, zl124, zl127, zl255, zl999, zl1000, zl1001, zl1002, zl1003]
      rw [c1, if_neg e1, if_neg (nI_nlt (by omega) (by omega)), ze_add]
    · unfold qM_judge_L34
      simp only [zl0, zl1, zl2, zl3, zl4, zl5, zl6, zl7, zl8, zl9, zl10, zl11, zl12, zl13, zl14, zl16, zl18, zl19, zl20, zl22, zl24, zl30, zl32, zl33, zl36, zl38, zl40, zl41, zl48, zl50, zl51, zl57, zl59, zl60, zl61, zl62, zl70, zl71, zl99, zl100, zl103, zl104, zl105, zl106, zl107, zl108, zl109, zl110, zl111, zl112, zl113, zl114, zl115, zl116, zl124, zl127, zl255, zl999, zl1000, zl1001, zl1002, zl1003]
      rw [m1, if_neg e1, zchk_e (ze_in ht (by omega)), ze_cl (by omega), zchk_e (ze_in ht (by omega)), g3, ze_add]
      by_cases h1 : m.1 82 0 t < nI 0
      · rw [if_pos h1]
      by_cases h2 : a < nI 0
      · rw [if_neg h1, if_pos h2]
      · rw [if_neg h1, if_neg h2, if_neg (by rcases hs with q | q | q; exact absurd q h1; exact absurd q h2; exact q)]
theorem st_judge (c m : zM) (a0 a1 : Int32) (h : Rl c m) : ∃ (r : Int32) (c1 m1 : zM), qG_judge c a0 a1 = some (r, c1) ∧ qM_judge m a0 a1 = some (r, m1) ∧ Rl c1 m1 := by
  obtain ⟨n, rd, bk, ec, tl, ev, h1, h2, h3, h4, h5, h6, h7, h8, h9, h10, h11, h12, h13⟩ := h; obtain ⟨b1, b2, b3, b4, b5, b6⟩ := h1; have h1 : Rb1 n rd bk ec tl ev := ⟨b1, b2, b3, b4, b5, b6⟩; obtain ⟨c1, c2, c3, c4, c5, c6⟩ := h2; have h2 : Rb2 c n rd bk ec tl ev := ⟨c1, c2, c3, c4, c5, c6⟩; obtain ⟨m1, m2, m3, m4, m5, m6, m7⟩ := h3; have h3 : Rb3 m n rd bk ec tl ev := ⟨m1, m2, m3, m4, m5, m6, m7⟩
  unfold qG_judge qM_judge
  simp only [zl0, zl1, zl2, zl3, zl4, zl5, zl6, zl7, zl8, zl9, zl10, zl11, zl12, zl13, zl14, zl16, zl18, zl19, zl20, zl22, zl24, zl30, zl32, zl33, zl36, zl38, zl40, zl41, zl48, zl50, zl51, zl57, zl59, zl60, zl61, zl62, zl70, zl71, zl99, zl100, zl103, zl104, zl105, zl106, zl107, zl108, zl109, zl110, zl111, zl112, zl113, zl114, zl115, zl116, zl124, zl127, zl255, zl999, zl1000, zl1001, zl1002, zl1003]
  rcases zcase a0 (n := 6) (by omega) with g | ⟨t, ht, rfl⟩
  · rw [zb_n (qK_has_no _ g), zb_n (qM_isTape_no _ g)]
    exact ⟨_, c, m, rfl, rfl, n, rd, bk, ec, tl, ev, h1, h2, h3, h4, h5, h6, h7, h8, h9, h10, h11, h12, h13⟩
  rw [zb_y (qK_has_ok _ ht), zb_y (qM_isTape_ok _ ht)]
  obtain ⟨N, g1, g2, g3, g4, g5⟩ := h12 t ht
  have hpt : ∀ p, p < n → c.1 2 p 3 = m.1 43 0 p := by
    intro p hp
    have := (h5 p hp).1.2.2.1
    rw [Nat.mul_zero, Nat.zero_add] at this
    exact this
  simp only [zchk_e (ze_in ht (show 6 < 2 ^ 31 by omega)), ze_cl (show t < 2 ^ 31 by omega), zjn_e]
  rcases g5 with ⟨g5, g6, g7⟩ | ⟨k, hk, g5, g6⟩
  · subst g7
    rw [zbnd_c (qK_holds_n ht g5), if_pos rfl, g6, if_pos zneg1_lt]
    obtain ⟨r, r1, r2⟩ := jd_none (a := a1) ht g1 b1 c1 m1 g3 (Or.inl (by rw [g6]; exact zneg1_lt))
    refine ⟨r, c, m, ?_, r2, n, rd, bk, ec, tl, ev, h1, h2, h3, h4, h5, h6, h7, h8, h9, h10, h11, h12, h13⟩
    by_cases q1 : a1 < nI 0
    · rw [if_pos q1]; exact r1
    by_cases q2 : a1 ≤ nI 0
    · have e : nI 0 - a1 = nI 0 := by
        have e : a1 = nI 0 := by
          rw [Int32.lt_iff_toInt_lt] at q1
          rw [Int32.le_iff_toInt_le] at q2
          apply Int32.toInt_inj.mp
          omega
        rw [e, pk_sub (by omega)]
      rw [if_neg q1, g2, if_pos q2, e]; exact r1
    · rw [if_neg q1, g2, if_neg q2]; exact r1
  rw [zbnd_c (qK_holds_y ht hk g5), if_neg (znI_ne (by omega) (by omega) (by omega)), g5, g6, if_neg (nI_nlt (by omega) (by omega))]
  by_cases ek : k = 1
  rotate_left
  · rw [if_neg (znI_ne (by omega) (by omega) ek), if_neg (znI_ne (by omega) (by omega) ek)]
    exact ⟨_, c, m, rfl, rfl, n, rd, bk, ec, tl, ev, h1, h2, h3, h4, h5, h6, h7, h8, h9, h10, h11, h12, h13⟩
  rw [if_pos (show nI k = nI 1 by rw [ek]), if_pos (show nI k = nI 1 by rw [ek])]
  rcases zcase a1 (n := N + 1) (by omega) with g | ⟨i, hi, rfl⟩
  · obtain ⟨r, r1, r2⟩ := jd_none (a := a1) ht g1 b1 c1 m1 g3 (by
      rcases zno_cases g with q | ⟨q, q2⟩
      · exact Or.inr (Or.inl (of_eq_true q))
      · right; right
        intro q3
        have q2 := of_eq_true q2
        rw [Int32.le_iff_toInt_le, zsub2_toInt g1 (by omega)] at q3
        rw [Int32.le_iff_toInt_le, nI_toInt (by omega)] at q2
        omega)
    refine ⟨r, c, m, ?_, r2, n, rd, bk, ec, tl, ev, h1, h2, h3, h4, h5, h6, h7, h8, h9, h10, h11, h12, h13⟩
    rw [g2, zno_i3 g rfl (by omega)]
    exact r1
  · obtain ⟨r, r1, r2⟩ := jd_loop (i := i) ht g1 (by omega) b1 hk c1 m1 g6 g3 g4 hpt n 0 1000 (by omega) (by omega)
    refine ⟨r, c, m, ?_, r2, n, rd, bk, ec, tl, ev, h1, h2, h3, h4, h5, h6, h7, h8, h9, h10, h11, h12, h13⟩
    rw [if_neg (nI_nlt (by omega) (by omega)), g2, if_pos (show nI i ≤ nI N from nI_le (by omega) (by omega)), pk_sub (show i ≤ N by omega)]
    exact r1
