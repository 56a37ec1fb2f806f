/-! PURE PART: LINE, the call. -/
theorem rows_e {n t : Nat} {E : zM → Int32 → Option (Int32 × zM)} (hn : n ≤ 5) (ht : t < n) : ∀ (d g v F : Nat) (M : zM), g + d = n → v = (if t < g then g - 1 else g) → d < F → M.1 1 0 1 = nI n → ∃ M', (∀ R, E M' (nI (n - 1)) = R → qG_seekLine_L4 (nI t) E F M (nI v) (nI g) = R) ∧ F23 M M' ∧ (∀ i, i < v → M'.1 23 0 i = M.1 23 0 i) ∧ ∀ i, v ≤ i → i < n - 1 → M'.1 23 0 i = nI (if i < t then i else i + 1)
  | 0, g, v, F + 1, M, hd, hv, hF, h1 => by
    have e : g = n := hd
    subst e
    rw [if_pos ht] at hv
    refine ⟨M, fun R hR => ?_, F23_refl M, fun _ _ => rfl, fun i q1 q2 => by omega⟩
    unfold qG_seekLine_L4
    rw [h1, if_pos (nI_le (by omega) (by omega)), hv]
    exact hR
  | d + 1, g, v, F + 1, M, hd, hv, hF, h1 => by
    have hv4 : v < 5 := by
      by_cases q : t < g
      · rw [if_pos q] at hv; omega
      · rw [if_neg q] at hv; omega
    by_cases hg : g = t
    · subst hg
      rw [if_neg (by omega)] at hv
      obtain ⟨M', k1, k2, k3, k4⟩ := rows_e (E := E) hn ht d (g + 1) v F M (by omega) (by rw [if_pos (by omega)]; omega) (by omega) h1
      refine ⟨M', fun R hR => ?_, k2, k3, k4⟩
      unfold qG_seekLine_L4
      simp only [zl0, zl1, zl2, zl3, zl4, zl5, zl6, zl7, zl8, zl9, zl10, zl11, zl12, zl13, zl14, zl16, zl18, zl19, zl20, zl22, zl24, zl30, zl32, zl33, zl36, zl38, zl40, zl41, zl48, zl50, zl51, zl57, zl59, zl60, zl61, zl62, zl70, zl71, zl99, zl100, zl103, zl104, zl105, zl106, zl107, zl108, zl109, zl110, zl111, zl112, zl113, zl114, zl115, zl116, zl124, zl127, zl255, zl999, zl1000, zl1001, zl1002, zl1003]
      rw [h1, if_neg (nI_ge (by omega) (by omega)), if_neg (nI_ge (by omega) (by omega)), zjn_e, if_pos trivial, ze_add]
      exact k1 R hR
    · obtain ⟨M', k1, k2, k3, k4⟩ := rows_e (E := E) hn ht d (g + 1) (v + 1) F (zset M 23 0 v (nI g)) (by omega) (by
        by_cases q : t < g
        · rw [if_pos q] at hv; rw [if_pos (by omega)]; omega
        · rw [if_neg q] at hv; rw [if_neg (by omega)]; omega) (by omega) (by rw [zg_n (by omega), h1])
      refine ⟨M', fun R hR => ?_, F23_trans (show F23 M (zset M 23 0 v (nI g)) from ⟨rfl, fun a i j q => zg_n (by omega)⟩) k2, fun i hi => by rw [k3 i (by omega), zg_n (by omega)], fun i q1 q2 => ?_⟩
      · unfold qG_seekLine_L4
        simp only [zl0, zl1, zl2, zl3, zl4, zl5, zl6, zl7, zl8, zl9, zl10, zl11, zl12, zl13, zl14, zl16, zl18, zl19, zl20, zl22, zl24, zl30, zl32, zl33, zl36, zl38, zl40, zl41, zl48, zl50, zl51, zl57, zl59, zl60, zl61, zl62, zl70, zl71, zl99, zl100, zl103, zl104, zl105, zl106, zl107, zl108, zl109, zl110, zl111, zl112, zl113, zl114, zl115, zl116, zl124, zl127, zl255, zl999, zl1000, zl1001, zl1002, zl1003]
        rw [h1, if_neg (nI_ge (by omega) (by omega)), if_neg (nI_ge (by omega) (by omega)), zjn_e, if_neg (znI_ne (by omega) (by omega) hg), zchk_e (ze_in (by omega) (by omega)), znm_e, ze_cl (show v < 2 ^ 31 by omega), ze_add, ze_add]
        exact k1 R hR
      · by_cases e : i = v
        · rw [e, k3 v (by omega), zg_e (by omega)]
          by_cases q : t < g
          · rw [if_pos q] at hv; rw [if_neg (by omega), show v + 1 = g by omega]
          · rw [if_neg q] at hv; rw [if_pos (by omega), hv]
        · exact k4 i (by omega) q2
/-- both sides' search -/
theorem seek_e {c m : zM} {n rd h e t : Nat} {cs : List Cl} {a1 : Int32} {E' : zM → Int32 → Option (Int32 × zM)} (H : PH c m 0 n rd h e cs) (hn : n ≤ 5) (ht : t < n) (hpl : m.1 40 0 30 = -nI 1) :
    ∃ C' M' y, qG_seekLine c (nI t) = some (y, C') ∧ (∀ R, E' M' y = R → qM_line_L61 (nI t) a1 (nI (n - 1)) (nI (clr (2 ^ n - 1) t)) E' 1000 m (nI 99) (nI 0) = R) ∧ FRT c C' ∧ FRX m M' ∧ ∀ i, i < n - 1 → C'.1 24 0 i = M'.1 63 0 i := by
  obtain ⟨C1, k1, k2, k3, k4⟩ := rows_e (E := fun (M5 : zM) (x6 : Int32) => zbnd (qG_held M5 ) fun i9 M7 => zbnd (qY_begin M7 0 i9 (nI t)) fun _ M11 => qG_seekLine_L66 x6 1000 M11 (nI 6) (nI 1) (nI 0)) hn ht n 0 0 1000 c (by omega) (by rw [if_neg (by omega)]) (by omega) H.2.2.2.2.2.1
  have f1 : FRT c C1 := ⟨k2.1, fun i => k2.2 _ _ _ (by decide), fun a i j q1 q2 q3 => k2.2 _ _ _ (by omega)⟩
  have H1 := PH_T H f1 (FRX_refl m)
  have hl := lpf_e (PH_pp H ht).2.2.2.2.2.2.2.2
  obtain ⟨C2, j1, j2, j3⟩ := begin_c H1 hl ht
  have hf : 0 < fac (n - 1) ∧ fac (n - 1) ≤ 24 := by
    unfold fac
    repeat' split
    all_goals decide
  obtain ⟨C', M', y, x1, x2, x3, x4, x5⟩ := line_loop (k := n - 1) (a1 := a1) (E' := E') (show n - 1 + 1 = n by omega) hn ht (fac (n - 1)) 0 1000 0 (fun _ => 0) (nI 6) (nI 99) C2 m (by omega) (by omega) (PH_fr H1 j3 (FR3_refl m)) j2 hl hpl (fun _ i hi => by rw [j3.2 _ _ _ (by omega), k4 i (by omega) hi, row_0 n (by omega) t ht i hi]) (Or.inl ⟨rfl, rfl, rfl⟩)
  refine ⟨C', M', y, ?_, x2, FRT_trans f1 (FRT_trans (FRT_c j3) x3), x4, x5⟩
  unfold qG_seekLine
  simp only [zl0, zl1, zl2, zl3, zl4, zl5, zl6, zl7, zl8, zl9, zl10, zl11, zl12, zl13, zl14, zl16, zl18, zl19, zl20, zl22, zl24, zl30, zl32, zl33, zl36, zl38, zl40, zl41, zl48, zl50, zl51, zl57, zl59, zl60, zl61, zl62, zl70, zl71, zl99, zl100, zl103, zl104, zl105, zl106, zl107, zl108, zl109, zl110, zl111, zl112, zl113, zl114, zl115, zl116, zl124, zl127, zl255, zl999, zl1000, zl1001, zl1002, zl1003]
  refine k1 _ ?_
  rw [zbnd_c (H1.2.2.2.2.2.2.2.2.2.2.2 C1 rfl), zbnd_c j1]
  rw [if_neg (by omega)] at x1
  exact x1
theorem zcm1 (a : Int32) : a < -nI 1 ∨ a = -nI 1 ∨ nI 4 ≤ a ∨ ∃ w, w < 4 ∧ a = nI w := by
  rcases zcase a (n := 4) (by decide) with g | g
  · rcases g with g | g
    · by_cases h : a < -nI 1
      · exact Or.inl h
      · right; left
        have h1 := Int32.lt_iff_toInt_lt.mp g
        have e1 : (-nI 1 : Int32).toInt = -1 := by decide +kernel
        have e0 : (0 : Int32).toInt = 0 := by decide +kernel
        rw [Int32.lt_iff_toInt_lt, e1] at h
        apply Int32.toInt_inj.mp
        rw [e1]
        omega
    · exact Or.inr (Or.inr (Or.inl g))
  · exact Or.inr (Or.inr (Or.inr g))
theorem st_line (c m : zM) (a0 a1 : Int32) (h : Rl c m) : ∃ (r : Int32) (c1 m1 : zM), qG_line c a0 a1 = some (r, c1) ∧ qM_line m a0 a1 = some (r, m1) ∧ Rl c1 m1 := by
  obtain ⟨n, rd, bk, ec, tl, ev, h1, h2, h3, h4, h5, h6, h7, h8, h9, h10, h11, h12, h13⟩ := h; obtain ⟨b1, b2, b3, b4, b5, b6⟩ := h1; have h1 : Rb1 n rd bk ec tl ev := ⟨b1, b2, b3, b4, b5, b6⟩; obtain ⟨c1, c2, c3, c4, c5, c6⟩ := h2; have h2 : Rb2 c n rd bk ec tl ev := ⟨c1, c2, c3, c4, c5, c6⟩; obtain ⟨m1, m2, m3, m4, m5, m6, m7⟩ := h3; have h3 : Rb3 m n rd bk ec tl ev := ⟨m1, m2, m3, m4, m5, m6, m7⟩
  have hB : RB c m n rd bk ec tl ev := ⟨h1, h2, h3, h4, h5, h6, h7, h8, h9, h10, h11, h12, h13⟩
  obtain ⟨hh, e, cs, H⟩ := PH_0 hB
  unfold qG_line qM_line
  simp only [zl0, zl1, zl2, zl3, zl4, zl5, zl6, zl7, zl8, zl9, zl10, zl11, zl12, zl13, zl14, zl16, zl18, zl19, zl20, zl22, zl24, zl30, zl32, zl33, zl36, zl38, zl40, zl41, zl48, zl50, zl51, zl57, zl59, zl60, zl61, zl62, zl70, zl71, zl99, zl100, zl103, zl104, zl105, zl106, zl107, zl108, zl109, zl110, zl111, zl112, zl113, zl114, zl115, zl116, zl124, zl127, zl255, zl999, zl1000, zl1001, zl1002, zl1003]
  rcases zcase a0 (n := n) (by omega) with g | ⟨p, hp, rfl⟩
  · rw [zb_n (qP_has_no c1 g), zb_n (qM_isPerson_no m1 (by omega) g)]
    exact ⟨_, c, m, rfl, rfl, n, rd, bk, ec, tl, ev, h1, h2, h3, h4, h5, h6, h7, h8, h9, h10, h11, h12, h13⟩
  rw [zb_y (qP_has_ok c1 hp (by omega)), zb_y (qM_isPerson_ok m1 hp (by omega))]
  have o31 : ¬ (nI 3 : Int32) < -nI 1 := by decide +kernel
  have in0 : ∀ a, a < -nI 1 ∨ (¬ a < -nI 1 ∧ nI 3 < a) → qM_in m a (-nI 1) (nI 3) = some (nI 0, m) := by
    intro a ha
    unfold qM_in
    simp only [zl0, zl1, zl2, zl3, zl4, zl5, zl6, zl7, zl8, zl9, zl10, zl11, zl12, zl13, zl14, zl16, zl18, zl19, zl20, zl22, zl24, zl30, zl32, zl33, zl36, zl38, zl40, zl41, zl48, zl50, zl51, zl57, zl59, zl60, zl61, zl62, zl70, zl71, zl99, zl100, zl103, zl104, zl105, zl106, zl107, zl108, zl109, zl110, zl111, zl112, zl113, zl114, zl115, zl116, zl124, zl127, zl255, zl999, zl1000, zl1001, zl1002, zl1003]
    rcases ha with q | ⟨q1, q2⟩
    · rw [if_pos q]
    · rw [if_neg q1, if_pos q2]
  have in1 : ∀ a, ¬ a < -nI 1 → ¬ nI 3 < a → qM_in m a (-nI 1) (nI 3) = some (nI 1, m) := by
    intro a q1 q2
    unfold qM_in
    simp only [zl0, zl1, zl2, zl3, zl4, zl5, zl6, zl7, zl8, zl9, zl10, zl11, zl12, zl13, zl14, zl16, zl18, zl19, zl20, zl22, zl24, zl30, zl32, zl33, zl36, zl38, zl40, zl41, zl48, zl50, zl51, zl57, zl59, zl60, zl61, zl62, zl70, zl71, zl99, zl100, zl103, zl104, zl105, zl106, zl107, zl108, zl109, zl110, zl111, zl112, zl113, zl114, zl115, zl116, zl124, zl127, zl255, zl999, zl1000, zl1001, zl1002, zl1003]
    rw [if_neg q1, if_neg q2]
  have both : ∀ a, (a = -nI 1 ∨ ∃ w, w < 4 ∧ a = nI w) → ¬ a < -nI 1 ∧ a < nI 4 ∧ ¬ nI 3 < a := by
    intro a ha
    rcases ha with rfl | ⟨w, hw, rfl⟩
    · exact ⟨by decide +kernel, by decide +kernel, by decide +kernel⟩
    · exact ⟨of_eq_false (ze_ngt (by omega) (by omega) (by omega)), nI_lt (by omega) (by omega), nI_nlt (by omega) (by omega)⟩
  rcases zcm1 a1 with g | g | g | g
  · rw [if_pos g, zb_n (in0 a1 (Or.inl g))]
    exact ⟨_, c, m, rfl, rfl, n, rd, bk, ec, tl, ev, h1, h2, h3, h4, h5, h6, h7, h8, h9, h10, h11, h12, h13⟩
  rotate_left
  · have n1 : ¬ a1 < -nI 1 := by
      intro q
      have := Int32.lt_of_le_of_lt g q
      exact absurd this (by decide +kernel)
    have n2 : nI 3 < a1 := Int32.lt_of_lt_of_le (show (nI 3 : Int32) < nI 4 by decide +kernel) g
    rw [if_neg n1, if_neg (Int32.not_lt.mpr g), zb_n (in0 a1 (Or.inr ⟨n1, n2⟩))]
    exact ⟨_, c, m, rfl, rfl, n, rd, bk, ec, tl, ev, h1, h2, h3, h4, h5, h6, h7, h8, h9, h10, h11, h12, h13⟩
  all_goals
    obtain ⟨n1, n2, n3⟩ := both a1 (by first | exact Or.inl g | exact Or.inr g)
    rw [if_neg n1, if_pos n2, zb_y (in1 a1 n1 n3), c1, m1]
    by_cases e5 : n ≤ 5
    rotate_left
    · rw [if_neg (nI_ge (by omega) (by omega)), if_neg (nI_ge (by omega) (by omega))]
      exact ⟨_, c, m, rfl, rfl, n, rd, bk, ec, tl, ev, h1, h2, h3, h4, h5, h6, h7, h8, h9, h10, h11, h12, h13⟩
    rw [if_pos (nI_le (by omega) (by omega)), if_pos (nI_le (by omega) (by omega)), ze_sub (by omega), znm_e, set_key n (by omega) p hp, znm_e]
    obtain ⟨C', M', y, x1, x2, x3, x4, x5⟩ := seek_e (a1 := a1) (E' := fun (M26 : zM) (x27 : Int32) => if nI 0 ≤ a1 then (if nI (n - 1) ≤ a1 then (some ((-nI 5 : Int32), M26)) else (zchk (zin a1 4) (some ((M26.1 63 0 a1.toNatClampNeg), M26)))) else (some (x27, M26))) H e5 hp m7
    have fin := RB_T hB x3 x4
  · obtain ⟨w, hw, rfl⟩ := g
    by_cases q : w < n - 1
    · refine ⟨C'.1 24 0 w, C', M', ?_, x2 _ ?_, n, rd, bk, ec, tl, ev, fin⟩
      · rw [if_pos (nI_lt (by omega) (by omega)), zbnd_c x1, if_pos (nI_le (by omega) (by omega)), zchk_e (ze_in (by omega) (by omega)), ze_cl (show w < 2 ^ 31 by omega)]
      · rw [if_pos (nI_le (by omega) (by omega)), if_neg (nI_ge (by omega) (by omega)), zchk_e (ze_in (by omega) (by omega)), ze_cl (show w < 2 ^ 31 by omega), x5 w q]
    · rw [if_neg (nI_nlt (by omega) (by omega))]
      refine ⟨(-nI 5 : Int32), c, M', id rfl, ?_, n, rd, bk, ec, tl, ev, RB_T hB (FRT_refl c) x4⟩
      refine x2 _ ?_
      rw [if_pos (nI_le (by omega) (by omega)), if_pos (nI_le (by omega) (by omega))]
  · subst g
    rw [if_pos (of_eq_true (ze_nlt (by omega) (by omega) (by omega))), zbnd_c x1, if_neg (of_eq_false (ze_nle (by omega) (by omega) (by omega)))]
    refine ⟨_, C', M', rfl, x2 _ ?_, n, rd, bk, ec, tl, ev, fin⟩
    rw [if_neg (of_eq_false (ze_nle (by omega) (by omega) (by omega)))]
