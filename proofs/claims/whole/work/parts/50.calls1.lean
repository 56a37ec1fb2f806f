/-! PURE PART: what the calls leave; DOUBT, GUESS, HANDS, LOOKED. -/
def FRT (c C : zM) : Prop := C.2 = c.2 ∧ (∀ i, C.1 2 i 0 = c.1 2 i 0) ∧ ∀ a i j, a < 15 ∨ 24 < a → ¬ ((a = 1 ∨ a = 7 ∨ a = 8 ∨ a = 9) ∧ i = 2) → ¬ (2 ≤ a ∧ a ≤ 6 ∧ 12 ≤ i) → C.1 a i j = c.1 a i j
theorem FRT_refl (c : zM) : FRT c c := ⟨rfl, fun _ => rfl, fun _ _ _ _ _ _ => rfl⟩
theorem FRT_trans {A B C : zM} (h1 : FRT A B) (h2 : FRT B C) : FRT A C := ⟨h2.1.trans h1.1, fun i => (h2.2.1 i).trans (h1.2.1 i), fun a i j q1 q2 q3 => (h2.2.2 a i j q1 q2 q3).trans (h1.2.2 a i j q1 q2 q3)⟩
theorem FRT_c {c C : zM} (h : FRc c C) : FRT c C := ⟨h.1, fun i => h.2 _ _ _ (by omega), fun a i j q _ _ => h.2 a i j (by omega)⟩
def FRX (m M : zM) : Prop := M.2 = m.2 ∧ ∀ a j, a < 58 ∨ a = 64 ∨ 65 < a → ¬ (a = 40 ∧ (j = 31 ∨ j = 32)) → M.1 a 0 j = m.1 a 0 j
theorem FRX_refl (m : zM) : FRX m m := ⟨rfl, fun _ _ _ _ => rfl⟩
theorem FRX_trans {A B C : zM} (h1 : FRX A B) (h2 : FRX B C) : FRX A C := ⟨h2.1.trans h1.1, fun a j q1 q2 => (h2.2 a j q1 q2).trans (h1.2 a j q1 q2)⟩
theorem FRX_3 {m M : zM} (h : FR3 m M) : FRX m M := ⟨h.1, fun a j q _ => h.2 a 0 j (by omega) (by omega) (by omega)⟩
theorem RB_T {c m C M : zM} {n rd bk ec tl : Nat} {ev : Int32} (h : RB c m n rd bk ec tl ev) (hC : FRT c C) (hM : FRX m M) : RB C M n rd bk ec tl ev := by
  obtain ⟨h1, h2, h3, h4, h5, h6, h7, h8, h9, h10, h11, h12, h13⟩ := h
  obtain ⟨b1, b2, b3, b4, b5, b6⟩ := h1
  obtain ⟨c1, c2, c3, c4, c5, c6⟩ := h2
  obtain ⟨m1, m2, m3, m4, m5, m6, m7⟩ := h3
  have K := hC.2.2
  have L := hM.2
  refine ⟨⟨b1, b2, b3, b4, b5, b6⟩, ⟨by rw [K _ _ _ (by omega) (by omega) (by omega), c1], by rw [K _ _ _ (by omega) (by omega) (by omega), c2], by rw [K _ _ _ (by omega) (by omega) (by omega), c3], by rw [K _ _ _ (by omega) (by omega) (by omega), c4], by rw [K _ _ _ (by omega) (by omega) (by omega), c5], by rw [K _ _ _ (by omega) (by omega) (by omega), c6]⟩, ⟨by rw [L _ _ (by omega) (by omega), m1], by rw [L _ _ (by omega) (by omega), m2], by rw [L _ _ (by omega) (by omega), m3], by rw [L _ _ (by omega) (by omega), m4], by rw [L _ _ (by omega) (by omega), m5], by rw [L _ _ (by omega) (by omega), m6], by rw [L _ _ (by omega) (by omega), m7]⟩, ?_, ?_, ?_, ?_, ?_, ?_, ?_, ?_, ?_, ?_⟩
  · intro i hi; rw [hC.2.1 i, h4 i hi]
  · exact Rppl_cg (fun k p j hp hk => K _ _ _ (by omega) (by omega) (by omega)) (fun t j ht => L _ _ (by omega) (by omega)) h5
  · exact Rbk_cg (Nat.le_refl _) (fun j _ => K _ _ _ (by omega) (by omega) (by omega)) (fun j _ => ⟨L _ _ (by omega) (by omega), L _ _ (by omega) (by omega), L _ _ (by omega) (by omega)⟩) h6
  · intro p hp; rw [K _ _ _ (by omega) (by omega) (by omega), L _ _ (by omega) (by omega), h7 p hp]
  · intro j hj
    obtain ⟨h, q1, q2, q3⟩ := h8 j hj
    exact ⟨h, q1, by rw [K _ _ _ (by omega) (by omega) (by omega), q2], by rw [L _ _ (by omega) (by omega), q3]⟩
  · exact Rev_cg b4 (fun k i j hk => K _ _ _ (by omega) (by omega) (by omega)) (fun k j hk => L _ _ (by omega) (by omega)) h9
  · exact Rim_cg (Nat.le_refl _) (fun k i j hk => K _ _ _ (by omega) (by omega) (by omega)) (fun k j hk => L _ _ (by omega) (by omega)) h10
  · obtain ⟨k, q1, q2, q3, q4⟩ := h11
    exact ⟨k, q1, by rw [K _ _ _ (by omega) (by omega) (by omega), q2], by rw [L _ _ (by omega) (by omega), q3], fun j r1 r2 => by rw [K _ _ _ (by omega) (by omega) (by omega), L _ _ (by omega) (by omega), q4 j r1 r2]⟩
  · intro t ht
    obtain ⟨k, q1, q2, q3, q4, q5⟩ := h12 t ht
    exact ⟨k, q1, by rw [K _ _ _ (by omega) (by omega) (by omega), q2], by rw [L _ _ (by omega) (by omega), q3], fun j hj => by rw [hC.1, hM.1, q4 j hj], by rw [K _ _ _ (by omega) (by omega) (by omega), L _ _ (by omega) (by omega)]; exact q5⟩
  · intro j hj; rw [L _ _ (by omega) (by omega), h13 j hj]
theorem PH_0 {c m : zM} {n rd bk ec tl : Nat} {ev : Int32} (h : RB c m n rd bk ec tl ev) : ∃ hh e cs, PH c m 0 n rd hh e cs := by
  obtain ⟨hh, e, cs, q1, q2, q3⟩ := held_e h
  obtain ⟨h1, h2, h3, h4, h5, h6, h7, h8, h9, h10, h11, h12, h13⟩ := h
  exact ⟨hh, e, cs, by decide, h1.1, by have := h1.2.1; omega, h4, h5, h2.1, h2.2.1, h3.1, h3.2.1, q2, q3, q1⟩
theorem st_doubt (c m : zM) (a0 a1 a2 : Int32) (h : Rl c m) : ∃ (r : Int32) (c1 m1 : zM), qG_doubt c a0 a1 a2 = some (r, c1) ∧ qM_doubt m a0 a1 a2 = some (r, m1) ∧ Rl c1 m1 := by
  obtain ⟨n, rd, bk, ec, tl, ev, h1, h2, h3, h4, h5, h6, h7, h8, h9, h10, h11, h12, h13⟩ := h; obtain ⟨b1, b2, b3, b4, b5, b6⟩ := h1; have h1 : Rb1 n rd bk ec tl ev := ⟨b1, b2, b3, b4, b5, b6⟩; obtain ⟨c1, c2, c3, c4, c5, c6⟩ := h2; have h2 : Rb2 c n rd bk ec tl ev := ⟨c1, c2, c3, c4, c5, c6⟩; obtain ⟨m1, m2, m3, m4, m5, m6, m7⟩ := h3; have h3 : Rb3 m n rd bk ec tl ev := ⟨m1, m2, m3, m4, m5, m6, m7⟩
  have hB : RB c m n rd bk ec tl ev := ⟨h1, h2, h3, h4, h5, h6, h7, h8, h9, h10, h11, h12, h13⟩
  obtain ⟨hh, e, cs, H⟩ := PH_0 hB
  unfold qG_doubt qM_doubt
  simp only [zl0, zl1, zl2, zl3, zl4, zl5, zl6, zl7, zl8, zl9, zl10, zl11, zl12, zl13, zl14, zl16, zl18, zl19, zl20, zl22, zl24, zl30, zl32, zl33, zl36, zl38, zl40, zl41, zl48, zl50, zl51, zl57, zl59, zl60, zl61, zl62, zl70, zl71, zl99, zl100, zl103, zl104, zl105, zl106, zl107, zl108, zl109, zl110, zl111, zl112, zl113, zl114, zl115, zl116, zl124, zl127, zl255, zl999, zl1000, zl1001, zl1002, zl1003]
  rcases zcase a0 (n := n) (by omega) with g | ⟨p, hp, rfl⟩
  · rw [zb_n (qP_has_no c1 g), zb_n (qM_isPerson_no m1 (by omega) g)]
    exact ⟨_, c, m, rfl, rfl, n, rd, bk, ec, tl, ev, h1, h2, h3, h4, h5, h6, h7, h8, h9, h10, h11, h12, h13⟩
  rw [zb_y (qP_has_ok c1 hp (by omega)), zb_y (qM_isPerson_ok m1 hp (by omega))]
  rcases zcase a1 (n := n) (by omega) with g | ⟨t, ht, rfl⟩
  · rw [zb_n (qP_has_no c1 g), zb_n (qM_isPerson_no m1 (by omega) g)]
    exact ⟨_, c, m, rfl, rfl, n, rd, bk, ec, tl, ev, h1, h2, h3, h4, h5, h6, h7, h8, h9, h10, h11, h12, h13⟩
  rw [zb_y (qP_has_ok c1 ht (by omega)), zb_y (qM_isPerson_ok m1 ht (by omega))]
  rcases zcase a2 (n := 3) (by omega) with g | ⟨s, hs, rfl⟩
  · rw [zb_n (qG_three_no c g), zb_n (qM_in_no m (h := 2) rfl (by decide) g)]
    exact ⟨_, c, m, rfl, rfl, n, rd, bk, ec, tl, ev, h1, h2, h3, h4, h5, h6, h7, h8, h9, h10, h11, h12, h13⟩
  rw [zb_y (qG_three_ok c hs), zb_y (qM_in_ok m (show s ≤ 2 by omega) (by decide))]
  by_cases e1 : p = t
  · rw [if_pos (by rw [e1]), if_pos (by rw [e1])]
    exact ⟨_, c, m, rfl, rfl, n, rd, bk, ec, tl, ev, h1, h2, h3, h4, h5, h6, h7, h8, h9, h10, h11, h12, h13⟩
  rw [if_neg (znI_ne (by omega) (by omega) e1), if_neg (znI_ne (by omega) (by omega) e1)]
  obtain ⟨g1, g2, g3, g4, g5, g6, g7, g8, g9⟩ := PH_pp H hp
  obtain ⟨t1, t2, t3, t4, t5, t6, t7, t8, t9⟩ := PH_pp H ht
  have H10 := H.2.2.2.2.2.2.2.2.2.1
  have H11 := H.2.2.2.2.2.2.2.2.2.2.1
  have H12 := H.2.2.2.2.2.2.2.2.2.2.2
  obtain ⟨C, k1, k2⟩ := doubt_c H10 (cl_ok H11) t9 (show p < 6 by omega) (show t < 6 by omega) hs g1 g2 t1 t5 t6 t7
  obtain ⟨M, k3, k4⟩ := doubt_m H11 t9 (show p < 6 by omega) (show t < 6 by omega) hs
  simp only [Nat.mul_zero, Nat.zero_add] at k1
  rw [zbnd_c (H12 c rfl), zchk_e (ze_in (by omega) (by omega)), znm_e, zchk_e (ze_in (by omega) (by omega)), znm_e, ze_cl (show p < 2 ^ 31 by omega), ze_cl (show t < 2 ^ 31 by omega), Nat.zero_add, Nat.zero_add, zbnd_c k1, zbnd_c k3]
  exact ⟨_, C, M, rfl, rfl, n, rd, bk, ec, tl, ev, RB_T hB (FRT_c (FRc_1 k2)) (FRX_3 (FR3_1 k4))⟩
theorem st_guess (c m : zM) (a0 a1 : Int32) (h : Rl c m) : ∃ (r : Int32) (c1 m1 : zM), qG_guess c a0 a1 = some (r, c1) ∧ qM_guess m a0 a1 = some (r, m1) ∧ Rl c1 m1 := by
  obtain ⟨n, rd, bk, ec, tl, ev, h1, h2, h3, h4, h5, h6, h7, h8, h9, h10, h11, h12, h13⟩ := h; obtain ⟨b1, b2, b3, b4, b5, b6⟩ := h1; have h1 : Rb1 n rd bk ec tl ev := ⟨b1, b2, b3, b4, b5, b6⟩; obtain ⟨c1, c2, c3, c4, c5, c6⟩ := h2; have h2 : Rb2 c n rd bk ec tl ev := ⟨c1, c2, c3, c4, c5, c6⟩; obtain ⟨m1, m2, m3, m4, m5, m6, m7⟩ := h3; have h3 : Rb3 m n rd bk ec tl ev := ⟨m1, m2, m3, m4, m5, m6, m7⟩
  have hB : RB c m n rd bk ec tl ev := ⟨h1, h2, h3, h4, h5, h6, h7, h8, h9, h10, h11, h12, h13⟩
  obtain ⟨hh, e, cs, H⟩ := PH_0 hB
  unfold qG_guess qM_guess
  simp only [zl0, zl1, zl2, zl3, zl4, zl5, zl6, zl7, zl8, zl9, zl10, zl11, zl12, zl13, zl14, zl16, zl18, zl19, zl20, zl22, zl24, zl30, zl32, zl33, zl36, zl38, zl40, zl41, zl48, zl50, zl51, zl57, zl59, zl60, zl61, zl62, zl70, zl71, zl99, zl100, zl103, zl104, zl105, zl106, zl107, zl108, zl109, zl110, zl111, zl112, zl113, zl114, zl115, zl116, zl124, zl127, zl255, zl999, zl1000, zl1001, zl1002, zl1003]
  rcases zcase a0 (n := n) (by omega) with g | ⟨p, hp, rfl⟩
  · rw [zb_n (qP_has_no c1 g), zb_n (qM_isPerson_no m1 (by omega) g)]
    exact ⟨_, c, m, rfl, rfl, n, rd, bk, ec, tl, ev, h1, h2, h3, h4, h5, h6, h7, h8, h9, h10, h11, h12, h13⟩
  rw [zb_y (qP_has_ok c1 hp (by omega)), zb_y (qM_isPerson_ok m1 hp (by omega))]
  rcases zcase a1 (n := n) (by omega) with g | ⟨t, ht, rfl⟩
  · rw [zb_n (qP_has_no c1 g), zb_n (qM_isPerson_no m1 (by omega) g)]
    exact ⟨_, c, m, rfl, rfl, n, rd, bk, ec, tl, ev, h1, h2, h3, h4, h5, h6, h7, h8, h9, h10, h11, h12, h13⟩
  rw [zb_y (qP_has_ok c1 ht (by omega)), zb_y (qM_isPerson_ok m1 ht (by omega))]
  by_cases e1 : p = t
  · rw [if_pos (by rw [e1]), if_pos (by rw [e1])]
    exact ⟨_, c, m, rfl, rfl, n, rd, bk, ec, tl, ev, h1, h2, h3, h4, h5, h6, h7, h8, h9, h10, h11, h12, h13⟩
  rw [if_neg (znI_ne (by omega) (by omega) e1), if_neg (znI_ne (by omega) (by omega) e1)]
  obtain ⟨lp, hl⟩ := LPl_ex (PH_pp H ht).2.2.2.2.2.2.2.2
  obtain ⟨C, M, hs, tk, gs, k1, k2, k3, k4, k5, k6, k7, k8⟩ := play_e H hl ht m7
  rw [zbnd_c k1, zbnd_c k2, zchk_e (ze_in (by omega) (by omega)), zchk_e (ze_in (by omega) (by omega)), ze_cl (show p < 2 ^ 31 by omega), (k7 p hp e1).2.1, (k7 p hp e1).2.2]
  exact ⟨_, C, M, rfl, rfl, n, rd, bk, ec, tl, ev, RB_T hB (FRT_c k4) (FRX_3 k5)⟩
theorem st_hands (c m : zM) (a0 a1 : Int32) (h : Rl c m) : ∃ (r : Int32) (c1 m1 : zM), qG_hands c a0 a1 = some (r, c1) ∧ qM_hands m a0 a1 = some (r, m1) ∧ Rl c1 m1 := by
  obtain ⟨n, rd, bk, ec, tl, ev, h1, h2, h3, h4, h5, h6, h7, h8, h9, h10, h11, h12, h13⟩ := h; obtain ⟨b1, b2, b3, b4, b5, b6⟩ := h1; have h1 : Rb1 n rd bk ec tl ev := ⟨b1, b2, b3, b4, b5, b6⟩; obtain ⟨c1, c2, c3, c4, c5, c6⟩ := h2; have h2 : Rb2 c n rd bk ec tl ev := ⟨c1, c2, c3, c4, c5, c6⟩; obtain ⟨m1, m2, m3, m4, m5, m6, m7⟩ := h3; have h3 : Rb3 m n rd bk ec tl ev := ⟨m1, m2, m3, m4, m5, m6, m7⟩
  have hB : RB c m n rd bk ec tl ev := ⟨h1, h2, h3, h4, h5, h6, h7, h8, h9, h10, h11, h12, h13⟩
  obtain ⟨hh, e, cs, H⟩ := PH_0 hB
  unfold qG_hands qM_hands
  simp only [zl0, zl1, zl2, zl3, zl4, zl5, zl6, zl7, zl8, zl9, zl10, zl11, zl12, zl13, zl14, zl16, zl18, zl19, zl20, zl22, zl24, zl30, zl32, zl33, zl36, zl38, zl40, zl41, zl48, zl50, zl51, zl57, zl59, zl60, zl61, zl62, zl70, zl71, zl99, zl100, zl103, zl104, zl105, zl106, zl107, zl108, zl109, zl110, zl111, zl112, zl113, zl114, zl115, zl116, zl124, zl127, zl255, zl999, zl1000, zl1001, zl1002, zl1003]
  rcases zcase a0 (n := n) (by omega) with g | ⟨p, hp, rfl⟩
  · rw [zb_n (qP_has_no c1 g), zb_n (qM_isPerson_no m1 (by omega) g)]
    exact ⟨_, c, m, rfl, rfl, n, rd, bk, ec, tl, ev, h1, h2, h3, h4, h5, h6, h7, h8, h9, h10, h11, h12, h13⟩
  rw [zb_y (qP_has_ok c1 hp (by omega)), zb_y (qM_isPerson_ok m1 hp (by omega))]
  rcases zcase a1 (n := 4) (by omega) with g | ⟨t, ht, rfl⟩
  · rw [zno_i3 g (k := 3) rfl (by decide), zb_n (qM_in_no m (h := 3) rfl (by decide) g)]
    exact ⟨_, c, m, rfl, rfl, n, rd, bk, ec, tl, ev, h1, h2, h3, h4, h5, h6, h7, h8, h9, h10, h11, h12, h13⟩
  rw [if_neg (nI_nlt (by omega) (by omega)), if_pos (nI_le (by omega) (by omega)), zb_y (qM_in_ok m (show t ≤ 3 by omega) (by decide))]
  obtain ⟨lp, hl⟩ := LPl_ex (PH_pp H hp).2.2.2.2.2.2.2.2
  obtain ⟨C, M, hs, tk, gs, k1, k2, k3, k4, k5, k6, k7, k8⟩ := play_e H hl hp m7
  rw [zbnd_c k1, zbnd_c k2]
  by_cases e1 : t = 3
  · rw [if_pos (by rw [e1]), if_pos (nI_le (by omega) (by omega))]
    exact ⟨_, C, M, rfl, rfl, n, rd, bk, ec, tl, ev, RB_T hB (FRT_c k4) (FRX_3 k5)⟩
  · rw [if_neg (znI_ne (by omega) (by omega) e1), if_neg (nI_ge (by omega) (by omega)), zchk_e (ze_in (by omega) (by omega)), zchk_e (ze_in (by omega) (by omega)), ze_cl (show t < 2 ^ 31 by omega), k3.2.2.2 t (by omega), (k6 t (by omega)).2]
    exact ⟨_, C, M, rfl, rfl, n, rd, bk, ec, tl, ev, RB_T hB (FRT_c k4) (FRX_3 k5)⟩
theorem looked_loop {c m : zM} {n rd bk h e : Nat} {cs : List Cl} (hb : bk ≤ 12) (c4 : c.1 1 0 6 = nI bk) (m4 : m.1 40 0 38 = nI bk) (m7 : m.1 40 0 30 = -nI 1) (h6 : Rbk c m 0 n bk 66 67 68) (H : PH c m 0 n rd h e cs) : ∀ (d j F : Nat) (C M : zM), j + d = bk → d < F → FRc c C → FR3 m M → ∃ r C' M', qG_looked_L2 F C (nI j) = some (r, C') ∧ qM_looked_L2 F M (nI j) = some (r, M') ∧ FRc c C' ∧ FR3 m M'
  | 0, j, F + 1, C, M, hd, hF, hC, hM => by
    have e : j = bk := hd
    subst e
    refine ⟨(-5 : Int32), C, M, ?_, ?_, hC, hM⟩
    · unfold qG_looked_L2
      rw [hC.2 _ _ _ (by omega), c4, if_pos (nI_le (by omega) (by omega))]
    · unfold qM_looked_L2
      rw [hM.2 _ _ _ (by decide) (by decide) (by decide), m4, if_pos (nI_le (by omega) (by omega))]
  | d + 1, j, F + 1, C, M, hd, hF, hC, hM => by
    have hn6 := H.2.1
    obtain ⟨t, w, r, q1, q2, q3, q4, q5, q6, q7, q8, q9, q10⟩ := h6 j (by omega)
    have HH := PH_fr H hC hM
    obtain ⟨lp, hl⟩ := LPl_ex (PH_pp HH q1).2.2.2.2.2.2.2.2
    obtain ⟨C1, M1, hs, tk, gs, k1, k2, k3, k4, k5, k6, k7, k8⟩ := play_e HH hl q1 (by rw [hM.2 _ _ _ (by decide) (by decide) (by decide), m7])
    have hC1 := FRc_trans hC k4
    have hM1 := FR3_trans hM k5
    obtain ⟨g1, g2, g3⟩ := k7 w q2 (fun q => q4 q.symm)
    have e1 : C.1 9 0 (j * 3) = nI t := by rw [hC.2 _ _ _ (by omega), ← q5, Nat.mul_comm]
    have e2 : C1.1 9 0 (j * 3 + 1) = nI w := by rw [hC1.2 _ _ _ (by omega), ← q6, Nat.mul_comm]
    have e3 : C1.1 9 0 (j * 3 + 2) = nI r := by rw [hC1.2 _ _ _ (by omega), ← q7, Nat.mul_comm]
    have e4 : M.1 66 0 j = nI t := by rw [hM.2 _ _ _ (by decide) (by decide) (by decide), q8]
    have e5 : M1.1 67 0 j = nI w := by rw [hM1.2 _ _ _ (by decide) (by decide) (by decide), q9]
    have e6 : M1.1 68 0 j = nI r := by rw [hM1.2 _ _ _ (by decide) (by decide) (by decide), q10]
    have headC : qG_looked_L2 (F + 1) C (nI j) = if gs w = r then qG_looked_L2 F C1 (nI (j + 1)) else some (nI j, C1) := by
      generalize hR : qG_looked_L2 F C1 (nI (j + 1)) = R
      unfold qG_looked_L2
      simp only [zl0, zl1, zl2, zl3, zl4, zl5, zl6, zl7, zl8, zl9, zl10, zl11, zl12, zl13, zl14, zl16, zl18, zl19, zl20, zl22, zl24, zl30, zl32, zl33, zl36, zl38, zl40, zl41, zl48, zl50, zl51, zl57, zl59, zl60, zl61, zl62, zl70, zl71, zl99, zl100, zl103, zl104, zl105, zl106, zl107, zl108, zl109, zl110, zl111, zl112, zl113, zl114, zl115, zl116, zl124, zl127, zl255, zl999, zl1000, zl1001, zl1002, zl1003]
      rw [hC.2 _ _ _ (by omega), c4, if_neg (nI_ge (by omega) (by omega)), ze_mul, zchk_e (ze_in (by omega) (by omega)), ze_cl (show j * 3 < 2 ^ 31 by omega), e1, zbnd_c k1, ze_add, zchk_e (ze_in (by omega) (by omega)), ze_cl (show j * 3 + 1 < 2 ^ 31 by omega), e2, zchk_e (ze_in (by omega) (by omega)), ze_add, zchk_e (ze_in (by omega) (by omega)), ze_cl (show j * 3 + 2 < 2 ^ 31 by omega), e3, ze_cl (show w < 2 ^ 31 by omega), g2, ze_add]
      by_cases e : gs w = r
      · rw [if_pos e, if_pos (by rw [e]), hR]
      · rw [if_neg e, if_neg (znI_ne (by omega) (by omega) e)]
    have headM : qM_looked_L2 (F + 1) M (nI j) = if gs w = r then qM_looked_L2 F M1 (nI (j + 1)) else some (nI j, M1) := by
      generalize hR : qM_looked_L2 F M1 (nI (j + 1)) = R
      unfold qM_looked_L2
      simp only [zl0, zl1, zl2, zl3, zl4, zl5, zl6, zl7, zl8, zl9, zl10, zl11, zl12, zl13, zl14, zl16, zl18, zl19, zl20, zl22, zl24, zl30, zl32, zl33, zl36, zl38, zl40, zl41, zl48, zl50, zl51, zl57, zl59, zl60, zl61, zl62, zl70, zl71, zl99, zl100, zl103, zl104, zl105, zl106, zl107, zl108, zl109, zl110, zl111, zl112, zl113, zl114, zl115, zl116, zl124, zl127, zl255, zl999, zl1000, zl1001, zl1002, zl1003]
      rw [hM.2 _ _ _ (by decide) (by decide) (by decide), m4, if_neg (nI_ge (by omega) (by omega)), zchk_e (ze_in (by omega) (by omega)), ze_cl (show j < 2 ^ 31 by omega), e4, zbnd_c k2, zchk_e (ze_in (by omega) (by omega)), e5, zchk_e (ze_in (by omega) (by omega)), zchk_e (ze_in (by omega) (by omega)), e6, ze_cl (show w < 2 ^ 31 by omega), g3, ze_add]
      by_cases e : gs w = r
      · rw [if_pos e, if_pos (by rw [e]), hR]
      · rw [if_neg e, if_neg (znI_ne (by omega) (by omega) e)]
    rw [headC, headM]
    by_cases e : gs w = r
    · rw [if_pos e, if_pos e]
      exact looked_loop hb c4 m4 m7 h6 H d (j + 1) F C1 M1 (by omega) (by omega) hC1 hM1
    · rw [if_neg e, if_neg e]
      exact ⟨_, C1, M1, rfl, rfl, hC1, hM1⟩
theorem st_looked (c m : zM) (h : Rl c m) : ∃ (r : Int32) (c1 m1 : zM), qG_looked c = some (r, c1) ∧ qM_looked m = some (r, m1) ∧ Rl c1 m1 := by
  obtain ⟨n, rd, bk, ec, tl, ev, h1, h2, h3, h4, h5, h6, h7, h8, h9, h10, h11, h12, h13⟩ := h; obtain ⟨b1, b2, b3, b4, b5, b6⟩ := h1; have h1 : Rb1 n rd bk ec tl ev := ⟨b1, b2, b3, b4, b5, b6⟩; obtain ⟨c1, c2, c3, c4, c5, c6⟩ := h2; have h2 : Rb2 c n rd bk ec tl ev := ⟨c1, c2, c3, c4, c5, c6⟩; obtain ⟨m1, m2, m3, m4, m5, m6, m7⟩ := h3; have h3 : Rb3 m n rd bk ec tl ev := ⟨m1, m2, m3, m4, m5, m6, m7⟩
  have hB : RB c m n rd bk ec tl ev := ⟨h1, h2, h3, h4, h5, h6, h7, h8, h9, h10, h11, h12, h13⟩
  obtain ⟨hh, e, cs, H⟩ := PH_0 hB
  obtain ⟨r, C, M, k1, k2, k3, k4⟩ := looked_loop b3 c4 m4 m7 h6 H bk 0 1000 c m (by omega) (by omega) (FRc_refl c) (FR3_refl m)
  exact ⟨r, C, M, k1, k2, n, rd, bk, ec, tl, ev, RB_T hB (FRT_c k3) (FRX_3 k4)⟩
