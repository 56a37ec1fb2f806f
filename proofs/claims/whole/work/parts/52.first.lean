/-! PURE PART: FIRST. -/
def FK (m M : zM) : Prop := ∀ a j, 41 ≤ a → a ≤ 48 → M.1 a 0 j = m.1 a 0 j
theorem tlm_K {m M : zM} (h : FK m M) (t p : Nat) : tlm M t p = tlm m t p := by
  unfold tlm
  rw [h 47 _ (by decide) (by decide)]
theorem dD_K {m M : zM} (h : FK m M) (cs : List Cl) (g t p : Nat) : dD M cs g t p = dD m cs g t p := by
  have e : fF M g t p = fF m g t p := by
    funext l
    unfold fF
    rw [tlm_K h, h 41 _ (by decide) (by decide), h 45 _ (by decide) (by decide), h 46 _ (by decide) (by decide)]
  unfold dD
  rw [e, tlm_K h, h 45 _ (by decide) (by decide)]
theorem kD_K {m M : zM} (h : FK m M) (g : Nat) : kD M g = kD m g := by
  unfold kD
  rw [h 41 _ (by decide) (by decide)]
theorem s2D_K {m M : zM} (h : FK m M) (t p : Nat) : s2D M t p = s2D m t p := by
  unfold s2D
  rw [h 46 _ (by decide) (by decide), tlm_K h]
theorem rwD_K {m M : zM} (h : FK m M) (rd g p : Nat) : rwD M rd g p = rwD m rd g p := by
  unfold rwD
  rw [h 48 _ (by decide) (by decide)]
theorem aD_K {m M : zM} (h : FK m M) (n rd lp g t p : Nat) : aD M n rd lp g t p = aD m n rd lp g t p := by
  unfold aD
  rw [kD_K h, s2D_K h, rwD_K h, frD_cg h]
theorem hcD_K {m M : zM} (h : FK m M) (cs : List Cl) (g : Nat) : hcD M cs g = hcD m cs g := by
  unfold hcD
  rw [kD_K h]
theorem CG_K {C m M : zM} {cs : List Cl} {n rd t lp tk : Nat} {hs : Nat → Nat} (h : FK m M) (hC : CG C m cs n rd t lp hs tk) : CG C M cs n rd t lp hs tk := by
  obtain ⟨c1, c2, c3, c4⟩ := hC
  refine ⟨fun g hg hgt => ?_, c2, c3, c4⟩
  obtain ⟨r1, r2, r3⟩ := c1 g hg hgt
  exact ⟨by rw [hcD_K h, r1], by rw [kD_K h, r2], fun p hp => by rw [dD_K h, aD_K h, r3 p hp]⟩
theorem CG_fr {C D m : zM} {cs : List Cl} {n rd t lp tk tk' : Nat} {hs hs' : Nat → Nat} (hC : CG C m cs n rd t lp hs tk) (hD : ∀ a j, a = 17 ∨ a = 18 ∨ a = 19 ∨ (a = 16 ∧ j = 5) → D.1 a 0 j = C.1 a 0 j) (h6 : D.1 16 0 6 = nI tk') (h20 : ∀ p, p < 3 → D.1 20 0 p = nI (hs' p)) : CG D m cs n rd t lp hs' tk' := by
  obtain ⟨c1, c2, c3, c4⟩ := hC
  refine ⟨fun g hg hgt => ?_, by rw [hD _ _ (by omega), c2], h6, h20⟩
  obtain ⟨r1, r2, r3⟩ := c1 g hg hgt
  exact ⟨by rw [hD _ _ (by omega), r1], by rw [hD _ _ (by omega), r2], fun p hp => by rw [hD _ _ (by omega), r3 p hp]⟩
theorem asEver_e (a b p : Int32) (E : zM → Option (Int32 × zM)) : ∀ (d v F : Nat) (M : zM), v + d = 6 → d < F → ∃ M', (∀ R, E M' = R → qM_first_L46 a b p E F M (nI v) = R) ∧ M'.2 = M.2 ∧ (∀ a i j, a ≠ 61 → M'.1 a i j = M.1 a i j) ∧ (∀ j, j < v → M'.1 61 0 j = M.1 61 0 j) ∧ ∀ j, v ≤ j → j < 6 → M'.1 61 0 j = M.1 60 0 j
  | 0, v, F + 1, M, hd, hF => by
    refine ⟨M, fun R hR => ?_, rfl, fun _ _ _ _ => rfl, fun _ _ => rfl, fun j h1 h2 => by omega⟩
    unfold qM_first_L46
    simp only [zl0, zl1, zl2, zl3, zl4, zl5, zl6, zl7, zl8, zl9, zl10, zl11, zl12, zl13, zl14, zl16, zl18, zl19, zl20, zl22, zl24, zl30, zl32, zl33, zl36, zl38, zl40, zl41, zl48, zl50, zl51, zl57, zl59, zl60, zl61, zl62, zl70, zl71, zl99, zl100, zl103, zl104, zl105, zl106, zl107, zl108, zl109, zl110, zl111, zl112, zl113, zl114, zl115, zl116, zl124, zl127, zl255, zl999, zl1000, zl1001, zl1002, zl1003]
    rw [if_pos (nI_le (by omega) (by omega))]
    exact hR
  | d + 1, v, F + 1, M, hd, hF => by
    obtain ⟨M', k1, k2, k3, k4, k5⟩ := asEver_e a b p E d (v + 1) F (zset M 61 0 v (M.1 60 0 v)) (by omega) (by omega)
    refine ⟨M', fun R hR => ?_, k2, fun a i j h => by rw [k3 a i j h, zg_n (by omega)], fun j hj => by rw [k4 j (by omega), zg_n (by omega)], fun j h1 h2 => ?_⟩
    · unfold qM_first_L46
      simp only [zl0, zl1, zl2, zl3, zl4, zl5, zl6, zl7, zl8, zl9, zl10, zl11, zl12, zl13, zl14, zl16, zl18, zl19, zl20, zl22, zl24, zl30, zl32, zl33, zl36, zl38, zl40, zl41, zl48, zl50, zl51, zl57, zl59, zl60, zl61, zl62, zl70, zl71, zl99, zl100, zl103, zl104, zl105, zl106, zl107, zl108, zl109, zl110, zl111, zl112, zl113, zl114, zl115, zl116, zl124, zl127, zl255, zl999, zl1000, zl1001, zl1002, zl1003]
      rw [if_neg (nI_ge (by omega) (by omega)), zchk_e (ze_in (by omega) (by omega)), zchk_e (ze_in (by omega) (by omega)), znm_e, ze_cl (show v < 2 ^ 31 by omega), ze_add]
      exact k1 R hR
    · by_cases e : j = v
      · rw [e, k4 v (by omega), zg_e ⟨rfl, rfl, rfl⟩]
      · rw [k5 j (by omega) h2, zg_n (by omega)]
theorem first_loop {m : zM} {n rd h e t lp w : Nat} {cs : List Cl} {gs : Nat → Nat} (hl : LPl m t lp) (ht : t < n) (hw : w < n) (hW : WOK m n t (WD m cs n rd lp t)) (hgs : ∀ j, j < n → j ≠ t → gs j < 3) : ∀ (d g F tk : Nat) (v : Int32) (hs : Nat → Nat) (C M : zM), g + d = n → d < F → PH C m 0 n rd h e cs → FR3 m M → CG C m cs n rd t lp hs tk → SM hs ≤ g + 1 → (∀ p, p < 3 → M.1 59 0 p = nI (hs p)) → (∀ j, j < n → j ≠ t → C.1 22 0 j = nI (gs j) ∧ M.1 61 0 j = nI (gs j)) →
    ∃ r C' M', qG_first_L93 (nI w) (nI t) F C v (nI g) = some (r, C') ∧ qM_first_L90 (nI w) (nI t) F M v (nI g) = some (r, M') ∧ FRc C C' ∧ FR3 m M'
  | 0, g, F + 1, tk, v, hs, C, M, hd, hF, H, hM, hC, hb, h59, h22 => by
    have e : g = n := hd
    subst e
    have hn6 := H.2.1
    refine ⟨v, C, M, ?_, ?_, FRc_refl _, hM⟩
    · unfold qG_first_L93
      rw [H.2.2.2.2.2.1, if_pos (nI_le (by omega) (by omega))]
    · unfold qM_first_L90
      rw [hM.2 _ _ _ (by decide) (by decide) (by decide), H.2.2.2.2.2.2.2.1, if_pos (nI_le (by omega) (by omega))]
  | d + 1, g, F + 1, tk, v, hs, C, M, hd, hF, H, hM, hC, hb, h59, h22 => by
    have hn6 := H.2.1
    have hnC := H.2.2.2.2.2.1
    have hnM : M.1 40 0 0 = nI n := by rw [hM.2 _ _ _ (by decide) (by decide) (by decide), H.2.2.2.2.2.2.2.1]
    by_cases hsk : g = t ∨ g = w
    · obtain ⟨r, C', M', k1, k2, k3, k4⟩ := first_loop hl ht hw hW hgs d (g + 1) F tk v hs C M (by omega) (by omega) H hM hC (by omega) h59 h22
      refine ⟨r, C', M', ?_, ?_, k3, k4⟩
      · unfold qG_first_L93
        simp only [zl0, zl1, zl2, zl3, zl4, zl5, zl6, zl7, zl8, zl9, zl10, zl11, zl12, zl13, zl14, zl16, zl18, zl19, zl20, zl22, zl24, zl30, zl32, zl33, zl36, zl38, zl40, zl41, zl48, zl50, zl51, zl57, zl59, zl60, zl61, zl62, zl70, zl71, zl99, zl100, zl103, zl104, zl105, zl106, zl107, zl108, zl109, zl110, zl111, zl112, zl113, zl114, zl115, zl116, zl124, zl127, zl255, zl999, zl1000, zl1001, zl1002, zl1003]
        rw [hnC, if_neg (nI_ge (by omega) (by omega)), zjn_e, ze_add]
        by_cases e : g = t
        · rw [if_pos (by rw [e])]; exact k1
        · rw [if_neg (znI_ne (by omega) (by omega) e), if_pos (by rw [show g = w by omega])]; exact k1
      · unfold qM_first_L90
        simp only [zl0, zl1, zl2, zl3, zl4, zl5, zl6, zl7, zl8, zl9, zl10, zl11, zl12, zl13, zl14, zl16, zl18, zl19, zl20, zl22, zl24, zl30, zl32, zl33, zl36, zl38, zl40, zl41, zl48, zl50, zl51, zl57, zl59, zl60, zl61, zl62, zl70, zl71, zl99, zl100, zl103, zl104, zl105, zl106, zl107, zl108, zl109, zl110, zl111, zl112, zl113, zl114, zl115, zl116, zl124, zl127, zl255, zl999, zl1000, zl1001, zl1002, zl1003]
        rw [hnM, if_neg (nI_ge (by omega) (by omega)), zjn_e, ze_add]
        by_cases e : g = t
        · rw [if_pos (by rw [e])]; exact k2
        · rw [if_neg (znI_ne (by omega) (by omega) e), if_pos (by rw [show g = w by omega])]; exact k2
    · have hgt : g ≠ t := fun q => hsk (Or.inl q)
      have hgw : g ≠ w := fun q => hsk (Or.inr q)
      have hb6 : ∀ p, p < 3 → hs p ≤ 6 := fun p hp => by have := SM_le (hs := hs) hp; omega
      obtain ⟨C1, a1, a2, a3, a4, a5⟩ := let_c hC (PH_pp H (show g < n by omega)).2.2.2.2.2.2.2.2 (show g < n by omega) hn6 hgt hl.1 hb6
      obtain ⟨M1, d1, d2, d3, d4, d5⟩ := guesses_m (m := M) (t := nI t) (show g < 6 by omega) h59 (hW g (by omega) hgt hs M hM (fun p hp => ⟨hb6 p hp, h59 p hp⟩))
      have ex : WD m cs n rd lp t g hs = wD m cs n rd lp g t hs := rfl
      rw [ex] at d3 d5
      have hx := chW_lt (wD m cs n rd lp g t hs)
      generalize chW (wD m cs n rd lp g t hs) = x at a1 a2 a4 d3 d5 hx
      have fC := FRc_g a3
      obtain ⟨g1, g2⟩ := h22 g (by omega) hgt
      have g0 := hgs g (by omega) hgt
      have g3 : C1.1 22 0 g = nI (gs g) := by rw [fC.2 _ _ _ (by omega), g1]
      have g4 : M1.1 61 0 g = nI (gs g) := by rw [d2.2 _ _ _ (by decide) (by decide) (by decide), g2]
      obtain ⟨r, C', M', k1, k2, k3, k4⟩ := first_loop hl ht hw hW hgs d (g + 1) F _ (v + (if x = gs g then nI 0 else nI 1)) (updH hs x) C1 M1 (by omega) (by omega) (PH_fr H fC (FR3_refl m)) (FR3_trans hM d2) a2 (by rw [SM_upd hx]; omega) d5 (fun j hj hjt => ⟨by rw [fC.2 _ _ _ (by omega)]; exact (h22 j hj hjt).1, by rw [d2.2 _ _ _ (by decide) (by decide) (by decide)]; exact (h22 j hj hjt).2⟩)
      refine ⟨r, C', M', ?_, ?_, FRc_trans fC k3, k4⟩
      · unfold qG_first_L93
        simp only [zl0, zl1, zl2, zl3, zl4, zl5, zl6, zl7, zl8, zl9, zl10, zl11, zl12, zl13, zl14, zl16, zl18, zl19, zl20, zl22, zl24, zl30, zl32, zl33, zl36, zl38, zl40, zl41, zl48, zl50, zl51, zl57, zl59, zl60, zl61, zl62, zl70, zl71, zl99, zl100, zl103, zl104, zl105, zl106, zl107, zl108, zl109, zl110, zl111, zl112, zl113, zl114, zl115, zl116, zl124, zl127, zl255, zl999, zl1000, zl1001, zl1002, zl1003]
        rw [hnC, if_neg (nI_ge (by omega) (by omega)), zjn_e, if_neg (znI_ne (by omega) (by omega) hgt), if_neg (znI_ne (by omega) (by omega) hgw), zbnd_c a1, zchk_e (ze_in (by omega) (by omega)), ze_cl (show g < 2 ^ 31 by omega), g3, ze_add]
        by_cases e : x = gs g
        · rw [if_pos e, zadd0] at k1
          rw [if_pos (by rw [e])]
          exact k1
        · rw [if_neg e] at k1
          rw [if_neg (znI_ne (by omega) (by omega) e)]
          exact k1
      · unfold qM_first_L90
        simp only [zl0, zl1, zl2, zl3, zl4, zl5, zl6, zl7, zl8, zl9, zl10, zl11, zl12, zl13, zl14, zl16, zl18, zl19, zl20, zl22, zl24, zl30, zl32, zl33, zl36, zl38, zl40, zl41, zl48, zl50, zl51, zl57, zl59, zl60, zl61, zl62, zl70, zl71, zl99, zl100, zl103, zl104, zl105, zl106, zl107, zl108, zl109, zl110, zl111, zl112, zl113, zl114, zl115, zl116, zl124, zl127, zl255, zl999, zl1000, zl1001, zl1002, zl1003]
        rw [hnM, if_neg (nI_ge (by omega) (by omega)), zjn_e, if_neg (znI_ne (by omega) (by omega) hgt), if_neg (znI_ne (by omega) (by omega) hgw), zbnd_c d1, zchk_e (ze_in (by omega) (by omega)), zchk_e (ze_in (by omega) (by omega)), ze_cl (show g < 2 ^ 31 by omega), d3, g4, ze_add]
        simp only [zjn_e, znm_e]
        by_cases e : x = gs g
        · rw [if_pos e] at k2
          rw [if_pos (by rw [e])]
          exact k2
        · rw [if_neg e] at k2
          rw [if_neg (znI_ne (by omega) (by omega) e)]
          exact k2
theorem st_first (c m : zM) (a0 a1 a2 : Int32) (h : Rl c m) : ∃ (r : Int32) (c1 m1 : zM), qG_first c a0 a1 a2 = some (r, c1) ∧ qM_first m a0 a1 a2 = some (r, m1) ∧ Rl c1 m1 := by
  obtain ⟨n, rd, bk, ec, tl, ev, h1, h2, h3, h4, h5, h6, h7, h8, h9, h10, h11, h12, h13⟩ := h; obtain ⟨b1, b2, b3, b4, b5, b6⟩ := h1; have h1 : Rb1 n rd bk ec tl ev := ⟨b1, b2, b3, b4, b5, b6⟩; obtain ⟨c1, c2, c3, c4, c5, c6⟩ := h2; have h2 : Rb2 c n rd bk ec tl ev := ⟨c1, c2, c3, c4, c5, c6⟩; obtain ⟨m1, m2, m3, m4, m5, m6, m7⟩ := h3; have h3 : Rb3 m n rd bk ec tl ev := ⟨m1, m2, m3, m4, m5, m6, m7⟩
  have hB : RB c m n rd bk ec tl ev := ⟨h1, h2, h3, h4, h5, h6, h7, h8, h9, h10, h11, h12, h13⟩
  obtain ⟨hh, e, cs, H⟩ := PH_0 hB
  unfold qG_first qM_first
  simp only [zl0, zl1, zl2, zl3, zl4, zl5, zl6, zl7, zl8, zl9, zl10, zl11, zl12, zl13, zl14, zl16, zl18, zl19, zl20, zl22, zl24, zl30, zl32, zl33, zl36, zl38, zl40, zl41, zl48, zl50, zl51, zl57, zl59, zl60, zl61, zl62, zl70, zl71, zl99, zl100, zl103, zl104, zl105, zl106, zl107, zl108, zl109, zl110, zl111, zl112, zl113, zl114, zl115, zl116, zl124, zl127, zl255, zl999, zl1000, zl1001, zl1002, zl1003]
  rcases zcase a0 (n := n) (by omega) with g | ⟨p, hp, rfl⟩
  · rw [zb_n (qP_has_no c1 g), zb_n (qM_isPerson_no m1 (by omega) g)]
    exact ⟨_, c, m, rfl, rfl, n, rd, bk, ec, tl, ev, h1, h2, h3, h4, h5, h6, h7, h8, h9, h10, h11, h12, h13⟩
  rw [zb_y (qP_has_ok c1 hp (by omega)), zb_y (qM_isPerson_ok m1 hp (by omega))]
  rcases zcase a1 (n := n) (by omega) with g | ⟨t, ht, rfl⟩
  · rw [zb_n (qP_has_no c1 g), zb_n (qM_isPerson_no m1 (by omega) g)]
    exact ⟨_, c, m, rfl, rfl, n, rd, bk, ec, tl, ev, h1, h2, h3, h4, h5, h6, h7, h8, h9, h10, h11, h12, h13⟩
  rw [zb_y (qP_has_ok c1 ht (by omega)), zb_y (qM_isPerson_ok m1 ht (by omega))]
  rcases zcase a2 (n := 3) (by omega) with g | ⟨s, hs, rfl⟩
  · rw [zb_n (qG_three_no c g), zb_n (qM_in_no m (h := 2) rfl (by decide) g)]
    exact ⟨_, c, m, rfl, rfl, n, rd, bk, ec, tl, ev, h1, h2, h3, h4, h5, h6, h7, h8, h9, h10, h11, h12, h13⟩
  rw [zb_y (qG_three_ok c hs), zb_y (qM_in_ok m (show s ≤ 2 by omega) (by decide))]
  by_cases e1 : p = t
  · rw [if_pos (by rw [e1]), if_pos (by rw [e1])]
    exact ⟨_, c, m, rfl, rfl, n, rd, bk, ec, tl, ev, h1, h2, h3, h4, h5, h6, h7, h8, h9, h10, h11, h12, h13⟩
  rw [if_neg (znI_ne (by omega) (by omega) e1), if_neg (znI_ne (by omega) (by omega) e1)]
  obtain ⟨lp, hl⟩ := LPl_ex (PH_pp H ht).2.2.2.2.2.2.2.2
  obtain ⟨C, M, hs0, tk, gs, k1, k2, k3, k4, k5, k6, k7, k8⟩ := play_e H hl ht m7
  have HC := PH_fr H k4 k5
  obtain ⟨M1, j1, j2, j3, j4, j5⟩ := asEver_e (nI p) (nI t) (nI s) (fun (M14 : zM)  => zbnd (qM_clearHands M14 ) fun _ M15 => zchk (zin (nI s) 3) (znm (zset M15 59 0 (nI s).toNatClampNeg (nI 1)) fun M17 => qM_first_L90 (nI p) (nI t) 1000 M17 (nI 0) (nI 0))) 6 0 1000 M (by omega) (by omega)
  have FK1 : FK M M1 := fun a j q1 q2 => j3 a 0 j (by omega)
  have FKm : FK m M1 := fun a j q1 q2 => (FK1 a j q1 q2).trans (k5.2 a 0 j (by omega) (by omega) (by omega))
  -- the class lays the guesses down and lowers the hands
  have fA : ∀ a i j, a ≠ 22 → (zcpy C 21 0 22 0 0 0 6).1 a i j = C.1 a i j := fun a i j q => zcp_n (by omega)
  have eA : ∀ j, j < 6 → (zcpy C 21 0 22 0 0 0 6).1 22 0 j = C.1 21 0 j := fun j hj => by rw [zcp_e (by omega), Nat.zero_add, Nat.sub_zero]
  obtain ⟨B, q1, q2, q3, q4, q5, q6⟩ := lower_e (zcpy C 21 0 22 0 0 0 6)
  have hn6 := H.2.1
  have HB : PH (zset B 20 0 s (nI 1)) M1 0 n rd hh e cs := by
    have fB : ∀ a i j, a < 15 → (zset B 20 0 s (nI 1)).1 a i j = C.1 a i j := fun a i j q => by rw [zg_n (by omega), q2.2 _ _ _ (by omega) (by omega) (by omega), fA _ _ _ (by omega)]
    refine PH_mk HC (by decide) HC.2.2.1 (fun i hi => by rw [fB _ _ _ (by decide)]; exact HC.2.2.2.1 i hi) (Rppl_cg (fun k p j hp hk => fB _ _ _ (by omega)) (fun t j ht => j3 _ _ _ (by omega)) HC.2.2.2.2.1) (by rw [fB _ _ _ (by decide)]; exact HC.2.2.2.2.2.1) (by rw [fB _ _ _ (by decide)]; exact HC.2.2.2.2.2.2.1) (by rw [j3 _ _ _ (by decide)]; exact HC.2.2.2.2.2.2.2.1) (by rw [j3 _ _ _ (by decide)]; exact HC.2.2.2.2.2.2.2.2.1) (fun a i j ha => fB _ _ _ (by omega)) (fB _ _ _ (by decide)) (fun a j ha => j3 _ _ _ (by omega))
  have hl1 : LPl M1 t lp := LPl_cg FKm hl
  have hpl1 : M1.1 40 0 30 = -nI 1 := by rw [j3 _ _ _ (by decide), k5.2 _ _ _ (by decide) (by decide) (by decide), m7]
  have hup : ∀ p, p < 3 → (if p = s then 1 else 0) = updH (fun _ => 0) s p := fun p hp => by unfold updH; rfl
  have hCG : CG (zset B 20 0 s (nI 1)) M1 cs n rd t lp (updH (fun _ => 0) s) 0 := by
    refine CG_fr (CG_K FKm k3) (fun a j ha => ?_) (by rw [zg_n (by omega), q3]) (fun p hp => ?_)
    · rw [zg_n (by omega)]
      by_cases e : a = 16
      · have : j = 5 := by omega
        subst e; subst this
        rw [q5, fA _ _ _ (by decide)]
      · rw [q2.2 _ _ _ (by omega) (by omega) (by omega), fA _ _ _ (by omega)]
    · unfold updH
      by_cases e : p = s
      · rw [if_pos e, zg_e (by omega)]
      · rw [if_neg e, zg_n (by omega), q4 p hp]
  obtain ⟨N, y1, y2, y3, y4⟩ := clear_e M1
  have h59 : ∀ p, p < 3 → (zset N 59 0 s (nI 1)).1 59 0 p = nI (updH (fun _ => 0) s p) := fun p hp => by
    unfold updH
    by_cases e : p = s
    · rw [if_pos e, zg_e (by omega)]
    · rw [if_neg e, zg_n (by omega), y3 p hp]
  have fN : FR3 M1 (zset N 59 0 s (nI 1)) := FR3_trans y2 (FR3_set _ 59 _ _ _ (by omega))
  obtain ⟨r, C', M', x1, x2, x3, x4⟩ := first_loop (h := hh) (e := e) (w := p) (gs := gs) hl1 ht hp (WOK_D HB hl1 ht hpl1) (fun j hj hjt => (k7 j hj hjt).1) n 0 1000 0 (nI 0) _ (zset B 20 0 s (nI 1)) (zset N 59 0 s (nI 1)) (by omega) (by omega) HB fN hCG (by rw [SM_upd hs]; exact Nat.le_refl _) h59 (fun j hj hjt => by
    refine ⟨?_, ?_⟩
    · rw [zg_n (by omega), q2.2 _ _ _ (by omega) (by omega) (by omega), eA j (by omega), (k7 j hj hjt).2.1]
    · rw [fN.2 _ _ _ (by decide) (by decide) (by decide), j5 j (by omega) (by omega), (k7 j hj hjt).2.2])
  refine ⟨r, C', M', ?_, ?_, n, rd, bk, ec, tl, ev, RB_T hB ⟨?_, fun i => ?_, fun a i j r1 r2 r3 => ?_⟩ ⟨?_, fun a j r1 r2 => ?_⟩⟩
  · rw [zbnd_c k1, zchk_e (zcp_ok (by omega) (by omega) (by omega) (by omega)), ze_cl (by omega), ze_cl (by omega), znm_e, zbnd_c q1, zchk_e (ze_in hs (by omega)), zchk_e (ze_in hs (by omega)), ze_cl (show s < 2 ^ 31 by omega), q4 s hs, ze_add, znm_e]
    exact x1
  · rw [zbnd_c k2]
    refine j1 _ ?_
    rw [zbnd_c y1, zchk_e (ze_in hs (by omega)), ze_cl (show s < 2 ^ 31 by omega), znm_e]
    exact x2
  · rw [x3.1, zg_2, q2.1, zcp_2, k4.1]
  · rw [x3.2 _ _ _ (by omega), zg_n (by omega), q2.2 _ _ _ (by omega) (by omega) (by omega), fA _ _ _ (by omega), k4.2 _ _ _ (by omega)]
  · rw [x3.2 _ _ _ (by omega), zg_n (by omega), q2.2 _ _ _ (by omega) (by omega) (by omega), fA _ _ _ (by omega), k4.2 _ _ _ (by omega)]
  · rw [x4.1, j2, k5.1]
  · rw [x4.2 _ _ _ (by omega) (by omega) (by omega), j3 _ _ _ (by omega), k5.2 _ _ _ (by omega) (by omega) (by omega)]
