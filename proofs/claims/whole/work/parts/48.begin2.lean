/-! PURE PART: the class's round as it begins. -/
def RW1 (C m : zM) (cs : List Cl) (n rd t lp g : Nat) : Prop := C.1 18 0 g = hcD m cs g ∧ C.1 19 0 g = (if kD m g = 5 then nI 1 else nI 0) ∧ ∀ p, p < 3 → C.1 17 0 (g * 3 + p) = dD m cs g t p + aD m n rd lp g t p
theorem beg_loop {m : zM} {q n rd h e t lp : Nat} {cs : List Cl} {E : zM → Option (Unit × zM)} (hl : LPl m t lp) (ht : t < n) : ∀ (d g F : Nat) (C : zM), g + d = n → d < F → PH C m q n rd h e cs → C.1 16 0 5 = nI lp → (∀ j, j < g → j ≠ t → RW1 C m cs n rd t lp j) →
    ∃ C', (∀ R, E C' = R → qY_begin_L20 q h (nI t) (6 * q + t) E F C (nI g) = R) ∧ FRo C C' ∧ ∀ j, j < n → j ≠ t → RW1 C' m cs n rd t lp j
  | 0, g, F + 1, C, hd, hF, H, h16, hr => by
    refine ⟨C, fun R hR => ?_, FRo_refl _, fun j hj => hr j (by omega)⟩
    have hn6 := H.2.1
    unfold qY_begin_L20
    rw [H.2.2.2.2.2.1, if_pos (nI_le (by omega) (by omega))]
    exact hR
  | d + 1, g, F + 1, C, hd, hF, H, h16, hr => by
    have hq := H.1
    have hn6 := H.2.1
    have h13 := H.2.2.2.2.2.2.2.2.2.1
    obtain ⟨g1, g2, g3, g4, g5, g6, g7, g8, g9⟩ := PH_pp H (show g < n by omega)
    have hk : kD m g < 7 ∧ m.1 41 0 g = nI (kD m g) := by
      obtain ⟨⟨k, y1, y2⟩, z⟩ := g9
      have y2 : m.1 41 0 g = nI k := y2
      unfold kD
      rw [y2, ze_cl (by omega)]
      exact ⟨y1, rfl⟩
    let A := zset C 18 0 g (hcD m cs g)
    let B := zset A 19 0 g (if kD m g = 5 then nI 1 else nI 0)
    have fB : FRo C B := FRo_trans (FRo_set _ 18 _ _ _ (by omega)) (FRo_set _ 19 _ _ _ (by omega))
    have HB : PH B m q n rd h e cs := PH_fr H (FRc_o fB) (FR3_refl m)
    have B16 : B.1 16 0 5 = nI lp := by rw [fB.2 _ _ _ (by decide) (by decide) (by decide) (by decide)]; exact h16
    have B18 : ∀ j, j ≠ g → B.1 18 0 j = C.1 18 0 j := fun j hj => by rw [zg_n (by omega), zg_n (by omega)]
    have B19 : ∀ j, j ≠ g → B.1 19 0 j = C.1 19 0 j := fun j hj => by rw [zg_n (by omega), zg_n (by omega)]
    have B17 : ∀ j, B.1 17 0 j = C.1 17 0 j := fun j => by rw [zg_n (by omega), zg_n (by omega)]
    have B18g : B.1 18 0 g = hcD m cs g := by rw [zg_n (by omega), zg_e ⟨rfl, rfl, rfl⟩]
    have B19g : B.1 19 0 g = (if kD m g = 5 then nI 1 else nI 0) := zg_e ⟨rfl, rfl, rfl⟩
    -- the head of a row
    have head : ∀ R, qY_begin_L89 q h (nI t) (6 * q + t) (nI g) (6 * q + g) (fun M25 => qY_begin_L20 q h (nI t) (6 * q + t) E F M25 (nI g + nI 1)) 1000 B (nI 0) = R → qY_begin_L20 q h (nI t) (6 * q + t) E (F + 1) C (nI g) = R := by
      intro R hR
      generalize hL : qY_begin_L89 q h (nI t) (6 * q + t) (nI g) (6 * q + g) = L at hR
      unfold qY_begin_L20
      simp only [zl0, zl1, zl2, zl3, zl4, zl5, zl6, zl7, zl8, zl9, zl10, zl11, zl12, zl13, zl14, zl16, zl18, zl19, zl20, zl22, zl24, zl30, zl32, zl33, zl36, zl38, zl40, zl41, zl48, zl50, zl51, zl57, zl59, zl60, zl61, zl62, zl70, zl71, zl99, zl100, zl103, zl104, zl105, zl106, zl107, zl108, zl109, zl110, zl111, zl112, zl113, zl114, zl115, zl116, zl124, zl127, zl255, zl999, zl1000, zl1001, zl1002, zl1003]
      rw [H.2.2.2.2.2.1, if_neg (nI_ge (by omega) (by omega)), zchk_e (ze_in (by omega) (by omega)), ze_cl (show g < 2 ^ 31 by omega), znm_e, g2, hk.2, hL]
      have e18 : (zset C 18 0 g (hcD m cs g)).1 2 (6 * q + g) 1 = nI (kD m g) := by rw [zg_n (by omega), g2, hk.2]
      have n5 : vp_nar .boolean (nI 1) = nI 1 := vp_nb true
      have n0 : vp_nar .boolean (nI 0) = nI 0 := vp_nb false
      have tail : zchk (zin (nI g) 6) (znm (zset C 18 0 g (hcD m cs g)) fun M13 => zjn (fun (M15 : zM) (x14 : Int32) => zchk (zin (nI g) 6) (znm (zset M15 19 0 g (vp_nar .boolean x14)) fun M17 => L (fun M25 => qY_begin_L20 q h (nI t) (6 * q + t) E F M25 (nI g + nI 1)) 1000 M17 (nI 0))) (fun j16 => if (M13.1 2 (6 * q + g) 1) = nI 5 then (j16 M13 (nI 1)) else (j16 M13 (nI 0)))) = R := by
        rw [zchk_e (ze_in (by omega) (by omega)), znm_e, zjn_e, e18]
        by_cases h5 : kD m g = 5
        · rw [if_pos (by rw [h5])]
          dsimp only
          rw [zchk_e (ze_in (by omega) (by omega)), znm_e, n5]
          have eB : B = zset (zset C 18 0 g (hcD m cs g)) 19 0 g (nI 1) := by show zset A 19 0 g _ = _; rw [if_pos h5]
          rw [← eB]
          exact hR
        · rw [if_neg (znI_ne (by omega) (by omega) h5)]
          dsimp only
          rw [zchk_e (ze_in (by omega) (by omega)), znm_e, n0]
          have eB : B = zset (zset C 18 0 g (hcD m cs g)) 19 0 g (nI 0) := by show zset A 19 0 g _ = _; rw [if_neg h5]
          rw [← eB]
          exact hR
      by_cases hf : kD m g = 2 ∨ kD m g = 5
      · have hc : hcD m cs g = nI (evH cs) := if_pos hf
        have kk : kOf (kD m g) 2 = true := by rcases hf with q | q <;> rw [q] <;> rfl
        rw [zbnd_c (isK_y C hk.1 (by decide) kk), zjn_e, if_neg (znI_ne (by omega) (by omega) (by omega)), h13.2.2.2.1]
        rw [hc] at tail
        exact tail
      · have hc : hcD m cs g = nI 0 := if_neg hf
        have kk : kOf (kD m g) 2 = false := by
          rcases (show kD m g = 0 ∨ kD m g = 1 ∨ kD m g = 3 ∨ kD m g = 4 ∨ kD m g = 6 by omega) with q | q | q | q | q <;> rw [q] <;> rfl
        rw [zbnd_c (isK_n C hk.1 (by decide) kk), zjn_e, if_pos rfl]
        rw [hc] at tail
        exact tail
    by_cases hgt : g = t
    · have hr' : ∀ j, j < g + 1 → j ≠ t → RW1 B m cs n rd t lp j := by
        intro j hj hjt
        obtain ⟨r1, r2, r3⟩ := hr j (by omega) hjt
        exact ⟨by rw [B18 j (by omega), r1], by rw [B19 j (by omega), r2], fun p hp => by rw [B17, r3 p hp]⟩
      obtain ⟨C', k1, k2, k3⟩ := beg_loop hl ht d (g + 1) F B (by omega) (by omega) HB B16 hr'
      refine ⟨C', fun R hR => head R ?_, FRo_trans fB k2, k3⟩
      unfold qY_begin_L89
      simp only [zl0, zl1, zl2, zl3, zl4, zl5, zl6, zl7, zl8, zl9, zl10, zl11, zl12, zl13, zl14, zl16, zl18, zl19, zl20, zl22, zl24, zl30, zl32, zl33, zl36, zl38, zl40, zl41, zl48, zl50, zl51, zl57, zl59, zl60, zl61, zl62, zl70, zl71, zl99, zl100, zl103, zl104, zl105, zl106, zl107, zl108, zl109, zl110, zl111, zl112, zl113, zl114, zl115, zl116, zl124, zl127, zl255, zl999, zl1000, zl1001, zl1002, zl1003]
      rw [if_neg (nI_ge (by omega) (by omega)), if_pos (by rw [hgt]), ze_add]
      exact k1 R hR
    · obtain ⟨D, d1, d2, d3, d4, d5, d6⟩ := beg_row (C := B) (F := 996) (E := fun M25 => qY_begin_L20 q h (nI t) (6 * q + t) E F M25 (nI g + nI 1)) HB hl B16 (show g < n by omega) ht hgt
      have hr' : ∀ j, j < g + 1 → j ≠ t → RW1 D m cs n rd t lp j := by
        intro j hj hjt
        by_cases e : j = g
        · rw [e]
          exact ⟨by rw [d5, B18g], by rw [d6, B19g], d3⟩
        · obtain ⟨r1, r2, r3⟩ := hr j (by omega) hjt
          exact ⟨by rw [d5, B18 j e, r1], by rw [d6, B19 j e, r2], fun p hp => by rw [d4 _ (by omega), B17, r3 p hp]⟩
      obtain ⟨C', k1, k2, k3⟩ := beg_loop hl ht d (g + 1) F D (by omega) (by omega) (PH_fr HB (FRc_o d2) (FR3_refl m)) (by rw [d2.2 _ _ _ (by decide) (by decide) (by decide) (by decide)]; exact B16) hr'
      refine ⟨C', fun R hR => head R (d1 R ?_), FRo_trans fB (FRo_trans d2 k2), k3⟩
      rw [ze_add]
      exact k1 R hR
theorem lower_e (C : zM) : ∃ C', qY_lowerHands C = some ((), C') ∧ FRg C C' ∧ C'.1 16 0 6 = nI 0 ∧ (∀ p, p < 3 → C'.1 20 0 p = nI 0) ∧ C'.1 16 0 5 = C.1 16 0 5 ∧ ∀ j, C'.1 21 0 j = C.1 21 0 j := by
  refine ⟨zset (zset (zset (zset C 16 0 6 (nI 0)) 20 0 0 (nI 0)) 20 0 1 (nI 0)) 20 0 2 (nI 0), ?_, FRg_trans (FRg_trans (FRg_trans (FRg_set _ 16 _ _ _ (by omega)) (FRg_set _ 20 _ _ _ (by omega))) (FRg_set _ 20 _ _ _ (by omega))) (FRg_set _ 20 _ _ _ (by omega)), ?_, fun p hp => ?_, ?_, fun j => ?_⟩
  · have st : ∀ F M p, p < 3 → qY_lowerHands_L7 (F + 1) M (nI p) = qY_lowerHands_L7 F (zset M 20 0 p (nI 0)) (nI (p + 1)) := by
      intro F M p hp
      generalize hR : qY_lowerHands_L7 F (zset M 20 0 p (nI 0)) (nI (p + 1)) = R
      unfold qY_lowerHands_L7
      simp only [zl0, zl1, zl2, zl3, zl4, zl5, zl6, zl7, zl8, zl9, zl10, zl11, zl12, zl13, zl14, zl16, zl18, zl19, zl20, zl22, zl24, zl30, zl32, zl33, zl36, zl38, zl40, zl41, zl48, zl50, zl51, zl57, zl59, zl60, zl61, zl62, zl70, zl71, zl99, zl100, zl103, zl104, zl105, zl106, zl107, zl108, zl109, zl110, zl111, zl112, zl113, zl114, zl115, zl116, zl124, zl127, zl255, zl999, zl1000, zl1001, zl1002, zl1003]
      rw [if_neg (nI_ge (by omega) (by omega)), zchk_e (ze_in hp (by omega)), znm_e, ze_cl (show p < 2 ^ 31 by omega), ze_add]
      exact hR
    have fin : ∀ F M, qY_lowerHands_L7 (F + 1) M (nI 3) = some ((), M) := by
      intro F M
      unfold qY_lowerHands_L7
      simp only [zl0, zl1, zl2, zl3, zl4, zl5, zl6, zl7, zl8, zl9, zl10, zl11, zl12, zl13, zl14, zl16, zl18, zl19, zl20, zl22, zl24, zl30, zl32, zl33, zl36, zl38, zl40, zl41, zl48, zl50, zl51, zl57, zl59, zl60, zl61, zl62, zl70, zl71, zl99, zl100, zl103, zl104, zl105, zl106, zl107, zl108, zl109, zl110, zl111, zl112, zl113, zl114, zl115, zl116, zl124, zl127, zl255, zl999, zl1000, zl1001, zl1002, zl1003]
      rw [if_pos (nI_le (by omega) (by omega))]
    unfold qY_lowerHands
    simp only [zl0, zl1, zl2, zl3, zl4, zl5, zl6, zl7, zl8, zl9, zl10, zl11, zl12, zl13, zl14, zl16, zl18, zl19, zl20, zl22, zl24, zl30, zl32, zl33, zl36, zl38, zl40, zl41, zl48, zl50, zl51, zl57, zl59, zl60, zl61, zl62, zl70, zl71, zl99, zl100, zl103, zl104, zl105, zl106, zl107, zl108, zl109, zl110, zl111, zl112, zl113, zl114, zl115, zl116, zl124, zl127, zl255, zl999, zl1000, zl1001, zl1002, zl1003]
    rw [znm_e, show (1000 : Nat) = 996 + 1 + 1 + 1 + 1 from rfl, st _ _ 0 (by decide), st _ _ 1 (by decide), st _ _ 2 (by decide), fin]
  · rw [zg_n (by omega), zg_n (by omega), zg_n (by omega), zg_e ⟨rfl, rfl, rfl⟩]
  · rcases (show p = 0 ∨ p = 1 ∨ p = 2 by omega) with rfl | rfl | rfl
    · rw [zg_n (by omega), zg_n (by omega), zg_e ⟨rfl, rfl, rfl⟩]
    · rw [zg_n (by omega), zg_e ⟨rfl, rfl, rfl⟩]
    · rw [zg_e ⟨rfl, rfl, rfl⟩]
  · rw [zg_n (by omega), zg_n (by omega), zg_n (by omega), zg_n (by omega)]
  · rw [zg_n (by omega), zg_n (by omega), zg_n (by omega), zg_n (by omega)]
theorem begin_c {c m : zM} {q n rd h e t lp : Nat} {cs : List Cl} (H : PH c m q n rd h e cs) (hl : LPl m t lp) (ht : t < n) : ∃ C, qY_begin c q h (nI t) = some ((), C) ∧ CG C m cs n rd t lp (fun _ => 0) 0 ∧ FRc c C := by
  have hq := H.1
  have hn6 := H.2.1
  obtain ⟨t1, t2, t3, t4, t5, t6, t7, t8, t9⟩ := PH_pp H ht
  let A := zset c 16 0 5 (nI lp)
  have fA : FRc c A := FRc_set _ 16 _ _ _ (by omega)
  obtain ⟨B, b1, b2, b3⟩ := beg_loop (E := fun (M26 : zM)  => zbnd (qY_lowerHands M26 ) fun _ M27 => some ((), M27)) hl ht n 0 1000 A (by omega) (by omega) (PH_fr H fA (FR3_refl m)) (zg_e ⟨rfl, rfl, rfl⟩) (fun j hj => absurd hj (Nat.not_lt_zero _))
  obtain ⟨D, d1, d2, d3, d4, d5, d6⟩ := lower_e B
  refine ⟨D, ?_, ⟨fun g hg hgt => ?_, ?_, d3, d4⟩, FRc_trans fA (FRc_trans (FRc_o b2) (FRc_g d2))⟩
  · unfold qY_begin
    simp only [zl0, zl1, zl2, zl3, zl4, zl5, zl6, zl7, zl8, zl9, zl10, zl11, zl12, zl13, zl14, zl16, zl18, zl19, zl20, zl22, zl24, zl30, zl32, zl33, zl36, zl38, zl40, zl41, zl48, zl50, zl51, zl57, zl59, zl60, zl61, zl62, zl70, zl71, zl99, zl100, zl103, zl104, zl105, zl106, zl107, zl108, zl109, zl110, zl111, zl112, zl113, zl114, zl115, zl116, zl124, zl127, zl255, zl999, zl1000, zl1001, zl1002, zl1003]
    rw [zchk_e (ze_in (by omega) (by omega)), znm_e, ze_cl (show t < 2 ^ 31 by omega), zbnd_c (placeOfLie_c hl t4 t7), znm_e]
    refine b1 _ ?_
    rw [zbnd_c d1]
  · obtain ⟨r1, r2, r3⟩ := b3 g hg hgt
    exact ⟨by rw [d2.2 _ _ _ (by decide) (by decide) (by decide), r1], by rw [d2.2 _ _ _ (by decide) (by decide) (by decide), r2], fun p hp => by rw [d2.2 _ _ _ (by decide) (by decide) (by decide), r3 p hp]⟩
  · rw [d5, b2.2 _ _ _ (by decide) (by decide) (by decide) (by decide)]; exact zg_e ⟨rfl, rfl, rfl⟩
