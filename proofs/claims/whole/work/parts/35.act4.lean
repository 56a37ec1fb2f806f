theorem Rl_ac {c m c' m' : zM} {n rd bk ec tl : Nat} {ev : Int32} (hc1 : ∀ k i j, k ≠ 25 → k ≠ 26 → c'.1 k i j = c.1 k i j) (hm1 : ∀ k i j, ¬ (k = 40 ∧ i = 0 ∧ j = 59) → k ≠ 81 → m'.1 k i j = m.1 k i j) (hc2 : c'.2 = c.2) (hm2 : m'.2 = m.2) (h : RB c m n rd bk ec tl ev) (hp : Rac c' m') : RB c' m' n rd bk ec tl ev := by
  obtain ⟨h1, h2, h3, h4, h5, h6, h7, h8, h9, h10, h11, h12, h13⟩ := h
  obtain ⟨c1, c2, c3, c4, c5, c6⟩ := h2
  obtain ⟨m1, m2, m3, m4, m5, m6, m7⟩ := h3
  refine ⟨h1, ⟨?_, ?_, ?_, ?_, ?_, ?_⟩, ⟨?_, ?_, ?_, ?_, ?_, ?_, ?_⟩, ?_, ?_, ?_, ?_, ?_, ?_, ?_, hp, ?_, ?_⟩
  · rw [hc1 _ _ _ (by omega) (by omega), c1]
  · rw [hc1 _ _ _ (by omega) (by omega), c2]
  · rw [hc1 _ _ _ (by omega) (by omega), c3]
  · rw [hc1 _ _ _ (by omega) (by omega), c4]
  · rw [hc1 _ _ _ (by omega) (by omega), c5]
  · rw [hc1 _ _ _ (by omega) (by omega), c6]
  · rw [hm1 _ _ _ (by omega) (by omega), m1]
  · rw [hm1 _ _ _ (by omega) (by omega), m2]
  · rw [hm1 _ _ _ (by omega) (by omega), m3]
  · rw [hm1 _ _ _ (by omega) (by omega), m4]
  · rw [hm1 _ _ _ (by omega) (by omega), m5]
  · rw [hm1 _ _ _ (by omega) (by omega), m6]
  · rw [hm1 _ _ _ (by omega) (by omega), m7]
  · intro i hi; rw [hc1 _ _ _ (by omega) (by omega), h4 i hi]
  · exact Rppl_cg (fun k p j _ hk => hc1 _ _ _ (by omega) (by omega)) (fun t j ht => hm1 _ _ _ (by omega) (by omega)) h5
  · exact Rbk_cg (Nat.le_refl _) (fun j _ => hc1 _ _ _ (by omega) (by omega)) (fun j _ => ⟨hm1 _ _ _ (by omega) (by omega), hm1 _ _ _ (by omega) (by omega), hm1 _ _ _ (by omega) (by omega)⟩) h6
  · intro p hp; rw [hc1 _ _ _ (by omega) (by omega), hm1 _ _ _ (by omega) (by omega)]; exact h7 p hp
  · intro j hj; rw [hc1 _ _ _ (by omega) (by omega), hm1 _ _ _ (by omega) (by omega)]; exact h8 j hj
  · exact Rev_cg h1.2.2.2.1 (fun k i j _ => hc1 _ _ _ (by omega) (by omega)) (fun k j _ => hm1 _ _ _ (by omega) (by omega)) h9
  · exact Rim_cg (Nat.le_refl _) (fun k i j _ => hc1 _ _ _ (by omega) (by omega)) (fun k j _ => hm1 _ _ _ (by omega) (by omega)) h10
  · intro t ht
    obtain ⟨N', g1, g2, g3, g4, g5⟩ := h12 t ht
    refine ⟨N', g1, by rw [hc1 _ _ _ (by omega) (by omega), g2], by rw [hm1 _ _ _ (by omega) (by omega), g3], fun j hj => by rw [hc2, hm2, g4 j hj], ?_⟩
    rw [hc1 _ _ _ (by omega) (by omega), hm1 _ _ _ (by omega) (by omega)]
    exact g5
  · intro j hj; rw [hm1 _ _ _ (by omega) (by omega)]; exact h13 j hj
theorem Rac_TR {c m c' m' : zM} {l : List Nat} (hl : l.length ≤ 20) (hc : TR 25 1 26 c c' 0 l) (hm : TR 40 59 81 m m' 0 l) : Rac c' m' := by
  obtain ⟨a1, a2, a3, a4⟩ := hc
  obtain ⟨b1, b2, b3, b4⟩ := hm
  rw [Nat.zero_add] at a2 b2
  refine ⟨l.length, by omega, a2, b2, fun j hj _ => ?_⟩
  have x := a3 j hj
  have y := b3 j hj
  rw [Nat.zero_add] at x y
  rw [x, y]
theorem st_act (c m : zM) (a0 a1 a2 : Int32) (h : Rl c m) : ∃ (r : Int32) (c1 m1 : zM), qG_act c a0 a1 a2 = some (r, c1) ∧ qM_act m a0 a1 a2 = some (r, m1) ∧ Rl c1 m1 := by
  obtain ⟨n, rd, bk, ec, tl, ev, h1, h2, h3, h4, h5, h6, h7, h8, h9, h10, h11, h12, h13⟩ := h; obtain ⟨b1, b2, b3, b4, b5, b6⟩ := h1; have h1 : Rb1 n rd bk ec tl ev := ⟨b1, b2, b3, b4, b5, b6⟩; obtain ⟨c1, c2, c3, c4, c5, c6⟩ := h2; have h2 : Rb2 c n rd bk ec tl ev := ⟨c1, c2, c3, c4, c5, c6⟩; obtain ⟨m1, m2, m3, m4, m5, m6, m7⟩ := h3; have h3 : Rb3 m n rd bk ec tl ev := ⟨m1, m2, m3, m4, m5, m6, m7⟩
  unfold qG_act qA_run qM_act
  simp only [zl0, zl1, zl2, zl3, zl4, zl5, zl6, zl7, zl8, zl9, zl10, zl11, zl12, zl13, zl14, zl16, zl18, zl19, zl20, zl22, zl24, zl30, zl32, zl33, zl36, zl38, zl40, zl41, zl48, zl50, zl51, zl57, zl59, zl60, zl61, zl62, zl70, zl71, zl99, zl100, zl103, zl104, zl105, zl106, zl107, zl108, zl109, zl110, zl111, zl112, zl113, zl114, zl115, zl116, zl124, zl127, zl255, zl999, zl1000, zl1001, zl1002, zl1003]
  rw [znm_e, znm_e]
  have c1' : (zset c 25 0 1 (nI 0)).1 1 0 1 = nI n := by rw [zg_n (by omega), c1]
  have m1' : (zset m 40 0 59 (nI 0)).1 40 0 0 = nI n := by rw [zg_n (by omega), m1]
  have ct : (zset c 25 0 1 (nI 0)).1 25 0 1 = nI 0 := zg_e (by omega)
  have mt : (zset m 40 0 59 (nI 0)).1 40 0 59 = nI 0 := zg_e (by omega)
  have fin : ∀ l c' m', l.length ≤ 20 → TR 25 1 26 (zset c 25 0 1 (nI 0)) c' 0 l → TR 40 59 81 (zset m 40 0 59 (nI 0)) m' 0 l → Rl c' m' := by
    intro l c' m' hl hc hm
    refine ⟨n, rd, bk, ec, tl, ev, Rl_ac (c := c) (m := m) ?_ ?_ hc.1 hm.1 ⟨h1, h2, h3, h4, h5, h6, h7, h8, h9, h10, h11, h12, h13⟩ (Rac_TR hl hc hm)⟩
    · intro k i j hk hk'
      rw [hc.2.2.2 _ _ _ (by omega) (by omega), zg_n (by omega)]
    · intro k i j hk hk'
      rw [hm.2.2.2 _ _ _ (by omega) (by omega), zg_n (by omega)]
  have fin0 : Rl (zset c 25 0 1 (nI 0)) (zset m 40 0 59 (nI 0)) := fin [] _ _ (by decide) (TR_nil ct) (TR_nil mt)
  rcases zcase a0 (n := n) (by omega) with g | ⟨p, hp, rfl⟩
  · rw [zb_n (qP_has_no c1' g), zb_n (qM_isPerson_no m1' (by omega) g)]
    exact ⟨_, _, _, rfl, rfl, fin0⟩
  rw [zb_y (qP_has_ok c1' hp (by omega)), zb_y (qM_isPerson_ok m1' hp (by omega))]
  rcases zcase a1 (n := 3) (by omega) with g | ⟨a, ha, rfl⟩
  · rw [zno_i2 g (by omega), zb_n (qM_in_no _ (h := 2) rfl (by omega) g)]
    exact ⟨_, _, _, rfl, rfl, fin0⟩
  rw [if_neg (nI_nlt (by omega) (by omega)), if_pos (nI_lt ha (by omega)), zb_y (qM_in_ok _ (h := 2) (by omega) (by omega)), zchk_e (ze_in (show p < 6 by omega) (by omega)), znm_e, ze_cl (show p < 2 ^ 31 by omega), Nat.zero_add]
  obtain ⟨⟨f1, f2, f3, f4, f5, f6, f7, f8⟩, ⟨K, hK, q1⟩, ⟨v, hv, q2⟩, q3, q4, q5, q6, q7⟩ := h5 p hp
  rw [Nat.mul_zero, Nat.zero_add] at f1 f2
  have hPS : PS p K (nI p) (nI v) (zset c 25 0 1 (nI 0)) 0 := ⟨ct, by rw [zg_n (by omega), h4 p (by omega), Nat.mod_eq_of_lt (by omega)], by rw [zg_n (by omega), f1, q1], by rw [zg_n (by omega), f2, q2]⟩
  have hMS : MS p K (nI v) (zset m 40 0 59 (nI 0)) 0 := ⟨mt, by rw [zg_n (by omega), q1], by rw [zg_n (by omega), q2]⟩
  rw [hPS.2.2.1]
  have gl := gL_len K
  have dl := dL_len K
  have tl' : (tL K K).length ≤ 12 := by
    unfold tL
    by_cases h1 : K = 3 ∨ K = 6
    · rw [if_pos h1]; simp only [List.length_cons, List.length_append]; omega
    by_cases h2 : K = 5
    · rw [if_neg h1, if_pos h2]; simp only [List.length_cons]; omega
    · rw [if_neg h1, if_neg h2]; simp only [List.length_cons]; omega
  unfold qA_perform
  rcases (show a = 0 ∨ a = 1 ∨ a = 2 by omega) with rfl | rfl | rfl
  · obtain ⟨M1, g1, g2⟩ := cD (r := p) (K := K) (i := nI p) (v := nI v) hK 100 _ 0 0 a2 (by omega) (by omega) (by omega) hPS
    obtain ⟨M2, g3, g4, g5⟩ := mD a2 (show p < 6 by omega) hK hMS (by omega)
    refine ⟨_, M1, M2, by rw [g1, zbnd_s, zbnd_s], by rw [if_pos rfl, g3, zbnd_s], fin _ _ _ (by omega) g2 g4⟩
  · obtain ⟨M1, g1, g2⟩ := cG (r := p) (K := K) (i := nI p) (v := nI v) hK hK 100 _ 0 0 a2 (by omega) (by omega) (by omega) hPS
    obtain ⟨M2, g3, g4, g5⟩ := mG a2 (show p < 6 by omega) hK hMS (by omega)
    refine ⟨_, M1, M2, by rw [g1, zbnd_s, zbnd_s], by rw [if_neg (znI_ne (by omega) (by omega) (by omega)), if_pos rfl, g3, zbnd_s], fin _ _ _ (by omega) g2 g4⟩
  · obtain ⟨M1, g1, g2⟩ := cT (r := p) (K := K) (i := nI p) (v := nI v) hK hK 100 _ 0 0 a2 (by omega) (by omega) (by omega) hPS
    obtain ⟨M2, g3, g4, g5⟩ := mT a2 (show p < 6 by omega) hK hMS (by omega)
    refine ⟨_, M1, M2, by rw [g1, zbnd_s, zbnd_s], by rw [if_neg (znI_ne (by omega) (by omega) (by omega)), if_neg (znI_ne (by omega) (by omega) (by omega)), g3, zbnd_s], fin _ _ _ (by omega) g2 g4⟩
