theorem qM_image_e (m : zM) : ∃ M', qM_image m = some (m.1 40 0 0, M') ∧ M'.2 = m.2 ∧ (∀ k j, ¬ (k = 40 ∧ 42 ≤ j ∧ j ≤ 46) → ¬ (69 ≤ k ∧ k ≤ 80) → M'.1 k 0 j = m.1 k 0 j) ∧
    M'.1 40 0 42 = nI 1 ∧ M'.1 40 0 43 = m.1 40 0 11 ∧ M'.1 40 0 44 = m.1 40 0 0 ∧ M'.1 40 0 45 = m.1 40 0 1 ∧ M'.1 40 0 46 = m.1 40 0 38 ∧
    (∀ t j, (t < 4 ∧ j < 6) ∨ (4 ≤ t ∧ t ≤ 6 ∧ j < 18) ∨ (t = 7 ∧ j < 24) → M'.1 (69 + t) 0 j = m.1 (41 + t) 0 j) ∧ (∀ j, j < 3 → M'.1 77 0 j = m.1 64 0 j) ∧ (∀ j, j < 12 → M'.1 78 0 j = m.1 66 0 j ∧ M'.1 79 0 j = m.1 67 0 j ∧ M'.1 80 0 j = m.1 68 0 j) := by
  obtain ⟨Z, hZ⟩ : ∃ Z, Z = zset (zset (zset (zset (zset m 40 0 42 (nI 1)) 40 0 43 (m.1 40 0 11)) 40 0 44 (m.1 40 0 0)) 40 0 45 (m.1 40 0 1)) 40 0 46 (m.1 40 0 38) := ⟨_, rfl⟩
  obtain ⟨A, a1, a2, a3⟩ := qM_image_L39_e (fun (M10 : zM)  => qM_image_L101 (fun (M14 : zM)  => qM_image_L151 (fun (M16 : zM)  => qM_image_L177 (fun (M18 : zM)  => qM_image_L202 1000 M18 (nI 0)) 1000 M16 (nI 0)) 1000 M14 (nI 0)) 1000 M10 (nI 0)) 6 0 Z 1000 (by omega) (by omega)
  obtain ⟨B, b1, b2, b3⟩ := qM_image_L101_e (fun (M14 : zM)  => qM_image_L151 (fun (M16 : zM)  => qM_image_L177 (fun (M18 : zM)  => qM_image_L202 1000 M18 (nI 0)) 1000 M16 (nI 0)) 1000 M14 (nI 0)) 18 0 A 1000 (by omega) (by omega)
  obtain ⟨C, c1, c2, c3⟩ := qM_image_L151_e (fun (M16 : zM)  => qM_image_L177 (fun (M18 : zM)  => qM_image_L202 1000 M18 (nI 0)) 1000 M16 (nI 0)) 24 0 B 1000 (by omega) (by omega)
  obtain ⟨D, d1, d2, d3⟩ := qM_image_L177_e (fun (M18 : zM)  => qM_image_L202 1000 M18 (nI 0)) 3 0 C 1000 (by omega) (by omega)
  obtain ⟨E, e1, e2, e3⟩ := qM_image_L202_e 12 0 D 1000 (by omega) (by omega)
  have z : ∀ k j, ¬ (k = 40 ∧ 42 ≤ j ∧ j ≤ 46) → Z.1 k 0 j = m.1 k 0 j := by
    intro k j h
    rw [hZ, zg_n (by omega), zg_n (by omega), zg_n (by omega), zg_n (by omega), zg_n (by omega)]
  have p : ∀ k j, ¬ (69 ≤ k ∧ k ≤ 80) → E.1 k 0 j = Z.1 k 0 j := by
    intro k j h
    rw [e3, if_neg (by omega), d3, if_neg (by omega), c3, if_neg (by omega), b3, if_neg (by omega), a3, if_neg (by omega)]
  refine ⟨E, ?_, ?_, fun k j h h' => by rw [p _ _ h', z _ _ h], ?_, ?_, ?_, ?_, ?_, fun t j h => ?_, fun j h => ?_, fun j h => ⟨?_, ?_, ?_⟩⟩
  · unfold qM_image
    refine Eq.trans ?_ ((a1.trans (b1.trans (c1.trans (d1.trans e1)))).trans ?_)
    · simp (disch := omega) only [zl0, zl1, zl2, zl3, zl4, zl5, zl6, zl7, zl8, zl9, zl10, zl11, zl12, zl13, zl14, zl16, zl18, zl19, zl20, zl22, zl24, zl30, zl32, zl33, zl36, zl38, zl40, zl41, zl48, zl50, zl51, zl57, zl59, zl60, zl61, zl62, zl70, zl71, zl99, zl100, zl103, zl104, zl105, zl106, zl107, zl108, zl109, zl110, zl111, zl112, zl113, zl114, zl115, zl116, zl124, zl127, zl255, zl999, zl1000, zl1001, zl1002, zl1003, znm_e, zg_n, hZ]
    · rw [p _ _ (by omega), z _ _ (by omega)]
  · rw [e2, d2, c2, b2, a2, hZ]; rfl
  · rw [p _ _ (by omega), hZ, zg_n (by omega), zg_n (by omega), zg_n (by omega), zg_n (by omega), zg_e (by omega)]
  · rw [p _ _ (by omega), hZ, zg_n (by omega), zg_n (by omega), zg_n (by omega), zg_e (by omega)]
  · rw [p _ _ (by omega), hZ, zg_n (by omega), zg_n (by omega), zg_e (by omega)]
  · rw [p _ _ (by omega), hZ, zg_n (by omega), zg_e (by omega)]
  · rw [p _ _ (by omega), hZ, zg_e (by omega)]
  · rcases h with h | h | h
    · rw [e3, if_neg (by omega), d3, if_neg (by omega), c3, if_neg (by omega), b3, if_neg (by omega), a3, if_pos (by omega), show 69 + t - 28 = 41 + t by omega, z _ _ (by omega)]
    · rw [e3, if_neg (by omega), d3, if_neg (by omega), c3, if_neg (by omega), b3, if_pos (by omega), show 69 + t - 28 = 41 + t by omega, a3, if_neg (by omega), z _ _ (by omega)]
    · rw [e3, if_neg (by omega), d3, if_neg (by omega), c3, if_pos (by omega), show 69 + t - 28 = 41 + t by omega, b3, if_neg (by omega), a3, if_neg (by omega), z _ _ (by omega)]
  · rw [e3, if_neg (by omega), d3, if_pos (by omega), show 77 - 13 = 64 by omega, c3, if_neg (by omega), b3, if_neg (by omega), a3, if_neg (by omega), z _ _ (by omega)]
  · rw [e3, if_pos (by omega), show 78 - 12 = 66 by omega, d3, if_neg (by omega), c3, if_neg (by omega), b3, if_neg (by omega), a3, if_neg (by omega), z _ _ (by omega)]
  · rw [e3, if_pos (by omega), show 79 - 12 = 67 by omega, d3, if_neg (by omega), c3, if_neg (by omega), b3, if_neg (by omega), a3, if_neg (by omega), z _ _ (by omega)]
  · rw [e3, if_pos (by omega), show 80 - 12 = 68 by omega, d3, if_neg (by omega), c3, if_neg (by omega), b3, if_neg (by omega), a3, if_neg (by omega), z _ _ (by omega)]
theorem qM_undo_e (m : zM) (h42 : m.1 40 0 42 = nI 1) : ∃ M', qM_undo m = some (m.1 40 0 44, M') ∧ M'.2 = m.2 ∧ (∀ k j, ¬ (k = 40 ∧ (j = 11 ∨ j = 0 ∨ j = 1 ∨ j = 38)) → ¬ (41 ≤ k ∧ k ≤ 48) → k ≠ 64 → ¬ (66 ≤ k ∧ k ≤ 68) → M'.1 k 0 j = m.1 k 0 j) ∧
    M'.1 40 0 11 = m.1 40 0 43 ∧ M'.1 40 0 0 = m.1 40 0 44 ∧ M'.1 40 0 1 = m.1 40 0 45 ∧ M'.1 40 0 38 = m.1 40 0 46 ∧
    (∀ t j, (t < 4 ∧ j < 6) ∨ (4 ≤ t ∧ t ≤ 6 ∧ j < 18) ∨ (t = 7 ∧ j < 24) → M'.1 (41 + t) 0 j = m.1 (69 + t) 0 j) ∧ (∀ j, j < 3 → M'.1 64 0 j = m.1 77 0 j) ∧ (∀ j, j < 12 → M'.1 66 0 j = m.1 78 0 j ∧ M'.1 67 0 j = m.1 79 0 j ∧ M'.1 68 0 j = m.1 80 0 j) := by
  obtain ⟨Z, hZ⟩ : ∃ Z, Z = zset (zset (zset (zset m 40 0 11 (m.1 40 0 43)) 40 0 0 (m.1 40 0 44)) 40 0 1 (m.1 40 0 45)) 40 0 38 (m.1 40 0 46) := ⟨_, rfl⟩
  obtain ⟨A, a1, a2, a3⟩ := qM_undo_L44_e (fun (M9 : zM)  => qM_undo_L106 (fun (M13 : zM)  => qM_undo_L156 (fun (M15 : zM)  => qM_undo_L182 (fun (M17 : zM)  => qM_undo_L207 1000 M17 (nI 0)) 1000 M15 (nI 0)) 1000 M13 (nI 0)) 1000 M9 (nI 0)) 6 0 Z 1000 (by omega) (by omega)
  obtain ⟨B, b1, b2, b3⟩ := qM_undo_L106_e (fun (M13 : zM)  => qM_undo_L156 (fun (M15 : zM)  => qM_undo_L182 (fun (M17 : zM)  => qM_undo_L207 1000 M17 (nI 0)) 1000 M15 (nI 0)) 1000 M13 (nI 0)) 18 0 A 1000 (by omega) (by omega)
  obtain ⟨C, c1, c2, c3⟩ := qM_undo_L156_e (fun (M15 : zM)  => qM_undo_L182 (fun (M17 : zM)  => qM_undo_L207 1000 M17 (nI 0)) 1000 M15 (nI 0)) 24 0 B 1000 (by omega) (by omega)
  obtain ⟨D, d1, d2, d3⟩ := qM_undo_L182_e (fun (M17 : zM)  => qM_undo_L207 1000 M17 (nI 0)) 3 0 C 1000 (by omega) (by omega)
  obtain ⟨E, e1, e2, e3⟩ := qM_undo_L207_e 12 0 D 1000 (by omega) (by omega)
  have z : ∀ k j, ¬ (k = 40 ∧ (j = 11 ∨ j = 0 ∨ j = 1 ∨ j = 38)) → Z.1 k 0 j = m.1 k 0 j := by
    intro k j h
    rw [hZ, zg_n (by omega), zg_n (by omega), zg_n (by omega), zg_n (by omega)]
  have p : ∀ k j, ¬ (41 ≤ k ∧ k ≤ 48) → k ≠ 64 → ¬ (66 ≤ k ∧ k ≤ 68) → E.1 k 0 j = Z.1 k 0 j := by
    intro k j h h' h''
    rw [e3, if_neg (by omega), d3, if_neg (by omega), c3, if_neg (by omega), b3, if_neg (by omega), a3, if_neg (by omega)]
  have z0 : Z.1 40 0 0 = m.1 40 0 44 := by rw [hZ, zg_n (by omega), zg_n (by omega), zg_e (by omega)]
  refine ⟨E, ?_, ?_, fun k j h h1 h2 h3 => by rw [p _ _ h1 h2 h3, z _ _ h], ?_, ?_, ?_, ?_, fun t j h => ?_, fun j h => ?_, fun j h => ⟨?_, ?_, ?_⟩⟩
  · unfold qM_undo
    refine Eq.trans ?_ ((a1.trans (b1.trans (c1.trans (d1.trans e1)))).trans ?_)
    · simp (disch := omega) only [zl0, zl1, zl2, zl3, zl4, zl5, zl6, zl7, zl8, zl9, zl10, zl11, zl12, zl13, zl14, zl16, zl18, zl19, zl20, zl22, zl24, zl30, zl32, zl33, zl36, zl38, zl40, zl41, zl48, zl50, zl51, zl57, zl59, zl60, zl61, zl62, zl70, zl71, zl99, zl100, zl103, zl104, zl105, zl106, zl107, zl108, zl109, zl110, zl111, zl112, zl113, zl114, zl115, zl116, zl124, zl127, zl255, zl999, zl1000, zl1001, zl1002, zl1003, znm_e, zg_n, hZ, h42, ze_eqf, ↓reduceIte]
    · rw [p _ _ (by omega) (by omega) (by omega), z0]
  · rw [e2, d2, c2, b2, a2, hZ]; rfl
  · rw [p _ _ (by omega) (by omega) (by omega), hZ, zg_n (by omega), zg_n (by omega), zg_n (by omega), zg_e (by omega)]
  · rw [p _ _ (by omega) (by omega) (by omega), z0]
  · rw [p _ _ (by omega) (by omega) (by omega), hZ, zg_n (by omega), zg_e (by omega)]
  · rw [p _ _ (by omega) (by omega) (by omega), hZ, zg_e (by omega)]
  · rcases h with h | h | h
    · rw [e3, if_neg (by omega), d3, if_neg (by omega), c3, if_neg (by omega), b3, if_neg (by omega), a3, if_pos (by omega), show 41 + t + 28 = 69 + t by omega, z _ _ (by omega)]
    · rw [e3, if_neg (by omega), d3, if_neg (by omega), c3, if_neg (by omega), b3, if_pos (by omega), show 41 + t + 28 = 69 + t by omega, a3, if_neg (by omega), z _ _ (by omega)]
    · rw [e3, if_neg (by omega), d3, if_neg (by omega), c3, if_pos (by omega), show 41 + t + 28 = 69 + t by omega, b3, if_neg (by omega), a3, if_neg (by omega), z _ _ (by omega)]
  · rw [e3, if_neg (by omega), d3, if_pos (by omega), show 64 + 13 = 77 by omega, c3, if_neg (by omega), b3, if_neg (by omega), a3, if_neg (by omega), z _ _ (by omega)]
  · rw [e3, if_pos (by omega), show 66 + 12 = 78 by omega, d3, if_neg (by omega), c3, if_neg (by omega), b3, if_neg (by omega), a3, if_neg (by omega), z _ _ (by omega)]
  · rw [e3, if_pos (by omega), show 67 + 12 = 79 by omega, d3, if_neg (by omega), c3, if_neg (by omega), b3, if_neg (by omega), a3, if_neg (by omega), z _ _ (by omega)]
  · rw [e3, if_pos (by omega), show 68 + 12 = 80 by omega, d3, if_neg (by omega), c3, if_neg (by omega), b3, if_neg (by omega), a3, if_neg (by omega), z _ _ (by omega)]
theorem st_image (c m : zM) (h : Rl c m) : ∃ (r : Int32) (c1 m1 : zM), qG_image c = some (r, c1) ∧ qM_image m = some (r, m1) ∧ Rl c1 m1 := by
  obtain ⟨n, rd, bk, ec, tl, ev, h1, h2, h3, h4, h5, h6, h7, h8, h9, h10, h11, h12, h13⟩ := h; obtain ⟨b1, b2, b3, b4, b5, b6⟩ := h1; have h1 : Rb1 n rd bk ec tl ev := ⟨b1, b2, b3, b4, b5, b6⟩; obtain ⟨c1, c2, c3, c4, c5, c6⟩ := h2; have h2 : Rb2 c n rd bk ec tl ev := ⟨c1, c2, c3, c4, c5, c6⟩; obtain ⟨m1, m2, m3, m4, m5, m6, m7⟩ := h3; have h3 : Rb3 m n rd bk ec tl ev := ⟨m1, m2, m3, m4, m5, m6, m7⟩
  obtain ⟨C1, d1, d2, d3, d4, d5, d6, d7⟩ := qP_become_e c (q0 := 1) (q1 := 0) (n := n) (by omega) (by omega) (by omega) b1 c1
  obtain ⟨M1, e1, e2, e3, e4, e5, e6, e7, e8, e9, e10, e11⟩ := qM_image_e m
  have C : ∀ k i j, ¬ ((k = 1 ∧ i = 1 ∧ (j = 1 ∨ j = 2 ∨ j = 3 ∨ j = 6)) ∨ (k = 8 ∧ i = 1 ∧ j < 3) ∨ (k = 9 ∧ i = 1 ∧ j < 36) ∨ (6 ≤ i ∧ i < 12 ∧ ((k = 2 ∧ 1 ≤ j ∧ j ≤ 4) ∨ (3 ≤ k ∧ k ≤ 5 ∧ j < 3) ∨ (k = 6 ∧ j < 4)))) → ¬ (k = 0 ∧ i = 0 ∧ j = 3) → (zset C1 0 0 3 (nI 1)).1 k i j = c.1 k i j := by
    intro k i j h h'
    rw [zg_n (by omega), d3 _ _ _ (by omega)]
  refine ⟨nI n, zset C1 0 0 3 (nI 1), M1, ?_, by rw [e1, m1], n, rd, bk, ec, tl, ev, h1, ⟨?_, ?_, ?_, ?_, ?_, ?_⟩, ⟨?_, ?_, ?_, ?_, ?_, ?_, ?_⟩, ?_, ?_, ?_, ?_, ?_, ?_, ?_, ?_, ?_, ?_⟩
  · unfold qG_image
    simp only [zl0, zl1, zl2, zl3, zl4, zl5, zl6, zl7, zl8, zl9, zl10, zl11, zl12, zl13, zl14, zl16, zl18, zl19, zl20, zl22, zl24, zl30, zl32, zl33, zl36, zl38, zl40, zl41, zl48, zl50, zl51, zl57, zl59, zl60, zl61, zl62, zl70, zl71, zl99, zl100, zl103, zl104, zl105, zl106, zl107, zl108, zl109, zl110, zl111, zl112, zl113, zl114, zl115, zl116, zl124, zl127, zl255, zl999, zl1000, zl1001, zl1002, zl1003]
    rw [zbnd_c d1, znm_e, zg_n (by omega), d3 _ _ _ (by omega), c1]
  · rw [C _ _ _ (by omega) (by omega), c1]
  · rw [C _ _ _ (by omega) (by omega), c2]
  · rw [C _ _ _ (by omega) (by omega), c3]
  · rw [C _ _ _ (by omega) (by omega), c4]
  · rw [C _ _ _ (by omega) (by omega), c5]
  · rw [C _ _ _ (by omega) (by omega), c6]
  · rw [e3 _ _ (by omega) (by omega), m1]
  · rw [e3 _ _ (by omega) (by omega), m2]
  · rw [e3 _ _ (by omega) (by omega), m3]
  · rw [e3 _ _ (by omega) (by omega), m4]
  · rw [e3 _ _ (by omega) (by omega), m5]
  · rw [e3 _ _ (by omega) (by omega), m6]
  · rw [e3 _ _ (by omega) (by omega), m7]
  · intro i hi; rw [C _ _ _ (by omega) (by omega), h4 i hi]
  · exact Rppl_cg (fun k p j _ hk => C _ _ _ (by omega) (by omega)) (fun t j ht => e3 _ _ (by omega) (by omega)) h5
  · exact Rbk_cg (Nat.le_refl _) (fun j _ => C _ _ _ (by omega) (by omega)) (fun j _ => ⟨e3 _ _ (by omega) (by omega), e3 _ _ (by omega) (by omega), e3 _ _ (by omega) (by omega)⟩) h6
  · intro p hp; rw [C _ _ _ (by omega) (by omega), e3 _ _ (by omega) (by omega)]; exact h7 p hp
  · intro j hj; rw [C _ _ _ (by omega) (by omega), e3 _ _ (by omega) (by omega)]; exact h8 j hj
  · exact Rev_cg b4 (fun k i j _ => C _ _ _ (by omega) (by omega)) (fun k j _ => e3 _ _ (by omega) (by omega)) h9
  · refine Or.inr ⟨zg_e (by omega), e4, n, rd, bk, ev, b1, b2, b3, b6, ?_, ?_, ?_, ?_, ?_, ?_, ?_, ?_, ?_, ?_, ?_⟩
    · rw [zg_n (by omega), d4 _ (by omega), c1]
    · rw [zg_n (by omega), d4 _ (by omega), c2]
    · rw [zg_n (by omega), d4 _ (by omega), c3]
    · rw [zg_n (by omega), d4 _ (by omega), c4]
    · rw [e6, m1]
    · rw [e7, m2]
    · rw [e5, m3]
    · rw [e8, m4]
    · exact Rppl_cg (fun k p j hp hk => by rw [zg_n (by omega), d7 _ _ _ hp hk]) (fun t j ht => e9 t j (by omega)) h5
    · exact Rbk_cg (Nat.le_refl _) (fun j _ => by rw [zg_n (by omega), d6 _ (by omega)]) (fun j _ => e11 j (by omega)) h6
    · intro p hp; rw [zg_n (by omega), d5 _ hp, e10 _ hp]; exact h7 p hp
  · obtain ⟨k, k1, k2, k3, k4⟩ := h11
    exact ⟨k, k1, by rw [C _ _ _ (by omega) (by omega), k2], by rw [e3 _ _ (by omega) (by omega), k3], fun j hj hj' => by rw [C _ _ _ (by omega) (by omega), e3 _ _ (by omega) (by omega), k4 j hj hj']⟩
  · intro t ht
    obtain ⟨N', g1, g2, g3, g4, g5⟩ := h12 t ht
    refine ⟨N', g1, by rw [C _ _ _ (by omega) (by omega), g2], by rw [e3 _ _ (by omega) (by omega), g3], fun j hj => by rw [zg_2, d2, e2, g4 j hj], ?_⟩
    rw [C _ _ _ (by omega) (by omega), e3 _ _ (by omega) (by omega)]
    exact g5
  · intro j hj; rw [e3 _ _ (by omega) (by omega)]; exact h13 j hj
theorem st_undo (c m : zM) (h : Rl c m) : ∃ (r : Int32) (c1 m1 : zM), qG_undo c = some (r, c1) ∧ qM_undo m = some (r, m1) ∧ Rl c1 m1 := by
  obtain ⟨n, rd, bk, ec, tl, ev, h1, h2, h3, h4, h5, h6, h7, h8, h9, h10, h11, h12, h13⟩ := h; obtain ⟨b1, b2, b3, b4, b5, b6⟩ := h1; have h1 : Rb1 n rd bk ec tl ev := ⟨b1, b2, b3, b4, b5, b6⟩; obtain ⟨c1, c2, c3, c4, c5, c6⟩ := h2; have h2 : Rb2 c n rd bk ec tl ev := ⟨c1, c2, c3, c4, c5, c6⟩; obtain ⟨m1, m2, m3, m4, m5, m6, m7⟩ := h3; have h3 : Rb3 m n rd bk ec tl ev := ⟨m1, m2, m3, m4, m5, m6, m7⟩
  rcases h10 with ⟨g1, g2⟩ | ⟨g1, g2, n', rd', bk', ev', i1, i2, i3, i4, i5, i6, i7, i8, i9, i10, i11, i12, i13, i14, i15⟩
  · have h10 : Rim c m ec := Or.inl ⟨g1, g2⟩
    unfold qG_undo qM_undo
    simp only [zl0, zl1, zl2, zl3, zl4, zl5, zl6, zl7, zl8, zl9, zl10, zl11, zl12, zl13, zl14, zl16, zl18, zl19, zl20, zl22, zl24, zl30, zl32, zl33, zl36, zl38, zl40, zl41, zl48, zl50, zl51, zl57, zl59, zl60, zl61, zl62, zl70, zl71, zl99, zl100, zl103, zl104, zl105, zl106, zl107, zl108, zl109, zl110, zl111, zl112, zl113, zl114, zl115, zl116, zl124, zl127, zl255, zl999, zl1000, zl1001, zl1002, zl1003]
    rw [g1, g2, if_pos rfl, if_pos rfl]
    exact ⟨_, c, m, rfl, rfl, n, rd, bk, ec, tl, ev, h1, h2, h3, h4, h5, h6, h7, h8, h9, h10, h11, h12, h13⟩
  have h10 : Rim c m ec := Or.inr ⟨g1, g2, n', rd', bk', ev', i1, i2, i3, i4, i5, i6, i7, i8, i9, i10, i11, i12, i13, i14, i15⟩
  obtain ⟨C1, d1, d2, d3, d4, d5, d6, d7⟩ := qP_become_e c (q0 := 0) (q1 := 1) (n := n') (by omega) (by omega) (by omega) i1 i5
  obtain ⟨M1, e1, e2, e3, e4, e5, e6, e7, e8, e9, e10⟩ := qM_undo_e m g2
  refine ⟨nI n', C1, M1, ?_, by rw [e1, i9], n', rd', bk', ec, tl, ev', ⟨i1, i2, i3, b4, b5, i4⟩, ⟨?_, ?_, ?_, ?_, ?_, ?_⟩, ⟨?_, ?_, ?_, ?_, ?_, ?_, ?_⟩, ?_, ?_, ?_, ?_, ?_, ?_, ?_, ?_, ?_, ?_⟩
  · unfold qG_undo
    simp only [zl0, zl1, zl2, zl3, zl4, zl5, zl6, zl7, zl8, zl9, zl10, zl11, zl12, zl13, zl14, zl16, zl18, zl19, zl20, zl22, zl24, zl30, zl32, zl33, zl36, zl38, zl40, zl41, zl48, zl50, zl51, zl57, zl59, zl60, zl61, zl62, zl70, zl71, zl99, zl100, zl103, zl104, zl105, zl106, zl107, zl108, zl109, zl110, zl111, zl112, zl113, zl114, zl115, zl116, zl124, zl127, zl255, zl999, zl1000, zl1001, zl1002, zl1003]
    rw [g1, if_neg (znI_ne (by omega) (by omega) (by omega)), zbnd_c d1, d4 _ (by omega), i5]
  · rw [d4 _ (by omega), i5]
  · rw [d4 _ (by omega), i6]
  · rw [d4 _ (by omega), i7]
  · rw [d4 _ (by omega), i8]
  · rw [d3 _ _ _ (by omega), c5]
  · rw [d3 _ _ _ (by omega), c6]
  · rw [e5, i9]
  · rw [e6, i10]
  · rw [e4, i11]
  · rw [e7, i12]
  · rw [e3 _ _ (by omega) (by omega) (by omega) (by omega), m5]
  · rw [e3 _ _ (by omega) (by omega) (by omega) (by omega), m6]
  · rw [e3 _ _ (by omega) (by omega) (by omega) (by omega), m7]
  · intro i hi; rw [d3 _ _ _ (by omega), h4 i hi]
  · exact Rppl_cg (fun k p j hp hk => d7 _ _ _ hp hk) (fun t j ht => e8 t j (by omega)) i13
  · exact Rbk_cg (Nat.le_refl _) (fun j _ => d6 _ (by omega)) (fun j _ => e10 j (by omega)) i14
  · intro p hp; rw [d5 _ hp, e9 _ hp]; exact i15 p hp
  · intro j hj; rw [d3 _ _ _ (by omega), e3 _ _ (by omega) (by omega) (by omega) (by omega)]; exact h8 j hj
  · exact Rev_cg b4 (fun k i j _ => d3 _ _ _ (by omega)) (fun k j _ => e3 _ _ (by omega) (by omega) (by omega) (by omega)) h9
  · exact Rim_cg (Nat.le_refl _) (fun k i j _ => d3 _ _ _ (by omega)) (fun k j _ => e3 _ _ (by omega) (by omega) (by omega) (by omega)) h10
  · obtain ⟨k, k1, k2, k3, k4⟩ := h11
    exact ⟨k, k1, by rw [d3 _ _ _ (by omega), k2], by rw [e3 _ _ (by omega) (by omega) (by omega) (by omega), k3], fun j hj hj' => by rw [d3 _ _ _ (by omega), e3 _ _ (by omega) (by omega) (by omega) (by omega), k4 j hj hj']⟩
  · intro t ht
    obtain ⟨N', g1, g2, g3, g4, g5⟩ := h12 t ht
    refine ⟨N', g1, by rw [d3 _ _ _ (by omega), g2], by rw [e3 _ _ (by omega) (by omega) (by omega) (by omega), g3], fun j hj => by rw [d2, e2, g4 j hj], ?_⟩
    rw [d3 _ _ _ (by omega), e3 _ _ (by omega) (by omega) (by omega) (by omega)]
    exact g5
  · intro j hj; rw [e3 _ _ (by omega) (by omega) (by omega) (by omega)]; exact h13 j hj
