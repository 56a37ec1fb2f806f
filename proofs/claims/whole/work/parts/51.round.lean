/-! PURE PART: ROUND. -/
def FPc (q : Nat) (c C : zM) : Prop := C.2 = c.2 ∧ ∀ a i j, a < 15 ∨ 21 < a → ¬ (a = 2 ∧ j = 3 ∧ 6 * q ≤ i ∧ i < 6 * q + 6) → ¬ (a = 1 ∧ i = q ∧ j = 2) → C.1 a i j = c.1 a i j
def FPm (m M : zM) : Prop := M.2 = m.2 ∧ ∀ a j, a ≠ 58 → a ≠ 59 → a ≠ 60 → ¬ (a = 43 ∧ j < 6) → ¬ (a = 40 ∧ j = 1) → M.1 a 0 j = m.1 a 0 j
theorem FPc_refl (q : Nat) (c : zM) : FPc q c c := ⟨rfl, fun _ _ _ _ _ _ => rfl⟩
theorem FPm_refl (c : zM) : FPm c c := ⟨rfl, fun _ _ _ _ _ _ _ => rfl⟩
theorem FPc_trans {q : Nat} {A B C : zM} (h1 : FPc q A B) (h2 : FPc q B C) : FPc q A C := ⟨h2.1.trans h1.1, fun a i j q1 q2 q3 => (h2.2 a i j q1 q2 q3).trans (h1.2 a i j q1 q2 q3)⟩
theorem FPm_trans {A B C : zM} (h1 : FPm A B) (h2 : FPm B C) : FPm A C := ⟨h2.1.trans h1.1, fun a j q1 q2 q3 q4 q5 => (h2.2 a j q1 q2 q3 q4 q5).trans (h1.2 a j q1 q2 q3 q4 q5)⟩
theorem FPc_c {q : Nat} {c C : zM} (h : FRc c C) : FPc q c C := ⟨h.1, fun a i j q1 _ _ => h.2 a i j q1⟩
theorem FPm_3 {m M : zM} (h : FR3 m M) : FPm m M := ⟨h.1, fun a j q1 q2 q3 _ _ => h.2 a 0 j q1 q2 q3⟩
theorem HMd_X {m M : zM} {e : Nat} {cs : List Cl} (h : HMd m e cs) (F : ∀ a j, (a = 40 ∧ j = 11) ∨ (50 ≤ a ∧ a ≤ 55) → M.1 a 0 j = m.1 a 0 j) : HMd M e cs := by
  obtain ⟨h0, h1, h2, h3, h4⟩ := h
  refine ⟨h0, ?_, h2, h3, fun j q hq => ?_⟩
  · rw [F 40 11 (by omega), F 50 e (by omega)]; exact h1
  · obtain ⟨q1, q2, q3⟩ := h4 j q hq
    refine ⟨by rw [F 51 _ (by omega), q1], by rw [F 52 _ (by omega), q2], fun hne => ?_⟩
    obtain ⟨a, a1, a2, a3, a4, a5⟩ := q3 hne
    exact ⟨a, a1, a2, by rw [F 53 _ (by omega), a3], by rw [F 54 _ (by omega), a4], fun i t hi => by rw [F 55 _ (by omega), a5 i t hi]⟩
theorem PH_mk {c m C M : zM} {q q' n rd rd' h e : Nat} {cs : List Cl} (H : PH c m q n rd h e cs) (hq : q' < 3) (hr : rd' < 5000) (k1 : Rnum C) (k2 : Rppl C M 41 q' n) (k3 : C.1 1 q' 1 = nI n) (k4 : C.1 1 q' 2 = nI rd') (k5 : M.1 40 0 0 = nI n) (k6 : M.1 40 0 1 = nI rd') (k7 : ∀ a i j, a = 13 ∨ a = 14 → C.1 a i j = c.1 a i j) (k8 : C.1 1 0 3 = c.1 1 0 3) (k9 : ∀ a j, (a = 40 ∧ j = 11) ∨ (50 ≤ a ∧ a ≤ 55) → M.1 a 0 j = m.1 a 0 j) : PH C M q' n rd' h e cs := by
  obtain ⟨h1, h2, h3, h4, h5, h6, h7, h8, h9, h10, h11, h12⟩ := H
  exact ⟨hq, h2, hr, k1, k2, k3, k4, k5, k6, HCd_c h10 (fun a i j q1 q2 => k7 a i j (by omega)), HMd_X h11 k9, fun M' hM' => h12 M' (by rw [hM', k8])⟩
theorem PH_pts {c m C M : zM} {q n rd rd' h e : Nat} {cs : List Cl} (H : PH c m q n rd h e cs) (hr : rd' < 5000) (hC : FPc q c C) (hM : FPm m M) (hp : ∀ p, p < n → C.1 2 (6 * q + p) 3 = M.1 43 0 p) (k4 : C.1 1 q 2 = nI rd') (k6 : M.1 40 0 1 = nI rd') : PH C M q n rd' h e cs := by
  have hq := H.1
  have hn6 := H.2.1
  refine PH_mk H hq hr (fun i hi => by rw [hC.2 _ _ _ (by omega) (by omega) (by omega)]; exact H.2.2.2.1 i hi) (fun p hp' => ?_) (by rw [hC.2 _ _ _ (by omega) (by omega) (by omega)]; exact H.2.2.2.2.2.1) k4 (by rw [hM.2 _ _ (by decide) (by decide) (by decide) (by omega) (by omega)]; exact H.2.2.2.2.2.2.2.1) k6 (fun a i j ha => hC.2 _ _ _ (by omega) (by omega) (by omega)) (hC.2 _ _ _ (by omega) (by omega) (by omega)) (fun a j ha => hM.2 _ _ (by omega) (by omega) (by omega) (by omega) (by omega))
  obtain ⟨⟨f1, f2, f3, f4, f5, f6, f7, f8⟩, w⟩ := H.2.2.2.2.1 p hp'
  refine ⟨⟨?_, ?_, hp p hp', ?_, fun t ht => ?_, fun t ht => ?_, fun t ht => ?_, fun t ht => ?_⟩, ?_⟩
  · rw [hC.2 _ _ _ (by omega) (by omega) (by omega), hM.2 _ _ (by decide) (by decide) (by decide) (by omega) (by omega), f1]
  · rw [hC.2 _ _ _ (by omega) (by omega) (by omega), hM.2 _ _ (by decide) (by decide) (by decide) (by omega) (by omega), f2]
  · rw [hC.2 _ _ _ (by omega) (by omega) (by omega), hM.2 _ _ (by decide) (by decide) (by decide) (by omega) (by omega), f4]
  · rw [hC.2 _ _ _ (by omega) (by omega) (by omega), hM.2 _ _ (by decide) (by decide) (by decide) (by omega) (by omega), f5 t ht]
  · rw [hC.2 _ _ _ (by omega) (by omega) (by omega), hM.2 _ _ (by decide) (by decide) (by decide) (by omega) (by omega), f6 t ht]
  · rw [hC.2 _ _ _ (by omega) (by omega) (by omega), hM.2 _ _ (by decide) (by decide) (by decide) (by omega) (by omega), f7 t ht]
  · rw [hC.2 _ _ _ (by omega) (by omega) (by omega), hM.2 _ _ (by decide) (by decide) (by decide) (by omega) (by omega), f8 t ht]
  · have E : ∀ a j, 41 ≤ a → a ≤ 48 → a ≠ 43 → M.1 a 0 j = m.1 a 0 j := fun a j q1 q2 q3 => hM.2 _ _ (by omega) (by omega) (by omega) (by omega) (by omega)
    unfold WFp at w ⊢
    simp only [E 41 _ (by decide) (by decide) (by decide), E (41 + 1) _ (by decide) (by decide) (by decide), E (41 + 3) _ (by decide) (by decide) (by decide), E (41 + 4) _ (by decide) (by decide) (by decide), E (41 + 5) _ (by decide) (by decide) (by decide), E (41 + 6) _ (by decide) (by decide) (by decide), E (41 + 7) _ (by decide) (by decide) (by decide)]
    exact w
theorem FPc_set {q p : Nat} (c : zM) (v : Int32) (hp : p < 6) : FPc q c (zset c 2 (6 * q + p) 3 v) := ⟨rfl, fun a i j q1 q2 q3 => zg_n (by omega)⟩
theorem FPm_set {p : Nat} (c : zM) (v : Int32) (hp : p < 6) : FPm c (zset c 43 0 p v) := ⟨rfl, fun a j q1 q2 q3 q4 q5 => zg_n (by omega)⟩
theorem pts_loop {q n t lp : Nat} {x : Int32} {gs : Nat → Nat} {E E' : zM → Option (Int32 × zM)} (hq : q < 3) (hn6 : n ≤ 6) (ht : t < n) (hlp : lp < 3) : ∀ (d g F : Nat) (C M : zM), g + d = n → d < F → C.1 1 q 1 = nI n → C.1 16 0 5 = nI lp → M.1 40 0 0 = nI n → (∀ j, j < n → j ≠ t → gs j < 3 ∧ C.1 21 0 j = nI (gs j) ∧ M.1 60 0 j = nI (gs j)) → (∀ p, p < n → C.1 2 (6 * q + p) 3 = M.1 43 0 p) →
    ∃ C' M', (∀ R, E C' = R → qG_playForPoints_L10 q (nI t) x E F C (nI g) = R) ∧ (∀ R, E' M' = R → qM_goRound_L15 (nI t) x (nI lp) E' F M (nI g) = R) ∧ FPc q C C' ∧ FPm M M' ∧ (∀ p, p < n → C'.1 2 (6 * q + p) 3 = M'.1 43 0 p) ∧ C'.1 1 q 2 = C.1 1 q 2 ∧ M'.1 40 0 1 = M.1 40 0 1
  | 0, g, F + 1, C, M, hd, hF, c1, c2, c3, c4, c5 => by
    have e : g = n := hd
    subst e
    refine ⟨C, M, fun R hR => ?_, fun R hR => ?_, FPc_refl _ _, FPm_refl _, c5, rfl, rfl⟩
    · unfold qG_playForPoints_L10
      rw [c1, if_pos (nI_le (by omega) (by omega))]
      exact hR
    · unfold qM_goRound_L15
      rw [c3, if_pos (nI_le (by omega) (by omega))]
      exact hR
  | d + 1, g, F + 1, C, M, hd, hF, c1, c2, c3, c4, c5 => by
    by_cases hgt : g = t
    · subst hgt
      obtain ⟨C', M', k1, k2, k3, k4, k5, k6, k7⟩ := pts_loop (x := x) (E := E) (E' := E') hq hn6 ht hlp d (g + 1) F C M (by omega) (by omega) c1 c2 c3 c4 c5
      refine ⟨C', M', fun R hR => ?_, fun R hR => ?_, k3, k4, k5, k6, k7⟩
      · unfold qG_playForPoints_L10
        simp only [zl0, zl1, zl2, zl3, zl4, zl5, zl6, zl7, zl8, zl9, zl10, zl11, zl12, zl13, zl14, zl16, zl18, zl19, zl20, zl22, zl24, zl30, zl32, zl33, zl36, zl38, zl40, zl41, zl48, zl50, zl51, zl57, zl59, zl60, zl61, zl62, zl70, zl71, zl99, zl100, zl103, zl104, zl105, zl106, zl107, zl108, zl109, zl110, zl111, zl112, zl113, zl114, zl115, zl116, zl124, zl127, zl255, zl999, zl1000, zl1001, zl1002, zl1003]
        rw [c1, if_neg (nI_ge (by omega) (by omega)), zjn_e, if_pos trivial, ze_add]
        exact k1 R hR
      · unfold qM_goRound_L15
        simp only [zl0, zl1, zl2, zl3, zl4, zl5, zl6, zl7, zl8, zl9, zl10, zl11, zl12, zl13, zl14, zl16, zl18, zl19, zl20, zl22, zl24, zl30, zl32, zl33, zl36, zl38, zl40, zl41, zl48, zl50, zl51, zl57, zl59, zl60, zl61, zl62, zl70, zl71, zl99, zl100, zl103, zl104, zl105, zl106, zl107, zl108, zl109, zl110, zl111, zl112, zl113, zl114, zl115, zl116, zl124, zl127, zl255, zl999, zl1000, zl1001, zl1002, zl1003]
        rw [c3, if_neg (nI_ge (by omega) (by omega)), zjn_e, if_pos trivial, ze_add]
        exact k2 R hR
    · obtain ⟨g1, g2, g3⟩ := c4 g (by omega) hgt
      by_cases he : gs g = lp
      · obtain ⟨C', M', k1, k2, k3, k4, k5, k6, k7⟩ := pts_loop (x := x) (E := E) (E' := E') hq hn6 ht hlp d (g + 1) F (zset C 2 (6 * q + g) 3 (C.1 2 (6 * q + g) 3 + nI 1)) (zset M 43 0 g (M.1 43 0 g + nI 1)) (by omega) (by omega) (by rw [zg_n (by omega), c1]) (by rw [zg_n (by omega), c2]) (by rw [zg_n (by omega), c3]) (fun j hj hjt => by rw [zg_n (by omega), zg_n (by omega)]; exact c4 j hj hjt) (fun p hp => by
          by_cases e : p = g
          · rw [zg_e (by omega), zg_e (by omega), c5 g (by omega)]
          · rw [zg_n (by omega), zg_n (by omega), c5 p hp])
        refine ⟨C', M', fun R hR => ?_, fun R hR => ?_, FPc_trans (FPc_set _ _ (by omega)) k3, FPm_trans (FPm_set _ _ (by omega)) k4, k5, by rw [k6, zg_n (by omega)], by rw [k7, zg_n (by omega)]⟩
        · unfold qG_playForPoints_L10
          simp only [zl0, zl1, zl2, zl3, zl4, zl5, zl6, zl7, zl8, zl9, zl10, zl11, zl12, zl13, zl14, zl16, zl18, zl19, zl20, zl22, zl24, zl30, zl32, zl33, zl36, zl38, zl40, zl41, zl48, zl50, zl51, zl57, zl59, zl60, zl61, zl62, zl70, zl71, zl99, zl100, zl103, zl104, zl105, zl106, zl107, zl108, zl109, zl110, zl111, zl112, zl113, zl114, zl115, zl116, zl124, zl127, zl255, zl999, zl1000, zl1001, zl1002, zl1003]
          rw [c1, if_neg (nI_ge (by omega) (by omega)), zjn_e, if_neg (znI_ne (by omega) (by omega) hgt), zchk_e (ze_in (by omega) (by omega)), ze_cl (show g < 2 ^ 31 by omega), g2, c2, if_pos (by rw [he]), zchk_e (ze_in (by omega) (by omega)), znm_e, znm_e, ze_add]
          exact k1 R hR
        · unfold qM_goRound_L15
          simp only [zl0, zl1, zl2, zl3, zl4, zl5, zl6, zl7, zl8, zl9, zl10, zl11, zl12, zl13, zl14, zl16, zl18, zl19, zl20, zl22, zl24, zl30, zl32, zl33, zl36, zl38, zl40, zl41, zl48, zl50, zl51, zl57, zl59, zl60, zl61, zl62, zl70, zl71, zl99, zl100, zl103, zl104, zl105, zl106, zl107, zl108, zl109, zl110, zl111, zl112, zl113, zl114, zl115, zl116, zl124, zl127, zl255, zl999, zl1000, zl1001, zl1002, zl1003]
          rw [c3, if_neg (nI_ge (by omega) (by omega)), zjn_e, if_neg (znI_ne (by omega) (by omega) hgt), zchk_e (ze_in (by omega) (by omega)), ze_cl (show g < 2 ^ 31 by omega), g3, if_pos (by rw [he]), zchk_e (ze_in (by omega) (by omega)), zchk_e (ze_in (by omega) (by omega)), znm_e, ze_add]
          exact k2 R hR
      · obtain ⟨C', M', k1, k2, k3, k4, k5, k6, k7⟩ := pts_loop (x := x) (E := E) (E' := E') hq hn6 ht hlp d (g + 1) F C M (by omega) (by omega) c1 c2 c3 c4 c5
        refine ⟨C', M', fun R hR => ?_, fun R hR => ?_, k3, k4, k5, k6, k7⟩
        · unfold qG_playForPoints_L10
          simp only [zl0, zl1, zl2, zl3, zl4, zl5, zl6, zl7, zl8, zl9, zl10, zl11, zl12, zl13, zl14, zl16, zl18, zl19, zl20, zl22, zl24, zl30, zl32, zl33, zl36, zl38, zl40, zl41, zl48, zl50, zl51, zl57, zl59, zl60, zl61, zl62, zl70, zl71, zl99, zl100, zl103, zl104, zl105, zl106, zl107, zl108, zl109, zl110, zl111, zl112, zl113, zl114, zl115, zl116, zl124, zl127, zl255, zl999, zl1000, zl1001, zl1002, zl1003]
          rw [c1, if_neg (nI_ge (by omega) (by omega)), zjn_e, if_neg (znI_ne (by omega) (by omega) hgt), zchk_e (ze_in (by omega) (by omega)), ze_cl (show g < 2 ^ 31 by omega), g2, c2, if_neg (znI_ne (by omega) (by omega) he), ze_add]
          exact k1 R hR
        · unfold qM_goRound_L15
          simp only [zl0, zl1, zl2, zl3, zl4, zl5, zl6, zl7, zl8, zl9, zl10, zl11, zl12, zl13, zl14, zl16, zl18, zl19, zl20, zl22, zl24, zl30, zl32, zl33, zl36, zl38, zl40, zl41, zl48, zl50, zl51, zl57, zl59, zl60, zl61, zl62, zl70, zl71, zl99, zl100, zl103, zl104, zl105, zl106, zl107, zl108, zl109, zl110, zl111, zl112, zl113, zl114, zl115, zl116, zl124, zl127, zl255, zl999, zl1000, zl1001, zl1002, zl1003]
          rw [c3, if_neg (nI_ge (by omega) (by omega)), zjn_e, if_neg (znI_ne (by omega) (by omega) hgt), zchk_e (ze_in (by omega) (by omega)), ze_cl (show g < 2 ^ 31 by omega), g3, if_neg (znI_ne (by omega) (by omega) he), ze_add]
          exact k2 R hR
theorem pts_e {c m : zM} {q n rd h e t : Nat} {cs : List Cl} (H : PH c m q n rd h e cs) (hrd : rd + 1 < 5000) (ht : t < n) (hpl : m.1 40 0 30 = -nI 1) :
    ∃ (C M : zM) (tk : Nat), qG_playForPoints c q (nI t) = some (nI tk, C) ∧ qM_goRound m (nI t) = some (nI tk, M) ∧ PH C M q n (rd + 1) h e cs ∧ FPc q c C ∧ FPm m M := by
  have hq := H.1
  have hn6 := H.2.1
  obtain ⟨lp, hl⟩ := LPl_ex (PH_pp H ht).2.2.2.2.2.2.2.2
  obtain ⟨A, B, hs, tk, gs, k1, k2, k3, k4, k5, k6, k7, k8⟩ := play_e H hl ht hpl
  have HA := PH_fr H k4 k5
  have hlB : LPl B t lp := LPl_cg (FR3_k k5) hl
  obtain ⟨D, N, d1, d2, d3, d4, d5, d6, d7⟩ := pts_loop (x := nI tk) (gs := gs) (E := fun (M8 : zM)  => zchk (zin (nI t) 6) (znm ((6 * q) + (nI t).toNatClampNeg) fun i9 => znm (zset M8 2 i9 3 ((M8.1 2 i9 3) + nI tk)) fun M10 => znm (zset M10 1 q 2 ((M10.1 1 q 2) + nI 1)) fun M11 => some (nI tk, M11))) (E' := fun (M10 : zM)  => zchk (zin (nI t) 6) (zchk (zin (nI t) 6) (znm (zset M10 43 0 (nI t).toNatClampNeg ((M10.1 43 0 (nI t).toNatClampNeg) + nI tk)) fun M11 => znm (zset M11 40 0 1 ((M11.1 40 0 1) + nI 1)) fun M12 => some (nI tk, M12)))) hq hn6 ht hl.1 n 0 1000 A B (by omega) (by omega) HA.2.2.2.2.2.1 k3.2.1 HA.2.2.2.2.2.2.2.1 k7 (fun p hp => (HA.2.2.2.2.1 p hp).1.2.2.1)
  have a2 : D.1 1 q 2 = nI rd := by rw [d6]; exact HA.2.2.2.2.2.2.1
  have b2 : N.1 40 0 1 = nI rd := by rw [d7]; exact HA.2.2.2.2.2.2.2.2.1
  have fC : FPc q c (zset (zset D 2 (6 * q + t) 3 (D.1 2 (6 * q + t) 3 + nI tk)) 1 q 2 (nI (rd + 1))) := FPc_trans (FPc_c k4) (FPc_trans d3 (FPc_trans (FPc_set _ _ (by omega)) ⟨rfl, fun a i j q1 q2 q3 => zg_n (by omega)⟩))
  have fM : FPm m (zset (zset N 43 0 t (N.1 43 0 t + nI tk)) 40 0 1 (nI (rd + 1))) := FPm_trans (FPm_3 k5) (FPm_trans d4 (FPm_trans (FPm_set _ _ (by omega)) ⟨rfl, fun a j q1 q2 q3 q4 q5 => zg_n (by omega)⟩))
  refine ⟨zset (zset D 2 (6 * q + t) 3 (D.1 2 (6 * q + t) 3 + nI tk)) 1 q 2 (nI (rd + 1)), zset (zset N 43 0 t (N.1 43 0 t + nI tk)) 40 0 1 (nI (rd + 1)), tk, ?_, ?_, PH_pts H hrd fC fM (fun p hp => ?_) (zg_e ⟨rfl, rfl, rfl⟩) (zg_e ⟨rfl, rfl, rfl⟩), fC, fM⟩
  · unfold qG_playForPoints
    simp only [zl0, zl1, zl2, zl3, zl4, zl5, zl6, zl7, zl8, zl9, zl10, zl11, zl12, zl13, zl14, zl16, zl18, zl19, zl20, zl22, zl24, zl30, zl32, zl33, zl36, zl38, zl40, zl41, zl48, zl50, zl51, zl57, zl59, zl60, zl61, zl62, zl70, zl71, zl99, zl100, zl103, zl104, zl105, zl106, zl107, zl108, zl109, zl110, zl111, zl112, zl113, zl114, zl115, zl116, zl124, zl127, zl255, zl999, zl1000, zl1001, zl1002, zl1003]
    rw [zbnd_c k1]
    refine d1 _ ?_
    rw [zchk_e (ze_in (by omega) (by omega)), znm_e, ze_cl (show t < 2 ^ 31 by omega), znm_e, znm_e, zg_n (by omega), a2, ze_add]
  · unfold qM_goRound
    simp only [zl0, zl1, zl2, zl3, zl4, zl5, zl6, zl7, zl8, zl9, zl10, zl11, zl12, zl13, zl14, zl16, zl18, zl19, zl20, zl22, zl24, zl30, zl32, zl33, zl36, zl38, zl40, zl41, zl48, zl50, zl51, zl57, zl59, zl60, zl61, zl62, zl70, zl71, zl99, zl100, zl103, zl104, zl105, zl106, zl107, zl108, zl109, zl110, zl111, zl112, zl113, zl114, zl115, zl116, zl124, zl127, zl255, zl999, zl1000, zl1001, zl1002, zl1003]
    rw [zbnd_c k2, zbnd_c (liePlace_m hlB (by omega))]
    refine d2 _ ?_
    rw [zchk_e (ze_in (by omega) (by omega)), zchk_e (ze_in (by omega) (by omega)), ze_cl (show t < 2 ^ 31 by omega), znm_e, znm_e, zg_n (by omega), b2, ze_add]
  · by_cases e : p = t
    · rw [zg_n (by omega), zg_e (by omega), zg_n (by omega), zg_e (by omega), d5 t ht]
    · rw [zg_n (by omega), zg_n (by omega), zg_n (by omega), zg_n (by omega), d5 p hp]
theorem st_round (c m : zM) (a0 : Int32) (h : Rl c m) : ∃ (r : Int32) (c1 m1 : zM), qG_round c a0 = some (r, c1) ∧ qM_round m a0 = some (r, m1) ∧ Rl c1 m1 := by
  obtain ⟨n, rd, bk, ec, tl, ev, h1, h2, h3, h4, h5, h6, h7, h8, h9, h10, h11, h12, h13⟩ := h; obtain ⟨b1, b2, b3, b4, b5, b6⟩ := h1; have h1 : Rb1 n rd bk ec tl ev := ⟨b1, b2, b3, b4, b5, b6⟩; obtain ⟨c1, c2, c3, c4, c5, c6⟩ := h2; have h2 : Rb2 c n rd bk ec tl ev := ⟨c1, c2, c3, c4, c5, c6⟩; obtain ⟨m1, m2, m3, m4, m5, m6, m7⟩ := h3; have h3 : Rb3 m n rd bk ec tl ev := ⟨m1, m2, m3, m4, m5, m6, m7⟩
  have hB : RB c m n rd bk ec tl ev := ⟨h1, h2, h3, h4, h5, h6, h7, h8, h9, h10, h11, h12, h13⟩
  obtain ⟨hh, e, cs, H⟩ := PH_0 hB
  unfold qG_round qM_round
  simp only [zl0, zl1, zl2, zl3, zl4, zl5, zl6, zl7, zl8, zl9, zl10, zl11, zl12, zl13, zl14, zl16, zl18, zl19, zl20, zl22, zl24, zl30, zl32, zl33, zl36, zl38, zl40, zl41, zl48, zl50, zl51, zl57, zl59, zl60, zl61, zl62, zl70, zl71, zl99, zl100, zl103, zl104, zl105, zl106, zl107, zl108, zl109, zl110, zl111, zl112, zl113, zl114, zl115, zl116, zl124, zl127, zl255, zl999, zl1000, zl1001, zl1002, zl1003]
  rcases zcase a0 (n := n) (by omega) with g | ⟨p, hp, rfl⟩
  · rw [zb_n (qP_has_no c1 g), zb_n (qM_isPerson_no m1 (by omega) g)]
    exact ⟨_, c, m, rfl, rfl, n, rd, bk, ec, tl, ev, h1, h2, h3, h4, h5, h6, h7, h8, h9, h10, h11, h12, h13⟩
  rw [zb_y (qP_has_ok c1 hp (by omega)), zb_y (qM_isPerson_ok m1 hp (by omega))]
  rw [c2, m2]
  by_cases e1 : rd = 999
  · rw [if_neg (nI_nlt (by omega) (by omega)), if_pos (by rw [e1])]
    exact ⟨_, c, m, rfl, rfl, n, rd, bk, ec, tl, ev, h1, h2, h3, h4, h5, h6, h7, h8, h9, h10, h11, h12, h13⟩
  rw [if_pos (nI_lt (by omega) (by omega)), if_neg (znI_ne (by omega) (by omega) e1)]
  obtain ⟨C, M, tk, k1, k2, k3, k4, k5⟩ := pts_e H (by omega) hp m7
  rw [zbnd_c k1, zbnd_c k2]
  have K := k4.2
  have L := k5.2
  refine ⟨_, C, M, rfl, rfl, n, rd + 1, bk, ec, tl, ev, ⟨b1, by omega, b3, b4, b5, b6⟩, ⟨k3.2.2.2.2.2.1, k3.2.2.2.2.2.2.1, by rw [K _ _ _ (by omega) (by omega) (by omega), c3], by rw [K _ _ _ (by omega) (by omega) (by omega), c4], by rw [K _ _ _ (by omega) (by omega) (by omega), c5], by rw [K _ _ _ (by omega) (by omega) (by omega), c6]⟩, ⟨k3.2.2.2.2.2.2.2.1, k3.2.2.2.2.2.2.2.2.1, by rw [L _ _ (by omega) (by omega) (by omega) (by omega) (by omega), m3], by rw [L _ _ (by omega) (by omega) (by omega) (by omega) (by omega), m4], by rw [L _ _ (by omega) (by omega) (by omega) (by omega) (by omega), m5], by rw [L _ _ (by omega) (by omega) (by omega) (by omega) (by omega), m6], by rw [L _ _ (by omega) (by omega) (by omega) (by omega) (by omega), m7]⟩, k3.2.2.2.1, k3.2.2.2.2.1, ?_, ?_, ?_, ?_, ?_, ?_, ?_, ?_⟩
  · exact Rbk_cg (Nat.le_refl _) (fun j _ => K _ _ _ (by omega) (by omega) (by omega)) (fun j _ => ⟨L _ _ (by omega) (by omega) (by omega) (by omega) (by omega), L _ _ (by omega) (by omega) (by omega) (by omega) (by omega), L _ _ (by omega) (by omega) (by omega) (by omega) (by omega)⟩) h6
  · intro p hp; rw [K _ _ _ (by omega) (by omega) (by omega), L _ _ (by omega) (by omega) (by omega) (by omega) (by omega), h7 p hp]
  · intro j hj
    obtain ⟨h, q1, q2, q3⟩ := h8 j hj
    exact ⟨h, q1, by rw [K _ _ _ (by omega) (by omega) (by omega), q2], by rw [L _ _ (by omega) (by omega) (by omega) (by omega) (by omega), q3]⟩
  · exact Rev_cg b4 (fun k i j hk => K _ _ _ (by omega) (by omega) (by omega)) (fun k j hk => L _ _ (by omega) (by omega) (by omega) (by omega) (by omega)) h9
  · exact Rim_cg (Nat.le_refl _) (fun k i j hk => K _ _ _ (by omega) (by omega) (by omega)) (fun k j hk => L _ _ (by omega) (by omega) (by omega) (by omega) (by omega)) h10
  · obtain ⟨k, q1, q2, q3, q4⟩ := h11
    exact ⟨k, q1, by rw [K _ _ _ (by omega) (by omega) (by omega), q2], by rw [L _ _ (by omega) (by omega) (by omega) (by omega) (by omega), q3], fun j r1 r2 => by rw [K _ _ _ (by omega) (by omega) (by omega), L _ _ (by omega) (by omega) (by omega) (by omega) (by omega), q4 j r1 r2]⟩
  · intro t ht
    obtain ⟨k, q1, q2, q3, q4, q5⟩ := h12 t ht
    exact ⟨k, q1, by rw [K _ _ _ (by omega) (by omega) (by omega), q2], by rw [L _ _ (by omega) (by omega) (by omega) (by omega) (by omega), q3], fun j hj => by rw [k4.1, k5.1, q4 j hj], by rw [K _ _ _ (by omega) (by omega) (by omega), L _ _ (by omega) (by omega) (by omega) (by omega) (by omega)]; exact q5⟩
  · intro j hj; rw [L _ _ (by omega) (by omega) (by omega) (by omega) (by omega), h13 j hj]
