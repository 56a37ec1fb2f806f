/-! PURE PART: WORTH. -/
def lpf (m : zM) (t : Nat) : Nat := if m.1 47 0 (3 * t + 0) = m.1 44 0 t then 0 else if m.1 47 0 (3 * t + 1) = m.1 44 0 t then 1 else 2
theorem lpf_e {m : zM} {t : Nat} (h : WFp m 41 t) : LPl m t (lpf m t) := by
  obtain ⟨lp, h1, h2, h3⟩ := LPl_ex h
  have : lpf m t = lp := by
    unfold lpf
    rcases (show lp = 0 ∨ lp = 1 ∨ lp = 2 by omega) with rfl | rfl | rfl
    · rw [if_pos h2]
    · rw [if_neg (h3 0 (by decide)), if_pos h2]
    · rw [if_neg (h3 0 (by decide)), if_neg (h3 1 (by decide))]
  rw [this]
  exact ⟨h1, h2, h3⟩
theorem lpf_K {m M : zM} (h : FK m M) (t : Nat) : lpf M t = lpf m t := by
  unfold lpf
  rw [h 47 _ (by decide) (by decide), h 47 _ (by decide) (by decide), h 44 _ (by decide) (by decide)]
def bW (m : zM) (cs : List Cl) (g t : Nat) : Nat := if chW (dD m cs g t) = lpf m t then 1 else 0
theorem bW_K {m M : zM} (h : FK m M) (cs : List Cl) (g t : Nat) : bW M cs g t = bW m cs g t := by
  unfold bW
  rw [lpf_K h, show dD M cs g t = dD m cs g t from funext fun p => dD_K h cs g t p]
def smW (b : Nat → Nat) (g : Nat) : Nat → Nat → Nat
  | 0, _ => 0
  | d + 1, v => (if v = g then 0 else b v) + smW b g d (v + 1)
/-- the class's guess of a GUEST -/
theorem gog_e {C m : zM} {n rd h e g t : Nat} {cs : List Cl} (H : PH C m 0 n rd h e cs) (hg : g < n) (ht : t < n) : ∃ D, qG_guessOfGuest C g t = some (nI (chW (dD m cs g t)), D) ∧ FR1 15 C D := by
  have hn6 := H.2.1
  have stp : ∀ A, FR1 15 C A → ∀ p, p < 3 → ∃ B, qG_held A = some (h, A) ∧ qE_doubtOf A h g t (nI p) = some (dD m cs g t p, B) ∧ FR1 15 A B := by
    intro A hA p hp
    have HA := PH_fr H (FRc_1 hA) (FR3_refl m)
    obtain ⟨g1, g2, g3, g4, g5, g6, g7, g8, g9⟩ := PH_pp HA hg
    obtain ⟨t1, t2, t3, t4, t5, t6, t7, t8, t9⟩ := PH_pp HA ht
    obtain ⟨B, k1, k2⟩ := doubt_c HA.2.2.2.2.2.2.2.2.2.1 (cl_ok HA.2.2.2.2.2.2.2.2.2.2.1) t9 (show g < 6 by omega) (show t < 6 by omega) hp g1 g2 t1 t5 t6 t7
    simp only [Nat.mul_zero, Nat.zero_add] at k1
    exact ⟨B, HA.2.2.2.2.2.2.2.2.2.2.2 A rfl, k1, k2⟩
  obtain ⟨A0, a0, a1, a2⟩ := stp C (FR1_refl _ _) 0 (by decide)
  obtain ⟨A1, b0, b1, b2⟩ := stp A0 a2 1 (by decide)
  have f1 := FR1_trans a2 b2
  obtain ⟨A2, c0, c1, c2⟩ := stp A1 f1 2 (by decide)
  refine ⟨A2, ?_, FR1_trans f1 c2⟩
  have fin : ∀ F x v, qG_guessOfGuest_L17 g t (F + 1) A2 (nI x) v (nI 3) = some (nI x, A2) := by
    intro F x v
    unfold qG_guessOfGuest_L17
    simp only [zl0, zl1, zl2, zl3, zl4, zl5, zl6, zl7, zl8, zl9, zl10, zl11, zl12, zl13, zl14, zl16, zl18, zl19, zl20, zl22, zl24, zl30, zl32, zl33, zl36, zl38, zl40, zl41, zl48, zl50, zl51, zl57, zl59, zl60, zl61, zl62, zl70, zl71, zl99, zl100, zl103, zl104, zl105, zl106, zl107, zl108, zl109, zl110, zl111, zl112, zl113, zl114, zl115, zl116, zl124, zl127, zl255, zl999, zl1000, zl1001, zl1002, zl1003]
    rw [if_pos (nI_le (by omega) (by omega))]
  have s2 : ∀ F x v, qG_guessOfGuest_L17 g t (F + 2) A1 (nI x) v (nI 2) = some (nI (if v < dD m cs g t 2 then 2 else x), A2) := by
    intro F x v
    have t1 := fin F x v
    have t2 := fin F 2 (dD m cs g t 2)
    generalize h1 : qG_guessOfGuest_L17 g t (F + 1) A2 (nI x) v (nI 3) = R at t1
    generalize h2 : qG_guessOfGuest_L17 g t (F + 1) A2 (nI 2) (dD m cs g t 2) (nI 3) = R2 at t2
    unfold qG_guessOfGuest_L17
    simp only [zl0, zl1, zl2, zl3, zl4, zl5, zl6, zl7, zl8, zl9, zl10, zl11, zl12, zl13, zl14, zl16, zl18, zl19, zl20, zl22, zl24, zl30, zl32, zl33, zl36, zl38, zl40, zl41, zl48, zl50, zl51, zl57, zl59, zl60, zl61, zl62, zl70, zl71, zl99, zl100, zl103, zl104, zl105, zl106, zl107, zl108, zl109, zl110, zl111, zl112, zl113, zl114, zl115, zl116, zl124, zl127, zl255, zl999, zl1000, zl1001, zl1002, zl1003]
    rw [if_neg (nI_ge (by omega) (by omega)), zbnd_c c0, zbnd_c c1, zjn_e]
    by_cases e : v < dD m cs g t 2
    · rw [if_neg (Int32.not_le.mpr e), if_pos e, ze_add]
      exact h2.trans t2
    · rw [if_pos (Int32.not_lt.mp e), if_neg e, ze_add]
      exact h1.trans t1
  have s1 : ∀ F v, qG_guessOfGuest_L17 g t (F + 3) A0 (nI 0) v (nI 1) = some (nI (if (if v < dD m cs g t 1 then dD m cs g t 1 else v) < dD m cs g t 2 then 2 else if v < dD m cs g t 1 then 1 else 0), A2) := by
    intro F v
    have t1 := s2 F 0 v
    have t2 := s2 F 1 (dD m cs g t 1)
    generalize h1 : qG_guessOfGuest_L17 g t (F + 2) A1 (nI 0) v (nI 2) = R at t1
    generalize h2 : qG_guessOfGuest_L17 g t (F + 2) A1 (nI 1) (dD m cs g t 1) (nI 2) = R2 at t2
    unfold qG_guessOfGuest_L17
    simp only [zl0, zl1, zl2, zl3, zl4, zl5, zl6, zl7, zl8, zl9, zl10, zl11, zl12, zl13, zl14, zl16, zl18, zl19, zl20, zl22, zl24, zl30, zl32, zl33, zl36, zl38, zl40, zl41, zl48, zl50, zl51, zl57, zl59, zl60, zl61, zl62, zl70, zl71, zl99, zl100, zl103, zl104, zl105, zl106, zl107, zl108, zl109, zl110, zl111, zl112, zl113, zl114, zl115, zl116, zl124, zl127, zl255, zl999, zl1000, zl1001, zl1002, zl1003]
    rw [if_neg (nI_ge (by omega) (by omega)), zbnd_c b0, zbnd_c b1, zjn_e]
    by_cases e : v < dD m cs g t 1
    · rw [if_neg (Int32.not_le.mpr e), if_pos e, if_pos e, ze_add]
      exact h2.trans t2
    · rw [if_pos (Int32.not_lt.mp e), if_neg e, if_neg e, ze_add]
      exact h1.trans t1
  unfold qG_guessOfGuest
  simp only [zl0, zl1, zl2, zl3, zl4, zl5, zl6, zl7, zl8, zl9, zl10, zl11, zl12, zl13, zl14, zl16, zl18, zl19, zl20, zl22, zl24, zl30, zl32, zl33, zl36, zl38, zl40, zl41, zl48, zl50, zl51, zl57, zl59, zl60, zl61, zl62, zl70, zl71, zl99, zl100, zl103, zl104, zl105, zl106, zl107, zl108, zl109, zl110, zl111, zl112, zl113, zl114, zl115, zl116, zl124, zl127, zl255, zl999, zl1000, zl1001, zl1002, zl1003]
  rw [zbnd_c a0, zbnd_c a1]
  exact s1 997 (dD m cs g t 0)
theorem zsw (a b c : Int32) : a + b + c = a + c + b := by rw [Int32.add_assoc, Int32.add_comm b c, ← Int32.add_assoc]
theorem zm1 (x : Int32) : x + (-nI 1) + nI 1 = x := by rw [Int32.add_assoc, Int32.add_comm (-nI 1), ← Int32.sub_eq_add_neg, Int32.sub_self, Int32.add_zero]
theorem worth_loop {m : zM} {n rd h e g : Nat} {cs : List Cl} (hg : g < n) (hpl : m.1 40 0 30 = -nI 1) : ∀ (d v F s : Nat) (x : Int32) (C M : zM), v + d = n → d < F → PH C m 0 n rd h e cs → FR3 m M →
    ∃ C' M' A y, qG_worth_L45 (nI g) g F C x (nI v) = some (y, C') ∧ qM_rightsOf_L4 (nI g) F M (nI s) (nI v) = some (nI (s + A), M') ∧ y + nI (smW (bW m cs g) g d v) = x + nI A ∧ FRc C C' ∧ FR3 m M'
  | 0, v, F + 1, s, x, C, M, hd, hF, H, hM => by
    have e : v = n := hd
    subst e
    have hn6 := H.2.1
    refine ⟨C, M, 0, x, ?_, ?_, rfl, FRc_refl _, hM⟩
    · unfold qG_worth_L45
      rw [H.2.2.2.2.2.1, if_pos (nI_le (by omega) (by omega))]
    · unfold qM_rightsOf_L4
      rw [hM.2 _ _ _ (by decide) (by decide) (by decide), H.2.2.2.2.2.2.2.1, if_pos (nI_le (by omega) (by omega))]
      rfl
  | d + 1, v, F + 1, s, x, C, M, hd, hF, H, hM => by
    have hn6 := H.2.1
    have hnC := H.2.2.2.2.2.1
    have hnM : M.1 40 0 0 = nI n := by rw [hM.2 _ _ _ (by decide) (by decide) (by decide), H.2.2.2.2.2.2.2.1]
    by_cases hvg : v = g
    · subst hvg
      obtain ⟨C', M', A, y, k1, k2, k3, k4, k5⟩ := worth_loop hg hpl d (v + 1) F s x C M (by omega) (by omega) H hM
      refine ⟨C', M', A, y, ?_, ?_, ?_, k4, k5⟩
      · unfold qG_worth_L45
        simp only [zl0, zl1, zl2, zl3, zl4, zl5, zl6, zl7, zl8, zl9, zl10, zl11, zl12, zl13, zl14, zl16, zl18, zl19, zl20, zl22, zl24, zl30, zl32, zl33, zl36, zl38, zl40, zl41, zl48, zl50, zl51, zl57, zl59, zl60, zl61, zl62, zl70, zl71, zl99, zl100, zl103, zl104, zl105, zl106, zl107, zl108, zl109, zl110, zl111, zl112, zl113, zl114, zl115, zl116, zl124, zl127, zl255, zl999, zl1000, zl1001, zl1002, zl1003]
        rw [hnC, if_neg (nI_ge (by omega) (by omega)), zjn_e, if_pos trivial, ze_add]
        exact k1
      · unfold qM_rightsOf_L4
        simp only [zl0, zl1, zl2, zl3, zl4, zl5, zl6, zl7, zl8, zl9, zl10, zl11, zl12, zl13, zl14, zl16, zl18, zl19, zl20, zl22, zl24, zl30, zl32, zl33, zl36, zl38, zl40, zl41, zl48, zl50, zl51, zl57, zl59, zl60, zl61, zl62, zl70, zl71, zl99, zl100, zl103, zl104, zl105, zl106, zl107, zl108, zl109, zl110, zl111, zl112, zl113, zl114, zl115, zl116, zl124, zl127, zl255, zl999, zl1000, zl1001, zl1002, zl1003]
        rw [hnM, if_neg (nI_ge (by omega) (by omega)), zjn_e, if_pos trivial, ze_add]
        exact k2
      · show y + nI ((if v = v then 0 else bW m cs v v) + smW (bW m cs v) v d (v + 1)) = _
        rw [if_pos rfl, Nat.zero_add]
        exact k3
    · have HM := PH_fr H (FRc_refl C) hM
      have hw := (PH_pp HM (show v < n by omega)).2.2.2.2.2.2.2.2
      have hl := lpf_e hw
      rw [lpf_K (FR3_k hM)] at hl
      obtain ⟨D, N, hs, tk, gs, k1, k2, k3, k4, k5, k6, k7, k8⟩ := play_e HM hl (show v < n by omega) (by rw [hM.2 _ _ _ (by decide) (by decide) (by decide), hpl])
      have hlp := hl.1
      obtain ⟨g0, g1, g2⟩ := k7 g hg (fun q => hvg q.symm)
      have HD := PH_fr H k4 (FR3_refl m)
      obtain ⟨B, j1, j2⟩ := gog_e HD hg (show v < n by omega)
      have hx := chW_lt (dD m cs g v)
      have e165 : B.1 16 0 5 = nI (lpf m v) := by rw [j2.2 _ _ _ (by decide)]; exact k3.2.1
      have fB : FRc C B := FRc_trans k4 (FRc_1 j2)
      have hN : FR3 m N := FR3_trans hM k5
      have hlN : LPl N v (lpf m v) := LPl_cg (FR3_k k5) hl
      obtain ⟨C', M', A, y, x1, x2, x3, x4, x5⟩ := worth_loop hg hpl d (v + 1) F (s + if gs g = lpf m v then 1 else 0) (if chW (dD m cs g v) = lpf m v then (if gs g = lpf m v then x + nI 1 else x) + (-nI 1) else (if gs g = lpf m v then x + nI 1 else x)) B N (by omega) (by omega) (PH_fr H fB (FR3_refl m)) hN
      refine ⟨C', M', (if gs g = lpf m v then 1 else 0) + A, y, ?_, ?_, ?_, FRc_trans fB x4, x5⟩
      · unfold qG_worth_L45
        simp only [zl0, zl1, zl2, zl3, zl4, zl5, zl6, zl7, zl8, zl9, zl10, zl11, zl12, zl13, zl14, zl16, zl18, zl19, zl20, zl22, zl24, zl30, zl32, zl33, zl36, zl38, zl40, zl41, zl48, zl50, zl51, zl57, zl59, zl60, zl61, zl62, zl70, zl71, zl99, zl100, zl103, zl104, zl105, zl106, zl107, zl108, zl109, zl110, zl111, zl112, zl113, zl114, zl115, zl116, zl124, zl127, zl255, zl999, zl1000, zl1001, zl1002, zl1003]
        rw [hnC, if_neg (nI_ge (by omega) (by omega)), zjn_e, if_neg (znI_ne (by omega) (by omega) hvg), zbnd_c k1, zchk_e (ze_in (by omega) (by omega)), ze_cl (show g < 2 ^ 31 by omega), ze_cl (show v < 2 ^ 31 by omega), Nat.zero_add, g1, k3.2.1, ze_add]
        simp only [zjn_e, znm_e, zchk_e (ze_in (show v < 6 by omega) (by decide)), zbnd_c j1, e165]
        by_cases q1 : gs g = lpf m v
        · simp only [if_pos q1] at x1
          rw [if_pos (by rw [q1])]
          by_cases q2 : chW (dD m cs g v) = lpf m v
          · rw [if_pos q2] at x1
            rw [if_pos (by rw [q2])]
            exact x1
          · rw [if_neg q2] at x1
            rw [if_neg (znI_ne (by omega) (by omega) q2)]
            exact x1
        · simp only [if_neg q1] at x1
          rw [if_neg (znI_ne (by omega) (by omega) q1)]
          by_cases q2 : chW (dD m cs g v) = lpf m v
          · rw [if_pos q2] at x1
            rw [if_pos (by rw [q2])]
            exact x1
          · rw [if_neg q2] at x1
            rw [if_neg (znI_ne (by omega) (by omega) q2)]
            exact x1
      · rw [← Nat.add_assoc]
        unfold qM_rightsOf_L4
        simp only [zl0, zl1, zl2, zl3, zl4, zl5, zl6, zl7, zl8, zl9, zl10, zl11, zl12, zl13, zl14, zl16, zl18, zl19, zl20, zl22, zl24, zl30, zl32, zl33, zl36, zl38, zl40, zl41, zl48, zl50, zl51, zl57, zl59, zl60, zl61, zl62, zl70, zl71, zl99, zl100, zl103, zl104, zl105, zl106, zl107, zl108, zl109, zl110, zl111, zl112, zl113, zl114, zl115, zl116, zl124, zl127, zl255, zl999, zl1000, zl1001, zl1002, zl1003]
        rw [hnM, if_neg (nI_ge (by omega) (by omega)), zjn_e, if_neg (znI_ne (by omega) (by omega) hvg), zbnd_c k2, zchk_e (ze_in (by omega) (by omega)), ze_cl (show g < 2 ^ 31 by omega), zbnd_c (liePlace_m hlN (by omega)), g2, ze_add]
        simp only [zjn_e, znm_e, ze_add]
        by_cases q1 : gs g = lpf m v
        · rw [if_pos q1] at x2 ⊢
          rw [if_pos (by rw [q1])]
          exact x2
        · rw [if_neg q1] at x2 ⊢
          rw [if_neg (znI_ne (by omega) (by omega) q1)]
          exact x2
      · show y + nI ((if v = g then 0 else bW m cs g v) + smW (bW m cs g) g d (v + 1)) = _
        rw [if_neg hvg, ← ze_add, ← ze_add, Int32.add_comm (nI (bW m cs g v)), ← Int32.add_assoc, x3, zsw, ← Int32.add_assoc]
        congr 1
        unfold bW
        by_cases q2 : chW (dD m cs g v) = lpf m v
        · rw [if_pos q2, if_pos q2, zm1]
          by_cases q1 : gs g = lpf m v
          · rw [if_pos q1, if_pos q1]
          · rw [if_neg q1, if_neg q1, zadd0]
        · rw [if_neg q2, if_neg q2, zadd0]
          by_cases q1 : gs g = lpf m v
          · rw [if_pos q1, if_pos q1]
          · rw [if_neg q1, if_neg q1, zadd0]
/-! the reference's second look, one guesser plain -/
theorem WOK_P {c m : zM} {q n rd h e t lp g : Nat} {cs : List Cl} (H : PH c m q n rd h e cs) (hl : LPl m t lp) (ht : t < n) (hg : g < n) (hpl : m.1 40 0 30 = nI g) : WOK m n t (fun j hs => if j = g then dD m cs g t else WD m cs n rd lp t j hs) := by
  intro j hj hjt hs M hM hh M1 hM1 p hp
  have hn6 := H.2.1
  have HM : PH c M q n rd h e cs := PH_fr H (FRc_refl c) hM
  have h30 : M.1 40 0 30 = nI g := by rw [hM.2 _ _ _ (by decide) (by decide) (by decide), hpl]
  by_cases e : j = g
  · subst e
    have HM1 : PH c M1 q n rd h e cs := PH_fr HM (FRc_refl c) (FR3_1 hM1)
    obtain ⟨M2, k1, k2⟩ := doubt_m HM1.2.2.2.2.2.2.2.2.2.2.1 (PH_pp HM1 ht).2.2.2.2.2.2.2.2 (show j < 6 by omega) (show t < 6 by omega) hp
    rw [dD_F3 (FR3_1 hM1), dD_F3 hM] at k1
    refine ⟨M2, ?_, k2⟩
    dsimp only
    rw [if_pos rfl]
    unfold qM_weightOf
    rw [zbnd_c k1, if_pos (by rw [k2.2 _ _ _ (by decide), hM1.2 _ _ _ (by decide), h30])]
  · dsimp only
    rw [if_neg e]
    have hp30 : nI j ≠ M.1 40 0 30 := by
      rw [h30]
      exact znI_ne (by omega) (by omega) e
    have := weights_m (m := M) (lp := lp) (t := t) ⟨HM.2.2.2.2.2.2.2.2.2.2.1, fun p hp => (PH_pp HM hp).2.2.2.2.2.2.2.2, LPl_cg (FR3_k hM) hl, HM.2.2.2.2.2.2.2.1, HM.2.2.2.2.2.2.2.2.1, hn6, HM.2.2.1, ht, hh⟩ hp30 hj M1 hM1 p hp
    rw [wD_F3 hM] at this
    exact this
theorem plain_loop {c m : zM} {n rd h e g : Nat} {cs : List Cl} (H : PH c m 0 n rd h e cs) (hg : g < n) (hpl : m.1 40 0 30 = nI g) : ∀ (d v F s : Nat) (M : zM), v + d = n → d < F → FR3 m M →
    ∃ M', qM_rightsOf_L4 (nI g) F M (nI s) (nI v) = some (nI (s + smW (bW m cs g) g d v), M') ∧ FR3 m M'
  | 0, v, F + 1, s, M, hd, hF, hM => by
    have e : v = n := hd
    subst e
    have hn6 := H.2.1
    refine ⟨M, ?_, hM⟩
    unfold qM_rightsOf_L4
    rw [hM.2 _ _ _ (by decide) (by decide) (by decide), H.2.2.2.2.2.2.2.1, if_pos (nI_le (by omega) (by omega))]
    rfl
  | d + 1, v, F + 1, s, M, hd, hF, hM => by
    have hn6 := H.2.1
    have HM := PH_fr H (FRc_refl c) hM
    have hnM : M.1 40 0 0 = nI n := HM.2.2.2.2.2.2.2.1
    by_cases hvg : v = g
    · subst hvg
      obtain ⟨M', k2, k5⟩ := plain_loop H hg hpl d (v + 1) F s M (by omega) (by omega) hM
      refine ⟨M', ?_, k5⟩
      have es : smW (bW m cs v) v (d + 1) v = smW (bW m cs v) v d (v + 1) := by
        show (if v = v then 0 else bW m cs v v) + smW (bW m cs v) v d (v + 1) = _
        rw [if_pos rfl, Nat.zero_add]
      rw [es]
      unfold qM_rightsOf_L4
      simp only [zl0, zl1, zl2, zl3, zl4, zl5, zl6, zl7, zl8, zl9, zl10, zl11, zl12, zl13, zl14, zl16, zl18, zl19, zl20, zl22, zl24, zl30, zl32, zl33, zl36, zl38, zl40, zl41, zl48, zl50, zl51, zl57, zl59, zl60, zl61, zl62, zl70, zl71, zl99, zl100, zl103, zl104, zl105, zl106, zl107, zl108, zl109, zl110, zl111, zl112, zl113, zl114, zl115, zl116, zl124, zl127, zl255, zl999, zl1000, zl1001, zl1002, zl1003]
      rw [hnM, if_neg (nI_ge (by omega) (by omega)), zjn_e, if_pos trivial, ze_add]
      exact k2
    · have hl := lpf_e (PH_pp HM (show v < n by omega)).2.2.2.2.2.2.2.2
      rw [lpf_K (FR3_k hM)] at hl
      have hlp := hl.1
      obtain ⟨N, j1, j2, j3, j4⟩ := goes_m hnM hn6 (show v < n by omega) hl (WOK_P HM hl (show v < n by omega) hg (by rw [hM.2 _ _ _ (by decide) (by decide) (by decide), hpl]))
      have e60 := j4 g hg (fun q => hvg q.symm)
      simp only [if_pos trivial] at e60
      rw [show dD M cs g v = dD m cs g v from funext fun p => dD_F3 hM cs g v p] at e60
      have hx := chW_lt (dD m cs g v)
      obtain ⟨M', k2, k5⟩ := plain_loop H hg hpl d (v + 1) F (s + bW m cs g v) N (by omega) (by omega) (FR3_trans hM j2)
      refine ⟨M', ?_, k5⟩
      have es : smW (bW m cs g) g (d + 1) v = bW m cs g v + smW (bW m cs g) g d (v + 1) := by
        show (if v = g then 0 else bW m cs g v) + smW (bW m cs g) g d (v + 1) = _
        rw [if_neg hvg]
      rw [es, ← Nat.add_assoc]
      unfold qM_rightsOf_L4
      simp only [zl0, zl1, zl2, zl3, zl4, zl5, zl6, zl7, zl8, zl9, zl10, zl11, zl12, zl13, zl14, zl16, zl18, zl19, zl20, zl22, zl24, zl30, zl32, zl33, zl36, zl38, zl40, zl41, zl48, zl50, zl51, zl57, zl59, zl60, zl61, zl62, zl70, zl71, zl99, zl100, zl103, zl104, zl105, zl106, zl107, zl108, zl109, zl110, zl111, zl112, zl113, zl114, zl115, zl116, zl124, zl127, zl255, zl999, zl1000, zl1001, zl1002, zl1003]
      rw [hnM, if_neg (nI_ge (by omega) (by omega)), zjn_e, if_neg (znI_ne (by omega) (by omega) hvg), zbnd_c j1, zchk_e (ze_in (by omega) (by omega)), ze_cl (show g < 2 ^ 31 by omega), zbnd_c (liePlace_m (LPl_cg (FR3_k j2) hl) (by omega)), e60, ze_add]
      simp only [zjn_e, znm_e, ze_add]
      unfold bW at k2 ⊢
      by_cases q1 : chW (dD m cs g v) = lpf m v
      · rw [if_pos q1] at k2 ⊢
        rw [if_pos (by rw [q1])]
        exact k2
      · rw [if_neg q1] at k2 ⊢
        rw [if_neg (znI_ne (by omega) (by omega) q1)]
        exact k2
theorem PH_m30 {C m : zM} {n rd h e q : Nat} {cs : List Cl} {v : Int32} (H : PH C m q n rd h e cs) : PH C (zset m 40 0 30 v) q n rd h e cs := by
  have F : ∀ a j, ¬ (a = 40 ∧ j = 30) → (zset m 40 0 30 v).1 a 0 j = m.1 a 0 j := fun a j q => by rw [zg_n (by omega)]
  exact PH_mk H H.1 H.2.2.1 H.2.2.2.1 (Rppl_cg (fun _ _ _ _ _ => rfl) (fun t j ht => F _ _ (by omega)) H.2.2.2.2.1) H.2.2.2.2.2.1 H.2.2.2.2.2.2.1 (by rw [F _ _ (by omega)]; exact H.2.2.2.2.2.2.2.1) (by rw [F _ _ (by omega)]; exact H.2.2.2.2.2.2.2.2.1) (fun _ _ _ _ => rfl) rfl (fun a j ha => F _ _ (by omega))
theorem st_worth (c m : zM) (a0 : Int32) (h : Rl c m) : ∃ (r : Int32) (c1 m1 : zM), qG_worth c a0 = some (r, c1) ∧ qM_worth m a0 = some (r, m1) ∧ Rl c1 m1 := by
  obtain ⟨n, rd, bk, ec, tl, ev, h1, h2, h3, h4, h5, h6, h7, h8, h9, h10, h11, h12, h13⟩ := h; obtain ⟨b1, b2, b3, b4, b5, b6⟩ := h1; have h1 : Rb1 n rd bk ec tl ev := ⟨b1, b2, b3, b4, b5, b6⟩; obtain ⟨c1, c2, c3, c4, c5, c6⟩ := h2; have h2 : Rb2 c n rd bk ec tl ev := ⟨c1, c2, c3, c4, c5, c6⟩; obtain ⟨m1, m2, m3, m4, m5, m6, m7⟩ := h3; have h3 : Rb3 m n rd bk ec tl ev := ⟨m1, m2, m3, m4, m5, m6, m7⟩
  have hB : RB c m n rd bk ec tl ev := ⟨h1, h2, h3, h4, h5, h6, h7, h8, h9, h10, h11, h12, h13⟩
  obtain ⟨hh, e, cs, H⟩ := PH_0 hB
  have hn6 := H.2.1
  unfold qG_worth qM_worth
  simp only [zl0, zl1, zl2, zl3, zl4, zl5, zl6, zl7, zl8, zl9, zl10, zl11, zl12, zl13, zl14, zl16, zl18, zl19, zl20, zl22, zl24, zl30, zl32, zl33, zl36, zl38, zl40, zl41, zl48, zl50, zl51, zl57, zl59, zl60, zl61, zl62, zl70, zl71, zl99, zl100, zl103, zl104, zl105, zl106, zl107, zl108, zl109, zl110, zl111, zl112, zl113, zl114, zl115, zl116, zl124, zl127, zl255, zl999, zl1000, zl1001, zl1002, zl1003]
  rcases zcase a0 (n := n) (by omega) with g | ⟨p, hp, rfl⟩
  · rw [zb_n (qP_has_no c1 g), zb_n (qM_isPerson_no m1 (by omega) g)]
    exact ⟨_, c, m, rfl, rfl, n, rd, bk, ec, tl, ev, h1, h2, h3, h4, h5, h6, h7, h8, h9, h10, h11, h12, h13⟩
  rw [zb_y (qP_has_ok c1 hp (by omega)), zb_y (qM_isPerson_ok m1 hp (by omega))]
  obtain ⟨g1, g2, g3, g4, g5, g6, g7, g8, ⟨k, y1, y2⟩, g9⟩ := PH_pp H hp
  have y2 : m.1 41 0 p = nI k := y2
  have g2 : c.1 2 p 1 = nI k := by rw [← y2, ← g2, Nat.mul_zero, Nat.zero_add]
  rw [zchk_e (ze_in (by omega) (by omega)), zchk_e (ze_in (by omega) (by omega)), znm_e, ze_cl (show p < 2 ^ 31 by omega), Nat.zero_add, zjn_e, g2, y2, zchk_e (ze_in (by omega) (by omega))]
  by_cases hk : k = 3 ∨ k = 6
  · have kk : kOf k 3 = true := by rcases hk with q | q <;> rw [q] <;> rfl
    rw [zb_y (isK_y c y1 (by decide) kk)]
    obtain ⟨C', M', A, y, x1, x2, x3, x4, x5⟩ := worth_loop (m := m) (n := n) hp m7 n 0 1000 0 (nI 0) c m (by omega) (by omega) H (FR3_refl m)
    rw [Nat.zero_add] at x2
    have HM : PH c (zset M' 40 0 30 (nI p)) 0 n rd hh e cs := PH_m30 (PH_fr H (FRc_refl c) x5)
    obtain ⟨N, z1, z2⟩ := plain_loop HM hp (zg_e (by omega)) n 0 1000 0 (zset M' 40 0 30 (nI p)) (by omega) (by omega) (FR3_refl _)
    have fk : FK m (zset M' 40 0 30 (nI p)) := fun a j q1 q2 => by rw [zg_n (by omega), x5.2 _ _ _ (by omega) (by omega) (by omega)]
    rw [show bW (zset M' 40 0 30 (nI p)) cs p = bW m cs p from funext fun t => bW_K fk cs p t, Nat.zero_add] at z1
    have ey : y = nI A - nI (smW (bW m cs p) p n 0) := by
      rw [z0add] at x3
      rw [← x3, Int32.add_sub_cancel]
    have fin : FRX m (zset N 40 0 30 (-nI 1)) := ⟨by rw [zg_2, z2.1, zg_2, x5.1], fun a j q1 q2 => by
      by_cases q : a = 40 ∧ j = 30
      · rw [zg_e (by omega), q.1, q.2, m7]
      · rw [zg_n (by omega), z2.2 _ _ _ (by omega) (by omega) (by omega), zg_n (by omega), x5.2 _ _ _ (by omega) (by omega) (by omega)]⟩
    refine ⟨y, C', zset N 40 0 30 (-nI 1), x1, ?_, n, rd, bk, ec, tl, ev, RB_T hB (FRT_c x4) fin⟩
    have tail : zbnd (qM_rightsOf m (nI p)) (fun x7 M6 => znm (zset M6 40 0 30 (nI p)) fun M9 => zbnd (qM_rightsOf M9 (nI p)) fun x11 M10 => znm (zset M10 40 0 30 (-nI 1)) fun M13 => some ((x7 - x11), M13)) = some (y, zset N 40 0 30 (-nI 1)) := by
      have r1 : qM_rightsOf m (nI p) = some (nI A, M') := by unfold qM_rightsOf; simp only [zl0]; exact x2
      have r2 : qM_rightsOf (zset M' 40 0 30 (nI p)) (nI p) = some (nI (smW (bW m cs p) p n 0), N) := by unfold qM_rightsOf; simp only [zl0]; exact z1
      rw [zbnd_c r1, znm_e, zbnd_c r2, znm_e, ey]
    rcases hk with q | q
    · rw [if_pos (by rw [q])]
      exact tail
    · rw [if_neg (znI_ne (by omega) (by omega) (by omega)), if_pos (by rw [q])]
      exact tail
  · have kk : kOf k 3 = false := by
      rcases (show k = 0 ∨ k = 1 ∨ k = 2 ∨ k = 4 ∨ k = 5 by omega) with q | q | q | q | q <;> rw [q] <;> rfl
    rw [zb_n (isK_n c y1 (by decide) kk), if_neg (znI_ne (by omega) (by omega) (by omega)), if_neg (znI_ne (by omega) (by omega) (by omega))]
    exact ⟨_, c, m, rfl, rfl, n, rd, bk, ec, tl, ev, h1, h2, h3, h4, h5, h6, h7, h8, h9, h10, h11, h12, h13⟩
