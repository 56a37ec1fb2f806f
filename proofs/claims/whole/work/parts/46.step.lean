/-! PURE PART: one GUESS on both sides. -/
def chW (w : Nat → Int32) : Nat := if (if w 0 < w 1 then w 1 else w 0) < w 2 then 2 else if w 0 < w 1 then 1 else 0
theorem chW_lt (w : Nat → Int32) : chW w < 3 := by
  unfold chW
  by_cases h : (if w 0 < w 1 then w 1 else w 0) < w 2
  · rw [if_pos h]; decide
  · rw [if_neg h]
    by_cases h2 : w 0 < w 1
    · rw [if_pos h2]; decide
    · rw [if_neg h2]; decide
theorem choice_m {m : zM} {g t : Int32} {w : Nat → Int32} (hW : ∀ M, FR1 58 m M → ∀ p, p < 3 → ∃ M', qM_weightOf M g t (nI p) = some (w p, M') ∧ FR1 58 M M') : ∃ M', qM_choice m g t = some (nI (chW w), M') ∧ FR1 58 m M' := by
  obtain ⟨M0, a1, a2⟩ := hW m (FR1_refl _ _) 0 (by decide)
  obtain ⟨M1, b1, b2⟩ := hW M0 a2 1 (by decide)
  have f1 := FR1_trans a2 b2
  obtain ⟨M2, c1, c2⟩ := hW M1 f1 2 (by decide)
  refine ⟨M2, ?_, FR1_trans f1 c2⟩
  have fin : ∀ F x v, qM_choice_L14 g t (F + 1) M2 (nI x) v (nI 3) = some (nI x, M2) := by
    intro F x v
    unfold qM_choice_L14
    simp only [zl0, zl1, zl2, zl3, zl4, zl5, zl6, zl7, zl8, zl9, zl10, zl11, zl12, zl13, zl14, zl16, zl18, zl19, zl20, zl22, zl24, zl30, zl32, zl33, zl36, zl38, zl40, zl41, zl48, zl50, zl51, zl57, zl59, zl60, zl61, zl62, zl70, zl71, zl99, zl100, zl103, zl104, zl105, zl106, zl107, zl108, zl109, zl110, zl111, zl112, zl113, zl114, zl115, zl116, zl124, zl127, zl255, zl999, zl1000, zl1001, zl1002, zl1003]
    rw [if_pos (nI_le (by omega) (by omega))]
  have s2 : ∀ F x v, qM_choice_L14 g t (F + 2) M1 (nI x) v (nI 2) = some (nI (if v < w 2 then 2 else x), M2) := by
    intro F x v
    have := fin F x v
    have t2 := fin F 2 (w 2)
    generalize h1 : qM_choice_L14 g t (F + 1) M2 (nI x) v (nI 3) = R at this
    generalize h2 : qM_choice_L14 g t (F + 1) M2 (nI 2) (w 2) (nI 3) = R2 at t2
    unfold qM_choice_L14
    simp only [zl0, zl1, zl2, zl3, zl4, zl5, zl6, zl7, zl8, zl9, zl10, zl11, zl12, zl13, zl14, zl16, zl18, zl19, zl20, zl22, zl24, zl30, zl32, zl33, zl36, zl38, zl40, zl41, zl48, zl50, zl51, zl57, zl59, zl60, zl61, zl62, zl70, zl71, zl99, zl100, zl103, zl104, zl105, zl106, zl107, zl108, zl109, zl110, zl111, zl112, zl113, zl114, zl115, zl116, zl124, zl127, zl255, zl999, zl1000, zl1001, zl1002, zl1003]
    rw [if_neg (nI_ge (by omega) (by omega)), zbnd_c c1, zjn_e]
    by_cases e : v < w 2
    · rw [if_pos e, if_pos e, ze_add]
      exact h2.trans t2
    · rw [if_neg e, if_neg e, ze_add]
      exact h1.trans this
  have s1 : ∀ F v, qM_choice_L14 g t (F + 3) M0 (nI 0) v (nI 1) = some (nI (if (if v < w 1 then w 1 else v) < w 2 then 2 else if v < w 1 then 1 else 0), M2) := by
    intro F v
    have t1 := s2 F 0 v
    have t2 := s2 F 1 (w 1)
    generalize h1 : qM_choice_L14 g t (F + 2) M1 (nI 0) v (nI 2) = R at t1
    generalize h2 : qM_choice_L14 g t (F + 2) M1 (nI 1) (w 1) (nI 2) = R2 at t2
    unfold qM_choice_L14
    simp only [zl0, zl1, zl2, zl3, zl4, zl5, zl6, zl7, zl8, zl9, zl10, zl11, zl12, zl13, zl14, zl16, zl18, zl19, zl20, zl22, zl24, zl30, zl32, zl33, zl36, zl38, zl40, zl41, zl48, zl50, zl51, zl57, zl59, zl60, zl61, zl62, zl70, zl71, zl99, zl100, zl103, zl104, zl105, zl106, zl107, zl108, zl109, zl110, zl111, zl112, zl113, zl114, zl115, zl116, zl124, zl127, zl255, zl999, zl1000, zl1001, zl1002, zl1003]
    rw [if_neg (nI_ge (by omega) (by omega)), zbnd_c b1, zjn_e]
    by_cases e : v < w 1
    · rw [if_pos e, if_pos e, if_pos e, ze_add]
      exact h2.trans t2
    · rw [if_neg e, if_neg e, if_neg e, ze_add]
      exact h1.trans t1
  unfold qM_choice
  simp only [zl0, zl1, zl2, zl3, zl4, zl5, zl6, zl7, zl8, zl9, zl10, zl11, zl12, zl13, zl14, zl16, zl18, zl19, zl20, zl22, zl24, zl30, zl32, zl33, zl36, zl38, zl40, zl41, zl48, zl50, zl51, zl57, zl59, zl60, zl61, zl62, zl70, zl71, zl99, zl100, zl103, zl104, zl105, zl106, zl107, zl108, zl109, zl110, zl111, zl112, zl113, zl114, zl115, zl116, zl124, zl127, zl255, zl999, zl1000, zl1001, zl1002, zl1003]
  rw [zbnd_c a1]
  exact s1 997 (w 0)
def updH (hs : Nat → Nat) (x p : Nat) : Nat := if p = x then hs p + 1 else hs p
theorem guesses_m {m : zM} {g : Nat} {t : Int32} {w : Nat → Int32} {hs : Nat → Nat} (hg : g < 6) (hh : ∀ p, p < 3 → m.1 59 0 p = nI (hs p)) (hW : ∀ M, FR1 58 m M → ∀ p, p < 3 → ∃ M', qM_weightOf M (nI g) t (nI p) = some (w p, M') ∧ FR1 58 M M') : ∃ M', qM_guesses m (nI g) t = some ((), M') ∧ FR3 m M' ∧ M'.1 60 0 g = nI (chW w) ∧ (∀ j, j ≠ g → M'.1 60 0 j = m.1 60 0 j) ∧ ∀ p, p < 3 → M'.1 59 0 p = nI (updH hs (chW w) p) := by
  obtain ⟨M, k1, k2⟩ := choice_m hW
  have hx := chW_lt w
  refine ⟨zset (zset M 60 0 g (nI (chW w))) 59 0 (chW w) (nI (hs (chW w) + 1)), ?_, FR3_trans (FR3_trans (FR3_1 k2) (FR3_set _ 60 0 _ _ (by omega))) (FR3_set _ 59 0 _ _ (by omega)), ?_, fun j hj => ?_, fun p hp => ?_⟩
  · unfold qM_guesses
    simp only [zl0, zl1, zl2, zl3, zl4, zl5, zl6, zl7, zl8, zl9, zl10, zl11, zl12, zl13, zl14, zl16, zl18, zl19, zl20, zl22, zl24, zl30, zl32, zl33, zl36, zl38, zl40, zl41, zl48, zl50, zl51, zl57, zl59, zl60, zl61, zl62, zl70, zl71, zl99, zl100, zl103, zl104, zl105, zl106, zl107, zl108, zl109, zl110, zl111, zl112, zl113, zl114, zl115, zl116, zl124, zl127, zl255, zl999, zl1000, zl1001, zl1002, zl1003]
    rw [zbnd_c k1, zchk_e (ze_in hg (by omega)), znm_e, zchk_e (ze_in hg (by omega)), znm_e, ze_cl (show g < 2 ^ 31 by omega), zg_e ⟨rfl, rfl, rfl⟩, zchk_e (ze_in hx (by omega)), zchk_e (ze_in hx (by omega)), ze_cl (show chW w < 2 ^ 31 by omega), znm_e, zg_n (by omega), k2.2 _ _ _ (by decide), hh _ hx, ze_add]
  · rw [zg_n (by omega), zg_e ⟨rfl, rfl, rfl⟩]
  · rw [zg_n (by omega), zg_n (by omega), k2.2 _ _ _ (by decide)]
  · unfold updH
    by_cases e : p = chW w
    · rw [if_pos e, zg_e ⟨rfl, rfl, e⟩, e]
    · rw [if_neg e, zg_n (by omega), zg_n (by omega), k2.2 _ _ _ (by decide), hh p hp]
/-! the reference's WEIGHTS through a GUESS -/
def MG (m : zM) (n rd e t lp : Nat) (cs : List Cl) (hs : Nat → Nat) : Prop := HMd m e cs ∧ (∀ p, p < n → WFp m 41 p) ∧ LPl m t lp ∧ m.1 40 0 0 = nI n ∧ m.1 40 0 1 = nI rd ∧ n ≤ 6 ∧ rd < 5000 ∧ t < n ∧ ∀ p, p < 3 → hs p ≤ 6 ∧ m.1 59 0 p = nI (hs p)
theorem FR3_k {m M : zM} (h : FR3 m M) : ∀ a j, 41 ≤ a → a ≤ 48 → M.1 a 0 j = m.1 a 0 j := fun a j q1 q2 => h.2 a 0 j (by omega) (by omega) (by omega)
theorem MG_F3 {m M : zM} {n rd e t lp : Nat} {cs : List Cl} {hs hs' : Nat → Nat} (h : MG m n rd e t lp cs hs) (hM : FR3 m M) (hh : ∀ p, p < 3 → hs' p ≤ 6 ∧ M.1 59 0 p = nI (hs' p)) : MG M n rd e t lp cs hs' := by
  obtain ⟨h1, h2, h3, h4, h5, h6, h7, h8, h9⟩ := h
  exact ⟨HMd_F3 h1 hM, fun p hp => WFp_cg (h2 p hp) (FR3_k hM), LPl_cg (FR3_k hM) h3, by rw [hM.2 _ _ _ (by decide) (by decide) (by decide), h4], by rw [hM.2 _ _ _ (by decide) (by decide) (by decide), h5], h6, h7, h8, hh⟩
theorem wD_F3 {m M : zM} (h : FR3 m M) (cs : List Cl) (n rd lp g t : Nat) (hs : Nat → Nat) : wD M cs n rd lp g t hs = wD m cs n rd lp g t hs := by
  funext p
  have e1 : kD M g = kD m g := by unfold kD; rw [h.2 _ _ _ (by decide) (by decide) (by decide)]
  have e2 : s2D M t p = s2D m t p := by unfold s2D; rw [h.2 _ _ _ (by decide) (by decide) (by decide), tlm_F3 h]
  have e3 : rwD M rd g p = rwD m rd g p := by unfold rwD; rw [h.2 _ _ _ (by decide) (by decide) (by decide)]
  unfold wD
  rw [e1, e2, e3, dD_F3 h, frD_cg (FR3_k h)]
theorem weights_m {m : zM} {n rd e g t lp : Nat} {cs : List Cl} {hs : Nat → Nat} (h : MG m n rd e t lp cs hs) (hpl : nI g ≠ m.1 40 0 30) (hg : g < n) : ∀ M, FR1 58 m M → ∀ p, p < 3 → ∃ M', qM_weightOf M (nI g) (nI t) (nI p) = some (wD m cs n rd lp g t hs p, M') ∧ FR1 58 M M' := by
  intro M hM p hp
  obtain ⟨h1, h2, h3, h4, h5, h6, h7, h8, h9⟩ := MG_F3 h (FR3_1 hM) (hs' := hs) (fun p hp => ⟨(h.2.2.2.2.2.2.2.2 p hp).1, by rw [hM.2 _ _ _ (by decide)]; exact (h.2.2.2.2.2.2.2.2 p hp).2⟩)
  have := weight_m h1 (h2 t h8) (h2 g hg) h3 h4 h5 h6 h7 (by rw [hM.2 _ _ _ (by decide)]; exact hpl) hg h8 hp h9
  rw [wD_F3 (FR3_1 hM)] at this
  exact this
/-! the class -/
def hcD (m : zM) (cs : List Cl) (g : Nat) : Int32 := if kD m g = 2 ∨ kD m g = 5 then nI (evH cs) else nI 0
def CG (C m : zM) (cs : List Cl) (n rd t lp : Nat) (hs : Nat → Nat) (tk : Nat) : Prop := (∀ g, g < n → g ≠ t → C.1 18 0 g = hcD m cs g ∧ C.1 19 0 g = (if kD m g = 5 then nI 1 else nI 0) ∧ ∀ p, p < 3 → C.1 17 0 (g * 3 + p) = dD m cs g t p + aD m n rd lp g t p) ∧ C.1 16 0 5 = nI lp ∧ C.1 16 0 6 = nI tk ∧ ∀ p, p < 3 → C.1 20 0 p = nI (hs p)
def FRg (C C' : zM) : Prop := C'.2 = C.2 ∧ ∀ a i j, a ≠ 16 → a ≠ 20 → a ≠ 21 → C'.1 a i j = C.1 a i j
theorem FRg_refl (m : zM) : FRg m m := ⟨rfl, fun _ _ _ _ _ _ => rfl⟩
theorem FRg_trans {A B C : zM} (h1 : FRg A B) (h2 : FRg B C) : FRg A C := ⟨h2.1.trans h1.1, fun a i j q1 q2 q3 => (h2.2 a i j q1 q2 q3).trans (h1.2 a i j q1 q2 q3)⟩
theorem FRc_g {A B : zM} (h : FRg A B) : FRc A B := ⟨h.1, fun a i j q => h.2 a i j (by omega) (by omega) (by omega)⟩
theorem FRg_set (m : zM) (k i j : Nat) (v : Int32) (hk : k = 16 ∨ k = 20 ∨ k = 21) : FRg m (zset m k i j v) := ⟨rfl, fun a b c q1 q2 q3 => zg_n (by omega)⟩
theorem z0mul (a : Nat) : nI 0 * nI a = nI 0 := by rw [ze_mul, Nat.zero_mul]
theorem wC_e {m : zM} {cs : List Cl} {n rd lp g t p : Nat} {hs : Nat → Nat} (hk : kD m g < 7) (hp : p < 3) : (if kD m g = 5 ∧ hs 0 + hs 1 + hs 2 ≠ 0 then hcD m cs g * nI (hs p) else hcD m cs g * nI (hs p) + (dD m cs g t p + aD m n rd lp g t p)) = wD m cs n rd lp g t hs p := by
  unfold hcD aD wD
  generalize kD m g = k at hk
  rcases (show k = 0 ∨ k = 1 ∨ k = 2 ∨ k = 3 ∨ k = 4 ∨ k = 5 ∨ k = 6 by omega) with rfl | rfl | rfl | rfl | rfl | rfl | rfl
  · simp only [Nat.reduceEqDiff, false_and, if_false, false_or, or_false, true_and, if_true, z0mul, z0add, zadd0]
  · simp only [Nat.reduceEqDiff, false_and, if_false, false_or, or_false, true_and, if_true, z0mul, z0add, zadd0]
  · simp only [Nat.reduceEqDiff, false_and, if_false, false_or, or_false, true_and, if_true, z0mul, z0add, zadd0]
    rw [Int32.add_comm]
  · simp only [Nat.reduceEqDiff, false_and, if_false, false_or, or_false, true_and, if_true, z0mul, z0add, zadd0]
  · simp only [Nat.reduceEqDiff, false_and, if_false, false_or, or_false, true_and, if_true, z0mul, z0add, zadd0]
    rw [Int32.add_assoc]
  · by_cases h : hs 0 + hs 1 + hs 2 = 0
    · have : hs p = 0 := by
        rcases (show p = 0 ∨ p = 1 ∨ p = 2 by omega) with rfl | rfl | rfl <;> omega
      rw [if_neg (fun q => q.2 h), this]
      simp only [Nat.reduceEqDiff, false_and, if_false, false_or, or_false, true_and, if_true, z0mul, z0add, zadd0, h, ze_mul, Nat.mul_zero]
    · rw [if_pos ⟨rfl, h⟩]
      simp only [Nat.reduceEqDiff, false_and, if_false, false_or, or_false, true_and, if_true, z0mul, z0add, zadd0, h]
  · simp only [Nat.reduceEqDiff, false_and, if_false, false_or, or_false, true_and, if_true, z0mul, z0add, zadd0]
    rw [Int32.add_assoc]
theorem let_step {C : zM} {g s p F : Nat} {v3 v4 w : Int32} {e : zM → Int32 → Option (Int32 × zM)} {R : Option (Int32 × zM)} (hg : g < 6) (hs : s < 2) (hp : p < 3) (hw : (if s = 0 then C.1 18 0 g * C.1 20 0 p + C.1 17 0 (g * 3 + p) else C.1 18 0 g * C.1 20 0 p) = w) (hR : qY_letGuess_L46 (nI g) (nI s) e F C (if p = 0 ∨ v4 < w then nI p else v3) (if p = 0 ∨ v4 < w then w else v4) (nI (p + 1)) = R) : qY_letGuess_L46 (nI g) (nI s) e (F + 1) C v3 v4 (nI p) = R := by
  unfold qY_letGuess_L46
  simp only [zl0, zl1, zl2, zl3, zl4, zl5, zl6, zl7, zl8, zl9, zl10, zl11, zl12, zl13, zl14, zl16, zl18, zl19, zl20, zl22, zl24, zl30, zl32, zl33, zl36, zl38, zl40, zl41, zl48, zl50, zl51, zl57, zl59, zl60, zl61, zl62, zl70, zl71, zl99, zl100, zl103, zl104, zl105, zl106, zl107, zl108, zl109, zl110, zl111, zl112, zl113, zl114, zl115, zl116, zl124, zl127, zl255, zl999, zl1000, zl1001, zl1002, zl1003]
  rw [if_neg (nI_ge (by omega) (by omega)), zchk_e (ze_in hg (by omega)), zchk_e (ze_in hp (by omega)), znm_e, ze_cl (show g < 2 ^ 31 by omega), ze_cl (show p < 2 ^ 31 by omega)]
  have fin : ∀ x, x = w → (if nI p = nI 0 then qY_letGuess_L46 (nI g) (nI s) e F C (nI p) x (nI p + nI 1) else if x ≤ v4 then qY_letGuess_L46 (nI g) (nI s) e F C v3 v4 (nI p + nI 1) else qY_letGuess_L46 (nI g) (nI s) e F C (nI p) x (nI p + nI 1)) = R := by
    intro x hx
    rw [hx, ze_add]
    by_cases h0 : p = 0
    · rw [if_pos (by rw [h0])]
      rw [if_pos (Or.inl h0), if_pos (Or.inl h0)] at hR
      exact hR
    · rw [if_neg (znI_ne (by omega) (by omega) h0)]
      by_cases h1 : w ≤ v4
      · rw [if_pos h1]
        rw [if_neg (by rintro (q | q); exact h0 q; exact Int32.not_lt.mpr h1 q), if_neg (by rintro (q | q); exact h0 q; exact Int32.not_lt.mpr h1 q)] at hR
        exact hR
      · rw [if_neg h1]
        rw [if_pos (Or.inr (Int32.not_le.mp h1)), if_pos (Or.inr (Int32.not_le.mp h1))] at hR
        exact hR
  simp only [zjn_e]
  by_cases e0 : s = 0
  · rw [if_pos e0] at hw
    rw [if_pos (by rw [e0]), ze_mul, ze_add, zchk_e (ze_in (by omega) (by omega)), ze_cl (show g * 3 + p < 2 ^ 31 by omega), znm_e]
    exact fin _ hw
  · rw [if_neg e0] at hw
    rw [if_neg (znI_ne (by omega) (by omega) e0)]
    exact fin _ hw
theorem let_loop {C : zM} {g s F : Nat} {W : Nat → Int32} {e : zM → Int32 → Option (Int32 × zM)} (hg : g < 6) (hs : s < 2) (hw : ∀ p, p < 3 → (if s = 0 then C.1 18 0 g * C.1 20 0 p + C.1 17 0 (g * 3 + p) else C.1 18 0 g * C.1 20 0 p) = W p) {R : Option (Int32 × zM)} (hR : e C (nI (chW W)) = R) : qY_letGuess_L46 (nI g) (nI s) e (F + 4) C (nI 0) (nI 0) (nI 0) = R := by
  have fin : ∀ x v R, e C x = R → qY_letGuess_L46 (nI g) (nI s) e (F + 1) C x v (nI 3) = R := by
    intro x v R h
    unfold qY_letGuess_L46
    simp only [zl0, zl1, zl2, zl3, zl4, zl5, zl6, zl7, zl8, zl9, zl10, zl11, zl12, zl13, zl14, zl16, zl18, zl19, zl20, zl22, zl24, zl30, zl32, zl33, zl36, zl38, zl40, zl41, zl48, zl50, zl51, zl57, zl59, zl60, zl61, zl62, zl70, zl71, zl99, zl100, zl103, zl104, zl105, zl106, zl107, zl108, zl109, zl110, zl111, zl112, zl113, zl114, zl115, zl116, zl124, zl127, zl255, zl999, zl1000, zl1001, zl1002, zl1003]
    rw [if_pos (nI_le (by omega) (by omega))]
    exact h
  refine let_step hg hs (show 0 < 3 by decide) (hw 0 (by decide)) ?_
  rw [if_pos (Or.inl rfl), if_pos (Or.inl rfl)]
  refine let_step hg hs (show 1 < 3 by decide) (hw 1 (by decide)) ?_
  refine let_step hg hs (show 2 < 3 by decide) (hw 2 (by decide)) ?_
  refine fin _ _ _ ?_
  simp only [Nat.reduceEqDiff, false_or]
  unfold chW at hR
  by_cases h1 : W 0 < W 1
  · rw [if_pos h1] at hR
    simp only [if_pos h1] at hR ⊢
    by_cases h2 : W 1 < W 2
    · rw [if_pos h2] at hR ⊢; exact hR
    · rw [if_neg h2] at hR ⊢; exact hR
  · rw [if_neg h1] at hR
    simp only [if_neg h1] at hR ⊢
    by_cases h2 : W 0 < W 2
    · rw [if_pos h2] at hR ⊢; exact hR
    · rw [if_neg h2] at hR ⊢; exact hR
theorem let_c {C m : zM} {cs : List Cl} {n rd g t lp tk : Nat} {hs : Nat → Nat} (hC : CG C m cs n rd t lp hs tk) (hv : WFp m 41 g) (hg : g < n) (hn6 : n ≤ 6) (hgt : g ≠ t) (hlp : lp < 3) (hb : ∀ p, p < 3 → hs p ≤ 6) : ∃ C', qY_letGuess C (nI g) = some (nI (chW (wD m cs n rd lp g t hs)), C') ∧ CG C' m cs n rd t lp (updH hs (chW (wD m cs n rd lp g t hs))) (tk + if chW (wD m cs n rd lp g t hs) = lp then 0 else 1) ∧ FRg C C' ∧ C'.1 21 0 g = nI (chW (wD m cs n rd lp g t hs)) ∧ ∀ j, j ≠ g → C'.1 21 0 j = C.1 21 0 j := by
  obtain ⟨c1, c2, c3, c4⟩ := hC
  obtain ⟨r1, r2, r3⟩ := c1 g hg hgt
  have hk : kD m g < 7 := by
    obtain ⟨⟨k, y1, y2⟩, z⟩ := hv
    have y2 : m.1 41 0 g = nI k := y2
    unfold kD
    rw [y2, ze_cl (by omega)]
    exact y1
  have b0 := hb 0 (by decide)
  have b1 := hb 1 (by decide)
  have b2 := hb 2 (by decide)
  have hW : ∀ p, p < 3 → (if (if kD m g = 5 ∧ hs 0 + hs 1 + hs 2 ≠ 0 then 1 else 0) = 0 then C.1 18 0 g * C.1 20 0 p + C.1 17 0 (g * 3 + p) else C.1 18 0 g * C.1 20 0 p) = wD m cs n rd lp g t hs p := by
    intro p hp
    rw [← wC_e hk hp, r1, c4 p hp, r3 p hp]
    by_cases h : kD m g = 5 ∧ hs 0 + hs 1 + hs 2 ≠ 0
    · rw [if_pos h, if_neg (by decide), if_pos h]
    · rw [if_neg h, if_pos rfl, if_neg h]
  generalize hw : wD m cs n rd lp g t hs = W at hW
  have hx := chW_lt W
  generalize hX : chW W = x at hx
  let C1 := zset (zset C 21 0 g (nI x)) 20 0 x (nI (hs x + 1))
  have e20 : ∀ p, p < 3 → C1.1 20 0 p = nI (updH hs x p) := by
    intro p hp
    unfold updH
    by_cases e : p = x
    · rw [if_pos e, zg_e ⟨rfl, rfl, e⟩, e]
    · rw [if_neg e, zg_n (by omega), zg_n (by omega), c4 p hp]
  have f1 : FRg C C1 := FRg_trans (FRg_set _ 21 _ _ _ (by omega)) (FRg_set _ 20 _ _ _ (by omega))
  have rows : ∀ C', FRg C C' → ∀ g, g < n → g ≠ t → C'.1 18 0 g = hcD m cs g ∧ C'.1 19 0 g = (if kD m g = 5 then nI 1 else nI 0) ∧ ∀ p, p < 3 → C'.1 17 0 (g * 3 + p) = dD m cs g t p + aD m n rd lp g t p := by
    intro C' hf g hg hgt
    obtain ⟨r1, r2, r3⟩ := c1 g hg hgt
    exact ⟨by rw [hf.2 _ _ _ (by decide) (by decide) (by decide), r1], by rw [hf.2 _ _ _ (by decide) (by decide) (by decide), r2], fun p hp => by rw [hf.2 _ _ _ (by decide) (by decide) (by decide), r3 p hp]⟩
  have main : ∀ R, (if nI x = C1.1 16 0 5 then some (nI x, C1) else some (nI x, zset C1 16 0 6 (C1.1 16 0 6 + nI 1))) = R → qY_letGuess C (nI g) = R := by
    intro R hR
    unfold qY_letGuess
    simp only [zl0, zl1, zl2, zl3, zl4, zl5, zl6, zl7, zl8, zl9, zl10, zl11, zl12, zl13, zl14, zl16, zl18, zl19, zl20, zl22, zl24, zl30, zl32, zl33, zl36, zl38, zl40, zl41, zl48, zl50, zl51, zl57, zl59, zl60, zl61, zl62, zl70, zl71, zl99, zl100, zl103, zl104, zl105, zl106, zl107, zl108, zl109, zl110, zl111, zl112, zl113, zl114, zl115, zl116, zl124, zl127, zl255, zl999, zl1000, zl1001, zl1002, zl1003]
    rw [zchk_e (ze_in (by omega) (by omega)), ze_cl (show g < 2 ^ 31 by omega), r2]
    have tail : ∀ s, s < 2 → (∀ p, p < 3 → (if s = 0 then C.1 18 0 g * C.1 20 0 p + C.1 17 0 (g * 3 + p) else C.1 18 0 g * C.1 20 0 p) = W p) → qY_letGuess_L46 (nI g) (nI s) (fun (M15 : zM) (x16 : Int32) => zchk (zin (nI g) 6) (znm (zset M15 21 0 g x16) fun M17 => zchk (zin x16 3) (zchk (zin x16 3) (znm (zset M17 20 0 x16.toNatClampNeg ((M17.1 20 0 x16.toNatClampNeg) + nI 1)) fun M18 => if x16 = (M18.1 16 0 5) then (some (x16, M18)) else (znm (zset M18 16 0 6 ((M18.1 16 0 6) + nI 1)) fun M19 => some (x16, M19)))))) (996 + 4) C (nI 0) (nI 0) (nI 0) = R := by
      intro s hss hWs
      refine let_loop (by omega) hss hWs ?_
      have e20x : (zset C 21 0 g (nI x)).1 20 0 x = nI (hs x) := by rw [zg_n (by omega), c4 x hx]
      rw [hX, zchk_e (ze_in (by omega) (by omega)), znm_e, zchk_e (ze_in hx (by omega)), zchk_e (ze_in hx (by omega)), ze_cl (show x < 2 ^ 31 by omega), e20x, znm_e, ze_add]
      exact hR
    simp only [zjn_e]
    by_cases h5 : kD m g = 5
    · rw [if_pos h5, if_neg (znI_ne (by omega) (by omega) (by omega)), zchk_e (ze_in (by omega) (by omega)), zchk_e (ze_in (by omega) (by omega)), zchk_e (ze_in (by omega) (by omega)), ze_cl (by omega), ze_cl (by omega), ze_cl (by omega), c4 0 (by decide), c4 1 (by decide), c4 2 (by decide), ze_add, ze_add]
      by_cases h0 : hs 0 + hs 1 + hs 2 = 0
      · rw [if_pos (nI_le (by omega) (by omega))]
        refine tail 0 (by decide) (fun p hp => ?_)
        rw [← hW p hp, if_neg (show ¬ (kD m g = 5 ∧ hs 0 + hs 1 + hs 2 ≠ 0) from fun q => q.2 h0)]
      · rw [if_neg (nI_ge (by omega) (by omega))]
        refine tail 1 (by decide) (fun p hp => ?_)
        rw [← hW p hp, if_pos (show kD m g = 5 ∧ hs 0 + hs 1 + hs 2 ≠ 0 from ⟨h5, h0⟩)]
    · rw [if_neg h5, if_pos rfl]
      refine tail 0 (by decide) (fun p hp => ?_)
      rw [← hW p hp, if_neg (show ¬ (kD m g = 5 ∧ hs 0 + hs 1 + hs 2 ≠ 0) from fun q => h5 q.1)]
  have e16 : C1.1 16 0 5 = nI lp := by rw [zg_n (by omega), zg_n (by omega), c2]
  have e166 : C1.1 16 0 6 = nI tk := by rw [zg_n (by omega), zg_n (by omega), c3]
  by_cases e : x = lp
  · rw [if_pos e]
    refine ⟨C1, main _ (by rw [e16, if_pos (by rw [e])]), ⟨rows C1 f1, e16, e166, e20⟩, f1, ?_, fun j hj => ?_⟩
    · rw [zg_n (by omega), zg_e ⟨rfl, rfl, rfl⟩]
    · rw [zg_n (by omega), zg_n (by omega)]
  · rw [if_neg e]
    have f2 : FRg C (zset C1 16 0 6 (nI (tk + 1))) := FRg_trans f1 (FRg_set _ 16 _ _ _ (by omega))
    refine ⟨zset C1 16 0 6 (nI (tk + 1)), main _ (by rw [e16, e166, if_neg (znI_ne (by omega) (by omega) e), ze_add]), ⟨rows _ f2, ?_, zg_e ⟨rfl, rfl, rfl⟩, fun p hp => by rw [zg_n (by omega)]; exact e20 p hp⟩, f2, ?_, fun j hj => ?_⟩
    · rw [zg_n (by omega)]; exact e16
    · rw [zg_n (by omega), zg_n (by omega), zg_e ⟨rfl, rfl, rfl⟩]
    · rw [zg_n (by omega), zg_n (by omega), zg_n (by omega)]
