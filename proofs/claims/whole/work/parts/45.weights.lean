/-! PURE PART: WEIGHTS on both sides. -/
def kD (m : zM) (g : Nat) : Nat := (m.1 41 0 g).toNatClampNeg
def vD (m : zM) (g : Nat) : Nat := (m.1 42 0 g).toNatClampNeg
def s2D (m : zM) (t p : Nat) : Int32 := nI 2 * m.1 46 0 (3 * t + tlm m t p)
def frD (m : zM) (n lp g t p : Nat) : Int32 := if t = vD m g % n then (if p = lp then nI 5 * nI (vD m g) else nI 0) else nI 0
def rwD (m : zM) (rd g p : Nat) : Int32 := if m.1 48 0 (4 * g + rd % 4) = nI p then nI 40 else nI 0
def wD (m : zM) (cs : List Cl) (n rd lp g t : Nat) (hs : Nat → Nat) (p : Nat) : Int32 :=
  if kD m g = 1 then dD m cs g t p + s2D m t p
  else if kD m g = 2 then dD m cs g t p + nI (evH cs) * nI (hs p)
  else if kD m g = 3 then dD m cs g t p + frD m n lp g t p
  else if kD m g = 4 then dD m cs g t p + s2D m t p + (if p = 2 then nI 30 else nI 0)
  else if kD m g = 5 then (if hs 0 + hs 1 + hs 2 = 0 then dD m cs g t p else nI (evH cs) * nI (hs p))
  else if kD m g = 6 then dD m cs g t p + frD m n lp g t p + rwD m rd g p
  else dD m cs g t p
/-- where the lie lies -/
def LPl (m : zM) (t lp : Nat) : Prop := lp < 3 ∧ m.1 47 0 (3 * t + lp) = m.1 44 0 t ∧ ∀ p, p < lp → m.1 47 0 (3 * t + p) ≠ m.1 44 0 t
theorem LPl_ex {m : zM} {t : Nat} (h : WFp m 41 t) : ∃ lp, LPl m t lp := by
  obtain ⟨q1, q2, ⟨l, l1, l2⟩, q4, q5, ⟨a, b, d, g1, g2, g3, g4, g5, g6, g7, g8, g9⟩, q7⟩ := h
  have l2 : m.1 44 0 t = nI l := l2
  have g7 : m.1 47 0 (3 * t + 0) = nI a := g7
  have g8 : m.1 47 0 (3 * t + 1) = nI b := g8
  have g9 : m.1 47 0 (3 * t + 2) = nI d := g9
  by_cases h0 : a = l
  · exact ⟨0, by decide, by rw [g7, l2, h0], fun p hp => absurd hp (Nat.not_lt_zero _)⟩
  by_cases h1 : b = l
  · refine ⟨1, by decide, by rw [g8, l2, h1], fun p hp => ?_⟩
    rw [show p = 0 by omega, g7, l2]
    exact znI_ne (by omega) (by omega) h0
  · refine ⟨2, by decide, by rw [g9, l2, show d = l by omega], fun p hp => ?_⟩
    rcases (show p = 0 ∨ p = 1 by omega) with rfl | rfl
    · rw [g7, l2]; exact znI_ne (by omega) (by omega) h0
    · rw [g8, l2]; exact znI_ne (by omega) (by omega) h1
theorem liePlace_m {m : zM} {t lp : Nat} (h : LPl m t lp) (ht : t < 6) : qM_liePlace m (nI t) = some (nI lp, m) := by
  obtain ⟨h1, h2, h3⟩ := h
  have step : ∀ p F, p < 3 → p ≤ lp → qM_liePlace_L2 (nI t) (F + 1) m (nI p) = if p = lp then some (nI p, m) else qM_liePlace_L2 (nI t) F m (nI (p + 1)) := by
    intro p F hp hl
    generalize hR : qM_liePlace_L2 (nI t) F m (nI (p + 1)) = R
    unfold qM_liePlace_L2
    simp only [zl0, zl1, zl2, zl3, zl4, zl5, zl6, zl7, zl8, zl9, zl10, zl11, zl12, zl13, zl14, zl16, zl18, zl19, zl20, zl22, zl24, zl30, zl32, zl33, zl36, zl38, zl40, zl41, zl48, zl50, zl51, zl57, zl59, zl60, zl61, zl62, zl70, zl71, zl99, zl100, zl103, zl104, zl105, zl106, zl107, zl108, zl109, zl110, zl111, zl112, zl113, zl114, zl115, zl116, zl124, zl127, zl255, zl999, zl1000, zl1001, zl1002, zl1003]
    rw [ze_mul, ze_add, zchk_e (ze_in (show 3 * t + p < 18 by omega) (by omega)), zchk_e (ze_in ht (by omega)), ze_cl (show 3 * t + p < 2 ^ 31 by omega), ze_cl (show t < 2 ^ 31 by omega)]
    by_cases e : p = lp
    · rw [if_pos e, if_pos (by rw [e]; exact h2)]
    · rw [if_neg e, if_neg (h3 p (by omega)), ze_add, hR]
  unfold qM_liePlace
  simp only [zl0, zl1, zl2, zl3, zl4, zl5, zl6, zl7, zl8, zl9, zl10, zl11, zl12, zl13, zl14, zl16, zl18, zl19, zl20, zl22, zl24, zl30, zl32, zl33, zl36, zl38, zl40, zl41, zl48, zl50, zl51, zl57, zl59, zl60, zl61, zl62, zl70, zl71, zl99, zl100, zl103, zl104, zl105, zl106, zl107, zl108, zl109, zl110, zl111, zl112, zl113, zl114, zl115, zl116, zl124, zl127, zl255, zl999, zl1000, zl1001, zl1002, zl1003]
  rw [show (1000 : Nat) = 999 + 1 from rfl, step 0 999 (by decide) (by omega)]
  by_cases e0 : 0 = lp
  · rw [if_pos e0, e0]
  rw [if_neg e0, show (999 : Nat) = 998 + 1 from rfl, step 1 998 (by decide) (by omega)]
  by_cases e1 : 1 = lp
  · rw [if_pos e1, e1]
  rw [if_neg e1, show (998 : Nat) = 997 + 1 from rfl, step 2 997 (by decide) (by omega), if_pos (by omega), show 2 = lp by omega]
theorem placeOfLie_c {c m : zM} {i t lp : Nat} (h : LPl m t lp) (k4 : c.1 2 i 4 = m.1 44 0 t) (k6 : ∀ p, p < 3 → c.1 5 i p = m.1 47 0 (3 * t + p)) : qN_placeOfLie c i = some (nI lp, c) := by
  obtain ⟨h1, h2, h3⟩ := h
  unfold qN_placeOfLie
  simp only [zl0, zl1, zl2, zl3, zl4, zl5, zl6, zl7, zl8, zl9, zl10, zl11, zl12, zl13, zl14, zl16, zl18, zl19, zl20, zl22, zl24, zl30, zl32, zl33, zl36, zl38, zl40, zl41, zl48, zl50, zl51, zl57, zl59, zl60, zl61, zl62, zl70, zl71, zl99, zl100, zl103, zl104, zl105, zl106, zl107, zl108, zl109, zl110, zl111, zl112, zl113, zl114, zl115, zl116, zl124, zl127, zl255, zl999, zl1000, zl1001, zl1002, zl1003]
  rw [zchk_e (ze_in (by omega) (by omega)), zchk_e (ze_in (by omega) (by omega)), ze_cl (by omega), ze_cl (by omega), k6 0 (by decide), k6 1 (by decide), k4]
  rcases (show lp = 0 ∨ lp = 1 ∨ lp = 2 by omega) with rfl | rfl | rfl
  · rw [if_pos h2]
  · rw [if_neg (h3 0 (by decide)), if_pos h2]
  · rw [if_neg (h3 0 (by decide)), if_neg (h3 1 (by decide))]
theorem friendly_m {m : zM} {n g t p lp : Nat} (hl : LPl m t lp) (hw : WFp m 41 g) (hn : m.1 40 0 0 = nI n) (hn6 : n ≤ 6) (hg : g < n) (ht : t < n) (hp : p < 3) : qM_friendly m (nI g) (nI t) (nI p) = some (frD m n lp g t p, m) := by
  obtain ⟨q1, ⟨v, v1, v2⟩, q3⟩ := hw
  have v2 : m.1 42 0 g = nI v := v2
  have ev : vD m g = v := by unfold vD; rw [v2, ze_cl (by omega)]
  have hm : v % n < n := Nat.mod_lt _ (by omega)
  unfold qM_friendly frD
  simp only [zl0, zl1, zl2, zl3, zl4, zl5, zl6, zl7, zl8, zl9, zl10, zl11, zl12, zl13, zl14, zl16, zl18, zl19, zl20, zl22, zl24, zl30, zl32, zl33, zl36, zl38, zl40, zl41, zl48, zl50, zl51, zl57, zl59, zl60, zl61, zl62, zl70, zl71, zl99, zl100, zl103, zl104, zl105, zl106, zl107, zl108, zl109, zl110, zl111, zl112, zl113, zl114, zl115, zl116, zl124, zl127, zl255, zl999, zl1000, zl1001, zl1002, zl1003]
  rw [zchk_e (ze_in (show g < 6 by omega) (by omega)), hn, zchk_e (ze_nz (by omega) (by omega)), ze_cl (show g < 2 ^ 31 by omega), v2, ze_rem (by omega) (by omega) (by omega), ev]
  by_cases e : t = v % n
  · rw [if_pos e, if_pos (by rw [← e]), zbnd_c (liePlace_m hl (by omega))]
    by_cases e2 : p = lp
    · rw [if_pos e2, if_pos (by rw [e2]), zchk_e (ze_in (show g < 6 by omega) (by omega)), v2]
    · have := hl.1
      rw [if_neg e2, if_neg (znI_ne (by omega) (by omega) e2)]
  · rw [if_neg e, if_neg (znI_ne (by omega) (by omega) e)]
theorem frD_cg {m M : zM} (h : ∀ a j, 41 ≤ a → a ≤ 48 → M.1 a 0 j = m.1 a 0 j) (n lp g t p : Nat) : frD M n lp g t p = frD m n lp g t p := by
  unfold frD vD
  rw [h 42 _ (by decide) (by decide)]
theorem LPl_cg {m M : zM} {t lp : Nat} (h : ∀ a j, 41 ≤ a → a ≤ 48 → M.1 a 0 j = m.1 a 0 j) (hl : LPl m t lp) : LPl M t lp := by
  unfold LPl at hl ⊢
  simp only [h 44 _ (by decide) (by decide), h 47 _ (by decide) (by decide)]
  exact hl
theorem weight_m {m : zM} {n rd e g t p lp : Nat} {cs : List Cl} {hs : Nat → Nat} (h : HMd m e cs) (hw : WFp m 41 t) (hv : WFp m 41 g) (hl : LPl m t lp) (hn : m.1 40 0 0 = nI n) (hr : m.1 40 0 1 = nI rd) (hn6 : n ≤ 6) (hrd : rd < 5000) (hpl : nI g ≠ m.1 40 0 30) (hg : g < n) (ht : t < n) (hp : p < 3) (hh : ∀ p, p < 3 → hs p ≤ 6 ∧ m.1 59 0 p = nI (hs p)) : ∃ M', qM_weightOf m (nI g) (nI t) (nI p) = some (wD m cs n rd lp g t hs p, M') ∧ FR1 58 m M' := by
  obtain ⟨M, k1, k2⟩ := doubt_m h hw (show g < 6 by omega) (show t < 6 by omega) hp
  refine ⟨M, ?_, k2⟩
  have F3 : FR3 m M := FR3_1 k2
  have F : ∀ a i j, a ≠ 58 → M.1 a i j = m.1 a i j := k2.2
  have FF : ∀ a j, 41 ≤ a → a ≤ 48 → M.1 a 0 j = m.1 a 0 j := fun a j q1 q2 => k2.2 a 0 j (by omega)
  obtain ⟨x1, x2⟩ := tl_wf hw hp
  obtain ⟨⟨k, y1, y2⟩, z2, z3, z4, z5, z6, z7⟩ := hv
  have y2 : m.1 41 0 g = nI k := y2
  have ek : kD m g = k := by unfold kD; rw [y2, ze_cl (by omega)]
  have fr := friendly_m (p := p) (LPl_cg FF hl) (WFp_cg ⟨⟨k, y1, y2⟩, z2, z3, z4, z5, z6, z7⟩ FF) (by rw [F _ _ _ (by decide), hn]) hn6 hg ht hp
  rw [frD_cg FF] at fr
  have hr4 : rd % 4 < 4 := Nat.mod_lt _ (by decide)
  obtain ⟨r, r1, r2⟩ := z7 (rd % 4) hr4
  have r2 : m.1 48 0 (4 * g + rd % 4) = nI r := r2
  have nn : ∀ j, j < 7 → k ≠ j → ¬ nI k = nI j := fun j hj h => znI_ne (by omega) (by omega) h
  unfold qM_weightOf
  simp only [zl0, zl1, zl2, zl3, zl4, zl5, zl6, zl7, zl8, zl9, zl10, zl11, zl12, zl13, zl14, zl16, zl18, zl19, zl20, zl22, zl24, zl30, zl32, zl33, zl36, zl38, zl40, zl41, zl48, zl50, zl51, zl57, zl59, zl60, zl61, zl62, zl70, zl71, zl99, zl100, zl103, zl104, zl105, zl106, zl107, zl108, zl109, zl110, zl111, zl112, zl113, zl114, zl115, zl116, zl124, zl127, zl255, zl999, zl1000, zl1001, zl1002, zl1003]
  rw [zbnd_c k1, F 40 0 30 (by decide), if_neg hpl, ze_mul, ze_add, zchk_e (ze_in (show 3 * t + p < 18 by omega) (by omega)), ze_cl (show 3 * t + p < 2 ^ 31 by omega), F 47 _ _ (by decide), x2, ze_add, zchk_e (ze_in (show 3 * t + tlm m t p < 18 by omega) (by omega)), znm_e, ze_cl (show 3 * t + tlm m t p < 2 ^ 31 by omega), F 46 _ _ (by decide), zbnd_c (handsNow_e (HMd_F3 h F3)), zchk_e (ze_in hp (by omega)), ze_cl (show p < 2 ^ 31 by omega), znm_e, zchk_e (ze_in (show g < 6 by omega) (by omega)), znm_e, ze_cl (show g < 2 ^ 31 by omega), F 41 _ _ (by decide), y2]
  unfold wD
  rw [ek]
  rcases (show k = 0 ∨ k = 1 ∨ k = 2 ∨ k = 3 ∨ k = 4 ∨ k = 5 ∨ k = 6 by omega) with rfl | rfl | rfl | rfl | rfl | rfl | rfl
  · simp (disch := omega) only [↓reduceIte, ze_eqt, ze_eqf, if_true, if_false, Nat.reduceEqDiff]
  · simp (disch := omega) only [↓reduceIte, ze_eqt, ze_eqf, if_true, if_false, Nat.reduceEqDiff]
    rfl
  · simp (disch := omega) only [↓reduceIte, ze_eqt, ze_eqf, if_true, if_false, Nat.reduceEqDiff]
    rw [F 59 _ _ (by decide), (hh p hp).2]
  · simp (disch := omega) only [↓reduceIte, ze_eqt, ze_eqf, if_true, if_false, Nat.reduceEqDiff]
    rw [zbnd_c fr]
  · simp (disch := omega) only [↓reduceIte, ze_eqt, ze_eqf, if_true, if_false, Nat.reduceEqDiff]
    by_cases e2 : p = 2
    · rw [if_pos e2, if_pos (by rw [e2])]; rfl
    · rw [if_neg e2, if_neg (znI_ne (by omega) (by omega) e2)]; rfl
  · simp (disch := omega) only [↓reduceIte, ze_eqt, ze_eqf, if_true, if_false, Nat.reduceEqDiff]
    rw [zchk_e (ze_in (by omega) (by omega)), zchk_e (ze_in (by omega) (by omega)), zchk_e (ze_in (by omega) (by omega)), ze_cl (by omega), ze_cl (by omega), ze_cl (by omega), F 59 _ _ (by decide), F 59 _ _ (by decide), F 59 _ _ (by decide), F 59 _ _ (by decide), (hh 0 (by decide)).2, (hh 1 (by decide)).2, (hh 2 (by decide)).2, (hh p hp).2, ze_add, ze_add]
    have h0 := (hh 0 (by decide)).1
    have h1 := (hh 1 (by decide)).1
    have h2 := (hh 2 (by decide)).1
    by_cases e2 : hs 0 + hs 1 + hs 2 = 0
    · rw [if_pos e2, if_pos (nI_le (by omega) (by omega))]
    · rw [if_neg e2, if_neg (nI_ge (by omega) (by omega))]
  · simp (disch := omega) only [↓reduceIte, ze_eqt, ze_eqf, if_true, if_false, Nat.reduceEqDiff]
    rw [zbnd_c fr, F 40 0 1 (by decide), hr, ze_mul, ze_rem (by omega) (by omega) (by omega), ze_add, zchk_e (ze_in (show 4 * g + rd % 4 < 24 by omega) (by omega)), ze_cl (show 4 * g + rd % 4 < 2 ^ 31 by omega), F 48 _ _ (by decide)]
    unfold rwD
    by_cases e2 : m.1 48 0 (4 * g + rd % 4) = nI p
    · rw [if_pos e2, if_pos e2.symm]
    · rw [if_neg e2, if_neg (fun q => e2 q.symm)]
/-! the class -/
theorem isK_y (M : zM) {k j : Nat} (hk : k < 7) (hj : j < 7) (h : kOf k j = true) : qG_isOfKind M (nI k) (nI j) = some (nI 1, M) := by
  rw [qG_isOfKind_e M hk hj, h, if_pos rfl]
theorem isK_n (M : zM) {k j : Nat} (hk : k < 7) (hj : j < 7) (h : kOf k j = false) : qG_isOfKind M (nI k) (nI j) = some (nI 0, M) := by
  rw [qG_isOfKind_e M hk hj, h, if_neg (by decide)]
def aD (m : zM) (n rd lp g t p : Nat) : Int32 :=
  if kD m g = 1 then s2D m t p
  else if kD m g = 3 then frD m n lp g t p
  else if kD m g = 4 then s2D m t p + (if p = 2 then nI 30 else nI 0)
  else if kD m g = 6 then frD m n lp g t p + rwD m rd g p
  else nI 0
theorem zadd0 (a : Int32) : a + nI 0 = a := by rw [nI_0]; exact Int32.add_zero a
theorem z0add (a : Int32) : nI 0 + a = a := by rw [nI_0]; exact Int32.zero_add a
theorem knows_c {c m : zM} {n g t i1 i2 : Nat} (hv : WFp m 41 g) (hn6 : n ≤ 6) (ht : t < n) (k2 : c.1 2 i1 2 = m.1 42 0 g) (k3 : c.1 2 i2 0 = nI t) : qY_knows c i1 i2 (nI n) = some (if t = vD m g % n then nI 1 else nI 0, c) := by
  obtain ⟨q1, ⟨v, v1, v2⟩, q3⟩ := hv
  have v2 : m.1 42 0 g = nI v := v2
  have ev : vD m g = v := by unfold vD; rw [v2, ze_cl (by omega)]
  have hm : v % n < n := Nat.mod_lt _ (by omega)
  unfold qY_knows
  simp only [zl0, zl1, zl2, zl3, zl4, zl5, zl6, zl7, zl8, zl9, zl10, zl11, zl12, zl13, zl14, zl16, zl18, zl19, zl20, zl22, zl24, zl30, zl32, zl33, zl36, zl38, zl40, zl41, zl48, zl50, zl51, zl57, zl59, zl60, zl61, zl62, zl70, zl71, zl99, zl100, zl103, zl104, zl105, zl106, zl107, zl108, zl109, zl110, zl111, zl112, zl113, zl114, zl115, zl116, zl124, zl127, zl255, zl999, zl1000, zl1001, zl1002, zl1003]
  rw [if_neg (nI_ge (by omega) (by omega)), zchk_e (ze_nz (by omega) (by omega)), k2, v2, k3, ze_rem (by omega) (by omega) (by omega), ev]
  by_cases e : t = v % n
  · rw [if_pos e, if_pos (by rw [← e])]
  · rw [if_neg e, if_neg (znI_ne (by omega) (by omega) (fun q => e q.symm))]
theorem added_c {c m : zM} {n rd g t p lp q i1 i2 : Nat} (hw : WFp m 41 t) (hv : WFp m 41 g) (hlp : lp < 3) (hn6 : n ≤ 6) (hrd : rd < 5000) (hg : g < n) (ht : t < n) (hp : p < 3) (k1 : c.1 2 i1 1 = m.1 41 0 g) (k2 : c.1 2 i1 2 = m.1 42 0 g) (k3 : c.1 2 i2 0 = nI t) (k5 : ∀ p, p < 3 → c.1 4 i2 p = m.1 46 0 (3 * t + p)) (k6 : ∀ p, p < 3 → c.1 5 i2 p = m.1 47 0 (3 * t + p)) (k7 : ∀ j, j < 4 → c.1 6 i1 j = m.1 48 0 (4 * g + j)) (k8 : c.1 16 0 5 = nI lp) (k9 : c.1 1 q 1 = nI n) (k10 : c.1 1 q 2 = nI rd) : qY_addedTo c i1 i2 (nI p) q = some (aD m n rd lp g t p, c) := by
  obtain ⟨x1, x2⟩ := tl_wf hw hp
  have kn := knows_c hv hn6 ht k2 k3
  obtain ⟨⟨k, y1, y2⟩, ⟨v, v1, v2⟩, z3, z4, z5, z6, z7⟩ := hv
  have y2 : m.1 41 0 g = nI k := y2
  have v2 : m.1 42 0 g = nI v := v2
  have ek : kD m g = k := by unfold kD; rw [y2, ze_cl (by omega)]
  have ev : vD m g = v := by unfold vD; rw [v2, ze_cl (by omega)]
  have hr4 : rd % 4 < 4 := Nat.mod_lt _ (by decide)
  have fr : ∀ {α : Type} (x : Int32) (J : zM → Int32 → Option (α × zM)), (if nI p = c.1 16 0 5 then zbnd (qY_knows c i1 i2 (c.1 1 q 1)) (fun x17 M16 => if x17 = nI 0 then J M16 x else znm (x + nI 5 * M16.1 2 i1 2) fun x19 => J M16 x19) else J c x) = J c (x + frD m n lp g t p) := by
    intro α x J
    rw [k8, k9, kn]
    unfold frD
    by_cases e2 : p = lp
    · rw [if_pos (by rw [e2]), if_pos e2]
      by_cases e : t = vD m g % n
      · rw [if_pos e, if_pos e, zbnd_s, if_neg (znI_ne (by omega) (by omega) (by omega)), znm_e, k2, v2, ev]
      · rw [if_neg e, if_neg e, zbnd_s, if_pos rfl, zadd0]
    · rw [if_neg (znI_ne (by omega) (by omega) e2), if_neg e2]
      by_cases e : t = vD m g % n
      · rw [if_pos e, zadd0]
      · rw [if_neg e, zadd0]
  have s2 : nI 0 + nI 2 * c.1 4 i2 (tlm m t p) = s2D m t p := by
    rw [k5 _ x1, z0add]; rfl
  unfold aD
  rw [ek]
  unfold qY_addedTo
  simp only [zl0, zl1, zl2, zl3, zl4, zl5, zl6, zl7, zl8, zl9, zl10, zl11, zl12, zl13, zl14, zl16, zl18, zl19, zl20, zl22, zl24, zl30, zl32, zl33, zl36, zl38, zl40, zl41, zl48, zl50, zl51, zl57, zl59, zl60, zl61, zl62, zl70, zl71, zl99, zl100, zl103, zl104, zl105, zl106, zl107, zl108, zl109, zl110, zl111, zl112, zl113, zl114, zl115, zl116, zl124, zl127, zl255, zl999, zl1000, zl1001, zl1002, zl1003]
  rw [k1, y2]
  rcases (show k = 0 ∨ k = 1 ∨ k = 2 ∨ k = 3 ∨ k = 4 ∨ k = 5 ∨ k = 6 by omega) with rfl | rfl | rfl | rfl | rfl | rfl | rfl
  · rw [zbnd_c (isK_n c (by decide) (by decide) rfl)]
    simp (disch := omega) only [↓zjn_e, ↓znm_e, ↓reduceIte, ze_eqt, ze_eqf, if_true, if_false, Nat.reduceEqDiff, k1, y2, ↓zbnd_c (isK_n c (k := 0) (j := 3) (by decide) (by decide) rfl)]
  · rw [zbnd_c (isK_y c (by decide) (by decide) rfl)]
    simp (disch := omega) only [↓zjn_e, ↓znm_e, ↓reduceIte, ze_eqt, ze_eqf, if_true, if_false, Nat.reduceEqDiff, k1, y2, ↓zchk_e (ze_in hp (by omega)), ze_cl, k6 p hp, x2, ↓zchk_e (ze_in x1 (by omega)), ↓zbnd_c (isK_n c (k := 1) (j := 3) (by decide) (by decide) rfl)]
    rw [s2]
  · rw [zbnd_c (isK_n c (by decide) (by decide) rfl)]
    simp (disch := omega) only [↓zjn_e, ↓znm_e, ↓reduceIte, ze_eqt, ze_eqf, if_true, if_false, Nat.reduceEqDiff, k1, y2, ↓zbnd_c (isK_n c (k := 2) (j := 3) (by decide) (by decide) rfl)]
  · rw [zbnd_c (isK_n c (by decide) (by decide) rfl)]
    simp (disch := omega) only [↓zjn_e, ↓znm_e, ↓reduceIte, ze_eqt, ze_eqf, if_true, if_false, Nat.reduceEqDiff, k1, y2, ↓zbnd_c (isK_y c (k := 3) (j := 3) (by decide) (by decide) rfl)]
    rw [k8, k9, kn]
    unfold frD
    by_cases e2 : p = lp
    · rw [if_pos (by rw [e2]), if_pos e2]
      by_cases e : t = vD m g % n
      · rw [if_pos e, if_pos e, zbnd_s, if_neg (znI_ne (by omega) (by omega) (by omega)), k1, y2, if_neg (show ¬ nI 3 = nI 6 from znI_ne (by decide) (by decide) (by decide)), k2, v2, ev, z0add]
      · rw [if_neg e, if_neg e, zbnd_s, if_pos rfl, k1, y2, if_neg (show ¬ nI 3 = nI 6 from znI_ne (by decide) (by decide) (by decide))]
    · rw [if_neg (znI_ne (by omega) (by omega) e2), if_neg e2]
      rw [ite_self]
  · rw [zbnd_c (isK_y c (by decide) (by decide) rfl)]
    simp (disch := omega) only [↓zjn_e, ↓znm_e, ↓reduceIte, ze_eqt, ze_eqf, if_true, if_false, Nat.reduceEqDiff, k1, y2, ↓zchk_e (ze_in hp (by omega)), ze_cl, k6 p hp, x2, ↓zchk_e (ze_in x1 (by omega)), ↓zbnd_c (isK_n c (k := 4) (j := 3) (by decide) (by decide) rfl)]
    rw [s2]
    by_cases e2 : p = 2
    · rw [if_pos e2, if_pos (by rw [e2])]
    · rw [if_neg e2, if_neg (znI_ne (by omega) (by omega) e2), zadd0]
  · rw [zbnd_c (isK_n c (by decide) (by decide) rfl)]
    simp (disch := omega) only [↓zjn_e, ↓znm_e, ↓reduceIte, ze_eqt, ze_eqf, if_true, if_false, Nat.reduceEqDiff, k1, y2, ↓zbnd_c (isK_n c (k := 5) (j := 3) (by decide) (by decide) rfl)]
  · rw [zbnd_c (isK_n c (by decide) (by decide) rfl)]
    simp (disch := omega) only [↓zjn_e, ↓znm_e, ↓reduceIte, ze_eqt, ze_eqf, if_true, if_false, Nat.reduceEqDiff, k1, y2, ↓zbnd_c (isK_y c (k := 6) (j := 3) (by decide) (by decide) rfl)]
    have rw6 : ∀ x, (if nI 6 = nI 6 then zchk (zin (zrem (c.1 1 q 2) (nI 4)) 4) (if c.1 6 i1 (zrem (c.1 1 q 2) (nI 4)).toNatClampNeg = nI p then some (x + nI 40, c) else some (x, c)) else some (x, c)) = some (x + rwD m rd g p, c) := by
      intro x
      unfold rwD
      rw [if_pos rfl, k10, ze_rem (by omega) (by omega) (by omega), zchk_e (ze_in hr4 (by omega)), ze_cl (by omega), k7 _ hr4]
      by_cases e : m.1 48 0 (4 * g + rd % 4) = nI p
      · rw [if_pos e, if_pos e]
      · rw [if_neg e, if_neg e, zadd0]
    rw [k8, k9, kn]
    unfold frD
    by_cases e2 : p = lp
    · rw [if_pos (by rw [e2]), if_pos e2]
      by_cases e : t = vD m g % n
      · rw [if_pos e, if_pos e, zbnd_s, if_neg (znI_ne (by omega) (by omega) (by omega)), k1, y2, rw6, k2, v2, ev, z0add]
      · rw [if_neg e, if_neg e, zbnd_s, if_pos rfl, k1, y2, rw6]
    · rw [if_neg (znI_ne (by omega) (by omega) e2), if_neg e2, ite_self]
      have := rw6 (nI 0)
      rw [if_pos rfl] at this
      exact this
