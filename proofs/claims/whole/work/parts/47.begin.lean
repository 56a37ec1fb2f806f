/-! PURE PART: what all GUESSES come to; the class's round as it begins. -/
def hA (W : Nat → (Nat → Nat) → Nat → Int32) (sk : Nat → Bool) (h0 : Nat → Nat) : Nat → Nat → Nat
  | 0 => h0
  | k + 1 => if sk k = true then hA W sk h0 k else updH (hA W sk h0 k) (chW (W k (hA W sk h0 k)))
def SM (hs : Nat → Nat) : Nat := hs 0 + hs 1 + hs 2
theorem SM_le {hs : Nat → Nat} {p : Nat} (hp : p < 3) : hs p ≤ SM hs := by
  unfold SM
  rcases (show p = 0 ∨ p = 1 ∨ p = 2 by omega) with rfl | rfl | rfl <;> omega
theorem SM_upd {hs : Nat → Nat} {x : Nat} (hx : x < 3) : SM (updH hs x) = SM hs + 1 := by
  unfold SM updH
  rcases (show x = 0 ∨ x = 1 ∨ x = 2 by omega) with rfl | rfl | rfl
  · rw [if_pos rfl, if_neg (by decide), if_neg (by decide)]; omega
  · rw [if_neg (by decide), if_pos rfl, if_neg (by decide)]; omega
  · rw [if_neg (by decide), if_neg (by decide), if_pos rfl]; omega
theorem hA_SM (W : Nat → (Nat → Nat) → Nat → Int32) (sk : Nat → Bool) (h0 : Nat → Nat) : ∀ k, SM (hA W sk h0 k) ≤ SM h0 + k
  | 0 => Nat.le_refl _
  | k + 1 => by
    have ih := hA_SM W sk h0 k
    unfold hA
    by_cases h : sk k = true
    · rw [if_pos h]; omega
    · rw [if_neg h, SM_upd (chW_lt _)]; omega
theorem hA_cnt (W : Nat → (Nat → Nat) → Nat → Int32) (h0 : Nat → Nat) (t : Nat) : ∀ k, SM (hA W (fun g => g == t) h0 k) = SM h0 + (if t < k then k - 1 else k)
  | 0 => by rw [if_neg (by omega)]; rfl
  | k + 1 => by
    have ih := hA_cnt W h0 t k
    unfold hA
    by_cases h : k = t
    · rw [if_pos (by rw [h]; exact beq_self_eq_true t), ih, if_neg (by omega), if_pos (by omega)]; omega
    · rw [if_neg (by simpa using h), SM_upd (chW_lt _), ih]
      by_cases h2 : t < k
      · rw [if_pos h2, if_pos (by omega)]; omega
      · rw [if_neg h2, if_neg (by omega)]; omega
def PH (c m : zM) (q n rd h e : Nat) (cs : List Cl) : Prop := q < 3 ∧ n ≤ 6 ∧ rd < 5000 ∧ Rnum c ∧ Rppl c m 41 q n ∧ c.1 1 q 1 = nI n ∧ c.1 1 q 2 = nI rd ∧ m.1 40 0 0 = nI n ∧ m.1 40 0 1 = nI rd ∧ HCd c h cs ∧ HMd m e cs ∧ ∀ M : zM, M.1 1 0 3 = c.1 1 0 3 → qG_held M = some (h, M)
theorem HCd_c {c C : zM} {h : Nat} {cs : List Cl} (hc : HCd c h cs) (hC : ∀ a i j, a < 15 → 12 < a → C.1 a i j = c.1 a i j) : HCd C h cs := by
  obtain ⟨g1, g2, g3, g4, g5⟩ := hc
  exact ⟨g1, g2, by rw [hC _ _ _ (by decide) (by decide), g3], by rw [hC _ _ _ (by decide) (by decide), g4], fun j hj => by rw [hC _ _ _ (by decide) (by decide), g5 j hj]⟩
theorem PH_fr {c m C M : zM} {q n rd h e : Nat} {cs : List Cl} (H : PH c m q n rd h e cs) (hC : FRc c C) (hM : FR3 m M) : PH C M q n rd h e cs := by
  obtain ⟨h1, h2, h3, h4, h5, h6, h7, h8, h9, h10, h11, h12⟩ := H
  refine ⟨h1, h2, h3, fun i hi => by rw [hC.2 _ _ _ (by omega), h4 i hi], Rppl_cg (fun k p j hp hk => hC.2 _ _ _ (by omega)) (fun t j ht => hM.2 _ _ _ (by omega) (by omega) (by omega)) h5, by rw [hC.2 _ _ _ (by omega), h6], by rw [hC.2 _ _ _ (by omega), h7], by rw [hM.2 _ _ _ (by decide) (by decide) (by decide), h8], by rw [hM.2 _ _ _ (by decide) (by decide) (by decide), h9], HCd_c h10 (fun a i j q1 q2 => hC.2 _ _ _ (by omega)), HMd_F3 h11 hM, fun M' hM' => h12 M' (by rw [hM', hC.2 _ _ _ (by omega)])⟩
theorem PH_pp {c m : zM} {q n rd h e g : Nat} {cs : List Cl} (H : PH c m q n rd h e cs) (hg : g < n) : c.1 2 (6 * q + g) 0 = nI g ∧ c.1 2 (6 * q + g) 1 = m.1 41 0 g ∧ c.1 2 (6 * q + g) 2 = m.1 42 0 g ∧ c.1 2 (6 * q + g) 4 = m.1 44 0 g ∧ (∀ p, p < 3 → c.1 3 (6 * q + g) p = m.1 45 0 (3 * g + p)) ∧ (∀ p, p < 3 → c.1 4 (6 * q + g) p = m.1 46 0 (3 * g + p)) ∧ (∀ p, p < 3 → c.1 5 (6 * q + g) p = m.1 47 0 (3 * g + p)) ∧ (∀ p, p < 4 → c.1 6 (6 * q + g) p = m.1 48 0 (4 * g + p)) ∧ WFp m 41 g := by
  obtain ⟨h1, h2, h3, h4, h5, h6⟩ := H
  obtain ⟨⟨f1, f2, f3, f4, f5, f6, f7, f8⟩, w⟩ := h5 g hg
  have := h4 (6 * q + g) (by omega)
  rw [show (6 * q + g) % 6 = g by omega] at this
  exact ⟨this, f1, f2, f4, f5, f6, f7, f8, w⟩
theorem cl_ok {m : zM} {e : Nat} {cs : List Cl} (h : HMd m e cs) : ∀ q ∈ cs, clOk q := h.2.2.2.1
/-- alike but for 15, 17, 18, 19 -/
def FRo (C C' : zM) : Prop := C'.2 = C.2 ∧ ∀ a i j, a ≠ 15 → a ≠ 17 → a ≠ 18 → a ≠ 19 → C'.1 a i j = C.1 a i j
theorem FRo_refl (m : zM) : FRo m m := ⟨rfl, fun _ _ _ _ _ _ _ => rfl⟩
theorem FRo_trans {A B C : zM} (h1 : FRo A B) (h2 : FRo B C) : FRo A C := ⟨h2.1.trans h1.1, fun a i j q1 q2 q3 q4 => (h2.2 a i j q1 q2 q3 q4).trans (h1.2 a i j q1 q2 q3 q4)⟩
theorem FRc_o {A B : zM} (h : FRo A B) : FRc A B := ⟨h.1, fun a i j q => h.2 a i j (by omega) (by omega) (by omega) (by omega)⟩
theorem FRo_set (m : zM) (k i j : Nat) (v : Int32) (hk : k = 15 ∨ k = 17 ∨ k = 18 ∨ k = 19) : FRo m (zset m k i j v) := ⟨rfl, fun a b c q1 q2 q3 q4 => zg_n (by omega)⟩
theorem FRo_1 {A B : zM} (h : FR1 15 A B) : FRo A B := ⟨h.1, fun a i j q _ _ _ => h.2 a i j q⟩
/-- the three places of one guesser -/
theorem beg_step {c m C : zM} {q n rd h e g t lp p F : Nat} {cs : List Cl} {E : zM → Option (Unit × zM)} (H : PH C m q n rd h e cs) (hl : LPl m t lp) (h16 : C.1 16 0 5 = nI lp) (hg : g < n) (ht : t < n) (hgt : g ≠ t) (hp : p < 3) :
    ∃ C', (∀ R, qY_begin_L89 q h (nI t) (6 * q + t) (nI g) (6 * q + g) E F C' (nI (p + 1)) = R → qY_begin_L89 q h (nI t) (6 * q + t) (nI g) (6 * q + g) E (F + 1) C (nI p) = R) ∧ FRo C C' ∧ C'.1 17 0 (g * 3 + p) = dD m cs g t p + aD m n rd lp g t p ∧ (∀ j, j ≠ g * 3 + p → C'.1 17 0 j = C.1 17 0 j) ∧ (∀ j, C'.1 18 0 j = C.1 18 0 j) ∧ ∀ j, C'.1 19 0 j = C.1 19 0 j := by
  have hq := H.1
  have hn6 := H.2.1
  obtain ⟨g1, g2, g3, g4, g5, g6, g7, g8, g9⟩ := PH_pp H hg
  obtain ⟨t1, t2, t3, t4, t5, t6, t7, t8, t9⟩ := PH_pp H ht
  obtain ⟨h1, h2, h3, h4, h5, h6, h7, h8, h9, h10, h11, h12⟩ := H
  obtain ⟨C1, k1, k2⟩ := doubt_c h10 (cl_ok h11) t9 (show g < 6 by omega) (show t < 6 by omega) hp g1 g2 t1 t5 t6 t7
  have F1 : ∀ a i j, a ≠ 15 → C1.1 a i j = C.1 a i j := k2.2
  have ad := added_c (c := C1) (q := q) (i1 := 6 * q + g) (i2 := 6 * q + t) t9 g9 hl.1 hn6 h3 hg ht hp (by rw [F1 _ _ _ (by decide)]; exact g2) (by rw [F1 _ _ _ (by decide)]; exact g3) (by rw [F1 _ _ _ (by decide)]; exact t1) (fun p hp => by rw [F1 _ _ _ (by decide)]; exact t6 p hp) (fun p hp => by rw [F1 _ _ _ (by decide)]; exact t7 p hp) (fun p hp => by rw [F1 _ _ _ (by decide)]; exact g8 p hp) (by rw [F1 _ _ _ (by decide)]; exact h16) (by rw [F1 _ _ _ (by decide)]; exact h6) (by rw [F1 _ _ _ (by decide)]; exact h7)
  refine ⟨zset C1 17 0 (g * 3 + p) (dD m cs g t p + aD m n rd lp g t p), fun R hR => ?_, FRo_trans (FRo_1 k2) (FRo_set _ 17 _ _ _ (by omega)), zg_e ⟨rfl, rfl, rfl⟩, fun j hj => by rw [zg_n (by omega), F1 _ _ _ (by decide)], fun j => by rw [zg_n (by omega), F1 _ _ _ (by decide)], fun j => by rw [zg_n (by omega), F1 _ _ _ (by decide)]⟩
  unfold qY_begin_L89
  simp only [zl0, zl1, zl2, zl3, zl4, zl5, zl6, zl7, zl8, zl9, zl10, zl11, zl12, zl13, zl14, zl16, zl18, zl19, zl20, zl22, zl24, zl30, zl32, zl33, zl36, zl38, zl40, zl41, zl48, zl50, zl51, zl57, zl59, zl60, zl61, zl62, zl70, zl71, zl99, zl100, zl103, zl104, zl105, zl106, zl107, zl108, zl109, zl110, zl111, zl112, zl113, zl114, zl115, zl116, zl124, zl127, zl255, zl999, zl1000, zl1001, zl1002, zl1003]
  rw [if_neg (nI_ge (by omega) (by omega)), if_neg (znI_ne (by omega) (by omega) hgt), zbnd_c k1, zbnd_c ad, ze_mul, ze_add, zchk_e (ze_in (by omega) (by omega)), ze_cl (show g * 3 + p < 2 ^ 31 by omega), znm_e, ze_add]
  exact hR
theorem beg_row {m C : zM} {q n rd h e g t lp F : Nat} {cs : List Cl} {E : zM → Option (Unit × zM)} (H : PH C m q n rd h e cs) (hl : LPl m t lp) (h16 : C.1 16 0 5 = nI lp) (hg : g < n) (ht : t < n) (hgt : g ≠ t) :
    ∃ C', (∀ R, E C' = R → qY_begin_L89 q h (nI t) (6 * q + t) (nI g) (6 * q + g) E (F + 4) C (nI 0) = R) ∧ FRo C C' ∧ (∀ p, p < 3 → C'.1 17 0 (g * 3 + p) = dD m cs g t p + aD m n rd lp g t p) ∧ (∀ j, j < g * 3 ∨ g * 3 + 3 ≤ j → C'.1 17 0 j = C.1 17 0 j) ∧ (∀ j, C'.1 18 0 j = C.1 18 0 j) ∧ ∀ j, C'.1 19 0 j = C.1 19 0 j := by
  obtain ⟨A, a1, a2, a3, a4, a5, a6⟩ := beg_step (c := C) (F := F + 3) (E := E) H hl h16 hg ht hgt (show 0 < 3 by decide)
  obtain ⟨B, b1, b2, b3, b4, b5, b6⟩ := beg_step (c := C) (F := F + 2) (E := E) (PH_fr H (FRc_o a2) (FR3_refl m)) hl (by rw [a2.2 _ _ _ (by decide) (by decide) (by decide) (by decide)]; exact h16) hg ht hgt (show 1 < 3 by decide)
  have f2 := FRo_trans a2 b2
  obtain ⟨D, d1, d2, d3, d4, d5, d6⟩ := beg_step (c := C) (F := F + 1) (E := E) (PH_fr H (FRc_o f2) (FR3_refl m)) hl (by rw [f2.2 _ _ _ (by decide) (by decide) (by decide) (by decide)]; exact h16) hg ht hgt (show 2 < 3 by decide)
  refine ⟨D, fun R hR => a1 _ (b1 _ (d1 _ ?_)), FRo_trans f2 d2, fun p hp => ?_, fun j hj => by rw [d4 j (by omega), b4 j (by omega), a4 j (by omega)], fun j => by rw [d5, b5, a5], fun j => by rw [d6, b6, a6]⟩
  · unfold qY_begin_L89
    simp only [zl0, zl1, zl2, zl3, zl4, zl5, zl6, zl7, zl8, zl9, zl10, zl11, zl12, zl13, zl14, zl16, zl18, zl19, zl20, zl22, zl24, zl30, zl32, zl33, zl36, zl38, zl40, zl41, zl48, zl50, zl51, zl57, zl59, zl60, zl61, zl62, zl70, zl71, zl99, zl100, zl103, zl104, zl105, zl106, zl107, zl108, zl109, zl110, zl111, zl112, zl113, zl114, zl115, zl116, zl124, zl127, zl255, zl999, zl1000, zl1001, zl1002, zl1003]
    rw [if_pos (nI_le (by omega) (by omega))]
    exact hR
  · rcases (show p = 0 ∨ p = 1 ∨ p = 2 by omega) with rfl | rfl | rfl
    · rw [d4 _ (by omega), b4 _ (by omega), a3]
    · rw [d4 _ (by omega), b3]
    · exact d3
