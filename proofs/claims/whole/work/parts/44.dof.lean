/-! PURE PART: DOUBT on both sides. -/
theorem evV_add (f : Nat → Int32) : ∀ (cs : List Cl) (a b : Int32), evV f cs (a + b) = a + evV f cs b
  | [], a, b => rfl
  | q :: cs, a, b => by
    have e : ∀ v, evV f (q :: cs) v = evV f cs (clV f q v) := fun v => by unfold evV; rw [List.foldl_cons]
    have h : clV f q (a + b) = a + clV f q b := by
      unfold clV
      by_cases h2 : q.1 = 2
      · rw [if_pos h2, if_pos h2]
      · rw [if_neg h2, if_neg h2]
        by_cases ht : tkT f q.2.2 = true
        · rw [if_pos ht, if_pos ht]
          by_cases h0 : q.1 = 0
          · rw [if_pos h0, if_pos h0, Int32.add_assoc]
          · rw [if_neg h0, if_neg h0, Int32.sub_eq_add_neg, Int32.sub_eq_add_neg, Int32.add_assoc]
        · rw [if_neg ht, if_neg ht]
    rw [e, e, h, evV_add f cs]
def FR3 (m M : zM) : Prop := M.2 = m.2 ∧ ∀ a i j, a ≠ 58 → a ≠ 59 → a ≠ 60 → M.1 a i j = m.1 a i j
theorem FR3_refl (m : zM) : FR3 m m := ⟨rfl, fun _ _ _ _ _ _ => rfl⟩
theorem FR3_trans {A B C : zM} (h1 : FR3 A B) (h2 : FR3 B C) : FR3 A C := ⟨h2.1.trans h1.1, fun a i j q1 q2 q3 => (h2.2 a i j q1 q2 q3).trans (h1.2 a i j q1 q2 q3)⟩
theorem FR3_1 {A B : zM} (h : FR1 58 A B) : FR3 A B := ⟨h.1, fun a i j q1 _ _ => h.2 a i j q1⟩
theorem FR3_set (m : zM) (k i j : Nat) (v : Int32) (hk : k = 58 ∨ k = 59 ∨ k = 60) : FR3 m (zset m k i j v) := ⟨rfl, fun a b c q1 q2 q3 => zg_n (by omega)⟩
def FRc (c C : zM) : Prop := C.2 = c.2 ∧ ∀ a i j, a < 15 ∨ 21 < a → C.1 a i j = c.1 a i j
theorem FRc_refl (m : zM) : FRc m m := ⟨rfl, fun _ _ _ _ => rfl⟩
theorem FRc_trans {A B C : zM} (h1 : FRc A B) (h2 : FRc B C) : FRc A C := ⟨h2.1.trans h1.1, fun a i j q => (h2.2 a i j q).trans (h1.2 a i j q)⟩
theorem FRc_1 {A B : zM} (h : FR1 15 A B) : FRc A B := ⟨h.1, fun a i j q => h.2 a i j (by omega)⟩
theorem FRc_set (m : zM) (k i j : Nat) (v : Int32) (hk : 15 ≤ k ∧ k ≤ 21) : FRc m (zset m k i j v) := ⟨rfl, fun a b c q => zg_n (by omega)⟩
theorem HMd_F3 {m M : zM} {e : Nat} {cs : List Cl} (h : HMd m e cs) (hM : FR3 m M) : HMd M e cs := by
  have F := hM.2
  obtain ⟨h0, h1, h2, h3, h4⟩ := h
  refine ⟨h0, ?_, h2, h3, fun j q hq => ?_⟩
  · rw [F 40 0 11 (by decide) (by decide) (by decide), F 50 0 e (by decide) (by decide) (by decide)]; exact h1
  · obtain ⟨q1, q2, q3⟩ := h4 j q hq
    refine ⟨by rw [F 51 0 _ (by decide) (by decide) (by decide), q1], by rw [F 52 0 _ (by decide) (by decide) (by decide), q2], fun hne => ?_⟩
    obtain ⟨a, a1, a2, a3, a4, a5⟩ := q3 hne
    exact ⟨a, a1, a2, by rw [F 53 0 _ (by decide) (by decide) (by decide), a3], by rw [F 54 0 _ (by decide) (by decide) (by decide), a4], fun i t hi => by rw [F 55 0 _ (by decide) (by decide) (by decide), a5 i t hi]⟩
/-- the thing in a place -/
def tlm (m : zM) (t p : Nat) : Nat := (m.1 47 0 (3 * t + p)).toNatClampNeg
def fF (m : zM) (g t p l : Nat) : Int32 := if l = 0 then nI g else if l = 1 then m.1 41 0 g else if l = 2 then nI t else if l = 3 then nI p else if l = 4 then m.1 45 0 (3 * t + tlm m t p) / nI 10 else m.1 46 0 (3 * t + tlm m t p)
def dD (m : zM) (cs : List Cl) (g t p : Nat) : Int32 := evV (fF m g t p) cs (nI 99 - m.1 45 0 (3 * t + tlm m t p))
theorem tl_wf {m : zM} {t p : Nat} (h : WFp m 41 t) (hp : p < 3) : tlm m t p < 3 ∧ m.1 47 0 (3 * t + p) = nI (tlm m t p) := by
  obtain ⟨q1, q2, q3, q4, q5, ⟨a, b, d, g1, g2, g3, g4, g5, g6, g7, g8, g9⟩, q7⟩ := h
  have : ∃ x, x < 3 ∧ m.1 47 0 (3 * t + p) = nI x := by
    rcases (show p = 0 ∨ p = 1 ∨ p = 2 by omega) with rfl | rfl | rfl
    · exact ⟨a, g1, g7⟩
    · exact ⟨b, g2, g8⟩
    · exact ⟨d, g3, g9⟩
  obtain ⟨x, x1, x2⟩ := this
  unfold tlm
  rw [x2, ze_cl (by omega)]
  exact ⟨x1, rfl⟩
theorem tlm_F3 {m M : zM} (h : FR3 m M) (t p : Nat) : tlm M t p = tlm m t p := by
  unfold tlm
  rw [h.2 47 0 _ (by decide) (by decide) (by decide)]
theorem dD_F3 {m M : zM} (h : FR3 m M) (cs : List Cl) (g t p : Nat) : dD M cs g t p = dD m cs g t p := by
  have e : fF M g t p = fF m g t p := by
    funext l
    unfold fF
    rw [tlm_F3 h, h.2 41 0 _ (by decide) (by decide) (by decide), h.2 45 0 _ (by decide) (by decide) (by decide), h.2 46 0 _ (by decide) (by decide) (by decide)]
  unfold dD
  rw [e, tlm_F3 h, h.2 45 0 _ (by decide) (by decide) (by decide)]
theorem fact_m {M : zM} {g t p l : Nat} (hw : WFp M 41 t) (hg : g < 6) (ht : t < 6) (hp : p < 3) (hl : l < 6) : qM_factOf M (nI l) (nI g) (nI t) (nI p) = some (fF M g t p l, M) := by
  obtain ⟨x1, x2⟩ := tl_wf hw hp
  have e0 : ∀ l, tlm M t p = l → tlm M t p = l := fun _ h => h
  unfold qM_factOf
  simp only [zl0, zl1, zl2, zl3, zl4, zl5, zl6, zl7, zl8, zl9, zl10, zl11, zl12, zl13, zl14, zl16, zl18, zl19, zl20, zl22, zl24, zl30, zl32, zl33, zl36, zl38, zl40, zl41, zl48, zl50, zl51, zl57, zl59, zl60, zl61, zl62, zl70, zl71, zl99, zl100, zl103, zl104, zl105, zl106, zl107, zl108, zl109, zl110, zl111, zl112, zl113, zl114, zl115, zl116, zl124, zl127, zl255, zl999, zl1000, zl1001, zl1002, zl1003]
  rw [ze_mul, ze_add, zchk_e (ze_in (by omega) (by omega)), ze_cl (show 3 * t + p < 2 ^ 31 by omega), x2, ze_add, znm_e, ze_cl (show g < 2 ^ 31 by omega), ze_cl (show 3 * t + tlm M t p < 2 ^ 31 by omega), zchk_e (ze_in (show g < 6 by omega) (by omega)), zchk_e (ze_in (show 3 * t + tlm M t p < 18 by omega) (by omega)), zchk_e (ze_in (show 3 * t + tlm M t p < 18 by omega) (by omega))]
  unfold fF
  have nn : ∀ k, k < 6 → l ≠ k → ¬ nI l = nI k := fun k hk h => znI_ne (by omega) (by omega) h
  rcases (show l = 0 ∨ l = 1 ∨ l = 2 ∨ l = 3 ∨ l = 4 ∨ l = 5 by omega) with rfl | rfl | rfl | rfl | rfl | rfl
  · rw [if_pos rfl, if_pos rfl]
  · rw [if_neg (nn 0 (by decide) (by decide)), if_pos rfl, if_neg (by decide), if_pos rfl]
  · rw [if_neg (nn 0 (by decide) (by decide)), if_neg (nn 1 (by decide) (by decide)), if_pos rfl, if_neg (by decide), if_neg (by decide), if_pos rfl]
  · rw [if_neg (nn 0 (by decide) (by decide)), if_neg (nn 1 (by decide) (by decide)), if_neg (nn 2 (by decide) (by decide)), if_pos rfl, if_neg (by decide), if_neg (by decide), if_neg (by decide), if_pos rfl]
  · rw [if_neg (nn 0 (by decide) (by decide)), if_neg (nn 1 (by decide) (by decide)), if_neg (nn 2 (by decide) (by decide)), if_neg (nn 3 (by decide) (by decide)), if_pos rfl, if_neg (by decide), if_neg (by decide), if_neg (by decide), if_neg (by decide), if_pos rfl]
  · rw [if_neg (nn 0 (by decide) (by decide)), if_neg (nn 1 (by decide) (by decide)), if_neg (nn 2 (by decide) (by decide)), if_neg (nn 3 (by decide) (by decide)), if_neg (nn 4 (by decide) (by decide)), if_neg (by decide), if_neg (by decide), if_neg (by decide), if_neg (by decide), if_neg (by decide)]
theorem WFp_cg {m M : zM} {p : Nat} (h : WFp m 41 p) (hm : ∀ a j, 41 ≤ a → a ≤ 48 → M.1 a 0 j = m.1 a 0 j) : WFp M 41 p := by
  unfold WFp at h ⊢
  simp only [hm 41 _ (by decide) (by decide), hm (41 + 1) _ (by decide) (by decide), hm (41 + 2) _ (by decide) (by decide), hm (41 + 3) _ (by decide) (by decide), hm (41 + 4) _ (by decide) (by decide), hm (41 + 5) _ (by decide) (by decide), hm (41 + 6) _ (by decide) (by decide), hm (41 + 7) _ (by decide) (by decide)]
  exact h
theorem doubt_m {m : zM} {e g t p : Nat} {cs : List Cl} (h : HMd m e cs) (hw : WFp m 41 t) (hg : g < 6) (ht : t < 6) (hp : p < 3) : ∃ M', qM_doubtOf m (nI g) (nI t) (nI p) = some (dD m cs g t p, M') ∧ FR1 58 m M' := by
  obtain ⟨x1, x2⟩ := tl_wf hw hp
  have hF : FC (nI g) (nI t) (nI p) m (fF m g t p) := by
    intro M hM l hl
    have e : fF M g t p l = fF m g t p l := by
      unfold fF
      rw [tlm_F3 (FR3_1 hM), hM.2 41 0 _ (by decide), hM.2 45 0 _ (by decide), hM.2 46 0 _ (by decide)]
    rw [← e]
    exact fact_m (WFp_cg hw (fun a j q1 q2 => hM.2 a 0 j (by omega))) hg ht hp hl
  have h3 := h.2.2.1
  obtain ⟨M', k1, k2⟩ := doubt_loop h hF cs 0 1000 (nI 99 - m.1 45 0 (3 * t + tlm m t p)) m (FR1_refl _ _) (by omega) rfl (by omega)
  refine ⟨M', ?_, k2⟩
  unfold qM_doubtOf
  simp only [zl0, zl1, zl2, zl3, zl4, zl5, zl6, zl7, zl8, zl9, zl10, zl11, zl12, zl13, zl14, zl16, zl18, zl19, zl20, zl22, zl24, zl30, zl32, zl33, zl36, zl38, zl40, zl41, zl48, zl50, zl51, zl57, zl59, zl60, zl61, zl62, zl70, zl71, zl99, zl100, zl103, zl104, zl105, zl106, zl107, zl108, zl109, zl110, zl111, zl112, zl113, zl114, zl115, zl116, zl124, zl127, zl255, zl999, zl1000, zl1001, zl1002, zl1003]
  rw [ze_mul, ze_add, zchk_e (ze_in (show 3 * t + p < 18 by omega) (by omega)), ze_cl (show 3 * t + p < 2 ^ 31 by omega), x2, ze_add, zchk_e (ze_in (show 3 * t + tlm m t p < 18 by omega) (by omega)), ze_cl (show 3 * t + tlm m t p < 2 ^ 31 by omega), znm_e, zbnd_c (begin_e h)]
  exact k1
theorem doubt_c {c m : zM} {h i1 i2 g t p : Nat} {cs : List Cl} (hc : HCd c h cs) (ho : ∀ q ∈ cs, clOk q) (hw : WFp m 41 t) (hg : g < 6) (ht : t < 6) (hp : p < 3) (k1 : c.1 2 i1 0 = nI g) (k2 : c.1 2 i1 1 = m.1 41 0 g) (k3 : c.1 2 i2 0 = nI t) (k4 : ∀ p, p < 3 → c.1 3 i2 p = m.1 45 0 (3 * t + p)) (k5 : ∀ p, p < 3 → c.1 4 i2 p = m.1 46 0 (3 * t + p)) (k6 : ∀ p, p < 3 → c.1 5 i2 p = m.1 47 0 (3 * t + p)) : ∃ C, qE_doubtOf c h i1 i2 (nI p) = some (dD m cs g t p, C) ∧ FR1 15 c C := by
  obtain ⟨x1, x2⟩ := tl_wf hw hp
  have q4 := k4 _ x1
  have q5 := k5 _ x1
  have q6 := k6 _ hp
  let C0 := zset (zset (zset (zset (zset (zset c 15 h 0 (nI g)) 15 h 1 (m.1 41 0 g)) 15 h 2 (nI t)) 15 h 3 (nI p)) 15 h 4 (m.1 45 0 (3 * t + tlm m t p) / nI 10)) 15 h 5 (m.1 46 0 (3 * t + tlm m t p))
  have hC : FR1 15 c C0 := FR1_trans (FR1_trans (FR1_trans (FR1_trans (FR1_trans (FR1_set _ _ _ _ _) (FR1_set _ _ _ _ _)) (FR1_set _ _ _ _ _)) (FR1_set _ _ _ _ _)) (FR1_set _ _ _ _ _)) (FR1_set _ _ _ _ _)
  have hc' : HCd C0 h cs := by
    obtain ⟨g1, g2, g3, g4, g5⟩ := hc
    exact ⟨g1, g2, by rw [hC.2 _ _ _ (by decide), g3], by rw [hC.2 _ _ _ (by decide), g4], fun j hj => by rw [hC.2 _ _ _ (by decide), g5 j hj]⟩
  have hf : ∀ l, l < 6 → C0.1 15 h l = fF m g t p l := by
    intro l hl
    rcases (show l = 0 ∨ l = 1 ∨ l = 2 ∨ l = 3 ∨ l = 4 ∨ l = 5 by omega) with rfl | rfl | rfl | rfl | rfl | rfl
    · rw [zg_n (by omega), zg_n (by omega), zg_n (by omega), zg_n (by omega), zg_n (by omega), zg_e ⟨rfl, rfl, rfl⟩]; rfl
    · rw [zg_n (by omega), zg_n (by omega), zg_n (by omega), zg_n (by omega), zg_e ⟨rfl, rfl, rfl⟩]; rfl
    · rw [zg_n (by omega), zg_n (by omega), zg_n (by omega), zg_e ⟨rfl, rfl, rfl⟩]; rfl
    · rw [zg_n (by omega), zg_n (by omega), zg_e ⟨rfl, rfl, rfl⟩]; rfl
    · rw [zg_n (by omega), zg_e ⟨rfl, rfl, rfl⟩]; rfl
    · rw [zg_e ⟨rfl, rfl, rfl⟩]; rfl
  have R := runClauses_e hc' hf ho
  refine ⟨C0, ?_, hC⟩
  unfold qE_doubtOf
  simp only [zl0, zl1, zl2, zl3, zl4, zl5, zl6, zl7, zl8, zl9, zl10, zl11, zl12, zl13, zl14, zl16, zl18, zl19, zl20, zl22, zl24, zl30, zl32, zl33, zl36, zl38, zl40, zl41, zl48, zl50, zl51, zl57, zl59, zl60, zl61, zl62, zl70, zl71, zl99, zl100, zl103, zl104, zl105, zl106, zl107, zl108, zl109, zl110, zl111, zl112, zl113, zl114, zl115, zl116, zl124, zl127, zl255, zl999, zl1000, zl1001, zl1002, zl1003]
  rw [zchk_e (ze_in (show p < 3 by omega) (by omega)), ze_cl (show p < 2 ^ 31 by omega), q6, x2]
  simp (disch := omega) only [↓reduceIte, zbnd_s, zchk_t, znm_e, zjn_e, if_true, if_false, ite_true, ite_false, Nat.zero_add, Nat.add_zero, Nat.mul_zero, Nat.zero_mul, Nat.mul_one, Nat.one_mul, zl0, zl1, zl2, zl3, zl4, zl5, zl6, zl7, zl8, zl9, zl10, zl11, zl12, zl13, zl14, zl16, zl18, zl19, zl20, zl22, zl24, zl30, zl32, zl33, zl36, zl38, zl40, zl41, zl48, zl50, zl51, zl57, zl59, zl60, zl61, zl62, zl70, zl71, zl99, zl100, zl103, zl104, zl105, zl106, zl107, zl108, zl109, zl110, zl111, zl112, zl113, zl114, zl115, zl116, zl124, zl127, zl255, zl999, zl1000, zl1001, zl1002, zl1003, ze_in, ze_ltt, ze_ltf, ze_let, ze_lef, ze_eqt, ze_eqf, ze_cl, ze_add, ze_mul, ze_sub, ze_div, ze_rem, ze_nz, ze_ngt, ze_nle, ze_neq, ze_neq', ze_nlt, ze_nle', zg_e, zg_n, zg_2, zgL_e, zgL_n, zgL_1, k1, k2, k3, q4, q5, zchk_e (ze_in (show tlm m t p < 3 by omega) (by omega))]
  rw [zbnd_c R]
  unfold dD
  rw [← evV_add, show (nI 0 : Int32) = 0 from nI_0, Int32.add_zero]
