/-! PURE PART: a ROUND played, on both sides. -/
def WD (m : zM) (cs : List Cl) (n rd lp t : Nat) (g : Nat) (hs : Nat → Nat) : Nat → Int32 := wD m cs n rd lp g t hs
def hP (W : Nat → (Nat → Nat) → Nat → Int32) (t k : Nat) : Nat → Nat := hA W (fun g => g == t) (fun _ => 0) k
theorem hP_le (W : Nat → (Nat → Nat) → Nat → Int32) (t k : Nat) {p : Nat} (hp : p < 3) : hP W t k p ≤ k := by
  have h1 := SM_le (hs := hP W t k) hp
  have h2 := hA_SM W (fun g => g == t) (fun _ => 0) k
  have h3 : SM (fun _ => 0) = 0 := rfl
  have h4 : SM (hP W t k) = SM (hA W (fun g => g == t) (fun _ => 0) k) := rfl
  omega
theorem hP_t (W : Nat → (Nat → Nat) → Nat → Int32) (t : Nat) : hP W t (t + 1) = hP W t t := by
  unfold hP
  rw [hA, if_pos (beq_self_eq_true t)]
theorem hP_s (W : Nat → (Nat → Nat) → Nat → Int32) {t k : Nat} (h : k ≠ t) : hP W t (k + 1) = updH (hP W t k) (chW (W k (hP W t k))) := by
  unfold hP
  rw [hA, if_neg (by simpa using h)]
theorem hP_n (W : Nat → (Nat → Nat) → Nat → Int32) {t n : Nat} (h : t < n) : SM (hP W t n) = n - 1 := by
  unfold hP
  rw [hA_cnt, if_pos h]
  exact Nat.zero_add _
theorem playc_loop {m : zM} {q n rd h e t lp : Nat} {cs : List Cl} (hl : LPl m t lp) (ht : t < n) : ∀ (d g F tk : Nat) (C : zM), g + d = n → d < F → PH C m q n rd h e cs → CG C m cs n rd t lp (hP (WD m cs n rd lp t) t g) tk → tk + hP (WD m cs n rd lp t) t g lp = SM (hP (WD m cs n rd lp t) t g) → (∀ j, j < g → j ≠ t → C.1 21 0 j = nI (chW (WD m cs n rd lp t j (hP (WD m cs n rd lp t) t j)))) →
    ∃ tk' C', qG_playAsEver_L15 q (nI t) F C (nI g) = some (nI tk', C') ∧ CG C' m cs n rd t lp (hP (WD m cs n rd lp t) t n) tk' ∧ tk' + hP (WD m cs n rd lp t) t n lp = SM (hP (WD m cs n rd lp t) t n) ∧ FRg C C' ∧ ∀ j, j < n → j ≠ t → C'.1 21 0 j = nI (chW (WD m cs n rd lp t j (hP (WD m cs n rd lp t) t j)))
  | 0, g, F + 1, tk, C, hd, hF, H, hC, hk, hj => by
    have hn6 := H.2.1
    have e : g = n := hd
    subst e
    refine ⟨tk, C, ?_, hC, hk, FRg_refl _, hj⟩
    unfold qG_playAsEver_L15
    rw [H.2.2.2.2.2.1, if_pos (nI_le (by omega) (by omega)), hC.2.2.1]
  | d + 1, g, F + 1, tk, C, hd, hF, H, hC, hk, hj => by
    have hn6 := H.2.1
    have hn := H.2.2.2.2.2.1
    by_cases hgt : g = t
    · subst hgt
      rw [← hP_t] at hC hk
      obtain ⟨tk', C', k1, k2, k3, k4, k5⟩ := playc_loop hl ht d (g + 1) F tk C (by omega) (by omega) H hC hk (fun j h1 h2 => hj j (by omega) h2)
      refine ⟨tk', C', ?_, k2, k3, k4, k5⟩
      unfold qG_playAsEver_L15
      simp only [zl0, zl1, zl2, zl3, zl4, zl5, zl6, zl7, zl8, zl9, zl10, zl11, zl12, zl13, zl14, zl16, zl18, zl19, zl20, zl22, zl24, zl30, zl32, zl33, zl36, zl38, zl40, zl41, zl48, zl50, zl51, zl57, zl59, zl60, zl61, zl62, zl70, zl71, zl99, zl100, zl103, zl104, zl105, zl106, zl107, zl108, zl109, zl110, zl111, zl112, zl113, zl114, zl115, zl116, zl124, zl127, zl255, zl999, zl1000, zl1001, zl1002, zl1003]
      rw [hn, if_neg (nI_ge (by omega) (by omega)), zjn_e, if_pos trivial, ze_add]
      exact k1
    · obtain ⟨C1, a1, a2, a3, a4, a5⟩ := let_c hC (PH_pp H (show g < n by omega)).2.2.2.2.2.2.2.2 (show g < n by omega) hn6 hgt hl.1 (fun p hp => Nat.le_trans (hP_le _ t g hp) (by omega))
      have ex : wD m cs n rd lp g t (hP (WD m cs n rd lp t) t g) = WD m cs n rd lp t g (hP (WD m cs n rd lp t) t g) := rfl
      rw [ex] at a1 a2 a4
      have hx := chW_lt (WD m cs n rd lp t g (hP (WD m cs n rd lp t) t g))
      have hk' : (tk + if chW (WD m cs n rd lp t g (hP (WD m cs n rd lp t) t g)) = lp then 0 else 1) + hP (WD m cs n rd lp t) t (g + 1) lp = SM (hP (WD m cs n rd lp t) t (g + 1)) := by
        rw [hP_s _ hgt, SM_upd hx]
        unfold updH
        by_cases e : chW (WD m cs n rd lp t g (hP (WD m cs n rd lp t) t g)) = lp
        · rw [if_pos e, if_pos e.symm]; omega
        · rw [if_neg e, if_neg (fun q => e q.symm)]; omega
      rw [← hP_s _ hgt] at a2
      obtain ⟨tk', C', k1, k2, k3, k4, k5⟩ := playc_loop hl ht d (g + 1) F _ C1 (by omega) (by omega) (PH_fr H (FRc_g a3) (FR3_refl m)) a2 hk' (fun j h1 h2 => by
        by_cases e : j = g
        · rw [e]; exact a4
        · rw [a5 j e]; exact hj j (by omega) h2)
      refine ⟨tk', C', ?_, k2, k3, FRg_trans a3 k4, k5⟩
      unfold qG_playAsEver_L15
      simp only [zl0, zl1, zl2, zl3, zl4, zl5, zl6, zl7, zl8, zl9, zl10, zl11, zl12, zl13, zl14, zl16, zl18, zl19, zl20, zl22, zl24, zl30, zl32, zl33, zl36, zl38, zl40, zl41, zl48, zl50, zl51, zl57, zl59, zl60, zl61, zl62, zl70, zl71, zl99, zl100, zl103, zl104, zl105, zl106, zl107, zl108, zl109, zl110, zl111, zl112, zl113, zl114, zl115, zl116, zl124, zl127, zl255, zl999, zl1000, zl1001, zl1002, zl1003]
      rw [hn, if_neg (nI_ge (by omega) (by omega)), zjn_e, if_neg (znI_ne (by omega) (by omega) hgt), zbnd_c a1, ze_add]
      exact k1
/-! the reference -/
def WOK (m : zM) (n t : Nat) (W : Nat → (Nat → Nat) → Nat → Int32) : Prop := ∀ g, g < n → g ≠ t → ∀ hs M, FR3 m M → (∀ p, p < 3 → hs p ≤ 6 ∧ M.1 59 0 p = nI (hs p)) → ∀ M1, FR1 58 M M1 → ∀ p, p < 3 → ∃ M2, qM_weightOf M1 (nI g) (nI t) (nI p) = some (W g hs p, M2) ∧ FR1 58 M1 M2
theorem goes_loop {m : zM} {n t : Nat} {W : Nat → (Nat → Nat) → Nat → Int32} {E : zM → Option (Int32 × zM)} (hn : m.1 40 0 0 = nI n) (hn6 : n ≤ 6) (ht : t < n) (hW : WOK m n t W) : ∀ (d g F : Nat) (M : zM), g + d = n → d < F → FR3 m M → (∀ p, p < 3 → M.1 59 0 p = nI (hP W t g p)) → (∀ j, j < g → j ≠ t → M.1 60 0 j = nI (chW (W j (hP W t j)))) →
    ∃ M', (∀ R, E M' = R → qM_goes_L6 (nI t) E F M (nI g) = R) ∧ FR3 m M' ∧ (∀ p, p < 3 → M'.1 59 0 p = nI (hP W t n p)) ∧ ∀ j, j < n → j ≠ t → M'.1 60 0 j = nI (chW (W j (hP W t j)))
  | 0, g, F + 1, M, hd, hF, hM, hh, hj => by
    have e : g = n := hd
    subst e
    refine ⟨M, fun R hR => ?_, hM, hh, hj⟩
    unfold qM_goes_L6
    rw [hM.2 _ _ _ (by decide) (by decide) (by decide), hn, if_pos (nI_le (by omega) (by omega))]
    exact hR
  | d + 1, g, F + 1, M, hd, hF, hM, hh, hj => by
    have hn' : M.1 40 0 0 = nI n := by rw [hM.2 _ _ _ (by decide) (by decide) (by decide), hn]
    by_cases hgt : g = t
    · subst hgt
      rw [← hP_t] at hh
      obtain ⟨M', k1, k2, k3, k4⟩ := goes_loop hn hn6 ht hW d (g + 1) F M (by omega) (by omega) hM hh (fun j h1 h2 => hj j (by omega) h2)
      refine ⟨M', fun R hR => ?_, k2, k3, k4⟩
      unfold qM_goes_L6
      simp only [zl0, zl1, zl2, zl3, zl4, zl5, zl6, zl7, zl8, zl9, zl10, zl11, zl12, zl13, zl14, zl16, zl18, zl19, zl20, zl22, zl24, zl30, zl32, zl33, zl36, zl38, zl40, zl41, zl48, zl50, zl51, zl57, zl59, zl60, zl61, zl62, zl70, zl71, zl99, zl100, zl103, zl104, zl105, zl106, zl107, zl108, zl109, zl110, zl111, zl112, zl113, zl114, zl115, zl116, zl124, zl127, zl255, zl999, zl1000, zl1001, zl1002, zl1003]
      rw [hn', if_neg (nI_ge (by omega) (by omega)), zjn_e, if_pos trivial, ze_add]
      exact k1 R hR
    · obtain ⟨M1, a1, a2, a3, a4, a5⟩ := guesses_m (m := M) (t := nI t) (show g < 6 by omega) hh (hW g (by omega) hgt (hP W t g) M hM (fun p hp => ⟨Nat.le_trans (hP_le _ t g hp) (by omega), hh p hp⟩))
      rw [← hP_s _ hgt] at a5
      obtain ⟨M', k1, k2, k3, k4⟩ := goes_loop hn hn6 ht hW d (g + 1) F M1 (by omega) (by omega) (FR3_trans hM a2) a5 (fun j h1 h2 => by
        by_cases e : j = g
        · rw [e]; exact a3
        · rw [a4 j e]; exact hj j (by omega) h2)
      refine ⟨M', fun R hR => ?_, k2, k3, k4⟩
      unfold qM_goes_L6
      simp only [zl0, zl1, zl2, zl3, zl4, zl5, zl6, zl7, zl8, zl9, zl10, zl11, zl12, zl13, zl14, zl16, zl18, zl19, zl20, zl22, zl24, zl30, zl32, zl33, zl36, zl38, zl40, zl41, zl48, zl50, zl51, zl57, zl59, zl60, zl61, zl62, zl70, zl71, zl99, zl100, zl103, zl104, zl105, zl106, zl107, zl108, zl109, zl110, zl111, zl112, zl113, zl114, zl115, zl116, zl124, zl127, zl255, zl999, zl1000, zl1001, zl1002, zl1003]
      rw [hn', if_neg (nI_ge (by omega) (by omega)), zjn_e, if_neg (znI_ne (by omega) (by omega) hgt), zbnd_c a1, ze_add]
      exact k1 R hR
theorem clear_e (m : zM) : ∃ M, qM_clearHands m = some ((), M) ∧ FR3 m M ∧ (∀ p, p < 3 → M.1 59 0 p = nI 0) ∧ ∀ j, M.1 60 0 j = m.1 60 0 j := by
  refine ⟨zset (zset (zset m 59 0 0 (nI 0)) 59 0 1 (nI 0)) 59 0 2 (nI 0), ?_, FR3_trans (FR3_trans (FR3_set _ 59 _ _ _ (by omega)) (FR3_set _ 59 _ _ _ (by omega))) (FR3_set _ 59 _ _ _ (by omega)), fun p hp => ?_, fun j => by rw [zg_n (by omega), zg_n (by omega), zg_n (by omega)]⟩
  · have st : ∀ F M p, p < 3 → qM_clearHands_L2 (F + 1) M (nI p) = qM_clearHands_L2 F (zset M 59 0 p (nI 0)) (nI (p + 1)) := by
      intro F M p hp
      generalize hR : qM_clearHands_L2 F (zset M 59 0 p (nI 0)) (nI (p + 1)) = R
      unfold qM_clearHands_L2
      simp only [zl0, zl1, zl2, zl3, zl4, zl5, zl6, zl7, zl8, zl9, zl10, zl11, zl12, zl13, zl14, zl16, zl18, zl19, zl20, zl22, zl24, zl30, zl32, zl33, zl36, zl38, zl40, zl41, zl48, zl50, zl51, zl57, zl59, zl60, zl61, zl62, zl70, zl71, zl99, zl100, zl103, zl104, zl105, zl106, zl107, zl108, zl109, zl110, zl111, zl112, zl113, zl114, zl115, zl116, zl124, zl127, zl255, zl999, zl1000, zl1001, zl1002, zl1003]
      rw [if_neg (nI_ge (by omega) (by omega)), zchk_e (ze_in hp (by omega)), znm_e, ze_cl (show p < 2 ^ 31 by omega), ze_add]
      exact hR
    have fin : ∀ F M, qM_clearHands_L2 (F + 1) M (nI 3) = some ((), M) := by
      intro F M
      unfold qM_clearHands_L2
      simp only [zl0, zl1, zl2, zl3, zl4, zl5, zl6, zl7, zl8, zl9, zl10, zl11, zl12, zl13, zl14, zl16, zl18, zl19, zl20, zl22, zl24, zl30, zl32, zl33, zl36, zl38, zl40, zl41, zl48, zl50, zl51, zl57, zl59, zl60, zl61, zl62, zl70, zl71, zl99, zl100, zl103, zl104, zl105, zl106, zl107, zl108, zl109, zl110, zl111, zl112, zl113, zl114, zl115, zl116, zl124, zl127, zl255, zl999, zl1000, zl1001, zl1002, zl1003]
      rw [if_pos (nI_le (by omega) (by omega))]
    unfold qM_clearHands
    simp only [zl0, zl1, zl2, zl3, zl4, zl5, zl6, zl7, zl8, zl9, zl10, zl11, zl12, zl13, zl14, zl16, zl18, zl19, zl20, zl22, zl24, zl30, zl32, zl33, zl36, zl38, zl40, zl41, zl48, zl50, zl51, zl57, zl59, zl60, zl61, zl62, zl70, zl71, zl99, zl100, zl103, zl104, zl105, zl106, zl107, zl108, zl109, zl110, zl111, zl112, zl113, zl114, zl115, zl116, zl124, zl127, zl255, zl999, zl1000, zl1001, zl1002, zl1003]
    rw [show (1000 : Nat) = 996 + 1 + 1 + 1 + 1 from rfl, st _ _ 0 (by decide), st _ _ 1 (by decide), st _ _ 2 (by decide), fin]
  · rcases (show p = 0 ∨ p = 1 ∨ p = 2 by omega) with rfl | rfl | rfl
    · rw [zg_n (by omega), zg_n (by omega), zg_e ⟨rfl, rfl, rfl⟩]
    · rw [zg_n (by omega), zg_e ⟨rfl, rfl, rfl⟩]
    · rw [zg_e ⟨rfl, rfl, rfl⟩]
theorem goes_m {m : zM} {n t lp : Nat} {W : Nat → (Nat → Nat) → Nat → Int32} (hn : m.1 40 0 0 = nI n) (hn6 : n ≤ 6) (ht : t < n) (hl : LPl m t lp) (hW : WOK m n t W) : ∃ M, qM_goes m (nI t) = some (nI (n - 1 - hP W t n lp), M) ∧ FR3 m M ∧ (∀ p, p < 3 → M.1 59 0 p = nI (hP W t n p)) ∧ ∀ j, j < n → j ≠ t → M.1 60 0 j = nI (chW (W j (hP W t j))) := by
  obtain ⟨A, a1, a2, a3, a4⟩ := clear_e m
  obtain ⟨M, k1, k2, k3, k4⟩ := goes_loop (E := fun (M7 : zM)  => zbnd (qM_liePlace M7 (nI t)) fun x9 M8 => zchk (zin x9 3) (some ((((M7.1 40 0 0) - nI 1) - (M8.1 59 0 x9.toNatClampNeg)), M8))) hn hn6 ht hW n 0 1000 A (by omega) (by omega) a2 a3 (fun j hj => absurd hj (Nat.not_lt_zero _))
  have hb := SM_le (hs := hP W t n) hl.1
  rw [hP_n W ht] at hb
  refine ⟨M, ?_, k2, k3, k4⟩
  unfold qM_goes
  simp only [zl0, zl1, zl2, zl3, zl4, zl5, zl6, zl7, zl8, zl9, zl10, zl11, zl12, zl13, zl14, zl16, zl18, zl19, zl20, zl22, zl24, zl30, zl32, zl33, zl36, zl38, zl40, zl41, zl48, zl50, zl51, zl57, zl59, zl60, zl61, zl62, zl70, zl71, zl99, zl100, zl103, zl104, zl105, zl106, zl107, zl108, zl109, zl110, zl111, zl112, zl113, zl114, zl115, zl116, zl124, zl127, zl255, zl999, zl1000, zl1001, zl1002, zl1003]
  rw [zbnd_c a1]
  refine k1 _ ?_
  have hlp := hl.1
  rw [zbnd_c (liePlace_m (LPl_cg (FR3_k k2) hl) (by omega)), zchk_e (ze_in hlp (by omega)), ze_cl (show lp < 2 ^ 31 by omega), k3 lp hlp, k2.2 _ _ _ (by decide) (by decide) (by decide), hn, ze_sub (by omega), ze_sub (by omega)]
theorem WOK_D {c m : zM} {q n rd h e t lp : Nat} {cs : List Cl} (H : PH c m q n rd h e cs) (hl : LPl m t lp) (ht : t < n) (hpl : m.1 40 0 30 = -nI 1) : WOK m n t (WD m cs n rd lp t) := by
  intro g hg hgt hs M hM hh M1 hM1 p hp
  have hn6 := H.2.1
  have HM : PH c M q n rd h e cs := PH_fr H (FRc_refl c) hM
  have hp30 : nI g ≠ M.1 40 0 30 := by
    rw [hM.2 _ _ _ (by decide) (by decide) (by decide), hpl]
    exact of_eq_false (ze_neq (by omega) (by omega) (by omega))
  have := weights_m (m := M) (lp := lp) (t := t) ⟨HM.2.2.2.2.2.2.2.2.2.2.1, fun p hp => (PH_pp HM hp).2.2.2.2.2.2.2.2, LPl_cg (FR3_k hM) hl, HM.2.2.2.2.2.2.2.1, HM.2.2.2.2.2.2.2.2.1, hn6, HM.2.2.1, ht, hh⟩ hp30 hg M1 hM1 p hp
  rw [wD_F3 hM] at this
  exact this
theorem play_e {c m : zM} {q n rd h e t lp : Nat} {cs : List Cl} (H : PH c m q n rd h e cs) (hl : LPl m t lp) (ht : t < n) (hpl : m.1 40 0 30 = -nI 1) :
    ∃ (C M : zM) (hs : Nat → Nat) (tk : Nat) (gs : Nat → Nat), qG_playAsEver c q (nI t) = some (nI tk, C) ∧ qM_goes m (nI t) = some (nI tk, M) ∧ CG C m cs n rd t lp hs tk ∧ FRc c C ∧ FR3 m M ∧ (∀ p, p < 3 → hs p ≤ 6 ∧ M.1 59 0 p = nI (hs p)) ∧ (∀ j, j < n → j ≠ t → gs j < 3 ∧ C.1 21 0 j = nI (gs j) ∧ M.1 60 0 j = nI (gs j)) ∧ tk ≤ n - 1 := by
  have hn6 := H.2.1
  obtain ⟨A, a1, a2, a3⟩ := begin_c H hl ht
  obtain ⟨tk, C, k1, k2, k3, k4, k5⟩ := playc_loop hl ht n 0 1000 0 A (by omega) (by omega) (PH_fr H a3 (FR3_refl m)) a2 rfl (fun j hj => absurd hj (Nat.not_lt_zero _))
  obtain ⟨M, j1, j2, j3, j4⟩ := goes_m H.2.2.2.2.2.2.2.1 hn6 ht hl (WOK_D H hl ht hpl)
  rw [hP_n _ ht] at k3
  rw [show n - 1 - hP (WD m cs n rd lp t) t n lp = tk by omega] at j1
  refine ⟨C, M, hP (WD m cs n rd lp t) t n, tk, fun j => chW (WD m cs n rd lp t j (hP (WD m cs n rd lp t) t j)), ?_, j1, k2, FRc_trans a3 (FRc_g k4), j2, fun p hp => ⟨Nat.le_trans (hP_le _ t n hp) hn6, j3 p hp⟩, fun j hj hjt => ⟨chW_lt _, k5 j hj hjt, j4 j hj hjt⟩, by omega⟩
  unfold qG_playAsEver
  simp only [zl0, zl1, zl2, zl3, zl4, zl5, zl6, zl7, zl8, zl9, zl10, zl11, zl12, zl13, zl14, zl16, zl18, zl19, zl20, zl22, zl24, zl30, zl32, zl33, zl36, zl38, zl40, zl41, zl48, zl50, zl51, zl57, zl59, zl60, zl61, zl62, zl70, zl71, zl99, zl100, zl103, zl104, zl105, zl106, zl107, zl108, zl109, zl110, zl111, zl112, zl113, zl114, zl115, zl116, zl124, zl127, zl255, zl999, zl1000, zl1001, zl1002, zl1003]
  rw [zbnd_c (H.2.2.2.2.2.2.2.2.2.2.2 c rfl), zbnd_c a1]
  exact k1
