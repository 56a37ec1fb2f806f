/-! PURE PART: the reference's pile. -/
def PL (M : zM) : List Bool → Prop
  | [] => True
  | b :: s => M.1 58 0 s.length = nI (bv b) ∧ PL M s
theorem PL_set {M : zM} {j : Nat} {v : Int32} : ∀ {s : List Bool}, s.length ≤ j → PL M s → PL (zset M 58 0 j v) s
  | [], _, _ => trivial
  | b :: s, hj, h => by
    rw [List.length_cons] at hj
    exact ⟨by rw [zg_n (by omega)]; exact h.1, PL_set (by omega) h.2⟩
/-- alike but for the cells of the kind k -/
def FR1 (k : Nat) (M M' : zM) : Prop := M'.2 = M.2 ∧ ∀ a i j, a ≠ k → M'.1 a i j = M.1 a i j
theorem FR1_refl (k : Nat) (M : zM) : FR1 k M M := ⟨rfl, fun _ _ _ _ => rfl⟩
theorem FR1_trans {k : Nat} {A B C : zM} (h1 : FR1 k A B) (h2 : FR1 k B C) : FR1 k A C := ⟨h2.1.trans h1.1, fun a i j h => (h2.2 a i j h).trans (h1.2 a i j h)⟩
theorem FR1_set (k i j : Nat) (M : zM) (v : Int32) : FR1 k M (zset M k i j v) := ⟨rfl, fun a b c h => zg_n (by omega)⟩
def FC (g t p : Int32) (m : zM) (f : Nat → Int32) : Prop := ∀ M, FR1 58 m M → ∀ l, l < 6 → qM_factOf M (nI l) g t p = some (f l, M)
theorem vp_nb (b : Bool) : vp_nar .boolean (nI (bv b)) = nI (bv b) := by cases b <;> decide +kernel
theorem hold_tok {m M : zM} {c b w d F : Nat} {g t' p : Int32} {f : Nat → Int32} {t : Tk} {s : List Bool} {e : zM → Option (Int32 × zM)} (hF : FC g t' p m f) (hM : FR1 58 m M) (hc : c < 60) (hb : b ≤ 600) (hw : w < b) (h54 : M.1 54 0 c = nI b) (h55 : M.1 55 0 w = tkS t) (hp : PL M s) (hs : s.length ≤ 30) (hd : tkD s.length t = some d) :
    ∃ M', (∀ R, qM_holds_L11 (nI c) g t' p e F M' (nI (tkE f t s).length) (nI (w + 1)) = R → qM_holds_L11 (nI c) g t' p e (F + 1) M (nI s.length) (nI w) = R) ∧ PL M' (tkE f t s) ∧ FR1 58 M M' := by
  obtain ⟨t1, t2, t3⟩ := tkD_ok hd
  by_cases h1 : t.1 < 3
  · have e0 : tkE f t s = tkB f t :: s := by unfold tkE; rw [if_pos h1]
    refine ⟨zset M 58 0 s.length (nI (bv (tkB f t))), fun R hR => ?_, ?_, FR1_set _ _ _ _ _⟩
    · rw [e0, List.length_cons] at hR
      have ht : tkS t = nI (1000 * t.2.1 + 100 * t.1 + t.2.2) := by unfold tkS; rw [if_neg (by omega), if_neg (by omega), if_neg (by omega)]
      have n33 : ¬ nI (1000 * t.2.1 + 100 * t.1 + t.2.2) = -nI 33 := of_eq_false (ze_neq (by omega) (by omega) (by omega))
      have a1 : (1000 * t.2.1 + 100 * t.1 + t.2.2) / 1000 = t.2.1 := by omega
      have a2 : (1000 * t.2.1 + 100 * t.1 + t.2.2) / 100 % 10 = t.1 := by omega
      have a3 : (1000 * t.2.1 + 100 * t.1 + t.2.2) % 100 = t.2.2 := by omega
      unfold qM_holds_L11
      simp only [zl0, zl1, zl2, zl3, zl4, zl5, zl6, zl7, zl8, zl9, zl10, zl11, zl12, zl13, zl14, zl16, zl18, zl19, zl20, zl22, zl24, zl30, zl32, zl33, zl36, zl38, zl40, zl41, zl48, zl50, zl51, zl57, zl59, zl60, zl61, zl62, zl70, zl71, zl99, zl100, zl103, zl104, zl105, zl106, zl107, zl108, zl109, zl110, zl111, zl112, zl113, zl114, zl115, zl116, zl124, zl127, zl255, zl999, zl1000, zl1001, zl1002, zl1003]
      rw [zchk_e (ze_in hc (by omega)), ze_cl (show c < 2 ^ 31 by omega), h54, if_neg (nI_ge hw (by omega)), zchk_e (ze_in (show w < 600 by omega) (by omega)), ze_cl (show w < 2 ^ 31 by omega), h55, ht, znm_e, zjn_e, if_neg n33, if_pos (nI_le (by omega) (by omega)), ze_div (by omega) (by omega) (by omega), a1, zbnd_c (hF M hM _ t2), znm_e, ze_div (by omega) (by omega) (by omega), ze_rem (by omega) (by omega) (by omega), a2, ze_rem (by omega) (by omega) (by omega), a3]
      have fin : ∀ x b, x = nI (bv b) → tkB f t = b → zchk (zin (nI s.length) 100) (znm (zset M 58 0 (nI s.length).toNatClampNeg (vp_nar .boolean x)) fun M17 => qM_holds_L11 (nI c) g t' p e F M17 (nI s.length + nI 1) (nI w + nI 1)) = R := by
        intro x b hx hb'
        rw [hb'] at hR
        rw [hx, zchk_e (ze_in (by omega) (by omega)), znm_e, vp_nb, ze_cl (by omega), ze_add, ze_add]
        exact hR
      simp only [zjn_e]
      rcases (show t.1 = 0 ∨ t.1 = 1 ∨ t.1 = 2 by omega) with q | q | q
      · have k : tkB f t = decide (f t.2.1 < nI t.2.2) := by unfold tkB; rw [if_pos q]
        rw [q, if_pos rfl]
        by_cases u : nI t.2.2 ≤ f t.2.1
        · rw [if_pos u]; exact fin _ false rfl (by rw [k, decide_eq_false (Int32.not_lt.mpr u)])
        · rw [if_neg u]; exact fin _ true rfl (by rw [k, decide_eq_true (Int32.not_le.mp u)])
      · have k : tkB f t = decide (f t.2.1 = nI t.2.2) := by unfold tkB; rw [if_neg (by omega), if_pos q]
        rw [q, if_neg (show ¬ nI 1 = nI 0 from znI_ne (by omega) (by omega) (by omega)), if_pos rfl]
        by_cases u : f t.2.1 = nI t.2.2
        · rw [if_pos u]; exact fin _ true rfl (by rw [k, decide_eq_true u])
        · rw [if_neg u]; exact fin _ false rfl (by rw [k, decide_eq_false u])
      · have k : tkB f t = decide (nI t.2.2 < f t.2.1) := by unfold tkB; rw [if_neg (by omega), if_neg (by omega)]
        rw [q, if_neg (show ¬ nI 2 = nI 0 from znI_ne (by omega) (by omega) (by omega)), if_neg (show ¬ nI 2 = nI 1 from znI_ne (by omega) (by omega) (by omega))]
        by_cases u : f t.2.1 ≤ nI t.2.2
        · rw [if_pos u]; exact fin _ false rfl (by rw [k, decide_eq_false (Int32.not_lt.mpr u)])
        · rw [if_neg u]; exact fin _ true rfl (by rw [k, decide_eq_true (Int32.not_le.mp u)])
    · rw [e0]
      exact ⟨zg_e ⟨rfl, rfl, rfl⟩, PL_set (Nat.le_refl _) hp⟩
  cases s with
  | nil =>
    exfalso
    unfold tkD at hd
    rw [if_neg h1] at hd
    by_cases h3 : t.1 = 3
    · rw [if_pos h3, if_neg (by simp only [List.length_nil]; omega)] at hd; cases hd
    · rw [if_neg h3, if_pos t1, if_neg (by simp only [List.length_nil]; omega)] at hd; cases hd
  | cons b' s =>
    by_cases h3 : t.1 = 3
    · have e0 : tkE f t (b' :: s) = (!b') :: s := by unfold tkE; rw [if_neg h1]; dsimp only; rw [if_pos h3]
      have ht : tkS t = -nI 33 := by unfold tkS; rw [if_pos h3]
      rw [List.length_cons] at hs
      refine ⟨zset M 58 0 s.length (nI (bv (!b'))), fun R hR => ?_, ?_, FR1_set _ _ _ _ _⟩
      · rw [e0, List.length_cons] at hR
        rw [List.length_cons]
        unfold qM_holds_L11
        simp only [zl0, zl1, zl2, zl3, zl4, zl5, zl6, zl7, zl8, zl9, zl10, zl11, zl12, zl13, zl14, zl16, zl18, zl19, zl20, zl22, zl24, zl30, zl32, zl33, zl36, zl38, zl40, zl41, zl48, zl50, zl51, zl57, zl59, zl60, zl61, zl62, zl70, zl71, zl99, zl100, zl103, zl104, zl105, zl106, zl107, zl108, zl109, zl110, zl111, zl112, zl113, zl114, zl115, zl116, zl124, zl127, zl255, zl999, zl1000, zl1001, zl1002, zl1003]
        rw [zchk_e (ze_in hc (by omega)), ze_cl (show c < 2 ^ 31 by omega), h54, if_neg (nI_ge hw (by omega)), zchk_e (ze_in (show w < 600 by omega) (by omega)), ze_cl (show w < 2 ^ 31 by omega), h55, ht, znm_e, zjn_e, if_pos rfl, pk_sub (show 1 ≤ s.length + 1 by omega), Nat.add_sub_cancel, zchk_e (ze_in (show s.length < 100 by omega) (by omega)), ze_cl (show s.length < 2 ^ 31 by omega), zjn_e, hp.1]
        have fin : ∀ x, x = nI (bv (!b')) → zchk (zin (nI s.length) 100) (znm (zset M 58 0 s.length (vp_nar .boolean x)) fun M9 => qM_holds_L11 (nI c) g t' p e F M9 (nI (s.length + 1)) (nI w + nI 1)) = R := by
          intro x hx
          rw [hx, zchk_e (ze_in (by omega) (by omega)), znm_e, vp_nb, ze_add]
          exact hR
        cases b'
        · rw [if_pos (show nI (bv false) = nI 0 from rfl)]
          exact fin _ rfl
        · rw [if_neg (show ¬ nI (bv true) = nI 0 from znI_ne (by decide) (by decide) (by decide))]
          exact fin _ rfl
      · rw [e0]
        exact ⟨zg_e ⟨rfl, rfl, rfl⟩, PL_set (Nat.le_refl _) hp.2⟩
    · cases s with
      | nil =>
        exfalso
        unfold tkD at hd
        rw [if_neg h1, if_neg h3, if_pos t1, if_neg (by simp only [List.length_nil, List.length_cons]; omega)] at hd
        cases hd
      | cons a s =>
        rw [List.length_cons, List.length_cons] at hs
        have p1 : M.1 58 0 (s.length + 1) = nI (bv b') := hp.1
        have p2 : M.1 58 0 s.length = nI (bv a) := hp.2.1
        have m33 : ¬ (-nI 38 : Int32) = -nI 33 := by decide +kernel
        have m33' : ¬ (-nI 124 : Int32) = -nI 33 := by decide +kernel
        have m38' : ¬ (-nI 124 : Int32) = -nI 38 := by decide +kernel
        have l38 : ¬ nI 0 ≤ (-nI 38 : Int32) := of_eq_false (ze_nle (by omega) (by omega) (by omega))
        have l124 : ¬ nI 0 ≤ (-nI 124 : Int32) := of_eq_false (ze_nle (by omega) (by omega) (by omega))
        have v1 : nI (s.length + 1 + 1) + (-nI 1) = nI (s.length + 1) := by rw [← zl1]; exact pk_m1 _
        have v2 : nI (s.length + 1) - nI 1 = nI s.length := by rw [pk_sub (by omega)]; rfl
        have nf : nI (bv false) = nI 0 := rfl
        have nt : ¬ nI (bv true) = nI 0 := znI_ne (by decide) (by decide) (by decide)
        rcases (show t.1 = 4 ∨ t.1 = 5 by omega) with h4 | h4
        · have e0 : tkE f t (b' :: a :: s) = (a && b') :: s := by unfold tkE; rw [if_neg h1]; dsimp only; rw [if_neg h3]; rw [if_pos h4]
          have ht : tkS t = -nI 38 := by unfold tkS; rw [if_neg h3, if_pos h4]
          refine ⟨zset M 58 0 s.length (nI (bv (a && b'))), fun R hR => ?_, ?_, FR1_set _ _ _ _ _⟩
          · rw [e0, List.length_cons] at hR
            rw [List.length_cons, List.length_cons]
            unfold qM_holds_L11
            simp only [zl0, zl1, zl2, zl3, zl4, zl5, zl6, zl7, zl8, zl9, zl10, zl11, zl12, zl13, zl14, zl16, zl18, zl19, zl20, zl22, zl24, zl30, zl32, zl33, zl36, zl38, zl40, zl41, zl48, zl50, zl51, zl57, zl59, zl60, zl61, zl62, zl70, zl71, zl99, zl100, zl103, zl104, zl105, zl106, zl107, zl108, zl109, zl110, zl111, zl112, zl113, zl114, zl115, zl116, zl124, zl127, zl255, zl999, zl1000, zl1001, zl1002, zl1003]
            rw [zchk_e (ze_in hc (by omega)), ze_cl (show c < 2 ^ 31 by omega), h54, if_neg (nI_ge hw (by omega)), zchk_e (ze_in (show w < 600 by omega) (by omega)), ze_cl (show w < 2 ^ 31 by omega), h55, ht, znm_e, zjn_e, if_neg m33, if_neg l38, v1, v2, zjn_e, if_pos rfl, zchk_e (ze_in (show s.length < 100 by omega) (by omega)), ze_cl (show s.length < 2 ^ 31 by omega), ze_cl (show s.length + 1 < 2 ^ 31 by omega), zjn_e, p2, p1, zchk_e (ze_in (show s.length + 1 < 100 by omega) (by omega))]
            have fin : ∀ x, x = nI (bv (a && b')) → zchk (zin (nI s.length) 100) (znm (zset M 58 0 s.length (vp_nar .boolean x)) fun M9 => qM_holds_L11 (nI c) g t' p e F M9 (nI (s.length + 1)) (nI w + nI 1)) = R := by
              intro x hx
              rw [hx, zchk_e (ze_in (by omega) (by omega)), znm_e, vp_nb, ze_add]
              exact hR
            cases a
            · rw [if_pos nf]; exact fin _ rfl
            · rw [if_neg nt]
              cases b'
              · rw [if_pos nf]; exact fin _ rfl
              · rw [if_neg nt]; exact fin _ rfl
          · rw [e0]
            exact ⟨zg_e ⟨rfl, rfl, rfl⟩, PL_set (Nat.le_refl _) hp.2.2⟩
        · have e0 : tkE f t (b' :: a :: s) = (a || b') :: s := by unfold tkE; rw [if_neg h1]; dsimp only; rw [if_neg h3]; rw [if_neg (by omega)]
          have ht : tkS t = -nI 124 := by unfold tkS; rw [if_neg h3, if_neg (by omega), if_pos h4]
          refine ⟨zset M 58 0 s.length (nI (bv (a || b'))), fun R hR => ?_, ?_, FR1_set _ _ _ _ _⟩
          · rw [e0, List.length_cons] at hR
            rw [List.length_cons, List.length_cons]
            unfold qM_holds_L11
            simp only [zl0, zl1, zl2, zl3, zl4, zl5, zl6, zl7, zl8, zl9, zl10, zl11, zl12, zl13, zl14, zl16, zl18, zl19, zl20, zl22, zl24, zl30, zl32, zl33, zl36, zl38, zl40, zl41, zl48, zl50, zl51, zl57, zl59, zl60, zl61, zl62, zl70, zl71, zl99, zl100, zl103, zl104, zl105, zl106, zl107, zl108, zl109, zl110, zl111, zl112, zl113, zl114, zl115, zl116, zl124, zl127, zl255, zl999, zl1000, zl1001, zl1002, zl1003]
            rw [zchk_e (ze_in hc (by omega)), ze_cl (show c < 2 ^ 31 by omega), h54, if_neg (nI_ge hw (by omega)), zchk_e (ze_in (show w < 600 by omega) (by omega)), ze_cl (show w < 2 ^ 31 by omega), h55, ht, znm_e, zjn_e, if_neg m33', if_neg l124, v1, v2, zjn_e, if_neg m38', zchk_e (ze_in (show s.length < 100 by omega) (by omega)), ze_cl (show s.length < 2 ^ 31 by omega), ze_cl (show s.length + 1 < 2 ^ 31 by omega), zjn_e, p2, p1, zchk_e (ze_in (show s.length + 1 < 100 by omega) (by omega))]
            have fin : ∀ x, x = nI (bv (a || b')) → zchk (zin (nI s.length) 100) (znm (zset M 58 0 s.length (vp_nar .boolean x)) fun M9 => qM_holds_L11 (nI c) g t' p e F M9 (nI (s.length + 1)) (nI w + nI 1)) = R := by
              intro x hx
              rw [hx, zchk_e (ze_in (by omega) (by omega)), znm_e, vp_nb, ze_add]
              exact hR
            cases a
            · rw [if_pos nf]
              cases b'
              · rw [if_pos nf]; exact fin _ rfl
              · rw [if_neg nt]; exact fin _ rfl
            · rw [if_neg nt]; exact fin _ rfl
          · rw [e0]
            exact ⟨zg_e ⟨rfl, rfl, rfl⟩, PL_set (Nat.le_refl _) hp.2.2⟩
