/-! PURE PART: a CLAUSE, read by the reference. -/
def FQ (M M' : zM) : Prop := M'.2 = M.2 ∧ ∀ k j, ¬ (k = 40 ∧ (j = 13 ∨ j = 14)) → M'.1 k 0 j = M.1 k 0 j
theorem FQ_refl (M : zM) : FQ M M := ⟨rfl, fun _ _ _ => rfl⟩
theorem FQ_trans {A B C : zM} (h1 : FQ A B) (h2 : FQ B C) : FQ A C := ⟨h2.1.trans h1.1, fun k j q => (h2.2 k j q).trans (h1.2 k j q)⟩
theorem FQ_13 (M : zM) (v : Int32) : FQ M (zset M 40 0 13 v) := ⟨rfl, fun k j q => zg_n (by omega)⟩
theorem FQ_14 (M : zM) (v : Int32) : FQ M (zset M 40 0 14 v) := ⟨rfl, fun k j q => zg_n (by omega)⟩
theorem BM_cg {M M' : zM} {s : Nat → Nat} {tl : Nat} (hB : BM M s tl) (h : ∀ k j, (k = 40 ∧ j = 12) ∨ k = 49 → M'.1 k 0 j = M.1 k 0 j) : BM M' s tl := ⟨hB.1, by rw [h _ _ (by omega), hB.2.1], fun j hj => ⟨(hB.2.2.1 j hj).1, by rw [h _ _ (by omega), (hB.2.2.1 j hj).2]⟩, hB.2.2.2⟩
theorem BM_Q {M M' : zM} {s : Nat → Nat} {tl : Nat} (hB : BM M s tl) (h : FQ M M') : BM M' s tl := BM_cg hB (fun k j q => h.2 k j (by omega))
section
variable {s : Nat → Nat} {tl : Nat}
theorem nextQ {M : zM} {a : Nat} (hB : BM M s tl) (h : M.1 40 0 13 = nI a) (ha : a ≤ tl) : qM_next M = some (bI s tl a, M) := by
  have htl := hB.1
  unfold qM_next bI
  simp only [zl0, zl1, zl2, zl3, zl4, zl5, zl6, zl7, zl8, zl9, zl10, zl11, zl12, zl13, zl14, zl16, zl18, zl19, zl20, zl22, zl24, zl30, zl32, zl33, zl36, zl38, zl40, zl41, zl48, zl50, zl51, zl57, zl59, zl60, zl61, zl62, zl70, zl71, zl99, zl100, zl103, zl104, zl105, zl106, zl107, zl108, zl109, zl110, zl111, zl112, zl113, zl114, zl115, zl116, zl124, zl127, zl255, zl999, zl1000, zl1001, zl1002, zl1003]
  rw [h, hB.2.1]
  by_cases q : tl ≤ a
  · rw [if_pos (nI_le (by omega) (by omega)), if_pos q]
  · rw [if_neg (nI_ge (by omega) (by omega)), if_neg q, zchk_e (ze_in (by omega) (by omega)), ze_cl (show a < 2 ^ 31 by omega), (hB.2.2.1 a (by omega)).2]
theorem takeQ_y {M : zM} {a x : Nat} (hB : BM M s tl) (h : M.1 40 0 13 = nI a) (ha : a ≤ tl) (hx : x < 128) (hs : s a = x) : qM_takes M (nI x) = some (nI 1, zset M 40 0 13 (nI (a + 1))) := by
  unfold qM_takes
  simp only [zl0, zl1, zl2, zl3, zl4, zl5, zl6, zl7, zl8, zl9, zl10, zl11, zl12, zl13, zl14, zl16, zl18, zl19, zl20, zl22, zl24, zl30, zl32, zl33, zl36, zl38, zl40, zl41, zl48, zl50, zl51, zl57, zl59, zl60, zl61, zl62, zl70, zl71, zl99, zl100, zl103, zl104, zl105, zl106, zl107, zl108, zl109, zl110, zl111, zl112, zl113, zl114, zl115, zl116, zl124, zl127, zl255, zl999, zl1000, zl1001, zl1002, zl1003]
  rw [zbnd_c (nextQ hB h ha), if_pos (bI_y hB.2.2.2 hx hs), h, ze_add, znm_e]
theorem takeQ_n {M : zM} {a x : Nat} (hB : BM M s tl) (h : M.1 40 0 13 = nI a) (ha : a ≤ tl) (hx : x < 128) (hs : s a ≠ x) : qM_takes M (nI x) = some (nI 0, M) := by
  unfold qM_takes
  simp only [zl0, zl1, zl2, zl3, zl4, zl5, zl6, zl7, zl8, zl9, zl10, zl11, zl12, zl13, zl14, zl16, zl18, zl19, zl20, zl22, zl24, zl30, zl32, zl33, zl36, zl38, zl40, zl41, zl48, zl50, zl51, zl57, zl59, zl60, zl61, zl62, zl70, zl71, zl99, zl100, zl103, zl104, zl105, zl106, zl107, zl108, zl109, zl110, zl111, zl112, zl113, zl114, zl115, zl116, zl124, zl127, zl255, zl999, zl1000, zl1001, zl1002, zl1003]
  rw [zbnd_c (nextQ hB h ha), if_neg (bI_n hB hx hs)]
theorem isdQ {M : zM} {a : Nat} (hB : BM M s tl) (h : M.1 40 0 13 = nI a) (ha : a ≤ tl) : qM_isDigit M = some (if dg (s a) = true then nI 1 else nI 0, M) := by
  have htl := hB.1
  unfold qM_isDigit
  simp only [zl0, zl1, zl2, zl3, zl4, zl5, zl6, zl7, zl8, zl9, zl10, zl11, zl12, zl13, zl14, zl16, zl18, zl19, zl20, zl22, zl24, zl30, zl32, zl33, zl36, zl38, zl40, zl41, zl48, zl50, zl51, zl57, zl59, zl60, zl61, zl62, zl70, zl71, zl99, zl100, zl103, zl104, zl105, zl106, zl107, zl108, zl109, zl110, zl111, zl112, zl113, zl114, zl115, zl116, zl124, zl127, zl255, zl999, zl1000, zl1001, zl1002, zl1003]
  rw [zbnd_c (nextQ hB h ha)]
  unfold bI
  by_cases q : tl ≤ a
  · have := hB.2.2.2 a q
    rw [if_pos q, if_neg (by rw [dg_e]; omega)]
    have : qM_in M (-nI 1) (nI 48) (nI 57) = some (nI 0, M) := by
      unfold qM_in
      simp only [zl0, zl1, zl2, zl3, zl4, zl5, zl6, zl7, zl8, zl9, zl10, zl11, zl12, zl13, zl14, zl16, zl18, zl19, zl20, zl22, zl24, zl30, zl32, zl33, zl36, zl38, zl40, zl41, zl48, zl50, zl51, zl57, zl59, zl60, zl61, zl62, zl70, zl71, zl99, zl100, zl103, zl104, zl105, zl106, zl107, zl108, zl109, zl110, zl111, zl112, zl113, zl114, zl115, zl116, zl124, zl127, zl255, zl999, zl1000, zl1001, zl1002, zl1003]
      rw [if_pos (by decide +kernel)]
    rw [zbnd_c this]
  · have := (hB.2.2.1 a (by omega)).1
    rw [if_neg q]
    by_cases q2 : s a < 48
    · rw [zbnd_c (qM_in_lo M q2 (by omega)), if_neg (by rw [dg_e]; omega)]
    by_cases q3 : 57 < s a
    · rw [zbnd_c (qM_in_hi M (show 48 ≤ s a by omega) q3 (by omega)), if_neg (by rw [dg_e]; omega)]
    · rw [zbnd_c (qM_in_ok2 M (show 48 ≤ s a by omega) (show s a ≤ 57 by omega) (by omega)), if_pos (by rw [dg_e]; omega)]
theorem numQ {M : zM} {a : Nat} (hB : BM M s tl) (h : M.1 40 0 13 = nI a) (ha : a ≤ tl) : ∃ M', qM_takesNumber M = some (nI (bv (pNum s a).1), M') ∧ FQ M M' ∧ M'.1 40 0 13 = nI (pNum s a).2.1 ∧ ((pNum s a).1 = true → M'.1 40 0 14 = nI (pNum s a).2.2) := by
  have htl := hB.1
  have d0 := isdQ hB h ha
  have stp : ∀ F v x a M, BM M s tl → M.1 40 0 13 = nI a → a ≤ tl → v < 2 → M.1 40 0 14 = nI x → x < 10 → dg (s a) = true → ∃ M', (∀ R, qM_takesNumber_L16 F M' (nI (v + 1)) = R → qM_takesNumber_L16 (F + 1) M (nI v) = R) ∧ FQ M M' ∧ M'.1 40 0 13 = nI (a + 1) ∧ M'.1 40 0 14 = nI (x * 10 + (s a - 48)) := by
    intro F v x a M hB h ha hv hx hx10 hd
    have k1 := dg_e.mp hd
    have i1 := in_tl hB.2.2.2 (a := a) (by omega)
    have d1 := isdQ hB h ha
    rw [if_pos hd] at d1
    have n1 := nextQ hB h ha
    have eb : bI s tl a = nI (s a) := bI_y hB.2.2.2 (by omega) rfl
    rw [eb] at n1
    refine ⟨zset (zset M 40 0 14 (nI (x * 10 + (s a - 48)))) 40 0 13 (nI (a + 1)), fun R hR => ?_, FQ_trans (FQ_14 _ _) (FQ_13 _ _), zg_e ⟨rfl, rfl, rfl⟩, by rw [zg_n (by omega), zg_e ⟨rfl, rfl, rfl⟩]⟩
    unfold qM_takesNumber_L16
    simp only [zl0, zl1, zl2, zl3, zl4, zl5, zl6, zl7, zl8, zl9, zl10, zl11, zl12, zl13, zl14, zl16, zl18, zl19, zl20, zl22, zl24, zl30, zl32, zl33, zl36, zl38, zl40, zl41, zl48, zl50, zl51, zl57, zl59, zl60, zl61, zl62, zl70, zl71, zl99, zl100, zl103, zl104, zl105, zl106, zl107, zl108, zl109, zl110, zl111, zl112, zl113, zl114, zl115, zl116, zl124, zl127, zl255, zl999, zl1000, zl1001, zl1002, zl1003]
    rw [if_neg (nI_ge (by omega) (by omega)), zb_y d1, zbnd_c n1, hx, ze_mul, ze_add, ze_sub (by omega), znm_e, zg_n (by omega), h, ze_add, znm_e, ze_add, show 10 * x + s a - 48 = x * 10 + (s a - 48) by omega]
    exact hR
  have fin : ∀ F v a M, BM M s tl → M.1 40 0 13 = nI a → a ≤ tl → (v = 2 ∨ (v < 2 ∧ ¬ dg (s a) = true)) → qM_takesNumber_L16 (F + 1) M (nI v) = some (nI 1, M) := by
    intro F v a M hB h ha hv
    unfold qM_takesNumber_L16
    simp only [zl0, zl1, zl2, zl3, zl4, zl5, zl6, zl7, zl8, zl9, zl10, zl11, zl12, zl13, zl14, zl16, zl18, zl19, zl20, zl22, zl24, zl30, zl32, zl33, zl36, zl38, zl40, zl41, zl48, zl50, zl51, zl57, zl59, zl60, zl61, zl62, zl70, zl71, zl99, zl100, zl103, zl104, zl105, zl106, zl107, zl108, zl109, zl110, zl111, zl112, zl113, zl114, zl115, zl116, zl124, zl127, zl255, zl999, zl1000, zl1001, zl1002, zl1003]
    rcases hv with rfl | ⟨v2, hd⟩
    · rw [if_pos (nI_le (by omega) (by omega))]
    · have d1 := isdQ hB h ha
      rw [if_neg hd] at d1
      rw [if_neg (nI_ge (by omega) (by omega)), zb_n d1]
  unfold pNum
  by_cases q1 : dg (s a) = true
  · have k1 := dg_e.mp q1
    have i1 := in_tl hB.2.2.2 (a := a) (by omega)
    rw [if_pos q1] at d0 ⊢
    obtain ⟨M1, a1, a2, a3, a4⟩ := stp 999 0 0 a (zset M 40 0 14 (nI 0)) (BM_Q hB (FQ_14 _ _)) (by rw [zg_n (by omega), h]) ha (by decide) (zg_e ⟨rfl, rfl, rfl⟩) (by decide) q1
    have f1 : FQ M M1 := FQ_trans (FQ_14 _ _) a2
    have head : ∀ R, qM_takesNumber_L16 999 M1 (nI 1) = R → qM_takesNumber M = R := by
      intro R hR
      unfold qM_takesNumber
      simp only [zl0, zl1, zl2, zl3, zl4, zl5, zl6, zl7, zl8, zl9, zl10, zl11, zl12, zl13, zl14, zl16, zl18, zl19, zl20, zl22, zl24, zl30, zl32, zl33, zl36, zl38, zl40, zl41, zl48, zl50, zl51, zl57, zl59, zl60, zl61, zl62, zl70, zl71, zl99, zl100, zl103, zl104, zl105, zl106, zl107, zl108, zl109, zl110, zl111, zl112, zl113, zl114, zl115, zl116, zl124, zl127, zl255, zl999, zl1000, zl1001, zl1002, zl1003]
      rw [zb_y d0, znm_e]
      exact a1 R hR
    have a4' : M1.1 40 0 14 = nI (s a - 48) := by rw [a4, Nat.zero_mul, Nat.zero_add]
    by_cases q2 : dg (s (a + 1)) = true
    · have k2 := dg_e.mp q2
      have i2 := in_tl hB.2.2.2 (a := a + 1) (by omega)
      obtain ⟨M2, b1, b2, b3, b4⟩ := stp 998 1 (s a - 48) (a + 1) M1 (BM_Q hB f1) a3 (by omega) (by decide) a4' (by omega) q2
      rw [if_pos q2]
      exact ⟨M2, head _ (b1 _ (fin 997 2 (a + 1 + 1) M2 (BM_Q hB (FQ_trans f1 b2)) b3 (by omega) (Or.inl rfl))), FQ_trans f1 b2, b3, fun _ => b4⟩
    · rw [if_neg q2]
      exact ⟨M1, head _ (fin 998 1 (a + 1) M1 (BM_Q hB f1) a3 (by omega) (Or.inr ⟨by decide, q2⟩)), f1, a3, fun _ => a4'⟩
  · rw [if_neg q1] at d0 ⊢
    refine ⟨M, ?_, FQ_refl M, h, fun q => absurd (show false = true from q) Bool.false_ne_true⟩
    unfold qM_takesNumber
    simp only [zl0, zl1, zl2, zl3, zl4, zl5, zl6, zl7, zl8, zl9, zl10, zl11, zl12, zl13, zl14, zl16, zl18, zl19, zl20, zl22, zl24, zl30, zl32, zl33, zl36, zl38, zl40, zl41, zl48, zl50, zl51, zl57, zl59, zl60, zl61, zl62, zl70, zl71, zl99, zl100, zl103, zl104, zl105, zl106, zl107, zl108, zl109, zl110, zl111, zl112, zl113, zl114, zl115, zl116, zl124, zl127, zl255, zl999, zl1000, zl1001, zl1002, zl1003]
    rw [zb_n d0]
    rfl
def frm (k : Nat) : Nat := if k = 0 then 7 else if k = 1 then 0 else 3
theorem frm_key : ∀ k, k < 3 → ∀ v, v < 7 → v + 1 < (wd k).length → frm k + v < 12 ∧ zletters.getD (frm k + v) 0 = (wd k).getD v 0 := by decide
theorem wd_32 : ∀ k, k < 3 → (wd k).getD ((wd k).length - 1) 0 = 32 := by decide
theorem wordQ {k : Nat} (hk : k < 3) : ∀ (l : List Nat) (v a F : Nat) (M : zM), (wd k).drop v = l → v < (wd k).length → l.length < F + 1 → BM M s tl → Rlt M → M.1 40 0 13 = nI a → a ≤ tl → ∃ M', qM_takesWord_L2 (nI (frm k)) (nI ((wd k).length - 1)) (fun (M4 : zM)  => zbnd (qM_takes M4 (nI 32)) fun x6 M5 => some (x6, M5)) F M (nI v) = some (nI (bv (pWord s l a).1), M') ∧ FQ M M' ∧ M'.1 40 0 13 = nI (pWord s l a).2
  | [], v, a, F, M, hl, hv, hF, hB, hr, h, ha => by
    have e1 := congrArg List.length hl
    rw [List.length_drop] at e1
    have e1 : (wd k).length - v = 0 := e1
    omega
  | x :: l, v, a, 0, M, hl, hv, hF, hB, hr, h, ha => by
    rw [List.length_cons] at hF
    omega
  | x :: l, v, a, F + 1, M, hl, hv, hF, hB, hr, h, ha => by
    have e1 := congrArg List.length hl
    rw [List.length_drop, List.length_cons] at e1
    have w2 := (wd_ch k hk).2.1
    have hx : (wd k).getD v 0 = x := by
      have : ((wd k).drop v)[0]? = some x := by rw [hl]; rfl
      rw [List.getElem?_drop, Nat.add_zero] at this
      rw [List.getD_eq_getElem?_getD, this]
      rfl
    have hx128 := ((wd_ch k hk).2.2 v hv).2
    rw [hx] at hx128
    have hn : (wd k).drop (v + 1) = l := by
      rw [← List.drop_drop, hl]; rfl
    rw [List.length_cons] at hF
    unfold pWord
    by_cases hlast : v + 1 = (wd k).length
    · have el : l = [] := by
        cases l with
        | nil => rfl
        | cons y l => rw [List.length_cons] at e1; omega
      have e32 : x = 32 := by
        have := wd_32 k hk
        rw [show (wd k).length - 1 = v by omega, hx] at this
        exact this
      subst el
      subst e32
      by_cases q : s a = 32
      · rw [if_pos q]
        refine ⟨zset M 40 0 13 (nI (a + 1)), ?_, FQ_13 _ _, zg_e ⟨rfl, rfl, rfl⟩⟩
        unfold qM_takesWord_L2
        rw [if_pos (nI_le (by omega) (by omega)), zbnd_c (takeQ_y hB h ha hx128 q)]
        rfl
      · rw [if_neg q]
        refine ⟨M, ?_, FQ_refl M, h⟩
        unfold qM_takesWord_L2
        rw [if_pos (nI_le (by omega) (by omega)), zbnd_c (takeQ_n hB h ha hx128 q)]
        rfl
    · obtain ⟨r1, r2⟩ := frm_key k hk v (by omega) (by omega)
      have e57 : M.1 57 0 (frm k + v) = nI x := by rw [hr _ r1, r2, hx]
      by_cases q : s a = x
      · have i1 := in_tl hB.2.2.2 (a := a) (by omega)
        obtain ⟨M', k1, k2, k3⟩ := wordQ hk l (v + 1) (a + 1) F (zset M 40 0 13 (nI (a + 1))) hn (by omega) (by omega) (BM_Q hB (FQ_13 _ _)) (fun j hj => by rw [zg_n (by omega), hr j hj]) (zg_e ⟨rfl, rfl, rfl⟩) (by omega)
        rw [if_pos q]
        refine ⟨M', ?_, FQ_trans (FQ_13 _ _) k2, k3⟩
        unfold qM_takesWord_L2
        simp only [zl0, zl1, zl2, zl3, zl4, zl5, zl6, zl7, zl8, zl9, zl10, zl11, zl12, zl13, zl14, zl16, zl18, zl19, zl20, zl22, zl24, zl30, zl32, zl33, zl36, zl38, zl40, zl41, zl48, zl50, zl51, zl57, zl59, zl60, zl61, zl62, zl70, zl71, zl99, zl100, zl103, zl104, zl105, zl106, zl107, zl108, zl109, zl110, zl111, zl112, zl113, zl114, zl115, zl116, zl124, zl127, zl255, zl999, zl1000, zl1001, zl1002, zl1003] at k1 ⊢
        rw [if_neg (nI_ge (by omega) (by omega)), ze_add, zchk_e (ze_in r1 (by omega)), ze_cl (show frm k + v < 2 ^ 31 by omega), e57, zb_y (takeQ_y hB h ha hx128 q), ze_add]
        exact k1
      · rw [if_neg q]
        refine ⟨M, ?_, FQ_refl M, h⟩
        unfold qM_takesWord_L2
        simp only [zl0, zl1, zl2, zl3, zl4, zl5, zl6, zl7, zl8, zl9, zl10, zl11, zl12, zl13, zl14, zl16, zl18, zl19, zl20, zl22, zl24, zl30, zl32, zl33, zl36, zl38, zl40, zl41, zl48, zl50, zl51, zl57, zl59, zl60, zl61, zl62, zl70, zl71, zl99, zl100, zl103, zl104, zl105, zl106, zl107, zl108, zl109, zl110, zl111, zl112, zl113, zl114, zl115, zl116, zl124, zl127, zl255, zl999, zl1000, zl1001, zl1002, zl1003]
        rw [if_neg (nI_ge (by omega) (by omega)), ze_add, zchk_e (ze_in r1 (by omega)), ze_cl (show frm k + v < 2 ^ 31 by omega), e57, zb_n (takeQ_n hB h ha hx128 q)]
        rfl
/-- alike but for the word that is read: 40 (13, 14) and what k the clause is of -/
def FH (cn : Nat) (M M' : zM) : Prop := M'.2 = M.2 ∧ ∀ k j, ¬ (k = 40 ∧ (j = 13 ∨ j = 14)) → ¬ (k = 51 ∧ j = cn) → M'.1 k 0 j = M.1 k 0 j
theorem head_m {M : zM} {a cn : Nat} (hB : BM M s tl) (hr : Rlt M) (h : M.1 40 0 13 = nI a) (ha : a ≤ tl) (hcn : cn < 60) : ∃ M', qM_takesHead M (nI cn) = some (nI (bv (pWord s (wd (if s a = 111 then 1 else if s a = 115 then 2 else 0)) a).1), M') ∧ FH cn M M' ∧ M'.1 40 0 13 = nI (pWord s (wd (if s a = 111 then 1 else if s a = 115 then 2 else 0)) a).2 ∧ M'.1 51 0 cn = nI (if s a = 111 then 0 else if s a = 115 then 1 else 2) := by
  have gen : ∀ k x, k < 3 → ∃ M', qM_takesWord (zset M 51 0 cn (nI x)) (nI (frm k)) (nI ((wd k).length - 1)) = some (nI (bv (pWord s (wd k) a).1), M') ∧ FH cn M M' ∧ M'.1 40 0 13 = nI (pWord s (wd k) a).2 ∧ M'.1 51 0 cn = nI x := by
    intro k x hk
    have w2 := (wd_ch k hk).2.1
    have w5 := (wd_lt k hk).2
    obtain ⟨M', k1, k2, k3⟩ := wordQ hk (wd k) 0 a 1000 (zset M 51 0 cn (nI x)) rfl (by omega) (by omega) (BM_cg hB (fun k j q => zg_n (by omega))) (fun j hj => by rw [zg_n (by omega), hr j hj]) (by rw [zg_n (by omega), h]) ha
    refine ⟨M', ?_, ⟨k2.1, fun k j q1 q2 => by rw [k2.2 k j q1, zg_n (by omega)]⟩, k3, by rw [k2.2 _ _ (by omega), zg_e ⟨rfl, rfl, rfl⟩]⟩
    unfold qM_takesWord
    simp only [zl0, zl1, zl2, zl3, zl4, zl5, zl6, zl7, zl8, zl9, zl10, zl11, zl12, zl13, zl14, zl16, zl18, zl19, zl20, zl22, zl24, zl30, zl32, zl33, zl36, zl38, zl40, zl41, zl48, zl50, zl51, zl57, zl59, zl60, zl61, zl62, zl70, zl71, zl99, zl100, zl103, zl104, zl105, zl106, zl107, zl108, zl109, zl110, zl111, zl112, zl113, zl114, zl115, zl116, zl124, zl127, zl255, zl999, zl1000, zl1001, zl1002, zl1003]
    exact k1
  unfold qM_takesHead
  simp only [zl0, zl1, zl2, zl3, zl4, zl5, zl6, zl7, zl8, zl9, zl10, zl11, zl12, zl13, zl14, zl16, zl18, zl19, zl20, zl22, zl24, zl30, zl32, zl33, zl36, zl38, zl40, zl41, zl48, zl50, zl51, zl57, zl59, zl60, zl61, zl62, zl70, zl71, zl99, zl100, zl103, zl104, zl105, zl106, zl107, zl108, zl109, zl110, zl111, zl112, zl113, zl114, zl115, zl116, zl124, zl127, zl255, zl999, zl1000, zl1001, zl1002, zl1003]
  rw [zbnd_c (nextQ hB h ha)]
  by_cases q1 : s a = 111
  · obtain ⟨M', k1, k2, k3, k4⟩ := gen 1 0 (by decide)
    rw [if_pos q1, if_pos q1]
    refine ⟨M', ?_, k2, k3, k4⟩
    rw [if_pos (bI_y hB.2.2.2 (by decide) q1), zchk_e (ze_in hcn (by omega)), znm_e, ze_cl (show cn < 2 ^ 31 by omega)]
    have : qM_takesWord (zset M 51 0 cn (nI 0)) (nI 0) (nI 3) = some (nI (bv (pWord s (wd 1) a).1), M') := k1
    rw [zbnd_c this]
  rw [if_neg q1, if_neg q1]
  by_cases q2 : s a = 115
  · obtain ⟨M', k1, k2, k3, k4⟩ := gen 2 1 (by decide)
    rw [if_pos q2, if_pos q2]
    refine ⟨M', ?_, k2, k3, k4⟩
    rw [if_neg (bI_n hB (by decide) q1), if_pos (bI_y hB.2.2.2 (by decide) q2), zchk_e (ze_in hcn (by omega)), znm_e, ze_cl (show cn < 2 ^ 31 by omega)]
    have : qM_takesWord (zset M 51 0 cn (nI 1)) (nI 3) (nI 4) = some (nI (bv (pWord s (wd 2) a).1), M') := k1
    rw [zbnd_c this]
  · obtain ⟨M', k1, k2, k3, k4⟩ := gen 0 2 (by decide)
    rw [if_neg q2, if_neg q2]
    refine ⟨M', ?_, k2, k3, k4⟩
    rw [if_neg (bI_n hB (by decide) q1), if_neg (bI_n hB (by decide) q2), zchk_e (ze_in hcn (by omega)), znm_e, ze_cl (show cn < 2 ^ 31 by omega)]
    have : qM_takesWord (zset M 51 0 cn (nI 2)) (nI 7) (nI 5) = some (nI (bv (pWord s (wd 0) a).1), M') := k1
    rw [zbnd_c this]
/-- alike but for what a clause is laid in -/
def CF (cn b : Nat) (M M' : zM) : Prop := M'.2 = M.2 ∧ ∀ k j, k ≠ 56 → ¬ (k = 40 ∧ (j = 13 ∨ j = 14 ∨ j = 23 ∨ j = 24 ∨ j = 25)) → ¬ (51 ≤ k ∧ k ≤ 54 ∧ j = cn) → ¬ (k = 55 ∧ b ≤ j) → M'.1 k 0 j = M.1 k 0 j
def TAIL (cn : Nat) (M7 : zM) : Option (Int32 × zM) := if (M7.1 51 0 cn) = nI 2 then (some (nI 1, M7)) else (zbnd (qM_takes M7 (nI 32)) fun x9 M8 => if x9 = nI 0 then (some (nI 0, M8)) else (zbnd (qM_takesE M8 (nI cn)) fun x12 M11 => if x12 = nI 0 then (some (nI 0, M11)) else (some (nI 1, M11))))
def NUM (cn : Nat) (M1 : zM) : Option (Int32 × zM) := zbnd (qM_takesNumber M1 ) fun x5 M4 => if x5 = nI 0 then (some (nI 0, M4)) else (zchk (zin (nI cn) 60) (znm (zset M4 52 0 cn (M4.1 40 0 14)) fun M7 => zchk (zin (nI cn) 60) (TAIL cn M7)))
theorem cl_head {M M1 : zM} {cn : Nat} {x : Bool} (hcn : cn < 60) (h : qM_takesHead M (nI cn) = some (nI (bv x), M1)) : qM_takesClause M (nI cn) = if x = true then NUM cn M1 else some (nI 0, M1) := by
  unfold qM_takesClause
  simp only [zl0, zl1, zl2, zl3, zl4, zl5, zl6, zl7, zl8, zl9, zl10, zl11, zl12, zl13, zl14, zl16, zl18, zl19, zl20, zl22, zl24, zl30, zl32, zl33, zl36, zl38, zl40, zl41, zl48, zl50, zl51, zl57, zl59, zl60, zl61, zl62, zl70, zl71, zl99, zl100, zl103, zl104, zl105, zl106, zl107, zl108, zl109, zl110, zl111, zl112, zl113, zl114, zl115, zl116, zl124, zl127, zl255, zl999, zl1000, zl1001, zl1002, zl1003]
  rw [zbnd_c h, ze_cl (show cn < 2 ^ 31 by omega)]
  cases x
  · rw [if_pos (show nI (bv false) = nI 0 from rfl), if_neg (by decide)]
  · rw [if_neg (show ¬ nI (bv true) = nI 0 from znI_ne (by decide) (by decide) (by decide)), if_pos rfl]
    rfl
/-- what a clause that was read lies as -/
def CLm (M' : zM) (cn b : Nat) (q : Cl) : Prop := M'.1 51 0 cn = nI q.1 ∧ M'.1 52 0 cn = nI q.2.1 ∧ M'.1 40 0 23 = nI (b + q.2.2.length) ∧ (q.1 ≠ 2 → M'.1 53 0 cn = nI b ∧ M'.1 54 0 cn = nI (b + q.2.2.length)) ∧ ∀ i t, q.2.2[i]? = some t → M'.1 55 0 (b + i) = tkS t
def CMR (cn b : Nat) (M : zM) (r : PC) (o : Option (Int32 × zM)) : Prop := ∃ M', o = some (nI (bv r.1), M') ∧ CF cn b M M' ∧ M'.1 40 0 13 = nI r.2.1 ∧ (r.1 = true → CLm M' cn b r.2.2)
theorem CMR_n {cn b x : Nat} {M M' : zM} {o : Option (Int32 × zM)} (h1 : o = some (nI 0, M')) (h2 : CF cn b M M') (h3 : M'.1 40 0 13 = nI x) : CMR cn b M (false, x, (0, 0, [])) o := ⟨M', h1, h2, h3, fun h => absurd (show false = true from h) Bool.false_ne_true⟩
theorem num_cl {M M1 : zM} {cn b x w : Nat} (hB : BM M s tl) (hcn : cn < 60) (f1 : FH cn M M1) (h51 : M1.1 51 0 cn = nI w) (h23 : M.1 40 0 23 = nI b) (hx : M1.1 40 0 13 = nI x) (hxt : x ≤ tl) : ∃ M2, (NUM cn M1 = if (pNum s x).1 = true then TAIL cn M2 else some (nI 0, M2)) ∧ CF cn b M M2 ∧ M2.1 40 0 13 = nI (pNum s x).2.1 ∧ M2.1 40 0 23 = nI b ∧ M2.1 51 0 cn = nI w ∧ ((pNum s x).1 = true → M2.1 52 0 cn = nI (pNum s x).2.2) := by
  have hB1 : BM M1 s tl := BM_cg hB (fun k j q => f1.2 k j (by omega) (by omega))
  obtain ⟨M2, c1, c2, c3, c4⟩ := numQ hB1 hx hxt
  by_cases hn : (pNum s x).1 = true
  · rw [hn] at c1
    refine ⟨zset M2 52 0 cn (M2.1 40 0 14), ?_, ⟨by rw [zg_2, c2.1, f1.1], fun k j q1 q2 q3 q4 => by rw [zg_n (by omega), c2.2 k j (by omega), f1.2 k j (by omega) (by omega)]⟩, by rw [zg_n (by omega), c3], by rw [zg_n (by omega), c2.2 _ _ (by omega), f1.2 _ _ (by omega) (by omega), h23], by rw [zg_n (by omega), c2.2 _ _ (by omega), h51], fun _ => by rw [zg_e ⟨rfl, rfl, rfl⟩, c4 hn]⟩
    unfold NUM
    rw [zbnd_c c1, if_neg (show ¬ nI (bv true) = nI 0 from znI_ne (by decide) (by decide) (by decide)), zchk_e (ze_in hcn (by omega)), znm_e, zchk_e (ze_in hcn (by omega)), if_pos hn]
  · rw [bfalse hn] at c1
    refine ⟨M2, ?_, ⟨by rw [c2.1, f1.1], fun k j q1 q2 q3 q4 => by rw [c2.2 k j (by omega), f1.2 k j (by omega) (by omega)]⟩, c3, by rw [c2.2 _ _ (by omega), f1.2 _ _ (by omega) (by omega), h23], by rw [c2.2 _ _ (by omega), h51], fun h => absurd h hn⟩
    unfold NUM
    rw [zbnd_c c1, if_pos (show nI (bv false) = nI 0 from rfl), if_neg hn]
theorem clause_m {M : zM} {a cn b o : Nat} (hB : BM M s tl) (hr : Rlt M) (h : M.1 40 0 13 = nI a) (h23 : M.1 40 0 23 = nI b) (ha : a ≤ tl) (hcn : cn < 60) (ho : o ≤ 500) (hb : b ≤ o + a) : CMR cn b M (pClause s a) (qM_takesClause M (nI cn)) := by
  have htl := hB.1
  have n10 : ¬ nI 1 = nI 0 := znI_ne (by decide) (by decide) (by decide)
  have b1 : ¬ nI (bv true) = nI 0 := n10
  have b0 : nI (bv false) = nI 0 := rfl
  obtain ⟨M1, a1, a2, a3, a4⟩ := head_m hB hr h ha hcn
  have f1 : CF cn b M M1 := ⟨a2.1, fun k j q1 q2 q3 q4 => a2.2 k j (by omega) (by omega)⟩
  rw [cl_head hcn a1]
  unfold pClause
  by_cases h104 : s a = 104
  · have ix : (if s a = 111 then 1 else if s a = 115 then 2 else 0) = 0 := by rw [if_neg (show ¬ s a = 111 by omega), if_neg (show ¬ s a = 115 by omega)]
    rw [ix] at a3 ⊢
    rw [if_neg (show ¬ s a = 111 by omega), if_neg (show ¬ s a = 115 by omega)] at a4
    rw [if_pos h104]
    obtain ⟨w1, w2, w3⟩ := pWord_ok hB.2.2.2 (wd 0) a (wd_lt 0 (by decide)).1 ha
    by_cases hw : (pWord s (wd 0) a).1 = true
    · rw [if_pos hw, if_pos hw]
      obtain ⟨M2, c1, c2, c3, c4, c5, c6⟩ := num_cl hB hcn a2 a4 h23 a3 w2
      rw [c1]
      by_cases hn : (pNum s (pWord s (wd 0) a).2).1 = true
      · rw [if_pos hn, if_pos hn]
        refine ⟨M2, ?_, c2, c3, fun _ => ⟨c5, c6 hn, c4, fun h => absurd rfl h, fun i t q => by simp only [List.getElem?_nil] at q; cases q⟩⟩
        unfold TAIL
        rw [if_pos c5]
        rfl
      · rw [if_neg hn, if_neg hn]
        exact CMR_n rfl c2 c3
    · rw [if_neg hw, if_neg hw]
      exact CMR_n rfl f1 a3
  rw [if_neg h104]
  -- odd or sure
  have main : ∀ k, k < 2 → M1.1 51 0 cn = nI k → M1.1 40 0 13 = nI (pWord s (wd (k + 1)) a).2 → CMR cn b M (pClause.pClause1 s a k) (if (pWord s (wd (k + 1)) a).1 = true then NUM cn M1 else some (nI 0, M1)) := by
    intro k hk h51 h13
    unfold pClause.pClause1
    obtain ⟨w1, w2, w3⟩ := pWord_ok hB.2.2.2 (wd (k + 1)) a (wd_lt (k + 1) (by omega)).1 ha
    by_cases hw : (pWord s (wd (k + 1)) a).1 = true
    · rw [if_pos hw, if_pos hw]
      have w4 := w3 hw
      obtain ⟨M2, c1, c2, c3, c4, c5, c6⟩ := num_cl hB hcn a2 h51 h23 h13 w2
      rw [c1]
      by_cases hn : (pNum s (pWord s (wd (k + 1)) a).2).1 = true
      · obtain ⟨n1, n2, n3⟩ := pNum_ok hB.2.2.2 hn
        rw [if_pos hn, if_pos hn]
        have hB2 : BM M2 s tl := BM_cg hB (fun k j q => c2.2 k j (by omega) (by omega) (by omega) (by omega))
        unfold TAIL
        rw [if_neg (show ¬ M2.1 51 0 cn = nI 2 by rw [c5]; exact znI_ne (by omega) (by omega) (by omega))]
        by_cases h32 : s (pNum s (pWord s (wd (k + 1)) a).2).2.1 = 32
        · rw [if_pos h32, zb_y (takeQ_y hB2 c3 n2 (by decide) h32)]
          have i1 := in_tl hB.2.2.2 (a := (pNum s (pWord s (wd (k + 1)) a).2).2.1) (by omega)
          have c6' := c6 hn
          generalize pNum s (pWord s (wd (k + 1)) a).2 = np at c3 n1 n2 n3 h32 i1 c6' hn
          have hB3 : BM (zset (zset M2 40 0 13 (nI (np.2.1 + 1))) 53 0 cn (nI b)) s tl := BM_cg hB2 (fun k j q => by rw [zg_n (by omega), zg_n (by omega)])
          obtain ⟨M3, T', st', t1, t2, t3⟩ := takesE_e (m := zset (zset M2 40 0 13 (nI (np.2.1 + 1))) 53 0 cn (nI b)) (M := zset M2 40 0 13 (nI (np.2.1 + 1))) (a := np.2.1 + 1) (o := o) (b := b) hB3 hcn ho rfl (fun _ _ _ _ _ _ => rfl) (fun j hj => by rw [zg_n (k := 53) (by omega)]) (zg_e ⟨rfl, rfl, rfl⟩) (by rw [zg_n (by omega), c4]) (by omega) (by omega)
          have f3 : CF cn b M M3 := ⟨by rw [t2.1, zg_2, zg_2, c2.1], fun k j q1 q2 q3 q4 => by
            by_cases q5 : k = 55
            · subst q5
              rw [t2.2.2.1 j (by omega), zg_n (by omega), zg_n (by omega), c2.2 55 j (by omega) (by omega) (by omega) (by omega)]
            · rw [t2.2.1 k j q5 q1 q2 (by omega), zg_n (by omega), zg_n (by omega), c2.2 k j q1 q2 q3 (by omega)]⟩
          have e13 := t2.2.2.2.1
          have e51 : M3.1 51 0 cn = nI k := by rw [t2.2.1 _ _ (by decide) (by decide) (by omega) (by omega), zg_n (by omega), zg_n (by omega), c5]
          have e52 : M3.1 52 0 cn = nI np.2.2 := by rw [t2.2.1 _ _ (by decide) (by decide) (by omega) (by omega), zg_n (by omega), zg_n (by omega), c6']
          have e53 : M3.1 53 0 cn = nI b := by rw [t2.2.1 _ _ (by decide) (by decide) (by omega) (by omega), zg_e ⟨rfl, rfl, rfl⟩]
          have e23 := t2.2.2.2.2.1
          have e55 := t2.2.2.2.2.2.1
          generalize pE s 4 (np.2.1 + 1) = r at t1 t2 t3 e13
          by_cases hr : r.1 = true
          · obtain ⟨z1, z2⟩ := t3 hr
            rw [if_pos hr]
            rw [hr] at t1
            rw [z1] at e23 e55
            refine ⟨M3, ?_, f3, e13, fun _ => ⟨e51, e52, e23, fun _ => ⟨e53, z2⟩, e55⟩⟩
            rw [zbnd_c t1, if_neg b1]
            rfl
          · rw [if_neg hr]
            rw [bfalse hr] at t1
            refine CMR_n ?_ f3 e13
            rw [zbnd_c t1, if_pos b0]
        · rw [if_neg h32, zb_n (takeQ_n hB2 c3 n2 (by decide) h32)]
          exact CMR_n rfl c2 c3
      · rw [if_neg hn, if_neg hn]
        exact CMR_n rfl c2 c3
    · rw [if_neg hw, if_neg hw]
      exact CMR_n rfl f1 h13
  by_cases h111 : s a = 111
  · rw [if_pos h111] at a3 a4 ⊢
    rw [if_pos h111]
    exact main 0 (by decide) a4 a3
  rw [if_neg h111] at a3 a4 ⊢
  rw [if_neg h111]
  by_cases h115 : s a = 115
  · rw [if_pos h115] at a3 a4 ⊢
    exact main 1 (by decide) a4 a3
  · rw [if_neg h115] at a3 a4 ⊢
    have e0 : pWord s (wd 0) a = (false, a) := by
      show (if s a = 104 then _ else (false, a)) = _
      rw [if_neg h104]
    have e2 : pWord s (wd 2) a = (false, a) := by
      show (if s a = 115 then _ else (false, a)) = _
      rw [if_neg h115]
    have ep : pClause.pClause1 s a 1 = (false, a, (0, 0, [])) := by
      unfold pClause.pClause1
      rw [e2]
      rfl
    rw [e0] at a3 ⊢
    rw [ep]
    exact CMR_n rfl f1 a3
end
