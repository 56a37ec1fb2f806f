/-! PURE PART: the reference's DOUBT. -/
theorem hold_toks {m : zM} {c b : Nat} {g t' p : Int32} {f : Nat → Int32} {e : zM → Option (Int32 × zM)} (hF : FC g t' p m f) (hc : c < 60) (hb : b ≤ 600) : ∀ (l : List Tk) (s : List Bool) (w F d : Nat) (M : zM), FR1 58 m M → M.1 54 0 c = nI b → w + l.length = b → (∀ i t, l[i]? = some t → M.1 55 0 (w + i) = tkS t) → PL M s → s.length ≤ 30 → tkDs s.length l = some d → l.length < F →
    ∃ M', (∀ R, e M' = R → qM_holds_L11 (nI c) g t' p e F M (nI s.length) (nI w) = R) ∧ PL M' (tkEs f l s) ∧ FR1 58 M M'
  | [], s, w, F + 1, d, M, hM, h54, hw, h55, hp, hs, hd, hf => by
    refine ⟨M, fun R hR => ?_, hp, FR1_refl _ _⟩
    have : w = b := hw
    unfold qM_holds_L11
    rw [zchk_e (ze_in hc (by omega)), ze_cl (show c < 2 ^ 31 by omega), h54, if_pos (nI_le (by omega) (by omega))]
    exact hR
  | t :: l, s, w, F + 1, d, M, hM, h54, hw, h55, hp, hs, hd, hf => by
    obtain ⟨d1, g1, g2⟩ := tkDs_cons hd
    rw [List.length_cons] at hw hf
    obtain ⟨M1, k1, k2, k3⟩ := hold_tok (F := F) (e := e) hF hM hc hb (show w < b by omega) h54 (h55 0 t rfl) hp hs g1
    have el := tkE_len (f := f) g1
    obtain ⟨M2, j1, j2, j3⟩ := hold_toks hF hc hb l (tkE f t s) (w + 1) F d M1 (FR1_trans hM k3) (by rw [k3.2 _ _ _ (by omega), h54]) (by omega) (fun i t'' hi => by rw [k3.2 _ _ _ (by omega), show w + 1 + i = w + (i + 1) by omega]; exact h55 (i + 1) t'' hi) k2 (by rw [el]; exact tkD_le g1 hs) (by rw [el]; exact g2) (by omega)
    exact ⟨M2, fun R hR => k1 R (j1 R hR), j2, FR1_trans k3 j3⟩
theorem zbb_bv (b : Bool) : zbb (nI (bv b)) = true := by cases b <;> decide +kernel
theorem holds_m {m M : zM} {e j : Nat} {q : Cl} {g t' p : Int32} {f : Nat → Int32} (hF : FC g t' p m f) (hM : FR1 58 m M) (he : e < 6) (hj : j < 10) (hq : EVm m e j q) (h2 : q.1 ≠ 2) (hk : tkDs 0 q.2.2 = some 1) : ∃ M', qM_holds M (nI (10 * e + j)) g t' p = some (nI (bv (tkT f q.2.2)), M') ∧ FR1 58 M M' := by
  obtain ⟨q1, q2, q3⟩ := hq
  obtain ⟨a, a1, a2, a3, a4, a5⟩ := q3 h2
  obtain ⟨M', k1, k2, k3⟩ := hold_toks (c := 10 * e + j) (b := a + q.2.2.length) (e := fun (M26 : zM)  => zchk (zin (nI 0) 100) (zchk (zbb (M26.1 58 0 (nI 0).toNatClampNeg)) (some ((M26.1 58 0 (nI 0).toNatClampNeg), M26)))) hF (by omega) (by omega) q.2.2 [] a 1000 1 M hM (by rw [hM.2 _ _ _ (by omega), a4]) rfl (fun i t hi => by rw [hM.2 _ _ _ (by omega)]; exact a5 i t hi) trivial (by decide) hk (by omega)
  rw [tkT_e hk] at k2
  have k4 : M'.1 58 0 0 = nI (bv (tkT f q.2.2)) := k2.1
  refine ⟨M', ?_, k3⟩
  unfold qM_holds
  simp only [zl0, zl1, zl2, zl3, zl4, zl5, zl6, zl7, zl8, zl9, zl10, zl11, zl12, zl13, zl14, zl16, zl18, zl19, zl20, zl22, zl24, zl30, zl32, zl33, zl36, zl38, zl40, zl41, zl48, zl50, zl51, zl57, zl59, zl60, zl61, zl62, zl70, zl71, zl99, zl100, zl103, zl104, zl105, zl106, zl107, zl108, zl109, zl110, zl111, zl112, zl113, zl114, zl115, zl116, zl124, zl127, zl255, zl999, zl1000, zl1001, zl1002, zl1003]
  rw [zchk_e (ze_in (show 10 * e + j < 60 by omega) (by omega)), ze_cl (show 10 * e + j < 2 ^ 31 by omega), znm_e, hM.2 _ _ _ (by omega), a3]
  refine k1 _ ?_
  rw [zchk_e (ze_in (by omega) (by omega)), ze_cl (by omega), k4, zchk_e (zbb_bv _)]
theorem HMd_FR {m M : zM} {k e : Nat} {cs : List Cl} (h : HMd m e cs) (hM : FR1 k m M) (hk : k = 58 ∨ k = 59 ∨ k = 60) : HMd M e cs := by
  have F : ∀ a i j, a ≠ 58 → a ≠ 59 → a ≠ 60 → M.1 a i j = m.1 a i j := fun a i j h1 h2 h3 => hM.2 a i j (by omega)
  obtain ⟨h0, h1, h2, h3, h4⟩ := h
  refine ⟨h0, ?_, h2, h3, fun j q hq => ?_⟩
  · rw [F 40 0 11 (by decide) (by decide) (by decide), F 50 0 e (by decide) (by decide) (by decide)]; exact h1
  · obtain ⟨q1, q2, q3⟩ := h4 j q hq
    refine ⟨by rw [F 51 0 _ (by decide) (by decide) (by decide), q1], by rw [F 52 0 _ (by decide) (by decide) (by decide), q2], fun hne => ?_⟩
    obtain ⟨a, a1, a2, a3, a4, a5⟩ := q3 hne
    exact ⟨a, a1, a2, by rw [F 53 0 _ (by decide) (by decide) (by decide), a3], by rw [F 54 0 _ (by decide) (by decide) (by decide), a4], fun i t hi => by rw [F 55 0 _ (by decide) (by decide) (by decide), a5 i t hi]⟩
theorem doubt_loop {m : zM} {e : Nat} {cs : List Cl} {g t' p : Int32} {f : Nat → Int32} (h : HMd m e cs) (hF : FC g t' p m f) : ∀ (l : List Cl) (j F : Nat) (v : Int32) (M : zM), FR1 58 m M → j ≤ cs.length → cs.drop j = l → l.length < F → ∃ M', qM_doubtOf_L30 g t' p F M v (nI (10 * e + j)) = some (evV f l v, M') ∧ FR1 58 M M'
  | [], j, F + 1, v, M, hM, hjl, hl, hf => by
    have hj : cs.length ≤ j := by
      have := congrArg List.length hl
      rw [List.length_drop] at this
      simp only [List.length_nil] at this
      omega
    have h0 := h.1
    have h3 := h.2.2.1
    refine ⟨M, ?_, FR1_refl _ _⟩
    unfold qM_doubtOf_L30
    rw [zbnd_c (behind_e (HMd_FR h hM (by omega))), if_pos (nI_le (by omega) (by omega))]
    rfl
  | q :: l, j, F + 1, v, M, hM, hjl, hl, hf => by
    have hl' := congrArg List.length hl
    rw [List.length_drop, List.length_cons] at hl'
    have hq : cs[j]? = some q := by
      have : (cs.drop j)[0]? = some q := by rw [hl]; rfl
      rwa [List.getElem?_drop, Nat.add_zero] at this
    have hn : cs.drop (j + 1) = l := by
      rw [← List.drop_drop, hl]; rfl
    have hqv := h.2.2.2.2 j q hq
    have e1 : M.1 51 0 (10 * e + j) = nI q.1 := by rw [hM.2 _ _ _ (by omega)]; exact hqv.1
    have h0 := h.1
    have h3 := h.2.2.1
    obtain ⟨o1, o2, o3⟩ := h.2.2.2.1 q (List.mem_of_getElem? hq)
    rw [List.length_cons] at hf
    have hv : evV f (q :: l) v = evV f l (clV f q v) := by unfold evV; rw [List.foldl_cons]
    have i60 : zin (nI (10 * e + j)) 60 = true := ze_in (by omega) (by omega)
    have c60 : (nI (10 * e + j)).toNatClampNeg = 10 * e + j := ze_cl (by omega)
    rw [hv]
    by_cases h2 : q.1 = 2
    · obtain ⟨M', k1, k2⟩ := doubt_loop h hF l (j + 1) F v M hM (by omega) hn (by omega)
      have ev : clV f q v = v := by unfold clV; rw [if_pos h2]
      rw [ev]
      refine ⟨M', ?_, k2⟩
      unfold qM_doubtOf_L30
      simp only [zl0, zl1, zl2, zl3, zl4, zl5, zl6, zl7, zl8, zl9, zl10, zl11, zl12, zl13, zl14, zl16, zl18, zl19, zl20, zl22, zl24, zl30, zl32, zl33, zl36, zl38, zl40, zl41, zl48, zl50, zl51, zl57, zl59, zl60, zl61, zl62, zl70, zl71, zl99, zl100, zl103, zl104, zl105, zl106, zl107, zl108, zl109, zl110, zl111, zl112, zl113, zl114, zl115, zl116, zl124, zl127, zl255, zl999, zl1000, zl1001, zl1002, zl1003]
      rw [zbnd_c (behind_e (HMd_FR h hM (by omega))), if_neg (nI_ge (by omega) (by omega)), zchk_e i60, zjn_e, c60, e1, h2, if_pos rfl, ze_add]
      exact k1
    · obtain ⟨M1, g1, g2⟩ := holds_m hF hM h0 (show j < 10 by omega) hqv h2 (o3 h2)
      have hM1 := FR1_trans hM g2
      have e2 : M1.1 51 0 (10 * e + j) = nI q.1 := by rw [hM1.2 _ _ _ (by omega)]; exact hqv.1
      have e3 : M1.1 52 0 (10 * e + j) = nI q.2.1 := by rw [hM1.2 _ _ _ (by omega)]; exact hqv.2.1
      obtain ⟨M', k1, k2⟩ := doubt_loop h hF l (j + 1) F (clV f q v) M1 hM1 (by omega) hn (by omega)
      refine ⟨M', ?_, FR1_trans g2 k2⟩
      have ev : clV f q v = (if tkT f q.2.2 then (if q.1 = 0 then v + nI q.2.1 else v - nI q.2.1) else v) := by unfold clV; rw [if_neg h2]
      unfold qM_doubtOf_L30
      simp only [zl0, zl1, zl2, zl3, zl4, zl5, zl6, zl7, zl8, zl9, zl10, zl11, zl12, zl13, zl14, zl16, zl18, zl19, zl20, zl22, zl24, zl30, zl32, zl33, zl36, zl38, zl40, zl41, zl48, zl50, zl51, zl57, zl59, zl60, zl61, zl62, zl70, zl71, zl99, zl100, zl103, zl104, zl105, zl106, zl107, zl108, zl109, zl110, zl111, zl112, zl113, zl114, zl115, zl116, zl124, zl127, zl255, zl999, zl1000, zl1001, zl1002, zl1003]
      rw [zbnd_c (behind_e (HMd_FR h hM (by omega))), if_neg (nI_ge (by omega) (by omega)), zchk_e i60, zjn_e, c60, e1, if_neg (znI_ne (by omega) (by omega) h2), zbnd_c g1]
      cases hb : tkT f q.2.2
      · rw [if_pos (show nI (bv false) = nI 0 from rfl), ze_add]
        rw [hb, if_neg (by decide)] at ev
        rw [ev] at k1 ⊢
        exact k1
      · rw [hb, if_pos rfl] at ev
        rw [if_neg (show ¬ nI (bv true) = nI 0 from znI_ne (by decide) (by decide) (by decide)), zchk_e i60, zjn_e, e2, e3]
        by_cases h4 : q.1 = 0
        · rw [if_pos h4] at ev
          rw [ev] at k1 ⊢
          rw [if_pos (show nI q.1 = nI 0 by rw [h4]), zchk_e i60]
          simp only [znm_e, ze_add]
          exact k1
        · rw [if_neg h4] at ev
          rw [ev] at k1 ⊢
          rw [if_neg (show ¬ nI q.1 = nI 0 from znI_ne (by omega) (by omega) h4), zchk_e i60]
          simp only [znm_e, ze_add]
          rw [← Int32.sub_eq_add_neg]
          exact k1
