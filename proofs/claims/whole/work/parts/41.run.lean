/-! PURE PART: the class's DOUBT. -/
theorem evW_cons (q : Cl) (cs : List Cl) : evW (q :: cs) = clW q ++ evW cs := by
  unfold evW
  rw [List.flatMap_cons]
theorem run_cls {M : zM} {h L : Nat} {f : Nat → Int32} (hL : L ≤ 100) (h13 : M.1 13 h 1 = nI L) (hf : ∀ l, l < 6 → M.1 15 h l = f l) : ∀ (cs : List Cl) (w F : Nat) (v1 : Int32) (R : Option (Int32 × zM)), w + (evW cs).length ≤ L → (∀ i x, (evW cs)[i]? = some x → M.1 14 h (w + i) = x) → (∀ q ∈ cs, clOk q) → qE_runClauses_L6 h F M (evV f cs v1) (nI 0) (nI (w + (evW cs).length)) = R → qE_runClauses_L6 h (F + (evW cs).length) M v1 (nI 0) (nI w) = R
  | [], w, F, v1, R, hw, h14, ho, hR => hR
  | q :: cs, w, F, v1, R, hw, h14, ho, hR => by
    obtain ⟨o1, o2, o3⟩ := ho q List.mem_cons_self
    have ho' : ∀ q ∈ cs, clOk q := fun q hq => ho q (List.mem_cons_of_mem _ hq)
    rw [evW_cons] at hw h14 hR ⊢
    rw [List.length_append] at hw hR ⊢
    have hv : evV f (q :: cs) v1 = evV f cs (clV f q v1) := by unfold evV; rw [List.foldl_cons]
    rw [hv] at hR
    by_cases h2 : q.1 = 2
    · have e : clW q = [] := by unfold clW; rw [if_pos h2]
      have ev : clV f q v1 = v1 := by unfold clV; rw [if_pos h2]
      rw [e] at hw h14 hR ⊢
      rw [ev] at hR
      rw [List.nil_append] at h14
      simp only [List.length_nil, Nat.zero_add] at hw hR ⊢
      exact run_cls hL h13 hf cs w F v1 R hw h14 ho' hR
    · have e : clW q = q.2.2.map tkW ++ [nI ((6 + q.1) * 65536 + q.2.1)] := by unfold clW; rw [if_neg h2]
      have hk := o3 h2
      have ht := tkT_e (f := f) hk
      have hl : (clW q).length = q.2.2.length + 1 := by rw [e, List.length_append, List.length_map]; rfl
      rw [hl] at hw hR ⊢
      have ih := run_cls hL h13 hf cs (w + (q.2.2.length + 1)) F (clV f q v1) R (by omega) (fun i x hi => by
        rw [Nat.add_assoc]
        apply h14
        rw [List.getElem?_append_right (by omega), hl, show q.2.2.length + 1 + i - (q.2.2.length + 1) = i by omega]
        exact hi) ho' (by rw [Nat.add_assoc]; exact hR)
      have hw1 : M.1 14 h (w + q.2.2.length) = nI ((6 + q.1) * 65536 + q.2.1) := by
        apply h14
        rw [List.getElem?_append_left (by omega), e, List.getElem?_append_right (by rw [List.length_map]; omega), List.length_map, Nat.sub_self]
        rfl
      have step := run_end (F := F + (evW cs).length) (b := tkT f q.2.2) (v1 := v1) hL (show w + q.2.2.length < L by omega) h13 (show q.1 < 2 by omega) o2 hw1 (R := R) (by
        have ev : clV f q v1 = (if tkT f q.2.2 then (if q.1 = 0 then v1 + nI q.2.1 else v1 - nI q.2.1) else v1) := by unfold clV; rw [if_neg h2]
        rw [← ev]
        exact ih)
      have := run_toks hL h13 hf q.2.2 [] w (F + (evW cs).length + 1) 1 v1 R (by omega) (fun i t hi => by
        apply h14
        have hil : i < q.2.2.length := by
          rcases Nat.lt_or_ge i q.2.2.length with g | g
          · exact g
          · rw [List.getElem?_eq_none g] at hi; cases hi
        rw [List.getElem?_append_left (by omega), e, List.getElem?_append_left (by rw [List.length_map]; omega), List.getElem?_map, hi]
        rfl) (by decide) hk (by rw [ht]; exact step)
      rw [show F + (q.2.2.length + 1 + (evW cs).length) = F + (evW cs).length + 1 + q.2.2.length by omega]
      exact this
theorem runClauses_e {M : zM} {h : Nat} {cs : List Cl} {f : Nat → Int32} (hc : HCd M h cs) (hf : ∀ l, l < 6 → M.1 15 h l = f l) (ho : ∀ q ∈ cs, clOk q) : qE_runClauses M h = some (evV f cs (nI 0), M) := by
  obtain ⟨h1, h2, h3, h4, h5⟩ := hc
  have fin : qE_runClauses_L6 h (1000 - (evW cs).length) M (evV f cs (nI 0)) (nI 0) (nI (0 + (evW cs).length)) = some (evV f cs (nI 0), M) := by
    obtain ⟨k, hk⟩ : ∃ k, 1000 - (evW cs).length = k + 1 := ⟨1000 - (evW cs).length - 1, by omega⟩
    rw [hk]
    unfold qE_runClauses_L6
    rw [h3, if_pos (nI_le (by omega) (by omega))]
  have := run_cls h2 h3 hf cs 0 (1000 - (evW cs).length) (nI 0) _ (by omega) (fun i x hi => by
    have hil : i < (evW cs).length := by
      rcases Nat.lt_or_ge i (evW cs).length with g | g
      · exact g
      · rw [List.getElem?_eq_none g] at hi; cases hi
    rw [Nat.zero_add, h5 i hil, List.getD_eq_getElem?_getD, hi]
    rfl) ho fin
  rw [show 1000 - (evW cs).length + (evW cs).length = 1000 by omega] at this
  unfold qE_runClauses
  simp only [zl0, zl1, zl2, zl3, zl4, zl5, zl6, zl7, zl8, zl9, zl10, zl11, zl12, zl13, zl14, zl16, zl18, zl19, zl20, zl22, zl24, zl30, zl32, zl33, zl36, zl38, zl40, zl41, zl48, zl50, zl51, zl57, zl59, zl60, zl61, zl62, zl70, zl71, zl99, zl100, zl103, zl104, zl105, zl106, zl107, zl108, zl109, zl110, zl111, zl112, zl113, zl114, zl115, zl116, zl124, zl127, zl255, zl999, zl1000, zl1001, zl1002, zl1003]
  exact this
