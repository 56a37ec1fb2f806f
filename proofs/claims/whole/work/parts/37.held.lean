/-! PURE PART: the evening that is held. -/
def HMd (m : zM) (e : Nat) (cs : List Cl) : Prop := e < 6 ∧ ((m.1 40 0 11 = -nI 1 ∧ cs = [] ∧ e = 0) ∨ (m.1 40 0 11 = nI e ∧ m.1 50 0 e = nI cs.length)) ∧ cs.length ≤ 10 ∧ (∀ q ∈ cs, clOk q) ∧ ∀ j q, cs[j]? = some q → EVm m e j q
def HCd (c : zM) (h : Nat) (cs : List Cl) : Prop := h < 7 ∧ (evW cs).length ≤ 100 ∧ c.1 13 h 1 = nI (evW cs).length ∧ c.1 13 h 3 = nI (evH cs) ∧ ∀ j, j < (evW cs).length → c.1 14 h j = (evW cs).getD j 0
theorem held_e {c m : zM} {n rd bk ec tl : Nat} {ev : Int32} (h : RB c m n rd bk ec tl ev) : ∃ h e cs, (∀ M : zM, M.1 1 0 3 = c.1 1 0 3 → qG_held M = some (h, M)) ∧ HCd c h cs ∧ HMd m e cs := by
  obtain ⟨h1, h2, h3, h4, h5, h6, h7, h8, h9, h10, h11, h12, h13⟩ := h
  obtain ⟨b1, b2, b3, b4, b5, b6⟩ := h1
  obtain ⟨c1, c2, c3, c4, c5, c6⟩ := h2
  obtain ⟨m1, m2, m3, m4, m5, m6, m7⟩ := h3
  obtain ⟨g1, g2, g3⟩ := h9
  rcases b6 with rfl | ⟨e, he, rfl⟩
  · refine ⟨6, 0, [], fun M hM => ?_, ⟨by omega, by decide, g2, g3, fun j hj => absurd hj (Nat.not_lt_zero _)⟩, ⟨by omega, Or.inl ⟨m3, rfl, rfl⟩, by decide, fun q hq => absurd hq List.not_mem_nil, fun j q hq => by simp only [List.getElem?_nil] at hq; cases hq⟩⟩
    unfold qG_held
    simp only [zl0, zl1, zl2, zl3, zl4, zl5, zl6, zl7, zl8, zl9, zl10, zl11, zl12, zl13, zl14, zl16, zl18, zl19, zl20, zl22, zl24, zl30, zl32, zl33, zl36, zl38, zl40, zl41, zl48, zl50, zl51, zl57, zl59, zl60, zl61, zl62, zl70, zl71, zl99, zl100, zl103, zl104, zl105, zl106, zl107, zl108, zl109, zl110, zl111, zl112, zl113, zl114, zl115, zl116, zl124, zl127, zl255, zl999, zl1000, zl1001, zl1002, zl1003]
    rw [hM, c3, if_pos zneg1_lt]
  · obtain ⟨cs, f1, f2, f3, f4, f5, f6, f7, f8, f9⟩ := g1 e he
    refine ⟨e, e, cs, fun M hM => ?_, ⟨by omega, f4, f5, f6, f7⟩, ⟨by omega, Or.inr ⟨m3, f8⟩, f2, f3, f9⟩⟩
    unfold qG_held
    simp only [zl0, zl1, zl2, zl3, zl4, zl5, zl6, zl7, zl8, zl9, zl10, zl11, zl12, zl13, zl14, zl16, zl18, zl19, zl20, zl22, zl24, zl30, zl32, zl33, zl36, zl38, zl40, zl41, zl48, zl50, zl51, zl57, zl59, zl60, zl61, zl62, zl70, zl71, zl99, zl100, zl103, zl104, zl105, zl106, zl107, zl108, zl109, zl110, zl111, zl112, zl113, zl114, zl115, zl116, zl124, zl127, zl255, zl999, zl1000, zl1001, zl1002, zl1003]
    rw [hM, c3, if_neg (nI_nlt (by omega) (by omega)), if_neg (nI_ge (by omega) (by omega)), zchk_e (ze_in (by omega) (by omega)), znm_e, ze_cl (by omega), Nat.zero_add]
theorem begin_e {m : zM} {e : Nat} {cs : List Cl} (h : HMd m e cs) : qM_begin m = some (nI (10 * e), m) := by
  unfold qM_begin
  simp only [zl0, zl1, zl2, zl3, zl4, zl5, zl6, zl7, zl8, zl9, zl10, zl11, zl12, zl13, zl14, zl16, zl18, zl19, zl20, zl22, zl24, zl30, zl32, zl33, zl36, zl38, zl40, zl41, zl48, zl50, zl51, zl57, zl59, zl60, zl61, zl62, zl70, zl71, zl99, zl100, zl103, zl104, zl105, zl106, zl107, zl108, zl109, zl110, zl111, zl112, zl113, zl114, zl115, zl116, zl124, zl127, zl255, zl999, zl1000, zl1001, zl1002, zl1003]
  rcases h with ⟨h0, ⟨h1, h2, rfl⟩ | ⟨h1, h2⟩, h3, h4, h5⟩
  · rw [h1, if_neg zneg1_le]
  · rw [h1, if_pos (nI_le (by omega) (by omega)), ze_mul]
theorem behind_e {m : zM} {e : Nat} {cs : List Cl} (h : HMd m e cs) : qM_behind m = some (nI (10 * e + cs.length), m) := by
  unfold qM_behind
  simp only [zl0, zl1, zl2, zl3, zl4, zl5, zl6, zl7, zl8, zl9, zl10, zl11, zl12, zl13, zl14, zl16, zl18, zl19, zl20, zl22, zl24, zl30, zl32, zl33, zl36, zl38, zl40, zl41, zl48, zl50, zl51, zl57, zl59, zl60, zl61, zl62, zl70, zl71, zl99, zl100, zl103, zl104, zl105, zl106, zl107, zl108, zl109, zl110, zl111, zl112, zl113, zl114, zl115, zl116, zl124, zl127, zl255, zl999, zl1000, zl1001, zl1002, zl1003]
  rcases h with ⟨h0, ⟨h1, rfl, rfl⟩ | ⟨h1, h2⟩, h3, h4, h5⟩
  · rw [h1, if_neg zneg1_le]; rfl
  · rw [h1, if_pos (nI_le (by omega) (by omega)), zchk_e (ze_in (by omega) (by omega)), ze_mul, ze_cl (by omega), h2, ze_add]
theorem handsNow_loop {m : zM} {e : Nat} {cs : List Cl} (h : HMd m e cs) : ∀ (l : List Cl) (j v f : Nat), j ≤ cs.length → cs.drop j = l → l.length < f → qM_handsNow_L8 f m (nI v) (nI (10 * e + j)) = some (nI (l.foldl (fun n q => if q.1 = 2 then q.2.1 else n) v), m)
  | [], j, v, f + 1, hjl, hl, hf => by
    have hj : cs.length ≤ j := by
      have := congrArg List.length hl
      rw [List.length_drop] at this
      simp only [List.length_nil] at this
      omega
    unfold qM_handsNow_L8
    simp only [zl0, zl1, zl2, zl3, zl4, zl5, zl6, zl7, zl8, zl9, zl10, zl11, zl12, zl13, zl14, zl16, zl18, zl19, zl20, zl22, zl24, zl30, zl32, zl33, zl36, zl38, zl40, zl41, zl48, zl50, zl51, zl57, zl59, zl60, zl61, zl62, zl70, zl71, zl99, zl100, zl103, zl104, zl105, zl106, zl107, zl108, zl109, zl110, zl111, zl112, zl113, zl114, zl115, zl116, zl124, zl127, zl255, zl999, zl1000, zl1001, zl1002, zl1003]
    have h0 := h.1
    have h3 := h.2.2.1
    rw [zbnd_c (behind_e h), if_pos (nI_le (by omega) (by omega))]
    rfl
  | q :: l, j, v, f + 1, hjl, hl, hf => by
    have hl' := congrArg List.length hl
    rw [List.length_drop, List.length_cons] at hl'
    have hq : cs[j]? = some q := by
      have : (cs.drop j)[0]? = some q := by rw [hl]; rfl
      rwa [List.getElem?_drop, Nat.add_zero] at this
    have hn : cs.drop (j + 1) = l := by
      rw [← List.drop_drop, hl]; rfl
    have e1 := (h.2.2.2.2 j q hq).1
    have e2 := (h.2.2.2.2 j q hq).2.1
    have h0 := h.1
    have h3 := h.2.2.1
    rw [List.length_cons] at hf
    unfold qM_handsNow_L8
    simp only [zl0, zl1, zl2, zl3, zl4, zl5, zl6, zl7, zl8, zl9, zl10, zl11, zl12, zl13, zl14, zl16, zl18, zl19, zl20, zl22, zl24, zl30, zl32, zl33, zl36, zl38, zl40, zl41, zl48, zl50, zl51, zl57, zl59, zl60, zl61, zl62, zl70, zl71, zl99, zl100, zl103, zl104, zl105, zl106, zl107, zl108, zl109, zl110, zl111, zl112, zl113, zl114, zl115, zl116, zl124, zl127, zl255, zl999, zl1000, zl1001, zl1002, zl1003]
    rw [zbnd_c (behind_e h), if_neg (nI_ge (by omega) (by omega)), zchk_e (ze_in (by omega) (by omega)), zjn_e, ze_cl (by omega), e1, e2, ze_add]
    by_cases h2 : q.1 = 2
    · rw [if_pos (by rw [h2]), zchk_e (ze_in (by omega) (by omega))]
      rw [List.foldl_cons, if_pos h2]
      exact handsNow_loop h l (j + 1) q.2.1 f (by omega) hn (by omega)
    · rw [if_neg (znI_ne (by have := (h.2.2.2.1 q (List.mem_of_getElem? hq)).1; omega) (by omega) h2), List.foldl_cons, if_neg h2]
      exact handsNow_loop h l (j + 1) v f (by omega) hn (by omega)
theorem handsNow_e {m : zM} {e : Nat} {cs : List Cl} (h : HMd m e cs) : qM_handsNow m = some (nI (evH cs), m) := by
  unfold qM_handsNow
  simp only [zl0, zl1, zl2, zl3, zl4, zl5, zl6, zl7, zl8, zl9, zl10, zl11, zl12, zl13, zl14, zl16, zl18, zl19, zl20, zl22, zl24, zl30, zl32, zl33, zl36, zl38, zl40, zl41, zl48, zl50, zl51, zl57, zl59, zl60, zl61, zl62, zl70, zl71, zl99, zl100, zl103, zl104, zl105, zl106, zl107, zl108, zl109, zl110, zl111, zl112, zl113, zl114, zl115, zl116, zl124, zl127, zl255, zl999, zl1000, zl1001, zl1002, zl1003]
  have h3 := h.2.2.1
  rw [zbnd_c (begin_e h)]
  exact handsNow_loop h cs 0 10 1000 (by omega) rfl (by omega)
theorem st_told (c m : zM) (a0 : Int32) (h : Rl c m) : ∃ (r : Int32) (c1 m1 : zM), qG_told c a0 = some (r, c1) ∧ qM_told m a0 = some (r, m1) ∧ Rl c1 m1 := by
  obtain ⟨n, rd, bk, ec, tl, ev, h1, h2, h3, h4, h5, h6, h7, h8, h9, h10, h11, h12, h13⟩ := h; obtain ⟨b1, b2, b3, b4, b5, b6⟩ := h1; have h1 : Rb1 n rd bk ec tl ev := ⟨b1, b2, b3, b4, b5, b6⟩; obtain ⟨c1, c2, c3, c4, c5, c6⟩ := h2; have h2 : Rb2 c n rd bk ec tl ev := ⟨c1, c2, c3, c4, c5, c6⟩; obtain ⟨m1, m2, m3, m4, m5, m6, m7⟩ := h3; have h3 : Rb3 m n rd bk ec tl ev := ⟨m1, m2, m3, m4, m5, m6, m7⟩
  obtain ⟨hh, e, cs, q1, q2, q3⟩ := held_e ⟨h1, h2, h3, h4, h5, h6, h7, h8, h9, h10, h11, h12, h13⟩
  unfold qG_told qM_told
  simp only [zl0, zl1, zl2, zl3, zl4, zl5, zl6, zl7, zl8, zl9, zl10, zl11, zl12, zl13, zl14, zl16, zl18, zl19, zl20, zl22, zl24, zl30, zl32, zl33, zl36, zl38, zl40, zl41, zl48, zl50, zl51, zl57, zl59, zl60, zl61, zl62, zl70, zl71, zl99, zl100, zl103, zl104, zl105, zl106, zl107, zl108, zl109, zl110, zl111, zl112, zl113, zl114, zl115, zl116, zl124, zl127, zl255, zl999, zl1000, zl1001, zl1002, zl1003]
  by_cases e0 : a0 = nI 0
  · rw [if_pos e0, if_pos e0, c2, m2]
    exact ⟨_, c, m, rfl, rfl, n, rd, bk, ec, tl, ev, h1, h2, h3, h4, h5, h6, h7, h8, h9, h10, h11, h12, h13⟩
  by_cases e1 : a0 = nI 1
  · rw [if_neg e0, if_neg e0, if_pos e1, if_pos e1, zbnd_c (q1 c rfl), zbnd_c (handsNow_e q3), q2.2.2.2.1]
    exact ⟨_, c, m, rfl, rfl, n, rd, bk, ec, tl, ev, h1, h2, h3, h4, h5, h6, h7, h8, h9, h10, h11, h12, h13⟩
  · rw [if_neg e0, if_neg e0, if_neg e1, if_neg e1]
    exact ⟨_, c, m, rfl, rfl, n, rd, bk, ec, tl, ev, h1, h2, h3, h4, h5, h6, h7, h8, h9, h10, h11, h12, h13⟩
