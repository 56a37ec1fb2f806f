/-! PURE PART: the reference reads an E. -/
section
variable {m : zM} {s : Nat → Nat} {tl cn b : Nat}
theorem set_pop {M : zM} {a x F : Nat} {c : Nat} {T : List Tk} {st : List Nat} {t : Tk} (h : MT m M cn b a T (x :: st)) (hx : (x = 38 ∧ t = tAND) ∨ (x = 124 ∧ t = tOR ∧ c ≠ 38)) (hc : c < 128) (hb : b + T.length < 600) (hs : st.length < 100) : ∃ M', (∀ R, qM_settle_L0 (nI c) F M' = R → qM_settle_L0 (nI c) (F + 1) M = R) ∧ MT m M' cn b a (T ++ [t]) st := by
  have e24 : M.1 40 0 24 = nI (st.length + 1) := h.2.2.2.2.2.2.1
  have e56 : M.1 56 0 st.length = nI x := h.2.2.2.2.2.2.2.1.1
  have hx' : ¬ (x = 33 ∨ x = 40) := by omega
  obtain ⟨M', a1, a2, -⟩ := emit_e (t := t) (MT_pop h hx') hb
  have et : (-nI x : Int32) = tkS t := by
    rcases hx with ⟨rfl, rfl⟩ | ⟨rfl, rfl, -⟩ <;> rfl
  have e24' : (zset M 40 0 24 (nI st.length)).1 40 0 24 = nI st.length := zg_e ⟨rfl, rfl, rfl⟩
  have e56' : (zset M 40 0 24 (nI st.length)).1 56 0 st.length = nI x := by rw [zg_n (by omega), e56]
  refine ⟨M', fun R hR => ?_, a2⟩
  unfold qM_settle_L0
  simp only [zl0, zl1, zl2, zl3, zl4, zl5, zl6, zl7, zl8, zl9, zl10, zl11, zl12, zl13, zl14, zl16, zl18, zl19, zl20, zl22, zl24, zl30, zl32, zl33, zl36, zl38, zl40, zl41, zl48, zl50, zl51, zl57, zl59, zl60, zl61, zl62, zl70, zl71, zl99, zl100, zl103, zl104, zl105, zl106, zl107, zl108, zl109, zl110, zl111, zl112, zl113, zl114, zl115, zl116, zl124, zl127, zl255, zl999, zl1000, zl1001, zl1002, zl1003]
  rw [e24, if_neg (nI_ge (by omega) (by omega)), ze_sub (by omega), Nat.add_sub_cancel, zchk_e (ze_in (by omega) (by omega)), zjn_e, ze_cl (show st.length < 2 ^ 31 by omega), e56]
  have tail : (znm (zset M 40 0 24 (nI st.length)) fun M3 => zchk (zin (M3.1 40 0 24) 101) (zbnd (qM_emits M3 (-(M3.1 56 0 (M3.1 40 0 24).toNatClampNeg))) fun _ M4 => qM_settle_L0 (nI c) F M4)) = R := by
    rw [znm_e, e24', zchk_e (ze_in (by omega) (by omega)), ze_cl (show st.length < 2 ^ 31 by omega), e56', et, zbnd_c a1]
    exact hR
  rcases hx with ⟨rfl, rfl⟩ | ⟨rfl, rfl, hc38⟩
  · rw [if_pos rfl]
    dsimp only
    rw [e24, ze_sub (by omega), Nat.add_sub_cancel]
    exact tail
  · rw [if_neg (show ¬ nI 124 = nI 38 from znI_ne (by decide) (by decide) (by decide)), zchk_e (ze_in (by omega) (by omega)), if_pos rfl, if_neg (znI_ne (by omega) (by omega) hc38)]
    dsimp only
    rw [e24, ze_sub (by omega), Nat.add_sub_cancel]
    exact tail
theorem set_stop {M : zM} {a F : Nat} {c : Nat} {T : List Tk} {st : List Nat} (h : MT m M cn b a T st) (hx : ∀ x st', st = x :: st' → x ≠ 38 ∧ (x ≠ 124 ∨ c = 38)) (hc : c < 128) (hs : st.length < 101) : qM_settle_L0 (nI c) (F + 1) M = some ((), M) := by
  have e24 : M.1 40 0 24 = nI st.length := h.2.2.2.2.2.2.1
  unfold qM_settle_L0
  simp only [zl0, zl1, zl2, zl3, zl4, zl5, zl6, zl7, zl8, zl9, zl10, zl11, zl12, zl13, zl14, zl16, zl18, zl19, zl20, zl22, zl24, zl30, zl32, zl33, zl36, zl38, zl40, zl41, zl48, zl50, zl51, zl57, zl59, zl60, zl61, zl62, zl70, zl71, zl99, zl100, zl103, zl104, zl105, zl106, zl107, zl108, zl109, zl110, zl111, zl112, zl113, zl114, zl115, zl116, zl124, zl127, zl255, zl999, zl1000, zl1001, zl1002, zl1003]
  rw [e24]
  cases st with
  | nil => rw [List.length_nil, if_pos (show nI 0 ≤ nI 0 from nI_le (by omega) (by omega))]
  | cons x st =>
    obtain ⟨q1, q2⟩ := hx x st rfl
    have e56 : M.1 56 0 st.length = nI x := h.2.2.2.2.2.2.2.1.1
    have x128 : x < 128 := h.2.2.2.2.2.2.2.1.2.1
    rw [List.length_cons] at hs ⊢
    rw [if_neg (nI_ge (by omega) (by omega)), ze_sub (by omega), Nat.add_sub_cancel, zchk_e (ze_in (by omega) (by omega)), zjn_e, ze_cl (show st.length < 2 ^ 31 by omega), e56, if_neg (znI_ne (by omega) (by omega) q1), zchk_e (ze_in (by omega) (by omega))]
    by_cases q3 : x = 124
    · rw [if_pos (by rw [q3]), if_pos (by rw [q2.resolve_left (fun z => z q3)])]
    · rw [if_neg (znI_ne (by omega) (by omega) q3)]
def opsL (pa po : Bool) (S : List Nat) : List Nat := (if pa = true then [38] else []) ++ ((if po = true then [124] else []) ++ S)
def S40 (S : List Nat) : Prop := ∀ x S', S = x :: S' → x = 40
/-- & comes: what waits is settled down to | -/
theorem set38 {M : zM} {a : Nat} {pa po : Bool} {T : List Tk} {S : List Nat} (hS : S40 S) (h : MT m M cn b a T (opsL pa po S)) (hb : b + T.length + (opsL pa po S).length < 600) (hs : (opsL pa po S).length ≤ 100) : ∃ M', qM_settle M (nI 38) = some ((), M') ∧ MT m M' cn b a (T ++ (if pa = true then [tAND] else [])) (opsL false po S) := by
  have stop : ∀ F M T, MT m M cn b a T (opsL false po S) → (opsL false po S).length < 101 → qM_settle_L0 (nI 38) (F + 1) M = some ((), M) := by
    intro F M T h hl
    refine set_stop h (fun x st' hx => ?_) (by decide) hl
    cases po
    · have := hS x st' hx
      exact ⟨by omega, Or.inl (by omega)⟩
    · have : 124 :: S = x :: st' := hx
      injection this with this
      exact ⟨by omega, Or.inr rfl⟩
  cases pa
  · refine ⟨M, stop 999 M T h (by have : (opsL false po S).length ≤ 100 := hs; omega), ?_⟩
    show MT m M cn b a (T ++ []) _
    rw [List.append_nil]
    exact h
  · have h' : MT m M cn b a T (38 :: opsL false po S) := h
    have hl : (opsL false po S).length + 1 ≤ 100 := hs
    obtain ⟨M', k1, k2⟩ := set_pop (F := 999) (c := 38) (t := tAND) h' (Or.inl ⟨rfl, rfl⟩) (by decide) (by omega) (by omega)
    exact ⟨M', k1 _ (stop 998 M' _ k2 (by omega)), k2⟩
/-- | comes, or what is no sign between: all of them are settled -/
theorem set124 {M : zM} {a : Nat} {pa po : Bool} {T : List Tk} {S : List Nat} (hS : S40 S) (h : MT m M cn b a T (opsL pa po S)) (hb : b + T.length + (opsL pa po S).length ≤ 600) (hs : (opsL pa po S).length ≤ 100) : ∃ M', qM_settle M (nI 124) = some ((), M') ∧ MT m M' cn b a (T ++ (if pa = true then [tAND] else []) ++ (if po = true then [tOR] else [])) S := by
  have stop : ∀ F M T, MT m M cn b a T S → S.length < 101 → qM_settle_L0 (nI 124) (F + 1) M = some ((), M) := by
    intro F M T h hl
    refine set_stop h (fun x st' hx => ?_) (by decide) hl
    have := hS x st' hx
    exact ⟨by omega, Or.inl (by omega)⟩
  have part : ∀ F M T, MT m M cn b a T (opsL false po S) → b + T.length + (opsL false po S).length ≤ 600 → (opsL false po S).length ≤ 100 → ∃ M', qM_settle_L0 (nI 124) (F + 2) M = some ((), M') ∧ MT m M' cn b a (T ++ (if po = true then [tOR] else [])) S := by
    intro F M T hh hb2 hl2
    cases po
    · refine ⟨M, stop _ M T hh (by have : S.length ≤ 100 := hl2; omega), ?_⟩
      show MT m M cn b a (T ++ []) S
      rw [List.append_nil]
      exact hh
    · have h' : MT m M cn b a T (124 :: S) := hh
      have hl : S.length + 1 ≤ 100 := hl2
      have hb3 : b + T.length + (S.length + 1) ≤ 600 := hb2
      obtain ⟨M', k1, k2⟩ := set_pop (F := F + 1) (c := 124) (t := tOR) h' (Or.inr ⟨rfl, rfl, by decide⟩) (by decide) (by omega) (by omega)
      exact ⟨M', k1 _ (stop F M' _ k2 (by omega)), k2⟩
  cases pa
  · obtain ⟨M', k1, k2⟩ := part 998 M T h hb hs
    refine ⟨M', k1, ?_⟩
    show MT m M' cn b a (T ++ [] ++ _) S
    rw [List.append_nil]
    exact k2
  · have h' : MT m M cn b a T (38 :: opsL false po S) := h
    have hl : (opsL false po S).length + 1 ≤ 100 := hs
    have hb' : b + T.length + ((opsL false po S).length + 1) ≤ 600 := hb
    obtain ⟨M1, k1, k2⟩ := set_pop (F := 999) (c := 124) (t := tAND) h' (Or.inl ⟨rfl, rfl⟩) (by decide) (by omega) (by omega)
    obtain ⟨M', j1, j2⟩ := part 997 M1 (T ++ [tAND]) k2 (by rw [List.length_append]; show b + (T.length + 1) + (opsL false po S).length ≤ 600; omega) (by omega)
    exact ⟨M', k1 _ j1, j2⟩
theorem isd_e {M : zM} {a : Nat} {T : List Tk} {st : List Nat} (hB : BM m s tl) (h : MT m M cn b a T st) (ha : a ≤ tl) : qM_isDigit M = some (if dg (s a) = true then nI 1 else nI 0, M) := by
  have htl := hB.1
  unfold qM_isDigit
  simp only [zl0, zl1, zl2, zl3, zl4, zl5, zl6, zl7, zl8, zl9, zl10, zl11, zl12, zl13, zl14, zl16, zl18, zl19, zl20, zl22, zl24, zl30, zl32, zl33, zl36, zl38, zl40, zl41, zl48, zl50, zl51, zl57, zl59, zl60, zl61, zl62, zl70, zl71, zl99, zl100, zl103, zl104, zl105, zl106, zl107, zl108, zl109, zl110, zl111, zl112, zl113, zl114, zl115, zl116, zl124, zl127, zl255, zl999, zl1000, zl1001, zl1002, zl1003]
  rw [zbnd_c (next_e hB h ha)]
  unfold bI
  by_cases q : tl ≤ a
  · have := hB.2.2.2 a q
    rw [if_pos q, if_neg (by rw [dg_e]; omega)]
    have : qM_in M (-nI 1) (nI 48) (nI 57) = some (nI 0, M) := by
      unfold qM_in
      simp only [zl0, zl1, zl2, zl3, zl4, zl5, zl6, zl7, zl8, zl9, zl10, zl11, zl12, zl13, zl14, zl16, zl18, zl19, zl20, zl22, zl24, zl30, zl32, zl33, zl36, zl38, zl40, zl41, zl48, zl50, zl51, zl57, zl59, zl60, zl61, zl62, zl70, zl71, zl99, zl100, zl103, zl104, zl105, zl106, zl107, zl108, zl109, zl110, zl111, zl112, zl113, zl114, zl115, zl116, zl124, zl127, zl255, zl999, zl1000, zl1001, zl1002, zl1003]
      rw [if_pos (by decide +kernel)]
    rw [zbnd_c this]
  · have := (hB.2.2.1 a (by omega)).1
    rw [if_neg q]
    by_cases q2 : s a < 48
    · rw [zbnd_c (qM_in_lo M q2 (by omega)), if_neg (by rw [dg_e]; omega)]
    by_cases q3 : 57 < s a
    · rw [zbnd_c (qM_in_hi M (show 48 ≤ s a by omega) q3 (by omega)), if_neg (by rw [dg_e]; omega)]
    · rw [zbnd_c (qM_in_ok2 M (show 48 ≤ s a by omega) (show s a ≤ 57 by omega) (by omega)), if_pos (by rw [dg_e]; omega)]
theorem numb_m {M : zM} {a : Nat} {T : List Tk} {st : List Nat} (hB : BM m s tl) (h : MT m M cn b a T st) (ha : a ≤ tl) : ∃ M', qM_takesNumber M = some (nI (bv (pNum s a).1), M') ∧ MT m M' cn b (pNum s a).2.1 T st ∧ ((pNum s a).1 = true → M'.1 40 0 14 = nI (pNum s a).2.2) := by
  have htl := hB.1
  have d0 := isd_e hB h ha
  -- one more digit
  have stp : ∀ F v x a M, MT m M cn b a T st → a ≤ tl → v < 2 → M.1 40 0 14 = nI x → x < 10 → dg (s a) = true → ∃ M', (∀ R, qM_takesNumber_L16 F M' (nI (v + 1)) = R → qM_takesNumber_L16 (F + 1) M (nI v) = R) ∧ MT m M' cn b (a + 1) T st ∧ M'.1 40 0 14 = nI (x * 10 + (s a - 48)) := by
    intro F v x a M h ha hv hx hx10 hd
    have k1 := dg_e.mp hd
    have i1 := in_tl hB.2.2.2 (a := a) (by omega)
    have d1 := isd_e hB h ha
    rw [if_pos hd] at d1
    have n1 := next_e hB h ha
    have eb : bI s tl a = nI (s a) := bI_y hB.2.2.2 (by omega) rfl
    rw [eb] at n1
    refine ⟨zset (zset M 40 0 14 (nI (x * 10 + (s a - 48)))) 40 0 13 (nI (a + 1)), fun R hR => ?_, MT_at (MT_dig h _) _, by rw [zg_n (by omega), zg_e ⟨rfl, rfl, rfl⟩]⟩
    unfold qM_takesNumber_L16
    simp only [zl0, zl1, zl2, zl3, zl4, zl5, zl6, zl7, zl8, zl9, zl10, zl11, zl12, zl13, zl14, zl16, zl18, zl19, zl20, zl22, zl24, zl30, zl32, zl33, zl36, zl38, zl40, zl41, zl48, zl50, zl51, zl57, zl59, zl60, zl61, zl62, zl70, zl71, zl99, zl100, zl103, zl104, zl105, zl106, zl107, zl108, zl109, zl110, zl111, zl112, zl113, zl114, zl115, zl116, zl124, zl127, zl255, zl999, zl1000, zl1001, zl1002, zl1003]
    rw [if_neg (nI_ge (by omega) (by omega)), zb_y d1, zbnd_c n1, hx, ze_mul, ze_add, ze_sub (by omega), znm_e, zg_n (by omega), h.2.2.2.1, ze_add, znm_e, ze_add, show 10 * x + s a - 48 = x * 10 + (s a - 48) by omega]
    exact hR
  have fin : ∀ F v a M, MT m M cn b a T st → a ≤ tl → (v = 2 ∨ (v < 2 ∧ ¬ dg (s a) = true)) → qM_takesNumber_L16 (F + 1) M (nI v) = some (nI 1, M) := by
    intro F v a M h ha hv
    unfold qM_takesNumber_L16
    simp only [zl0, zl1, zl2, zl3, zl4, zl5, zl6, zl7, zl8, zl9, zl10, zl11, zl12, zl13, zl14, zl16, zl18, zl19, zl20, zl22, zl24, zl30, zl32, zl33, zl36, zl38, zl40, zl41, zl48, zl50, zl51, zl57, zl59, zl60, zl61, zl62, zl70, zl71, zl99, zl100, zl103, zl104, zl105, zl106, zl107, zl108, zl109, zl110, zl111, zl112, zl113, zl114, zl115, zl116, zl124, zl127, zl255, zl999, zl1000, zl1001, zl1002, zl1003]
    rcases hv with rfl | ⟨v2, hd⟩
    · rw [if_pos (nI_le (by omega) (by omega))]
    · have d1 := isd_e hB h ha
      rw [if_neg hd] at d1
      rw [if_neg (nI_ge (by omega) (by omega)), zb_n d1]
  unfold pNum
  by_cases q1 : dg (s a) = true
  · have k1 := dg_e.mp q1
    have i1 := in_tl hB.2.2.2 (a := a) (by omega)
    rw [if_pos q1] at d0 ⊢
    have h0 := MT_dig h (nI 0)
    obtain ⟨M1, a1, a2, a3⟩ := stp 999 0 0 a (zset M 40 0 14 (nI 0)) h0 ha (by decide) (zg_e ⟨rfl, rfl, rfl⟩) (by decide) q1
    have head : ∀ R, qM_takesNumber_L16 999 M1 (nI 1) = R → qM_takesNumber M = R := by
      intro R hR
      unfold qM_takesNumber
      simp only [zl0, zl1, zl2, zl3, zl4, zl5, zl6, zl7, zl8, zl9, zl10, zl11, zl12, zl13, zl14, zl16, zl18, zl19, zl20, zl22, zl24, zl30, zl32, zl33, zl36, zl38, zl40, zl41, zl48, zl50, zl51, zl57, zl59, zl60, zl61, zl62, zl70, zl71, zl99, zl100, zl103, zl104, zl105, zl106, zl107, zl108, zl109, zl110, zl111, zl112, zl113, zl114, zl115, zl116, zl124, zl127, zl255, zl999, zl1000, zl1001, zl1002, zl1003]
      rw [zb_y d0, znm_e]
      exact a1 R hR
    have a3' : M1.1 40 0 14 = nI (s a - 48) := by rw [a3, Nat.zero_mul, Nat.zero_add]
    by_cases q2 : dg (s (a + 1)) = true
    · have k2 := dg_e.mp q2
      have i2 := in_tl hB.2.2.2 (a := a + 1) (by omega)
      obtain ⟨M2, b1, b2, b3⟩ := stp 998 1 (s a - 48) (a + 1) M1 a2 (by omega) (by decide) a3' (by omega) q2
      rw [if_pos q2]
      exact ⟨M2, head _ (b1 _ (fin 997 2 (a + 1 + 1) M2 b2 (by omega) (Or.inl rfl))), b2, fun _ => b3⟩
    · rw [if_neg q2]
      exact ⟨M1, head _ (fin 998 1 (a + 1) M1 a2 (by omega) (Or.inr ⟨by decide, q2⟩)), a2, fun _ => a3'⟩
  · rw [if_neg q1] at d0 ⊢
    refine ⟨M, ?_, h, fun q => absurd (show false = true from q) Bool.false_ne_true⟩
    unfold qM_takesNumber
    simp only [zl0, zl1, zl2, zl3, zl4, zl5, zl6, zl7, zl8, zl9, zl10, zl11, zl12, zl13, zl14, zl16, zl18, zl19, zl20, zl22, zl24, zl30, zl32, zl33, zl36, zl38, zl40, zl41, zl48, zl50, zl51, zl57, zl59, zl60, zl61, zl62, zl70, zl71, zl99, zl100, zl103, zl104, zl105, zl106, zl107, zl108, zl109, zl110, zl111, zl112, zl113, zl114, zl115, zl116, zl124, zl127, zl255, zl999, zl1000, zl1001, zl1002, zl1003]
    rw [zb_n d0]
    rfl
theorem place_e (M : zM) {x : Nat} (hx : x < 128) : qM_place M (nI x) = some (if plc x < 6 then nI (plc x) else -nI 1, M) := by
  have nn : ∀ k, k < 128 → x ≠ k → ¬ nI x = nI k := fun k hk h => znI_ne (by omega) (by omega) h
  have fx : ∀ k (A B : Option (Int32 × zM)), k < 128 → (if nI x = nI k then A else B) = if x = k then A else B := by
    intro k A B hk
    by_cases q : x = k
    · rw [if_pos q, if_pos (by rw [q])]
    · rw [if_neg q, if_neg (nn k hk q)]
  unfold qM_place plc
  simp only [zl0, zl1, zl2, zl3, zl4, zl5, zl6, zl7, zl8, zl9, zl10, zl11, zl12, zl13, zl14, zl16, zl18, zl19, zl20, zl22, zl24, zl30, zl32, zl33, zl36, zl38, zl40, zl41, zl48, zl50, zl51, zl57, zl59, zl60, zl61, zl62, zl70, zl71, zl99, zl100, zl103, zl104, zl105, zl106, zl107, zl108, zl109, zl110, zl111, zl112, zl113, zl114, zl115, zl116, zl124, zl127, zl255, zl999, zl1000, zl1001, zl1002, zl1003]
  rw [fx 103 _ _ (by decide), fx 104 _ _ (by decide), fx 105 _ _ (by decide), fx 106 _ _ (by decide), fx 107 _ _ (by decide), fx 108 _ _ (by decide), fx 109 _ _ (by decide), fx 110 _ _ (by decide), fx 111 _ _ (by decide), fx 112 _ _ (by decide), fx 113 _ _ (by decide), fx 114 _ _ (by decide), fx 115 _ _ (by decide), fx 116 _ _ (by decide)]
  by_cases q0 : x = 103
  · simp only [q0]; rfl
  by_cases q1 : x = 107
  · simp only [q1]; rfl
  by_cases q2 : x = 116
  · simp only [q2]; rfl
  by_cases q3 : x = 112
  · simp only [q3]; rfl
  by_cases q4 : x = 108
  · simp only [q4]; rfl
  by_cases q5 : x = 110
  · simp only [q5]; rfl
  rw [if_neg q0, if_neg q1, if_neg q2, if_neg q3, if_neg q4, if_neg q5]
  simp only [if_neg q0, if_neg q1, if_neg q2, if_neg q3, if_neg q4, if_neg q5, ite_self]
  rfl
theorem test_m {M : zM} {a o : Nat} {T : List Tk} {st : List Nat} (hB : BM m s tl) (h : MT m M cn b a T st) (ha : a ≤ tl) (ho : o ≤ 500) (hi : b + T.length + st.length ≤ o + a) (hst : st.length ≤ a) : ∃ M', qM_takesTest M = some (nI (bv (pTest s a).1), M') ∧ ((pTest s a).1 = true → MT m M' cn b (pTest s a).2.1 (T ++ (pTest s a).2.2 ++ nots (nb st)) (strip st)) ∧ ((pTest s a).1 = false → MT m M' cn b (pTest s a).2.1 T st) := by
  have htl := hB.1
  have n1 := next_e hB h ha
  have n10 : ¬ nI 1 = nI 0 := znI_ne (by decide) (by decide) (by decide)
  have fm : ¬ nI 0 ≤ (-nI 1 : Int32) := of_eq_false (ze_nle (by omega) (by omega) (by omega))
  unfold pTest
  by_cases h1 : plc (s a) < 6
  · rw [if_pos h1]
    have hs := plc_lt h1
    have i1 := in_tl hB.2.2.2 (a := a) (by omega)
    have eb : bI s tl a = nI (s a) := bI_y hB.2.2.2 hs rfl
    rw [eb] at n1
    have pl := place_e M hs
    rw [if_pos h1] at pl
    have hA := MT_at h (a + 1)
    have n2 := next_e hB hA (by omega)
    have head : ∀ R, (zbnd (qM_in (zset M 40 0 13 (nI (a + 1))) (bI s tl (a + 1)) (nI 60) (nI 62)) fun x12 M11 => if x12 = nI 0 then (some (nI 0, M11)) else (znm (zset M11 40 0 13 ((M11.1 40 0 13) + nI 1)) fun M14 => zbnd (qM_takesNumber M14 ) fun x16 M15 => if x16 = nI 0 then (some (nI 0, M15)) else (zbnd (qM_emits M15 (((nI 1000 * nI (plc (s a))) + (nI 100 * (bI s tl (a + 1) - nI 60))) + (M15.1 40 0 14))) fun _ M18 => zbnd (qM_whole M18 ) fun _ M20 => some (nI 1, M20)))) = R → qM_takesTest M = R := by
      intro R hR
      unfold qM_takesTest
      simp only [zl0, zl1, zl2, zl3, zl4, zl5, zl6, zl7, zl8, zl9, zl10, zl11, zl12, zl13, zl14, zl16, zl18, zl19, zl20, zl22, zl24, zl30, zl32, zl33, zl36, zl38, zl40, zl41, zl48, zl50, zl51, zl57, zl59, zl60, zl61, zl62, zl70, zl71, zl99, zl100, zl103, zl104, zl105, zl106, zl107, zl108, zl109, zl110, zl111, zl112, zl113, zl114, zl115, zl116, zl124, zl127, zl255, zl999, zl1000, zl1001, zl1002, zl1003]
      rw [zbnd_c n1, zbnd_c pl, if_pos (nI_le (by omega) (by omega)), h.2.2.2.1, ze_add, znm_e, zbnd_c n2]
      exact hR
    by_cases h2 : 60 ≤ s (a + 1) ∧ s (a + 1) ≤ 62
    · rw [if_pos h2]
      have i2 := in_tl hB.2.2.2 (a := a + 1) (by omega)
      have eb2 : bI s tl (a + 1) = nI (s (a + 1)) := bI_y hB.2.2.2 (by omega) rfl
      rw [eb2] at head
      have hA2 := MT_at hA (a + 2)
      obtain ⟨M1, c1, c2, c3⟩ := numb_m hB hA2 (by omega)
      have head2 : ∀ R, (zbnd (qM_takesNumber (zset (zset M 40 0 13 (nI (a + 1))) 40 0 13 (nI (a + 2)))) fun x16 M15 => if x16 = nI 0 then (some (nI 0, M15)) else (zbnd (qM_emits M15 (((nI 1000 * nI (plc (s a))) + (nI 100 * (nI (s (a + 1)) - nI 60))) + (M15.1 40 0 14))) fun _ M18 => zbnd (qM_whole M18 ) fun _ M20 => some (nI 1, M20))) = R → qM_takesTest M = R := by
        intro R hR
        refine head R ?_
        rw [zb_y (qM_in_ok2 _ (show 60 ≤ s (a + 1) by omega) (show s (a + 1) ≤ 62 by omega) (by omega)), hA.2.2.2.1, ze_add, znm_e]
        exact hR
      by_cases h3 : (pNum s (a + 2)).1 = true
      · obtain ⟨k1, k2, k3⟩ := pNum_ok hB.2.2.2 h3
        rw [if_pos h3]
        rw [h3] at c1
        have et : ((nI 1000 * nI (plc (s a))) + (nI 100 * (nI (s (a + 1)) - nI 60))) + nI (pNum s (a + 2)).2.2 = tkS (s (a + 1) - 60, plc (s a), (pNum s (a + 2)).2.2) := by
          unfold tkS
          rw [if_neg (show ¬ s (a + 1) - 60 = 3 by omega), if_neg (show ¬ s (a + 1) - 60 = 4 by omega), if_neg (show ¬ s (a + 1) - 60 = 5 by omega), ze_sub (by omega), ze_mul, ze_mul, ze_add, ze_add]
        obtain ⟨M2, e1, e2, -⟩ := emit_e (t := (s (a + 1) - 60, plc (s a), (pNum s (a + 2)).2.2)) c2 (by omega)
        obtain ⟨M3, w1, w2⟩ := whole_e st 1000 M2 (pNum s (a + 2)).2.1 (T ++ [(s (a + 1) - 60, plc (s a), (pNum s (a + 2)).2.2)]) e2 (by rw [List.length_append]; show b + (T.length + 1) + st.length < 600; omega) (by omega) (by omega)
        refine ⟨M3, head2 _ ?_, fun _ => w2, fun q => absurd (show true = false from q) (by decide)⟩
        rw [zbnd_c c1, if_neg (show ¬ nI (bv true) = nI 0 from znI_ne (by decide) (by decide) (by decide)), c3 h3, et, zbnd_c e1]
        have : qM_whole M2 = some ((), M3) := w1
        rw [zbnd_c this]
        rfl
      · have h3f : (pNum s (a + 2)).1 = false := by
          cases hb : (pNum s (a + 2)).1
          · rfl
          · exact absurd hb h3
        have e2 : (pNum s (a + 2)).2.1 = a + 2 := by
          unfold pNum at h3 ⊢
          by_cases q : dg (s (a + 2)) = true
          · rw [if_pos q] at h3
            exfalso
            apply h3
            by_cases q2 : dg (s (a + 2 + 1)) = true
            · rw [if_pos q2]
            · rw [if_neg q2]
          · rw [if_neg q]
        rw [if_neg h3]
        rw [h3f] at c1
        rw [e2] at c2
        refine ⟨M1, head2 _ ?_, fun q => absurd (show false = true from q) Bool.false_ne_true, fun _ => c2⟩
        rw [zbnd_c c1, if_pos (show nI (bv false) = nI 0 from rfl)]
        rfl
    · rw [if_neg h2]
      refine ⟨zset M 40 0 13 (nI (a + 1)), head _ ?_, fun q => absurd (show false = true from q) Bool.false_ne_true, fun _ => hA⟩
      have : qM_in (zset M 40 0 13 (nI (a + 1))) (bI s tl (a + 1)) (nI 60) (nI 62) = some (nI 0, zset M 40 0 13 (nI (a + 1))) := by
        unfold bI
        by_cases q : tl ≤ a + 1
        · rw [if_pos q]
          unfold qM_in
          simp only [zl0, zl1, zl2, zl3, zl4, zl5, zl6, zl7, zl8, zl9, zl10, zl11, zl12, zl13, zl14, zl16, zl18, zl19, zl20, zl22, zl24, zl30, zl32, zl33, zl36, zl38, zl40, zl41, zl48, zl50, zl51, zl57, zl59, zl60, zl61, zl62, zl70, zl71, zl99, zl100, zl103, zl104, zl105, zl106, zl107, zl108, zl109, zl110, zl111, zl112, zl113, zl114, zl115, zl116, zl124, zl127, zl255, zl999, zl1000, zl1001, zl1002, zl1003]
          rw [if_pos (by decide +kernel)]
        · have hs1 := (hB.2.2.1 (a + 1) (by omega)).1
          rw [if_neg q]
          by_cases q2 : s (a + 1) < 60
          · exact qM_in_lo _ q2 (by omega)
          · exact qM_in_hi _ (by omega) (by omega) (by omega)
      rw [zb_n this]
      rfl
  · rw [if_neg h1]
    refine ⟨M, ?_, fun q => absurd (show false = true from q) Bool.false_ne_true, fun _ => h⟩
    unfold qM_takesTest
    simp only [zl0, zl1, zl2, zl3, zl4, zl5, zl6, zl7, zl8, zl9, zl10, zl11, zl12, zl13, zl14, zl16, zl18, zl19, zl20, zl22, zl24, zl30, zl32, zl33, zl36, zl38, zl40, zl41, zl48, zl50, zl51, zl57, zl59, zl60, zl61, zl62, zl70, zl71, zl99, zl100, zl103, zl104, zl105, zl106, zl107, zl108, zl109, zl110, zl111, zl112, zl113, zl114, zl115, zl116, zl124, zl127, zl255, zl999, zl1000, zl1001, zl1002, zl1003]
    rw [zbnd_c n1]
    unfold bI
    by_cases q : tl ≤ a
    · have pm : qM_place M (-nI 1) = some (-nI 1, M) := by
        unfold qM_place
        simp only [zl0, zl1, zl2, zl3, zl4, zl5, zl6, zl7, zl8, zl9, zl10, zl11, zl12, zl13, zl14, zl16, zl18, zl19, zl20, zl22, zl24, zl30, zl32, zl33, zl36, zl38, zl40, zl41, zl48, zl50, zl51, zl57, zl59, zl60, zl61, zl62, zl70, zl71, zl99, zl100, zl103, zl104, zl105, zl106, zl107, zl108, zl109, zl110, zl111, zl112, zl113, zl114, zl115, zl116, zl124, zl127, zl255, zl999, zl1000, zl1001, zl1002, zl1003]
        have d : ∀ k, k < 128 → ¬ (-nI 1 : Int32) = nI k := fun k hk => of_eq_false (ze_neq' (by omega) (by omega) (by omega))
        rw [if_neg (d 103 (by decide)), if_neg (d 104 (by decide)), if_neg (d 105 (by decide)), if_neg (d 106 (by decide)), if_neg (d 107 (by decide)), if_neg (d 108 (by decide)), if_neg (d 109 (by decide)), if_neg (d 110 (by decide)), if_neg (d 111 (by decide)), if_neg (d 112 (by decide)), if_neg (d 113 (by decide)), if_neg (d 114 (by decide)), if_neg (d 115 (by decide)), if_neg (d 116 (by decide))]
      rw [if_pos q, zbnd_c pm, if_neg fm]
      rfl
    · have pl := place_e M (hB.2.2.1 a (by omega)).1
      rw [if_neg h1] at pl
      rw [if_neg q, zbnd_c pl, if_neg fm]
      rfl
end
