/-! PURE PART: the reference reads. -/
def BM (m : zM) (s : Nat → Nat) (tl : Nat) : Prop := tl ≤ 100 ∧ m.1 40 0 12 = nI tl ∧ (∀ j, j < tl → s j < 128 ∧ m.1 49 0 j = nI (s j)) ∧ ∀ j, tl ≤ j → s j = 128
def cnt : List Nat → Nat
  | [] => 0
  | x :: st => (if x = 33 ∨ x = 40 then 1 else 0) + cnt st
def PSt (M : zM) : List Nat → Prop
  | [] => True
  | x :: st => M.1 56 0 st.length = nI x ∧ x < 128 ∧ PSt M st
theorem PSt_cg {M M' : zM} : ∀ {st : List Nat}, (∀ j, j < st.length → M'.1 56 0 j = M.1 56 0 j) → PSt M st → PSt M' st
  | [], _, _ => trivial
  | x :: st, h, p => by
    rw [List.length_cons] at h
    exact ⟨by rw [h _ (by omega)]; exact p.1, p.2.1, PSt_cg (fun j hj => h j (by omega)) p.2.2⟩
def MT (m M : zM) (cn b a : Nat) (T : List Tk) (st : List Nat) : Prop := M.2 = m.2 ∧ (∀ k j, k ≠ 55 → k ≠ 56 → ¬ (k = 40 ∧ (j = 13 ∨ j = 14 ∨ j = 23 ∨ j = 24 ∨ j = 25)) → ¬ (k = 54 ∧ j = cn) → M.1 k 0 j = m.1 k 0 j) ∧ (∀ j, j < b → M.1 55 0 j = m.1 55 0 j) ∧ M.1 40 0 13 = nI a ∧ M.1 40 0 23 = nI (b + T.length) ∧ (∀ i t, T[i]? = some t → M.1 55 0 (b + i) = tkS t) ∧ M.1 40 0 24 = nI st.length ∧ PSt M st ∧ M.1 40 0 25 = nI (cnt st)
def nb : List Nat → Nat
  | [] => 0
  | x :: st => if x = 33 then nb st + 1 else 0
def strip : List Nat → List Nat
  | [] => []
  | x :: st => if x = 33 then strip st else x :: st
theorem nb_strip : ∀ st : List Nat, nb st + (strip st).length = st.length
  | [] => rfl
  | x :: st => by
    have := nb_strip st
    unfold nb strip
    by_cases h : x = 33
    · rw [if_pos h, if_pos h, List.length_cons]; omega
    · rw [if_neg h, if_neg h, List.length_cons]; omega
def nots (n : Nat) : List Tk := List.replicate n tNOT
section
variable {m : zM} {s : Nat → Nat} {tl cn b : Nat}
def bI (s : Nat → Nat) (tl a : Nat) : Int32 := if tl ≤ a then -nI 1 else nI (s a)
theorem bI_y (h128 : ∀ j, tl ≤ j → s j = 128) {a x : Nat} (hx : x < 128) (h : s a = x) : bI s tl a = nI x := by
  have := in_tl h128 (a := a) (by omega)
  unfold bI
  rw [if_neg (by omega), h]
theorem bI_n (hB : BM m s tl) {a x : Nat} (hx : x < 128) (h : s a ≠ x) : ¬ bI s tl a = nI x := by
  unfold bI
  by_cases q : tl ≤ a
  · rw [if_pos q]
    exact of_eq_false (ze_neq' (by omega) (by omega) (by omega))
  · have := (hB.2.2.1 a (by omega)).1
    rw [if_neg q]
    exact znI_ne (by omega) (by omega) h
theorem MT_at {M : zM} {a : Nat} {T : List Tk} {st : List Nat} (h : MT m M cn b a T st) (a' : Nat) : MT m (zset M 40 0 13 (nI a')) cn b a' T st := by
  obtain ⟨h1, h2, h3, h4, h5, h6, h7, h8, h9⟩ := h
  exact ⟨h1, fun k j q1 q2 q3 q4 => by rw [zg_n (by omega), h2 k j q1 q2 q3 q4], fun j hj => by rw [zg_n (by omega), h3 j hj], zg_e ⟨rfl, rfl, rfl⟩, by rw [zg_n (by omega), h5], fun i t q => by rw [zg_n (by omega), h6 i t q], by rw [zg_n (by omega), h7], PSt_cg (fun j _ => zg_n (by omega)) h8, by rw [zg_n (by omega), h9]⟩
theorem MT_dig {M : zM} {a : Nat} {T : List Tk} {st : List Nat} (h : MT m M cn b a T st) (v : Int32) : MT m (zset M 40 0 14 v) cn b a T st := by
  obtain ⟨h1, h2, h3, h4, h5, h6, h7, h8, h9⟩ := h
  exact ⟨h1, fun k j q1 q2 q3 q4 => by rw [zg_n (by omega), h2 k j q1 q2 q3 q4], fun j hj => by rw [zg_n (by omega), h3 j hj], by rw [zg_n (by omega), h4], by rw [zg_n (by omega), h5], fun i t q => by rw [zg_n (by omega), h6 i t q], by rw [zg_n (by omega), h7], PSt_cg (fun j _ => zg_n (by omega)) h8, by rw [zg_n (by omega), h9]⟩
theorem MT_to {M : zM} {a : Nat} {T : List Tk} {st : List Nat} (h : MT m M cn b a T st) (v : Int32) : MT m (zset M 54 0 cn v) cn b a T st := by
  obtain ⟨h1, h2, h3, h4, h5, h6, h7, h8, h9⟩ := h
  exact ⟨h1, fun k j q1 q2 q3 q4 => by rw [zg_n (by omega), h2 k j q1 q2 q3 q4], fun j hj => by rw [zg_n (by omega), h3 j hj], by rw [zg_n (by omega), h4], by rw [zg_n (by omega), h5], fun i t q => by rw [zg_n (by omega), h6 i t q], by rw [zg_n (by omega), h7], PSt_cg (fun j _ => zg_n (by omega)) h8, by rw [zg_n (by omega), h9]⟩
/-- down by one, the count of those open as told -/
theorem MT_pop {M : zM} {a x : Nat} {T : List Tk} {st : List Nat} (h : MT m M cn b a T (x :: st)) (hx : ¬ (x = 33 ∨ x = 40)) : MT m (zset M 40 0 24 (nI st.length)) cn b a T st := by
  obtain ⟨h1, h2, h3, h4, h5, h6, h7, h8, h9⟩ := h
  have e : cnt (x :: st) = cnt st := by show (if x = 33 ∨ x = 40 then 1 else 0) + cnt st = cnt st; rw [if_neg hx, Nat.zero_add]
  exact ⟨h1, fun k j q1 q2 q3 q4 => by rw [zg_n (by omega), h2 k j q1 q2 q3 q4], fun j hj => by rw [zg_n (by omega), h3 j hj], by rw [zg_n (by omega), h4], by rw [zg_n (by omega), h5], fun i t q => by rw [zg_n (by omega), h6 i t q], zg_e ⟨rfl, rfl, rfl⟩, PSt_cg (fun j _ => zg_n (by omega)) h8.2.2, by rw [zg_n (by omega), h9, e]⟩
theorem MT_pop1 {M : zM} {a x : Nat} {T : List Tk} {st : List Nat} (h : MT m M cn b a T (x :: st)) (hx : x = 33 ∨ x = 40) : MT m (zset (zset M 40 0 24 (nI st.length)) 40 0 25 (nI (cnt st))) cn b a T st := by
  obtain ⟨h1, h2, h3, h4, h5, h6, h7, h8, h9⟩ := h
  exact ⟨h1, fun k j q1 q2 q3 q4 => by rw [zg_n (by omega), zg_n (by omega), h2 k j q1 q2 q3 q4], fun j hj => by rw [zg_n (by omega), zg_n (by omega), h3 j hj], by rw [zg_n (by omega), zg_n (by omega), h4], by rw [zg_n (by omega), zg_n (by omega), h5], fun i t q => by rw [zg_n (by omega), zg_n (by omega), h6 i t q], by rw [zg_n (by omega), zg_e ⟨rfl, rfl, rfl⟩], PSt_cg (fun j _ => by rw [zg_n (by omega), zg_n (by omega)]) h8.2.2, zg_e ⟨rfl, rfl, rfl⟩⟩
theorem MT_push {M : zM} {a x : Nat} {T : List Tk} {st : List Nat} (h : MT m M cn b a T st) (hx : ¬ (x = 33 ∨ x = 40)) (hx128 : x < 128) : MT m (zset (zset (zset M 56 0 st.length (nI x)) 40 0 24 (nI (st.length + 1))) 40 0 13 (nI (a + 1))) cn b (a + 1) T (x :: st) := by
  obtain ⟨h1, h2, h3, h4, h5, h6, h7, h8, h9⟩ := h
  have e : cnt (x :: st) = cnt st := by show (if x = 33 ∨ x = 40 then 1 else 0) + cnt st = cnt st; rw [if_neg hx, Nat.zero_add]
  exact ⟨h1, fun k j q1 q2 q3 q4 => by rw [zg_n (by omega), zg_n (by omega), zg_n (by omega), h2 k j q1 q2 q3 q4], fun j hj => by rw [zg_n (by omega), zg_n (by omega), zg_n (by omega), h3 j hj], zg_e ⟨rfl, rfl, rfl⟩, by rw [zg_n (by omega), zg_n (by omega), zg_n (by omega), h5], fun i t q => by rw [zg_n (by omega), zg_n (by omega), zg_n (by omega), h6 i t q], by rw [zg_n (by omega), zg_e ⟨rfl, rfl, rfl⟩]; rfl, ⟨by rw [zg_n (by omega), zg_n (by omega), zg_e ⟨rfl, rfl, rfl⟩], hx128, PSt_cg (fun j _ => by rw [zg_n (by omega), zg_n (by omega), zg_n (by omega)]) h8⟩, by rw [zg_n (by omega), zg_n (by omega), zg_n (by omega), h9, e]⟩
theorem MT_push1 {M : zM} {a x : Nat} {T : List Tk} {st : List Nat} (h : MT m M cn b a T st) (hx : x = 33 ∨ x = 40) : MT m (zset (zset (zset (zset M 40 0 25 (nI (cnt st + 1))) 56 0 st.length (nI x)) 40 0 24 (nI (st.length + 1))) 40 0 13 (nI (a + 1))) cn b (a + 1) T (x :: st) := by
  obtain ⟨h1, h2, h3, h4, h5, h6, h7, h8, h9⟩ := h
  have e : cnt (x :: st) = cnt st + 1 := by show (if x = 33 ∨ x = 40 then 1 else 0) + cnt st = cnt st + 1; rw [if_pos hx, Nat.add_comm]
  exact ⟨h1, fun k j q1 q2 q3 q4 => by rw [zg_n (by omega), zg_n (by omega), zg_n (by omega), zg_n (by omega), h2 k j q1 q2 q3 q4], fun j hj => by rw [zg_n (by omega), zg_n (by omega), zg_n (by omega), zg_n (by omega), h3 j hj], zg_e ⟨rfl, rfl, rfl⟩, by rw [zg_n (by omega), zg_n (by omega), zg_n (by omega), zg_n (by omega), h5], fun i t q => by rw [zg_n (by omega), zg_n (by omega), zg_n (by omega), zg_n (by omega), h6 i t q], by rw [zg_n (by omega), zg_e ⟨rfl, rfl, rfl⟩]; rfl, ⟨by rw [zg_n (by omega), zg_n (by omega), zg_e ⟨rfl, rfl, rfl⟩], by omega, PSt_cg (fun j _ => by rw [zg_n (by omega), zg_n (by omega), zg_n (by omega), zg_n (by omega)]) h8⟩, by rw [zg_n (by omega), zg_n (by omega), zg_n (by omega), zg_e ⟨rfl, rfl, rfl⟩, e]⟩
theorem next_e {M : zM} {a : Nat} {T : List Tk} {st : List Nat} (hB : BM m s tl) (h : MT m M cn b a T st) (ha : a ≤ tl) : qM_next M = some (bI s tl a, M) := by
  have htl := hB.1
  unfold qM_next bI
  simp only [zl0, zl1, zl2, zl3, zl4, zl5, zl6, zl7, zl8, zl9, zl10, zl11, zl12, zl13, zl14, zl16, zl18, zl19, zl20, zl22, zl24, zl30, zl32, zl33, zl36, zl38, zl40, zl41, zl48, zl50, zl51, zl57, zl59, zl60, zl61, zl62, zl70, zl71, zl99, zl100, zl103, zl104, zl105, zl106, zl107, zl108, zl109, zl110, zl111, zl112, zl113, zl114, zl115, zl116, zl124, zl127, zl255, zl999, zl1000, zl1001, zl1002, zl1003]
  rw [h.2.2.2.1, h.2.1 _ _ (by decide) (by decide) (by omega) (by omega), hB.2.1]
  by_cases q : tl ≤ a
  · rw [if_pos (nI_le (by omega) (by omega)), if_pos q]
  · rw [if_neg (nI_ge (by omega) (by omega)), if_neg q, zchk_e (ze_in (by omega) (by omega)), ze_cl (show a < 2 ^ 31 by omega), h.2.1 _ _ (by decide) (by decide) (by omega) (by omega), (hB.2.2.1 a (by omega)).2]
theorem emit_e {M : zM} {a : Nat} {T : List Tk} {st : List Nat} {t : Tk} (h : MT m M cn b a T st) (hb : b + T.length < 600) : ∃ M', qM_emits M (tkS t) = some ((), M') ∧ MT m M' cn b a (T ++ [t]) st ∧ M'.1 40 0 24 = M.1 40 0 24 ∧ M'.1 40 0 25 = M.1 40 0 25 ∧ ∀ j, M'.1 56 0 j = M.1 56 0 j := by
  obtain ⟨h1, h2, h3, h4, h5, h6, h7, h8, h9⟩ := h
  refine ⟨zset (zset M 55 0 (b + T.length) (tkS t)) 40 0 23 (nI (b + T.length + 1)), ?_, ⟨h1, fun k j q1 q2 q3 q4 => by rw [zg_n (by omega), zg_n (by omega), h2 k j q1 q2 q3 q4], fun j hj => by rw [zg_n (by omega), zg_n (by omega), h3 j hj], by rw [zg_n (by omega), zg_n (by omega), h4], by rw [zg_e ⟨rfl, rfl, rfl⟩, List.length_append]; rfl, fun i t' q => ?_, by rw [zg_n (by omega), zg_n (by omega), h7], PSt_cg (fun j _ => by rw [zg_n (by omega), zg_n (by omega)]) h8, by rw [zg_n (by omega), zg_n (by omega), h9]⟩, by rw [zg_n (by omega), zg_n (by omega)], by rw [zg_n (by omega), zg_n (by omega)], fun j => by rw [zg_n (by omega), zg_n (by omega)]⟩
  · unfold qM_emits
    simp only [zl0, zl1, zl2, zl3, zl4, zl5, zl6, zl7, zl8, zl9, zl10, zl11, zl12, zl13, zl14, zl16, zl18, zl19, zl20, zl22, zl24, zl30, zl32, zl33, zl36, zl38, zl40, zl41, zl48, zl50, zl51, zl57, zl59, zl60, zl61, zl62, zl70, zl71, zl99, zl100, zl103, zl104, zl105, zl106, zl107, zl108, zl109, zl110, zl111, zl112, zl113, zl114, zl115, zl116, zl124, zl127, zl255, zl999, zl1000, zl1001, zl1002, zl1003]
    rw [h5, zchk_e (ze_in (by omega) (by omega)), ze_cl (show b + T.length < 2 ^ 31 by omega), znm_e, zg_n (by omega), h5, ze_add, znm_e]
  · rw [zg_n (by omega)]
    rcases Nat.lt_trichotomy i T.length with g | g | g
    · rw [List.getElem?_append_left g] at q
      rw [zg_n (by omega), h6 i t' q]
    · rw [g, List.getElem?_append_right (Nat.le_refl _), Nat.sub_self] at q
      have : t = t' := by injection q
      rw [g, zg_e ⟨rfl, rfl, rfl⟩, this]
    · rw [List.getElem?_eq_none (by rw [List.length_append]; show T.length + 1 ≤ i; omega)] at q
      cases q
theorem whole_e : ∀ (st : List Nat) (F : Nat) (M : zM) (a : Nat) (T : List Tk), MT m M cn b a T st → b + T.length + st.length < 600 → st.length < 101 → st.length < F → ∃ M', qM_whole_L0 F M = some ((), M') ∧ MT m M' cn b a (T ++ nots (nb st)) (strip st)
  | [], F + 1, M, a, T, h, hb, hs, hF => by
    refine ⟨M, ?_, ?_⟩
    · unfold qM_whole_L0
      simp only [zl0, zl1, zl2, zl3, zl4, zl5, zl6, zl7, zl8, zl9, zl10, zl11, zl12, zl13, zl14, zl16, zl18, zl19, zl20, zl22, zl24, zl30, zl32, zl33, zl36, zl38, zl40, zl41, zl48, zl50, zl51, zl57, zl59, zl60, zl61, zl62, zl70, zl71, zl99, zl100, zl103, zl104, zl105, zl106, zl107, zl108, zl109, zl110, zl111, zl112, zl113, zl114, zl115, zl116, zl124, zl127, zl255, zl999, zl1000, zl1001, zl1002, zl1003]
      rw [h.2.2.2.2.2.2.1]
      rw [List.length_nil, if_pos (show nI 0 ≤ nI 0 from nI_le (by omega) (by omega))]
    · show MT m M cn b a (T ++ []) []
      rw [List.append_nil]
      exact h
  | x :: st, F + 1, M, a, T, h, hb, hs, hF => by
    have e24 : M.1 40 0 24 = nI (st.length + 1) := h.2.2.2.2.2.2.1
    have e56 : M.1 56 0 st.length = nI x := h.2.2.2.2.2.2.2.1.1
    rw [List.length_cons] at hb hs hF
    by_cases hx : x = 33
    · obtain ⟨M1, a1, a2, a3, a4, a5⟩ := emit_e (t := tNOT) h (by omega)
      have hcn : cnt (x :: st) = cnt st + 1 := by show (if x = 33 ∨ x = 40 then 1 else 0) + cnt st = cnt st + 1; rw [if_pos (Or.inl hx), Nat.add_comm]
      have hlen : (T ++ [tNOT]).length = T.length + 1 := by rw [List.length_append]; rfl
      obtain ⟨M', k1, k2⟩ := whole_e st F (zset (zset M1 40 0 24 (nI st.length)) 40 0 25 (nI (cnt st))) a (T ++ [tNOT]) (MT_pop1 a2 (Or.inl hx)) (by rw [hlen]; omega) (by omega) (by omega)
      refine ⟨M', ?_, ?_⟩
      · unfold qM_whole_L0
        simp only [zl0, zl1, zl2, zl3, zl4, zl5, zl6, zl7, zl8, zl9, zl10, zl11, zl12, zl13, zl14, zl16, zl18, zl19, zl20, zl22, zl24, zl30, zl32, zl33, zl36, zl38, zl40, zl41, zl48, zl50, zl51, zl57, zl59, zl60, zl61, zl62, zl70, zl71, zl99, zl100, zl103, zl104, zl105, zl106, zl107, zl108, zl109, zl110, zl111, zl112, zl113, zl114, zl115, zl116, zl124, zl127, zl255, zl999, zl1000, zl1001, zl1002, zl1003]
        have c : cnt st + 1 < 2 ^ 31 ∨ True := Or.inr trivial
        rw [e24, if_neg (nI_ge (by omega) (by omega)), ze_sub (by omega), Nat.add_sub_cancel, zchk_e (ze_in (by omega) (by omega)), ze_cl (show st.length < 2 ^ 31 by omega), e56, if_pos (by rw [hx]), show (-nI 33 : Int32) = tkS tNOT from rfl, zbnd_c a1, a3, e24, ze_sub (by omega), Nat.add_sub_cancel, znm_e, zg_n (by omega), a4, h.2.2.2.2.2.2.2.2, hcn, ze_sub (by omega), Nat.add_sub_cancel, znm_e]
        exact k1
      · have en : nots (nb (x :: st)) = [tNOT] ++ nots (nb st) := by
          show nots (if x = 33 then nb st + 1 else 0) = _
          rw [if_pos hx]
          rfl
        have es : strip (x :: st) = strip st := by
          show (if x = 33 then strip st else x :: st) = _
          rw [if_pos hx]
        rw [en, es, ← List.append_assoc]
        exact k2
    · refine ⟨M, ?_, ?_⟩
      · unfold qM_whole_L0
        simp only [zl0, zl1, zl2, zl3, zl4, zl5, zl6, zl7, zl8, zl9, zl10, zl11, zl12, zl13, zl14, zl16, zl18, zl19, zl20, zl22, zl24, zl30, zl32, zl33, zl36, zl38, zl40, zl41, zl48, zl50, zl51, zl57, zl59, zl60, zl61, zl62, zl70, zl71, zl99, zl100, zl103, zl104, zl105, zl106, zl107, zl108, zl109, zl110, zl111, zl112, zl113, zl114, zl115, zl116, zl124, zl127, zl255, zl999, zl1000, zl1001, zl1002, zl1003]
        rw [e24, if_neg (nI_ge (by omega) (by omega)), ze_sub (by omega), Nat.add_sub_cancel, zchk_e (ze_in (by omega) (by omega)), ze_cl (show st.length < 2 ^ 31 by omega), e56]
        rw [if_neg (znI_ne (by have := h.2.2.2.2.2.2.2.1.2.1; omega) (by omega) hx)]
      · have en : nots (nb (x :: st)) = [] := by
          show nots (if x = 33 then nb st + 1 else 0) = _
          rw [if_neg hx]
          rfl
        have es : strip (x :: st) = x :: st := by
          show (if x = 33 then strip st else x :: st) = _
          rw [if_neg hx]
        rw [en, es, List.append_nil]
        exact h
end
