/-! PURE PART: a CLAUSE, read on both sides. -/
abbrev PC : Type := Bool × Nat × Cl
def pClause (s : Nat → Nat) (a : Nat) : PC :=
  if s a = 104 then (if (pWord s (wd 0) a).1 = true then (if (pNum s (pWord s (wd 0) a).2).1 = true then (true, (pNum s (pWord s (wd 0) a).2).2.1, (2, (pNum s (pWord s (wd 0) a).2).2.2, [])) else (false, (pNum s (pWord s (wd 0) a).2).2.1, (0, 0, []))) else (false, (pWord s (wd 0) a).2, (0, 0, [])))
  else pClause1 s a (if s a = 111 then 0 else 1)
where pClause1 (s : Nat → Nat) (a k : Nat) : PC :=
  if (pWord s (wd (k + 1)) a).1 = true then (if (pNum s (pWord s (wd (k + 1)) a).2).1 = true then
    (if s (pNum s (pWord s (wd (k + 1)) a).2).2.1 = 32 then (if (pE s 4 ((pNum s (pWord s (wd (k + 1)) a).2).2.1 + 1)).1 = true then (true, (pE s 4 ((pNum s (pWord s (wd (k + 1)) a).2).2.1 + 1)).2.1, (k, (pNum s (pWord s (wd (k + 1)) a).2).2.2, (pE s 4 ((pNum s (pWord s (wd (k + 1)) a).2).2.1 + 1)).2.2)) else (false, (pE s 4 ((pNum s (pWord s (wd (k + 1)) a).2).2.1 + 1)).2.1, (0, 0, [])))
    else (false, (pNum s (pWord s (wd (k + 1)) a).2).2.1, (0, 0, [])))
   else (false, (pNum s (pWord s (wd (k + 1)) a).2).2.1, (0, 0, []))) else (false, (pWord s (wd (k + 1)) a).2, (0, 0, []))
theorem pNum_at {s : Nat → Nat} {a : Nat} (h : (pNum s a).1 = false) : (pNum s a).2.1 = a := by
  unfold pNum at h ⊢
  by_cases q : dg (s a) = true
  · rw [if_pos q] at h
    exfalso
    by_cases q2 : dg (s (a + 1)) = true
    · rw [if_pos q2] at h; exact absurd (show true = false from h) (by decide)
    · rw [if_neg q2] at h; exact absurd (show true = false from h) (by decide)
  · rw [if_neg q]
theorem wd_lt : ∀ k, k < 3 → (∀ x ∈ wd k, x < 128) ∧ 4 ≤ (wd k).length := by decide
theorem bfalse {b : Bool} (h : ¬ b = true) : b = false := by
  cases b
  · rfl
  · exact absurd rfl h
/-- what a CLAUSE that was read is like -/
theorem pClause_ok {s : Nat → Nat} {tl a : Nat} (h128 : ∀ j, tl ≤ j → s j = 128) (htl : tl ≤ 100) (ha : a ≤ tl) : a ≤ (pClause s a).2.1 ∧ (pClause s a).2.1 ≤ tl ∧ ((pClause s a).1 = true → clOk (pClause s a).2.2 ∧ a + (pClause s a).2.2.2.2.length + 1 ≤ (pClause s a).2.1) := by
  have nf : ∀ {x : Nat} {q : Cl}, a ≤ x → x ≤ tl → a ≤ (false, x, q).2.1 ∧ (false, x, q).2.1 ≤ tl ∧ ((false, x, q).1 = true → clOk q ∧ a + q.2.2.length + 1 ≤ x) := fun h1 h2 => ⟨h1, h2, fun h => absurd (show false = true from h) Bool.false_ne_true⟩
  unfold pClause
  by_cases h104 : s a = 104
  · rw [if_pos h104]
    obtain ⟨w1, w2, w3⟩ := pWord_ok h128 (wd 0) a (wd_lt 0 (by decide)).1 ha
    by_cases hw : (pWord s (wd 0) a).1 = true
    · rw [if_pos hw]
      have w4 := w3 hw
      have w5 := (wd_lt 0 (by decide)).2
      by_cases hn : (pNum s (pWord s (wd 0) a).2).1 = true
      · rw [if_pos hn]
        obtain ⟨n1, n2, n3⟩ := pNum_ok h128 hn
        exact ⟨by show a ≤ (pNum s (pWord s (wd 0) a).2).2.1; omega, n2, fun _ => ⟨⟨by show 2 < 3; decide, n3, fun h => absurd rfl h⟩, by show a + 0 + 1 ≤ (pNum s (pWord s (wd 0) a).2).2.1; omega⟩⟩
      · rw [if_neg hn]
        exact nf (by rw [pNum_at (bfalse hn)]; exact w1) (by rw [pNum_at (bfalse hn)]; exact w2)
    · rw [if_neg hw]
      exact nf w1 w2
  rw [if_neg h104]
  have hk : (if s a = 111 then 0 else 1) < 2 := by split <;> decide
  generalize (if s a = 111 then 0 else 1) = k at hk
  unfold pClause.pClause1
  obtain ⟨w1, w2, w3⟩ := pWord_ok h128 (wd (k + 1)) a (wd_lt (k + 1) (by omega)).1 ha
  by_cases hw : (pWord s (wd (k + 1)) a).1 = true
  · rw [if_pos hw]
    have w4 := w3 hw
    have w5 := (wd_lt (k + 1) (by omega)).2
    by_cases hn : (pNum s (pWord s (wd (k + 1)) a).2).1 = true
    · rw [if_pos hn]
      obtain ⟨n1, n2, n3⟩ := pNum_ok h128 hn
      by_cases h32 : s (pNum s (pWord s (wd (k + 1)) a).2).2.1 = 32
      · rw [if_pos h32]
        have i1 := in_tl h128 (a := (pNum s (pWord s (wd (k + 1)) a).2).2.1) (by omega)
        obtain ⟨e1, e2, e3⟩ := pE_ok (q := 4) (a := (pNum s (pWord s (wd (k + 1)) a).2).2.1 + 1) h128 htl (by omega)
        generalize pE s 4 ((pNum s (pWord s (wd (k + 1)) a).2).2.1 + 1) = r at e1 e2 e3
        by_cases hr : r.1 = true
        · rw [if_pos hr]
          obtain ⟨g1, g2, g3⟩ := e3 hr
          exact ⟨by show a ≤ r.2.1; omega, e2, fun _ => ⟨⟨by show k < 3; omega, n3, fun _ => g3 0 (by omega)⟩, by show a + r.2.2.length + 1 ≤ r.2.1; omega⟩⟩
        · rw [if_neg hr]
          exact nf (by omega) e2
      · rw [if_neg h32]
        exact nf (by omega) n2
    · rw [if_neg hn]
      exact nf (by rw [pNum_at (bfalse hn)]; exact w1) (by rw [pNum_at (bfalse hn)]; exact w2)
  · rw [if_neg hw]
    exact nf w1 w2
/-! the class -/
def CRES (c : zM) (e : Nat) (W : List Int32) (hv : Int32) (r : PC) (o : Option (Int32 × zM)) : Prop := ∃ C' W' hv', o = some (nI (bv r.1), C') ∧ CT c C' e r.2.1 W' hv' ∧ (r.1 = true → W' = W ++ clW r.2.2 ∧ hv' = (if r.2.2.1 = 2 then nI r.2.2.2.1 else hv) ∧ W'.length ≤ r.2.1)
theorem clause_c {c : zM} {s : Nat → Nat} {tl e : Nat} {C : zM} {a : Nat} {W : List Int32} {hv : Int32} (hB : BC c s tl) (h : CT c C e a W hv) (ha : a ≤ tl) (hW : W.length ≤ a) : CRES c e W hv (pClause s a) (qT_readClause C e) := by
  have htl := hB.1
  have n10 : ¬ nI 1 = nI 0 := znI_ne (by decide) (by decide) (by decide)
  have b1 : ¬ nI (bv true) = nI 0 := n10
  have b0 : nI (bv false) = nI 0 := rfl
  have see104 := sees_e hB h ha (show 104 < 128 by decide)
  have see111 := sees_e hB h ha (show 111 < 128 by decide)
  have nf : ∀ {x : Nat} {C' : zM} {W' : List Int32} {hv' : Int32} {o : Option (Int32 × zM)}, o = some (nI 0, C') → CT c C' e x W' hv' → CRES c e W hv (false, x, (0, 0, [])) o := fun h1 h2 => ⟨_, _, _, h1, h2, fun h => absurd (show false = true from h) Bool.false_ne_true⟩
  unfold pClause qT_readClause
  simp only [zl0, zl1, zl2, zl3, zl4, zl5, zl6, zl7, zl8, zl9, zl10, zl11, zl12, zl13, zl14, zl16, zl18, zl19, zl20, zl22, zl24, zl30, zl32, zl33, zl36, zl38, zl40, zl41, zl48, zl50, zl51, zl57, zl59, zl60, zl61, zl62, zl70, zl71, zl99, zl100, zl103, zl104, zl105, zl106, zl107, zl108, zl109, zl110, zl111, zl112, zl113, zl114, zl115, zl116, zl124, zl127, zl255, zl999, zl1000, zl1001, zl1002, zl1003]
  by_cases h104 : s a = 104
  · rw [if_pos h104]
    rw [if_pos h104] at see104
    rw [zb_y see104]
    obtain ⟨C1, a1, a2⟩ := word_e (k := 0) hB (by decide) (wd 0) 0 a 1000 C rfl (by omega) (by decide) h ha
    have a1 : qT_passesWord C 0 = some (nI (bv (pWord s (wd 0) a).1), C1) := by
      unfold qT_passesWord
      simp only [zl0, zl1, zl2, zl3, zl4, zl5, zl6, zl7, zl8, zl9, zl10, zl11, zl12, zl13, zl14, zl16, zl18, zl19, zl20, zl22, zl24, zl30, zl32, zl33, zl36, zl38, zl40, zl41, zl48, zl50, zl51, zl57, zl59, zl60, zl61, zl62, zl70, zl71, zl99, zl100, zl103, zl104, zl105, zl106, zl107, zl108, zl109, zl110, zl111, zl112, zl113, zl114, zl115, zl116, zl124, zl127, zl255, zl999, zl1000, zl1001, zl1002, zl1003]
      exact a1
    obtain ⟨w1, w2, w3⟩ := pWord_ok hB.2.2.2 (wd 0) a (wd_lt 0 (by decide)).1 ha
    by_cases hw : (pWord s (wd 0) a).1 = true
    · rw [if_pos hw]
      rw [hw] at a1
      have w4 := w3 hw
      obtain ⟨C2, c1, c2, c3⟩ := num_e hB a2 w2
      rw [zbnd_c a1, if_neg b1]
      by_cases hn : (pNum s (pWord s (wd 0) a).2).1 = true
      · obtain ⟨n1, n2, n3⟩ := pNum_ok hB.2.2.2 hn
        rw [if_pos hn]
        rw [hn] at c1
        rw [zbnd_c c1, if_neg b1, c3 hn, znm_e]
        obtain ⟨k1, k2, k3, k4, k5, k6⟩ := c2
        refine ⟨_, W, _, rfl, ⟨k1, fun k i j q1 q2 q3 => by rw [zg_n (by omega), k2 k i j q1 q2 q3], by rw [zg_n (by omega), k3], by rw [zg_n (by omega), k4], zg_e ⟨rfl, rfl, rfl⟩, fun j hj => by rw [zg_n (by omega), k6 j hj]⟩, fun _ => ⟨?_, ?_, by show W.length ≤ (pNum s (pWord s (wd 0) a).2).2.1; omega⟩⟩
        · show W = W ++ []
          rw [List.append_nil]
        · show nI _ = if 2 = 2 then nI _ else hv
          rw [if_pos rfl]
      · rw [if_neg hn]
        rw [bfalse hn] at c1
        rw [zbnd_c c1, if_pos b0]
        exact nf rfl c2
    · rw [if_neg hw]
      rw [bfalse hw] at a1
      rw [zbnd_c a1, if_pos b0]
      exact nf rfl a2
  rw [if_neg h104]
  rw [if_neg h104] at see104
  rw [zb_n see104]
  -- odd or sure
  have main : ∀ k, k < 2 → CRES c e W hv (pClause.pClause1 s a k) (zbnd (qT_passesWord C (k + 1)) fun x11 M10 => if x11 = nI 0 then (some (nI 0, M10)) else (zbnd (qT_readNumber M10 ) fun x14 M13 => if x14 = nI 0 then (some (nI 0, M13)) else (znm (M13.1 10 0 3) fun x16 => zbnd (qT_passes M13 (nI 32)) fun x18 M17 => if x18 = nI 0 then (some (nI 0, M17)) else (zbnd (qT_readE M17 e (nI 0)) fun x21 M20 => if x21 = nI 0 then (some (nI 0, M20)) else (zbnd (qE_append M20 e (nI (6 + k)) (nI 0) x16) fun _ M26 => some (nI 1, M26)))))) := by
    intro k hk
    unfold pClause.pClause1
    obtain ⟨C1, a1, a2⟩ := word_e (k := k + 1) hB (by omega) (wd (k + 1)) 0 a 1000 C rfl (by omega) (by have := (wd_ch (k + 1) (by omega)).2.1; omega) h ha
    have a1 : qT_passesWord C (k + 1) = some (nI (bv (pWord s (wd (k + 1)) a).1), C1) := by
      unfold qT_passesWord
      simp only [zl0, zl1, zl2, zl3, zl4, zl5, zl6, zl7, zl8, zl9, zl10, zl11, zl12, zl13, zl14, zl16, zl18, zl19, zl20, zl22, zl24, zl30, zl32, zl33, zl36, zl38, zl40, zl41, zl48, zl50, zl51, zl57, zl59, zl60, zl61, zl62, zl70, zl71, zl99, zl100, zl103, zl104, zl105, zl106, zl107, zl108, zl109, zl110, zl111, zl112, zl113, zl114, zl115, zl116, zl124, zl127, zl255, zl999, zl1000, zl1001, zl1002, zl1003]
      exact a1
    obtain ⟨w1, w2, w3⟩ := pWord_ok hB.2.2.2 (wd (k + 1)) a (wd_lt (k + 1) (by omega)).1 ha
    by_cases hw : (pWord s (wd (k + 1)) a).1 = true
    · rw [if_pos hw]
      rw [hw] at a1
      have w4 := w3 hw
      obtain ⟨C2, c1, c2, c3⟩ := num_e hB a2 w2
      rw [zbnd_c a1, if_neg b1]
      by_cases hn : (pNum s (pWord s (wd (k + 1)) a).2).1 = true
      · obtain ⟨n1, n2, n3⟩ := pNum_ok hB.2.2.2 hn
        rw [if_pos hn]
        rw [hn] at c1
        rw [zbnd_c c1, if_neg b1, c3 hn, znm_e]
        by_cases h32 : s (pNum s (pWord s (wd (k + 1)) a).2).2.1 = 32
        · rw [if_pos h32]
          obtain ⟨C3, d1, d2, d3, -⟩ := pass_y hB c2 n2 (show 32 < 128 by decide) h32
          rw [zb_y d1]
          obtain ⟨C4, W4, e1, e2, e3, e4⟩ := E_e hB d2 (by omega) (by omega)
          obtain ⟨p1, p2, p3⟩ := pE_ok (q := 4) (a := (pNum s (pWord s (wd (k + 1)) a).2).2.1 + 1) hB.2.2.2 htl (by omega)
          generalize pE s 4 ((pNum s (pWord s (wd (k + 1)) a).2).2.1 + 1) = r at e1 e2 e3 e4 p1 p2 p3
          by_cases hr : r.1 = true
          · rw [if_pos hr]
            rw [hr] at e1
            obtain ⟨g1, g2, g3⟩ := p3 hr
            have hW4 := e4 hr
            have l4 : W4.length = W.length + r.2.2.length := by rw [hW4, List.length_append, List.length_map]
            obtain ⟨C5, u1, u2⟩ := app_e e2 (show W4.length < 100 by omega) (show 6 + k < 8 by omega) (show 0 < 6 by decide) n3
            refine ⟨C5, _, hv, ?_, u2, fun _ => ⟨?_, ?_, ?_⟩⟩
            · rw [zbnd_c e1, if_neg b1, zbnd_c u1]
              rfl
            · have : clW (k, (pNum s (pWord s (wd (k + 1)) a).2).2.2, r.2.2) = r.2.2.map tkW ++ [nI ((6 + k) * 65536 + (pNum s (pWord s (wd (k + 1)) a).2).2.2)] := by
                unfold clW
                rw [if_neg (show ¬ k = 2 by omega)]
              show W4 ++ _ = W ++ clW (k, (pNum s (pWord s (wd (k + 1)) a).2).2.2, r.2.2)
              rw [this, hW4, List.append_assoc, Nat.zero_mul, Nat.add_zero]
            · show hv = if k = 2 then _ else hv
              rw [if_neg (by omega)]
            · rw [List.length_append]
              show W4.length + 1 ≤ r.2.1
              omega
          · rw [if_neg hr]
            rw [bfalse hr] at e1
            rw [zbnd_c e1, if_pos b0]
            exact nf rfl e2
        · rw [if_neg h32]
          rw [zb_n (pass_n hB c2 n2 (show 32 < 128 by decide) h32)]
          exact nf rfl c2
      · rw [if_neg hn]
        rw [bfalse hn] at c1
        rw [zbnd_c c1, if_pos b0]
        exact nf rfl c2
    · rw [if_neg hw]
      rw [bfalse hw] at a1
      rw [zbnd_c a1, if_pos b0]
      exact nf rfl a2
  by_cases h111 : s a = 111
  · rw [if_pos h111] at see111 ⊢
    rw [zbnd_c see111]
    simp only [zjn_e, if_neg n10]
    exact main 0 (by decide)
  · rw [if_neg h111] at see111 ⊢
    rw [zbnd_c see111]
    simp only [zjn_e, if_pos trivial]
    exact main 1 (by decide)
