/-! PURE PART: EVENING. -/
abbrev PT : Type := Bool × Nat × List Cl
def pG (s : Nat → Nat) (tl : Nat) : Nat → Nat → List Cl → Nat → PT
  | 0, _, _, a => (false, a, [])
  | k + 1, n, acc, a => if (pClause s a).1 = true then (if (pClause s a).2.1 = tl then (true, tl, acc ++ [(pClause s a).2.2]) else if n + 1 = 10 ∨ s (pClause s a).2.1 ≠ 59 then (false, (pClause s a).2.1, []) else pG s tl k (n + 1) (acc ++ [(pClause s a).2.2]) ((pClause s a).2.1 + 1)) else (false, (pClause s a).2.1, [])
theorem evW_app (cs : List Cl) (q : Cl) : evW (cs ++ [q]) = evW cs ++ clW q := by
  unfold evW
  rw [List.flatMap_append]
  show _ ++ (clW q ++ []) = _
  rw [List.append_nil]
theorem evH_app (cs : List Cl) (q : Cl) : evH (cs ++ [q]) = if q.1 = 2 then q.2.1 else evH cs := by
  unfold evH
  rw [List.foldl_append]
  rfl
theorem pG_ok {s : Nat → Nat} {tl : Nat} (h128 : ∀ j, tl ≤ j → s j = 128) (htl : tl ≤ 100) : ∀ (k n : Nat) (acc : List Cl) (a : Nat), n + k = 10 → acc.length = n → (∀ q ∈ acc, clOk q) → a ≤ tl → (pG s tl k n acc a).2.1 ≤ tl ∧ ((pG s tl k n acc a).1 = true → 1 ≤ (pG s tl k n acc a).2.2.length ∧ (pG s tl k n acc a).2.2.length ≤ 10 ∧ ∀ q ∈ (pG s tl k n acc a).2.2, clOk q)
  | 0, n, acc, a, hn, hl, hq, ha => ⟨ha, fun h => absurd (show false = true from h) Bool.false_ne_true⟩
  | k + 1, n, acc, a, hn, hl, hq, ha => by
    obtain ⟨p1, p2, p3⟩ := pClause_ok (a := a) h128 htl ha
    unfold pG
    by_cases hr : (pClause s a).1 = true
    · rw [if_pos hr]
      obtain ⟨p4, p5⟩ := p3 hr
      have hq' : ∀ q ∈ acc ++ [(pClause s a).2.2], clOk q := by
        intro q hm
        rcases List.mem_append.mp hm with g | g
        · exact hq q g
        · rw [List.mem_singleton.mp g]; exact p4
      have hl' : (acc ++ [(pClause s a).2.2]).length = n + 1 := by rw [List.length_append, hl]; rfl
      by_cases he : (pClause s a).2.1 = tl
      · rw [if_pos he]
        exact ⟨Nat.le_refl _, fun _ => ⟨by show 1 ≤ (acc ++ [(pClause s a).2.2]).length; omega, by show (acc ++ [(pClause s a).2.2]).length ≤ 10; omega, hq'⟩⟩
      rw [if_neg he]
      by_cases hc : n + 1 = 10 ∨ s (pClause s a).2.1 ≠ 59
      · rw [if_pos hc]
        exact ⟨p2, fun h => absurd (show false = true from h) Bool.false_ne_true⟩
      · rw [if_neg hc]
        exact pG_ok h128 htl k (n + 1) _ _ (by omega) hl' hq' (by omega)
    · rw [if_neg hr]
      exact ⟨p2, fun h => absurd (show false = true from h) Bool.false_ne_true⟩
/-! the class -/
def E48 (M13 : zM) (x14 : Int32) : Option (Int32 × zM) := if x14 = nI 0 then (some ((M13.1 10 0 2), M13)) else (if (M13.1 10 0 2) = (M13.1 10 0 1) then (some (-nI 1, M13)) else (some ((M13.1 10 0 2), M13)))
theorem text_c {c : zM} {s : Nat → Nat} {tl e : Nat} (hB : BC c s tl) : ∀ (k n : Nat) (acc : List Cl) (a F : Nat) (C : zM), n + k = 10 → k < F → CT c C e a (evW acc) (nI (evH acc)) → (evW acc).length ≤ a → a ≤ tl → 0 < k →
    ∃ C' W' hv', (zbnd (qT_readClause C e) fun x5 M4 => qT_readInto_L17 e E48 F M4 x5 (nI (n + 1))) = some (if (pG s tl k n acc a).1 = true then -nI 1 else nI (pG s tl k n acc a).2.1, C') ∧ CT c C' e (pG s tl k n acc a).2.1 W' hv' ∧ ((pG s tl k n acc a).1 = true → W' = evW (pG s tl k n acc a).2.2 ∧ hv' = nI (evH (pG s tl k n acc a).2.2) ∧ W'.length ≤ 100)
  | 0, n, acc, a, F, C, hn, hF, h, hW, ha, hk => absurd hk (Nat.lt_irrefl 0)
  | k + 1, n, acc, a, 0, C, hn, hF, h, hW, ha, hk => absurd hF (Nat.not_lt_zero _)
  | k + 1, n, acc, a, F + 1, C, hn, hF, h, hW, ha, hk => by
    have htl := hB.1
    obtain ⟨p1, p2, p3⟩ := pClause_ok (a := a) hB.2.2.2 htl ha
    obtain ⟨C1, W1, hv1, r1, r2, r3⟩ := clause_c hB h ha hW
    have n10 : ¬ nI 1 = nI 0 := znI_ne (by decide) (by decide) (by decide)
    unfold pG
    generalize pClause s a = r at p1 p2 p3 r1 r2 r3
    have e12 : C1.1 10 0 1 = nI tl := CT_len hB r2
    have e48_1 : E48 C1 (nI 1) = some (if r.2.1 = tl then -nI 1 else nI r.2.1, C1) := by
      unfold E48
      rw [if_neg n10, r2.2.2.1, e12]
      by_cases q : r.2.1 = tl
      · rw [if_pos q, if_pos (by rw [q])]
      · rw [if_neg q, if_neg (znI_ne (by omega) (by omega) q)]
    by_cases hr : r.1 = true
    · rw [if_pos hr]
      obtain ⟨u1, u2, u3⟩ := r3 hr
      rw [hr] at r1
      have eW : W1 = evW (acc ++ [r.2.2]) := by rw [u1, evW_app]
      have eH : hv1 = nI (evH (acc ++ [r.2.2])) := by
        rw [u2, evH_app]
        by_cases q : r.2.2.1 = 2
        · rw [if_pos q, if_pos q]
        · rw [if_neg q, if_neg q]
      rw [zbnd_c r1]
      have bt : nI (bv true) = nI 1 := rfl
      rw [bt]
      by_cases he : r.2.1 = tl
      · rw [if_pos he] at e48_1
        rw [if_pos he]
        refine ⟨C1, W1, hv1, ?_, by rw [← he]; exact r2, fun _ => ⟨eW, eH, by omega⟩⟩
        unfold qT_readInto_L17
        simp only [zl0, zl1, zl2, zl3, zl4, zl5, zl6, zl7, zl8, zl9, zl10, zl11, zl12, zl13, zl14, zl16, zl18, zl19, zl20, zl22, zl24, zl30, zl32, zl33, zl36, zl38, zl40, zl41, zl48, zl50, zl51, zl57, zl59, zl60, zl61, zl62, zl70, zl71, zl99, zl100, zl103, zl104, zl105, zl106, zl107, zl108, zl109, zl110, zl111, zl112, zl113, zl114, zl115, zl116, zl124, zl127, zl255, zl999, zl1000, zl1001, zl1002, zl1003]
        rw [if_neg n10]
        by_cases q10 : 10 ≤ n + 1
        · rw [if_pos (nI_le (by omega) (by omega)), e48_1, if_pos trivial]
        · have s59 : s r.2.1 ≠ 59 := by rw [hB.2.2.2 r.2.1 (by omega)]; decide
          rw [if_neg (nI_ge (by omega) (by omega)), zb_n (pass_n hB r2 p2 (show 59 < 128 by decide) s59), e48_1, if_pos trivial]
      rw [if_neg he] at e48_1
      rw [if_neg he]
      by_cases hc : n + 1 = 10 ∨ s r.2.1 ≠ 59
      · rw [if_pos hc]
        refine ⟨C1, W1, hv1, ?_, r2, fun h => absurd (show false = true from h) Bool.false_ne_true⟩
        unfold qT_readInto_L17
        simp only [zl0, zl1, zl2, zl3, zl4, zl5, zl6, zl7, zl8, zl9, zl10, zl11, zl12, zl13, zl14, zl16, zl18, zl19, zl20, zl22, zl24, zl30, zl32, zl33, zl36, zl38, zl40, zl41, zl48, zl50, zl51, zl57, zl59, zl60, zl61, zl62, zl70, zl71, zl99, zl100, zl103, zl104, zl105, zl106, zl107, zl108, zl109, zl110, zl111, zl112, zl113, zl114, zl115, zl116, zl124, zl127, zl255, zl999, zl1000, zl1001, zl1002, zl1003]
        rw [if_neg n10]
        have fin : some (nI r.2.1, C1) = some (if (false : Bool) = true then -nI 1 else nI r.2.1, C1) := rfl
        by_cases q10 : 10 ≤ n + 1
        · rw [if_pos (nI_le (by omega) (by omega)), e48_1]
          exact fin
        · rw [if_neg (nI_ge (by omega) (by omega)), zb_n (pass_n hB r2 p2 (show 59 < 128 by decide) (hc.resolve_left (by omega))), e48_1]
          exact fin
      · rw [if_neg hc]
        have h59 : s r.2.1 = 59 := by
          rcases Nat.decEq (s r.2.1) 59 with q | q
          · exact absurd (Or.inr q) hc
          · exact q
        have hn10 : ¬ n + 1 = 10 := fun q => hc (Or.inl q)
        obtain ⟨C2, t1, t2, t3, -⟩ := pass_y hB r2 p2 (show 59 < 128 by decide) h59
        rw [eW, eH] at t2
        obtain ⟨C', W', hv', k1, k2, k3⟩ := text_c hB k (n + 1) (acc ++ [r.2.2]) (r.2.1 + 1) F C2 (by omega) (by omega) t2 (by rw [← eW]; omega) (by omega) (by omega)
        refine ⟨C', W', hv', ?_, k2, k3⟩
        unfold qT_readInto_L17
        simp only [zl0, zl1, zl2, zl3, zl4, zl5, zl6, zl7, zl8, zl9, zl10, zl11, zl12, zl13, zl14, zl16, zl18, zl19, zl20, zl22, zl24, zl30, zl32, zl33, zl36, zl38, zl40, zl41, zl48, zl50, zl51, zl57, zl59, zl60, zl61, zl62, zl70, zl71, zl99, zl100, zl103, zl104, zl105, zl106, zl107, zl108, zl109, zl110, zl111, zl112, zl113, zl114, zl115, zl116, zl124, zl127, zl255, zl999, zl1000, zl1001, zl1002, zl1003]
        rw [if_neg n10, if_neg (nI_ge (by omega) (by omega)), zb_y t1, ze_add (n + 1) 1]
        exact k1
    · rw [if_neg hr]
      rw [bfalse hr] at r1
      refine ⟨C1, W1, hv1, ?_, r2, fun h => absurd (show false = true from h) Bool.false_ne_true⟩
      rw [zbnd_c r1]
      have bf : nI (bv false) = nI 0 := rfl
      rw [bf]
      unfold qT_readInto_L17 E48
      simp only [zl0, zl1, zl2, zl3, zl4, zl5, zl6, zl7, zl8, zl9, zl10, zl11, zl12, zl13, zl14, zl16, zl18, zl19, zl20, zl22, zl24, zl30, zl32, zl33, zl36, zl38, zl40, zl41, zl48, zl50, zl51, zl57, zl59, zl60, zl61, zl62, zl70, zl71, zl99, zl100, zl103, zl104, zl105, zl106, zl107, zl108, zl109, zl110, zl111, zl112, zl113, zl114, zl115, zl116, zl124, zl127, zl255, zl999, zl1000, zl1001, zl1002, zl1003]
      rw [if_pos trivial, if_pos trivial, r2.2.2.1]
      rfl
/-! the reference -/
def TF (e : Nat) (m M : zM) : Prop := M.2 = m.2 ∧ ∀ k j, ¬ (k = 40 ∧ (j = 13 ∨ j = 14 ∨ j = 23 ∨ j = 24 ∨ j = 25)) → k ≠ 56 → ¬ (k = 50 ∧ j = e) → ¬ (51 ≤ k ∧ k ≤ 54 ∧ 10 * e ≤ j ∧ j < 10 * e + 10) → ¬ (k = 55 ∧ 100 * e ≤ j) → M.1 k 0 j = m.1 k 0 j
def EVx (m : zM) (e b j : Nat) (q : Cl) : Prop := m.1 51 0 (10 * e + j) = nI q.1 ∧ m.1 52 0 (10 * e + j) = nI q.2.1 ∧ (q.1 ≠ 2 → ∃ a, 100 * e ≤ a ∧ a + q.2.2.length ≤ b ∧ m.1 53 0 (10 * e + j) = nI a ∧ m.1 54 0 (10 * e + j) = nI (a + q.2.2.length) ∧ ∀ i t, q.2.2[i]? = some t → m.1 55 0 (a + i) = tkS t)
theorem text_m {m : zM} {s : Nat → Nat} {tl e : Nat} (hB0 : BM m s tl) (hr0 : Rlt m) (he : e < 6) : ∀ (k n : Nat) (acc : List Cl) (a b F : Nat) (M : zM), n + k = 10 → k < F → acc.length = n → TF e m M → M.1 40 0 13 = nI a → M.1 40 0 23 = nI b → 100 * e ≤ b → b ≤ 100 * e + a → a ≤ tl → (∀ j q, acc[j]? = some q → EVx M e b j q) → 0 < k →
    ∃ M', qM_goesText_L15 (nI e) F M (nI n) = some (nI (bv (pG s tl k n acc a).1), M') ∧ TF e m M' ∧ M'.1 40 0 13 = nI (pG s tl k n acc a).2.1 ∧ ((pG s tl k n acc a).1 = true → M'.1 50 0 e = nI (pG s tl k n acc a).2.2.length ∧ ∀ j q, (pG s tl k n acc a).2.2[j]? = some q → EVm M' e j q)
  | 0, n, acc, a, b, F, M, hn, hF, hl, hM, h13, h23, hb1, hb2, ha, hx, hk => absurd hk (Nat.lt_irrefl 0)
  | k + 1, n, acc, a, b, 0, M, hn, hF, hl, hM, h13, h23, hb1, hb2, ha, hx, hk => absurd hF (Nat.not_lt_zero _)
  | k + 1, n, acc, a, b, F + 1, M, hn, hF, hl, hM, h13, h23, hb1, hb2, ha, hx, hk => by
    have htl := hB0.1
    have hB : BM M s tl := BM_cg hB0 (fun k j q => hM.2 k j (by omega) (by omega) (by omega) (by omega) (by omega))
    have hr : Rlt M := fun j hj => by rw [hM.2 57 j (by omega) (by omega) (by omega) (by omega) (by omega), hr0 j hj]
    obtain ⟨p1, p2, p3⟩ := pClause_ok (a := a) hB.2.2.2 htl ha
    obtain ⟨M1, r1, r2, r3, r4⟩ := clause_m (cn := 10 * e + n) (o := 100 * e) hB hr h13 h23 ha (by omega) (by omega) hb2
    have n10 : ¬ nI 1 = nI 0 := znI_ne (by decide) (by decide) (by decide)
    have t1 : TF e m M1 := ⟨by rw [r2.1, hM.1], fun k j q1 q2 q3 q4 q5 => by rw [r2.2 k j q2 q1 (by omega) (by omega), hM.2 k j q1 q2 q3 q4 q5]⟩
    unfold pG
    generalize pClause s a = r at p1 p2 p3 r1 r3 r4
    by_cases hr' : r.1 = true
    · rw [if_pos hr']
      obtain ⟨p4, p5⟩ := p3 hr'
      obtain ⟨v1, v2, v3, v4, v5⟩ := r4 hr'
      rw [hr'] at r1
      let M2 := zset M1 50 0 e (nI (n + 1))
      have t2 : TF e m M2 := ⟨t1.1, fun k j q1 q2 q3 q4 q5 => by rw [zg_n (by omega), t1.2 k j q1 q2 q3 q4 q5]⟩
      have x2 : ∀ j q, (acc ++ [r.2.2])[j]? = some q → EVx M2 e (b + r.2.2.2.2.length) j q := by
        intro j q hq
        rcases Nat.lt_trichotomy j n with g | g | g
        · rw [List.getElem?_append_left (by omega)] at hq
          obtain ⟨y1, y2, y3⟩ := hx j q hq
          refine ⟨by rw [zg_n (by omega), r2.2 _ _ (by omega) (by omega) (by omega) (by omega), y1], by rw [zg_n (by omega), r2.2 _ _ (by omega) (by omega) (by omega) (by omega), y2], fun hne => ?_⟩
          obtain ⟨x, z1, z2, z3, z4, z5⟩ := y3 hne
          refine ⟨x, z1, by omega, by rw [zg_n (by omega), r2.2 _ _ (by omega) (by omega) (by omega) (by omega), z3], by rw [zg_n (by omega), r2.2 _ _ (by omega) (by omega) (by omega) (by omega), z4], fun i t hi => ?_⟩
          have hil : i < q.2.2.length := by
            rcases Nat.lt_or_ge i q.2.2.length with g | g
            · exact g
            · rw [List.getElem?_eq_none g] at hi; cases hi
          rw [zg_n (by omega), r2.2 _ _ (by omega) (by omega) (by omega) (by omega), z5 i t hi]
        · rw [g, ← hl, List.getElem?_append_right (Nat.le_refl _), Nat.sub_self] at hq
          have : r.2.2 = q := by injection hq
          subst this
          rw [g]
          exact ⟨by rw [zg_n (by omega), v1], by rw [zg_n (by omega), v2], fun hne => ⟨b, hb1, Nat.le_refl _, by rw [zg_n (by omega), (v4 hne).1], by rw [zg_n (by omega), (v4 hne).2], fun i t hi => by rw [zg_n (by omega), v5 i t hi]⟩⟩
        · rw [List.getElem?_eq_none (by rw [List.length_append, hl]; show n + 1 ≤ j; omega)] at hq
          cases hq
      have hl' : (acc ++ [r.2.2]).length = n + 1 := by rw [List.length_append, hl]; rfl
      have e13 : M2.1 40 0 13 = nI r.2.1 := by rw [zg_n (by omega), r3]
      have e12 : M2.1 40 0 12 = nI tl := by rw [t2.2 _ _ (by omega) (by omega) (by omega) (by omega) (by omega), hB0.2.1]
      have e23 : M2.1 40 0 23 = nI (b + r.2.2.2.2.length) := by rw [zg_n (by omega), v3]
      have head : ∀ R, (if nI r.2.1 = nI tl then (some (nI 1, M2)) else (if nI (n + 1) = nI 10 then (some (nI 0, M2)) else (zbnd (qM_takes M2 (nI 59)) fun x8 M7 => if x8 = nI 0 then (some (nI 0, M7)) else (qM_goesText_L15 (nI e) F M7 (nI (n + 1)))))) = R → qM_goesText_L15 (nI e) (F + 1) M (nI n) = R := by
        intro R hR
        unfold qM_goesText_L15
        simp only [zl0, zl1, zl2, zl3, zl4, zl5, zl6, zl7, zl8, zl9, zl10, zl11, zl12, zl13, zl14, zl16, zl18, zl19, zl20, zl22, zl24, zl30, zl32, zl33, zl36, zl38, zl40, zl41, zl48, zl50, zl51, zl57, zl59, zl60, zl61, zl62, zl70, zl71, zl99, zl100, zl103, zl104, zl105, zl106, zl107, zl108, zl109, zl110, zl111, zl112, zl113, zl114, zl115, zl116, zl124, zl127, zl255, zl999, zl1000, zl1001, zl1002, zl1003]
        rw [ze_mul, ze_add, zbnd_c r1, if_neg (show ¬ nI (bv true) = nI 0 from n10), zchk_e (ze_in he (by omega)), ze_cl (show e < 2 ^ 31 by omega), ze_add, znm_e]
        rw [show zset M1 50 0 e (nI (n + 1)) = M2 from rfl, e13, e12]
        exact hR
      by_cases hee : r.2.1 = tl
      · rw [if_pos hee]
        refine ⟨M2, head _ ?_, t2, by rw [e13, hee], fun _ => ⟨by rw [hl']; exact zg_e ⟨rfl, rfl, rfl⟩, fun j q hq => ?_⟩⟩
        · rw [if_pos (by rw [hee])]; rfl
        · obtain ⟨y1, y2, y3⟩ := x2 j q hq
          refine ⟨y1, y2, fun hne => ?_⟩
          obtain ⟨x, z1, z2, z3, z4, z5⟩ := y3 hne
          exact ⟨x, z1, by omega, z3, z4, z5⟩
      rw [if_neg hee]
      by_cases hc : n + 1 = 10 ∨ s r.2.1 ≠ 59
      · rw [if_pos hc]
        refine ⟨M2, head _ ?_, t2, e13, fun h => absurd (show false = true from h) Bool.false_ne_true⟩
        rw [if_neg (znI_ne (by omega) (by omega) hee)]
        by_cases q10 : n + 1 = 10
        · rw [if_pos (by rw [q10])]; rfl
        · have hB2 : BM M2 s tl := BM_cg hB0 (fun k j q => t2.2 k j (by omega) (by omega) (by omega) (by omega) (by omega))
          rw [if_neg (znI_ne (by omega) (by omega) q10), zb_n (takeQ_n hB2 e13 p2 (by decide) (hc.resolve_left q10))]
          rfl
      · rw [if_neg hc]
        have h59 : s r.2.1 = 59 := by
          rcases Nat.decEq (s r.2.1) 59 with q | q
          · exact absurd (Or.inr q) hc
          · exact q
        have hn10 : ¬ n + 1 = 10 := fun q => hc (Or.inl q)
        have hB2 : BM M2 s tl := BM_cg hB0 (fun k j q => t2.2 k j (by omega) (by omega) (by omega) (by omega) (by omega))
        have t3 : TF e m (zset M2 40 0 13 (nI (r.2.1 + 1))) := ⟨t2.1, fun k j q1 q2 q3 q4 q5 => by rw [zg_n (by omega), t2.2 k j q1 q2 q3 q4 q5]⟩
        obtain ⟨M', k1, k2, k3, k4⟩ := text_m hB0 hr0 he k (n + 1) (acc ++ [r.2.2]) (r.2.1 + 1) (b + r.2.2.2.2.length) F (zset M2 40 0 13 (nI (r.2.1 + 1))) (by omega) (by omega) hl' t3 (zg_e ⟨rfl, rfl, rfl⟩) (by rw [zg_n (by omega), e23]) (by omega) (by omega) (by omega) (fun j q hq => by
          obtain ⟨y1, y2, y3⟩ := x2 j q hq
          refine ⟨by rw [zg_n (by omega), y1], by rw [zg_n (by omega), y2], fun hne => ?_⟩
          obtain ⟨x, z1, z2, z3, z4, z5⟩ := y3 hne
          exact ⟨x, z1, z2, by rw [zg_n (by omega), z3], by rw [zg_n (by omega), z4], fun i t hi => by rw [zg_n (by omega), z5 i t hi]⟩) (by omega)
        refine ⟨M', head _ ?_, k2, k3, k4⟩
        rw [if_neg (znI_ne (by omega) (by omega) hee), if_neg (znI_ne (by omega) (by omega) hn10), zb_y (takeQ_y hB2 e13 p2 (by decide) h59)]
        exact k1
    · rw [if_neg hr']
      rw [bfalse hr'] at r1
      refine ⟨M1, ?_, t1, r3, fun h => absurd (show false = true from h) Bool.false_ne_true⟩
      unfold qM_goesText_L15
      simp only [zl0, zl1, zl2, zl3, zl4, zl5, zl6, zl7, zl8, zl9, zl10, zl11, zl12, zl13, zl14, zl16, zl18, zl19, zl20, zl22, zl24, zl30, zl32, zl33, zl36, zl38, zl40, zl41, zl48, zl50, zl51, zl57, zl59, zl60, zl61, zl62, zl70, zl71, zl99, zl100, zl103, zl104, zl105, zl106, zl107, zl108, zl109, zl110, zl111, zl112, zl113, zl114, zl115, zl116, zl124, zl127, zl255, zl999, zl1000, zl1001, zl1002, zl1003]
      rw [ze_mul, ze_add, zbnd_c r1, if_pos (show nI (bv false) = nI 0 from rfl)]
      rfl
