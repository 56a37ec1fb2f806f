/-! PURE PART: the reference's automaton. -/
def FIN (cn F : Nat) (M : zM) (x5 : Int32) : Option (Int32 × zM) := zchk (zin (nI cn) 60) (znm (zset M 54 0 cn (M.1 40 0 23)) fun M16 => if (M16.1 40 0 24) = nI 0 then (some (nI 1, M16)) else (if x5 = nI 41 then (znm (zset M16 40 0 24 ((M16.1 40 0 24) - nI 1)) fun M17 => znm (zset M17 40 0 25 ((M17.1 40 0 25) - nI 1)) fun M18 => znm (zset M18 40 0 13 ((M18.1 40 0 13) + nI 1)) fun M19 => zbnd (qM_whole M19 ) fun _ M20 => qM_takesE_L22 (nI cn) F M20 (nI 0)) else (some (nI 0, M16))))
theorem pL_mono {s : Nat → Nat} {tl q : Nat} {F : Nat → PR} (h128 : ∀ j, tl ≤ j → s j = 128) (hF : ∀ a, a ≤ tl → OKR tl q a (F a)) : ∀ (k : Nat) (pa po : Bool) (acc : List Tk) (a : Nat), a ≤ tl → a ≤ (pL F s k pa po acc a).2.1
  | 0, pa, po, acc, a, ha => Nat.le_refl _
  | k + 1, pa, po, acc, a, ha => by
    obtain ⟨f1, f2, f3⟩ := hF a ha
    unfold pL
    by_cases hr : (F a).1 = true
    · rw [if_pos hr]
      by_cases h38 : s (F a).2.1 = 38
      · rw [if_pos h38]
        have i1 := in_tl h128 (a := (F a).2.1) (by omega)
        have := pL_mono h128 hF k true po (acc ++ (F a).2.2 ++ (if pa = true then [tAND] else [])) ((F a).2.1 + 1) (by omega)
        omega
      rw [if_neg h38]
      by_cases h124 : s (F a).2.1 = 124
      · rw [if_pos h124]
        have i1 := in_tl h128 (a := (F a).2.1) (by omega)
        have := pL_mono h128 hF k false true (acc ++ (F a).2.2 ++ (if pa = true then [tAND] else []) ++ (if po = true then [tOR] else [])) ((F a).2.1 + 1) (by omega)
        omega
      rw [if_neg h124]
      exact f1
    · rw [if_neg hr]
      exact f1
section
variable {m : zM} {s : Nat → Nat} {tl cn b o : Nat}
theorem L_test {M : zM} {a F : Nat} {T : List Tk} {st : List Nat} (hB : BM m s tl) (h : MT m M cn b a T st) (ha : a ≤ tl) (h33 : s a ≠ 33) (h40 : s a ≠ 40) {x : Int32} {M' : zM} (ht : qM_takesTest M = some (x, M')) : ∀ R, (if x = nI 0 then some (nI 0, M') else qM_takesE_L22 (nI cn) F M' (nI 0)) = R → qM_takesE_L22 (nI cn) (F + 1) M (nI 1) = R := by
  intro R hR
  unfold qM_takesE_L22
  simp only [zl0, zl1, zl2, zl3, zl4, zl5, zl6, zl7, zl8, zl9, zl10, zl11, zl12, zl13, zl14, zl16, zl18, zl19, zl20, zl22, zl24, zl30, zl32, zl33, zl36, zl38, zl40, zl41, zl48, zl50, zl51, zl57, zl59, zl60, zl61, zl62, zl70, zl71, zl99, zl100, zl103, zl104, zl105, zl106, zl107, zl108, zl109, zl110, zl111, zl112, zl113, zl114, zl115, zl116, zl124, zl127, zl255, zl999, zl1000, zl1001, zl1002, zl1003]
  rw [zbnd_c (next_e hB h ha), if_neg (show ¬ nI 1 = nI 0 from znI_ne (by decide) (by decide) (by decide)), zjn_e, if_neg (bI_n hB (by decide) h33), if_neg (bI_n hB (by decide) h40), zbnd_c ht]
  exact hR
theorem L_full {M : zM} {a F : Nat} {T : List Tk} {st : List Nat} (hB : BM m s tl) (h : MT m M cn b a T st) (ha : a ≤ tl) (hx : s a = 33 ∨ s a = 40) (hc : cnt st = 4) : qM_takesE_L22 (nI cn) (F + 1) M (nI 1) = some (nI 0, M) := by
  have e25 : M.1 40 0 25 = nI 4 := by rw [h.2.2.2.2.2.2.2.2, hc]
  unfold qM_takesE_L22
  simp only [zl0, zl1, zl2, zl3, zl4, zl5, zl6, zl7, zl8, zl9, zl10, zl11, zl12, zl13, zl14, zl16, zl18, zl19, zl20, zl22, zl24, zl30, zl32, zl33, zl36, zl38, zl40, zl41, zl48, zl50, zl51, zl57, zl59, zl60, zl61, zl62, zl70, zl71, zl99, zl100, zl103, zl104, zl105, zl106, zl107, zl108, zl109, zl110, zl111, zl112, zl113, zl114, zl115, zl116, zl124, zl127, zl255, zl999, zl1000, zl1001, zl1002, zl1003]
  rw [zbnd_c (next_e hB h ha), if_neg (show ¬ nI 1 = nI 0 from znI_ne (by decide) (by decide) (by decide)), zjn_e]
  rcases hx with q | q
  · rw [if_pos (bI_y hB.2.2.2 (by decide) q)]
    dsimp only
    rw [if_pos e25]
  · rw [if_neg (bI_n hB (by decide) (show s a ≠ 33 by omega)), if_pos (bI_y hB.2.2.2 (by decide) q)]
    dsimp only
    rw [if_pos e25]
theorem L_push {M : zM} {a x : Nat} {T : List Tk} {st : List Nat} (hB : BM m s tl) (h : MT m M cn b a T st) (ha : a ≤ tl) (hx : s a = x) (hx2 : x = 33 ∨ x = 40) (hc : cnt st < 4) (hst : st.length < 101) : ∃ M', (∀ F R, qM_takesE_L22 (nI cn) F M' (nI 1) = R → qM_takesE_L22 (nI cn) (F + 1) M (nI 1) = R) ∧ MT m M' cn b (a + 1) T (x :: st) := by
  have e25 := h.2.2.2.2.2.2.2.2
  have e24 := h.2.2.2.2.2.2.1
  have eb : bI s tl a = nI x := bI_y hB.2.2.2 (by omega) hx
  refine ⟨_, fun F R hR => ?_, MT_push1 h hx2⟩
  unfold qM_takesE_L22
  simp only [zl0, zl1, zl2, zl3, zl4, zl5, zl6, zl7, zl8, zl9, zl10, zl11, zl12, zl13, zl14, zl16, zl18, zl19, zl20, zl22, zl24, zl30, zl32, zl33, zl36, zl38, zl40, zl41, zl48, zl50, zl51, zl57, zl59, zl60, zl61, zl62, zl70, zl71, zl99, zl100, zl103, zl104, zl105, zl106, zl107, zl108, zl109, zl110, zl111, zl112, zl113, zl114, zl115, zl116, zl124, zl127, zl255, zl999, zl1000, zl1001, zl1002, zl1003]
  rw [zbnd_c (next_e hB h ha), if_neg (show ¬ nI 1 = nI 0 from znI_ne (by decide) (by decide) (by decide)), zjn_e, eb]
  have tail : (if (M.1 40 0 25) = nI 4 then (some (nI 0, M)) else (znm (zset M 40 0 25 ((M.1 40 0 25) + nI 1)) fun M24 => zchk (zin (M24.1 40 0 24) 101) (znm (zset M24 56 0 (M24.1 40 0 24).toNatClampNeg (nI x)) fun M25 => znm (zset M25 40 0 24 ((M25.1 40 0 24) + nI 1)) fun M26 => znm (zset M26 40 0 13 ((M26.1 40 0 13) + nI 1)) fun M27 => qM_takesE_L22 (nI cn) F M27 (nI 1)))) = R := by
    have g24 : (zset M 40 0 25 (nI (cnt st + 1))).1 40 0 24 = nI st.length := by rw [zg_n (by omega), e24]
    have g24' : (zset (zset M 40 0 25 (nI (cnt st + 1))) 56 0 st.length (nI x)).1 40 0 24 = nI st.length := by rw [zg_n (by omega), g24]
    have g13 : (zset (zset (zset M 40 0 25 (nI (cnt st + 1))) 56 0 st.length (nI x)) 40 0 24 (nI (st.length + 1))).1 40 0 13 = nI a := by rw [zg_n (by omega), zg_n (by omega), zg_n (by omega), h.2.2.2.1]
    rw [e25, if_neg (znI_ne (by omega) (by omega) (by omega)), ze_add, znm_e, g24, zchk_e (ze_in (by omega) (by omega)), ze_cl (show st.length < 2 ^ 31 by omega), znm_e, g24', ze_add, znm_e, g13, ze_add, znm_e]
    exact hR
  rcases hx2 with q | q
  · rw [if_pos (by rw [q])]
    exact tail
  · rw [if_neg (znI_ne (by omega) (by omega) (by omega)), if_pos (by rw [q])]
    exact tail
theorem L_op {M : zM} {a x : Nat} {T T' : List Tk} {st st' : List Nat} (hB : BM m s tl) (h : MT m M cn b a T st) (ha : a ≤ tl) (hx : s a = x) (hx2 : x = 38 ∨ x = 124) {M1 : zM} (hs : qM_settle M (nI x) = some ((), M1)) (h1 : MT m M1 cn b a T' st') (hst : st'.length < 101) : ∃ M', (∀ F R, qM_takesE_L22 (nI cn) F M' (nI 1) = R → qM_takesE_L22 (nI cn) (F + 1) M (nI 0) = R) ∧ MT m M' cn b (a + 1) T' (x :: st') := by
  have e24 := h1.2.2.2.2.2.2.1
  have eb : bI s tl a = nI x := bI_y hB.2.2.2 (by omega) hx
  refine ⟨_, fun F R hR => ?_, MT_push h1 (by omega) (by omega)⟩
  unfold qM_takesE_L22
  simp only [zl0, zl1, zl2, zl3, zl4, zl5, zl6, zl7, zl8, zl9, zl10, zl11, zl12, zl13, zl14, zl16, zl18, zl19, zl20, zl22, zl24, zl30, zl32, zl33, zl36, zl38, zl40, zl41, zl48, zl50, zl51, zl57, zl59, zl60, zl61, zl62, zl70, zl71, zl99, zl100, zl103, zl104, zl105, zl106, zl107, zl108, zl109, zl110, zl111, zl112, zl113, zl114, zl115, zl116, zl124, zl127, zl255, zl999, zl1000, zl1001, zl1002, zl1003]
  rw [zbnd_c (next_e hB h ha), if_pos trivial, zjn_e, eb]
  have tail : (zbnd (qM_settle M (nI x)) fun _ M9 => zchk (zin (M9.1 40 0 24) 101) (znm (zset M9 56 0 (M9.1 40 0 24).toNatClampNeg (nI x)) fun M11 => znm (zset M11 40 0 24 ((M11.1 40 0 24) + nI 1)) fun M12 => znm (zset M12 40 0 13 ((M12.1 40 0 13) + nI 1)) fun M13 => qM_takesE_L22 (nI cn) F M13 (nI 1))) = R := by
    have g24 : (zset M1 56 0 st'.length (nI x)).1 40 0 24 = nI st'.length := by rw [zg_n (by omega), e24]
    have g13 : (zset (zset M1 56 0 st'.length (nI x)) 40 0 24 (nI (st'.length + 1))).1 40 0 13 = nI a := by rw [zg_n (by omega), zg_n (by omega), h1.2.2.2.1]
    rw [zbnd_c hs, e24, zchk_e (ze_in (by omega) (by omega)), ze_cl (show st'.length < 2 ^ 31 by omega), znm_e, g24, ze_add, znm_e, g13, ze_add, znm_e]
    exact hR
  rcases hx2 with q | q
  · rw [if_pos (by rw [q])]
    exact tail
  · rw [if_neg (znI_ne (by omega) (by omega) (by omega)), if_pos (by rw [q])]
    exact tail
theorem L_end {M : zM} {a F : Nat} {T : List Tk} {st : List Nat} (hB : BM m s tl) (h : MT m M cn b a T st) (ha : a ≤ tl) (h38 : s a ≠ 38) (h124 : s a ≠ 124) {M1 : zM} (hs : qM_settle M (nI 124) = some ((), M1)) : ∀ R, FIN cn F M1 (bI s tl a) = R → cn < 60 → qM_takesE_L22 (nI cn) (F + 1) M (nI 0) = R := by
  intro R hR hcn
  unfold FIN at hR
  unfold qM_takesE_L22
  simp only [zl0, zl1, zl2, zl3, zl4, zl5, zl6, zl7, zl8, zl9, zl10, zl11, zl12, zl13, zl14, zl16, zl18, zl19, zl20, zl22, zl24, zl30, zl32, zl33, zl36, zl38, zl40, zl41, zl48, zl50, zl51, zl57, zl59, zl60, zl61, zl62, zl70, zl71, zl99, zl100, zl103, zl104, zl105, zl106, zl107, zl108, zl109, zl110, zl111, zl112, zl113, zl114, zl115, zl116, zl124, zl127, zl255, zl999, zl1000, zl1001, zl1002, zl1003]
  rw [zbnd_c (next_e hB h ha), if_pos trivial, zjn_e, if_neg (bI_n hB (by decide) h38), if_neg (bI_n hB (by decide) h124), zbnd_c hs, ze_cl (show cn < 2 ^ 31 by omega)]
  exact hR
theorem ops_nb {S : List Nat} (hS : S40 S) (pa po : Bool) : nb (opsL pa po S) = 0 ∧ strip (opsL pa po S) = opsL pa po S ∧ cnt (opsL pa po S) = cnt S ∧ (opsL pa po S).length = bv pa + bv po + S.length := by
  have base : nb S = 0 ∧ strip S = S := by
    cases S with
    | nil => exact ⟨rfl, rfl⟩
    | cons x S =>
      have := hS x S rfl
      subst this
      exact ⟨rfl, rfl⟩
  cases pa <;> cases po
  · exact ⟨base.1, base.2, rfl, by show S.length = 0 + 0 + S.length; omega⟩
  · exact ⟨rfl, rfl, by show (0 : Nat) + cnt S = cnt S; omega, by show S.length + 1 = 0 + 1 + S.length; omega⟩
  · exact ⟨rfl, rfl, by show (0 : Nat) + cnt S = cnt S; omega, by show S.length + 1 = 1 + 0 + S.length; omega⟩
  · exact ⟨rfl, rfl, by show (0 : Nat) + ((0 : Nat) + cnt S) = cnt S; omega, by show S.length + 1 + 1 = 1 + 1 + S.length; omega⟩
def FMK (m : zM) (s : Nat → Nat) (tl cn b o q : Nat) : Prop := ∀ (M : zM) (a : Nat) (T : List Tk) (st : List Nat), MT m M cn b a T st → a ≤ tl → cnt st = 4 - q → b + T.length + st.length ≤ o + a → st.length ≤ a →
  ((pF s q a).1 = true → ∃ M' n, n ≤ (pF s q a).2.1 - a ∧ (∀ F R, qM_takesE_L22 (nI cn) F M' (nI 0) = R → qM_takesE_L22 (nI cn) (F + n) M (nI 1) = R) ∧ MT m M' cn b (pF s q a).2.1 (T ++ (pF s q a).2.2 ++ nots (nb st)) (strip st)) ∧
  ((pF s q a).1 = false → ∃ M' n T' st', n ≤ (pF s q a).2.1 - a + 1 ∧ (∀ F, qM_takesE_L22 (nI cn) (F + n) M (nI 1) = some (nI 0, M')) ∧ MT m M' cn b (pF s q a).2.1 T' st')
theorem E_m {q : Nat} (hB : BM m s tl) (hcn : cn < 60) (ho : o ≤ 500) (hF : FMK m s tl cn b o q) {S : List Nat} (hS : S40 S) (hc : cnt S = 4 - q) (T0 : List Tk) : ∀ (k : Nat) (pa po : Bool) (acc : List Tk) (a : Nat) (M : zM), MT m M cn b a (T0 ++ acc) (opsL pa po S) → a ≤ tl → tl + 1 ≤ a + k → b + (T0 ++ acc).length + (opsL pa po S).length ≤ o + a → (opsL pa po S).length ≤ a →
    ((pL (pF s q) s k pa po acc a).1 = true → ∃ M' n, n ≤ (pL (pF s q) s k pa po acc a).2.1 - a ∧ (∀ F R, FIN cn F M' (bI s tl (pL (pF s q) s k pa po acc a).2.1) = R → qM_takesE_L22 (nI cn) (F + 1 + n) M (nI 1) = R) ∧ MT m M' cn b (pL (pF s q) s k pa po acc a).2.1 (T0 ++ (pL (pF s q) s k pa po acc a).2.2) S) ∧
    ((pL (pF s q) s k pa po acc a).1 = false → ∃ M' n T' st', n ≤ (pL (pF s q) s k pa po acc a).2.1 - a + 1 ∧ (∀ F, qM_takesE_L22 (nI cn) (F + n) M (nI 1) = some (nI 0, M')) ∧ MT m M' cn b (pL (pF s q) s k pa po acc a).2.1 T' st')
  | 0, pa, po, acc, a, M, h, ha, hk, hi, hl => by omega
  | k + 1, pa, po, acc, a, M, h, ha, hk, hi, hl => by
    have htl := hB.1
    obtain ⟨n1, n2, n3, n4⟩ := ops_nb hS pa po
    obtain ⟨f1, f2, f3⟩ := pF_ok hB.2.2.2 htl q a ha
    obtain ⟨Y, N⟩ := hF M a (T0 ++ acc) (opsL pa po S) h ha (by rw [n3, hc]) hi hl
    rw [n1, n2] at Y
    unfold pL
    by_cases hr : (pF s q a).1 = true
    · rw [if_pos hr]
      obtain ⟨M1, nF, y1, y2, y3⟩ := Y hr
      obtain ⟨g1, g2, g3⟩ := f3 hr
      have y3 : MT m M1 cn b (pF s q a).2.1 (T0 ++ acc ++ (pF s q a).2.2) (opsL pa po S) := by
        have : T0 ++ acc ++ (pF s q a).2.2 ++ nots 0 = T0 ++ acc ++ (pF s q a).2.2 := List.append_nil _
        rw [this] at y3
        exact y3
      have l1 : (T0 ++ acc ++ (pF s q a).2.2).length = (T0 ++ acc).length + (pF s q a).2.2.length := by rw [List.length_append]
      generalize pF s q a = r at hr f1 f2 f3 g1 g2 g3 y1 y2 y3 l1
      have bpa : bv pa ≤ 1 := by cases pa <;> decide
      have bpo : bv po ≤ 1 := by cases po <;> decide
      by_cases h38 : s r.2.1 = 38
      · rw [if_pos h38]
        have i1 := in_tl hB.2.2.2 (a := r.2.1) (by omega)
        obtain ⟨M2, s1, s2⟩ := set38 hS y3 (by rw [l1]; omega) (by omega)
        obtain ⟨o1, o2, o3, o4⟩ := ops_nb hS false po
        rw [bvf] at o4
        obtain ⟨M3, p1, p2⟩ := L_op hB y3 f2 h38 (Or.inl rfl) s1 s2 (by omega)
        have l2 : (T0 ++ acc ++ r.2.2 ++ (if pa = true then [tAND] else [])).length = (T0 ++ acc).length + r.2.2.length + bv pa := by rw [List.length_append, l1, opt_len]
        have e2 : T0 ++ acc ++ r.2.2 ++ (if pa = true then [tAND] else []) = T0 ++ (acc ++ r.2.2 ++ (if pa = true then [tAND] else [])) := by rw [List.append_assoc, List.append_assoc, List.append_assoc]
        rw [e2] at p2 l2
        have p2 : MT m M3 cn b (r.2.1 + 1) (T0 ++ (acc ++ r.2.2 ++ (if pa = true then [tAND] else []))) (opsL true po S) := p2
        have o5 : (opsL true po S).length = 1 + bv po + S.length := (ops_nb hS true po).2.2.2
        obtain ⟨Y2, N2⟩ := E_m hB hcn ho hF hS hc T0 k true po (acc ++ r.2.2 ++ (if pa = true then [tAND] else [])) (r.2.1 + 1) M3 p2 (by omega) (by omega) (by rw [l2, o5]; omega) (by rw [o5]; omega)
        have w1 := pL_mono (F := pF s q) hB.2.2.2 (fun a ha => pF_ok hB.2.2.2 htl q a ha) k true po (acc ++ r.2.2 ++ (if pa = true then [tAND] else [])) (r.2.1 + 1) (by omega)
        refine ⟨fun hy => ?_, fun hn => ?_⟩
        · obtain ⟨M', n', z1, z2, z3⟩ := Y2 hy
          refine ⟨M', n' + 1 + nF, by omega, fun F R hR => ?_, z3⟩
          rw [show F + 1 + (n' + 1 + nF) = (F + 1 + n' + 1) + nF by omega]
          exact y2 _ _ (p1 _ _ (z2 F R hR))
        · obtain ⟨M', n', T', st', z1, z2, z3⟩ := N2 hn
          refine ⟨M', n' + 1 + nF, T', st', by omega, fun F => ?_, z3⟩
          rw [show F + (n' + 1 + nF) = (F + n' + 1) + nF by omega]
          exact y2 _ _ (p1 _ _ (z2 F))
      rw [if_neg h38]
      obtain ⟨M2, s1, s2⟩ := set124 hS y3 (by rw [l1]; omega) (by omega)
      have l3 : (T0 ++ acc ++ r.2.2 ++ (if pa = true then [tAND] else []) ++ (if po = true then [tOR] else [])).length = (T0 ++ acc).length + r.2.2.length + bv pa + bv po := by rw [List.length_append, List.length_append, l1, opt_len, opt_len]
      have e3 : T0 ++ acc ++ r.2.2 ++ (if pa = true then [tAND] else []) ++ (if po = true then [tOR] else []) = T0 ++ (acc ++ r.2.2 ++ (if pa = true then [tAND] else []) ++ (if po = true then [tOR] else [])) := by simp only [List.append_assoc]
      rw [e3] at s2 l3
      by_cases h124 : s r.2.1 = 124
      · rw [if_pos h124]
        have i1 := in_tl hB.2.2.2 (a := r.2.1) (by omega)
        obtain ⟨M3, p1, p2⟩ := L_op hB y3 f2 h124 (Or.inr rfl) s1 s2 (by omega)
        have p2 : MT m M3 cn b (r.2.1 + 1) (T0 ++ (acc ++ r.2.2 ++ (if pa = true then [tAND] else []) ++ (if po = true then [tOR] else []))) (opsL false true S) := p2
        have o5 : (opsL false true S).length = 0 + 1 + S.length := (ops_nb hS false true).2.2.2
        obtain ⟨Y2, N2⟩ := E_m hB hcn ho hF hS hc T0 k false true (acc ++ r.2.2 ++ (if pa = true then [tAND] else []) ++ (if po = true then [tOR] else [])) (r.2.1 + 1) M3 p2 (by omega) (by omega) (by rw [l3, o5]; omega) (by rw [o5]; omega)
        have w1 := pL_mono (F := pF s q) hB.2.2.2 (fun a ha => pF_ok hB.2.2.2 htl q a ha) k false true (acc ++ r.2.2 ++ (if pa = true then [tAND] else []) ++ (if po = true then [tOR] else [])) (r.2.1 + 1) (by omega)
        refine ⟨fun hy => ?_, fun hn => ?_⟩
        · obtain ⟨M', n', z1, z2, z3⟩ := Y2 hy
          refine ⟨M', n' + 1 + nF, by omega, fun F R hR => ?_, z3⟩
          rw [show F + 1 + (n' + 1 + nF) = (F + 1 + n' + 1) + nF by omega]
          exact y2 _ _ (p1 _ _ (z2 F R hR))
        · obtain ⟨M', n', T', st', z1, z2, z3⟩ := N2 hn
          refine ⟨M', n' + 1 + nF, T', st', by omega, fun F => ?_, z3⟩
          rw [show F + (n' + 1 + nF) = (F + n' + 1) + nF by omega]
          exact y2 _ _ (p1 _ _ (z2 F))
      rw [if_neg h124]
      refine ⟨fun _ => ⟨M2, nF, y1, fun F R hR => ?_, s2⟩, fun h => absurd (show true = false from h) (by decide)⟩
      exact y2 _ _ (L_end hB y3 f2 h38 h124 s1 R hR hcn)
    · have hrf : (pF s q a).1 = false := by
        cases hb : (pF s q a).1
        · rfl
        · exact absurd hb hr
      rw [if_neg hr]
      exact ⟨fun h => absurd (show false = true from h) Bool.false_ne_true, fun _ => N hrf⟩
/-- a factor, read by the automaton -/
theorem F_m (hB : BM m s tl) (hcn : cn < 60) (ho : o ≤ 500) : ∀ q, q ≤ 4 → FMK m s tl cn b o q
  | 0, hq => by
    intro M a T st h ha hc hi hl
    have htl := hB.1
    show ((pTest s a).1 = true → _) ∧ _
    by_cases hp : s a = 33 ∨ s a = 40
    · have e : pTest s a = (false, a, []) := by
        unfold pTest
        rw [if_neg]
        rcases hp with q | q <;> rw [q] <;> decide
      have ef : pF s 0 a = (false, a, []) := e
      rw [e]
      refine ⟨fun h => absurd (show false = true from h) Bool.false_ne_true, fun _ => ⟨M, 1, T, st, by omega, fun F => L_full hB h ha hp (by omega), ?_⟩⟩
      rw [ef]
      exact h
    · obtain ⟨M', t1, t2, t3⟩ := test_m hB h ha ho hi hl
      have f1 := pTest_ok (s := s) hB.2.2.2 ha 0
      have ef : pF s 0 a = pTest s a := rfl
      refine ⟨fun hy => ?_, fun hn => ?_⟩
      · have g1 := (f1.2.2 hy).1
        rw [hy] at t1
        refine ⟨M', 1, by rw [ef]; omega, fun F R hR => ?_, by rw [ef]; exact t2 hy⟩
        refine L_test hB h ha (fun q => hp (Or.inl q)) (fun q => hp (Or.inr q)) t1 R ?_
        rw [if_neg (show ¬ nI (bv true) = nI 0 from znI_ne (by decide) (by decide) (by decide))]
        exact hR
      · have hn' : (pTest s a).1 = false := hn
        rw [hn'] at t1
        refine ⟨M', 1, T, st, by omega, fun F => ?_, by rw [ef]; exact t3 hn'⟩
        refine L_test hB h ha (fun q => hp (Or.inl q)) (fun q => hp (Or.inr q)) t1 _ ?_
        rw [if_pos (show nI (bv false) = nI 0 from rfl)]
  | q + 1, hq => by
    intro M a T st h ha hc hi hl
    have htl := hB.1
    have IH := F_m hB hcn ho q (by omega)
    unfold pF
    by_cases h33 : s a = 33
    · rw [if_pos h33]
      have i1 := in_tl hB.2.2.2 (a := a) (by omega)
      obtain ⟨M1, p1, p2⟩ := L_push hB h ha h33 (Or.inl rfl) (by omega) (by omega)
      have hc1 : cnt (33 :: st) = 4 - q := by show (1 : Nat) + cnt st = 4 - q; omega
      obtain ⟨f1, f2, f3⟩ := pF_ok hB.2.2.2 htl q (a + 1) (by omega)
      obtain ⟨Y, N⟩ := IH M1 (a + 1) T (33 :: st) p2 (by omega) hc1 (by rw [List.length_cons]; omega) (by rw [List.length_cons]; omega)
      generalize pF s q (a + 1) = r at f1 f2 f3 Y N
      by_cases hr : r.1 = true
      · rw [if_pos hr]
        obtain ⟨M', n, y1, y2, y3⟩ := Y hr
        obtain ⟨g1, g2, g3⟩ := f3 hr
        refine ⟨fun _ => ⟨M', n + 1, by show n + 1 ≤ r.2.1 - a; omega, fun F R hR => ?_, ?_⟩, fun h => absurd (show true = false from h) (by decide)⟩
        · rw [← Nat.add_assoc]
          exact p1 _ _ (y2 F R hR)
        · have e1 : nots (nb (33 :: st)) = [tNOT] ++ nots (nb st) := rfl
          have e2 : strip (33 :: st) = strip st := rfl
          rw [e1, e2, ← List.append_assoc] at y3
          show MT m M' cn b r.2.1 (T ++ (r.2.2 ++ [tNOT]) ++ nots (nb st)) (strip st)
          rw [← List.append_assoc T]
          exact y3
      · have hrf : r.1 = false := by
          cases hb : r.1
          · rfl
          · exact absurd hb hr
        rw [if_neg hr]
        obtain ⟨M', n, T', st', z1, z2, z3⟩ := N hrf
        refine ⟨fun h => absurd (show false = true from h) Bool.false_ne_true, fun _ => ⟨M', n + 1, T', st', by show n + 1 ≤ r.2.1 - a + 1; omega, fun F => ?_, z3⟩⟩
        rw [← Nat.add_assoc]
        exact p1 _ _ (z2 F)
    rw [if_neg h33]
    by_cases h40 : s a = 40
    · rw [if_pos h40]
      have i1 := in_tl hB.2.2.2 (a := a) (by omega)
      obtain ⟨M1, p1, p2⟩ := L_push hB h ha h40 (Or.inr rfl) (by omega) (by omega)
      have hc1 : cnt (40 :: st) = 4 - q := by show (1 : Nat) + cnt st = 4 - q; omega
      have hS : S40 (40 :: st) := fun x S' hx => by injection hx with hx; exact hx.symm
      obtain ⟨f1, f2, f3⟩ := pE_ok (q := q) (a := a + 1) hB.2.2.2 htl (by omega)
      obtain ⟨Y, N⟩ := E_m (q := q) (o := o) hB hcn ho IH hS hc1 T 101 false false [] (a + 1) M1 (by show MT m M1 cn b (a + 1) (T ++ []) (40 :: st); rw [List.append_nil]; exact p2) (by omega) (by omega) (by show b + (T ++ []).length + (st.length + 1) ≤ o + (a + 1); rw [List.append_nil]; omega) (by show st.length + 1 ≤ a + 1; omega)
      rw [show pL (pF s q) s 101 false false [] (a + 1) = pE s q (a + 1) from rfl] at Y N ⊢
      generalize pE s q (a + 1) = r at f1 f2 f3 Y N
      by_cases hr : r.1 = true
      · rw [if_pos hr]
        obtain ⟨M2, n, y1, y2, y3⟩ := Y hr
        obtain ⟨g1, g2, g3⟩ := f3 hr
        have k1 := MT_to y3 (M2.1 40 0 23)
        have e24 : (zset M2 54 0 cn (M2.1 40 0 23)).1 40 0 24 = nI (st.length + 1) := k1.2.2.2.2.2.2.1
        by_cases h41 : s r.2.1 = 41
        · rw [if_pos h41]
          have i2 := in_tl hB.2.2.2 (a := r.2.1) (by omega)
          have k2 := MT_at (MT_pop1 k1 (Or.inr rfl)) (r.2.1 + 1)
          have hlen : (T ++ r.2.2).length = T.length + r.2.2.length := by rw [List.length_append]
          obtain ⟨M3, w1, w2⟩ := whole_e st 1000 _ _ _ k2 (by rw [hlen]; omega) (by omega) (by omega)
          have w1 : qM_whole (zset (zset (zset (zset M2 54 0 cn (M2.1 40 0 23)) 40 0 24 (nI st.length)) 40 0 25 (nI (cnt st))) 40 0 13 (nI (r.2.1 + 1))) = some ((), M3) := w1
          refine ⟨fun _ => ⟨M3, n + 2, by show n + 2 ≤ r.2.1 + 1 - a; omega, fun F R hR => ?_, w2⟩, fun h => absurd (show true = false from h) (by decide)⟩
          rw [show F + (n + 2) = F + 1 + n + 1 by omega]
          refine p1 _ _ (y2 F R ?_)
          unfold FIN
          have e25 : (zset (zset M2 54 0 cn (M2.1 40 0 23)) 40 0 24 (nI st.length)).1 40 0 25 = nI (cnt st + 1) := by
            rw [zg_n (by omega)]
            have : (zset M2 54 0 cn (M2.1 40 0 23)).1 40 0 25 = nI (cnt (40 :: st)) := k1.2.2.2.2.2.2.2.2
            rw [this]
            show nI (1 + cnt st) = nI (cnt st + 1)
            rw [Nat.add_comm]
          have e13 : (zset (zset (zset M2 54 0 cn (M2.1 40 0 23)) 40 0 24 (nI st.length)) 40 0 25 (nI (cnt st))).1 40 0 13 = nI r.2.1 := by rw [zg_n (by omega), zg_n (by omega), zg_n (by omega), y3.2.2.2.1]
          rw [zchk_e (ze_in hcn (by omega)), znm_e, e24, if_neg (znI_ne (by omega) (by omega) (by omega)), if_pos (bI_y hB.2.2.2 (by decide) h41), ze_sub (by omega), Nat.add_sub_cancel, znm_e, e25, ze_sub (by omega), Nat.add_sub_cancel, znm_e, e13, ze_add, znm_e, zbnd_c w1]
          exact hR
        · rw [if_neg h41]
          refine ⟨fun h => absurd (show false = true from h) Bool.false_ne_true, fun _ => ⟨zset M2 54 0 cn (M2.1 40 0 23), n + 2, _, _, by show n + 2 ≤ r.2.1 - a + 1; omega, fun F => ?_, k1⟩⟩
          rw [show F + (n + 2) = F + 1 + n + 1 by omega]
          refine p1 _ _ (y2 F _ ?_)
          unfold FIN
          rw [zchk_e (ze_in hcn (by omega)), znm_e, e24, if_neg (znI_ne (by omega) (by omega) (by omega)), if_neg (bI_n hB (by decide) h41)]
      · have hrf : r.1 = false := by
          cases hb : r.1
          · rfl
          · exact absurd hb hr
        rw [if_neg hr]
        obtain ⟨M', n, T', st', z1, z2, z3⟩ := N hrf
        refine ⟨fun h => absurd (show false = true from h) Bool.false_ne_true, fun _ => ⟨M', n + 1, T', st', by show n + 1 ≤ r.2.1 - a + 1; omega, fun F => ?_, z3⟩⟩
        rw [← Nat.add_assoc]
        exact p1 _ _ (z2 F)
    rw [if_neg h40]
    obtain ⟨M', t1, t2, t3⟩ := test_m hB h ha ho hi hl
    have f1 := pTest_ok (s := s) hB.2.2.2 ha 0
    refine ⟨fun hy => ?_, fun hn => ?_⟩
    · have g1 := (f1.2.2 hy).1
      rw [hy] at t1
      refine ⟨M', 1, by omega, fun F R hR => ?_, t2 hy⟩
      refine L_test hB h ha h33 h40 t1 R ?_
      rw [if_neg (show ¬ nI (bv true) = nI 0 from znI_ne (by decide) (by decide) (by decide))]
      exact hR
    · rw [hn] at t1
      refine ⟨M', 1, T, st, by omega, fun F => ?_, t3 hn⟩
      refine L_test hB h ha h33 h40 t1 _ ?_
      rw [if_pos (show nI (bv false) = nI 0 from rfl)]
/-- an E, read by the automaton -/
theorem takesE_e {M : zM} {a : Nat} (hB : BM m s tl) (hcn : cn < 60) (ho : o ≤ 500) (hM : M.2 = m.2) (F : ∀ k j, k ≠ 55 → k ≠ 56 → ¬ (k = 40 ∧ (j = 13 ∨ j = 14 ∨ j = 23 ∨ j = 24 ∨ j = 25)) → ¬ (k = 54 ∧ j = cn) → (zset M 53 0 cn (nI b)).1 k 0 j = m.1 k 0 j) (h55 : ∀ j, j < b → M.1 55 0 j = m.1 55 0 j) (h13 : M.1 40 0 13 = nI a) (h23 : M.1 40 0 23 = nI b) (ha : a ≤ tl) (hb : b ≤ o + a) :
    ∃ M' T' st', qM_takesE M (nI cn) = some (nI (bv (pE s 4 a).1), M') ∧ MT m M' cn b (pE s 4 a).2.1 T' st' ∧ ((pE s 4 a).1 = true → T' = (pE s 4 a).2.2 ∧ M'.1 54 0 cn = nI (b + (pE s 4 a).2.2.length)) := by
  have htl := hB.1
  let A := zset (zset (zset M 40 0 24 (nI 0)) 40 0 25 (nI 0)) 53 0 cn (nI b)
  have hA : MT m A cn b a [] [] := by
    refine ⟨hM, fun k j q1 q2 q3 q4 => ?_, fun j hj => by rw [zg_n (by omega), zg_n (by omega), zg_n (by omega), h55 j hj], by rw [zg_n (by omega), zg_n (by omega), zg_n (by omega), h13], by rw [zg_n (by omega), zg_n (by omega), zg_n (by omega), h23]; rfl, fun i t q => (by simp only [List.getElem?_nil] at q; cases q), by rw [zg_n (by omega), zg_n (by omega), zg_e ⟨rfl, rfl, rfl⟩]; rfl, trivial, by rw [zg_n (by omega), zg_e ⟨rfl, rfl, rfl⟩]; rfl⟩
    have := F k j q1 q2 q3 q4
    by_cases q : k = 53 ∧ j = cn
    · rw [zg_e ⟨q.1, rfl, q.2⟩]
      rw [zg_e ⟨q.1, rfl, q.2⟩] at this
      exact this
    · rw [zg_n (by omega), zg_n (by omega), zg_n (by omega)]
      rw [zg_n (by omega)] at this
      exact this
  have head : ∀ R, qM_takesE_L22 (nI cn) 1000 A (nI 1) = R → qM_takesE M (nI cn) = R := by
    intro R hR
    unfold qM_takesE
    simp only [zl0, zl1, zl2, zl3, zl4, zl5, zl6, zl7, zl8, zl9, zl10, zl11, zl12, zl13, zl14, zl16, zl18, zl19, zl20, zl22, zl24, zl30, zl32, zl33, zl36, zl38, zl40, zl41, zl48, zl50, zl51, zl57, zl59, zl60, zl61, zl62, zl70, zl71, zl99, zl100, zl103, zl104, zl105, zl106, zl107, zl108, zl109, zl110, zl111, zl112, zl113, zl114, zl115, zl116, zl124, zl127, zl255, zl999, zl1000, zl1001, zl1002, zl1003]
    have e23 : (zset (zset M 40 0 24 (nI 0)) 40 0 25 (nI 0)).1 40 0 23 = nI b := by rw [zg_n (by omega), zg_n (by omega), h23]
    rw [znm_e, znm_e, zchk_e (ze_in hcn (by omega)), ze_cl (show cn < 2 ^ 31 by omega), e23, znm_e]
    exact hR
  obtain ⟨f1, f2, f3⟩ := pE_ok (q := 4) (a := a) hB.2.2.2 htl ha
  obtain ⟨Y, N⟩ := E_m (q := 4) (o := o) (S := []) hB hcn ho (F_m hB hcn ho 4 (by omega)) (fun x S' hx => by cases hx) rfl [] 101 false false [] a A hA ha (by omega) (by show b + 0 + 0 ≤ o + a; omega) (by show 0 ≤ a; omega)
  rw [show pL (pF s 4) s 101 false false [] a = pE s 4 a from rfl] at Y N
  cases hr : (pE s 4 a).1
  · obtain ⟨M', n, T', st', z1, z2, z3⟩ := N hr
    refine ⟨M', T', st', head _ ?_, z3, fun h => absurd h Bool.false_ne_true⟩
    rw [show (1000 : Nat) = (1000 - n) + n by omega]
    exact z2 _
  · obtain ⟨M', n, y1, y2, y3⟩ := Y hr
    have k1 := MT_to y3 (M'.1 40 0 23)
    refine ⟨zset M' 54 0 cn (M'.1 40 0 23), _, _, head _ ?_, k1, fun _ => ⟨rfl, by rw [zg_e ⟨rfl, rfl, rfl⟩]; exact y3.2.2.2.2.1⟩⟩
    rw [show (1000 : Nat) = (999 - n) + 1 + n by omega]
    refine y2 _ _ ?_
    unfold FIN
    have e24 : (zset M' 54 0 cn (M'.1 40 0 23)).1 40 0 24 = nI 0 := k1.2.2.2.2.2.2.1
    rw [zchk_e (ze_in hcn (by omega)), znm_e, e24, if_pos rfl]
    rfl
end
