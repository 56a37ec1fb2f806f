/-! PURE PART: the class's next row. -/
def riseN (r : Nat → Nat) : Nat → Nat
  | 0 => 0
  | u + 1 => if r u ≤ r (u + 1) then u + 1 else riseN r u
def swapN (r : Nat → Nat) (c : Nat) : Nat → Nat
  | 0 => 0
  | v + 1 => if v + 1 ≤ c then v + 1 else if r c ≤ r (v + 1) then v + 1 else swapN r c v
def exch (r : Nat → Nat) (i j x : Nat) : Nat := if x = j then r i else if x = i then r j else r x
def revN : Nat → (Nat → Nat) → Nat → Nat → Nat → Nat
  | 0, r, _, _ => r
  | f + 1, r, lo, hi => if hi ≤ lo then r else revN f (exch r lo hi) (lo + 1) (hi - 1)
def stepN (k : Nat) (r : Nat → Nat) : Option (Nat → Nat) := if riseN r (k - 1) = 0 then none else some (revN 5 (exch r (riseN r (k - 1) - 1) (swapN r (riseN r (k - 1) - 1) (k - 1))) (riseN r (k - 1)) (k - 1))
def RR (M : zM) (r : Nat → Nat) (k : Nat) : Prop := ∀ i, i < k → M.1 23 0 i = nI (r i)
def F23 (M M' : zM) : Prop := M'.2 = M.2 ∧ ∀ a i j, a ≠ 23 → M'.1 a i j = M.1 a i j
theorem F23_refl (M : zM) : F23 M M := ⟨rfl, fun _ _ _ _ => rfl⟩
theorem F23_trans {A B C : zM} (h1 : F23 A B) (h2 : F23 B C) : F23 A C := ⟨h2.1.trans h1.1, fun a i j q => (h2.2 a i j q).trans (h1.2 a i j q)⟩
theorem exch_e {M : zM} {r : Nat → Nat} {k i j : Nat} (hk : k ≤ 5) (hM : RR M r k) (hi : i < k) (hj : j < k) : ∃ M', qG_exchange M (nI i) (nI j) = some ((), M') ∧ RR M' (exch r i j) k ∧ F23 M M' := by
  refine ⟨zset (zset M 23 0 i (M.1 23 0 j)) 23 0 j (M.1 23 0 i), ?_, fun x hx => ?_, rfl, fun a b d q => by rw [zg_n (by omega), zg_n (by omega)]⟩
  · unfold qG_exchange
    simp only [zchk_e (ze_in (show i < 5 by omega) (by decide)), zchk_e (ze_in (show j < 5 by omega) (by decide)), znm_e, ze_cl (show i < 2 ^ 31 by omega), ze_cl (show j < 2 ^ 31 by omega)]
  · unfold exch
    by_cases e : x = j
    · rw [if_pos e, zg_e (by omega), hM i hi]
    · rw [if_neg e, zg_n (by omega)]
      by_cases e2 : x = i
      · rw [if_pos e2, zg_e (by omega), hM j hj]
      · rw [if_neg e2, zg_n (by omega), hM x hx]
def vI (u : Nat) : Int32 := if u = 0 then -nI 1 else nI (u - 1)
theorem vI_m (u : Nat) : nI u + (-nI 1) = vI u := by
  unfold vI
  cases u with
  | zero => rw [if_pos rfl, z0add]
  | succ u =>
    rw [if_neg (by omega), Nat.add_sub_cancel, ← zl1]
    exact pk_m1 u
theorem rise_e {M : zM} {r : Nat → Nat} {k : Nat} {c1 : Int32} {E : zM → Int32 → Option (Int32 × zM)} (hk : k ≤ 5) (hM : RR M r k) (hr : ∀ i, i < k → r i < 100) : ∀ (u F : Nat), u + 1 ≤ k → u < F → qG_stepRow_L4 c1 E F M (vI u) = E M (vI (riseN r u))
  | 0, F + 1, hu, hF => by
    unfold qG_stepRow_L4
    have e : vI 0 = -nI 1 := if_pos rfl
    have e2 : vI (riseN r 0) = -nI 1 := if_pos rfl
    simp only [zl0, zl1, zl2, zl3, zl4, zl5, zl6, zl7, zl8, zl9, zl10, zl11, zl12, zl13, zl14, zl16, zl18, zl19, zl20, zl22, zl24, zl30, zl32, zl33, zl36, zl38, zl40, zl41, zl48, zl50, zl51, zl57, zl59, zl60, zl61, zl62, zl70, zl71, zl99, zl100, zl103, zl104, zl105, zl106, zl107, zl108, zl109, zl110, zl111, zl112, zl113, zl114, zl115, zl116, zl124, zl127, zl255, zl999, zl1000, zl1001, zl1002, zl1003]
    rw [e, e2, if_pos]
    decide +kernel
  | u + 1, F + 1, hu, hF => by
    have ih := rise_e (c1 := c1) (E := E) hk hM hr u F (by omega) (by omega)
    have e : vI (u + 1) = nI u := if_neg (by omega)
    have b1 := hr u (by omega)
    have b2 := hr (u + 1) (by omega)
    unfold qG_stepRow_L4
    simp only [zl0, zl1, zl2, zl3, zl4, zl5, zl6, zl7, zl8, zl9, zl10, zl11, zl12, zl13, zl14, zl16, zl18, zl19, zl20, zl22, zl24, zl30, zl32, zl33, zl36, zl38, zl40, zl41, zl48, zl50, zl51, zl57, zl59, zl60, zl61, zl62, zl70, zl71, zl99, zl100, zl103, zl104, zl105, zl106, zl107, zl108, zl109, zl110, zl111, zl112, zl113, zl114, zl115, zl116, zl124, zl127, zl255, zl999, zl1000, zl1001, zl1002, zl1003]
    rw [e, if_neg (nI_nlt (by omega) (by omega)), zchk_e (ze_in (by omega) (by omega)), ze_add, zchk_e (ze_in (by omega) (by omega)), ze_cl (show u < 2 ^ 31 by omega), ze_cl (show u + 1 < 2 ^ 31 by omega), hM u (by omega), hM (u + 1) (by omega), vI_m]
    unfold riseN
    by_cases q : r u ≤ r (u + 1)
    · rw [if_pos q, if_pos (nI_le q (by omega)), e]
    · rw [if_neg q, if_neg (nI_ge (by omega) (by omega))]
      exact ih
theorem swap_e {M : zM} {r : Nat → Nat} {k c : Nat} {c1 : Int32} {E : zM → Int32 → Option (Int32 × zM)} (hk : k ≤ 5) (hM : RR M r k) (hr : ∀ i, i < k → r i < 100) (hc : c < k) : ∀ (v F : Nat), v < k → v < F → qG_stepRow_L35 c1 (nI c) E F M (nI v) = E M (nI (swapN r c v))
  | 0, F + 1, hv, hF => by
    unfold qG_stepRow_L35
    rw [if_pos (nI_le (by omega) (by omega))]
    rfl
  | v + 1, F + 1, hv, hF => by
    have ih := swap_e (c1 := c1) (E := E) hk hM hr hc v F (by omega) (by omega)
    have b1 := hr c hc
    have b2 := hr (v + 1) hv
    unfold qG_stepRow_L35
    simp only [zl0, zl1, zl2, zl3, zl4, zl5, zl6, zl7, zl8, zl9, zl10, zl11, zl12, zl13, zl14, zl16, zl18, zl19, zl20, zl22, zl24, zl30, zl32, zl33, zl36, zl38, zl40, zl41, zl48, zl50, zl51, zl57, zl59, zl60, zl61, zl62, zl70, zl71, zl99, zl100, zl103, zl104, zl105, zl106, zl107, zl108, zl109, zl110, zl111, zl112, zl113, zl114, zl115, zl116, zl124, zl127, zl255, zl999, zl1000, zl1001, zl1002, zl1003]
    unfold swapN
    by_cases q0 : v + 1 ≤ c
    · rw [if_pos (nI_le (by omega) (by omega)), if_pos q0]
    rw [if_neg (nI_ge (by omega) (by omega)), if_neg q0, zchk_e (ze_in (by omega) (by omega)), zchk_e (ze_in (by omega) (by omega)), ze_cl (show c < 2 ^ 31 by omega), ze_cl (show v + 1 < 2 ^ 31 by omega), hM c hc, hM (v + 1) hv, show nI (v + 1) + (-nI 1) = nI v by rw [← zl1]; exact pk_m1 v]
    by_cases q : r c ≤ r (v + 1)
    · rw [if_pos q, if_pos (nI_le q (by omega))]
    · rw [if_neg q, if_neg (nI_ge (by omega) (by omega))]
      exact ih
theorem swapN_le (r : Nat → Nat) (c : Nat) : ∀ v, swapN r c v ≤ v
  | 0 => Nat.le_refl _
  | v + 1 => by
    unfold swapN
    have := swapN_le r c v
    split
    · exact Nat.le_refl _
    · split
      · exact Nat.le_refl _
      · omega
theorem riseN_le (r : Nat → Nat) : ∀ u, riseN r u ≤ u
  | 0 => Nat.le_refl _
  | u + 1 => by
    unfold riseN
    have := riseN_le r u
    split
    · exact Nat.le_refl _
    · omega
theorem rev_e {k : Nat} (hk : k ≤ 5) : ∀ (f lo hi F : Nat) (M : zM) (r : Nat → Nat), hi < lo + 2 * f → hi < k → f < F → RR M r k → lo < 10 → ∃ M', qG_stepRow_L71 F M (nI lo) (nI hi) = some (nI 1, M') ∧ RR M' (revN f r lo hi) k ∧ F23 M M'
  | 0, lo, hi, F + 1, M, r, h1, h2, h3, hM, hl => by
    refine ⟨M, ?_, hM, F23_refl M⟩
    unfold qG_stepRow_L71
    simp only [zl0, zl1, zl2, zl3, zl4, zl5, zl6, zl7, zl8, zl9, zl10, zl11, zl12, zl13, zl14, zl16, zl18, zl19, zl20, zl22, zl24, zl30, zl32, zl33, zl36, zl38, zl40, zl41, zl48, zl50, zl51, zl57, zl59, zl60, zl61, zl62, zl70, zl71, zl99, zl100, zl103, zl104, zl105, zl106, zl107, zl108, zl109, zl110, zl111, zl112, zl113, zl114, zl115, zl116, zl124, zl127, zl255, zl999, zl1000, zl1001, zl1002, zl1003]
    rw [if_pos (nI_le (by omega) (by omega))]
  | f + 1, lo, hi, F + 1, M, r, h1, h2, h3, hM, hl => by
    unfold revN
    by_cases q : hi ≤ lo
    · rw [if_pos q]
      refine ⟨M, ?_, hM, F23_refl M⟩
      unfold qG_stepRow_L71
      simp only [zl0, zl1, zl2, zl3, zl4, zl5, zl6, zl7, zl8, zl9, zl10, zl11, zl12, zl13, zl14, zl16, zl18, zl19, zl20, zl22, zl24, zl30, zl32, zl33, zl36, zl38, zl40, zl41, zl48, zl50, zl51, zl57, zl59, zl60, zl61, zl62, zl70, zl71, zl99, zl100, zl103, zl104, zl105, zl106, zl107, zl108, zl109, zl110, zl111, zl112, zl113, zl114, zl115, zl116, zl124, zl127, zl255, zl999, zl1000, zl1001, zl1002, zl1003]
      rw [if_pos (nI_le (by omega) (by omega))]
    · rw [if_neg q]
      obtain ⟨M1, a1, a2, a3⟩ := exch_e hk hM (show lo < k by omega) h2
      obtain ⟨M', k1, k2, k3⟩ := rev_e hk f (lo + 1) (hi - 1) F M1 (exch r lo hi) (by omega) (by omega) (by omega) a2 (by omega)
      refine ⟨M', ?_, k2, F23_trans a3 k3⟩
      unfold qG_stepRow_L71
      simp only [zl0, zl1, zl2, zl3, zl4, zl5, zl6, zl7, zl8, zl9, zl10, zl11, zl12, zl13, zl14, zl16, zl18, zl19, zl20, zl22, zl24, zl30, zl32, zl33, zl36, zl38, zl40, zl41, zl48, zl50, zl51, zl57, zl59, zl60, zl61, zl62, zl70, zl71, zl99, zl100, zl103, zl104, zl105, zl106, zl107, zl108, zl109, zl110, zl111, zl112, zl113, zl114, zl115, zl116, zl124, zl127, zl255, zl999, zl1000, zl1001, zl1002, zl1003]
      rw [if_neg (nI_ge (by omega) (by omega)), zbnd_c a1, ze_add, show nI hi + (-nI 1) = nI (hi - 1) by rw [vI_m]; exact if_neg (by omega)]
      exact k1
theorem stepRow_e {M : zM} {r : Nat → Nat} {k : Nat} (hk : k ≤ 4) (hM : RR M r k) (hr : ∀ i, i < k → r i < 100) : (stepN k r = none ∧ qG_stepRow M (nI k) = some (nI 0, M)) ∨ ∃ r' M', stepN k r = some r' ∧ qG_stepRow M (nI k) = some (nI 1, M') ∧ RR M' r' k ∧ F23 M M' := by
  by_cases h1 : riseN r (k - 1) = 0
  · left
    refine ⟨if_pos h1, ?_⟩
    have fin : ∀ x : Int32, ¬ nI 0 ≤ x → qG_stepRow_L4 (nI k) (fun (M2 : zM) (x3 : Int32) => if nI 0 ≤ x3 then (znm (nI k - nI 1) fun x4 => qG_stepRow_L35 (nI k) x3 (fun (M5 : zM) (x6 : Int32) => zbnd (qG_exchange M5 x3 x6) fun _ M7 => znm (x3 + nI 1) fun x9 => znm (nI k - nI 1) fun x10 => qG_stepRow_L71 1000 M7 x9 x10) 1000 M2 x4) else (some (nI 0, M2))) 1000 M x = some (nI 0, M) → True := fun _ _ _ => trivial
    by_cases h0 : k = 0
    · subst h0
      unfold qG_stepRow
      simp only [zl0, zl1, zl2, zl3, zl4, zl5, zl6, zl7, zl8, zl9, zl10, zl11, zl12, zl13, zl14, zl16, zl18, zl19, zl20, zl22, zl24, zl30, zl32, zl33, zl36, zl38, zl40, zl41, zl48, zl50, zl51, zl57, zl59, zl60, zl61, zl62, zl70, zl71, zl99, zl100, zl103, zl104, zl105, zl106, zl107, zl108, zl109, zl110, zl111, zl112, zl113, zl114, zl115, zl116, zl124, zl127, zl255, zl999, zl1000, zl1001, zl1002, zl1003]
      rw [znm_e, show (1000 : Nat) = 999 + 1 from rfl]
      unfold qG_stepRow_L4
      simp only [zl0, zl1, zl2, zl3, zl4, zl5, zl6, zl7, zl8, zl9, zl10, zl11, zl12, zl13, zl14, zl16, zl18, zl19, zl20, zl22, zl24, zl30, zl32, zl33, zl36, zl38, zl40, zl41, zl48, zl50, zl51, zl57, zl59, zl60, zl61, zl62, zl70, zl71, zl99, zl100, zl103, zl104, zl105, zl106, zl107, zl108, zl109, zl110, zl111, zl112, zl113, zl114, zl115, zl116, zl124, zl127, zl255, zl999, zl1000, zl1001, zl1002, zl1003]
      rw [if_pos (by decide +kernel), if_neg (by decide +kernel)]
    · have ev : nI k - nI 2 = vI (k - 1) := by
        unfold vI
        by_cases q : k - 1 = 0
        · rw [if_pos q, show k = 1 by omega]; decide +kernel
        · rw [if_neg q, pk_sub (by omega), show k - 1 - 1 = k - 2 by omega]
      unfold qG_stepRow
      simp only [zl0, zl1, zl2, zl3, zl4, zl5, zl6, zl7, zl8, zl9, zl10, zl11, zl12, zl13, zl14, zl16, zl18, zl19, zl20, zl22, zl24, zl30, zl32, zl33, zl36, zl38, zl40, zl41, zl48, zl50, zl51, zl57, zl59, zl60, zl61, zl62, zl70, zl71, zl99, zl100, zl103, zl104, zl105, zl106, zl107, zl108, zl109, zl110, zl111, zl112, zl113, zl114, zl115, zl116, zl124, zl127, zl255, zl999, zl1000, zl1001, zl1002, zl1003]
      rw [znm_e, ev, rise_e (by omega) hM hr (k - 1) 1000 (by omega) (by omega), h1]
      rw [if_neg (show ¬ nI 0 ≤ vI 0 by decide +kernel)]
  · right
    have hu := riseN_le r (k - 1)
    generalize hU : riseN r (k - 1) = U at h1 hu
    have hs := swapN_le r (U - 1) (k - 1)
    generalize hS : swapN r (U - 1) (k - 1) = S at hs
    obtain ⟨M1, a1, a2, a3⟩ := exch_e (M := M) (r := r) (k := k) (i := U - 1) (j := S) (by omega) hM (by omega) (by omega)
    obtain ⟨M2, b1, b2, b3⟩ := rev_e (k := k) (by omega) 5 U (k - 1) 1000 M1 (exch r (U - 1) S) (by omega) (by omega) (by omega) a2 (by omega)
    refine ⟨_, M2, ?_, ?_, b2, F23_trans a3 b3⟩
    · unfold stepN
      rw [hU, hS, if_neg h1]
    · have ev : nI k - nI 2 = vI (k - 1) := by
        unfold vI
        rw [if_neg (by omega), pk_sub (by omega), show k - 1 - 1 = k - 2 by omega]
      have eU : vI U = nI (U - 1) := if_neg h1
      unfold qG_stepRow
      simp only [zl0, zl1, zl2, zl3, zl4, zl5, zl6, zl7, zl8, zl9, zl10, zl11, zl12, zl13, zl14, zl16, zl18, zl19, zl20, zl22, zl24, zl30, zl32, zl33, zl36, zl38, zl40, zl41, zl48, zl50, zl51, zl57, zl59, zl60, zl61, zl62, zl70, zl71, zl99, zl100, zl103, zl104, zl105, zl106, zl107, zl108, zl109, zl110, zl111, zl112, zl113, zl114, zl115, zl116, zl124, zl127, zl255, zl999, zl1000, zl1001, zl1002, zl1003]
      rw [znm_e, ev, rise_e (by omega) hM hr (k - 1) 1000 (by omega) (by omega), hU, eU, if_pos (nI_le (by omega) (by omega)), ze_sub (by omega), znm_e, swap_e (by omega) hM hr (by omega) (k - 1) 1000 (by omega) (by omega), hS, zbnd_c a1, znm_e, znm_e, ze_add, show U - 1 + 1 = U by omega]
      exact b1
def okRow (n t j : Nat) : Bool := (rowN n t j).isSome && (List.range (n - 1)).all (fun i => decide (rowF n t j i < n) && decide (rowF n t j i ≠ t)) && (match stepN (n - 1) (rowF n t j) with
  | none => decide (j + 1 = fac (n - 1))
  | some r' => decide (j + 1 < fac (n - 1)) && (List.range (n - 1)).all (fun i => decide (r' i = rowF n t (j + 1) i)))
theorem row_key : ∀ n, n < 6 → ∀ t, t < n → ∀ j, j < fac (n - 1) → okRow n t j = true := by decide +kernel
theorem row_0 : ∀ n, n < 6 → ∀ t, t < n → ∀ i, i < n - 1 → rowF n t 0 i = if i < t then i else i + 1 := by decide +kernel
