/-! PURE PART: the orders of guessers, as rows. -/
def bt (L g : Nat) : Bool := L / 2 ^ g % 2 == 1
def clr (L g : Nat) : Nat := if bt L g then L - 2 ^ g else L
theorem has_key : ∀ L, L < 64 → ∀ g, g < 6 → (((nI L >>> (nI g &&& 31)) &&& nI 1) = nI 1 ↔ bt L g = true) := by decide +kernel
theorem clr_key : ∀ L, L < 64 → ∀ g, g < 6 → nI L &&& ((nI 1 <<< (nI g &&& 31)) ^^^ (-nI 1)) = nI (clr L g) := by decide +kernel
theorem set_key : ∀ n, n < 6 → ∀ t, t < n → ((nI 1 <<< (nI n &&& 31)) - nI 1) &&& ((nI 1 <<< (nI t &&& 31)) ^^^ (-nI 1)) = nI (clr (2 ^ n - 1) t) := by decide +kernel
theorem clr_lt : ∀ L, L < 64 → ∀ g, g < 6 → clr L g < 64 := by decide +kernel
theorem has_e (M : zM) {L g : Nat} (hL : L < 64) (hg : g < 6) : qM_has M (nI L) (nI g) = some (if bt L g then nI 1 else nI 0, M) := by
  unfold qM_has
  simp only [zl0, zl1, zl2, zl3, zl4, zl5, zl6, zl7, zl8, zl9, zl10, zl11, zl12, zl13, zl14, zl16, zl18, zl19, zl20, zl22, zl24, zl30, zl32, zl33, zl36, zl38, zl40, zl41, zl48, zl50, zl51, zl57, zl59, zl60, zl61, zl62, zl70, zl71, zl99, zl100, zl103, zl104, zl105, zl106, zl107, zl108, zl109, zl110, zl111, zl112, zl113, zl114, zl115, zl116, zl124, zl127, zl255, zl999, zl1000, zl1001, zl1002, zl1003]
  by_cases h : bt L g = true
  · rw [if_pos ((has_key L hL g hg).mpr h), if_pos h]
  · rw [if_neg (fun q => h ((has_key L hL g hg).mp q)), if_neg h]
def pickN (L : Nat) : Nat → Nat → Nat → Option Nat
  | 0, _, _ => none
  | f + 1, p, g => if bt L g then (if p = 0 then some g else pickN L f (p - 1) (g + 1)) else pickN L f p (g + 1)
theorem pick_e {c2 c4 c6 c7 : Int32} {E : zM → Int32 → Option (Int32 × zM)} {M : zM} {L : Nat} (hL : L < 64) : ∀ (f p g F x : Nat), g + f ≤ 6 → f ≤ F → p < 1000 → pickN L f p g = some x → qM_layLine_L74 c2 c4 (nI L) c6 c7 E F M (nI p) (nI g) = E M (nI x)
  | f + 1, p, g, F + 1, x, hg, hF, hp, h => by
    unfold pickN at h
    unfold qM_layLine_L74
    simp only [zl0, zl1, zl2, zl3, zl4, zl5, zl6, zl7, zl8, zl9, zl10, zl11, zl12, zl13, zl14, zl16, zl18, zl19, zl20, zl22, zl24, zl30, zl32, zl33, zl36, zl38, zl40, zl41, zl48, zl50, zl51, zl57, zl59, zl60, zl61, zl62, zl70, zl71, zl99, zl100, zl103, zl104, zl105, zl106, zl107, zl108, zl109, zl110, zl111, zl112, zl113, zl114, zl115, zl116, zl124, zl127, zl255, zl999, zl1000, zl1001, zl1002, zl1003]
    rw [zbnd_c (has_e M hL (show g < 6 by omega)), zjn_e]
    by_cases hb : bt L g = true
    · rw [if_pos hb] at h
      simp only [if_pos hb]
      rw [if_neg (show ¬ nI 1 = nI 0 from znI_ne (by decide) (by decide) (by decide))]
      by_cases h0 : p = 0
      · rw [if_pos h0] at h
        rw [if_pos (nI_le (by omega) (by omega))]
        cases h
        rfl
      · rw [if_neg h0] at h
        have ih := pick_e (c2 := c2) (c4 := c4) (c6 := c6) (c7 := c7) (E := E) (M := M) hL f (p - 1) (g + 1) F x (by omega) (by omega) (by omega) h
        rw [if_neg (nI_ge (by omega) (by omega)), zbnd_c (has_e M hL (show g < 6 by omega))]
        simp only [if_pos hb]
        rw [zjn_e, if_neg (show ¬ nI 1 = nI 0 from znI_ne (by decide) (by decide) (by decide))]
        dsimp only
        rw [znm_e, ze_sub (by omega), ze_add]
        exact ih
    · rw [if_neg hb] at h
      have ih := pick_e (c2 := c2) (c4 := c4) (c6 := c6) (c7 := c7) (E := E) (M := M) hL f p (g + 1) F x (by omega) (by omega) (by omega) h
      simp only [if_neg hb]
      rw [if_pos trivial, zbnd_c (has_e M hL (show g < 6 by omega))]
      simp only [if_neg hb]
      rw [zjn_e, if_pos trivial]
      dsimp only
      rw [znm_e, ze_sub (by omega), ze_add, Nat.sub_zero]
      exact ih
/-- the row of a number: what is left to be laid -/
def lineN (k : Nat) : Nat → Nat → Nat → Nat → Nat → Option (List Nat)
  | 0, _, _, _, _ => some []
  | d + 1, kk, all, L, rest => if all / (k - kk) = 0 then none else match pickN L 6 (rest / (all / (k - kk))) 0 with
    | none => none
    | some x => (lineN k d (kk + 1) (all / (k - kk)) (clr L x) (rest % (all / (k - kk)))).map (x :: ·)
theorem pickN_lt {L : Nat} : ∀ {f p g x : Nat}, pickN L f p g = some x → x < g + f
  | f + 1, p, g, x, h => by
    unfold pickN at h
    by_cases hb : bt L g = true
    · rw [if_pos hb] at h
      by_cases h0 : p = 0
      · rw [if_pos h0] at h
        cases h
        omega
      · rw [if_neg h0] at h
        have := pickN_lt h
        omega
    · rw [if_neg hb] at h
      have := pickN_lt h
      omega
theorem lay_e {k : Nat} (hk : k ≤ 4) : ∀ (d kk all L rest F : Nat) (M : zM) (l : List Nat), kk + d = k → d < F → L < 64 → all < 1000 → rest < 1000 → lineN k d kk all L rest = some l →
    ∃ M', qM_layLine_L42 (nI k) F M (nI all) (nI L) (nI rest) (nI kk) = some (nI 1, M') ∧ M'.2 = M.2 ∧ (∀ a i j, ¬ (a = 62 ∧ i = 0 ∧ kk ≤ j ∧ j < k) → M'.1 a i j = M.1 a i j) ∧ ∀ i, i < d → M'.1 62 0 (kk + i) = nI (l.getD i 0)
  | 0, kk, all, L, rest, F + 1, M, l, hd, hF, hL, ha, hr, h => by
    refine ⟨M, ?_, rfl, fun _ _ _ _ => rfl, fun i hi => absurd hi (Nat.not_lt_zero _)⟩
    unfold qM_layLine_L42
    simp only [zl0, zl1, zl2, zl3, zl4, zl5, zl6, zl7, zl8, zl9, zl10, zl11, zl12, zl13, zl14, zl16, zl18, zl19, zl20, zl22, zl24, zl30, zl32, zl33, zl36, zl38, zl40, zl41, zl48, zl50, zl51, zl57, zl59, zl60, zl61, zl62, zl70, zl71, zl99, zl100, zl103, zl104, zl105, zl106, zl107, zl108, zl109, zl110, zl111, zl112, zl113, zl114, zl115, zl116, zl124, zl127, zl255, zl999, zl1000, zl1001, zl1002, zl1003]
    rw [if_pos (nI_le (by omega) (by omega))]
  | d + 1, kk, all, L, rest, F + 1, M, l, hd, hF, hL, ha, hr, h => by
    unfold lineN at h
    by_cases h0 : all / (k - kk) = 0
    · rw [if_pos h0] at h; cases h
    rw [if_neg h0] at h
    have hq : all / (k - kk) ≤ all := Nat.div_le_self _ _
    have hpos : 0 < all / (k - kk) := Nat.pos_of_ne_zero h0
    have hA : all / (k - kk) < 2 ^ 31 := Nat.lt_of_le_of_lt hq (Nat.lt_trans ha (by decide))
    have hq2 : rest / (all / (k - kk)) ≤ rest := Nat.div_le_self _ _
    have hm : rest % (all / (k - kk)) ≤ rest := Nat.mod_le _ _
    cases hp : pickN L 6 (rest / (all / (k - kk))) 0 with
    | none => rw [hp] at h; cases h
    | some x =>
      rw [hp] at h
      dsimp only at h
      have hx := pickN_lt hp
      cases hl : lineN k d (kk + 1) (all / (k - kk)) (clr L x) (rest % (all / (k - kk))) with
      | none => rw [hl] at h; cases h
      | some l' =>
        rw [hl] at h
        have el : l = x :: l' := by
          injection h with h
          exact h.symm
        obtain ⟨M', k1, k2, k3, k4⟩ := lay_e hk d (kk + 1) (all / (k - kk)) (clr L x) (rest % (all / (k - kk))) F (zset M 62 0 kk (nI x)) l' (by omega) (by omega) (clr_lt L hL x (by omega)) (by omega) (by omega) hl
        refine ⟨M', ?_, k2, fun a i j q => by rw [k3 a i j (by omega), zg_n (by omega)], fun i hi => ?_⟩
        · unfold qM_layLine_L42
          simp only [zl0, zl1, zl2, zl3, zl4, zl5, zl6, zl7, zl8, zl9, zl10, zl11, zl12, zl13, zl14, zl16, zl18, zl19, zl20, zl22, zl24, zl30, zl32, zl33, zl36, zl38, zl40, zl41, zl48, zl50, zl51, zl57, zl59, zl60, zl61, zl62, zl70, zl71, zl99, zl100, zl103, zl104, zl105, zl106, zl107, zl108, zl109, zl110, zl111, zl112, zl113, zl114, zl115, zl116, zl124, zl127, zl255, zl999, zl1000, zl1001, zl1002, zl1003]
          rw [if_neg (nI_ge (by omega) (by omega)), ze_sub (by omega), zchk_e (ze_nz (by omega) (by omega)), znm_e, ze_div (by omega) (by omega) (by omega), zchk_e (ze_nz hpos hA), znm_e, ze_div (by omega) hpos hA, zchk_e (ze_nz hpos hA), znm_e, ze_rem (by omega) hpos hA, pick_e hL 6 _ 0 1000 x (by omega) (by omega) (by omega) hp, zchk_e (ze_in (by omega) (by omega)), znm_e, znm_e, ze_cl (show kk < 2 ^ 31 by omega), clr_key L hL x (by omega), ze_add]
          exact k1
        · rw [el]
          cases i with
          | zero =>
            rw [Nat.add_zero, k3 _ _ _ (by omega), zg_e (by omega)]
            rfl
          | succ i =>
            rw [show kk + (i + 1) = kk + 1 + i by omega, k4 i (by omega)]
            rfl
def fac (k : Nat) : Nat := if k = 0 then 1 else if k = 1 then 1 else if k = 2 then 2 else if k = 3 then 6 else 24
theorem all_e (x1 x3 : Int32) (E : zM → Int32 → Option (Int32 × zM)) (M : zM) : ∀ k, k ≤ 4 → qM_layLine_L6 x1 (nI k) x3 E 1000 M (nI 1) (nI 2) = E M (nI (fac k)) := by
  intro k hk
  have st : ∀ F a v, v ≤ k → qM_layLine_L6 x1 (nI k) x3 E (F + 1) M (nI a) (nI v) = qM_layLine_L6 x1 (nI k) x3 E F M (nI (a * v)) (nI (v + 1)) := by
    intro F a v hv
    generalize hR : qM_layLine_L6 x1 (nI k) x3 E F M (nI (a * v)) (nI (v + 1)) = R
    unfold qM_layLine_L6
    simp only [zl0, zl1, zl2, zl3, zl4, zl5, zl6, zl7, zl8, zl9, zl10, zl11, zl12, zl13, zl14, zl16, zl18, zl19, zl20, zl22, zl24, zl30, zl32, zl33, zl36, zl38, zl40, zl41, zl48, zl50, zl51, zl57, zl59, zl60, zl61, zl62, zl70, zl71, zl99, zl100, zl103, zl104, zl105, zl106, zl107, zl108, zl109, zl110, zl111, zl112, zl113, zl114, zl115, zl116, zl124, zl127, zl255, zl999, zl1000, zl1001, zl1002, zl1003]
    rw [if_neg (nI_nlt (by omega) (by omega)), znm_e, ze_mul, ze_add]
    exact hR
  have fin : ∀ F a v, k < v → v < 100 → qM_layLine_L6 x1 (nI k) x3 E (F + 1) M (nI a) (nI v) = E M (nI a) := by
    intro F a v hv hb
    unfold qM_layLine_L6
    rw [if_pos (nI_lt (by omega) (by omega))]
  rcases (show k = 0 ∨ k = 1 ∨ k = 2 ∨ k = 3 ∨ k = 4 by omega) with rfl | rfl | rfl | rfl | rfl
  · rw [show (1000 : Nat) = 999 + 1 from rfl, fin _ _ _ (by decide) (by decide)]; rfl
  · rw [show (1000 : Nat) = 999 + 1 from rfl, fin _ _ _ (by decide) (by decide)]; rfl
  · rw [show (1000 : Nat) = 998 + 1 + 1 from rfl, st _ _ _ (by decide), fin _ _ _ (by decide) (by decide)]; rfl
  · rw [show (1000 : Nat) = 997 + 1 + 1 + 1 from rfl, st _ _ _ (by decide), st _ _ _ (by decide), fin _ _ _ (by decide) (by decide)]; rfl
  · rw [show (1000 : Nat) = 996 + 1 + 1 + 1 + 1 from rfl, st _ _ _ (by decide), st _ _ _ (by decide), st _ _ _ (by decide), fin _ _ _ (by decide) (by decide)]; rfl
def rowN (n t j : Nat) : Option (List Nat) := lineN (n - 1) (n - 1) 0 (fac (n - 1)) (clr (2 ^ n - 1) t) j
def rowF (n t j i : Nat) : Nat := ((rowN n t j).getD []).getD i 0
/-- the reference's row of a number -/
theorem layLine_e {n t j : Nat} (M : zM) (hn : n ≤ 5) (ht : t < n) (hj : j ≤ 24) (hrow : j < fac (n - 1) → (rowN n t j).isSome = true) : ∃ M', qM_layLine M (nI (clr (2 ^ n - 1) t)) (nI (n - 1)) (nI j) = some (if j < fac (n - 1) then nI 1 else nI 0, M') ∧ M'.2 = M.2 ∧ (∀ a i j, a ≠ 62 → M'.1 a i j = M.1 a i j) ∧ (j < fac (n - 1) → ∀ i, i < n - 1 → M'.1 62 0 i = nI (rowF n t j i)) := by
  have hf : fac (n - 1) < 100 := by
    unfold fac
    repeat' split
    all_goals decide
  have hL : clr (2 ^ n - 1) t < 64 := by
    have : ∀ n, n < 6 → ∀ t, t < n → clr (2 ^ n - 1) t < 64 := by decide +kernel
    exact this n (by omega) t ht
  by_cases h : j < fac (n - 1)
  · obtain ⟨l, hl⟩ := Option.isSome_iff_exists.mp (hrow h)
    obtain ⟨M', k1, k2, k3, k4⟩ := lay_e (k := n - 1) (by omega) (n - 1) 0 (fac (n - 1)) (clr (2 ^ n - 1) t) j 1000 M l (by omega) (by omega) hL (by omega) (by omega) hl
    refine ⟨M', ?_, k2, fun a i j q => k3 a i j (by omega), fun _ i hi => ?_⟩
    · unfold qM_layLine
      simp only [zl0, zl1, zl2, zl3, zl4, zl5, zl6, zl7, zl8, zl9, zl10, zl11, zl12, zl13, zl14, zl16, zl18, zl19, zl20, zl22, zl24, zl30, zl32, zl33, zl36, zl38, zl40, zl41, zl48, zl50, zl51, zl57, zl59, zl60, zl61, zl62, zl70, zl71, zl99, zl100, zl103, zl104, zl105, zl106, zl107, zl108, zl109, zl110, zl111, zl112, zl113, zl114, zl115, zl116, zl124, zl127, zl255, zl999, zl1000, zl1001, zl1002, zl1003]
      rw [all_e _ _ _ _ (n - 1) (by omega), if_pos (nI_lt (by omega) (by omega)), if_pos h]
      exact k1
    · have := k4 i hi
      rw [Nat.zero_add] at this
      rw [this]
      unfold rowF
      rw [hl]
      rfl
  · refine ⟨M, ?_, rfl, fun _ _ _ _ => rfl, fun q => absurd q h⟩
    unfold qM_layLine
    simp only [zl0, zl1, zl2, zl3, zl4, zl5, zl6, zl7, zl8, zl9, zl10, zl11, zl12, zl13, zl14, zl16, zl18, zl19, zl20, zl22, zl24, zl30, zl32, zl33, zl36, zl38, zl40, zl41, zl48, zl50, zl51, zl57, zl59, zl60, zl61, zl62, zl70, zl71, zl99, zl100, zl103, zl104, zl105, zl106, zl107, zl108, zl109, zl110, zl111, zl112, zl113, zl114, zl115, zl116, zl124, zl127, zl255, zl999, zl1000, zl1001, zl1002, zl1003]
    rw [all_e _ _ _ _ (n - 1) (by omega), if_neg (nI_nlt (by omega) (by omega)), if_neg h]
