/-! PURE PART: the relation between the class's memory and the reference's. -/
/-- the person in the cell i of the class is the p-th of the reference's arrays from B on -/
def PPn (c m : zM) (B i p : Nat) : Prop :=
  c.1 2 i 1 = m.1 B 0 p ∧ c.1 2 i 2 = m.1 (B + 1) 0 p ∧ c.1 2 i 3 = m.1 (B + 2) 0 p ∧ c.1 2 i 4 = m.1 (B + 3) 0 p ∧
  (∀ t, t < 3 → c.1 3 i t = m.1 (B + 4) 0 (3 * p + t)) ∧ (∀ t, t < 3 → c.1 4 i t = m.1 (B + 5) 0 (3 * p + t)) ∧ (∀ t, t < 3 → c.1 5 i t = m.1 (B + 6) 0 (3 * p + t)) ∧ ∀ t, t < 4 → c.1 6 i t = m.1 (B + 7) 0 (4 * p + t)
/-- its numbers are as told -/
def WFp (m : zM) (B p : Nat) : Prop :=
  (∃ k, k < 7 ∧ m.1 B 0 p = nI k) ∧ (∃ v, v < 10 ∧ m.1 (B + 1) 0 p = nI v) ∧ (∃ l, l < 3 ∧ m.1 (B + 3) 0 p = nI l) ∧
  (∀ t, t < 3 → ∃ s, s < 100 ∧ m.1 (B + 4) 0 (3 * p + t) = nI s) ∧ (∀ t, t < 3 → ∃ s, s < 10 ∧ m.1 (B + 5) 0 (3 * p + t) = nI s) ∧
  (∃ a b d, a < 3 ∧ b < 3 ∧ d < 3 ∧ a ≠ b ∧ a ≠ d ∧ b ≠ d ∧ m.1 (B + 6) 0 (3 * p) = nI a ∧ m.1 (B + 6) 0 (3 * p + 1) = nI b ∧ m.1 (B + 6) 0 (3 * p + 2) = nI d) ∧
  ∀ t, t < 4 → ∃ r, r < 3 ∧ m.1 (B + 7) 0 (4 * p + t) = nI r
def Rppl (c m : zM) (B q n : Nat) : Prop := ∀ p, p < n → PPn c m B (6 * q + p) p ∧ WFp m B p
def Rbk (c m : zM) (q n bk bT bW bP : Nat) : Prop := ∀ j, j < bk → ∃ t w r, t < n ∧ w < n ∧ r < 3 ∧ t ≠ w ∧ c.1 9 q (3 * j) = nI t ∧ c.1 9 q (3 * j + 1) = nI w ∧ c.1 9 q (3 * j + 2) = nI r ∧ m.1 bT 0 j = nI t ∧ m.1 bW 0 j = nI w ∧ m.1 bP 0 j = nI r
def Rsn (c m : zM) (q k : Nat) : Prop := ∀ p, p < 3 → c.1 8 q p = m.1 k 0 p
/-- a TOKEN: what (0 <, 1 =, 2 >, 3 not, 4 and, 5 or), letter, number -/
abbrev Tk : Type := Nat × Nat × Nat
def tkS (t : Tk) : Int32 := if t.1 = 3 then -nI 33 else if t.1 = 4 then -nI 38 else if t.1 = 5 then -nI 124 else nI (1000 * t.2.1 + 100 * t.1 + t.2.2)
def tkW (t : Tk) : Int32 := nI (t.1 * 65536 + t.2.1 * 256 + t.2.2)
/-- a CLAUSE: 0 odd, 1 sure, 2 hands; number; tokens -/
abbrev Cl : Type := Nat × Nat × List Tk
def clW (q : Cl) : List Int32 := if q.1 = 2 then [] else q.2.2.map tkW ++ [nI ((6 + q.1) * 65536 + q.2.1)]
def evW (cs : List Cl) : List Int32 := cs.flatMap clW
def evH (cs : List Cl) : Nat := cs.foldl (fun n q => if q.1 = 2 then q.2.1 else n) 10
/-- how many truths lie, behind a token; none: too few, or more than 30 -/
def tkD (d : Nat) (t : Tk) : Option Nat := if t.1 < 3 then (if t.2.1 < 6 ∧ t.2.2 < 100 ∧ d < 30 then some (d + 1) else none) else if t.1 = 3 then (if 1 ≤ d ∧ t.2 = (0, 0) then some d else none) else if t.1 < 6 then (if 2 ≤ d ∧ t.2 = (0, 0) then some (d - 1) else none) else none
def tkDs : Nat → List Tk → Option Nat
  | d, [] => some d
  | d, t :: l => (tkD d t).bind fun e => tkDs e l
def clOk (q : Cl) : Prop := q.1 < 3 ∧ q.2.1 < 100 ∧ (q.1 ≠ 2 → tkDs 0 q.2.2 = some 1)
/-- the clause j of the evening e in the reference -/
def EVm (m : zM) (e j : Nat) (q : Cl) : Prop := m.1 51 0 (10 * e + j) = nI q.1 ∧ m.1 52 0 (10 * e + j) = nI q.2.1 ∧
    (q.1 ≠ 2 → ∃ a, 100 * e ≤ a ∧ a + q.2.2.length ≤ 100 * e + 100 ∧ m.1 53 0 (10 * e + j) = nI a ∧ m.1 54 0 (10 * e + j) = nI (a + q.2.2.length) ∧ ∀ i t, q.2.2[i]? = some t → m.1 55 0 (a + i) = tkS t)
def EV (c m : zM) (e : Nat) : Prop := ∃ cs : List Cl, 1 ≤ cs.length ∧ cs.length ≤ 10 ∧ (∀ q ∈ cs, clOk q) ∧ (evW cs).length ≤ 100 ∧
  c.1 13 e 1 = nI (evW cs).length ∧ c.1 13 e 3 = nI (evH cs) ∧ (∀ j, j < (evW cs).length → c.1 14 e j = (evW cs).getD j 0) ∧
  m.1 50 0 e = nI cs.length ∧ ∀ j q, cs[j]? = some q → EVm m e j q
def Rev (c m : zM) (ec : Nat) : Prop := (∀ e, e < ec → EV c m e) ∧ c.1 13 6 1 = nI 0 ∧ c.1 13 6 3 = nI 10
def Rtx (c m : zM) (tl : Nat) : Prop := ∀ j, j < tl → ∃ h, h < 128 ∧ c.1 11 0 j = nI h ∧ m.1 49 0 j = nI h
def Rac (c m : zM) : Prop := ∃ k, k < 1000 ∧ c.1 25 0 1 = nI k ∧ m.1 40 0 59 = nI k ∧ ∀ j, j < k → j < 20 → c.1 26 0 j = m.1 81 0 j
def Rtp (c m : zM) : Prop := ∀ t, t < 6 → ∃ n, n ≤ 60 ∧ c.1 29 0 t = nI n ∧ m.1 83 0 t = nI n ∧ (∀ j, j < n → c.2 30 0 (60 * t + j) = m.2 84 0 (60 * t + j)) ∧ ((c.1 28 0 t = -nI 1 ∧ m.1 82 0 t = -nI 1 ∧ n = 0) ∨ ∃ k, k < 5 ∧ c.1 28 0 t = nI k ∧ m.1 82 0 t = nI k)
def zletters : List Nat := [111, 100, 100, 115, 117, 114, 101, 104, 97, 110, 100, 115]
def Rlt (m : zM) : Prop := ∀ j, j < 12 → m.1 57 0 j = nI (zletters.getD j 0)
def Rnum (c : zM) : Prop := ∀ i, i < 18 → c.1 2 i 0 = nI (i % 6)
def evOk (ev : Int32) (ec : Nat) : Prop := ev = -nI 1 ∨ ∃ e, e < ec ∧ ev = nI e
def Rim (c m : zM) (ec : Nat) : Prop := (c.1 0 0 3 = nI 0 ∧ m.1 40 0 42 = nI 0) ∨ (c.1 0 0 3 = nI 1 ∧ m.1 40 0 42 = nI 1 ∧ ∃ (n rd bk : Nat) (ev : Int32), n ≤ 6 ∧ rd ≤ 999 ∧ bk ≤ 12 ∧ evOk ev ec ∧
  c.1 1 1 1 = nI n ∧ c.1 1 1 2 = nI rd ∧ c.1 1 1 3 = ev ∧ c.1 1 1 6 = nI bk ∧ m.1 40 0 44 = nI n ∧ m.1 40 0 45 = nI rd ∧ m.1 40 0 43 = ev ∧ m.1 40 0 46 = nI bk ∧
  Rppl c m 69 1 n ∧ Rbk c m 1 n bk 78 79 80 ∧ Rsn c m 1 77)
/-- the numbers' bounds; the class's; the reference's -/
def Rb1 (n rd bk ec tl : Nat) (ev : Int32) : Prop := n ≤ 6 ∧ rd ≤ 999 ∧ bk ≤ 12 ∧ ec ≤ 6 ∧ tl ≤ 100 ∧ evOk ev ec
def Rb2 (c : zM) (n rd bk ec tl : Nat) (ev : Int32) : Prop := c.1 1 0 1 = nI n ∧ c.1 1 0 2 = nI rd ∧ c.1 1 0 3 = ev ∧ c.1 1 0 6 = nI bk ∧ c.1 0 0 7 = nI ec ∧ c.1 10 0 1 = nI tl
def Rb3 (m : zM) (n rd bk ec tl : Nat) (ev : Int32) : Prop := m.1 40 0 0 = nI n ∧ m.1 40 0 1 = nI rd ∧ m.1 40 0 11 = ev ∧ m.1 40 0 38 = nI bk ∧ m.1 40 0 10 = nI ec ∧ m.1 40 0 12 = nI tl ∧ m.1 40 0 30 = -nI 1
def RB (c m : zM) (n rd bk ec tl : Nat) (ev : Int32) : Prop :=
  Rb1 n rd bk ec tl ev ∧ Rb2 c n rd bk ec tl ev ∧ Rb3 m n rd bk ec tl ev ∧
  Rnum c ∧ Rppl c m 41 0 n ∧ Rbk c m 0 n bk 66 67 68 ∧ Rsn c m 0 64 ∧ Rtx c m tl ∧ Rev c m ec ∧ Rim c m ec ∧ Rac c m ∧ Rtp c m ∧ Rlt m
def Rl (c m : zM) : Prop := ∃ (n rd bk ec tl : Nat) (ev : Int32), RB c m n rd bk ec tl ev
/-! the calls' first looks -/
theorem qM_in_ok (M : zM) {j h : Nat} (hj : j ≤ h) (hb : h < 2 ^ 31) : qM_in M (nI j) (nI 0) (nI h) = some (nI 1, M) := by
  unfold qM_in
  simp (disch := omega) only [↓reduceIte, zbnd_s, zchk_t, znm_e, zjn_e, if_true, if_false, ite_true, ite_false, Nat.zero_add, Nat.add_zero, Nat.mul_zero, Nat.zero_mul, Nat.mul_one, Nat.one_mul, zl0, zl1, zl2, zl3, zl4, zl5, zl6, zl7, zl8, zl9, zl10, zl11, zl12, zl13, zl14, zl16, zl18, zl19, zl20, zl22, zl24, zl30, zl32, zl33, zl36, zl38, zl40, zl41, zl48, zl50, zl51, zl57, zl59, zl60, zl61, zl62, zl70, zl71, zl99, zl100, zl103, zl104, zl105, zl106, zl107, zl108, zl109, zl110, zl111, zl112, zl113, zl114, zl115, zl116, zl124, zl127, zl255, zl999, zl1000, zl1001, zl1002, zl1003, ze_in, ze_ltt, ze_ltf, ze_let, ze_lef, ze_eqt, ze_eqf, ze_cl, ze_add, ze_mul, ze_sub, ze_div, ze_rem, ze_nz, ze_ngt, ze_nle, ze_neq, ze_neq', ze_nlt, ze_nle', zg_e, zg_n, zg_2, zgL_e, zgL_n, zgL_1]
theorem qM_in_no (M : zM) {a : Int32} {h k : Nat} (hh : k = h + 1) (hb : h + 1 < 2 ^ 31) (hn : zno a k) : qM_in M a (nI 0) (nI h) = some (nI 0, M) := by
  subst hh
  unfold qM_in
  rw [← nI_0] at *
  rcases hn with g | g
  · rw [if_pos (by rw [nI_0]; exact g)]
  · by_cases g0 : a < nI 0
    · rw [if_pos g0]
    · rw [if_neg g0, if_pos]
      rw [Int32.lt_iff_toInt_lt, nI_toInt (by omega)]
      have := Int32.le_iff_toInt_le.mp g
      rw [nI_toInt (by omega)] at this
      omega
theorem qM_isPerson_ok {m : zM} {n p : Nat} (hn : m.1 40 0 0 = nI n) (hp : p < n) (hb : n < 2 ^ 31) : qM_isPerson m (nI p) = some (nI 1, m) := by
  unfold qM_isPerson
  rw [hn]
  simp (disch := omega) only [↓reduceIte, zbnd_s, zchk_t, znm_e, zjn_e, if_true, if_false, ite_true, ite_false, Nat.zero_add, Nat.add_zero, Nat.mul_zero, Nat.zero_mul, Nat.mul_one, Nat.one_mul, zl0, zl1, zl2, zl3, zl4, zl5, zl6, zl7, zl8, zl9, zl10, zl11, zl12, zl13, zl14, zl16, zl18, zl19, zl20, zl22, zl24, zl30, zl32, zl33, zl36, zl38, zl40, zl41, zl48, zl50, zl51, zl57, zl59, zl60, zl61, zl62, zl70, zl71, zl99, zl100, zl103, zl104, zl105, zl106, zl107, zl108, zl109, zl110, zl111, zl112, zl113, zl114, zl115, zl116, zl124, zl127, zl255, zl999, zl1000, zl1001, zl1002, zl1003, ze_in, ze_ltt, ze_ltf, ze_let, ze_lef, ze_eqt, ze_eqf, ze_cl, ze_add, ze_mul, ze_sub, ze_div, ze_rem, ze_nz, ze_ngt, ze_nle, ze_neq, ze_neq', ze_nlt, ze_nle', zg_e, zg_n, zg_2, zgL_e, zgL_n, zgL_1, qM_in_ok]
theorem qM_isPerson_no {m : zM} {n : Nat} {a : Int32} (hn : m.1 40 0 0 = nI n) (hb : n < 2 ^ 31) (hp : zno a n) : qM_isPerson m a = some (nI 0, m) := by
  unfold qM_isPerson
  rw [hn]
  cases n with
  | zero =>
    unfold qM_in
    by_cases g0 : a < 0
    · rw [if_pos g0]; rfl
    · rw [if_neg g0, if_pos]
      · rfl
      · rw [Int32.lt_iff_toInt_lt]
        have h1 : (nI 0 - 1).toInt = -1 := by decide
        have h2 := Int32.not_lt.mp g0
        have h3 := Int32.le_iff_toInt_le.mp h2
        have h4 : (0 : Int32).toInt = 0 := by decide
        omega
  | succ k =>
    rw [nI_pred, zl0, qM_in_no m (h := k) rfl hb hp]
    rfl
theorem qP_has_ok {c : zM} {q n p : Nat} (hn : c.1 1 q 1 = nI n) (hp : p < n) (hb : n < 2 ^ 31) : qP_has c q (nI p) = some (nI 1, c) := by
  unfold qP_has
  rw [hn]
  simp (disch := omega) only [↓reduceIte, zbnd_s, zchk_t, znm_e, zjn_e, if_true, if_false, ite_true, ite_false, Nat.zero_add, Nat.add_zero, Nat.mul_zero, Nat.zero_mul, Nat.mul_one, Nat.one_mul, zl0, zl1, zl2, zl3, zl4, zl5, zl6, zl7, zl8, zl9, zl10, zl11, zl12, zl13, zl14, zl16, zl18, zl19, zl20, zl22, zl24, zl30, zl32, zl33, zl36, zl38, zl40, zl41, zl48, zl50, zl51, zl57, zl59, zl60, zl61, zl62, zl70, zl71, zl99, zl100, zl103, zl104, zl105, zl106, zl107, zl108, zl109, zl110, zl111, zl112, zl113, zl114, zl115, zl116, zl124, zl127, zl255, zl999, zl1000, zl1001, zl1002, zl1003, ze_in, ze_ltt, ze_ltf, ze_let, ze_lef, ze_eqt, ze_eqf, ze_cl, ze_add, ze_mul, ze_sub, ze_div, ze_rem, ze_nz, ze_ngt, ze_nle, ze_neq, ze_neq', ze_nlt, ze_nle', zg_e, zg_n, zg_2, zgL_e, zgL_n, zgL_1]
theorem qP_has_no {c : zM} {q n : Nat} {a : Int32} (hn : c.1 1 q 1 = nI n) (hp : zno a n) : qP_has c q a = some (nI 0, c) := by
  unfold qP_has
  by_cases h : a < 0
  · rw [if_pos h]; rfl
  · rcases hp with g | g
    · exact absurd g h
    · rw [if_neg h, hn, if_pos g]; rfl
theorem qG_three_ok (c : zM) {p : Nat} (hp : p < 3) : qG_isOfThree c (nI p) = some (nI 1, c) := by
  unfold qG_isOfThree
  simp (disch := omega) only [↓reduceIte, zbnd_s, zchk_t, znm_e, zjn_e, if_true, if_false, ite_true, ite_false, Nat.zero_add, Nat.add_zero, Nat.mul_zero, Nat.zero_mul, Nat.mul_one, Nat.one_mul, zl0, zl1, zl2, zl3, zl4, zl5, zl6, zl7, zl8, zl9, zl10, zl11, zl12, zl13, zl14, zl16, zl18, zl19, zl20, zl22, zl24, zl30, zl32, zl33, zl36, zl38, zl40, zl41, zl48, zl50, zl51, zl57, zl59, zl60, zl61, zl62, zl70, zl71, zl99, zl100, zl103, zl104, zl105, zl106, zl107, zl108, zl109, zl110, zl111, zl112, zl113, zl114, zl115, zl116, zl124, zl127, zl255, zl999, zl1000, zl1001, zl1002, zl1003, ze_in, ze_ltt, ze_ltf, ze_let, ze_lef, ze_eqt, ze_eqf, ze_cl, ze_add, ze_mul, ze_sub, ze_div, ze_rem, ze_nz, ze_ngt, ze_nle, ze_neq, ze_neq', ze_nlt, ze_nle', zg_e, zg_n, zg_2, zgL_e, zgL_n, zgL_1]
theorem qG_three_no (c : zM) {a : Int32} (hp : zno a 3) : qG_isOfThree c a = some (nI 0, c) := by
  unfold qG_isOfThree
  by_cases h : a < 0
  · rw [if_pos h]; rfl
  · rcases hp with g | g
    · exact absurd g h
    · rw [if_neg h, zl3, if_pos g]; rfl
/-- the class's own looks at a range, inline -/
theorem zno_if {α : Type} {a : Int32} {n : Nat} (hn : zno a n) (x y : α) : (if a < nI 0 then x else if nI n ≤ a then x else y) = x := by
  rcases hn with g | g
  · rw [if_pos (by rw [nI_0]; exact g)]
  · by_cases h : a < nI 0
    · rw [if_pos h]
    · rw [if_neg h, if_pos g]
theorem zno_le {a : Int32} {n k : Nat} (hn : zno a n) (h0 : ¬ a < nI 0) (hk : k < n) (hb : n < 2 ^ 31) : (a ≤ nI k) = False := by
  refine eq_false fun q => ?_
  rcases hn with g | g
  · exact h0 (by rw [nI_0]; exact g)
  · have h1 := Int32.le_iff_toInt_le.mp g
    have h2 := Int32.le_iff_toInt_le.mp q
    rw [nI_toInt (by omega)] at h1 h2
    omega
theorem zno_lt' {a : Int32} {n : Nat} (hn : zno a n) (h0 : ¬ a < nI 0) (hb : n < 2 ^ 31) : (a < nI n) = False := by
  refine eq_false fun q => ?_
  rcases hn with g | g
  · exact h0 (by rw [nI_0]; exact g)
  · have h1 := Int32.le_iff_toInt_le.mp g
    have h2 := Int32.lt_iff_toInt_lt.mp q
    rw [nI_toInt (by omega)] at h1 h2
    omega
theorem zno_cases {a : Int32} {n : Nat} (hn : zno a n) : (a < nI 0) = True ∨ ((a < nI 0) = False ∧ (nI n ≤ a) = True) := by
  rcases hn with g | g
  · exact Or.inl (eq_true (by rw [nI_0]; exact g))
  · by_cases h : a < nI 0
    · exact Or.inl (eq_true h)
    · exact Or.inr ⟨eq_false h, eq_true g⟩
theorem zno_i2 {a : Int32} {n : Nat} (hn : zno a n) (hb : n < 2 ^ 31) {α : Type} (x y : α) : (if a < nI 0 then x else if a < nI n then y else x) = x := by
  rcases zno_cases hn with g | ⟨g, _⟩
  · rw [if_pos (of_eq_true g)]
  · rw [if_neg (of_eq_false g), if_neg (of_eq_false (zno_lt' hn (of_eq_false g) hb))]
theorem zno_i3 {a : Int32} {n k : Nat} (hn : zno a n) (hk : n = k + 1) (hb : n < 2 ^ 31) {α : Type} (x y : α) : (if a < nI 0 then x else if a ≤ nI k then y else x) = x := by
  rcases zno_cases hn with g | ⟨g, _⟩
  · rw [if_pos (of_eq_true g)]
  · rw [if_neg (of_eq_false g), if_neg (of_eq_false (zno_le hn (of_eq_false g) (by omega) hb))]
/-! what keeps the parts of the relation -/
theorem Rppl_cg {c m c' m' : zM} {B B' q q' n : Nat}
    (hc : ∀ k p j, p < n → (k = 2 ∧ 1 ≤ j ∧ j ≤ 4) ∨ (3 ≤ k ∧ k ≤ 5 ∧ j < 3) ∨ (k = 6 ∧ j < 4) → c'.1 k (6 * q' + p) j = c.1 k (6 * q + p) j)
    (hm : ∀ t j, (t < 4 ∧ j < n) ∨ (4 ≤ t ∧ t ≤ 6 ∧ j < 3 * n) ∨ (t = 7 ∧ j < 4 * n) → m'.1 (B' + t) 0 j = m.1 (B + t) 0 j) (h : Rppl c m B q n) : Rppl c' m' B' q' n := by
  intro p hp
  obtain ⟨⟨a1, a2, a3, a4, a5, a6, a7, a8⟩, b1, b2, b3, b4, b5, b6, b7⟩ := h p hp
  have e0 : m'.1 B' 0 p = m.1 B 0 p := hm 0 p (by omega)
  have e1 := hm 1 p (by omega)
  have e2 := hm 2 p (by omega)
  have e3 := hm 3 p (by omega)
  have e4 : ∀ t, t < 3 → m'.1 (B' + 4) 0 (3 * p + t) = m.1 (B + 4) 0 (3 * p + t) := fun t ht => hm 4 _ (by omega)
  have e5 : ∀ t, t < 3 → m'.1 (B' + 5) 0 (3 * p + t) = m.1 (B + 5) 0 (3 * p + t) := fun t ht => hm 5 _ (by omega)
  have e6 : ∀ t, t < 3 → m'.1 (B' + 6) 0 (3 * p + t) = m.1 (B + 6) 0 (3 * p + t) := fun t ht => hm 6 _ (by omega)
  have e7 : ∀ t, t < 4 → m'.1 (B' + 7) 0 (4 * p + t) = m.1 (B + 7) 0 (4 * p + t) := fun t ht => hm 7 _ (by omega)
  refine ⟨⟨?_, ?_, ?_, ?_, ?_, ?_, ?_, ?_⟩, ?_, ?_, ?_, ?_, ?_, ?_, ?_⟩
  · rw [hc 2 p 1 hp (by omega), a1, e0]
  · rw [hc 2 p 2 hp (by omega), a2, e1]
  · rw [hc 2 p 3 hp (by omega), a3, e2]
  · rw [hc 2 p 4 hp (by omega), a4, e3]
  · intro t ht; rw [hc 3 p t hp (by omega), a5 t ht, e4 t ht]
  · intro t ht; rw [hc 4 p t hp (by omega), a6 t ht, e5 t ht]
  · intro t ht; rw [hc 5 p t hp (by omega), a7 t ht, e6 t ht]
  · intro t ht; rw [hc 6 p t hp (by omega), a8 t ht, e7 t ht]
  · rw [e0]; exact b1
  · rw [e1]; exact b2
  · rw [e3]; exact b3
  · intro t ht; rw [e4 t ht]; exact b4 t ht
  · intro t ht; rw [e5 t ht]; exact b5 t ht
  · have f0 : m'.1 (B' + 6) 0 (3 * p) = m.1 (B + 6) 0 (3 * p) := e6 0 (by omega)
    have f1 := e6 1 (by omega)
    have f2 := e6 2 (by omega)
    rw [f0, f1, f2]; exact b6
  · intro t ht; rw [e7 t ht]; exact b7 t ht
theorem Rbk_cg {c m c' m' : zM} {q q' n n' bk T W P T' W' P' : Nat} (hn : n ≤ n') (hc : ∀ j, j < 3 * bk → c'.1 9 q' j = c.1 9 q j)
    (hm : ∀ j, j < bk → m'.1 T' 0 j = m.1 T 0 j ∧ m'.1 W' 0 j = m.1 W 0 j ∧ m'.1 P' 0 j = m.1 P 0 j) (h : Rbk c m q n bk T W P) : Rbk c' m' q' n' bk T' W' P' := by
  intro j hj
  obtain ⟨t, w, r, h1, h2, h3, h4, h5, h6, h7, h8, h9, h10⟩ := h j hj
  obtain ⟨g1, g2, g3⟩ := hm j hj
  refine ⟨t, w, r, by omega, by omega, h3, h4, ?_, ?_, ?_, ?_, ?_, ?_⟩
  · rw [hc _ (by omega), h5]
  · rw [hc _ (by omega), h6]
  · rw [hc _ (by omega), h7]
  · rw [g1, h8]
  · rw [g2, h9]
  · rw [g3, h10]
theorem EV_cg {c m c' m' : zM} {e : Nat} (hc : ∀ k j, (k = 13 ∧ (j = 1 ∨ j = 3)) ∨ (k = 14 ∧ j < 100) → c'.1 k e j = c.1 k e j)
    (hm : ∀ k j, (k = 50 ∧ j = e) ∨ (51 ≤ k ∧ k ≤ 54 ∧ 10 * e ≤ j ∧ j < 10 * e + 10) ∨ (k = 55 ∧ 100 * e ≤ j ∧ j < 100 * e + 100) → m'.1 k 0 j = m.1 k 0 j) (h : EV c m e) : EV c' m' e := by
  obtain ⟨cs, h1, h2, h3, h4, h5, h6, h7, h8, h9⟩ := h
  refine ⟨cs, h1, h2, h3, h4, ?_, ?_, ?_, ?_, ?_⟩
  · rw [hc 13 1 (by omega), h5]
  · rw [hc 13 3 (by omega), h6]
  · intro j hj; rw [hc 14 j (by omega), h7 j hj]
  · rw [hm 50 e (by omega), h8]
  · intro j q hq
    have hj : j < cs.length := by
      rcases Nat.lt_or_ge j cs.length with g | g
      · exact g
      · rw [List.getElem?_eq_none g] at hq; cases hq
    obtain ⟨g1, g2, g3⟩ := h9 j q hq
    refine ⟨by rw [hm 51 _ (by omega), g1], by rw [hm 52 _ (by omega), g2], fun hne => ?_⟩
    obtain ⟨a, f1, f2, f3, f4, f5⟩ := g3 hne
    refine ⟨a, f1, f2, by rw [hm 53 _ (by omega), f3], by rw [hm 54 _ (by omega), f4], fun i t hi => ?_⟩
    have hil : i < q.2.2.length := by
      rcases Nat.lt_or_ge i q.2.2.length with g | g
      · exact g
      · rw [List.getElem?_eq_none g] at hi; cases hi
    rw [hm 55 _ (by omega), f5 i t hi]
theorem evOk_mono {ev : Int32} {a b : Nat} (h : a ≤ b) (g : evOk ev a) : evOk ev b := by
  rcases g with g | ⟨e, g1, g2⟩
  · exact Or.inl g
  · exact Or.inr ⟨e, by omega, g2⟩
theorem Rim_cg {c m c' m' : zM} {ec ec' : Nat} (hec : ec ≤ ec')
    (hc : ∀ k i j, (k = 0 ∧ i = 0 ∧ j = 3) ∨ (k = 1 ∧ i = 1) ∨ (2 ≤ k ∧ k ≤ 6 ∧ 6 ≤ i ∧ i < 12 ∧ (k = 2 → 1 ≤ j)) ∨ (k = 8 ∧ i = 1) ∨ (k = 9 ∧ i = 1) → c'.1 k i j = c.1 k i j)
    (hm : ∀ k j, (k = 40 ∧ 42 ≤ j ∧ j ≤ 46) ∨ (69 ≤ k ∧ k ≤ 80) → m'.1 k 0 j = m.1 k 0 j) (h : Rim c m ec) : Rim c' m' ec' := by
  rcases h with ⟨h1, h2⟩ | ⟨h1, h2, n, rd, bk, ev, g1, g2, g3, g4, g5, g6, g7, g8, g9, g10, g11, g12, g13, g14, g15⟩
  · exact Or.inl ⟨by rw [hc 0 0 3 (by omega), h1], by rw [hm 40 42 (by omega), h2]⟩
  · refine Or.inr ⟨by rw [hc 0 0 3 (by omega), h1], by rw [hm 40 42 (by omega), h2], n, rd, bk, ev, g1, g2, g3, evOk_mono hec g4, ?_, ?_, ?_, ?_, ?_, ?_, ?_, ?_, ?_, ?_, ?_⟩
    · rw [hc 1 1 1 (by omega), g5]
    · rw [hc 1 1 2 (by omega), g6]
    · rw [hc 1 1 3 (by omega), g7]
    · rw [hc 1 1 6 (by omega), g8]
    · rw [hm 40 44 (by omega), g9]
    · rw [hm 40 45 (by omega), g10]
    · rw [hm 40 43 (by omega), g11]
    · rw [hm 40 46 (by omega), g12]
    · exact Rppl_cg (fun k p j hp hk => hc k _ j (by omega)) (fun t j ht => hm _ j (by omega)) g13
    · exact Rbk_cg (Nat.le_refl _) (fun j _ => hc 9 1 j (by omega)) (fun j _ => ⟨hm 78 j (by omega), hm 79 j (by omega), hm 80 j (by omega)⟩) g14
    · intro p hp
      rw [hc 8 1 p (by omega), hm 77 p (by omega)]
      exact g15 p hp
theorem Rev_cg {c m c' m' : zM} {ec : Nat} (hec : ec ≤ 6) (hc : ∀ k i j, (k = 13 ∧ i < 7 ∧ (j = 1 ∨ j = 3)) ∨ (k = 14 ∧ i < 6 ∧ j < 100) → c'.1 k i j = c.1 k i j)
    (hm : ∀ k j, (k = 50 ∧ j < ec) ∨ (51 ≤ k ∧ k ≤ 54 ∧ j < 10 * ec) ∨ (k = 55 ∧ j < 100 * ec) → m'.1 k 0 j = m.1 k 0 j) (h : Rev c m ec) : Rev c' m' ec := by
  obtain ⟨h1, h2, h3⟩ := h
  refine ⟨fun e he => EV_cg (fun k j hk => hc k e j (by omega)) (fun k j hk => hm k j (by omega)) (h1 e he), ?_, ?_⟩
  · rw [hc 13 6 1 (by omega), h2]
  · rw [hc 13 6 3 (by omega), h3]
