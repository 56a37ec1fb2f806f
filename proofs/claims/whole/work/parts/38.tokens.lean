/-! PURE PART: truths as bits, and tokens. -/
def bv (b : Bool) : Nat := if b then 1 else 0
theorem bv_t : bv true = 1 := rfl
theorem bv_f : bv false = 0 := rfl
theorem bv_le (b : Bool) : bv b ≤ 1 := by cases b <;> decide
theorem zx_or (a b : Nat) : nI a ||| nI b = nI (a ||| b) := by
  apply Int32.toBitVec_inj.1
  show BitVec.ofNat 32 a ||| BitVec.ofNat 32 b = BitVec.ofNat 32 (a ||| b)
  rw [BitVec.ofNat_or]
theorem zx_and (a b : Nat) : nI a &&& nI b = nI (a &&& b) := by
  apply Int32.toBitVec_inj.1
  show BitVec.ofNat 32 a &&& BitVec.ofNat 32 b = BitVec.ofNat 32 (a &&& b)
  rw [BitVec.ofNat_and]
theorem zx_xor (a b : Nat) : nI a ^^^ nI b = nI (a ^^^ b) := by
  apply Int32.toBitVec_inj.1
  show BitVec.ofNat 32 a ^^^ BitVec.ofNat 32 b = BitVec.ofNat 32 (a ^^^ b)
  rw [BitVec.ofNat_xor]
theorem znat2 {x a b : Nat} (h1 : x / 2 = a) (h2 : x % 2 = b) : x = 2 * a + b := by omega
theorem bw_xor (a : Nat) (b : Bool) : (2 * a + bv b) ^^^ 1 = 2 * a + bv (!b) := by
  refine znat2 ?_ ?_
  · rw [Nat.xor_div_two]
    have : (2 * a + bv b) / 2 = a := by have := bv_le b; omega
    rw [this]; exact Nat.xor_zero a
  · cases b
    · have : ((2 * a + bv false) ^^^ 1) % 2 = 1 := Nat.xor_mod_two_eq_one.mpr (by rw [bv_f, show (2 * a + 0) % 2 = 0 by omega]; decide)
      rw [this]; rfl
    · have : ¬ ((2 * a + bv true) ^^^ 1) % 2 = 1 := fun q => by
        have := Nat.xor_mod_two_eq_one.mp q
        rw [bv_t, show (2 * a + 1) % 2 = 1 by omega] at this
        exact absurd this (by decide)
      have h : bv (!true) = 0 := rfl
      rw [h]
      omega
theorem bw_or (a : Nat) (b x : Bool) : (2 * a + bv b) ||| bv x = 2 * a + bv (b || x) := by
  cases x
  · rw [Bool.or_false]; exact Nat.or_zero _
  · refine znat2 ?_ ?_
    · rw [Nat.or_div_two]
      have : (2 * a + bv b) / 2 = a := by have := bv_le b; omega
      rw [this]; exact Nat.or_zero a
    · have : ((2 * a + bv b) ||| bv true) % 2 = 1 := Nat.or_mod_two_eq_one.mpr (Or.inr rfl)
      rw [this, Bool.or_true]; rfl
theorem bw_clr {a : Nat} (b : Bool) (ha : a < 2 ^ 31) : (2 * a + bv b) &&& 4294967294 = 2 * a := by
  have h : (2 * a + bv b) &&& 4294967294 = 2 * a + 0 := by
    refine znat2 ?_ ?_
    · rw [Nat.and_div_two]
      have : (2 * a + bv b) / 2 = a := by have := bv_le b; omega
      rw [this, show 4294967294 / 2 = 2 ^ 31 - 1 by decide, Nat.and_two_pow_sub_one_eq_mod]
      exact Nat.mod_eq_of_lt ha
    · have : ¬ ((2 * a + bv b) &&& 4294967294) % 2 = 1 := fun q => by
        have := (Nat.and_mod_two_eq_one.mp q).2
        omega
      omega
  exact h
/-- the truths as the class lays them: the last one lowest -/
def tb : List Bool → Nat
  | [] => 0
  | b :: s => 2 * tb s + bv b
theorem tb_lt : ∀ s : List Bool, tb s < 2 ^ s.length
  | [] => by decide
  | b :: s => by
    have := tb_lt s
    rw [List.length_cons, Nat.pow_succ]
    unfold tb
    have := bv_le b
    omega
theorem tb_lt30 {s : List Bool} (h : s.length ≤ 30) : tb s < 2 ^ 30 := Nat.lt_of_lt_of_le (tb_lt s) (Nat.pow_le_pow_right (by omega) h)
/-- a token over the facts f -/
def tkB (f : Nat → Int32) (t : Tk) : Bool := if t.1 = 0 then decide (f t.2.1 < nI t.2.2) else if t.1 = 1 then decide (f t.2.1 = nI t.2.2) else decide (nI t.2.2 < f t.2.1)
def tkE (f : Nat → Int32) (t : Tk) (s : List Bool) : List Bool := if t.1 < 3 then tkB f t :: s else match s with
  | [] => []
  | b :: s => if t.1 = 3 then (!b) :: s else match s with
    | [] => []
    | a :: s => (if t.1 = 4 then (a && b) else (a || b)) :: s
def tkEs (f : Nat → Int32) : List Tk → List Bool → List Bool
  | [], s => s
  | t :: l, s => tkEs f l (tkE f t s)
theorem tkE_len {f : Nat → Int32} {t : Tk} {s : List Bool} {d : Nat} (h : tkD s.length t = some d) : (tkE f t s).length = d := by
  unfold tkD at h
  unfold tkE
  by_cases h1 : t.1 < 3
  · rw [if_pos h1] at h ⊢
    by_cases h2 : t.2.1 < 6 ∧ t.2.2 < 100 ∧ s.length < 30
    · rw [if_pos h2] at h; cases h; rfl
    · rw [if_neg h2] at h; cases h
  rw [if_neg h1] at h ⊢
  cases s with
  | nil =>
    by_cases h3 : t.1 = 3
    · rw [if_pos h3, if_neg (by simp only [List.length_nil]; omega)] at h; cases h
    · rw [if_neg h3] at h
      by_cases h6 : t.1 < 6
      · rw [if_pos h6, if_neg (by simp only [List.length_nil]; omega)] at h; cases h
      · rw [if_neg h6] at h; cases h
  | cons b s =>
    by_cases h3 : t.1 = 3
    · rw [if_pos h3] at h
      by_cases h4 : 1 ≤ (b :: s).length ∧ t.2 = (0, 0)
      · rw [if_pos h4] at h; cases h
        dsimp only
        rw [if_pos h3]; rfl
      · rw [if_neg h4] at h; cases h
    · rw [if_neg h3] at h
      dsimp only
      rw [if_neg h3]
      by_cases h6 : t.1 < 6
      · rw [if_pos h6] at h
        by_cases h4 : 2 ≤ (b :: s).length ∧ t.2 = (0, 0)
        · rw [if_pos h4] at h; cases h
          cases s with
          | nil => exact absurd h4.1 (by simp only [List.length_cons, List.length_nil]; omega)
          | cons a s => simp only [List.length_cons]; omega
        · rw [if_neg h4] at h; cases h
      · rw [if_neg h6] at h; cases h
