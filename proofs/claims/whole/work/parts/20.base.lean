/-! PURE PART. Rows for reading the pure functions. HAND. -/
theorem zbnd_s {α β : Type} (r : α) (M : zM) (f : α → zM → Option β) : zbnd (some (r, M)) f = f r M := rfl
theorem zchk_t {β : Type} (o : Option β) : zchk true o = o := rfl
theorem zchk_e {β : Type} {b : Bool} (o : Option β) (h : b = true) : zchk b o = o := by rw [h]; rfl
theorem zin_n {a n : Nat} (h : a < n) (hn : n < 2 ^ 31) : zin (nI a) n = true := decide_eq_true (nI_in h hn)
theorem zset_g (M : zM) (k i j : Nat) (v : Int32) (a b c : Nat) : (zset M k i j v).1 a b c = if a = k ∧ b = i ∧ c = j then v else M.1 a b c := rfl
theorem zset_2 (M : zM) (k i j : Nat) (v : Int32) : (zset M k i j v).2 = M.2 := rfl
theorem zset_s (M : zM) (k i j : Nat) (v : Int32) : (zset M k i j v).1 k i j = v := if_pos ⟨rfl, rfl, rfl⟩
theorem zset_n (M : zM) (k i j : Nat) (v : Int32) {c : Nat} (h : c ≠ j) : (zset M k i j v).1 k i c = M.1 k i c := if_neg (fun q => h q.2.2)
theorem zset_ni (M : zM) (k i j : Nat) (v : Int32) {b c : Nat} (h : b ≠ i) : (zset M k i j v).1 k b c = M.1 k b c := if_neg (fun q => h q.2.1)
theorem zset_nk (M : zM) (k i j : Nat) (v : Int32) {a b c : Nat} (h : a ≠ k) : (zset M k i j v).1 a b c = M.1 a b c := if_neg (fun q => h q.1)
theorem zsetL_g (M : zM) (k i j : Nat) (v : Int64) (a b c : Nat) : (zsetL M k i j v).2 a b c = if a = k ∧ b = i ∧ c = j then v else M.2 a b c := rfl
theorem zsetL_1 (M : zM) (k i j : Nat) (v : Int64) : (zsetL M k i j v).1 = M.1 := rfl
theorem znI_inj {a b : Nat} (ha : a < 2 ^ 31) (hb : b < 2 ^ 31) (h : nI a = nI b) : a = b := (nI_eq ha hb).mp h
theorem znI_ne {a b : Nat} (ha : a < 2 ^ 31) (hb : b < 2 ^ 31) (h : a ≠ b) : nI a ≠ nI b := fun q => h ((nI_eq ha hb).mp q)
/-- not a number below n -/
def zno (a : Int32) (n : Nat) : Prop := a < 0 ∨ nI n ≤ a
theorem zcase (a : Int32) {n : Nat} (hn : n < 2 ^ 31) : zno a n ∨ ∃ j, j < n ∧ a = nI j := by
  rcases pk_ix a hn with h | h | h
  · exact Or.inl (Or.inl h)
  · exact Or.inl (Or.inr h)
  · exact Or.inr h
theorem zno_toInt {a : Int32} {n : Nat} (hn : n < 2 ^ 31) (h : zno a n) : a.toInt < 0 ∨ (n : Int) ≤ a.toInt := by
  rcases h with h | h
  · left; have := Int32.lt_iff_toInt_lt.mp h; simpa using this
  · right; have := Int32.le_iff_toInt_le.mp h; rwa [nI_toInt hn] at this
/-! in(a, 0, hi) of the reference; has, isOfThree of the class -/
theorem qM_in_ok {M : zM} {j h : Nat} {hi : Int32} (hh : hi = nI h) (hj : j ≤ h) (hb : h < 2 ^ 31) : qM_in M (nI j) 0 hi = some (1, M) := by
  subst hh
  unfold qM_in
  rw [if_neg (nI_pos (by omega)), if_neg (nI_nlt hj (by omega))]
theorem qM_in_no {M : zM} {a hi : Int32} {h : Nat} (hh : hi = nI h) (hb : h + 1 < 2 ^ 31) (hn : zno a (h + 1)) : qM_in M a 0 hi = some (0, M) := by
  subst hh
  unfold qM_in
  rcases hn with g | g
  · rw [if_pos g]
  · by_cases g0 : a < 0
    · rw [if_pos g0]
    · rw [if_neg g0, if_pos]
      rw [Int32.lt_iff_toInt_lt, nI_toInt (by omega)]
      have := Int32.le_iff_toInt_le.mp g
      rw [nI_toInt (by omega)] at this
      omega
theorem zsub1 {n : Nat} (h : 0 < n) : nI n - 1 = nI (n - 1) := by
  obtain ⟨k, rfl⟩ : ∃ k, n = k + 1 := ⟨n - 1, by omega⟩
  rw [nI_pred]; rfl
theorem qM_isPerson_ok {m : zM} {n p : Nat} (hn : m.1 40 0 0 = nI n) (hp : p < n) (hb : n < 2 ^ 31) : qM_isPerson m (nI p) = some (1, m) := by
  unfold qM_isPerson
  rw [hn, zsub1 (by omega), qM_in_ok rfl (by omega) (by omega)]
  rfl
theorem qM_isPerson_no {m : zM} {n : Nat} {a : Int32} (hn : m.1 40 0 0 = nI n) (hb : n < 2 ^ 31) (hp : zno a n) : qM_isPerson m a = some (0, m) := by
  unfold qM_isPerson
  rw [hn]
  cases n with
  | zero =>
    unfold qM_in
    by_cases g0 : a < 0
    · rw [if_pos g0]; rfl
    · rw [if_neg g0, if_pos]
      · rfl
      · rw [Int32.lt_iff_toInt_lt]
        have h1 : (nI 0 - 1).toInt = -1 := by decide
        have h2 := Int32.not_lt.mp g0
        have h3 := Int32.le_iff_toInt_le.mp h2
        have h4 : (0 : Int32).toInt = 0 := by decide
        omega
  | succ k =>
    rw [zsub1 (by omega), qM_in_no (h := k) (by rfl) hb hp]
    rfl
theorem qP_has_ok {c : zM} {q n p : Nat} (hn : c.1 1 q 1 = nI n) (hp : p < n) (hb : n < 2 ^ 31) : qP_has c q (nI p) = some (1, c) := by
  unfold qP_has
  rw [if_neg (nI_pos (by omega)), hn, if_neg (nI_ge hp hb)]
theorem qP_has_no {c : zM} {q n : Nat} {a : Int32} (hn : c.1 1 q 1 = nI n) (hp : zno a n) : qP_has c q a = some (0, c) := by
  unfold qP_has
  by_cases h : a < 0
  · rw [if_pos h]
  · rcases hp with g | g
    · exact absurd g h
    · rw [if_neg h, hn, if_pos g]
theorem qG_three_ok {c : zM} {p : Nat} (hp : p < 3) : qG_isOfThree c (nI p) = some (1, c) := by
  unfold qG_isOfThree
  rw [if_neg (nI_pos (by omega)), if_neg (nI_ge (b := 3) hp (by decide))]
theorem qG_three_no {c : zM} {a : Int32} (hp : zno a 3) : qG_isOfThree c a = some (0, c) := by
  unfold qG_isOfThree
  by_cases h : a < 0
  · rw [if_pos h]
  · rcases hp with g | g
    · exact absurd g h
    · rw [if_neg h, if_pos g]
/-! THE RELATION between the class's memory and the reference's -/
/-- the person in the cell i of the class is the p-th of the reference's arrays from B on -/
def PPn (c m : zM) (B i p : Nat) : Prop :=
  c.1 2 i 1 = m.1 B 0 p ∧ c.1 2 i 2 = m.1 (B + 1) 0 p ∧ c.1 2 i 3 = m.1 (B + 2) 0 p ∧ c.1 2 i 4 = m.1 (B + 3) 0 p ∧
  (∀ t, t < 3 → c.1 3 i t = m.1 (B + 4) 0 (3 * p + t)) ∧ (∀ t, t < 3 → c.1 4 i t = m.1 (B + 5) 0 (3 * p + t)) ∧ (∀ t, t < 3 → c.1 5 i t = m.1 (B + 6) 0 (3 * p + t)) ∧ ∀ t, t < 4 → c.1 6 i t = m.1 (B + 7) 0 (4 * p + t)
/-- its numbers are as told -/
def WFp (m : zM) (B p : Nat) : Prop :=
  (∃ k, k < 7 ∧ m.1 B 0 p = nI k) ∧ (∃ v, v < 10 ∧ m.1 (B + 1) 0 p = nI v) ∧ (∃ l, l < 3 ∧ m.1 (B + 3) 0 p = nI l) ∧
  (∀ t, t < 3 → ∃ s, s < 100 ∧ m.1 (B + 4) 0 (3 * p + t) = nI s) ∧ (∀ t, t < 3 → ∃ s, s < 10 ∧ m.1 (B + 5) 0 (3 * p + t) = nI s) ∧
  (∃ a b d, a < 3 ∧ b < 3 ∧ d < 3 ∧ a ≠ b ∧ a ≠ d ∧ b ≠ d ∧ m.1 (B + 6) 0 (3 * p) = nI a ∧ m.1 (B + 6) 0 (3 * p + 1) = nI b ∧ m.1 (B + 6) 0 (3 * p + 2) = nI d) ∧
  ∀ t, t < 4 → ∃ r, r < 3 ∧ m.1 (B + 7) 0 (4 * p + t) = nI r
def Rppl (c m : zM) (B q n : Nat) : Prop := ∀ p, p < n → PPn c m B (6 * q + p) p ∧ WFp m B p
def Rbk (c m : zM) (q n bk bT bW bP : Nat) : Prop := ∀ j, j < bk → ∃ t w r, t < n ∧ w < n ∧ r < 3 ∧ c.1 9 q (3 * j) = nI t ∧ c.1 9 q (3 * j + 1) = nI w ∧ c.1 9 q (3 * j + 2) = nI r ∧ m.1 bT 0 j = nI t ∧ m.1 bW 0 j = nI w ∧ m.1 bP 0 j = nI r
def Rsn (c m : zM) (q k : Nat) : Prop := ∀ p, p < 3 → c.1 8 q p = m.1 k 0 p
/-- a TOKEN: what (0 <, 1 =, 2 >, 3 not, 4 and, 5 or), letter, number -/
abbrev Tk : Type := Nat × Nat × Nat
def tkS (t : Tk) : Int32 := if t.1 = 3 then -33 else if t.1 = 4 then -38 else if t.1 = 5 then -124 else nI (1000 * t.2.1 + 100 * t.1 + t.2.2)
def tkW (t : Tk) : Int32 := nI (t.1 * 65536 + t.2.1 * 256 + t.2.2)
/-- a CLAUSE: 0 odd, 1 sure, 2 hands; number; tokens -/
abbrev Cl : Type := Nat × Nat × List Tk
def clW (q : Cl) : List Int32 := if q.1 = 2 then [] else q.2.2.map tkW ++ [nI ((6 + q.1) * 65536 + q.2.1)]
def evW (cs : List Cl) : List Int32 := cs.flatMap clW
def evH (cs : List Cl) : Nat := cs.foldl (fun n q => if q.1 = 2 then q.2.1 else n) 10
/-- how many truths lie, behind a token; none: too few, or more than 30 -/
def tkD (d : Nat) (t : Tk) : Option Nat := if t.1 < 3 then (if t.2.1 < 6 ∧ t.2.2 < 100 ∧ d < 30 then some (d + 1) else none) else if t.1 = 3 then (if 1 ≤ d ∧ t.2 = (0, 0) then some d else none) else if t.1 < 6 then (if 2 ≤ d ∧ t.2 = (0, 0) then some (d - 1) else none) else none
def tkDs : Nat → List Tk → Option Nat
  | d, [] => some d
  | d, t :: l => (tkD d t).bind fun e => tkDs e l
def clOk (q : Cl) : Prop := q.1 < 3 ∧ q.2.1 < 100 ∧ (q.1 ≠ 2 → tkDs 0 q.2.2 = some 1) ∧ q.2.2.length ≤ 100
def EV (c m : zM) (e : Nat) : Prop := ∃ cs : List Cl, 1 ≤ cs.length ∧ cs.length ≤ 10 ∧ (∀ q ∈ cs, clOk q) ∧ (evW cs).length ≤ 100 ∧
  c.1 13 e 1 = nI (evW cs).length ∧ c.1 13 e 3 = nI (evH cs) ∧ (∀ j, j < (evW cs).length → c.1 14 e j = (evW cs).getD j 0) ∧
  m.1 50 0 e = nI cs.length ∧ ∀ j q, cs[j]? = some q → m.1 51 0 (10 * e + j) = nI q.1 ∧ m.1 52 0 (10 * e + j) = nI q.2.1 ∧
    (q.1 ≠ 2 → ∃ a, a + q.2.2.length ≤ 600 ∧ m.1 53 0 (10 * e + j) = nI a ∧ m.1 54 0 (10 * e + j) = nI (a + q.2.2.length) ∧ ∀ i t, q.2.2[i]? = some t → m.1 55 0 (a + i) = tkS t)
def Rev (c m : zM) (ec : Nat) : Prop := (∀ e, e < ec → EV c m e) ∧ c.1 13 6 1 = 0 ∧ c.1 13 6 3 = 10
def Rtx (c m : zM) (tl : Nat) : Prop := ∀ j, j < tl → ∃ h, h < 128 ∧ c.1 11 0 j = nI h ∧ m.1 49 0 j = nI h
def Rac (c m : zM) : Prop := ∃ k, k < 1000 ∧ c.1 25 0 1 = nI k ∧ m.1 40 0 59 = nI k ∧ ∀ j, j < k → j < 20 → c.1 26 0 j = m.1 81 0 j
def Rtp (c m : zM) : Prop := ∀ t, t < 6 → ∃ n, n ≤ 60 ∧ c.1 29 0 t = nI n ∧ m.1 83 0 t = nI n ∧ (∀ j, j < n → c.2 30 0 (60 * t + j) = m.2 84 0 (60 * t + j)) ∧ ((c.1 28 0 t = -1 ∧ m.1 82 0 t = -1 ∧ n = 0) ∨ ∃ k, k < 5 ∧ c.1 28 0 t = nI k ∧ m.1 82 0 t = nI k)
def zletters : List Nat := [111, 100, 100, 115, 117, 114, 101, 104, 97, 110, 100, 115]
def Rlt (m : zM) : Prop := ∀ j, j < 12 → m.1 57 0 j = nI (zletters.getD j 0)
def Rnum (c : zM) : Prop := ∀ i, i < 18 → c.1 2 i 0 = nI (i % 6)
def evOk (ev : Int32) (ec : Nat) : Prop := ev = -1 ∨ ∃ e, e < ec ∧ ev = nI e
def Rim (c m : zM) (ec : Nat) : Prop := (c.1 0 0 3 = 0 ∧ m.1 40 0 42 = 0) ∨ (c.1 0 0 3 = 1 ∧ m.1 40 0 42 = 1 ∧ ∃ (n rd bk : Nat) (ev : Int32), n ≤ 6 ∧ rd ≤ 999 ∧ bk ≤ 12 ∧ evOk ev ec ∧
  c.1 1 1 1 = nI n ∧ c.1 1 1 2 = nI rd ∧ c.1 1 1 3 = ev ∧ c.1 1 1 6 = nI bk ∧ m.1 40 0 44 = nI n ∧ m.1 40 0 45 = nI rd ∧ m.1 40 0 43 = ev ∧ m.1 40 0 46 = nI bk ∧
  Rppl c m 69 1 n ∧ Rbk c m 1 n bk 78 79 80 ∧ Rsn c m 1 77)
def RB (c m : zM) (n rd bk ec tl : Nat) (ev : Int32) : Prop :=
  (n ≤ 6 ∧ rd ≤ 999 ∧ bk ≤ 12 ∧ ec ≤ 6 ∧ tl ≤ 100 ∧ evOk ev ec) ∧
  (c.1 1 0 1 = nI n ∧ c.1 1 0 2 = nI rd ∧ c.1 1 0 3 = ev ∧ c.1 1 0 6 = nI bk ∧ c.1 0 0 7 = nI ec ∧ c.1 10 0 1 = nI tl) ∧
  (m.1 40 0 0 = nI n ∧ m.1 40 0 1 = nI rd ∧ m.1 40 0 11 = ev ∧ m.1 40 0 38 = nI bk ∧ m.1 40 0 10 = nI ec ∧ m.1 40 0 12 = nI tl ∧ m.1 40 0 30 = -1) ∧
  Rnum c ∧ Rppl c m 41 0 n ∧ Rbk c m 0 n bk 66 67 68 ∧ Rsn c m 0 64 ∧ Rtx c m tl ∧ Rev c m ec ∧ Rim c m ec ∧ Rac c m ∧ Rtp c m ∧ Rlt m
def Rl (c m : zM) : Prop := ∃ (n rd bk ec tl : Nat) (ev : Int32), RB c m n rd bk ec tl ev
/-! first calls -/
theorem st_see (c m : zM) (a0 a1 : Int32) (h : Rl c m) : ∃ (r : Int32) (c1 m1 : zM), qG_see c a0 a1 = some (r, c1) ∧ qM_see m a0 a1 = some (r, m1) ∧ Rl c1 m1 := by
  obtain ⟨n, rd, bk, ec, tl, ev, h1, h2, h3, h4, h5, h6, h7, h8, h9, h10, h11, h12, h13⟩ := h
  unfold qG_see qM_see
  rcases zcase a0 (n := 3) (by decide) with g | ⟨p, hp, rfl⟩
  · rw [qG_three_no g, qM_in_no (h := 2) rfl (by decide) g]
    exact ⟨_, c, m, rfl, rfl, n, rd, bk, ec, tl, ev, h1, h2, h3, h4, h5, h6, h7, h8, h9, h10, h11, h12, h13⟩
  · rw [qG_three_ok hp, qM_in_ok (h := 2) rfl (by omega) (by decide)]
    simp only [zbnd_s]
    rcases zcase a1 (n := 6) (by decide) with g | ⟨w, hw, rfl⟩
    · rw [qM_in_no (h := 5) rfl (by decide) g]
      refine ⟨-2, c, m, ?_, rfl, n, rd, bk, ec, tl, ev, h1, h2, h3, h4, h5, h6, h7, h8, h9, h10, h11, h12, h13⟩
      rw [if_neg (by decide)]
      sorry
    · sorry
