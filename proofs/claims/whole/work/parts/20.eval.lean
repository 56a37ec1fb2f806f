/-! PURE PART: rows for reading the pure functions. -/
theorem zl0 : (0 : Int32) = nI 0 := by decide +kernel
theorem zl1 : (1 : Int32) = nI 1 := by decide +kernel
theorem zl2 : (2 : Int32) = nI 2 := by decide +kernel
theorem zl3 : (3 : Int32) = nI 3 := by decide +kernel
theorem zl4 : (4 : Int32) = nI 4 := by decide +kernel
theorem zl5 : (5 : Int32) = nI 5 := by decide +kernel
theorem zl6 : (6 : Int32) = nI 6 := by decide +kernel
theorem zl7 : (7 : Int32) = nI 7 := by decide +kernel
theorem zl8 : (8 : Int32) = nI 8 := by decide +kernel
theorem zl9 : (9 : Int32) = nI 9 := by decide +kernel
theorem zl10 : (10 : Int32) = nI 10 := by decide +kernel
theorem zl11 : (11 : Int32) = nI 11 := by decide +kernel
theorem zl12 : (12 : Int32) = nI 12 := by decide +kernel
theorem zl13 : (13 : Int32) = nI 13 := by decide +kernel
theorem zl14 : (14 : Int32) = nI 14 := by decide +kernel
theorem zl16 : (16 : Int32) = nI 16 := by decide +kernel
theorem zl18 : (18 : Int32) = nI 18 := by decide +kernel
theorem zl19 : (19 : Int32) = nI 19 := by decide +kernel
theorem zl20 : (20 : Int32) = nI 20 := by decide +kernel
theorem zl22 : (22 : Int32) = nI 22 := by decide +kernel
theorem zl24 : (24 : Int32) = nI 24 := by decide +kernel
theorem zl30 : (30 : Int32) = nI 30 := by decide +kernel
theorem zl32 : (32 : Int32) = nI 32 := by decide +kernel
theorem zl33 : (33 : Int32) = nI 33 := by decide +kernel
theorem zl36 : (36 : Int32) = nI 36 := by decide +kernel
theorem zl38 : (38 : Int32) = nI 38 := by decide +kernel
theorem zl40 : (40 : Int32) = nI 40 := by decide +kernel
theorem zl41 : (41 : Int32) = nI 41 := by decide +kernel
theorem zl48 : (48 : Int32) = nI 48 := by decide +kernel
theorem zl50 : (50 : Int32) = nI 50 := by decide +kernel
theorem zl51 : (51 : Int32) = nI 51 := by decide +kernel
theorem zl57 : (57 : Int32) = nI 57 := by decide +kernel
theorem zl59 : (59 : Int32) = nI 59 := by decide +kernel
theorem zl60 : (60 : Int32) = nI 60 := by decide +kernel
theorem zl61 : (61 : Int32) = nI 61 := by decide +kernel
theorem zl62 : (62 : Int32) = nI 62 := by decide +kernel
theorem zl70 : (70 : Int32) = nI 70 := by decide +kernel
theorem zl71 : (71 : Int32) = nI 71 := by decide +kernel
theorem zl99 : (99 : Int32) = nI 99 := by decide +kernel
theorem zl100 : (100 : Int32) = nI 100 := by decide +kernel
theorem zl103 : (103 : Int32) = nI 103 := by decide +kernel
theorem zl104 : (104 : Int32) = nI 104 := by decide +kernel
theorem zl105 : (105 : Int32) = nI 105 := by decide +kernel
theorem zl106 : (106 : Int32) = nI 106 := by decide +kernel
theorem zl107 : (107 : Int32) = nI 107 := by decide +kernel
theorem zl108 : (108 : Int32) = nI 108 := by decide +kernel
theorem zl109 : (109 : Int32) = nI 109 := by decide +kernel
theorem zl110 : (110 : Int32) = nI 110 := by decide +kernel
theorem zl111 : (111 : Int32) = nI 111 := by decide +kernel
theorem zl112 : (112 : Int32) = nI 112 := by decide +kernel
theorem zl113 : (113 : Int32) = nI 113 := by decide +kernel
theorem zl114 : (114 : Int32) = nI 114 := by decide +kernel
theorem zl115 : (115 : Int32) = nI 115 := by decide +kernel
theorem zl116 : (116 : Int32) = nI 116 := by decide +kernel
theorem zl124 : (124 : Int32) = nI 124 := by decide +kernel
theorem zl127 : (127 : Int32) = nI 127 := by decide +kernel
theorem zl255 : (255 : Int32) = nI 255 := by decide +kernel
theorem zl999 : (999 : Int32) = nI 999 := by decide +kernel
theorem zl1000 : (1000 : Int32) = nI 1000 := by decide +kernel
theorem zl1001 : (1001 : Int32) = nI 1001 := by decide +kernel
theorem zl1002 : (1002 : Int32) = nI 1002 := by decide +kernel
theorem zl1003 : (1003 : Int32) = nI 1003 := by decide +kernel
theorem zbnd_s {α β : Type} (r : α) (M : zM) (f : α → zM → Option β) : zbnd (some (r, M)) f = f r M := id rfl
theorem zchk_t {β : Type} (o : Option β) : zchk true o = o := id rfl
theorem zchk_e {β : Type} {b : Bool} (h : b = true) (o : Option β) : zchk b o = o := by rw [h]; rfl
theorem znm_e {α β : Type} (e : α) (f : α → β) : znm e f = f e := id rfl
theorem zjn_e {α β : Type} (f : α) (g : α → β) : zjn f g = g f := id rfl
theorem ze_in {a n : Nat} (h : a < n) (hn : n < 2 ^ 31) : zin (nI a) n = true := decide_eq_true (nI_in h hn)
theorem ze_ltt {a b : Nat} (h : a < b) (hb : b < 2 ^ 31) : (nI a < nI b) = True := eq_true (nI_lt h hb)
theorem ze_ltf {a b : Nat} (h : b ≤ a) (hb : a < 2 ^ 31) : (nI a < nI b) = False := eq_false (nI_nlt h hb)
theorem ze_let {a b : Nat} (h : a ≤ b) (hb : b < 2 ^ 31) : (nI a ≤ nI b) = True := eq_true (nI_le h hb)
theorem ze_lef {a b : Nat} (h : b < a) (hb : a < 2 ^ 31) : (nI a ≤ nI b) = False := eq_false (nI_ge h hb)
theorem ze_eqt {a b : Nat} (h : a = b) : (nI a = nI b) = True := by rw [h]; exact eq_self _
theorem ze_eqf {a b : Nat} (h : a ≠ b) (ha : a < 2 ^ 31) (hb : b < 2 ^ 31) : (nI a = nI b) = False := eq_false (fun q => h ((nI_eq ha hb).mp q))
theorem ze_cl {a : Nat} (h : a < 2 ^ 31) : (nI a).toNatClampNeg = a := nI_clamp h
theorem ze_add (a b : Nat) : nI a + nI b = nI (a + b) := nI_add a b
theorem ze_mul (a b : Nat) : nI a * nI b = nI (a * b) := pk_mul a b
theorem ze_sub {a b : Nat} (h : b ≤ a) : nI a - nI b = nI (a - b) := pk_sub h
theorem ze_div {a d : Nat} (ha : a < 2 ^ 31) (h0 : 0 < d) (hd : d < 2 ^ 31) : nI a / nI d = nI (a / d) := pk_div ha h0 hd
theorem ze_rem {a d : Nat} (ha : a < 2 ^ 31) (h0 : 0 < d) (hd : d < 2 ^ 31) : zrem (nI a) (nI d) = nI (a % d) := pk_rem ha h0 hd
theorem ze_nz {a : Nat} (h : 0 < a) (hb : a < 2 ^ 31) : znz (nI a) = true := decide_eq_true (nI_ne0 h hb)
theorem ze_ngt {a b : Nat} (ha : a < 2 ^ 31) (h0 : 0 < b) (hb : b < 2 ^ 31) : (nI a < -nI b) = False := by
  refine eq_false fun h => ?_
  have h1 := Int32.lt_iff_toInt_lt.mp h
  rw [nI_toInt ha, sb_negT hb] at h1
  omega
theorem ze_nle {a b : Nat} (ha : a < 2 ^ 31) (h0 : 0 < b) (hb : b < 2 ^ 31) : (nI a ≤ -nI b) = False := by
  refine eq_false fun h => ?_
  have h1 := Int32.le_iff_toInt_le.mp h
  rw [nI_toInt ha, sb_negT hb] at h1
  omega
theorem ze_neq {a b : Nat} (ha : a < 2 ^ 31) (h0 : 0 < b) (hb : b < 2 ^ 31) : (nI a = -nI b) = False := by
  refine eq_false fun h => ?_
  have h1 : (nI a).toInt = (-nI b).toInt := by rw [h]
  rw [nI_toInt ha, sb_negT hb] at h1
  omega
theorem ze_neq' {a b : Nat} (ha : a < 2 ^ 31) (h0 : 0 < b) (hb : b < 2 ^ 31) : (-nI b = nI a) = False := by
  rw [← ze_neq ha h0 hb]; exact propext ⟨Eq.symm, Eq.symm⟩
theorem ze_nlt {a b : Nat} (ha : a < 2 ^ 31) (h0 : 0 < b) (hb : b < 2 ^ 31) : (-nI b < nI a) = True := by
  refine eq_true (Int32.lt_iff_toInt_lt.mpr ?_)
  rw [nI_toInt ha, sb_negT hb]
  omega
theorem ze_nle' {a b : Nat} (ha : a < 2 ^ 31) (h0 : 0 < b) (hb : b < 2 ^ 31) : (-nI b ≤ nI a) = True := by
  refine eq_true (Int32.le_iff_toInt_le.mpr ?_)
  rw [nI_toInt ha, sb_negT hb]
  omega
theorem ze_gle {a b : Nat} (ha : a < 2 ^ 31) (h0 : 0 < b) (hb : b < 2 ^ 31) : (nI a ≤ -nI b) = False := ze_nle ha h0 hb
theorem zg_e {M : zM} {k i j a b c : Nat} {v : Int32} (h : a = k ∧ b = i ∧ c = j) : (zset M k i j v).1 a b c = v := if_pos h
theorem zg_n {M : zM} {k i j a b c : Nat} {v : Int32} (h : ¬ (a = k ∧ b = i ∧ c = j)) : (zset M k i j v).1 a b c = M.1 a b c := if_neg h
theorem zg_2 {M : zM} {k i j : Nat} {v : Int32} : (zset M k i j v).2 = M.2 := id rfl
theorem zgL_e {M : zM} {k i j a b c : Nat} {v : Int64} (h : a = k ∧ b = i ∧ c = j) : (zsetL M k i j v).2 a b c = v := if_pos h
theorem zgL_n {M : zM} {k i j a b c : Nat} {v : Int64} (h : ¬ (a = k ∧ b = i ∧ c = j)) : (zsetL M k i j v).2 a b c = M.2 a b c := if_neg h
theorem zgL_1 {M : zM} {k i j : Nat} {v : Int64} : (zsetL M k i j v).1 = M.1 := id rfl
theorem zcp_e {M : zM} {k i k2 i2 sp dp n a b c : Nat} (h : a = k2 ∧ b = i2 ∧ dp ≤ c ∧ c < dp + n) : (zcpy M k i k2 i2 sp dp n).1 a b c = M.1 k i (sp + (c - dp)) := if_pos h
theorem zcp_n {M : zM} {k i k2 i2 sp dp n a b c : Nat} (h : ¬ (a = k2 ∧ b = i2 ∧ dp ≤ c ∧ c < dp + n)) : (zcpy M k i k2 i2 sp dp n).1 a b c = M.1 a b c := if_neg h
theorem zcp_2 {M : zM} {k i k2 i2 sp dp n : Nat} : (zcpy M k i k2 i2 sp dp n).2 = M.2 := id rfl
theorem zcpL_e {M : zM} {k i k2 i2 sp dp n a b c : Nat} (h : a = k2 ∧ b = i2 ∧ dp ≤ c ∧ c < dp + n) : (zcpyL M k i k2 i2 sp dp n).2 a b c = M.2 k i (sp + (c - dp)) := if_pos h
theorem zcpL_n {M : zM} {k i k2 i2 sp dp n a b c : Nat} (h : ¬ (a = k2 ∧ b = i2 ∧ dp ≤ c ∧ c < dp + n)) : (zcpyL M k i k2 i2 sp dp n).2 a b c = M.2 a b c := if_neg h
theorem zcpL_1 {M : zM} {k i k2 i2 sp dp n : Nat} : (zcpyL M k i k2 i2 sp dp n).1 = M.1 := id rfl
theorem zcp_ok {sp dp n n0 n1 : Nat} (h0 : sp + n ≤ n0) (h1 : dp + n ≤ n1) (h2 : n0 < 2 ^ 31) (h3 : n1 < 2 ^ 31) : zcp (nI sp) (nI dp) (nI n) n0 n1 = true := by
  refine decide_eq_true ⟨nI_pos (by omega), nI_pos (by omega), nI_pos (by omega), ?_, ?_⟩
  · rw [nI_clamp (by omega), nI_clamp (by omega)]; exact h0
  · rw [nI_clamp (by omega), nI_clamp (by omega)]; exact h1
/-- not a number below n -/
def zno (a : Int32) (n : Nat) : Prop := a < 0 ∨ nI n ≤ a
theorem zcase (a : Int32) {n : Nat} (hn : n < 2 ^ 31) : zno a n ∨ ∃ j, j < n ∧ a = nI j := by
  rcases pk_ix a hn with h | h | h
  · exact Or.inl (Or.inl h)
  · exact Or.inl (Or.inr h)
  · exact Or.inr h
theorem zno_lt {a : Int32} {n : Nat} (h : zno a n) (hn : n < 2 ^ 31) {j : Nat} (hj : j < n) : a ≠ nI j := by
  intro q
  subst q
  rcases h with h | h
  · exact nI_pos (by omega) h
  · exact nI_ge hj hn h
theorem znI_ne {a b : Nat} (ha : a < 2 ^ 31) (hb : b < 2 ^ 31) (h : a ≠ b) : nI a ≠ nI b := fun q => h ((nI_eq ha hb).mp q)
theorem zbnd_c {α β : Type} {x : Option (α × zM)} {r : α} {M : zM} (h : x = some (r, M)) (f : α → zM → Option β) : zbnd x f = f r M := by rw [h]; rfl
theorem zb_n {β : Type} {x : Option (Int32 × zM)} {M : zM} (h : x = some (nI 0, M)) (A B : Int32 → zM → Option β) : zbnd x (fun x2 M1 => if x2 = nI 0 then A x2 M1 else B x2 M1) = A (nI 0) M := by
  rw [h, zbnd_s, if_pos rfl]
theorem zb_y {β : Type} {x : Option (Int32 × zM)} {M : zM} (h : x = some (nI 1, M)) (A B : Int32 → zM → Option β) : zbnd x (fun x2 M1 => if x2 = nI 0 then A x2 M1 else B x2 M1) = B (nI 1) M := by
  rw [h, zbnd_s, if_neg (znI_ne (by decide) (by decide) (by decide))]
