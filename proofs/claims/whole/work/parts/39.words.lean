/-! PURE PART: the class runs the words. -/
def tkOk (t : Tk) : Prop := t.1 < 6 ∧ t.2.1 < 6 ∧ t.2.2 < 100
theorem tkD_ok {d e : Nat} {t : Tk} (h : tkD d t = some e) : tkOk t := by
  unfold tkD at h
  by_cases h1 : t.1 < 3
  · rw [if_pos h1] at h
    by_cases h2 : t.2.1 < 6 ∧ t.2.2 < 100 ∧ d < 30
    · exact ⟨by omega, h2.1, h2.2.1⟩
    · rw [if_neg h2] at h; cases h
  rw [if_neg h1] at h
  have z : t.2 = (0, 0) → t.2.1 < 6 ∧ t.2.2 < 100 := fun h => by rw [h]; exact ⟨by decide, by decide⟩
  by_cases h3 : t.1 = 3
  · rw [if_pos h3] at h
    by_cases h4 : 1 ≤ d ∧ t.2 = (0, 0)
    · exact ⟨by omega, z h4.2⟩
    · rw [if_neg h4] at h; cases h
  rw [if_neg h3] at h
  by_cases h6 : t.1 < 6
  · rw [if_pos h6] at h
    by_cases h4 : 2 ≤ d ∧ t.2 = (0, 0)
    · exact ⟨h6, z h4.2⟩
    · rw [if_neg h4] at h; cases h
  · rw [if_neg h6] at h; cases h
theorem sh16 {n : Nat} (h : n < 2 ^ 31) : nI n >>> (nI 16 &&& 31) = nI (n / 65536) := pk_shrN h _ 16 (by decide +kernel)
theorem sh8 {n : Nat} (h : n < 2 ^ 31) : nI n >>> (nI 8 &&& 31) = nI (n / 256) := pk_shrN h _ 8 (by decide +kernel)
theorem sh1 {n : Nat} (h : n < 2 ^ 31) : nI n >>> (nI 1 &&& 31) = nI (n / 2) := pk_shrN h _ 1 (by decide +kernel)
theorem sl1 {n : Nat} (h : n < 2 ^ 31) : nI n <<< (nI 1 &&& 31) = nI (n * 2) := pk_shlN _ 1 (by decide +kernel) (by omega)
theorem an255 {n : Nat} (h : n < 2 ^ 31) : nI n &&& nI 255 = nI (n % 256) := pk_andN (by omega) 8 (by decide +kernel)
theorem an7 {n : Nat} (h : n < 2 ^ 31) : nI n &&& nI 7 = nI (n % 8) := pk_andN (by omega) 3 (by decide +kernel)
theorem an1 {n : Nat} (h : n < 2 ^ 31) : nI n &&& nI 1 = nI (n % 2) := pk_andN (by omega) 1 (by decide +kernel)
theorem anm2 (n : Nat) : nI n &&& (-nI 2) = nI (n &&& 4294967294) := by
  rw [show (-nI 2 : Int32) = nI 4294967294 by decide +kernel, zx_and]
theorem tb_mod (b : Bool) (s : List Bool) : tb (b :: s) % 2 = bv b := by
  have := bv_le b
  show (2 * tb s + bv b) % 2 = bv b
  omega
theorem tb_div (b : Bool) (s : List Bool) : tb (b :: s) / 2 = tb s := by
  have := bv_le b
  show (2 * tb s + bv b) / 2 = tb s
  omega
theorem holds_e {M : zM} {h : Nat} {f : Nat → Int32} (hf : ∀ l, l < 6 → M.1 15 h l = f l) {t : Tk} (h1 : t.1 < 3) (h2 : t.2.1 < 6) : qE_holds M h (nI t.1) (nI t.2.1) (nI t.2.2) = some (nI (bv (tkB f t)), M) := by
  unfold qE_holds
  simp only [zl0, zl1, zl2, zl3, zl4, zl5, zl6, zl7, zl8, zl9, zl10, zl11, zl12, zl13, zl14, zl16, zl18, zl19, zl20, zl22, zl24, zl30, zl32, zl33, zl36, zl38, zl40, zl41, zl48, zl50, zl51, zl57, zl59, zl60, zl61, zl62, zl70, zl71, zl99, zl100, zl103, zl104, zl105, zl106, zl107, zl108, zl109, zl110, zl111, zl112, zl113, zl114, zl115, zl116, zl124, zl127, zl255, zl999, zl1000, zl1001, zl1002, zl1003]
  simp only [zjn_e, if_neg (nI_ge h2 (show 6 < 2 ^ 31 by omega)), zchk_e (ze_in h2 (show 6 < 2 ^ 31 by omega)), ze_cl (show t.2.1 < 2 ^ 31 by omega), hf _ h2]
  rcases (show t.1 = 0 ∨ t.1 = 1 ∨ t.1 = 2 by omega) with e | e | e
  · have k : tkB f t = decide (f t.2.1 < nI t.2.2) := by unfold tkB; rw [if_pos e]
    rw [k, e, if_pos rfl]
    by_cases q : nI t.2.2 ≤ f t.2.1
    · rw [if_pos q, decide_eq_false (Int32.not_lt.mpr q)]; rfl
    · rw [if_neg q, decide_eq_true (Int32.not_le.mp q)]; rfl
  · have k : tkB f t = decide (f t.2.1 = nI t.2.2) := by unfold tkB; rw [if_neg (by omega), if_pos e]
    rw [k, e, if_neg (show ¬ nI 1 = nI 0 from znI_ne (by omega) (by omega) (by omega)), if_pos rfl]
    by_cases q : f t.2.1 = nI t.2.2
    · rw [if_pos q, decide_eq_true q]; rfl
    · rw [if_neg q, decide_eq_false q]; rfl
  · have k : tkB f t = decide (nI t.2.2 < f t.2.1) := by unfold tkB; rw [if_neg (by omega), if_neg (by omega)]
    rw [k, e, if_neg (show ¬ nI 2 = nI 0 from znI_ne (by omega) (by omega) (by omega)), if_neg (show ¬ nI 2 = nI 1 from znI_ne (by omega) (by omega) (by omega))]
    by_cases q : f t.2.1 ≤ nI t.2.2
    · rw [if_pos q, decide_eq_false (Int32.not_lt.mpr q)]; rfl
    · rw [if_neg q, decide_eq_true (Int32.not_le.mp q)]; rfl
theorem run_tok {M : zM} {h L w : Nat} {f : Nat → Int32} {t : Tk} {s : List Bool} {d F : Nat} {v1 : Int32} (hL : L ≤ 100) (hw : w < L) (h13 : M.1 13 h 1 = nI L) (h14 : M.1 14 h w = tkW t) (hf : ∀ l, l < 6 → M.1 15 h l = f l) (hs : s.length ≤ 30) (hd : tkD s.length t = some d) {R : Option (Int32 × zM)} (hR : qE_runClauses_L6 h F M v1 (nI (tb (tkE f t s))) (nI (w + 1)) = R) :
    qE_runClauses_L6 h (F + 1) M v1 (nI (tb s)) (nI w) = R := by
  obtain ⟨t1, t2, t3⟩ := tkD_ok hd
  have hb := tb_lt30 hs
  have e1 : (t.1 * 65536 + t.2.1 * 256 + t.2.2) / 65536 = t.1 := by omega
  have e2 : (t.1 * 65536 + t.2.1 * 256 + t.2.2) % 256 = t.2.2 := by omega
  have e3 : (t.1 * 65536 + t.2.1 * 256 + t.2.2) / 256 % 8 = t.2.1 := by omega
  unfold qE_runClauses_L6
  simp only [zl0, zl1, zl2, zl3, zl4, zl5, zl6, zl7, zl8, zl9, zl10, zl11, zl12, zl13, zl14, zl16, zl18, zl19, zl20, zl22, zl24, zl30, zl32, zl33, zl36, zl38, zl40, zl41, zl48, zl50, zl51, zl57, zl59, zl60, zl61, zl62, zl70, zl71, zl99, zl100, zl103, zl104, zl105, zl106, zl107, zl108, zl109, zl110, zl111, zl112, zl113, zl114, zl115, zl116, zl124, zl127, zl255, zl999, zl1000, zl1001, zl1002, zl1003]
  rw [h13, if_neg (nI_ge hw (by omega)), zchk_e (ze_in (show w < 100 by omega) (by omega)), ze_cl (show w < 2 ^ 31 by omega), h14]
  unfold tkW
  rw [sh16 (by omega), an255 (by omega), sh8 (by omega), an7 (by omega), e1, e2, e3, znm_e]
  simp only [zchk_e (ze_in (show w < 100 by omega) (show 100 < 2 ^ 31 by omega)), znm_e, zjn_e, ze_add]
  by_cases h1 : t.1 < 3
  · rw [if_neg (nI_nlt (by omega) (by omega)), zbnd_c (holds_e hf h1 t2)]
    have e : tkE f t s = tkB f t :: s := by unfold tkE; rw [if_pos h1]
    rw [e] at hR
    have g : ∀ b : Bool, nI (tb s) <<< (nI 1 &&& 31) ||| nI (bv b) = nI (tb (b :: s)) := by
      intro b
      rw [sl1 (by omega), zx_or, Nat.mul_comm]
      have := bw_or (tb s) false b
      rw [bv_f, Nat.add_zero, Bool.false_or] at this
      rw [this]; rfl
    have g0 : nI (tb s) <<< (nI 1 &&& 31) ||| nI 0 = nI (tb (false :: s)) := g false
    have g1 : nI (tb s) <<< (nI 1 &&& 31) ||| nI 1 = nI (tb (true :: s)) := g true
    cases hb : tkB f t
    · rw [if_pos (show nI (bv false) = nI 0 from rfl), g0]; rw [hb] at hR; exact hR
    · rw [if_neg (show ¬ nI (bv true) = nI 0 from znI_ne (by decide) (by decide) (by decide)), g1]; rw [hb] at hR; exact hR
  · rw [if_pos (nI_lt (by omega) (by omega))]
    cases s with
    | nil =>
      exfalso
      unfold tkD at hd
      rw [if_neg h1] at hd
      by_cases h3 : t.1 = 3
      · rw [if_pos h3, if_neg (by simp only [List.length_nil]; omega)] at hd; cases hd
      · rw [if_neg h3, if_pos t1, if_neg (by simp only [List.length_nil]; omega)] at hd; cases hd
    | cons b s =>
      by_cases h3 : t.1 = 3
      · have e : tkE f t (b :: s) = (!b) :: s := by unfold tkE; rw [if_neg h1]; dsimp only; rw [if_pos h3]
        rw [e] at hR
        rw [h3, if_pos rfl, zx_xor]
        have : tb (b :: s) ^^^ 1 = tb ((!b) :: s) := bw_xor (tb s) b
        rw [this]; exact hR
      · cases s with
        | nil =>
          exfalso
          unfold tkD at hd
          rw [if_neg h1, if_neg h3, if_pos t1, if_neg (by simp only [List.length_nil, List.length_cons]; omega)] at hd
          cases hd
        | cons a s =>
          rw [if_neg (znI_ne (by omega) (by omega) h3), an1 (by omega), sh1 (by omega), tb_mod, tb_div]
          have hbs : tb s < 2 ^ 30 := tb_lt30 (by simp only [List.length_cons] at hs; omega)
          have n45 : ¬ nI 4 = nI 5 := znI_ne (by omega) (by omega) (by omega)
          have n46 : ¬ nI 4 = nI 6 := znI_ne (by omega) (by omega) (by omega)
          have n47 : ¬ nI 4 = nI 7 := znI_ne (by omega) (by omega) (by omega)
          have n54 : ¬ nI 5 = nI 4 := znI_ne (by omega) (by omega) (by omega)
          have n56 : ¬ nI 5 = nI 6 := znI_ne (by omega) (by omega) (by omega)
          have n57 : ¬ nI 5 = nI 7 := znI_ne (by omega) (by omega) (by omega)
          have n01 : ¬ nI 0 = nI 1 := znI_ne (by omega) (by omega) (by omega)
          have n10 : ¬ nI 1 = nI 0 := znI_ne (by omega) (by omega) (by omega)
          have q1 : (nI (bv false) = nI 1) = False := eq_false n01
          have q2 : (nI (bv true) = nI 1) = True := eq_true rfl
          rcases (show t.1 = 4 ∨ t.1 = 5 by omega) with h4 | h4
          · have e : tkE f t (b :: a :: s) = (a && b) :: s := by unfold tkE; rw [if_neg h1]; dsimp only; rw [if_neg h3]; rw [if_pos h4]
            rw [e] at hR
            rw [h4]
            cases b
            · have g : nI (tb (a :: s)) &&& (-nI 2) = nI (tb ((a && false) :: s)) := by
                rw [anm2]
                have := bw_clr (a := tb s) a (by omega)
                rw [show tb (a :: s) = 2 * tb s + bv a from rfl, this, Bool.and_false]
                rfl
              simp only [q1, if_false, if_neg n45, if_neg n46, if_neg n47, ↓reduceIte, g]
              exact hR
            · rw [Bool.and_true] at hR
              simp only [q2, if_true, if_neg n10, if_neg n45, if_neg n46, if_neg n47, ↓reduceIte]
              exact hR
          · have e : tkE f t (b :: a :: s) = (a || b) :: s := by unfold tkE; rw [if_neg h1]; dsimp only; rw [if_neg h3]; rw [if_neg (by omega)]
            rw [e] at hR
            rw [h4]
            cases b
            · rw [Bool.or_false] at hR
              simp only [q1, if_false, if_neg n54, if_neg n56, if_neg n57, ↓reduceIte]
              exact hR
            · have g : nI (tb (a :: s)) ||| nI 1 = nI (tb ((a || true) :: s)) := by
                rw [zx_or]
                exact congrArg nI (bw_or (tb s) a true)
              simp only [q2, if_true, if_neg n10, if_neg n54, if_neg n56, if_neg n57, ↓reduceIte, g]
              exact hR
