/-! PURE PART: THE TEXT, read. -/
abbrev PR : Type := Bool × Nat × List Tk
def dg (x : Nat) : Bool := decide (48 ≤ x ∧ x ≤ 57)
def pNum (s : Nat → Nat) (a : Nat) : Bool × Nat × Nat := if dg (s a) = true then (if dg (s (a + 1)) = true then (true, a + 2, (s a - 48) * 10 + (s (a + 1) - 48)) else (true, a + 1, s a - 48)) else (false, a, 0)
def plc (x : Nat) : Nat := if x = 103 then 0 else if x = 107 then 1 else if x = 116 then 2 else if x = 112 then 3 else if x = 108 then 4 else if x = 110 then 5 else 6
def pTest (s : Nat → Nat) (a : Nat) : PR := if plc (s a) < 6 then (if 60 ≤ s (a + 1) ∧ s (a + 1) ≤ 62 then (if (pNum s (a + 2)).1 = true then (true, (pNum s (a + 2)).2.1, [(s (a + 1) - 60, plc (s a), (pNum s (a + 2)).2.2)]) else (false, a + 2, [])) else (false, a + 1, [])) else (false, a, [])
def tNOT : Tk := (3, 0, 0)
def tAND : Tk := (4, 0, 0)
def tOR : Tk := (5, 0, 0)
def pL (F : Nat → PR) (s : Nat → Nat) : Nat → Bool → Bool → List Tk → Nat → PR
  | 0, _, _, _, a => (false, a, [])
  | k + 1, pa, po, acc, a => if (F a).1 = true then
      (if s (F a).2.1 = 38 then pL F s k true po (acc ++ (F a).2.2 ++ (if pa = true then [tAND] else [])) ((F a).2.1 + 1)
      else if s (F a).2.1 = 124 then pL F s k false true (acc ++ (F a).2.2 ++ (if pa = true then [tAND] else []) ++ (if po = true then [tOR] else [])) ((F a).2.1 + 1)
      else (true, (F a).2.1, acc ++ (F a).2.2 ++ (if pa = true then [tAND] else []) ++ (if po = true then [tOR] else [])))
    else (false, (F a).2.1, [])
def pF (s : Nat → Nat) : Nat → Nat → PR
  | 0, a => pTest s a
  | q + 1, a => if s a = 33 then (if (pF s q (a + 1)).1 = true then (true, (pF s q (a + 1)).2.1, (pF s q (a + 1)).2.2 ++ [tNOT]) else (false, (pF s q (a + 1)).2.1, []))
    else if s a = 40 then (if (pL (pF s q) s 101 false false [] (a + 1)).1 = true then (if s (pL (pF s q) s 101 false false [] (a + 1)).2.1 = 41 then (true, (pL (pF s q) s 101 false false [] (a + 1)).2.1 + 1, (pL (pF s q) s 101 false false [] (a + 1)).2.2) else (false, (pL (pF s q) s 101 false false [] (a + 1)).2.1, [])) else (false, (pL (pF s q) s 101 false false [] (a + 1)).2.1, []))
    else pTest s a
def pE (s : Nat → Nat) (q a : Nat) : PR := pL (pF s q) s 101 false false [] a
/-- what a part that was read is like -/
def OKR (tl q a : Nat) (r : PR) : Prop := a ≤ r.2.1 ∧ r.2.1 ≤ tl ∧ (r.1 = true → a < r.2.1 ∧ a + r.2.2.length ≤ r.2.1 ∧ ∀ d, d + 2 * q < 30 → tkDs d r.2.2 = some (d + 1))
theorem tkDs_app : ∀ (l1 l2 : List Tk) (d : Nat), tkDs d (l1 ++ l2) = (tkDs d l1).bind fun e => tkDs e l2
  | [], l2, d => rfl
  | t :: l1, l2, d => by
    show (tkD d t).bind (fun e => tkDs e (l1 ++ l2)) = ((tkD d t).bind fun e => tkDs e l1).bind fun e => tkDs e l2
    cases h : tkD d t with
    | none => rfl
    | some e => exact tkDs_app l1 l2 e
theorem in_tl {s : Nat → Nat} {tl a : Nat} (h128 : ∀ j, tl ≤ j → s j = 128) (h : s a ≠ 128) : a < tl := by
  rcases Nat.lt_or_ge a tl with g | g
  · exact g
  · exact absurd (h128 a g) h
theorem dg_e {x : Nat} : dg x = true ↔ 48 ≤ x ∧ x ≤ 57 := by
  unfold dg
  exact decide_eq_true_iff
theorem pNum_ok {s : Nat → Nat} {tl a : Nat} (h128 : ∀ j, tl ≤ j → s j = 128) (h : (pNum s a).1 = true) : a < (pNum s a).2.1 ∧ (pNum s a).2.1 ≤ tl ∧ (pNum s a).2.2 < 100 := by
  unfold pNum at h ⊢
  by_cases h1 : dg (s a) = true
  · rw [if_pos h1] at h ⊢
    have k1 := dg_e.mp h1
    have i1 := in_tl h128 (a := a) (by omega)
    by_cases h2 : dg (s (a + 1)) = true
    · rw [if_pos h2]
      have k2 := dg_e.mp h2
      have i2 := in_tl h128 (a := a + 1) (by omega)
      exact ⟨by show a < a + 2; omega, by show a + 2 ≤ tl; omega, by show (s a - 48) * 10 + (s (a + 1) - 48) < 100; omega⟩
    · rw [if_neg h2]
      exact ⟨by show a < a + 1; omega, by show a + 1 ≤ tl; omega, by show s a - 48 < 100; omega⟩
  · rw [if_neg h1] at h; cases h
theorem plc_lt {x : Nat} (h : plc x < 6) : x < 128 := by
  unfold plc at h
  rcases Nat.lt_or_ge x 128 with g | g
  · exact g
  · rw [if_neg (by omega), if_neg (by omega), if_neg (by omega), if_neg (by omega), if_neg (by omega), if_neg (by omega)] at h
    omega
theorem pTest_ok {s : Nat → Nat} {tl a : Nat} (h128 : ∀ j, tl ≤ j → s j = 128) (ha : a ≤ tl) (q : Nat) : OKR tl q a (pTest s a) := by
  unfold pTest
  by_cases h1 : plc (s a) < 6
  · rw [if_pos h1]
    have i1 := in_tl h128 (a := a) (by have := plc_lt h1; omega)
    by_cases h2 : 60 ≤ s (a + 1) ∧ s (a + 1) ≤ 62
    · rw [if_pos h2]
      have i2 := in_tl h128 (a := a + 1) (by omega)
      by_cases h3 : (pNum s (a + 2)).1 = true
      · rw [if_pos h3]
        obtain ⟨k1, k2, k3⟩ := pNum_ok h128 h3
        refine ⟨by show a ≤ (pNum s (a + 2)).2.1; omega, k2, fun _ => ⟨by show a < (pNum s (a + 2)).2.1; omega, by show a + 1 ≤ (pNum s (a + 2)).2.1; omega, fun d hd => ?_⟩⟩
        show (tkD d (s (a + 1) - 60, plc (s a), (pNum s (a + 2)).2.2)).bind (fun e => tkDs e []) = some (d + 1)
        have : tkD d (s (a + 1) - 60, plc (s a), (pNum s (a + 2)).2.2) = some (d + 1) := by
          unfold tkD
          rw [if_pos (show s (a + 1) - 60 < 3 by omega), if_pos ⟨h1, k3, by omega⟩]
        rw [this]
        rfl
      · rw [if_neg h3]
        exact ⟨by show a ≤ a + 2; omega, by show a + 2 ≤ tl; omega, fun q => absurd (show false = true from q) Bool.false_ne_true⟩
    · rw [if_neg h2]
      exact ⟨by show a ≤ a + 1; omega, by show a + 1 ≤ tl; omega, fun q => absurd (show false = true from q) Bool.false_ne_true⟩
  · rw [if_neg h1]
    exact ⟨Nat.le_refl _, ha, fun q => absurd (show false = true from q) Bool.false_ne_true⟩
theorem bvt : bv true = 1 := rfl
theorem bvf : bv false = 0 := rfl
theorem opt_ds {d e : Nat} {b : Bool} {t : Tk} (ht : t = tAND ∨ t = tOR) (he : 2 ≤ e ∨ b = false) : tkDs e (if b = true then [t] else []) = some (e - bv b) := by
  cases b
  · rw [if_neg (by decide)]; rfl
  · rw [if_pos rfl]
    have h2 : 2 ≤ e := he.resolve_right (by decide)
    show (tkD e t).bind (fun e => tkDs e []) = some (e - 1)
    have : tkD e t = some (e - 1) := by
      rcases ht with rfl | rfl
      · unfold tkD
        rw [if_neg (by decide), if_neg (by decide), if_pos (by decide), if_pos ⟨h2, rfl⟩]
      · unfold tkD
        rw [if_neg (by decide), if_neg (by decide), if_pos (by decide), if_pos ⟨h2, rfl⟩]
    rw [this]
    rfl
theorem opt_len (b : Bool) (t : Tk) : (if b = true then [t] else []).length = bv b := by cases b <;> rfl
theorem pL_ok {s : Nat → Nat} {tl q : Nat} {F : Nat → PR} (h128 : ∀ j, tl ≤ j → s j = 128) (hF : ∀ a, a ≤ tl → OKR tl q a (F a)) (a0 : Nat) : ∀ (k : Nat) (pa po : Bool) (acc : List Tk) (a : Nat), a ≤ tl → a0 ≤ a → tl + 1 ≤ a + k → a0 + acc.length + bv pa + bv po ≤ a →
    a ≤ (pL F s k pa po acc a).2.1 ∧ (pL F s k pa po acc a).2.1 ≤ tl ∧ ((pL F s k pa po acc a).1 = true → a < (pL F s k pa po acc a).2.1 ∧ a0 + (pL F s k pa po acc a).2.2.length ≤ (pL F s k pa po acc a).2.1 ∧ ∀ d, d + 2 + 2 * q < 30 → tkDs d acc = some (d + bv pa + bv po) → tkDs d (pL F s k pa po acc a).2.2 = some (d + 1))
  | 0, pa, po, acc, a, ha, h0, hk, hl => by omega
  | k + 1, pa, po, acc, a, ha, h0, hk, hl => by
    obtain ⟨f1, f2, f3⟩ := hF a ha
    have bpa : bv pa ≤ 1 := by cases pa <;> decide
    have bpo : bv po ≤ 1 := by cases po <;> decide
    unfold pL
    by_cases hr : (F a).1 = true
    · rw [if_pos hr]
      obtain ⟨g1, g2, g3⟩ := f3 hr
      have ds1 : ∀ d, d + 2 + 2 * q < 30 → tkDs d acc = some (d + bv pa + bv po) → tkDs d (acc ++ (F a).2.2 ++ (if pa = true then [tAND] else [])) = some (d + 1 + bv po) := by
        intro d hd he
        rw [tkDs_app, tkDs_app, he]
        show ((tkDs (d + bv pa + bv po) (F a).2.2).bind fun e => tkDs e (if pa = true then [tAND] else [])) = _
        rw [g3 _ (by omega)]
        show tkDs (d + bv pa + bv po + 1) (if pa = true then [tAND] else []) = _
        rw [opt_ds (d := 0) (Or.inl rfl) (by cases pa; exact Or.inr rfl; exact Or.inl (by show 2 ≤ d + 1 + bv po + 1; omega))]
        congr 1
        omega
      have ds2 : ∀ d, d + 2 + 2 * q < 30 → tkDs d acc = some (d + bv pa + bv po) → tkDs d (acc ++ (F a).2.2 ++ (if pa = true then [tAND] else []) ++ (if po = true then [tOR] else [])) = some (d + 1) := by
        intro d hd he
        rw [tkDs_app, ds1 d hd he]
        show tkDs (d + 1 + bv po) (if po = true then [tOR] else []) = _
        rw [opt_ds (d := 0) (Or.inr rfl) (by cases po; exact Or.inr rfl; exact Or.inl (by show 2 ≤ d + 1 + 1; omega))]
        congr 1
        omega
      have l1 : (acc ++ (F a).2.2 ++ (if pa = true then [tAND] else [])).length = acc.length + (F a).2.2.length + bv pa := by rw [List.length_append, List.length_append, opt_len]
      have l2 : (acc ++ (F a).2.2 ++ (if pa = true then [tAND] else []) ++ (if po = true then [tOR] else [])).length = acc.length + (F a).2.2.length + bv pa + bv po := by rw [List.length_append, l1, opt_len]
      by_cases h38 : s (F a).2.1 = 38
      · rw [if_pos h38]
        have i1 := in_tl h128 (a := (F a).2.1) (by omega)
        obtain ⟨r1, r2, r3⟩ := pL_ok h128 hF a0 k true po (acc ++ (F a).2.2 ++ (if pa = true then [tAND] else [])) ((F a).2.1 + 1) (by omega) (by omega) (by omega) (by rw [l1, bvt]; omega)
        refine ⟨by omega, r2, fun h => ?_⟩
        obtain ⟨e1, e2, e3⟩ := r3 h
        exact ⟨by omega, e2, fun d hd he => e3 d hd (by rw [ds1 d hd he, bvt])⟩
      rw [if_neg h38]
      by_cases h124 : s (F a).2.1 = 124
      · rw [if_pos h124]
        have i1 := in_tl h128 (a := (F a).2.1) (by omega)
        obtain ⟨r1, r2, r3⟩ := pL_ok h128 hF a0 k false true (acc ++ (F a).2.2 ++ (if pa = true then [tAND] else []) ++ (if po = true then [tOR] else [])) ((F a).2.1 + 1) (by omega) (by omega) (by omega) (by rw [l2, bvt, bvf]; omega)
        refine ⟨by omega, r2, fun h => ?_⟩
        obtain ⟨e1, e2, e3⟩ := r3 h
        exact ⟨by omega, e2, fun d hd he => e3 d hd (by rw [ds2 d hd he, bvt, bvf])⟩
      rw [if_neg h124]
      exact ⟨f1, f2, fun _ => ⟨g1, by rw [l2]; show a0 + (acc.length + (F a).2.2.length + bv pa + bv po) ≤ (F a).2.1; omega, fun d hd he => ds2 d hd he⟩⟩
    · rw [if_neg hr]
      exact ⟨f1, f2, fun h => absurd (show false = true from h) Bool.false_ne_true⟩
theorem pF_ok {s : Nat → Nat} {tl : Nat} (h128 : ∀ j, tl ≤ j → s j = 128) (htl : tl ≤ 100) : ∀ (q a : Nat), a ≤ tl → OKR tl q a (pF s q a)
  | 0, a, ha => pTest_ok h128 ha 0
  | q + 1, a, ha => by
    unfold pF
    by_cases h33 : s a = 33
    · rw [if_pos h33]
      have i1 := in_tl h128 (a := a) (by omega)
      obtain ⟨f1, f2, f3⟩ := pF_ok h128 htl q (a + 1) (by omega)
      by_cases hr : (pF s q (a + 1)).1 = true
      · rw [if_pos hr]
        obtain ⟨g1, g2, g3⟩ := f3 hr
        refine ⟨by show a ≤ (pF s q (a + 1)).2.1; omega, f2, fun _ => ⟨by show a < (pF s q (a + 1)).2.1; omega, by show a + ((pF s q (a + 1)).2.2 ++ [tNOT]).length ≤ (pF s q (a + 1)).2.1; rw [List.length_append]; show a + ((pF s q (a + 1)).2.2.length + 1) ≤ _; omega, fun d hd => ?_⟩⟩
        show tkDs d ((pF s q (a + 1)).2.2 ++ [tNOT]) = _
        rw [tkDs_app, g3 d (by omega)]
        show (tkD (d + 1) tNOT).bind (fun e => tkDs e []) = some (d + 1)
        have : tkD (d + 1) tNOT = some (d + 1) := by
          unfold tkD
          rw [if_neg (by decide), if_pos (show tNOT.1 = 3 from rfl), if_pos ⟨by omega, rfl⟩]
        rw [this]
        rfl
      · rw [if_neg hr]
        exact ⟨by show a ≤ (pF s q (a + 1)).2.1; omega, f2, fun h => absurd (show false = true from h) Bool.false_ne_true⟩
    rw [if_neg h33]
    by_cases h40 : s a = 40
    · rw [if_pos h40]
      have i1 := in_tl h128 (a := a) (by omega)
      obtain ⟨f1, f2, f3⟩ := pL_ok h128 (fun a ha => pF_ok h128 htl q a ha) (a + 1) 101 false false [] (a + 1) (by omega) (by omega) (by omega) (by show a + 1 + 0 + 0 + 0 ≤ a + 1; omega)
      generalize pL (pF s q) s 101 false false [] (a + 1) = r at f1 f2 f3
      by_cases hr : r.1 = true
      · rw [if_pos hr]
        obtain ⟨g1, g2, g3⟩ := f3 hr
        by_cases h41 : s r.2.1 = 41
        · rw [if_pos h41]
          have i2 := in_tl h128 (a := r.2.1) (by omega)
          exact ⟨by show a ≤ r.2.1 + 1; omega, by show r.2.1 + 1 ≤ tl; omega, fun _ => ⟨by show a < r.2.1 + 1; omega, by show a + r.2.2.length ≤ r.2.1 + 1; omega, fun d hd => g3 d (by omega) rfl⟩⟩
        · rw [if_neg h41]
          exact ⟨by show a ≤ r.2.1; omega, f2, fun h => absurd (show false = true from h) Bool.false_ne_true⟩
      · rw [if_neg hr]
        exact ⟨by show a ≤ r.2.1; omega, f2, fun h => absurd (show false = true from h) Bool.false_ne_true⟩
    rw [if_neg h40]
    exact pTest_ok h128 ha (q + 1)
theorem pE_ok {s : Nat → Nat} {tl q a : Nat} (h128 : ∀ j, tl ≤ j → s j = 128) (htl : tl ≤ 100) (ha : a ≤ tl) : a ≤ (pE s q a).2.1 ∧ (pE s q a).2.1 ≤ tl ∧ ((pE s q a).1 = true → a < (pE s q a).2.1 ∧ a + (pE s q a).2.2.length ≤ (pE s q a).2.1 ∧ ∀ d, d + 2 + 2 * q < 30 → tkDs d (pE s q a).2.2 = some (d + 1)) := by
  obtain ⟨f1, f2, f3⟩ := pL_ok h128 (fun a ha => pF_ok h128 htl q a ha) a 101 false false [] a ha (by omega) (by omega) (by show a + 0 + 0 + 0 ≤ a; omega)
  exact ⟨f1, f2, fun h => ⟨(f3 h).1, (f3 h).2.1, fun d hd => (f3 h).2.2 d hd rfl⟩⟩
