/-! PURE PART: the class runs the clauses. -/
theorem tkD_le {d e : Nat} {t : Tk} (h : tkD d t = some e) (hd : d ≤ 30) : e ≤ 30 := by
  unfold tkD at h
  by_cases h1 : t.1 < 3
  · rw [if_pos h1] at h
    by_cases h2 : t.2.1 < 6 ∧ t.2.2 < 100 ∧ d < 30
    · rw [if_pos h2] at h; cases h; omega
    · rw [if_neg h2] at h; cases h
  rw [if_neg h1] at h
  by_cases h3 : t.1 = 3
  · rw [if_pos h3] at h
    by_cases h4 : 1 ≤ d ∧ t.2 = (0, 0)
    · rw [if_pos h4] at h; cases h; omega
    · rw [if_neg h4] at h; cases h
  rw [if_neg h3] at h
  by_cases h6 : t.1 < 6
  · rw [if_pos h6] at h
    by_cases h4 : 2 ≤ d ∧ t.2 = (0, 0)
    · rw [if_pos h4] at h; cases h; omega
    · rw [if_neg h4] at h; cases h
  · rw [if_neg h6] at h; cases h
theorem tkDs_cons {d e : Nat} {t : Tk} {l : List Tk} (h : tkDs d (t :: l) = some e) : ∃ d1, tkD d t = some d1 ∧ tkDs d1 l = some e := by
  unfold tkDs at h
  cases q : tkD d t with
  | none => rw [q] at h; cases h
  | some d1 => rw [q] at h; exact ⟨d1, rfl, h⟩
theorem run_toks {M : zM} {h L : Nat} {f : Nat → Int32} (hL : L ≤ 100) (h13 : M.1 13 h 1 = nI L) (hf : ∀ l, l < 6 → M.1 15 h l = f l) : ∀ (l : List Tk) (s : List Bool) (w F d : Nat) (v1 : Int32) (R : Option (Int32 × zM)), w + l.length ≤ L → (∀ i t, l[i]? = some t → M.1 14 h (w + i) = tkW t) → s.length ≤ 30 → tkDs s.length l = some d → qE_runClauses_L6 h F M v1 (nI (tb (tkEs f l s))) (nI (w + l.length)) = R → qE_runClauses_L6 h (F + l.length) M v1 (nI (tb s)) (nI w) = R
  | [], s, w, F, d, v1, R, hw, h14, hs, hd, hR => hR
  | t :: l, s, w, F, d, v1, R, hw, h14, hs, hd, hR => by
    obtain ⟨d1, g1, g2⟩ := tkDs_cons hd
    have e := tkE_len (f := f) g1
    rw [List.length_cons] at hw hR ⊢
    have ih := run_toks hL h13 hf l (tkE f t s) (w + 1) F d v1 R (by omega) (fun i t' hi => by rw [show w + 1 + i = w + (i + 1) by omega]; exact h14 (i + 1) t' hi) (by rw [e]; exact tkD_le g1 hs) (by rw [e]; exact g2) (by rw [show w + 1 + l.length = w + (l.length + 1) by omega]; exact hR)
    exact run_tok (F := F + l.length) hL (by omega) h13 (h14 0 t rfl) hf hs g1 ih
theorem tkEs_len {f : Nat → Int32} : ∀ (l : List Tk) (s : List Bool) (d : Nat), tkDs s.length l = some d → (tkEs f l s).length = d
  | [], s, d, h => by cases h; rfl
  | t :: l, s, d, h => by
    obtain ⟨d1, g1, g2⟩ := tkDs_cons h
    have e := tkE_len (f := f) g1
    exact tkEs_len l (tkE f t s) d (by rw [e]; exact g2)
/-- what the tokens of a clause come to -/
def tkT (f : Nat → Int32) (l : List Tk) : Bool := (tkEs f l []).headD false
theorem tkT_e {f : Nat → Int32} {l : List Tk} (h : tkDs 0 l = some 1) : tkEs f l [] = [tkT f l] := by
  have e := tkEs_len (f := f) l [] 1 h
  unfold tkT
  match hq : tkEs f l [] with
  | [] => rw [hq] at e; cases e
  | [b] => rfl
  | _ :: _ :: _ => rw [hq] at e; simp only [List.length_cons] at e; omega
def clV (f : Nat → Int32) (q : Cl) (v : Int32) : Int32 := if q.1 = 2 then v else if tkT f q.2.2 then (if q.1 = 0 then v + nI q.2.1 else v - nI q.2.1) else v
def evV (f : Nat → Int32) (cs : List Cl) (v : Int32) : Int32 := cs.foldl (fun v q => clV f q v) v
theorem run_end {M : zM} {h L w F o num : Nat} {b : Bool} {v1 : Int32} (hL : L ≤ 100) (hw : w < L) (h13 : M.1 13 h 1 = nI L) (ho : o < 2) (hn : num < 100) (h14 : M.1 14 h w = nI ((6 + o) * 65536 + num)) {R : Option (Int32 × zM)}
    (hR : qE_runClauses_L6 h F M (if b then (if o = 0 then v1 + nI num else v1 - nI num) else v1) (nI 0) (nI (w + 1)) = R) : qE_runClauses_L6 h (F + 1) M v1 (nI (tb [b])) (nI w) = R := by
  have e1 : ((6 + o) * 65536 + num) / 65536 = 6 + o := by omega
  have e2 : ((6 + o) * 65536 + num) % 256 = num := by omega
  have hb : tb [b] < 2 ^ 30 := tb_lt30 (show [b].length ≤ 30 from Nat.le_of_ble_eq_true rfl)
  unfold qE_runClauses_L6
  simp only [zl0, zl1, zl2, zl3, zl4, zl5, zl6, zl7, zl8, zl9, zl10, zl11, zl12, zl13, zl14, zl16, zl18, zl19, zl20, zl22, zl24, zl30, zl32, zl33, zl36, zl38, zl40, zl41, zl48, zl50, zl51, zl57, zl59, zl60, zl61, zl62, zl70, zl71, zl99, zl100, zl103, zl104, zl105, zl106, zl107, zl108, zl109, zl110, zl111, zl112, zl113, zl114, zl115, zl116, zl124, zl127, zl255, zl999, zl1000, zl1001, zl1002, zl1003]
  rw [h13, if_neg (nI_ge hw (by omega)), zchk_e (ze_in (show w < 100 by omega) (by omega)), ze_cl (show w < 2 ^ 31 by omega), h14]
  rw [sh16 (by omega), an255 (by omega), e1, e2, znm_e]
  simp only [zchk_e (ze_in (show w < 100 by omega) (show 100 < 2 ^ 31 by omega)), znm_e, zjn_e, ze_add]
  rw [if_pos (nI_lt (by omega) (by omega)), if_neg (znI_ne (by omega) (by omega) (by omega)), an1 (by omega), sh1 (by omega), tb_mod, tb_div]
  have n01 : ¬ nI 0 = nI 1 := znI_ne (by omega) (by omega) (by omega)
  have n10 : ¬ nI 1 = nI 0 := znI_ne (by omega) (by omega) (by omega)
  have q1 : (nI (bv false) = nI 1) = False := eq_false n01
  have q2 : (nI (bv true) = nI 1) = True := eq_true rfl
  have t0 : tb ([] : List Bool) = 0 := rfl
  rw [t0]
  rcases (show o = 0 ∨ o = 1 by omega) with rfl | rfl
  · have n4 : ¬ nI (6 + 0) = nI 4 := znI_ne (by omega) (by omega) (by omega)
    have n5 : ¬ nI (6 + 0) = nI 5 := znI_ne (by omega) (by omega) (by omega)
    have n7 : ¬ nI (6 + 0) = nI 7 := znI_ne (by omega) (by omega) (by omega)
    have n6 : nI (6 + 0) = nI 6 := rfl
    cases b
    · simp only [q1, if_false, if_neg n4, if_neg n5, if_neg n7, if_pos n6, ↓reduceIte]
      exact hR
    · simp only [q2, if_true, if_neg n10, if_neg n4, if_neg n5, if_neg n7, if_pos n6, ↓reduceIte]
      exact hR
  · have n4 : ¬ nI (6 + 1) = nI 4 := znI_ne (by omega) (by omega) (by omega)
    have n5 : ¬ nI (6 + 1) = nI 5 := znI_ne (by omega) (by omega) (by omega)
    have n6 : ¬ nI (6 + 1) = nI 6 := znI_ne (by omega) (by omega) (by omega)
    have n7 : nI (6 + 1) = nI 7 := rfl
    cases b
    · simp only [q1, if_false, if_neg n4, if_neg n5, if_neg n6, if_pos n7, ↓reduceIte]
      exact hR
    · simp only [q2, if_true, if_neg n10, if_neg n4, if_neg n5, if_neg n6, if_pos n7, ↓reduceIte]
      exact hR
