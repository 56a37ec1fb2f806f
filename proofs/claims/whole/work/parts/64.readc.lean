/-! PURE PART: the class reads. -/
def BC (c : zM) (s : Nat → Nat) (tl : Nat) : Prop := tl ≤ 100 ∧ c.1 10 0 1 = nI tl ∧ (∀ j, j < tl → s j < 128 ∧ c.1 11 0 j = nI (s j)) ∧ ∀ j, tl ≤ j → s j = 128
def CT (c C : zM) (e a : Nat) (W : List Int32) (hv : Int32) : Prop := C.2 = c.2 ∧ (∀ k i j, ¬ (k = 10 ∧ i = 0 ∧ (j = 2 ∨ j = 3)) → ¬ (k = 13 ∧ i = e ∧ (j = 1 ∨ j = 3)) → ¬ (k = 14 ∧ i = e) → C.1 k i j = c.1 k i j) ∧ C.1 10 0 2 = nI a ∧ C.1 13 e 1 = nI W.length ∧ C.1 13 e 3 = hv ∧ ∀ j, j < W.length → C.1 14 e j = W.getD j 0
theorem CT_at {c C : zM} {e a : Nat} {W : List Int32} {hv : Int32} (h : CT c C e a W hv) (a' : Nat) : CT c (zset C 10 0 2 (nI a')) e a' W hv := by
  obtain ⟨h1, h2, h3, h4, h5, h6⟩ := h
  exact ⟨h1, fun k i j q1 q2 q3 => by rw [zg_n (by omega), h2 k i j q1 q2 q3], zg_e ⟨rfl, rfl, rfl⟩, by rw [zg_n (by omega), h4], by rw [zg_n (by omega), h5], fun j hj => by rw [zg_n (by omega), h6 j hj]⟩
theorem CT_num {c C : zM} {e a : Nat} {W : List Int32} {hv : Int32} (h : CT c C e a W hv) (v : Int32) : CT c (zset C 10 0 3 v) e a W hv := by
  obtain ⟨h1, h2, h3, h4, h5, h6⟩ := h
  exact ⟨h1, fun k i j q1 q2 q3 => by rw [zg_n (by omega), h2 k i j q1 q2 q3], by rw [zg_n (by omega), h3], by rw [zg_n (by omega), h4], by rw [zg_n (by omega), h5], fun j hj => by rw [zg_n (by omega), h6 j hj]⟩
section
variable {c : zM} {s : Nat → Nat} {tl e : Nat}
theorem CT_len {C : zM} {a : Nat} {W : List Int32} {hv : Int32} (hB : BC c s tl) (h : CT c C e a W hv) : C.1 10 0 1 = nI tl := by rw [h.2.1 _ _ _ (by omega) (by omega) (by omega), hB.2.1]
theorem CT_sg {C : zM} {a : Nat} {W : List Int32} {hv : Int32} (hB : BC c s tl) (h : CT c C e a W hv) {j : Nat} (hj : j < tl) : C.1 11 0 j = nI (s j) := by rw [h.2.1 _ _ _ (by omega) (by omega) (by omega), (hB.2.2.1 j hj).2]
theorem sees_e {C : zM} {a x : Nat} {W : List Int32} {hv : Int32} (hB : BC c s tl) (h : CT c C e a W hv) (ha : a ≤ tl) (hx : x < 128) : qT_sees C (nI x) = some (if s a = x then nI 1 else nI 0, C) := by
  have htl := hB.1
  unfold qT_sees
  simp only [zl0, zl1, zl2, zl3, zl4, zl5, zl6, zl7, zl8, zl9, zl10, zl11, zl12, zl13, zl14, zl16, zl18, zl19, zl20, zl22, zl24, zl30, zl32, zl33, zl36, zl38, zl40, zl41, zl48, zl50, zl51, zl57, zl59, zl60, zl61, zl62, zl70, zl71, zl99, zl100, zl103, zl104, zl105, zl106, zl107, zl108, zl109, zl110, zl111, zl112, zl113, zl114, zl115, zl116, zl124, zl127, zl255, zl999, zl1000, zl1001, zl1002, zl1003]
  rw [CT_len hB h, h.2.2.1]
  by_cases q : tl ≤ a
  · rw [if_pos (nI_le (by omega) (by omega)), if_neg (by rw [hB.2.2.2 a q]; omega)]
  · have := (hB.2.2.1 a (by omega)).1
    rw [if_neg (nI_ge (by omega) (by omega)), zchk_e (ze_in (by omega) (by omega)), ze_cl (show a < 2 ^ 31 by omega), CT_sg hB h (by omega)]
    by_cases q2 : s a = x
    · rw [if_pos q2, if_pos (by rw [q2])]
    · rw [if_neg q2, if_neg (znI_ne (by omega) (by omega) q2)]
theorem pass_y {C : zM} {a x : Nat} {W : List Int32} {hv : Int32} (hB : BC c s tl) (h : CT c C e a W hv) (ha : a ≤ tl) (hx : x < 128) (hs : s a = x) : ∃ C', qT_passes C (nI x) = some (nI 1, C') ∧ CT c C' e (a + 1) W hv ∧ a < tl ∧ C'.1 10 0 3 = C.1 10 0 3 := by
  have htl := hB.1
  have hlt : a < tl := in_tl hB.2.2.2 (by omega)
  refine ⟨zset C 10 0 2 (nI (a + 1)), ?_, CT_at h (a + 1), hlt, by rw [zg_n (by omega)]⟩
  unfold qT_passes
  simp only [zl0, zl1, zl2, zl3, zl4, zl5, zl6, zl7, zl8, zl9, zl10, zl11, zl12, zl13, zl14, zl16, zl18, zl19, zl20, zl22, zl24, zl30, zl32, zl33, zl36, zl38, zl40, zl41, zl48, zl50, zl51, zl57, zl59, zl60, zl61, zl62, zl70, zl71, zl99, zl100, zl103, zl104, zl105, zl106, zl107, zl108, zl109, zl110, zl111, zl112, zl113, zl114, zl115, zl116, zl124, zl127, zl255, zl999, zl1000, zl1001, zl1002, zl1003]
  rw [CT_len hB h, h.2.2.1, if_neg (nI_ge (by omega) (by omega)), zchk_e (ze_in (by omega) (by omega)), ze_cl (show a < 2 ^ 31 by omega), CT_sg hB h hlt, if_pos (by rw [hs]), ze_add, znm_e]
theorem pass_n {C : zM} {a x : Nat} {W : List Int32} {hv : Int32} (hB : BC c s tl) (h : CT c C e a W hv) (ha : a ≤ tl) (hx : x < 128) (hs : s a ≠ x) : qT_passes C (nI x) = some (nI 0, C) := by
  have htl := hB.1
  unfold qT_passes
  simp only [zl0, zl1, zl2, zl3, zl4, zl5, zl6, zl7, zl8, zl9, zl10, zl11, zl12, zl13, zl14, zl16, zl18, zl19, zl20, zl22, zl24, zl30, zl32, zl33, zl36, zl38, zl40, zl41, zl48, zl50, zl51, zl57, zl59, zl60, zl61, zl62, zl70, zl71, zl99, zl100, zl103, zl104, zl105, zl106, zl107, zl108, zl109, zl110, zl111, zl112, zl113, zl114, zl115, zl116, zl124, zl127, zl255, zl999, zl1000, zl1001, zl1002, zl1003]
  rw [CT_len hB h, h.2.2.1]
  by_cases q : tl ≤ a
  · rw [if_pos (nI_le (by omega) (by omega))]
  · have := (hB.2.2.1 a (by omega)).1
    rw [if_neg (nI_ge (by omega) (by omega)), zchk_e (ze_in (by omega) (by omega)), ze_cl (show a < 2 ^ 31 by omega), CT_sg hB h (by omega), if_neg (znI_ne (by omega) (by omega) hs)]
theorem dig_e {C : zM} {a : Nat} {W : List Int32} {hv : Int32} (hB : BC c s tl) (h : CT c C e a W hv) (ha : a ≤ tl) : qT_seesDigit C = some (if dg (s a) = true then nI 1 else nI 0, C) := by
  have htl := hB.1
  unfold qT_seesDigit
  simp only [zl0, zl1, zl2, zl3, zl4, zl5, zl6, zl7, zl8, zl9, zl10, zl11, zl12, zl13, zl14, zl16, zl18, zl19, zl20, zl22, zl24, zl30, zl32, zl33, zl36, zl38, zl40, zl41, zl48, zl50, zl51, zl57, zl59, zl60, zl61, zl62, zl70, zl71, zl99, zl100, zl103, zl104, zl105, zl106, zl107, zl108, zl109, zl110, zl111, zl112, zl113, zl114, zl115, zl116, zl124, zl127, zl255, zl999, zl1000, zl1001, zl1002, zl1003]
  rw [CT_len hB h, h.2.2.1]
  by_cases q : tl ≤ a
  · have := hB.2.2.2 a q
    rw [if_pos (nI_le (by omega) (by omega)), if_neg (by rw [dg_e]; omega)]
  · have := (hB.2.2.1 a (by omega)).1
    rw [if_neg (nI_ge (by omega) (by omega)), zchk_e (ze_in (by omega) (by omega)), ze_cl (show a < 2 ^ 31 by omega), CT_sg hB h (by omega), zchk_e (ze_in (by omega) (by omega))]
    by_cases q2 : s a < 48
    · rw [if_pos (nI_lt q2 (by omega)), if_neg (by rw [dg_e]; omega)]
    rw [if_neg (nI_nlt (by omega) (by omega))]
    by_cases q3 : 57 < s a
    · rw [if_pos (nI_lt q3 (by omega)), if_neg (by rw [dg_e]; omega)]
    · rw [if_neg (nI_nlt (by omega) (by omega)), if_pos (by rw [dg_e]; omega)]
theorem num_e {C : zM} {a : Nat} {W : List Int32} {hv : Int32} (hB : BC c s tl) (h : CT c C e a W hv) (ha : a ≤ tl) : ∃ C', qT_readNumber C = some (nI (bv (pNum s a).1), C') ∧ CT c C' e (pNum s a).2.1 W hv ∧ ((pNum s a).1 = true → C'.1 10 0 3 = nI (pNum s a).2.2) := by
  have htl := hB.1
  unfold pNum
  by_cases q1 : dg (s a) = true
  · have k1 := dg_e.mp q1
    have i1 := in_tl hB.2.2.2 (a := a) (by omega)
    have hA : CT c (zset (zset C 10 0 3 (nI (s a - 48))) 10 0 2 (nI (a + 1))) e (a + 1) W hv := CT_at (CT_num h _) _
    have d2 := dig_e hB hA (by omega)
    rw [if_pos q1]
    have head : ∀ R, zbnd (qT_seesDigit (zset (zset C 10 0 3 (nI (s a - 48))) 10 0 2 (nI (a + 1)))) (fun x7 M6 => if x7 = nI 0 then (some (nI 1, M6)) else (zchk (zin (M6.1 10 0 2) 100) (znm (zset M6 10 0 3 ((((M6.1 10 0 3) * nI 10) + (M6.1 11 0 (M6.1 10 0 2).toNatClampNeg)) - nI 48)) fun M9 => znm (zset M9 10 0 2 ((M9.1 10 0 2) + nI 1)) fun M10 => some (nI 1, M10)))) = R → qT_readNumber C = R := by
      intro R hR
      have d1 := dig_e hB h ha
      rw [if_pos q1] at d1
      unfold qT_readNumber
      simp only [zl0, zl1, zl2, zl3, zl4, zl5, zl6, zl7, zl8, zl9, zl10, zl11, zl12, zl13, zl14, zl16, zl18, zl19, zl20, zl22, zl24, zl30, zl32, zl33, zl36, zl38, zl40, zl41, zl48, zl50, zl51, zl57, zl59, zl60, zl61, zl62, zl70, zl71, zl99, zl100, zl103, zl104, zl105, zl106, zl107, zl108, zl109, zl110, zl111, zl112, zl113, zl114, zl115, zl116, zl124, zl127, zl255, zl999, zl1000, zl1001, zl1002, zl1003]
      rw [zb_y d1, h.2.2.1, zchk_e (ze_in (by omega) (by omega)), ze_cl (show a < 2 ^ 31 by omega), CT_sg hB h i1, ze_sub (by omega), znm_e, zg_n (by omega), h.2.2.1, ze_add, znm_e]
      exact hR
    by_cases q2 : dg (s (a + 1)) = true
    · have k2 := dg_e.mp q2
      have i2 := in_tl hB.2.2.2 (a := a + 1) (by omega)
      rw [if_pos q2] at d2 ⊢
      refine ⟨_, head _ ?_, CT_at (CT_num hA (nI ((s a - 48) * 10 + (s (a + 1) - 48)))) (a + 2), fun _ => ?_⟩
      · have e3 : (zset (zset C 10 0 3 (nI (s a - 48))) 10 0 2 (nI (a + 1))).1 10 0 3 = nI (s a - 48) := by rw [zg_n (by omega), zg_e ⟨rfl, rfl, rfl⟩]
        rw [zb_y d2, hA.2.2.1, zchk_e (ze_in (by omega) (by omega)), ze_cl (show a + 1 < 2 ^ 31 by omega), CT_sg hB hA i2, e3, ze_mul, ze_add, ze_sub (by omega), znm_e, zg_n (by omega), hA.2.2.1, ze_add, znm_e, show (s a - 48) * 10 + s (a + 1) - 48 = (s a - 48) * 10 + (s (a + 1) - 48) by omega]
        rfl
      · rw [zg_n (by omega), zg_e ⟨rfl, rfl, rfl⟩]
    · rw [if_neg q2] at d2 ⊢
      refine ⟨_, head _ ?_, hA, fun _ => by rw [zg_n (by omega), zg_e ⟨rfl, rfl, rfl⟩]⟩
      rw [zb_n d2]
      rfl
  · rw [if_neg q1]
    refine ⟨C, ?_, h, fun q => absurd (show false = true from q) Bool.false_ne_true⟩
    have d1 := dig_e hB h ha
    rw [if_neg q1] at d1
    unfold qT_readNumber
    simp only [zl0, zl1, zl2, zl3, zl4, zl5, zl6, zl7, zl8, zl9, zl10, zl11, zl12, zl13, zl14, zl16, zl18, zl19, zl20, zl22, zl24, zl30, zl32, zl33, zl36, zl38, zl40, zl41, zl48, zl50, zl51, zl57, zl59, zl60, zl61, zl62, zl70, zl71, zl99, zl100, zl103, zl104, zl105, zl106, zl107, zl108, zl109, zl110, zl111, zl112, zl113, zl114, zl115, zl116, zl124, zl127, zl255, zl999, zl1000, zl1001, zl1002, zl1003]
    rw [zb_n d1]
    rfl
theorem wd_key : ∀ x, x < 8 → ∀ y, y < 6 → ∀ z, z < 100 → ((nI x <<< (nI 16 &&& 31)) ||| (nI y <<< (nI 8 &&& 31))) ||| nI z = nI (x * 65536 + y * 256 + z) := by decide +kernel
theorem app_e {C : zM} {a x y z : Nat} {W : List Int32} {hv : Int32} (h : CT c C e a W hv) (hW : W.length < 100) (hx : x < 8) (hy : y < 6) (hz : z < 100) : ∃ C', qE_append C e (nI x) (nI y) (nI z) = some ((), C') ∧ CT c C' e a (W ++ [nI (x * 65536 + y * 256 + z)]) hv := by
  obtain ⟨h1, h2, h3, h4, h5, h6⟩ := h
  refine ⟨zset (zset C 14 e W.length (nI (x * 65536 + y * 256 + z))) 13 e 1 (nI (W.length + 1)), ?_, h1, fun k i j q1 q2 q3 => by rw [zg_n (by omega), zg_n (by omega), h2 k i j q1 q2 q3], by rw [zg_n (by omega), zg_n (by omega), h3], by rw [zg_e ⟨rfl, rfl, rfl⟩, List.length_append]; rfl, by rw [zg_n (by omega), zg_n (by omega), h5], fun j hj => ?_⟩
  · unfold qE_append
    simp only [zl0, zl1, zl2, zl3, zl4, zl5, zl6, zl7, zl8, zl9, zl10, zl11, zl12, zl13, zl14, zl16, zl18, zl19, zl20, zl22, zl24, zl30, zl32, zl33, zl36, zl38, zl40, zl41, zl48, zl50, zl51, zl57, zl59, zl60, zl61, zl62, zl70, zl71, zl99, zl100, zl103, zl104, zl105, zl106, zl107, zl108, zl109, zl110, zl111, zl112, zl113, zl114, zl115, zl116, zl124, zl127, zl255, zl999, zl1000, zl1001, zl1002, zl1003]
    rw [h4, if_neg (nI_ge (by omega) (by omega)), zchk_e (ze_in (by omega) (by omega)), ze_cl (show W.length < 2 ^ 31 by omega), wd_key x hx y hy z hz, znm_e, zg_n (by omega), h4, ze_add, znm_e]
  · rw [List.length_append] at hj
    have hj : j < W.length + 1 := hj
    rw [zg_n (by omega)]
    by_cases q : j = W.length
    · rw [q, zg_e ⟨rfl, rfl, rfl⟩, List.getD_eq_getElem?_getD, List.getElem?_append_right (Nat.le_refl _), Nat.sub_self]
      rfl
    · rw [zg_n (by omega), h6 j (by omega), List.getD_eq_getElem?_getD, List.getD_eq_getElem?_getD, List.getElem?_append_left (by omega)]
end
/-! letters and words -/
theorem ch_key : ∀ h, h < 128 → ((nI h).toUInt32 % 65536).toInt32 = nI h ∧ (nI h).toInt8.toInt32 = nI h := by decide +kernel
theorem lt_key : ∀ v, v < 6 → (zbyt.getD 3 []).getD v 0 = nI ([103, 107, 116, 112, 108, 110].getD v 0) := by decide +kernel
theorem idx_e (M : zM) {h : Nat} (hh : h < 128) : qS_indexOf M 3 (((nI h).toUInt32 % 65536).toInt32) = some (if plc h < 6 then nI (plc h) else -nI 1, M) := by
  have st : ∀ F v, v < 6 → qL_indexOfChar_L7 3 (nI 6) (nI h) (F + 1) M (nI v) = if [103, 107, 116, 112, 108, 110].getD v 0 = h then some (nI v, M) else qL_indexOfChar_L7 3 (nI 6) (nI h) F M (nI (v + 1)) := by
    intro F v hv
    have hl : [103, 107, 116, 112, 108, 110].getD v 0 < 128 := by
      have : ∀ v, v < 6 → [103, 107, 116, 112, 108, 110].getD v 0 < 128 := by decide
      exact this v hv
    generalize hR : qL_indexOfChar_L7 3 (nI 6) (nI h) F M (nI (v + 1)) = R
    unfold qL_indexOfChar_L7
    simp only [zl0, zl1, zl2, zl3, zl4, zl5, zl6, zl7, zl8, zl9, zl10, zl11, zl12, zl13, zl14, zl16, zl18, zl19, zl20, zl22, zl24, zl30, zl32, zl33, zl36, zl38, zl40, zl41, zl48, zl50, zl51, zl57, zl59, zl60, zl61, zl62, zl70, zl71, zl99, zl100, zl103, zl104, zl105, zl106, zl107, zl108, zl109, zl110, zl111, zl112, zl113, zl114, zl115, zl116, zl124, zl127, zl255, zl999, zl1000, zl1001, zl1002, zl1003]
    rw [if_neg (nI_ge (by omega) (by omega)), zchk_e (ze_in (show v < zlen.getD 3 0 from hv) (by decide)), ze_cl (show v < 2 ^ 31 by omega), ← zl0, lt_key v hv, ze_add, hR]
    by_cases q : [103, 107, 116, 112, 108, 110].getD v 0 = h
    · rw [if_pos q, if_pos (by rw [q])]
    · rw [if_neg q, if_neg (znI_ne (by omega) (by omega) q)]
  have fin : ∀ F, qL_indexOfChar_L7 3 (nI 6) (nI h) (F + 1) M (nI 6) = some (-nI 1, M) := by
    intro F
    unfold qL_indexOfChar_L7
    simp only [zl0, zl1, zl2, zl3, zl4, zl5, zl6, zl7, zl8, zl9, zl10, zl11, zl12, zl13, zl14, zl16, zl18, zl19, zl20, zl22, zl24, zl30, zl32, zl33, zl36, zl38, zl40, zl41, zl48, zl50, zl51, zl57, zl59, zl60, zl61, zl62, zl70, zl71, zl99, zl100, zl103, zl104, zl105, zl106, zl107, zl108, zl109, zl110, zl111, zl112, zl113, zl114, zl115, zl116, zl124, zl127, zl255, zl999, zl1000, zl1001, zl1002, zl1003]
    rw [if_pos (nI_le (by omega) (by omega))]
  have all : qL_indexOfChar_L7 3 (nI 6) (nI h) 1000 M (nI 0) = some (if plc h < 6 then nI (plc h) else -nI 1, M) := by
    rw [show (1000 : Nat) = 993 + 1 + 1 + 1 + 1 + 1 + 1 + 1 from rfl, st _ 0 (by decide), st _ 1 (by decide), st _ 2 (by decide), st _ 3 (by decide), st _ 4 (by decide), st _ 5 (by decide), fin]
    unfold plc
    show (if 103 = h then _ else if 107 = h then _ else if 116 = h then _ else if 112 = h then _ else if 108 = h then _ else if 110 = h then _ else _) = _
    by_cases q0 : h = 103
    · rw [if_pos q0.symm, if_pos q0]; rfl
    rw [if_neg (fun q => q0 q.symm), if_neg q0]
    by_cases q1 : h = 107
    · rw [if_pos q1.symm, if_pos q1]; rfl
    rw [if_neg (fun q => q1 q.symm), if_neg q1]
    by_cases q2 : h = 116
    · rw [if_pos q2.symm, if_pos q2]; rfl
    rw [if_neg (fun q => q2 q.symm), if_neg q2]
    by_cases q3 : h = 112
    · rw [if_pos q3.symm, if_pos q3]; rfl
    rw [if_neg (fun q => q3 q.symm), if_neg q3]
    by_cases q4 : h = 108
    · rw [if_pos q4.symm, if_pos q4]; rfl
    rw [if_neg (fun q => q4 q.symm), if_neg q4]
    by_cases q5 : h = 110
    · rw [if_pos q5.symm, if_pos q5]; rfl
    rw [if_neg (fun q => q5 q.symm), if_neg q5]; rfl
  have l6 : zlen.getD 3 0 = 6 := rfl
  have sh : (nI 6 : Int32) >>> (nI 0 &&& 31) = nI 6 := by decide +kernel
  rw [(ch_key h hh).1]
  unfold qS_indexOf qS_indexOf2 qS_isLatin1 qS_length qS_coder qL_indexOf qL_canEncode qL_indexOfChar
  simp only [zl0, zl1, zl2, zl3, zl4, zl5, zl6, zl7, zl8, zl9, zl10, zl11, zl12, zl13, zl14, zl16, zl18, zl19, zl20, zl22, zl24, zl30, zl32, zl33, zl36, zl38, zl40, zl41, zl48, zl50, zl51, zl57, zl59, zl60, zl61, zl62, zl70, zl71, zl99, zl100, zl103, zl104, zl105, zl106, zl107, zl108, zl109, zl110, zl111, zl112, zl113, zl114, zl115, zl116, zl124, zl127, zl255, zl999, zl1000, zl1001, zl1002, zl1003, l6]
  have n1 : ¬ (nI 1 : Int32) = nI 0 := znI_ne (by decide) (by decide) (by decide)
  have n2 : ¬ (nI 0 : Int32) < nI 0 := nI_nlt (by omega) (by omega)
  have n3 : ¬ (nI h : Int32) < nI 0 := nI_nlt (by omega) (by omega)
  have n4 : ¬ (nI 255 : Int32) < nI h := nI_nlt (by omega) (by omega)
  have n5 : ¬ (nI 6 : Int32) < nI 6 := nI_nlt (by omega) (by omega)
  have n6 : (nI 0 : Int32) < nI 6 := nI_lt (by omega) (by omega)
  simp only [if_neg n1, if_pos trivial, zbnd_s, sh, if_neg n3, if_neg n4, znm_e, if_neg n2, if_neg n5, if_pos n6, (ch_key h hh).2, all]
def wd (k : Nat) : List Nat := if k = 0 then [104, 97, 110, 100, 115, 32] else if k = 1 then [111, 100, 100, 32] else [115, 117, 114, 101, 32]
theorem wd_ch : ∀ k, k < 3 → zlen.getD k 0 = (wd k).length ∧ (wd k).length < 7 ∧ ∀ v, v < (wd k).length → (((((zbyt.getD k []).getD v 0) &&& (255 : Int32)).toUInt32 % 65536).toInt32) = nI ((wd k).getD v 0) ∧ (wd k).getD v 0 < 128 := by decide +kernel
theorem chr_e (M : zM) {k v : Nat} (hk : k < 3) (hv : v < (wd k).length) : qS_length M k = some (nI (wd k).length, M) ∧ qS_charAt M k (nI v) = some (nI ((wd k).getD v 0), M) := by
  obtain ⟨w1, w2, w3⟩ := wd_ch k hk
  have n1 : ¬ (nI 1 : Int32) = nI 0 := znI_ne (by decide) (by decide) (by decide)
  refine ⟨?_, ?_⟩
  · have sh : ∀ x, x < 7 → (nI x : Int32) >>> (nI 0 &&& 31) = nI x := by decide +kernel
    unfold qS_length qS_coder
    simp only [zl0, zl1, zl2, zl3, zl4, zl5, zl6, zl7, zl8, zl9, zl10, zl11, zl12, zl13, zl14, zl16, zl18, zl19, zl20, zl22, zl24, zl30, zl32, zl33, zl36, zl38, zl40, zl41, zl48, zl50, zl51, zl57, zl59, zl60, zl61, zl62, zl70, zl71, zl99, zl100, zl103, zl104, zl105, zl106, zl107, zl108, zl109, zl110, zl111, zl112, zl113, zl114, zl115, zl116, zl124, zl127, zl255, zl999, zl1000, zl1001, zl1002, zl1003]
    rw [if_neg n1, zbnd_s, w1, sh _ w2]
  · have w4 := (w3 v hv).1
    unfold qS_charAt qS_isLatin1 qL_charAt qS_checkIndex qC_checkIndex
    simp only [zl0, zl1, zl2, zl3, zl4, zl5, zl6, zl7, zl8, zl9, zl10, zl11, zl12, zl13, zl14, zl16, zl18, zl19, zl20, zl22, zl24, zl30, zl32, zl33, zl36, zl38, zl40, zl41, zl48, zl50, zl51, zl57, zl59, zl60, zl61, zl62, zl70, zl71, zl99, zl100, zl103, zl104, zl105, zl106, zl107, zl108, zl109, zl110, zl111, zl112, zl113, zl114, zl115, zl116, zl124, zl127, zl255, zl999, zl1000, zl1001, zl1002, zl1003] at w4 ⊢
    simp only [if_neg n1, if_pos trivial, zbnd_s, w1, if_neg (show ¬ (nI v : Int32) < nI 0 from nI_nlt (by omega) (by omega)), if_pos (show (nI v : Int32) < nI (wd k).length from nI_lt hv (by omega)), zchk_e (ze_in hv (show (wd k).length < 2 ^ 31 by omega)), ze_cl (show v < 2 ^ 31 by omega), w4]
def pWord (s : Nat → Nat) : List Nat → Nat → Bool × Nat
  | [], a => (true, a)
  | x :: l, a => if s a = x then pWord s l (a + 1) else (false, a)
theorem pWord_ok {s : Nat → Nat} {tl : Nat} (h128 : ∀ j, tl ≤ j → s j = 128) : ∀ (l : List Nat) (a : Nat), (∀ x ∈ l, x < 128) → a ≤ tl → a ≤ (pWord s l a).2 ∧ (pWord s l a).2 ≤ tl ∧ ((pWord s l a).1 = true → (pWord s l a).2 = a + l.length)
  | [], a, hl, ha => ⟨Nat.le_refl _, ha, fun _ => rfl⟩
  | x :: l, a, hl, ha => by
    unfold pWord
    by_cases q : s a = x
    · have hx := hl x List.mem_cons_self
      have i1 := in_tl h128 (a := a) (by omega)
      obtain ⟨k1, k2, k3⟩ := pWord_ok h128 l (a + 1) (fun y hy => hl y (List.mem_cons_of_mem _ hy)) (by omega)
      rw [if_pos q]
      exact ⟨by omega, k2, fun h => by rw [k3 h, List.length_cons]; omega⟩
    · rw [if_neg q]
      exact ⟨Nat.le_refl _, ha, fun h => absurd (show false = true from h) Bool.false_ne_true⟩
theorem word_e {c : zM} {s : Nat → Nat} {tl e k : Nat} {W : List Int32} {hv : Int32} (hB : BC c s tl) (hk : k < 3) : ∀ (l : List Nat) (v a F : Nat) (C : zM), (wd k).drop v = l → v ≤ (wd k).length → l.length < F → CT c C e a W hv → a ≤ tl → ∃ C', qT_passesWord_L2 k F C (nI v) = some (nI (bv (pWord s l a).1), C') ∧ CT c C' e (pWord s l a).2 W hv
  | [], v, a, F + 1, C, hl, hv', hF, h, ha => by
    have e1 := congrArg List.length hl
    rw [List.length_drop] at e1
    have e1 : (wd k).length - v = 0 := e1
    have w2 := (wd_ch k hk).2.1
    have n1 : ¬ (nI 1 : Int32) = nI 0 := znI_ne (by decide) (by decide) (by decide)
    have w0 : ∀ k, k < 3 → 0 < (wd k).length := by decide
    have ln : qS_length C k = some (nI (wd k).length, C) := (chr_e C hk (v := 0) (w0 k hk)).1
    refine ⟨C, ?_, h⟩
    unfold qT_passesWord_L2
    rw [zbnd_c ln, if_pos (nI_le (by omega) (by omega))]
    rfl
  | x :: l, v, a, F + 1, C, hl, hv', hF, h, ha => by
    have e1 := congrArg List.length hl
    rw [List.length_drop, List.length_cons] at e1
    have hx : (wd k).getD v 0 = x := by
      have : ((wd k).drop v)[0]? = some x := by rw [hl]; rfl
      rw [List.getElem?_drop, Nat.add_zero] at this
      rw [List.getD_eq_getElem?_getD, this]
      rfl
    have hn : (wd k).drop (v + 1) = l := by
      rw [← List.drop_drop, hl]; rfl
    obtain ⟨ln, ch⟩ := chr_e C hk (v := v) (by omega)
    have hx128 := ((wd_ch k hk).2.2 v (by omega)).2
    have w2 := (wd_ch k hk).2.1
    rw [hx] at ch hx128
    rw [List.length_cons] at hF
    unfold pWord
    by_cases q : s a = x
    · obtain ⟨C1, a1, a2, a3, -⟩ := pass_y hB h ha hx128 q
      obtain ⟨C', k1, k2⟩ := word_e hB hk l (v + 1) (a + 1) F C1 hn (by omega) (by omega) a2 (by omega)
      rw [if_pos q]
      refine ⟨C', ?_, k2⟩
      unfold qT_passesWord_L2
      simp only [zl0, zl1, zl2, zl3, zl4, zl5, zl6, zl7, zl8, zl9, zl10, zl11, zl12, zl13, zl14, zl16, zl18, zl19, zl20, zl22, zl24, zl30, zl32, zl33, zl36, zl38, zl40, zl41, zl48, zl50, zl51, zl57, zl59, zl60, zl61, zl62, zl70, zl71, zl99, zl100, zl103, zl104, zl105, zl106, zl107, zl108, zl109, zl110, zl111, zl112, zl113, zl114, zl115, zl116, zl124, zl127, zl255, zl999, zl1000, zl1001, zl1002, zl1003]
      rw [zbnd_c ln, if_neg (nI_ge (by omega) (by omega)), zbnd_c ch, zb_y a1, ze_add]
      exact k1
    · have a1 := pass_n hB h ha hx128 q
      rw [if_neg q]
      refine ⟨C, ?_, h⟩
      unfold qT_passesWord_L2
      simp only [zl0, zl1, zl2, zl3, zl4, zl5, zl6, zl7, zl8, zl9, zl10, zl11, zl12, zl13, zl14, zl16, zl18, zl19, zl20, zl22, zl24, zl30, zl32, zl33, zl36, zl38, zl40, zl41, zl48, zl50, zl51, zl57, zl59, zl60, zl61, zl62, zl70, zl71, zl99, zl100, zl103, zl104, zl105, zl106, zl107, zl108, zl109, zl110, zl111, zl112, zl113, zl114, zl115, zl116, zl124, zl127, zl255, zl999, zl1000, zl1001, zl1002, zl1003]
      rw [zbnd_c ln, if_neg (nI_ge (by omega) (by omega)), zbnd_c ch, zb_n a1]
      rfl
