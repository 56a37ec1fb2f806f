/-! PURE PART: ORDER. -/
theorem setOrder_e (C : zM) {i a b : Nat} (h : a + b ≤ 3) : qN_setOrder C i (nI a) (nI b) = some ((), zset (zset (zset C 5 i 0 (nI a)) 5 i 1 (nI b)) 5 i 2 (nI (3 - a - b))) := by
  unfold qN_setOrder
  simp (disch := omega) only [↓reduceIte, zbnd_s, zchk_t, znm_e, zjn_e, if_true, if_false, ite_true, ite_false, Nat.zero_add, Nat.add_zero, Nat.mul_zero, Nat.zero_mul, Nat.mul_one, Nat.one_mul, zl0, zl1, zl2, zl3, zl4, zl5, zl6, zl7, zl8, zl9, zl10, zl11, zl12, zl13, zl14, zl16, zl18, zl19, zl20, zl22, zl24, zl30, zl32, zl33, zl36, zl38, zl40, zl41, zl48, zl50, zl51, zl57, zl59, zl60, zl61, zl62, zl70, zl71, zl99, zl100, zl103, zl104, zl105, zl106, zl107, zl108, zl109, zl110, zl111, zl112, zl113, zl114, zl115, zl116, zl124, zl127, zl255, zl999, zl1000, zl1001, zl1002, zl1003, ze_in, ze_ltt, ze_ltf, ze_let, ze_lef, ze_eqt, ze_eqf, ze_cl, ze_add, ze_mul, ze_sub, ze_div, ze_rem, ze_nz, ze_ngt, ze_nle, ze_neq, ze_neq', ze_nlt, ze_nle', zg_e, zg_n, zg_2, zgL_e, zgL_n, zgL_1, show nI 3 - nI a - nI b = nI (3 - a - b) by rw [pk_sub (by omega), pk_sub (by omega)]]
theorem layTale_e (M : zM) {t : Nat} (x y z : Int32) (ht : t < 6) (h : nI 3 - x - y = z) : qM_layTale M (nI t) x y = some ((), zset (zset (zset M 47 0 (3 * t) x) 47 0 (3 * t + 1) y) 47 0 (3 * t + 2) z) := by
  unfold qM_layTale
  simp (disch := omega) only [↓reduceIte, zbnd_s, zchk_t, znm_e, zjn_e, if_true, if_false, ite_true, ite_false, Nat.zero_add, Nat.add_zero, Nat.mul_zero, Nat.zero_mul, Nat.mul_one, Nat.one_mul, zl0, zl1, zl2, zl3, zl4, zl5, zl6, zl7, zl8, zl9, zl10, zl11, zl12, zl13, zl14, zl16, zl18, zl19, zl20, zl22, zl24, zl30, zl32, zl33, zl36, zl38, zl40, zl41, zl48, zl50, zl51, zl57, zl59, zl60, zl61, zl62, zl70, zl71, zl99, zl100, zl103, zl104, zl105, zl106, zl107, zl108, zl109, zl110, zl111, zl112, zl113, zl114, zl115, zl116, zl124, zl127, zl255, zl999, zl1000, zl1001, zl1002, zl1003, ze_in, ze_ltt, ze_ltf, ze_let, ze_lef, ze_eqt, ze_eqf, ze_cl, ze_add, ze_mul, ze_sub, ze_div, ze_rem, ze_nz, ze_ngt, ze_nle, ze_neq, ze_neq', ze_nlt, ze_nle', zg_e, zg_n, zg_2, zgL_e, zgL_n, zgL_1, h]
theorem zst_l1 : zst_l 1 = 18 := rfl
def oA (o : Nat) : Nat := o / 2
def oB (o : Nat) : Nat := if o = 0 then 1 else if o = 1 then 2 else if o = 2 then 0 else if o = 3 then 2 else if o = 4 then 0 else 1
theorem oAB {o : Nat} (h : o < 6) : oA o < 3 ∧ oB o < 3 ∧ oA o ≠ oB o := by
  have : ∀ o, o < 6 → oA o < 3 ∧ oB o < 3 ∧ oA o ≠ oB o := by decide
  exact this o h
theorem zst1 : ∀ o, o < 6 → zst 1 (o * 3) = nI (oA o) ∧ zst 1 (o * 3 + 1) = nI (oB o) ∧ zst 1 (o * 3 + 2) = nI (3 - oA o - oB o) := by decide +kernel
def oP (m : zM) (t : Nat) : Nat → Nat → Prop := fun a j => a = 47 ∧ 3 * t ≤ j ∧ j < 3 * t + 3
/-- the order o tried, on both sides -/
theorem order_step {m : zM} {n rd h e t o : Nat} {cs : List Cl} {a1 w1 w2 : Int32} {E : zM → Int32 → Int32 → Option (Int32 × zM)} {E' : zM → Option (Int32 × zM)} (hn6 : n ≤ 6) (ht : t < n) (ho : o < 6) (hpl : m.1 40 0 30 = -nI 1) {F F' : Nat} {C M : zM} {v3 v4 : Int32} (H : PH C M 2 n rd h e cs) (hM : FRV (oP m t) m M) (h3 : M.1 40 0 32 = v3) (h4 : v3 = -nI 1 ∨ ∃ q, q < 6 ∧ v4 = nI q ∧ M.1 40 0 31 = nI (3 * oA q + oB q)) :
    ∃ C' M' w3 q, q < 6 ∧ (∀ R, qG_order_L41 (nI t) a1 E F C' w3 (nI q) (nI (o + 1)) = R → qG_order_L41 (nI t) a1 E (F + 1) C v3 v4 (nI o) = R) ∧ (∀ R, qM_order_L49 (nI t) a1 w1 w2 E' F' M' (nI (3 * oA o + oB o + 1)) = R → qM_order_L49 (nI t) a1 w1 w2 E' (F' + 1) M (nI (3 * oA o + oB o)) = R) ∧ PH C' M' 2 n rd h e cs ∧ FRT C C' ∧ FRV (oP m t) m M' ∧ M'.1 40 0 32 = w3 ∧ w3 ≠ -nI 1 ∧ M'.1 40 0 31 = nI (3 * oA q + oB q) := by
  obtain ⟨a, b, d⟩ := oAB ho
  obtain ⟨z1, z2, z3⟩ := zst1 o ho
  have H1 := PH_ord (a := oA o) (b := oB o) (d := 3 - oA o - oB o) H ht a b (by omega) d (by omega) (by omega)
  have f1 : FRV (oP m t) m (zset (zset (zset M 47 0 (3 * t) (nI (oA o))) 47 0 (3 * t + 1) (nI (oB o))) 47 0 (3 * t + 2) (nI (3 - oA o - oB o))) := FRV_trans hM (FRV_trans (FRV_set _ _ (Or.inl ⟨rfl, by omega, by omega⟩)) (FRV_trans (FRV_set _ _ (Or.inl ⟨rfl, by omega, by omega⟩)) (FRV_set _ _ (Or.inl ⟨rfl, by omega, by omega⟩))))
  obtain ⟨D, N, hs, tk, k1, k2, k3, k4, k5, k6, k7⟩ := var_e H1 ht (by rw [zg_n (by omega), zg_n (by omega), zg_n (by omega), hM.2 _ _ (by decide) (by decide) (by decide) (by omega) (fun q => by have := q.1; omega), hpl])
  have f2 := FRV_trans f1 (FRV_3 k5)
  have g1 : FRT C D := FRT_trans (FRT_seat (by omega) (by omega) (by omega)) (FRT_trans (FRT_seat (by omega) (by omega) (by omega)) (FRT_trans (FRT_seat (by omega) (by omega) (by omega)) (FRT_c k4)))
  have e32 : N.1 40 0 32 = v3 := by rw [k5.2 _ _ _ (by decide) (by decide) (by decide), zg_n (by omega), zg_n (by omega), zg_n (by omega), h3]
  have e31 : N.1 40 0 31 = M.1 40 0 31 := by rw [k5.2 _ _ _ (by decide) (by decide) (by decide), zg_n (by omega), zg_n (by omega), zg_n (by omega)]
  have dv : nI (3 * oA o + oB o) / nI 3 = nI (oA o) := by rw [ze_div (by omega) (by omega) (by omega), show (3 * oA o + oB o) / 3 = oA o by omega]
  have rm : zrem (nI (3 * oA o + oB o)) (nI 3) = nI (oB o) := by rw [ze_rem (by omega) (by omega) (by omega), show (3 * oA o + oB o) % 3 = oB o by omega]
  have lt := layTale_e M (nI (oA o)) (nI (oB o)) (nI (3 - oA o - oB o)) (show t < 6 by omega) (by rw [pk_sub (by omega), pk_sub (by omega)])
  have so := setOrder_e C (i := 12 + t) (show oA o + oB o ≤ 3 by omega)
  by_cases hc : v3 < nI tk
  · refine ⟨D, zset (zset N 40 0 32 (nI tk)) 40 0 31 (nI (3 * oA o + oB o)), nI tk, o, ho, fun R hR => ?_, fun R hR => ?_, PH_40 k3 (by omega) (by omega), g1, FRV_trans f2 (FRV_trans (FRV_set _ _ (Or.inr (by omega))) (FRV_set _ _ (Or.inr (by omega)))), by rw [zg_n (by omega), zg_e (by omega)], of_eq_false (ze_neq (by omega) (by omega) (by omega)), zg_e (by omega)⟩
    · unfold qG_order_L41
      simp only [zl0, zl1, zl2, zl3, zl4, zl5, zl6, zl7, zl8, zl9, zl10, zl11, zl12, zl13, zl14, zl16, zl18, zl19, zl20, zl22, zl24, zl30, zl32, zl33, zl36, zl38, zl40, zl41, zl48, zl50, zl51, zl57, zl59, zl60, zl61, zl62, zl70, zl71, zl99, zl100, zl103, zl104, zl105, zl106, zl107, zl108, zl109, zl110, zl111, zl112, zl113, zl114, zl115, zl116, zl124, zl127, zl255, zl999, zl1000, zl1001, zl1002, zl1003]
      rw [if_neg (nI_ge (by omega) (by omega)), zchk_e (ze_in (by omega) (by omega)), znm_e, ze_mul, ze_add, zst_l1, zchk_e (ze_in (show o * 3 < 18 by omega) (by decide)), zchk_e (ze_in (show o * 3 + 1 < 18 by omega) (by decide)), ze_cl (show t < 2 ^ 31 by omega), ze_cl (show o * 3 < 2 ^ 31 by omega), ze_cl (show o * 3 + 1 < 2 ^ 31 by omega), z1, z2, zbnd_c so, zbnd_c k1, zjn_e, if_neg (Int32.not_le.mpr hc), ze_add]
      exact hR
    · unfold qM_order_L49
      simp only [zl0, zl1, zl2, zl3, zl4, zl5, zl6, zl7, zl8, zl9, zl10, zl11, zl12, zl13, zl14, zl16, zl18, zl19, zl20, zl22, zl24, zl30, zl32, zl33, zl36, zl38, zl40, zl41, zl48, zl50, zl51, zl57, zl59, zl60, zl61, zl62, zl70, zl71, zl99, zl100, zl103, zl104, zl105, zl106, zl107, zl108, zl109, zl110, zl111, zl112, zl113, zl114, zl115, zl116, zl124, zl127, zl255, zl999, zl1000, zl1001, zl1002, zl1003]
      rw [if_neg (nI_ge (by omega) (by omega)), zjn_e, dv, rm, if_neg (znI_ne (by omega) (by omega) d), zbnd_c lt, zbnd_c k2, e32, if_pos hc, znm_e, znm_e, ze_add]
      exact hR
  · have hne : v3 ≠ -nI 1 := fun q => hc (by rw [q]; exact of_eq_true (ze_nlt (by omega) (by omega) (by omega)))
    obtain ⟨q, q1, q2, q3⟩ := h4.resolve_left hne
    refine ⟨D, N, v3, q, q1, fun R hR => ?_, fun R hR => ?_, k3, g1, f2, e32, hne, by rw [e31, q3]⟩
    · rw [q2]
      unfold qG_order_L41
      simp only [zl0, zl1, zl2, zl3, zl4, zl5, zl6, zl7, zl8, zl9, zl10, zl11, zl12, zl13, zl14, zl16, zl18, zl19, zl20, zl22, zl24, zl30, zl32, zl33, zl36, zl38, zl40, zl41, zl48, zl50, zl51, zl57, zl59, zl60, zl61, zl62, zl70, zl71, zl99, zl100, zl103, zl104, zl105, zl106, zl107, zl108, zl109, zl110, zl111, zl112, zl113, zl114, zl115, zl116, zl124, zl127, zl255, zl999, zl1000, zl1001, zl1002, zl1003]
      rw [if_neg (nI_ge (by omega) (by omega)), zchk_e (ze_in (by omega) (by omega)), znm_e, ze_mul, ze_add, zst_l1, zchk_e (ze_in (show o * 3 < 18 by omega) (by decide)), zchk_e (ze_in (show o * 3 + 1 < 18 by omega) (by decide)), ze_cl (show t < 2 ^ 31 by omega), ze_cl (show o * 3 < 2 ^ 31 by omega), ze_cl (show o * 3 + 1 < 2 ^ 31 by omega), z1, z2, zbnd_c so, zbnd_c k1, zjn_e, if_pos (Int32.not_lt.mp hc), ze_add]
      exact hR
    · unfold qM_order_L49
      simp only [zl0, zl1, zl2, zl3, zl4, zl5, zl6, zl7, zl8, zl9, zl10, zl11, zl12, zl13, zl14, zl16, zl18, zl19, zl20, zl22, zl24, zl30, zl32, zl33, zl36, zl38, zl40, zl41, zl48, zl50, zl51, zl57, zl59, zl60, zl61, zl62, zl70, zl71, zl99, zl100, zl103, zl104, zl105, zl106, zl107, zl108, zl109, zl110, zl111, zl112, zl113, zl114, zl115, zl116, zl124, zl127, zl255, zl999, zl1000, zl1001, zl1002, zl1003]
      rw [if_neg (nI_ge (by omega) (by omega)), zjn_e, dv, rm, if_neg (znI_ne (by omega) (by omega) d), zbnd_c lt, zbnd_c k2, e32, if_neg hc, ze_add]
      exact hR
theorem order_skip {t F r : Nat} {a1 w1 w2 : Int32} {E' : zM → Option (Int32 × zM)} {M : zM} {R : Option (Int32 × zM)} (hr : r < 9) (h : r / 3 = r % 3) (hR : qM_order_L49 (nI t) a1 w1 w2 E' F M (nI (r + 1)) = R) : qM_order_L49 (nI t) a1 w1 w2 E' (F + 1) M (nI r) = R := by
  unfold qM_order_L49
  simp only [zl0, zl1, zl2, zl3, zl4, zl5, zl6, zl7, zl8, zl9, zl10, zl11, zl12, zl13, zl14, zl16, zl18, zl19, zl20, zl22, zl24, zl30, zl32, zl33, zl36, zl38, zl40, zl41, zl48, zl50, zl51, zl57, zl59, zl60, zl61, zl62, zl70, zl71, zl99, zl100, zl103, zl104, zl105, zl106, zl107, zl108, zl109, zl110, zl111, zl112, zl113, zl114, zl115, zl116, zl124, zl127, zl255, zl999, zl1000, zl1001, zl1002, zl1003]
  rw [if_neg (nI_ge (by omega) (by omega)), zjn_e, ze_div (by omega) (by omega) (by omega), ze_rem (by omega) (by omega) (by omega), if_pos (by rw [h]), ze_add]
  exact hR
theorem order_loop {m : zM} {n rd h e t : Nat} {cs : List Cl} {a1 w1 w2 : Int32} {E : zM → Int32 → Int32 → Option (Int32 × zM)} {E' : zM → Option (Int32 × zM)} (hn6 : n ≤ 6) (ht : t < n) (hpl : m.1 40 0 30 = -nI 1) {C M : zM} (H : PH C M 2 n rd h e cs) (hM : FRV (oP m t) m M) (h3 : M.1 40 0 32 = -nI 1) :
    ∃ C' M' w3 q, q < 6 ∧ (∀ R, E C' w3 (nI q) = R → qG_order_L41 (nI t) a1 E 1000 C (-nI 1) (nI 0) (nI 0) = R) ∧ (∀ R, E' M' = R → qM_order_L49 (nI t) a1 w1 w2 E' 1000 M (nI 0) = R) ∧ FRT C C' ∧ FRV (oP m t) m M' ∧ M'.1 40 0 32 = w3 ∧ M'.1 40 0 31 = nI (3 * oA q + oB q) := by
  obtain ⟨C0, M0, x0, q0, a0, b0, d0, e0, f0, g0, i0, j0, k0⟩ := order_step (o := 0) (F := 999) (F' := 998) (v4 := nI 0) (a1 := a1) (w1 := w1) (w2 := w2) (E := E) (E' := E') hn6 ht (by decide) hpl H hM h3 (Or.inl rfl)
  obtain ⟨C1, M1, x1, q1, aa1, b1, d1, e1, f1, g1, i1, j1, k1⟩ := order_step (o := 1) (F := 998) (F' := 997) (v4 := nI q0) (a1 := a1) (w1 := w1) (w2 := w2) (E := E) (E' := E') hn6 ht (by decide) hpl e0 g0 i0 (Or.inr ⟨q0, a0, rfl, k0⟩)
  obtain ⟨C2, M2, x2, q2, a2, b2, d2, e2, f2, g2, i2, j2, k2⟩ := order_step (o := 2) (F := 997) (F' := 996) (v4 := nI q1) (a1 := a1) (w1 := w1) (w2 := w2) (E := E) (E' := E') hn6 ht (by decide) hpl e1 g1 i1 (Or.inr ⟨q1, aa1, rfl, k1⟩)
  obtain ⟨C3, M3, x3, q3, a3, b3, d3, e3, f3, g3, i3, j3, k3⟩ := order_step (o := 3) (F := 996) (F' := 994) (v4 := nI q2) (a1 := a1) (w1 := w1) (w2 := w2) (E := E) (E' := E') hn6 ht (by decide) hpl e2 g2 i2 (Or.inr ⟨q2, a2, rfl, k2⟩)
  obtain ⟨C4, M4, x4, q4, a4, b4, d4, e4, f4, g4, i4, j4, k4⟩ := order_step (o := 4) (F := 995) (F' := 993) (v4 := nI q3) (a1 := a1) (w1 := w1) (w2 := w2) (E := E) (E' := E') hn6 ht (by decide) hpl e3 g3 i3 (Or.inr ⟨q3, a3, rfl, k3⟩)
  obtain ⟨C5, M5, x5, q5, a5, b5, d5, e5, f5, g5, i5, j5, k5⟩ := order_step (o := 5) (F := 994) (F' := 992) (v4 := nI q4) (a1 := a1) (w1 := w1) (w2 := w2) (E := E) (E' := E') hn6 ht (by decide) hpl e4 g4 i4 (Or.inr ⟨q4, a4, rfl, k4⟩)
  refine ⟨C5, M5, x5, q5, a5, fun R hR => ?_, fun R hR => ?_, FRT_trans f0 (FRT_trans f1 (FRT_trans f2 (FRT_trans f3 (FRT_trans f4 f5)))), g5, i5, k5⟩
  · refine b0 _ (b1 _ (b2 _ (b3 _ (b4 _ (b5 _ ?_)))))
    unfold qG_order_L41
    simp only [zl0, zl1, zl2, zl3, zl4, zl5, zl6, zl7, zl8, zl9, zl10, zl11, zl12, zl13, zl14, zl16, zl18, zl19, zl20, zl22, zl24, zl30, zl32, zl33, zl36, zl38, zl40, zl41, zl48, zl50, zl51, zl57, zl59, zl60, zl61, zl62, zl70, zl71, zl99, zl100, zl103, zl104, zl105, zl106, zl107, zl108, zl109, zl110, zl111, zl112, zl113, zl114, zl115, zl116, zl124, zl127, zl255, zl999, zl1000, zl1001, zl1002, zl1003]
    rw [if_pos (nI_le (by omega) (by omega))]
    exact hR
  · refine order_skip (r := 0) (F := 999) (by decide) (by decide) (d0 _ (d1 _ (d2 _ (order_skip (r := 4) (F := 995) (by decide) (by decide) (d3 _ (d4 _ (d5 _ (order_skip (r := 8) (F := 991) (by decide) (by decide) ?_))))))))
    unfold qM_order_L49
    simp only [zl0, zl1, zl2, zl3, zl4, zl5, zl6, zl7, zl8, zl9, zl10, zl11, zl12, zl13, zl14, zl16, zl18, zl19, zl20, zl22, zl24, zl30, zl32, zl33, zl36, zl38, zl40, zl41, zl48, zl50, zl51, zl57, zl59, zl60, zl61, zl62, zl70, zl71, zl99, zl100, zl103, zl104, zl105, zl106, zl107, zl108, zl109, zl110, zl111, zl112, zl113, zl114, zl115, zl116, zl124, zl127, zl255, zl999, zl1000, zl1001, zl1002, zl1003]
    rw [if_pos (nI_le (by omega) (by omega))]
    exact hR
theorem st_order (c m : zM) (a0 a1 : Int32) (h : Rl c m) : ∃ (r : Int32) (c1 m1 : zM), qG_order c a0 a1 = some (r, c1) ∧ qM_order m a0 a1 = some (r, m1) ∧ Rl c1 m1 := by
  obtain ⟨n, rd, bk, ec, tl, ev, h1, h2, h3, h4, h5, h6, h7, h8, h9, h10, h11, h12, h13⟩ := h; obtain ⟨b1, b2, b3, b4, b5, b6⟩ := h1; have h1 : Rb1 n rd bk ec tl ev := ⟨b1, b2, b3, b4, b5, b6⟩; obtain ⟨c1, c2, c3, c4, c5, c6⟩ := h2; have h2 : Rb2 c n rd bk ec tl ev := ⟨c1, c2, c3, c4, c5, c6⟩; obtain ⟨m1, m2, m3, m4, m5, m6, m7⟩ := h3; have h3 : Rb3 m n rd bk ec tl ev := ⟨m1, m2, m3, m4, m5, m6, m7⟩
  have hB : RB c m n rd bk ec tl ev := ⟨h1, h2, h3, h4, h5, h6, h7, h8, h9, h10, h11, h12, h13⟩
  obtain ⟨hh, e, cs, H⟩ := PH_0 hB
  unfold qG_order qM_order
  simp only [zl0, zl1, zl2, zl3, zl4, zl5, zl6, zl7, zl8, zl9, zl10, zl11, zl12, zl13, zl14, zl16, zl18, zl19, zl20, zl22, zl24, zl30, zl32, zl33, zl36, zl38, zl40, zl41, zl48, zl50, zl51, zl57, zl59, zl60, zl61, zl62, zl70, zl71, zl99, zl100, zl103, zl104, zl105, zl106, zl107, zl108, zl109, zl110, zl111, zl112, zl113, zl114, zl115, zl116, zl124, zl127, zl255, zl999, zl1000, zl1001, zl1002, zl1003]
  rcases zcase a0 (n := n) (by omega) with g | ⟨p, hp, rfl⟩
  · rw [zb_n (qP_has_no c1 g), zb_n (qM_isPerson_no m1 (by omega) g)]
    exact ⟨_, c, m, rfl, rfl, n, rd, bk, ec, tl, ev, h1, h2, h3, h4, h5, h6, h7, h8, h9, h10, h11, h12, h13⟩
  rw [zb_y (qP_has_ok c1 hp (by omega)), zb_y (qM_isPerson_ok m1 hp (by omega))]
  rcases zcase a1 (n := 4) (by omega) with g | ⟨w, hw, rfl⟩
  · rw [zno_i3 g (k := 3) rfl (by decide), zb_n (qM_in_no m (h := 3) rfl (by decide) g)]
    exact ⟨_, c, m, rfl, rfl, n, rd, bk, ec, tl, ev, h1, h2, h3, h4, h5, h6, h7, h8, h9, h10, h11, h12, h13⟩
  rw [if_neg (nI_nlt (by omega) (by omega)), if_pos (nI_le (by omega) (by omega)), zb_y (qM_in_ok m (show w ≤ 3 by omega) (by decide))]
  obtain ⟨C, k1, k2, k3⟩ := trial_e H
  have hn6 := H.2.1
  have hw9 := (PH_pp H hp).2.2.2.2.2.2.2.2
  obtain ⟨t0, y0⟩ := tl_wf hw9 (show 0 < 3 by decide)
  obtain ⟨t1, y1⟩ := tl_wf hw9 (show 1 < 3 by decide)
  obtain ⟨t2, y2⟩ := tl_wf hw9 (show 2 < 3 by decide)
  rw [Nat.add_zero] at y0
  obtain ⟨-, -, -, -, -, ⟨a, b, d, u1, u2, u3, u4, u5, u6, u7, u8, u9⟩, -⟩ := hw9
  have u7 : m.1 47 0 (3 * p) = nI a := u7
  have u8 : m.1 47 0 (3 * p + 1) = nI b := u8
  have u9 : m.1 47 0 (3 * p + 2) = nI d := u9
  obtain ⟨C', M', w3, q, q6, x1, x2, x3, x4, x5, x6⟩ := order_loop (m := m) (a1 := nI w) (w1 := nI a) (w2 := nI b) (E := fun (M16 : zM) (x17 : Int32) (x18 : Int32) => if nI w = nI 0 then (some (x17, M16)) else (zchk (zin (((x18 * nI 3) + nI w) - nI 1) (zst_l 1)) (some ((zst 1 (((x18 * nI 3) + nI w) - nI 1).toNatClampNeg), M16)))) (E' := fun (M19 : zM)  => zbnd (qM_layTale M19 (nI p) (nI a) (nI b)) fun _ M20 => znm ((M20.1 40 0 31) / nI 3) fun x22 => znm (zrem (M20.1 40 0 31) (nI 3)) fun x23 => if nI w = nI 0 then (some ((M20.1 40 0 32), M20)) else (if nI w = nI 1 then (some (x22, M20)) else (if nI w = nI 2 then (some (x23, M20)) else (some (((nI 3 - x22) - x23), M20))))) hn6 hp m7 (PH_m32 k2) (FRV_set _ _ (Or.inr (by omega))) (zg_e (by omega))
  have fin : RB C' (zset (zset (zset M' 47 0 (3 * p) (nI a)) 47 0 (3 * p + 1) (nI b)) 47 0 (3 * p + 2) (nI d)) n rd bk ec tl ev := by
    refine RB_T hB (FRT_trans k3 x3) ⟨x4.1, fun a j r1 r2 => ?_⟩
    by_cases q2 : a = 47 ∧ j = 3 * p + 2
    · rw [zg_e (by omega), q2.1, q2.2, u9]
    rw [zg_n (by omega)]
    by_cases q1 : a = 47 ∧ j = 3 * p + 1
    · rw [zg_e (by omega), q1.1, q1.2, u8]
    rw [zg_n (by omega)]
    by_cases q0 : a = 47 ∧ j = 3 * p
    · rw [zg_e (by omega), q0.1, q0.2, u7]
    rw [zg_n (by omega), x4.2 _ _ (by omega) (by omega) (by omega) (by omega) (fun q => by have := q.1; have := q.2.1; have := q.2.2; omega)]
  obtain ⟨o1, o2, o3⟩ := oAB q6
  obtain ⟨z1, z2, z3⟩ := zst1 q q6
  refine ⟨if w = 0 then w3 else if w = 1 then nI (oA q) else if w = 2 then nI (oB q) else nI (3 - oA q - oB q), C', _, ?_, ?_, n, rd, bk, ec, tl, ev, fin⟩
  · rw [zbnd_c k1]
    refine x1 _ ?_
    by_cases r0 : w = 0
    · rw [if_pos r0, if_pos (by rw [r0])]
    rw [if_neg r0, if_neg (znI_ne (by omega) (by omega) r0), ze_mul, ze_add, ze_sub (by omega), zst_l1, zchk_e (ze_in (show q * 3 + w - 1 < 18 by omega) (by decide)), ze_cl (by omega)]
    rcases (show w = 1 ∨ w = 2 ∨ w = 3 by omega) with rfl | rfl | rfl
    · rw [if_pos rfl, Nat.add_sub_cancel, z1]
    · rw [if_neg (by decide), if_pos rfl, show q * 3 + 2 - 1 = q * 3 + 1 by omega, z2]
    · rw [if_neg (by decide), if_neg (by decide), show q * 3 + 3 - 1 = q * 3 + 2 by omega, z3]
  · rw [ze_mul, zchk_e (ze_in (by omega) (by omega)), ze_cl (show 3 * p < 2 ^ 31 by omega), u7, znm_e, ze_add, zchk_e (ze_in (by omega) (by omega)), ze_cl (show 3 * p + 1 < 2 ^ 31 by omega), u8, znm_e, znm_e]
    refine x2 _ ?_
    rw [zbnd_c (layTale_e M' (nI a) (nI b) (nI d) (show p < 6 by omega) (by rw [pk_sub (by omega), pk_sub (by omega), show 3 - a - b = d by omega])), znm_e, znm_e]
    have e31 : (zset (zset (zset M' 47 0 (3 * p) (nI a)) 47 0 (3 * p + 1) (nI b)) 47 0 (3 * p + 2) (nI d)).1 40 0 31 = nI (3 * oA q + oB q) := by rw [zg_n (by omega), zg_n (by omega), zg_n (by omega), x6]
    have e32 : (zset (zset (zset M' 47 0 (3 * p) (nI a)) 47 0 (3 * p + 1) (nI b)) 47 0 (3 * p + 2) (nI d)).1 40 0 32 = w3 := by rw [zg_n (by omega), zg_n (by omega), zg_n (by omega), x5]
    rw [e31, e32, ze_div (by omega) (by omega) (by omega), ze_rem (by omega) (by omega) (by omega), show (3 * oA q + oB q) / 3 = oA q by omega, show (3 * oA q + oB q) % 3 = oB q by omega, pk_sub (by omega), pk_sub (by omega)]
    by_cases r0 : w = 0
    · rw [if_pos r0, if_pos (by rw [r0])]
    rw [if_neg r0, if_neg (znI_ne (by omega) (by omega) r0)]
    by_cases r1 : w = 1
    · rw [if_pos r1, if_pos (by rw [r1])]
    rw [if_neg r1, if_neg (znI_ne (by omega) (by omega) r1)]
    by_cases r2 : w = 2
    · rw [if_pos r2, if_pos (by rw [r2])]
    rw [if_neg r2, if_neg (znI_ne (by omega) (by omega) r2)]
