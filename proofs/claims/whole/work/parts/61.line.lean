/-! PURE PART: LINE. -/
theorem row_ok {n t j : Nat} (hn : n < 6) (ht : t < n) (hj : j < fac (n - 1)) : (rowN n t j).isSome = true ∧ (∀ i, i < n - 1 → rowF n t j i < n ∧ rowF n t j i ≠ t) ∧ (stepN (n - 1) (rowF n t j) = none → j + 1 = fac (n - 1)) ∧ ∀ r', stepN (n - 1) (rowF n t j) = some r' → j + 1 < fac (n - 1) ∧ ∀ i, i < n - 1 → r' i = rowF n t (j + 1) i := by
  have h := row_key n hn t ht j hj
  unfold okRow at h
  rw [Bool.and_eq_true, Bool.and_eq_true] at h
  obtain ⟨⟨h1, h2⟩, h3⟩ := h
  refine ⟨h1, fun i hi => ?_, fun q => ?_, fun r' q => ?_⟩
  · have := List.all_eq_true.mp h2 i (List.mem_range.mpr hi)
    rw [Bool.and_eq_true] at this
    exact ⟨of_decide_eq_true this.1, of_decide_eq_true this.2⟩
  · rw [q] at h3
    exact of_decide_eq_true h3
  · rw [q] at h3
    dsimp only at h3
    rw [Bool.and_eq_true] at h3
    exact ⟨of_decide_eq_true h3.1, fun i hi => of_decide_eq_true (List.all_eq_true.mp h3.2 i (List.mem_range.mpr hi))⟩
theorem RR_cg {M : zM} {r r' : Nat → Nat} {k : Nat} (h : RR M r k) (e : ∀ i, i < k → r i = r' i) : RR M r' k := fun i hi => by rw [h i hi, e i hi]
/-- one row of guessers goes through, on both sides -/
theorem line_play {m : zM} {n rd h e t lp k : Nat} {cs : List Cl} {r : Nat → Nat} {c2 c3 c5 d2 d4 d5 d6 : Int32} {E E' : zM → Option (Int32 × zM)} (hk : k + 1 = n) (hn : n ≤ 5) (hl : LPl m t lp) (ht : t < n) (hW : WOK m n t (WD m cs n rd lp t)) (hr : ∀ i, i < k → r i < n ∧ r i ≠ t) (h62 : ∀ i, i < k → m.1 62 0 i = nI (r i)) : ∀ (d i F tk : Nat) (hs : Nat → Nat) (C M : zM), i + d = k → d < F → PH C m 0 n rd h e cs → FR3 m M → CG C m cs n rd t lp hs tk → tk + hs lp = SM hs → SM hs = i → (∀ p, p < 3 → M.1 59 0 p = nI (hs p)) → RR C r k →
    ∃ C' M' hs' tk', (∀ R, E C' = R → qG_seekLine_L88 (nI k) c3 c5 E F C (nI i) = R) ∧ (∀ R, E' M' = R → qM_line_L80 (nI t) d2 (nI k) d4 d5 d6 E' F M (nI i) = R) ∧ CG C' m cs n rd t lp hs' tk' ∧ tk' + hs' lp = k ∧ (∀ p, p < 3 → M'.1 59 0 p = nI (hs' p)) ∧ FRg C C' ∧ FR3 m M'
  | 0, i, F + 1, tk, hs, C, M, hd, hF, H, hM, hC, ha, hb, h59, hR => by
    refine ⟨C, M, hs, tk, fun R hR => ?_, fun R hR => ?_, hC, by omega, h59, FRg_refl _, hM⟩
    · unfold qG_seekLine_L88
      rw [if_pos (nI_le (by omega) (by omega))]
      exact hR
    · unfold qM_line_L80
      rw [if_pos (nI_le (by omega) (by omega))]
      exact hR
  | d + 1, i, F + 1, tk, hs, C, M, hd, hF, H, hM, hC, ha, hb, h59, hR => by
    have hn6 := H.2.1
    obtain ⟨q1, q2⟩ := hr i (by omega)
    have hb6 : ∀ p, p < 3 → hs p ≤ 6 := fun p hp => by have := SM_le (hs := hs) hp; omega
    obtain ⟨C1, a1, a2, a3, a4, a5⟩ := let_c hC (PH_pp H q1).2.2.2.2.2.2.2.2 q1 hn6 q2 hl.1 hb6
    obtain ⟨M1, b1, b2, b3, b4, b5⟩ := guesses_m (m := M) (t := nI t) (show r i < 6 by omega) h59 (hW (r i) q1 q2 hs M hM (fun p hp => ⟨hb6 p hp, h59 p hp⟩))
    have ex : WD m cs n rd lp t (r i) hs = wD m cs n rd lp (r i) t hs := rfl
    rw [ex] at b3 b5
    have hx := chW_lt (wD m cs n rd lp (r i) t hs)
    generalize chW (wD m cs n rd lp (r i) t hs) = x at a1 a2 a4 b3 b5 hx
    have hk' : (tk + if x = lp then 0 else 1) + updH hs x lp = SM (updH hs x) := by
      rw [SM_upd hx]
      unfold updH
      by_cases q : x = lp
      · rw [if_pos q, if_pos q.symm]; omega
      · rw [if_neg q, if_neg (fun z => q z.symm)]; omega
    obtain ⟨C', M', hs', tk', k1, k2, k3, k4, k5, k6, k7⟩ := line_play (c2 := c2) (c3 := c3) (c5 := c5) (d2 := d2) (d4 := d4) (d5 := d5) (d6 := d6) (E := E) (E' := E') hk hn hl ht hW hr h62 d (i + 1) F _ (updH hs x) C1 M1 (by omega) (by omega) (PH_fr H (FRc_g a3) (FR3_refl m)) (FR3_trans hM b2) a2 hk' (by rw [SM_upd hx, hb]) b5 (fun i hi => by rw [a3.2 _ _ _ (by decide) (by decide) (by decide), hR i hi])
    refine ⟨C', M', hs', tk', fun R hR' => ?_, fun R hR' => ?_, k3, k4, k5, FRg_trans a3 k6, k7⟩
    · unfold qG_seekLine_L88
      simp only [zl0, zl1, zl2, zl3, zl4, zl5, zl6, zl7, zl8, zl9, zl10, zl11, zl12, zl13, zl14, zl16, zl18, zl19, zl20, zl22, zl24, zl30, zl32, zl33, zl36, zl38, zl40, zl41, zl48, zl50, zl51, zl57, zl59, zl60, zl61, zl62, zl70, zl71, zl99, zl100, zl103, zl104, zl105, zl106, zl107, zl108, zl109, zl110, zl111, zl112, zl113, zl114, zl115, zl116, zl124, zl127, zl255, zl999, zl1000, zl1001, zl1002, zl1003]
      rw [if_neg (nI_ge (by omega) (by omega)), zchk_e (ze_in (by omega) (by omega)), ze_cl (show i < 2 ^ 31 by omega), hR i (by omega), zbnd_c a1, ze_add]
      exact k1 R hR'
    · unfold qM_line_L80
      simp only [zl0, zl1, zl2, zl3, zl4, zl5, zl6, zl7, zl8, zl9, zl10, zl11, zl12, zl13, zl14, zl16, zl18, zl19, zl20, zl22, zl24, zl30, zl32, zl33, zl36, zl38, zl40, zl41, zl48, zl50, zl51, zl57, zl59, zl60, zl61, zl62, zl70, zl71, zl99, zl100, zl103, zl104, zl105, zl106, zl107, zl108, zl109, zl110, zl111, zl112, zl113, zl114, zl115, zl116, zl124, zl127, zl255, zl999, zl1000, zl1001, zl1002, zl1003]
      rw [if_neg (nI_ge (by omega) (by omega)), zchk_e (ze_in (by omega) (by omega)), ze_cl (show i < 2 ^ 31 by omega), hM.2 _ _ _ (by decide) (by decide) (by decide), h62 i (by omega), zbnd_c b1, ze_add]
      exact k2 R hR'
theorem copy_e (x1 x2 x3 x4 x5 x6 : Int32) (E : zM → Option (Int32 × zM)) : ∀ (d v F : Nat) (M : zM), v + d = 4 → d < F → ∃ M', (∀ R, E M' = R → qM_line_L135 x1 x2 x3 x4 x5 x6 E F M (nI v) = R) ∧ M'.2 = M.2 ∧ (∀ a i j, a ≠ 63 → M'.1 a i j = M.1 a i j) ∧ (∀ j, j < v → M'.1 63 0 j = M.1 63 0 j) ∧ ∀ j, v ≤ j → j < 4 → M'.1 63 0 j = M.1 62 0 j
  | 0, v, F + 1, M, hd, hF => by
    refine ⟨M, fun R hR => ?_, rfl, fun _ _ _ _ => rfl, fun _ _ => rfl, fun j h1 h2 => by omega⟩
    unfold qM_line_L135
    simp only [zl0, zl1, zl2, zl3, zl4, zl5, zl6, zl7, zl8, zl9, zl10, zl11, zl12, zl13, zl14, zl16, zl18, zl19, zl20, zl22, zl24, zl30, zl32, zl33, zl36, zl38, zl40, zl41, zl48, zl50, zl51, zl57, zl59, zl60, zl61, zl62, zl70, zl71, zl99, zl100, zl103, zl104, zl105, zl106, zl107, zl108, zl109, zl110, zl111, zl112, zl113, zl114, zl115, zl116, zl124, zl127, zl255, zl999, zl1000, zl1001, zl1002, zl1003]
    rw [if_pos (nI_le (by omega) (by omega))]
    exact hR
  | d + 1, v, F + 1, M, hd, hF => by
    obtain ⟨M', k1, k2, k3, k4, k5⟩ := copy_e x1 x2 x3 x4 x5 x6 E d (v + 1) F (zset M 63 0 v (M.1 62 0 v)) (by omega) (by omega)
    refine ⟨M', fun R hR => ?_, k2, fun a i j h => by rw [k3 a i j h, zg_n (by omega)], fun j hj => by rw [k4 j (by omega), zg_n (by omega)], fun j h1 h2 => ?_⟩
    · unfold qM_line_L135
      simp only [zl0, zl1, zl2, zl3, zl4, zl5, zl6, zl7, zl8, zl9, zl10, zl11, zl12, zl13, zl14, zl16, zl18, zl19, zl20, zl22, zl24, zl30, zl32, zl33, zl36, zl38, zl40, zl41, zl48, zl50, zl51, zl57, zl59, zl60, zl61, zl62, zl70, zl71, zl99, zl100, zl103, zl104, zl105, zl106, zl107, zl108, zl109, zl110, zl111, zl112, zl113, zl114, zl115, zl116, zl124, zl127, zl255, zl999, zl1000, zl1001, zl1002, zl1003]
      rw [if_neg (nI_ge (by omega) (by omega)), zchk_e (ze_in (by omega) (by omega)), zchk_e (ze_in (by omega) (by omega)), znm_e, ze_cl (show v < 2 ^ 31 by omega), ze_add]
      exact k1 R hR
    · by_cases e : j = v
      · rw [e, k4 v (by omega), zg_e ⟨rfl, rfl, rfl⟩]
      · rw [k5 j (by omega) h2, zg_n (by omega)]
/-- the best so far, on both sides -/
def BST (C M : zM) (k j : Nat) (v3 v5 : Int32) : Prop := (j = 0 ∧ v3 = nI 6 ∧ v5 = nI 99) ∨ (0 < j ∧ ∃ f, f ≤ 4 ∧ v3 = nI f ∧ v5 = nI f ∧ ∀ i, i < k → C.1 24 0 i = M.1 63 0 i)
theorem line_loop {n rd h e t lp k : Nat} {cs : List Cl} {a1 : Int32} {E' : zM → Int32 → Option (Int32 × zM)} (hk : k + 1 = n) (hn : n ≤ 5) (ht : t < n) : ∀ (d j F tk : Nat) (hs : Nat → Nat) (v3 v5 : Int32) (C M : zM), j + d = fac k → d < F → PH C M 0 n rd h e cs → CG C M cs n rd t lp hs tk → LPl M t lp → M.1 40 0 30 = -nI 1 → (0 < d → RR C (rowF n t j) k) → BST C M k j v3 v5 →
    ∃ C' M' y, qG_seekLine_L66 (nI k) F C v3 (if d = 0 then nI 0 else nI 1) (nI j) = some (y, C') ∧ (∀ R, E' M' y = R → qM_line_L61 (nI t) a1 (nI k) (nI (clr (2 ^ n - 1) t)) E' F M v5 (nI j) = R) ∧ FRT C C' ∧ FRX M M' ∧ ∀ i, i < k → C'.1 24 0 i = M'.1 63 0 i
  | 0, j, F + 1, tk, hs, v3, v5, C, M, hd, hF, H, hC, hl, hpl, hR, hB => by
    have hf : 0 < fac k ∧ fac k ≤ 24 := by
      unfold fac
      repeat' split
      all_goals decide
    have e1 : n - 1 = k := by omega
    obtain ⟨M1, q1, q2, q3, q4⟩ := layLine_e (j := j) M hn ht (by omega) (fun q => absurd q (by rw [e1]; omega))
    rw [e1] at q1
    rcases hB with ⟨z, -⟩ | ⟨hj0, f, f1, rfl, rfl, f4⟩
    · omega
    refine ⟨C, M1, nI f, ?_, fun R hR => ?_, FRT_refl _, ⟨q2, fun a j r1 r2 => q3 _ _ _ (by omega)⟩, fun i hi => by rw [f4 i hi, q3 _ _ _ (by decide)]⟩
    · unfold qG_seekLine_L66
      simp only [zl0, zl1, zl2, zl3, zl4, zl5, zl6, zl7, zl8, zl9, zl10, zl11, zl12, zl13, zl14, zl16, zl18, zl19, zl20, zl22, zl24, zl30, zl32, zl33, zl36, zl38, zl40, zl41, zl48, zl50, zl51, zl57, zl59, zl60, zl61, zl62, zl70, zl71, zl99, zl100, zl103, zl104, zl105, zl106, zl107, zl108, zl109, zl110, zl111, zl112, zl113, zl114, zl115, zl116, zl124, zl127, zl255, zl999, zl1000, zl1001, zl1002, zl1003]
      rw [if_pos trivial]
      by_cases q : 24 ≤ j
      · rw [if_pos (nI_le (by omega) (by omega))]
      · rw [if_neg (nI_ge (by omega) (by omega)), if_pos rfl]
    · unfold qM_line_L61
      simp only [zl0, zl1, zl2, zl3, zl4, zl5, zl6, zl7, zl8, zl9, zl10, zl11, zl12, zl13, zl14, zl16, zl18, zl19, zl20, zl22, zl24, zl30, zl32, zl33, zl36, zl38, zl40, zl41, zl48, zl50, zl51, zl57, zl59, zl60, zl61, zl62, zl70, zl71, zl99, zl100, zl103, zl104, zl105, zl106, zl107, zl108, zl109, zl110, zl111, zl112, zl113, zl114, zl115, zl116, zl124, zl127, zl255, zl999, zl1000, zl1001, zl1002, zl1003]
      rw [if_neg (by omega)] at q1
      rw [zbnd_c q1, if_pos rfl]
      exact hR
  | d + 1, j, F + 1, tk, hs, v3, v5, C, M, hd, hF, H, hC, hl, hpl, hR, hB => by
    have hf : 0 < fac k ∧ fac k ≤ 24 := by
      unfold fac
      repeat' split
      all_goals decide
    have e1 : n - 1 = k := by omega
    have hn6 := H.2.1
    obtain ⟨w1, w2, w3, w4⟩ := row_ok (j := j) (show n < 6 by omega) ht (by rw [e1]; omega)
    rw [e1] at w2 w3 w4
    obtain ⟨M1, q1, q2, q3, q4⟩ := layLine_e (j := j) M hn ht (by omega) (fun _ => w1)
    rw [e1] at q1 q4
    have q4 := q4 (by omega)
    rw [if_pos (by omega)] at q1
    have fk1 : FK M M1 := fun a j _ _ => q3 _ _ _ (by omega)
    have fx1 : FRX M M1 := ⟨q2, fun a j r1 r2 => q3 _ _ _ (by omega)⟩
    -- hands go down
    obtain ⟨C1, l1, l2, l3, l4, l5, l6⟩ := lower_e C
    obtain ⟨M2, y1, y2, y3, y4⟩ := clear_e M1
    have H1 : PH C1 M1 0 n rd h e cs := PH_T H (FRT_c (FRc_g l2)) fx1
    have hC1 : CG C1 M1 cs n rd t lp (fun _ => 0) 0 := CG_fr (CG_K fk1 hC) (fun a j ha => by
      by_cases q : a = 16
      · have : j = 5 := by omega
        subst q; subst this
        exact l5
      · exact l2.2 _ _ _ (by omega) (by omega) (by omega)) l3 l4
    have hl1 : LPl M1 t lp := LPl_cg fk1 hl
    have hpl1 : M1.1 40 0 30 = -nI 1 := by rw [q3 _ _ _ (by decide), hpl]
    have hR0 := hR (by omega)
    have hR1 : RR C1 (rowF n t j) k := fun i hi => by rw [l2.2 _ _ _ (by decide) (by decide) (by decide), hR0 i hi]
    obtain ⟨C2, M3, hs', tk', k1, k2, k3, k4, k5, k6, k7⟩ := line_play (c2 := nI k) (c3 := v3) (c5 := nI j) (d2 := a1) (d4 := nI (clr (2 ^ n - 1) t)) (d5 := v5) (d6 := nI j) (E := fun (M18 : zM)  => zjn (fun (M20 : zM) (x19 : Int32) => zbnd (qG_stepRow M20 (nI k)) fun x23 M22 => qG_seekLine_L66 (nI k) F M22 x19 x23 (nI j + nI 1)) (fun j21 => if v3 ≤ (M18.1 16 0 6) then (j21 M18 v3) else (znm (M18.1 16 0 6) fun x25 => zchk (zcp (nI 0) (nI 0) (nI k) 5 5) (znm (zcpy M18 23 0 24 0 (nI 0).toNatClampNeg (nI 0).toNatClampNeg (nI k).toNatClampNeg) fun M26 => j21 M26 x25)))) (E' := fun (M16 : zM)  => zbnd (qM_liePlace M16 (nI t)) fun x18 M17 => zchk (zin x18 3) (znm (nI k - (M17.1 59 0 x18.toNatClampNeg)) fun x20 => zjn (fun (M22 : zM) (x21 : Int32) => qM_line_L61 (nI t) a1 (nI k) (nI (clr (2 ^ n - 1) t)) E' F M22 x21 (nI j + nI 1)) (fun j23 => if x20 < v5 then (qM_line_L135 (nI t) a1 (nI k) (nI (clr (2 ^ n - 1) t)) x20 (nI j) (fun (M25 : zM)  => j23 M25 x20) 1000 M17 (nI 0)) else (j23 M17 v5)))) hk hn hl1 ht (WOK_D H1 hl1 ht hpl1) w2 q4 k 0 1000 0 (fun _ => 0) C1 M2 (by omega) (by omega) H1 y2 hC1 rfl rfl y3 hR1
    have hlp := hl.1
    have etk : C2.1 16 0 6 = nI tk' := k3.2.2.1
    have hl3 : LPl M3 t lp := LPl_cg (FR3_k k7) hl1
    -- better or not, the same on both sides
    have hcmp : (¬ v3 ≤ nI tk') ↔ nI tk' < v5 := by
      rcases hB with ⟨-, rfl, rfl⟩ | ⟨-, f, f1, rfl, rfl, f4⟩
      · exact ⟨fun _ => nI_lt (by omega) (by omega), fun _ => nI_ge (by omega) (by omega)⟩
      · exact Int32.not_le
    have fx3 : FRX M M3 := FRX_trans fx1 (FRX_3 k7)
    have ft2 : FRT C C2 := FRT_c (FRc_trans (FRc_g l2) (FRc_g k6))
    have hR2 : RR C2 (rowF n t j) k := fun i hi => by rw [k6.2 _ _ _ (by decide) (by decide) (by decide), hR1 i hi]
    have m62 : ∀ i, i < k → M3.1 62 0 i = nI (rowF n t j i) := fun i hi => by rw [k7.2 _ _ _ (by decide) (by decide) (by decide), q4 i hi]
    -- what comes after the comparison
    have rest : ∀ (C3 M4 : zM) (f : Nat), f ≤ 4 → C3.2 = C2.2 → (∀ a i j, a ≠ 24 → C3.1 a i j = C2.1 a i j) → M4.2 = M3.2 → (∀ a i j, a ≠ 63 → M4.1 a i j = M3.1 a i j) → (∀ i, i < k → C3.1 24 0 i = M4.1 63 0 i) →
        ∃ C' M' y, zbnd (qG_stepRow C3 (nI k)) (fun x23 M22 => qG_seekLine_L66 (nI k) F M22 (nI f) x23 (nI j + nI 1)) = some (y, C') ∧ (∀ R, E' M' y = R → qM_line_L61 (nI t) a1 (nI k) (nI (clr (2 ^ n - 1) t)) E' F M4 (nI f) (nI j + nI 1) = R) ∧ FRT C C' ∧ FRX M M' ∧ ∀ i, i < k → C'.1 24 0 i = M'.1 63 0 i := by
      intro C3 M4 f hf4 u1 u2 u3 u4 u5
      have ft3 : FRT C C3 := FRT_trans ft2 ⟨u1, fun i => u2 _ _ _ (by omega), fun a i j _ _ _ => u2 _ _ _ (by omega)⟩
      have fx4 : FRX M M4 := FRX_trans fx3 ⟨u3, fun a j r1 r2 => u4 _ _ _ (by omega)⟩
      have hR3 : RR C3 (rowF n t j) k := fun i hi => by rw [u2 _ _ _ (by decide), hR2 i hi]
      have fkm : FK M1 M4 := fun a j r1 r2 => by rw [u4 _ _ _ (by omega), FR3_k k7 _ _ r1 r2]
      -- a state from which the loop goes on
      have go : ∀ (C4 : zM), C4.2 = C3.2 → (∀ a i j, a ≠ 23 → C4.1 a i j = C3.1 a i j) → (0 < d → RR C4 (rowF n t (j + 1)) k) → ∃ C' M' y, qG_seekLine_L66 (nI k) F C4 (nI f) (if d = 0 then nI 0 else nI 1) (nI (j + 1)) = some (y, C') ∧ (∀ R, E' M' y = R → qM_line_L61 (nI t) a1 (nI k) (nI (clr (2 ^ n - 1) t)) E' F M4 (nI f) (nI (j + 1)) = R) ∧ FRT C C' ∧ FRX M M' ∧ ∀ i, i < k → C'.1 24 0 i = M'.1 63 0 i := by
        intro C4 g1 g2 g3
        have ft4 : FRT C C4 := FRT_trans ft3 ⟨g1, fun i => g2 _ _ _ (by omega), fun a i j _ _ _ => g2 _ _ _ (by omega)⟩
        have hC4 : CG C4 M4 cs n rd t lp hs' tk' := CG_fr (CG_K fkm k3) (fun a j ha => by rw [g2 _ _ _ (by omega), u2 _ _ _ (by omega)]) (by rw [g2 _ _ _ (by omega), u2 _ _ _ (by omega), etk]) (fun p hp => by rw [g2 _ _ _ (by omega), u2 _ _ _ (by omega), k3.2.2.2 p hp])
        obtain ⟨C', M', y, x1, x2, x3, x4, x5⟩ := line_loop (a1 := a1) (E' := E') hk hn ht d (j + 1) F tk' hs' (nI f) (nI f) C4 M4 (by omega) (by omega) (PH_T H ft4 fx4) hC4 (LPl_cg fkm hl1) (by rw [fx4.2 _ _ (by omega) (by omega), hpl]) g3 (Or.inr ⟨by omega, f, hf4, rfl, rfl, fun i hi => by rw [g2 _ _ _ (by decide), u5 i hi]⟩)
        exact ⟨C', M', y, x1, x2, FRT_trans ft4 x3, FRX_trans fx4 x4, x5⟩
      rcases stepRow_e (M := C3) (r := rowF n t j) (k := k) (by omega) hR3 (fun i hi => by have := (w2 i hi).1; omega) with ⟨s1, s2⟩ | ⟨r', C4, s1, s2, s3, s4⟩
      · have := w3 s1
        obtain ⟨C', M', y, x1, x2, x3⟩ := go C3 rfl (fun _ _ _ _ => rfl) (by omega)
        refine ⟨C', M', y, ?_, ?_, x3⟩
        · rw [zbnd_c s2, ze_add]
          rw [if_pos (show d = 0 by omega)] at x1
          exact x1
        · rw [ze_add]; exact x2
      · obtain ⟨z1, z2⟩ := w4 r' s1
        obtain ⟨C', M', y, x1, x2, x3⟩ := go C4 s4.1 s4.2 (fun _ => RR_cg s3 z2)
        refine ⟨C', M', y, ?_, ?_, x3⟩
        · rw [zbnd_c s2, ze_add]
          rw [if_neg (show ¬ d = 0 by omega)] at x1
          exact x1
        · rw [ze_add]; exact x2
    have headC : ∀ R, (if v3 ≤ nI tk' then zbnd (qG_stepRow C2 (nI k)) (fun x23 M22 => qG_seekLine_L66 (nI k) F M22 v3 x23 (nI j + nI 1)) else zbnd (qG_stepRow (zcpy C2 23 0 24 0 0 0 k) (nI k)) (fun x23 M22 => qG_seekLine_L66 (nI k) F M22 (nI tk') x23 (nI j + nI 1))) = R → qG_seekLine_L66 (nI k) (F + 1) C v3 (nI 1) (nI j) = R := by
      intro R hR'
      unfold qG_seekLine_L66
      simp only [zl0, zl1, zl2, zl3, zl4, zl5, zl6, zl7, zl8, zl9, zl10, zl11, zl12, zl13, zl14, zl16, zl18, zl19, zl20, zl22, zl24, zl30, zl32, zl33, zl36, zl38, zl40, zl41, zl48, zl50, zl51, zl57, zl59, zl60, zl61, zl62, zl70, zl71, zl99, zl100, zl103, zl104, zl105, zl106, zl107, zl108, zl109, zl110, zl111, zl112, zl113, zl114, zl115, zl116, zl124, zl127, zl255, zl999, zl1000, zl1001, zl1002, zl1003]
      rw [if_neg (nI_ge (by omega) (by omega)), if_neg (show ¬ nI 1 = nI 0 from znI_ne (by decide) (by decide) (by decide)), zbnd_c l1]
      refine k1 _ ?_
      simp only [zjn_e, etk, zchk_e (zcp_ok (show 0 + k ≤ 5 by omega) (show 0 + k ≤ 5 by omega) (show 5 < 2 ^ 31 by decide) (show 5 < 2 ^ 31 by decide)), ze_cl (show 0 < 2 ^ 31 by decide), ze_cl (show k < 2 ^ 31 by omega), znm_e]
      exact hR'
    have headM : ∀ R, (if nI tk' < v5 then qM_line_L135 (nI t) a1 (nI k) (nI (clr (2 ^ n - 1) t)) (nI tk') (nI j) (fun M25 => qM_line_L61 (nI t) a1 (nI k) (nI (clr (2 ^ n - 1) t)) E' F M25 (nI tk') (nI j + nI 1)) 1000 M3 (nI 0) else qM_line_L61 (nI t) a1 (nI k) (nI (clr (2 ^ n - 1) t)) E' F M3 v5 (nI j + nI 1)) = R → qM_line_L61 (nI t) a1 (nI k) (nI (clr (2 ^ n - 1) t)) E' (F + 1) M v5 (nI j) = R := by
      intro R hR'
      unfold qM_line_L61
      simp only [zl0, zl1, zl2, zl3, zl4, zl5, zl6, zl7, zl8, zl9, zl10, zl11, zl12, zl13, zl14, zl16, zl18, zl19, zl20, zl22, zl24, zl30, zl32, zl33, zl36, zl38, zl40, zl41, zl48, zl50, zl51, zl57, zl59, zl60, zl61, zl62, zl70, zl71, zl99, zl100, zl103, zl104, zl105, zl106, zl107, zl108, zl109, zl110, zl111, zl112, zl113, zl114, zl115, zl116, zl124, zl127, zl255, zl999, zl1000, zl1001, zl1002, zl1003]
      rw [zbnd_c q1, if_neg (show ¬ nI 1 = nI 0 from znI_ne (by decide) (by decide) (by decide)), zbnd_c y1]
      refine k2 _ ?_
      rw [zbnd_c (liePlace_m hl3 (by omega)), zchk_e (ze_in hlp (by omega)), ze_cl (show lp < 2 ^ 31 by omega), k5 lp hlp, ze_sub (by omega), show k - hs' lp = tk' by omega, znm_e, zjn_e]
      exact hR'
    by_cases hc : v3 ≤ nI tk'
    · have hc' : ¬ nI tk' < v5 := fun q => (hcmp.mpr q) hc
      rcases hB with ⟨-, rfl, rfl⟩ | ⟨-, f, f1, rfl, rfl, f4⟩
      · exact absurd hc (nI_ge (by omega) (by omega))
      obtain ⟨C', M', y, x1, x2, x3⟩ := rest C2 M3 f f1 rfl (fun _ _ _ _ => rfl) rfl (fun _ _ _ _ => rfl) (fun i hi => by rw [k6.2 _ _ _ (by decide) (by decide) (by decide), l2.2 _ _ _ (by decide) (by decide) (by decide), k7.2 _ _ _ (by decide) (by decide) (by decide), q3 _ _ _ (by decide), f4 i hi])
      refine ⟨C', M', y, ?_, fun R hR' => headM _ ?_, x3⟩
      · rw [if_neg (by omega)]
        refine headC _ ?_
        rw [if_pos hc]
        exact x1
      · rw [if_neg hc']
        exact x2 R hR'
    · have hc' : nI tk' < v5 := hcmp.mp hc
      obtain ⟨M4, v1, v2, v3', v4', v5'⟩ := copy_e (nI t) a1 (nI k) (nI (clr (2 ^ n - 1) t)) (nI tk') (nI j) (fun M25 => qM_line_L61 (nI t) a1 (nI k) (nI (clr (2 ^ n - 1) t)) E' F M25 (nI tk') (nI j + nI 1)) 4 0 1000 M3 (by omega) (by omega)
      obtain ⟨C', M', y, x1, x2, x3⟩ := rest (zcpy C2 23 0 24 0 0 0 k) M4 tk' (by omega) rfl (fun a i j q => zcp_n (by omega)) v2 v3' (fun i hi => by rw [zcp_e (by omega), Nat.zero_add, Nat.sub_zero, hR2 i hi, v5' i (by omega) (by omega), m62 i hi])
      refine ⟨C', M', y, ?_, fun R hR' => headM _ ?_, x3⟩
      · rw [if_neg (by omega)]
        refine headC _ ?_
        rw [if_neg hc]
        exact x1
      · rw [if_pos hc']
        exact v1 _ (x2 R hR')
