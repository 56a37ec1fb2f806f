/-! PURE PART: what is tried on the second party; BEST. -/
theorem trial_e {c m : zM} {n rd h e : Nat} {cs : List Cl} (H : PH c m 0 n rd h e cs) : ∃ C, qP_become c 2 0 = some ((), C) ∧ PH C m 2 n rd h e cs ∧ FRT c C := by
  have hn6 := H.2.1
  obtain ⟨C, k1, k2, k3, k4, k5, k6, k7⟩ := qP_become_e c (q0 := 2) (q1 := 0) (n := n) (by decide) (by decide) (by decide) hn6 H.2.2.2.2.2.1
  refine ⟨C, k1, PH_mk H (by decide) H.2.2.1 (fun i hi => by rw [k3 _ _ _ (by omega)]; exact H.2.2.2.1 i hi) (Rppl_cg (fun k p j hp hk => k7 k p j hp hk) (fun _ _ _ => rfl) H.2.2.2.2.1) (by rw [k4 1 (by omega)]; exact H.2.2.2.2.2.1) (by rw [k4 2 (by omega)]; exact H.2.2.2.2.2.2.1) H.2.2.2.2.2.2.2.1 H.2.2.2.2.2.2.2.2.1 (fun a i j ha => k3 _ _ _ (by omega)) (k3 _ _ _ (by omega)) (fun _ _ _ => rfl), ⟨k2, fun i => k3 _ _ _ (by omega), fun a i j q1 q2 q3 => k3 _ _ _ (by omega)⟩⟩
theorem pp_cg {C M C' M' : zM} {i p : Nat} (hc : ∀ k j, (k = 2 ∧ 1 ≤ j ∧ j ≤ 4) ∨ (3 ≤ k ∧ k ≤ 5 ∧ j < 3) ∨ (k = 6 ∧ j < 4) → C'.1 k i j = C.1 k i j) (hm : ∀ a j, (41 ≤ a ∧ a ≤ 44 ∧ j = p) ∨ (45 ≤ a ∧ a ≤ 47 ∧ 3 * p ≤ j ∧ j < 3 * p + 3) ∨ (a = 48 ∧ 4 * p ≤ j ∧ j < 4 * p + 4) → M'.1 a 0 j = M.1 a 0 j) (h : PPn C M 41 i p ∧ WFp M 41 p) : PPn C' M' 41 i p ∧ WFp M' 41 p := by
  obtain ⟨⟨a1, a2, a3, a4, a5, a6, a7, a8⟩, b1, b2, b3, b4, b5, b6, b7⟩ := h
  refine ⟨⟨?_, ?_, ?_, ?_, ?_, ?_, ?_, ?_⟩, ?_, ?_, ?_, ?_, ?_, ?_, ?_⟩
  · rw [hc 2 1 (by omega), hm 41 p (by omega)]; exact a1
  · rw [hc 2 2 (by omega), hm (41 + 1) p (by omega)]; exact a2
  · rw [hc 2 3 (by omega), hm (41 + 2) p (by omega)]; exact a3
  · rw [hc 2 4 (by omega), hm (41 + 3) p (by omega)]; exact a4
  · intro t ht; rw [hc 3 t (by omega), hm (41 + 4) _ (by omega)]; exact a5 t ht
  · intro t ht; rw [hc 4 t (by omega), hm (41 + 5) _ (by omega)]; exact a6 t ht
  · intro t ht; rw [hc 5 t (by omega), hm (41 + 6) _ (by omega)]; exact a7 t ht
  · intro t ht; rw [hc 6 t (by omega), hm (41 + 7) _ (by omega)]; exact a8 t ht
  · rw [hm 41 p (by omega)]; exact b1
  · rw [hm (41 + 1) p (by omega)]; exact b2
  · rw [hm (41 + 3) p (by omega)]; exact b3
  · intro t ht; rw [hm (41 + 4) _ (by omega)]; exact b4 t ht
  · intro t ht; rw [hm (41 + 5) _ (by omega)]; exact b5 t ht
  · rw [hm (41 + 6) _ (by omega), hm (41 + 6) _ (by omega), hm (41 + 6) _ (by omega)]; exact b6
  · intro t ht; rw [hm (41 + 7) _ (by omega)]; exact b7 t ht
/-- the party 2 with other numbers in the seat t, on both sides -/
theorem PH_var {C M C' M' : zM} {n rd h e t : Nat} {cs : List Cl} (H : PH C M 2 n rd h e cs) (ht : t < n) (hC : ∀ a i j, ¬ (2 ≤ a ∧ a ≤ 6 ∧ i = 12 + t ∧ (a = 2 → 1 ≤ j)) → C'.1 a i j = C.1 a i j) (hM : ∀ a j, ¬ (41 ≤ a ∧ a ≤ 44 ∧ j = t) → ¬ (45 ≤ a ∧ a ≤ 47 ∧ 3 * t ≤ j ∧ j < 3 * t + 3) → ¬ (a = 48 ∧ 4 * t ≤ j ∧ j < 4 * t + 4) → M'.1 a 0 j = M.1 a 0 j) (hp : PPn C' M' 41 (12 + t) t ∧ WFp M' 41 t) : PH C' M' 2 n rd h e cs := by
  have hn6 := H.2.1
  refine PH_mk H (by decide) H.2.2.1 (fun i hi => by rw [hC _ _ _ (by omega)]; exact H.2.2.2.1 i hi) (fun p hpn => ?_) (by rw [hC _ _ _ (by omega)]; exact H.2.2.2.2.2.1) (by rw [hC _ _ _ (by omega)]; exact H.2.2.2.2.2.2.1) (by rw [hM _ _ (by omega) (by omega) (by omega)]; exact H.2.2.2.2.2.2.2.1) (by rw [hM _ _ (by omega) (by omega) (by omega)]; exact H.2.2.2.2.2.2.2.2.1) (fun a i j ha => hC _ _ _ (by omega)) (hC _ _ _ (by omega)) (fun a j ha => hM _ _ (by omega) (by omega) (by omega))
  by_cases e : p = t
  · rw [e]; exact hp
  · exact pp_cg (fun k j hk => hC _ _ _ (by omega)) (fun a j ha => hM _ _ (by omega) (by omega) (by omega)) (H.2.2.2.2.1 p hpn)
theorem PH_40 {C M : zM} {n rd h e q x y : Nat} {cs : List Cl} {v w : Int32} (H : PH C M q n rd h e cs) (hx : x = 31 ∨ x = 32) (hy : y = 31 ∨ y = 32) : PH C (zset (zset M 40 0 x v) 40 0 y w) q n rd h e cs := by
  have F : ∀ a j, ¬ (a = 40 ∧ (j = 31 ∨ j = 32)) → (zset (zset M 40 0 x v) 40 0 y w).1 a 0 j = M.1 a 0 j := fun a j q => by rw [zg_n (by omega), zg_n (by omega)]
  exact PH_mk H H.1 H.2.2.1 H.2.2.2.1 (Rppl_cg (fun _ _ _ _ _ => rfl) (fun t j ht => F _ _ (by omega)) H.2.2.2.2.1) H.2.2.2.2.2.1 H.2.2.2.2.2.2.1 (by rw [F _ _ (by omega)]; exact H.2.2.2.2.2.2.2.1) (by rw [F _ _ (by omega)]; exact H.2.2.2.2.2.2.2.2.1) (fun _ _ _ _ => rfl) rfl (fun a j ha => F _ _ (by omega))
theorem PH_lie {C M : zM} {n rd h e t v : Nat} {cs : List Cl} (H : PH C M 2 n rd h e cs) (ht : t < n) (hv : v < 3) : PH (zset C 2 (12 + t) 4 (nI v)) (zset M 44 0 t (nI v)) 2 n rd h e cs := by
  refine PH_var H ht (fun a i j q => zg_n (by omega)) (fun a j q1 q2 q3 => zg_n (by omega)) ?_
  obtain ⟨⟨a1, a2, a3, a4, a5, a6, a7, a8⟩, b1, b2, b3, b4, b5, b6, b7⟩ := H.2.2.2.2.1 t ht
  refine ⟨⟨?_, ?_, ?_, ?_, ?_, ?_, ?_, ?_⟩, ?_, ?_, ?_, ?_, ?_, ?_, ?_⟩
  · rw [zg_n (by omega), zg_n (by omega)]; exact a1
  · rw [zg_n (by omega), zg_n (by omega)]; exact a2
  · rw [zg_n (by omega), zg_n (by omega)]; exact a3
  · rw [zg_e (by omega), zg_e (by omega)]
  · intro t ht; rw [zg_n (by omega), zg_n (by omega)]; exact a5 t ht
  · intro t ht; rw [zg_n (by omega), zg_n (by omega)]; exact a6 t ht
  · intro t ht; rw [zg_n (by omega), zg_n (by omega)]; exact a7 t ht
  · intro t ht; rw [zg_n (by omega), zg_n (by omega)]; exact a8 t ht
  · rw [zg_n (by omega)]; exact b1
  · rw [zg_n (by omega)]; exact b2
  · exact ⟨v, hv, by rw [zg_e (by omega)]⟩
  · intro t ht; rw [zg_n (by omega)]; exact b4 t ht
  · intro t ht; rw [zg_n (by omega)]; exact b5 t ht
  · rw [zg_n (by omega), zg_n (by omega), zg_n (by omega)]; exact b6
  · intro t ht; rw [zg_n (by omega)]; exact b7 t ht
theorem PH_seem {C M : zM} {n rd h e t x v : Nat} {cs : List Cl} (H : PH C M 2 n rd h e cs) (ht : t < n) (hx : x < 3) (hv : v < 100) : PH (zset C 3 (12 + t) x (nI v)) (zset M 45 0 (3 * t + x) (nI v)) 2 n rd h e cs := by
  refine PH_var H ht (fun a i j q => zg_n (by omega)) (fun a j q1 q2 q3 => zg_n (by omega)) ?_
  obtain ⟨⟨a1, a2, a3, a4, a5, a6, a7, a8⟩, b1, b2, b3, b4, b5, b6, b7⟩ := H.2.2.2.2.1 t ht
  refine ⟨⟨?_, ?_, ?_, ?_, ?_, ?_, ?_, ?_⟩, ?_, ?_, ?_, ?_, ?_, ?_, ?_⟩
  · rw [zg_n (by omega), zg_n (by omega)]; exact a1
  · rw [zg_n (by omega), zg_n (by omega)]; exact a2
  · rw [zg_n (by omega), zg_n (by omega)]; exact a3
  · rw [zg_n (by omega), zg_n (by omega)]; exact a4
  · intro s hs
    by_cases e : s = x
    · rw [zg_e (by omega), zg_e (by omega)]
    · rw [zg_n (by omega), zg_n (by omega)]; exact a5 s hs
  · intro t ht; rw [zg_n (by omega), zg_n (by omega)]; exact a6 t ht
  · intro t ht; rw [zg_n (by omega), zg_n (by omega)]; exact a7 t ht
  · intro t ht; rw [zg_n (by omega), zg_n (by omega)]; exact a8 t ht
  · rw [zg_n (by omega)]; exact b1
  · rw [zg_n (by omega)]; exact b2
  · rw [zg_n (by omega)]; exact b3
  · intro s hs
    by_cases e : s = x
    · exact ⟨v, hv, by rw [zg_e (by omega)]⟩
    · rw [zg_n (by omega)]; exact b4 s hs
  · intro t ht; rw [zg_n (by omega)]; exact b5 t ht
  · rw [zg_n (by omega), zg_n (by omega), zg_n (by omega)]; exact b6
  · intro t ht; rw [zg_n (by omega)]; exact b7 t ht
theorem PH_ord {C M : zM} {n rd h e t a b d : Nat} {cs : List Cl} (H : PH C M 2 n rd h e cs) (ht : t < n) (ha : a < 3) (hb : b < 3) (hd : d < 3) (h1 : a ≠ b) (h2 : a ≠ d) (h3 : b ≠ d) : PH (zset (zset (zset C 5 (12 + t) 0 (nI a)) 5 (12 + t) 1 (nI b)) 5 (12 + t) 2 (nI d)) (zset (zset (zset M 47 0 (3 * t) (nI a)) 47 0 (3 * t + 1) (nI b)) 47 0 (3 * t + 2) (nI d)) 2 n rd h e cs := by
  refine PH_var H ht (fun a i j q => by rw [zg_n (by omega), zg_n (by omega), zg_n (by omega)]) (fun a j q1 q2 q3 => by rw [zg_n (by omega), zg_n (by omega), zg_n (by omega)]) ?_
  obtain ⟨⟨a1, a2, a3, a4, a5, a6, a7, a8⟩, b1, b2, b3, b4, b5, b6, b7⟩ := H.2.2.2.2.1 t ht
  refine ⟨⟨?_, ?_, ?_, ?_, ?_, ?_, ?_, ?_⟩, ?_, ?_, ?_, ?_, ?_, ?_, ?_⟩
  · simp (disch := omega) only [zg_n]; exact a1
  · simp (disch := omega) only [zg_n]; exact a2
  · simp (disch := omega) only [zg_n]; exact a3
  · simp (disch := omega) only [zg_n]; exact a4
  · intro t ht; simp (disch := omega) only [zg_n]; exact a5 t ht
  · intro t ht; simp (disch := omega) only [zg_n]; exact a6 t ht
  · intro s hs
    rcases (show s = 0 ∨ s = 1 ∨ s = 2 by omega) with rfl | rfl | rfl
    · rw [zg_n (by omega), zg_n (by omega), zg_e (by omega), zg_n (by omega), zg_n (by omega), zg_e (by omega)]
    · rw [zg_n (by omega), zg_e (by omega), zg_n (by omega), zg_e (by omega)]
    · rw [zg_e (by omega), zg_e (by omega)]
  · intro t ht; simp (disch := omega) only [zg_n]; exact a8 t ht
  · simp (disch := omega) only [zg_n]; exact b1
  · simp (disch := omega) only [zg_n]; exact b2
  · simp (disch := omega) only [zg_n]; exact b3
  · intro t ht; simp (disch := omega) only [zg_n]; exact b4 t ht
  · intro t ht; simp (disch := omega) only [zg_n]; exact b5 t ht
  · refine ⟨a, b, d, ha, hb, hd, h1, h2, h3, ?_, ?_, ?_⟩
    · rw [zg_n (by omega), zg_n (by omega), zg_e (by omega)]
    · rw [zg_n (by omega), zg_e (by omega)]
    · rw [zg_e (by omega)]
  · intro t ht; simp (disch := omega) only [zg_n]; exact b7 t ht
/-- alike but for 58 to 60, the best so far, and P -/
def FRV (P : Nat → Nat → Prop) (m M : zM) : Prop := M.2 = m.2 ∧ ∀ a j, a ≠ 58 → a ≠ 59 → a ≠ 60 → ¬ (a = 40 ∧ (j = 31 ∨ j = 32)) → ¬ P a j → M.1 a 0 j = m.1 a 0 j
theorem FRV_trans {P : Nat → Nat → Prop} {A B C : zM} (h1 : FRV P A B) (h2 : FRV P B C) : FRV P A C := ⟨h2.1.trans h1.1, fun a j q1 q2 q3 q4 q5 => (h2.2 a j q1 q2 q3 q4 q5).trans (h1.2 a j q1 q2 q3 q4 q5)⟩
theorem FRV_refl (P : Nat → Nat → Prop) (m : zM) : FRV P m m := ⟨rfl, fun _ _ _ _ _ _ _ => rfl⟩
theorem FRV_3 {P : Nat → Nat → Prop} {m M : zM} (h : FR3 m M) : FRV P m M := ⟨h.1, fun a j q1 q2 q3 _ _ => h.2 a 0 j q1 q2 q3⟩
theorem FRV_set {P : Nat → Nat → Prop} (m : zM) {k j : Nat} (v : Int32) (h : P k j ∨ (k = 40 ∧ (j = 31 ∨ j = 32))) : FRV P m (zset m k 0 j v) := ⟨rfl, fun a i q1 q2 q3 q4 q5 => zg_n (by
  rintro ⟨rfl, -, rfl⟩
  rcases h with h | h
  · exact q5 h
  · exact q4 h)⟩
theorem FRT_seat {C : zM} {k i j : Nat} {v : Int32} (hk : 2 ≤ k ∧ k ≤ 6) (hi : 12 ≤ i) (hj : k = 2 → 1 ≤ j) : FRT C (zset C k i j v) := ⟨rfl, fun a => zg_n (by omega), fun a b d q1 q2 q3 => zg_n (by omega)⟩
/-- a trial played: what is kept of it -/
theorem var_e {C M : zM} {n rd h e t : Nat} {cs : List Cl} (H : PH C M 2 n rd h e cs) (ht : t < n) (hpl : M.1 40 0 30 = -nI 1) : ∃ (D N : zM) (hs : Nat → Nat) (tk : Nat), qG_playAsEver C 2 (nI t) = some (nI tk, D) ∧ qM_goes M (nI t) = some (nI tk, N) ∧ PH D N 2 n rd h e cs ∧ FRc C D ∧ FR3 M N ∧ tk ≤ n - 1 ∧ ∀ p, p < 3 → hs p ≤ 6 ∧ D.1 20 0 p = nI (hs p) ∧ N.1 59 0 p = nI (hs p) := by
  obtain ⟨lp, hl⟩ := LPl_ex (PH_pp H ht).2.2.2.2.2.2.2.2
  obtain ⟨D, N, hs, tk, gs, k1, k2, k3, k4, k5, k6, k7, k8⟩ := play_e H hl ht hpl
  exact ⟨D, N, hs, tk, k1, k2, PH_fr H k4 k5, k4, k5, k8, fun p hp => ⟨(k6 p hp).1, k3.2.2.2 p hp, (k6 p hp).2⟩⟩
theorem best_loop {m : zM} {n rd h e t : Nat} {cs : List Cl} {a1 was : Int32} {E : zM → Int32 → Int32 → Option (Int32 × zM)} {E' : zM → Option (Int32 × zM)} (hn6 : n ≤ 6) (ht : t < n) (hpl : m.1 40 0 30 = -nI 1) : ∀ (d v F : Nat) (C M : zM) (v3 v4 : Int32), v + d = 3 → d < F → PH C M 2 n rd h e cs → FRV (fun a j => a = 44 ∧ j = t) m M → M.1 40 0 32 = v3 → (v3 = -nI 1 ∨ M.1 40 0 31 = v4) → (d = 0 → v3 ≠ -nI 1) →
    ∃ C' M' w3 w4, (∀ R, E C' w3 w4 = R → qG_best_L41 (nI t) a1 E F C v3 v4 (nI v) = R) ∧ (∀ R, E' M' = R → qM_best_L35 (nI t) a1 was E' F M (nI v) = R) ∧ FRT C C' ∧ FRV (fun a j => a = 44 ∧ j = t) m M' ∧ M'.1 40 0 32 = w3 ∧ M'.1 40 0 31 = w4
  | 0, v, F + 1, C, M, v3, v4, hd, hF, H, hM, h3, h4, h5 => by
    refine ⟨C, M, v3, v4, fun R hR => ?_, fun R hR => ?_, FRT_refl _, hM, h3, ?_⟩
    · unfold qG_best_L41
      simp only [zl0, zl1, zl2, zl3, zl4, zl5, zl6, zl7, zl8, zl9, zl10, zl11, zl12, zl13, zl14, zl16, zl18, zl19, zl20, zl22, zl24, zl30, zl32, zl33, zl36, zl38, zl40, zl41, zl48, zl50, zl51, zl57, zl59, zl60, zl61, zl62, zl70, zl71, zl99, zl100, zl103, zl104, zl105, zl106, zl107, zl108, zl109, zl110, zl111, zl112, zl113, zl114, zl115, zl116, zl124, zl127, zl255, zl999, zl1000, zl1001, zl1002, zl1003]
      rw [if_pos (nI_le (by omega) (by omega))]
      exact hR
    · unfold qM_best_L35
      simp only [zl0, zl1, zl2, zl3, zl4, zl5, zl6, zl7, zl8, zl9, zl10, zl11, zl12, zl13, zl14, zl16, zl18, zl19, zl20, zl22, zl24, zl30, zl32, zl33, zl36, zl38, zl40, zl41, zl48, zl50, zl51, zl57, zl59, zl60, zl61, zl62, zl70, zl71, zl99, zl100, zl103, zl104, zl105, zl106, zl107, zl108, zl109, zl110, zl111, zl112, zl113, zl114, zl115, zl116, zl124, zl127, zl255, zl999, zl1000, zl1001, zl1002, zl1003]
      rw [if_pos (nI_le (by omega) (by omega))]
      exact hR
    · exact h4.resolve_left (h5 rfl)
  | d + 1, v, F + 1, C, M, v3, v4, hd, hF, H, hM, h3, h4, h5 => by
    have H1 := PH_lie (v := v) H ht (by omega)
    have f1 : FRV (fun a j => a = 44 ∧ j = t) m (zset M 44 0 t (nI v)) := FRV_trans hM (FRV_set _ _ (Or.inl ⟨rfl, rfl⟩))
    obtain ⟨D, N, hs, tk, k1, k2, k3, k4, k5, k6, k7⟩ := var_e H1 ht (by rw [f1.2 _ _ (by decide) (by decide) (by decide) (by omega) (by omega), hpl])
    have f2 := FRV_trans f1 (FRV_3 k5)
    have g1 : FRT C D := FRT_trans (FRT_seat (by omega) (by omega) (by omega)) (FRT_c k4)
    have e32 : N.1 40 0 32 = v3 := by rw [k5.2 _ _ _ (by decide) (by decide) (by decide), zg_n (by omega), h3]
    have e31 : N.1 40 0 31 = M.1 40 0 31 := by rw [k5.2 _ _ _ (by decide) (by decide) (by decide), zg_n (by omega)]
    by_cases hc : v3 < nI tk
    · have f3 : FRV (fun a j => a = 44 ∧ j = t) m (zset (zset N 40 0 32 (nI tk)) 40 0 31 (nI v)) := FRV_trans f2 (FRV_trans (FRV_set _ _ (Or.inr (by omega))) (FRV_set _ _ (Or.inr (by omega))))
      obtain ⟨C', M', w3, w4, x1, x2, x3, x4, x5, x6⟩ := best_loop (a1 := a1) (was := was) (E := E) (E' := E') hn6 ht hpl d (v + 1) F D (zset (zset N 40 0 32 (nI tk)) 40 0 31 (nI v)) (nI tk) (nI v) (by omega) (by omega) (PH_40 k3 (by omega) (by omega)) f3 (by rw [zg_n (by omega), zg_e (by omega)]) (Or.inr (zg_e (by omega))) (fun _ => of_eq_false (ze_neq (by omega) (by omega) (by omega)))
      refine ⟨C', M', w3, w4, fun R hR => ?_, fun R hR => ?_, FRT_trans g1 x3, x4, x5, x6⟩
      · unfold qG_best_L41
        simp only [zl0, zl1, zl2, zl3, zl4, zl5, zl6, zl7, zl8, zl9, zl10, zl11, zl12, zl13, zl14, zl16, zl18, zl19, zl20, zl22, zl24, zl30, zl32, zl33, zl36, zl38, zl40, zl41, zl48, zl50, zl51, zl57, zl59, zl60, zl61, zl62, zl70, zl71, zl99, zl100, zl103, zl104, zl105, zl106, zl107, zl108, zl109, zl110, zl111, zl112, zl113, zl114, zl115, zl116, zl124, zl127, zl255, zl999, zl1000, zl1001, zl1002, zl1003]
        rw [if_neg (nI_ge (by omega) (by omega)), zchk_e (ze_in (by omega) (by omega)), znm_e, znm_e, ze_cl (show t < 2 ^ 31 by omega), zbnd_c k1, zjn_e, if_neg (Int32.not_le.mpr hc), ze_add]
        exact x1 R hR
      · unfold qM_best_L35
        simp only [zl0, zl1, zl2, zl3, zl4, zl5, zl6, zl7, zl8, zl9, zl10, zl11, zl12, zl13, zl14, zl16, zl18, zl19, zl20, zl22, zl24, zl30, zl32, zl33, zl36, zl38, zl40, zl41, zl48, zl50, zl51, zl57, zl59, zl60, zl61, zl62, zl70, zl71, zl99, zl100, zl103, zl104, zl105, zl106, zl107, zl108, zl109, zl110, zl111, zl112, zl113, zl114, zl115, zl116, zl124, zl127, zl255, zl999, zl1000, zl1001, zl1002, zl1003]
        rw [if_neg (nI_ge (by omega) (by omega)), zchk_e (ze_in (by omega) (by omega)), znm_e, ze_cl (show t < 2 ^ 31 by omega), zbnd_c k2, zjn_e, e32, if_pos hc, znm_e, znm_e, ze_add]
        exact x2 R hR
    · have hne : v3 ≠ -nI 1 := fun q => hc (by rw [q]; exact of_eq_true (ze_nlt (by omega) (by omega) (by omega)))
      obtain ⟨C', M', w3, w4, x1, x2, x3, x4, x5, x6⟩ := best_loop (a1 := a1) (was := was) (E := E) (E' := E') hn6 ht hpl d (v + 1) F D N v3 v4 (by omega) (by omega) k3 f2 e32 (Or.inr (by rw [e31]; exact h4.resolve_left hne)) (fun _ => hne)
      refine ⟨C', M', w3, w4, fun R hR => ?_, fun R hR => ?_, FRT_trans g1 x3, x4, x5, x6⟩
      · unfold qG_best_L41
        simp only [zl0, zl1, zl2, zl3, zl4, zl5, zl6, zl7, zl8, zl9, zl10, zl11, zl12, zl13, zl14, zl16, zl18, zl19, zl20, zl22, zl24, zl30, zl32, zl33, zl36, zl38, zl40, zl41, zl48, zl50, zl51, zl57, zl59, zl60, zl61, zl62, zl70, zl71, zl99, zl100, zl103, zl104, zl105, zl106, zl107, zl108, zl109, zl110, zl111, zl112, zl113, zl114, zl115, zl116, zl124, zl127, zl255, zl999, zl1000, zl1001, zl1002, zl1003]
        rw [if_neg (nI_ge (by omega) (by omega)), zchk_e (ze_in (by omega) (by omega)), znm_e, znm_e, ze_cl (show t < 2 ^ 31 by omega), zbnd_c k1, zjn_e, if_pos (Int32.not_lt.mp hc), ze_add]
        exact x1 R hR
      · unfold qM_best_L35
        simp only [zl0, zl1, zl2, zl3, zl4, zl5, zl6, zl7, zl8, zl9, zl10, zl11, zl12, zl13, zl14, zl16, zl18, zl19, zl20, zl22, zl24, zl30, zl32, zl33, zl36, zl38, zl40, zl41, zl48, zl50, zl51, zl57, zl59, zl60, zl61, zl62, zl70, zl71, zl99, zl100, zl103, zl104, zl105, zl106, zl107, zl108, zl109, zl110, zl111, zl112, zl113, zl114, zl115, zl116, zl124, zl127, zl255, zl999, zl1000, zl1001, zl1002, zl1003]
        rw [if_neg (nI_ge (by omega) (by omega)), zchk_e (ze_in (by omega) (by omega)), znm_e, ze_cl (show t < 2 ^ 31 by omega), zbnd_c k2, zjn_e, e32, if_neg hc, ze_add]
        exact x2 R hR
theorem st_best (c m : zM) (a0 a1 : Int32) (h : Rl c m) : ∃ (r : Int32) (c1 m1 : zM), qG_best c a0 a1 = some (r, c1) ∧ qM_best m a0 a1 = some (r, m1) ∧ Rl c1 m1 := by
  obtain ⟨n, rd, bk, ec, tl, ev, h1, h2, h3, h4, h5, h6, h7, h8, h9, h10, h11, h12, h13⟩ := h; obtain ⟨b1, b2, b3, b4, b5, b6⟩ := h1; have h1 : Rb1 n rd bk ec tl ev := ⟨b1, b2, b3, b4, b5, b6⟩; obtain ⟨c1, c2, c3, c4, c5, c6⟩ := h2; have h2 : Rb2 c n rd bk ec tl ev := ⟨c1, c2, c3, c4, c5, c6⟩; obtain ⟨m1, m2, m3, m4, m5, m6, m7⟩ := h3; have h3 : Rb3 m n rd bk ec tl ev := ⟨m1, m2, m3, m4, m5, m6, m7⟩
  have hB : RB c m n rd bk ec tl ev := ⟨h1, h2, h3, h4, h5, h6, h7, h8, h9, h10, h11, h12, h13⟩
  obtain ⟨hh, e, cs, H⟩ := PH_0 hB
  unfold qG_best qM_best
  simp only [zl0, zl1, zl2, zl3, zl4, zl5, zl6, zl7, zl8, zl9, zl10, zl11, zl12, zl13, zl14, zl16, zl18, zl19, zl20, zl22, zl24, zl30, zl32, zl33, zl36, zl38, zl40, zl41, zl48, zl50, zl51, zl57, zl59, zl60, zl61, zl62, zl70, zl71, zl99, zl100, zl103, zl104, zl105, zl106, zl107, zl108, zl109, zl110, zl111, zl112, zl113, zl114, zl115, zl116, zl124, zl127, zl255, zl999, zl1000, zl1001, zl1002, zl1003]
  rcases zcase a0 (n := n) (by omega) with g | ⟨p, hp, rfl⟩
  · rw [zb_n (qP_has_no c1 g), zb_n (qM_isPerson_no m1 (by omega) g)]
    exact ⟨_, c, m, rfl, rfl, n, rd, bk, ec, tl, ev, h1, h2, h3, h4, h5, h6, h7, h8, h9, h10, h11, h12, h13⟩
  rw [zb_y (qP_has_ok c1 hp (by omega)), zb_y (qM_isPerson_ok m1 hp (by omega))]
  rcases zcase a1 (n := 2) (by omega) with g | ⟨w, hw, rfl⟩
  · rw [zno_i3 g (k := 1) rfl (by decide), zb_n (qM_in_no m (h := 1) rfl (by decide) g)]
    exact ⟨_, c, m, rfl, rfl, n, rd, bk, ec, tl, ev, h1, h2, h3, h4, h5, h6, h7, h8, h9, h10, h11, h12, h13⟩
  rw [if_neg (nI_nlt (by omega) (by omega)), if_pos (nI_le (by omega) (by omega)), zb_y (qM_in_ok m (show w ≤ 1 by omega) (by decide))]
  obtain ⟨C, k1, k2, k3⟩ := trial_e H
  have hn6 := H.2.1
  let M0 := zset m 40 0 32 (-nI 1)
  have eM0 : M0 = zset (zset m 40 0 32 (-nI 1)) 40 0 32 (-nI 1) := by
    show (_, _) = (_, _)
    refine Prod.ext (funext fun a => funext fun b => funext fun d => ?_) rfl
    show (if a = 40 ∧ b = 0 ∧ d = 32 then _ else _) = (if a = 40 ∧ b = 0 ∧ d = 32 then _ else (if a = 40 ∧ b = 0 ∧ d = 32 then _ else _))
    by_cases q : a = 40 ∧ b = 0 ∧ d = 32
    · rw [if_pos q, if_pos q]
    · rw [if_neg q, if_neg q]
  have HM0 : PH C M0 2 n rd hh e cs := by rw [eM0]; exact PH_40 k2 (by omega) (by omega)
  obtain ⟨C', M', w3, w4, x1, x2, x3, x4, x5, x6⟩ := best_loop (m := m) (a1 := nI w) (was := m.1 44 0 p) (E := fun (M15 : zM) (x16 : Int32) (x17 : Int32) => if nI w = nI 0 then (some (x17, M15)) else (some (x16, M15))) (E' := fun (M17 : zM)  => zchk (zin (nI p) 6) (znm (zset M17 44 0 p (m.1 44 0 p)) fun M18 => if nI w = nI 0 then (some ((M18.1 40 0 31), M18)) else (some ((M18.1 40 0 32), M18)))) hn6 hp m7 3 0 1000 C M0 (-nI 1) (nI 0) (by omega) (by omega) HM0 (FRV_set _ _ (Or.inr (by omega))) (zg_e (by omega)) (Or.inl rfl) (by omega)
  have fin : RB C' (zset M' 44 0 p (m.1 44 0 p)) n rd bk ec tl ev := by
    refine RB_T hB (FRT_trans k3 x3) ⟨x4.1, fun a j r1 r2 => ?_⟩
    by_cases q : a = 44 ∧ j = p
    · rw [zg_e (by omega), q.1, q.2]
    · rw [zg_n (by omega), x4.2 _ _ (by omega) (by omega) (by omega) (by omega) (by omega)]
  refine ⟨if w = 0 then w4 else w3, C', zset M' 44 0 p (m.1 44 0 p), ?_, ?_, n, rd, bk, ec, tl, ev, fin⟩
  · rw [zbnd_c k1]
    refine x1 _ ?_
    by_cases q : w = 0
    · rw [if_pos q, if_pos (by rw [q])]
    · rw [if_neg q, if_neg (znI_ne (by omega) (by omega) q)]
  · rw [zchk_e (ze_in (by omega) (by omega)), znm_e, znm_e, ze_cl (show p < 2 ^ 31 by omega)]
    refine x2 _ ?_
    rw [zchk_e (ze_in (by omega) (by omega)), znm_e, zg_n (by omega), zg_n (by omega), x5, x6]
    by_cases q : w = 0
    · rw [if_pos q, if_pos (by rw [q])]
    · rw [if_neg q, if_neg (znI_ne (by omega) (by omega) q)]
