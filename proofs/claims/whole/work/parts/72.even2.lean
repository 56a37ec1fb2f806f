/-! PURE PART: EVENING, the call. -/
theorem read_e {c m : zM} {s : Nat → Nat} {tl e : Nat} (hB : BC c s tl) (hM : BM m s tl) (hr : Rlt m) (he : e < 6) :
    ∃ C M W hv, qT_readInto c e = some (if (pG s tl 10 0 [] 0).1 = true then -nI 1 else nI (pG s tl 10 0 [] 0).2.1, C) ∧ CT c C e (pG s tl 10 0 [] 0).2.1 W hv ∧ ((pG s tl 10 0 [] 0).1 = true → W = evW (pG s tl 10 0 [] 0).2.2 ∧ hv = nI (evH (pG s tl 10 0 [] 0).2.2) ∧ W.length ≤ 100) ∧ qM_goesText m (nI e) = some (nI (bv (pG s tl 10 0 [] 0).1), M) ∧ TF e m M ∧ M.1 40 0 13 = nI (pG s tl 10 0 [] 0).2.1 ∧ ((pG s tl 10 0 [] 0).1 = true → M.1 50 0 e = nI (pG s tl 10 0 [] 0).2.2.length ∧ ∀ j q, (pG s tl 10 0 [] 0).2.2[j]? = some q → EVm M e j q) := by
  have htl := hB.1
  have h0 : CT c (zset (zset (zset c 13 e 1 (nI 0)) 13 e 3 (nI 10)) 10 0 2 (nI 0)) e 0 (evW []) (nI (evH [])) := by
    refine ⟨rfl, fun k i j q1 q2 q3 => by rw [zg_n (by omega), zg_n (by omega), zg_n (by omega)], zg_e ⟨rfl, rfl, rfl⟩, by rw [zg_n (by omega), zg_n (by omega), zg_e ⟨rfl, rfl, rfl⟩]; rfl, by rw [zg_n (by omega), zg_e ⟨rfl, rfl, rfl⟩]; rfl, fun j hj => absurd hj (Nat.not_lt_zero _)⟩
  obtain ⟨C, W, hv, k1, k2, k3⟩ := text_c hB 10 0 [] 0 1000 _ (by omega) (by omega) h0 (Nat.le_refl _) (Nat.zero_le _) (by omega)
  have t0 : TF e m (zset (zset m 40 0 13 (nI 0)) 40 0 23 (nI (100 * e))) := ⟨rfl, fun k j q1 q2 q3 q4 q5 => by rw [zg_n (by omega), zg_n (by omega)]⟩
  obtain ⟨M, j1, j2, j3, j4⟩ := text_m hM hr he 10 0 [] 0 (100 * e) 1000 _ (by omega) (by omega) rfl t0 (by rw [zg_n (by omega), zg_e ⟨rfl, rfl, rfl⟩]) (zg_e ⟨rfl, rfl, rfl⟩) (Nat.le_refl _) (by omega) (Nat.zero_le _) (fun j q hq => by simp only [List.getElem?_nil] at hq; cases hq) (by omega)
  refine ⟨C, M, W, hv, ?_, k2, k3, ?_, j2, j3, j4⟩
  · unfold qT_readInto qE_clear
    simp only [zl0, zl1, zl2, zl3, zl4, zl5, zl6, zl7, zl8, zl9, zl10, zl11, zl12, zl13, zl14, zl16, zl18, zl19, zl20, zl22, zl24, zl30, zl32, zl33, zl36, zl38, zl40, zl41, zl48, zl50, zl51, zl57, zl59, zl60, zl61, zl62, zl70, zl71, zl99, zl100, zl103, zl104, zl105, zl106, zl107, zl108, zl109, zl110, zl111, zl112, zl113, zl114, zl115, zl116, zl124, zl127, zl255, zl999, zl1000, zl1001, zl1002, zl1003]
    rw [znm_e, znm_e, zbnd_s, znm_e]
    exact k1
  · unfold qM_goesText
    simp only [zl0, zl1, zl2, zl3, zl4, zl5, zl6, zl7, zl8, zl9, zl10, zl11, zl12, zl13, zl14, zl16, zl18, zl19, zl20, zl22, zl24, zl30, zl32, zl33, zl36, zl38, zl40, zl41, zl48, zl50, zl51, zl57, zl59, zl60, zl61, zl62, zl70, zl71, zl99, zl100, zl103, zl104, zl105, zl106, zl107, zl108, zl109, zl110, zl111, zl112, zl113, zl114, zl115, zl116, zl124, zl127, zl255, zl999, zl1000, zl1001, zl1002, zl1003]
    rw [znm_e, ze_mul, znm_e]
    exact j1
theorem st_evening (c m : zM) (h : Rl c m) : ∃ (r : Int32) (c1 m1 : zM), qG_evening c = some (r, c1) ∧ qM_evening m = some (r, m1) ∧ Rl c1 m1 := by
  obtain ⟨n, rd, bk, ec, tl, ev, h1, h2, h3, h4, h5, h6, h7, h8, h9, h10, h11, h12, h13⟩ := h; obtain ⟨b1, b2, b3, b4, b5, b6⟩ := h1; have h1 : Rb1 n rd bk ec tl ev := ⟨b1, b2, b3, b4, b5, b6⟩; obtain ⟨c1, c2, c3, c4, c5, c6⟩ := h2; have h2 : Rb2 c n rd bk ec tl ev := ⟨c1, c2, c3, c4, c5, c6⟩; obtain ⟨m1, m2, m3, m4, m5, m6, m7⟩ := h3; have h3 : Rb3 m n rd bk ec tl ev := ⟨m1, m2, m3, m4, m5, m6, m7⟩
  unfold qG_evening qM_evening
  simp only [zl0, zl1, zl2, zl3, zl4, zl5, zl6, zl7, zl8, zl9, zl10, zl11, zl12, zl13, zl14, zl16, zl18, zl19, zl20, zl22, zl24, zl30, zl32, zl33, zl36, zl38, zl40, zl41, zl48, zl50, zl51, zl57, zl59, zl60, zl61, zl62, zl70, zl71, zl99, zl100, zl103, zl104, zl105, zl106, zl107, zl108, zl109, zl110, zl111, zl112, zl113, zl114, zl115, zl116, zl124, zl127, zl255, zl999, zl1000, zl1001, zl1002, zl1003]
  rw [c5, m5]
  by_cases he6 : ec = 6
  · rw [if_neg (nI_nlt (by omega) (by omega)), if_pos (by rw [he6])]
    exact ⟨_, c, m, rfl, rfl, n, rd, bk, ec, tl, ev, h1, h2, h3, h4, h5, h6, h7, h8, h9, h10, h11, h12, h13⟩
  rw [if_pos (nI_lt (by omega) (by omega)), if_neg (znI_ne (by omega) (by omega) he6), zchk_e (ze_in (by omega) (by omega)), znm_e, ze_cl (show ec < 2 ^ 31 by omega), Nat.zero_add]
  have hB : BC c (fun j => if j < tl then (c.1 11 0 j).toNatClampNeg else 128) tl := by
    refine ⟨b5, c6, fun j hj => ?_, fun j hj => ?_⟩
    · obtain ⟨x, x1, x2, x3⟩ := h8 j hj
      dsimp only
      rw [if_pos hj, x2, ze_cl (by omega)]
      exact ⟨x1, rfl⟩
    · dsimp only
      rw [if_neg (by omega)]
  have hM : BM m (fun j => if j < tl then (c.1 11 0 j).toNatClampNeg else 128) tl := by
    refine ⟨b5, m6, fun j hj => ?_, fun j hj => ?_⟩
    · obtain ⟨x, x1, x2, x3⟩ := h8 j hj
      dsimp only
      rw [if_pos hj, x2, ze_cl (by omega)]
      exact ⟨x1, x3⟩
    · dsimp only
      rw [if_neg (by omega)]
  obtain ⟨C, M, W, hv, k1, k2, k3, k4, k5, k6, k7⟩ := read_e hB hM h13 (show ec < 6 by omega)
  obtain ⟨g1, g2⟩ := pG_ok hB.2.2.2 b5 10 0 [] 0 (by omega) rfl (fun q hq => absurd hq List.not_mem_nil) (Nat.zero_le _)
  generalize pG (fun j => if j < tl then (c.1 11 0 j).toNatClampNeg else 128) tl 10 0 [] 0 = r at k1 k2 k3 k4 k6 k7 g1 g2
  have K := k2.2.1
  have L := k5.2
  -- what stays, whether it was an evening or not
  have keep : ∀ (C' M' : zM) (ec' : Nat) (ev' : Int32), ec ≤ ec' → ec' ≤ 6 → C'.2 = C.2 → M'.2 = M.2 → (∀ k i j, ¬ (k = 10 ∧ i = 0 ∧ j = 1) → ¬ (k = 1 ∧ i = 0 ∧ j = 3) → ¬ (k = 0 ∧ i = 0 ∧ j = 7) → C'.1 k i j = C.1 k i j) → (∀ k j, ¬ (k = 40 ∧ (j = 12 ∨ j = 11 ∨ j = 10)) → M'.1 k 0 j = M.1 k 0 j) → C'.1 10 0 1 = nI 0 → M'.1 40 0 12 = nI 0 → C'.1 1 0 3 = ev' → M'.1 40 0 11 = ev' → C'.1 0 0 7 = nI ec' → M'.1 40 0 10 = nI ec' → evOk ev' ec' → Rev C' M' ec' → Rl C' M' := by
    intro C' M' ec' ev' v1 v1' v2 v3 v4 v5 v6 v7 v8 v9 v10 v11 v12 v13
    refine ⟨n, rd, bk, ec', 0, ev', ⟨b1, b2, b3, v1', by omega, v12⟩, ⟨by rw [v4 _ _ _ (by omega) (by omega) (by omega), K _ _ _ (by omega) (by omega) (by omega), c1], by rw [v4 _ _ _ (by omega) (by omega) (by omega), K _ _ _ (by omega) (by omega) (by omega), c2], v8, by rw [v4 _ _ _ (by omega) (by omega) (by omega), K _ _ _ (by omega) (by omega) (by omega), c4], v10, v6⟩, ⟨by rw [v5 _ _ (by omega), L _ _ (by omega) (by omega) (by omega) (by omega) (by omega), m1], by rw [v5 _ _ (by omega), L _ _ (by omega) (by omega) (by omega) (by omega) (by omega), m2], v9, by rw [v5 _ _ (by omega), L _ _ (by omega) (by omega) (by omega) (by omega) (by omega), m4], v11, v7, by rw [v5 _ _ (by omega), L _ _ (by omega) (by omega) (by omega) (by omega) (by omega), m7]⟩, ?_, ?_, ?_, ?_, ?_, v13, ?_, ?_, ?_, ?_⟩
    · intro i hi; rw [v4 _ _ _ (by omega) (by omega) (by omega), K _ _ _ (by omega) (by omega) (by omega), h4 i hi]
    · exact Rppl_cg (fun k p j hp hk => by rw [v4 _ _ _ (by omega) (by omega) (by omega), K _ _ _ (by omega) (by omega) (by omega)]) (fun t j ht => by rw [v5 _ _ (by omega), L _ _ (by omega) (by omega) (by omega) (by omega) (by omega)]) h5
    · exact Rbk_cg (Nat.le_refl _) (fun j _ => by rw [v4 _ _ _ (by omega) (by omega) (by omega), K _ _ _ (by omega) (by omega) (by omega)]) (fun j _ => ⟨by rw [v5 _ _ (by omega), L _ _ (by omega) (by omega) (by omega) (by omega) (by omega)], by rw [v5 _ _ (by omega), L _ _ (by omega) (by omega) (by omega) (by omega) (by omega)], by rw [v5 _ _ (by omega), L _ _ (by omega) (by omega) (by omega) (by omega) (by omega)]⟩) h6
    · intro p hp; rw [v4 _ _ _ (by omega) (by omega) (by omega), K _ _ _ (by omega) (by omega) (by omega), v5 _ _ (by omega), L _ _ (by omega) (by omega) (by omega) (by omega) (by omega), h7 p hp]
    · intro j hj; exact absurd hj (Nat.not_lt_zero _)
    · exact Rim_cg v1 (fun k i j hk => by rw [v4 _ _ _ (by omega) (by omega) (by omega), K _ _ _ (by omega) (by omega) (by omega)]) (fun k j hk => by rw [v5 _ _ (by omega), L _ _ (by omega) (by omega) (by omega) (by omega) (by omega)]) h10
    · obtain ⟨k, q1, q2, q3, q4⟩ := h11
      exact ⟨k, q1, by rw [v4 _ _ _ (by omega) (by omega) (by omega), K _ _ _ (by omega) (by omega) (by omega), q2], by rw [v5 _ _ (by omega), L _ _ (by omega) (by omega) (by omega) (by omega) (by omega), q3], fun j r1 r2 => by rw [v4 _ _ _ (by omega) (by omega) (by omega), K _ _ _ (by omega) (by omega) (by omega), v5 _ _ (by omega), L _ _ (by omega) (by omega) (by omega) (by omega) (by omega), q4 j r1 r2]⟩
    · intro t ht
      obtain ⟨k, q1, q2, q3, q4, q5⟩ := h12 t ht
      exact ⟨k, q1, by rw [v4 _ _ _ (by omega) (by omega) (by omega), K _ _ _ (by omega) (by omega) (by omega), q2], by rw [v5 _ _ (by omega), L _ _ (by omega) (by omega) (by omega) (by omega) (by omega), q3], fun j hj => by rw [v2, v3, k2.1, k5.1, q4 j hj], by rw [v4 _ _ _ (by omega) (by omega) (by omega), K _ _ _ (by omega) (by omega) (by omega), v5 _ _ (by omega), L _ _ (by omega) (by omega) (by omega) (by omega) (by omega)]; exact q5⟩
    · intro j hj; rw [v5 _ _ (by omega), L _ _ (by omega) (by omega) (by omega) (by omega) (by omega), h13 j hj]
  -- the evenings that were there
  have old : ∀ (C' M' : zM), (∀ k i j, ¬ (k = 10 ∧ i = 0 ∧ j = 1) → ¬ (k = 1 ∧ i = 0 ∧ j = 3) → ¬ (k = 0 ∧ i = 0 ∧ j = 7) → C'.1 k i j = C.1 k i j) → (∀ k j, ¬ (k = 40 ∧ (j = 12 ∨ j = 11 ∨ j = 10)) → M'.1 k 0 j = M.1 k 0 j) → (∀ e, e < ec → EV C' M' e) ∧ C'.1 13 6 1 = nI 0 ∧ C'.1 13 6 3 = nI 10 := by
    intro C' M' v4 v5
    obtain ⟨w1, w2, w3⟩ := h9
    refine ⟨fun e he => EV_cg (fun k j hk => by rw [v4 _ _ _ (by omega) (by omega) (by omega), K _ _ _ (by omega) (by omega) (by omega)]) (fun k j hk => by rw [v5 _ _ (by omega), L _ _ (by omega) (by omega) (by omega) (by omega) (by omega)]) (w1 e he), ?_, ?_⟩
    · rw [v4 _ _ _ (by omega) (by omega) (by omega), K _ _ _ (by omega) (by omega) (by omega), w2]
    · rw [v4 _ _ _ (by omega) (by omega) (by omega), K _ _ _ (by omega) (by omega) (by omega), w3]
  rw [zbnd_c k1, zbnd_c k4]
  simp only [znm_e]
  by_cases hr : r.1 = true
  · rw [if_pos hr]
    obtain ⟨o1, o2, o3⟩ := k3 hr
    obtain ⟨o4, o5⟩ := k7 hr
    obtain ⟨o6, o7, o8⟩ := g2 hr
    have e7 : (zset C 10 0 1 (nI 0)).1 0 0 7 = nI ec := by rw [zg_n (by omega), K _ _ _ (by omega) (by omega) (by omega), c5]
    have e7' : (zset (zset C 10 0 1 (nI 0)) 1 0 3 (nI ec)).1 0 0 7 = nI ec := by rw [zg_n (by omega), e7]
    have e10 : (zset M 40 0 12 (nI 0)).1 40 0 10 = nI ec := by rw [zg_n (by omega), L _ _ (by omega) (by omega) (by omega) (by omega) (by omega), m5]
    have e10' : (zset (zset M 40 0 12 (nI 0)) 40 0 11 (nI ec)).1 40 0 10 = nI ec := by rw [zg_n (by omega), e10]
    have ng : (-nI 1 : Int32) < nI 0 := by decide +kernel
    rw [if_pos ng, hr, if_neg (show ¬ nI (bv true) = nI 0 from znI_ne (by decide) (by decide) (by decide)), e7, e10, e7', e10', ze_add]
    refine ⟨nI ec, _, _, by rw [zg_n (by omega), zg_e ⟨rfl, rfl, rfl⟩], by rw [zg_n (by omega), zg_e ⟨rfl, rfl, rfl⟩], ?_⟩
    have v4 : ∀ k i j, ¬ (k = 10 ∧ i = 0 ∧ j = 1) → ¬ (k = 1 ∧ i = 0 ∧ j = 3) → ¬ (k = 0 ∧ i = 0 ∧ j = 7) → (zset (zset (zset C 10 0 1 (nI 0)) 1 0 3 (nI ec)) 0 0 7 (nI (ec + 1))).1 k i j = C.1 k i j := fun k i j q1 q2 q3 => by rw [zg_n (by omega), zg_n (by omega), zg_n (by omega)]
    have v5 : ∀ k j, ¬ (k = 40 ∧ (j = 12 ∨ j = 11 ∨ j = 10)) → (zset (zset (zset M 40 0 12 (nI 0)) 40 0 11 (nI ec)) 40 0 10 (nI (ec + 1))).1 k 0 j = M.1 k 0 j := fun k j q => by rw [zg_n (by omega), zg_n (by omega), zg_n (by omega)]
    obtain ⟨w1, w2, w3⟩ := old _ _ v4 v5
    refine keep _ _ (ec + 1) (nI ec) (by omega) (by omega) rfl rfl v4 v5 (by rw [zg_n (by omega), zg_n (by omega), zg_e ⟨rfl, rfl, rfl⟩]) (by rw [zg_n (by omega), zg_n (by omega), zg_e ⟨rfl, rfl, rfl⟩]) (by rw [zg_n (by omega), zg_e ⟨rfl, rfl, rfl⟩]) (by rw [zg_n (by omega), zg_e ⟨rfl, rfl, rfl⟩]) (zg_e ⟨rfl, rfl, rfl⟩) (zg_e ⟨rfl, rfl, rfl⟩) (Or.inr ⟨ec, by omega, rfl⟩) ⟨fun e he => ?_, w2, w3⟩
    rcases Nat.lt_or_ge e ec with g | g
    · exact w1 e g
    · have ee : e = ec := by omega
      subst ee
      obtain ⟨y1, y2, y3, y4, y5, y6⟩ := k2
      refine ⟨r.2.2, o6, o7, o8, by rw [← o1]; exact o3, ?_, ?_, fun j hj => ?_, ?_, fun j q hq => ?_⟩
      · rw [v4 _ _ _ (by omega) (by omega) (by omega), y4, o1]
      · rw [v4 _ _ _ (by omega) (by omega) (by omega), y5, o2]
      · rw [v4 _ _ _ (by omega) (by omega) (by omega), y6 j (by rw [o1]; exact hj), o1]
      · rw [v5 _ _ (by omega), o4]
      · obtain ⟨z1, z2, z3⟩ := o5 j q hq
        refine ⟨by rw [v5 _ _ (by omega), z1], by rw [v5 _ _ (by omega), z2], fun hne => ?_⟩
        obtain ⟨a, a1, a2, a3, a4, a5⟩ := z3 hne
        exact ⟨a, a1, a2, by rw [v5 _ _ (by omega), a3], by rw [v5 _ _ (by omega), a4], fun i t hi => by rw [v5 _ _ (by omega), a5 i t hi]⟩
  · rw [if_neg hr, bfalse hr, if_pos (show nI (bv false) = nI 0 from rfl), if_neg (show ¬ nI r.2.1 < nI 0 from nI_nlt (by omega) (by omega))]
    have e13 : (zset M 40 0 12 (nI 0)).1 40 0 13 = nI r.2.1 := by rw [zg_n (by omega), k6]
    rw [e13]
    have v4 : ∀ k i j, ¬ (k = 10 ∧ i = 0 ∧ j = 1) → ¬ (k = 1 ∧ i = 0 ∧ j = 3) → ¬ (k = 0 ∧ i = 0 ∧ j = 7) → (zset C 10 0 1 (nI 0)).1 k i j = C.1 k i j := fun k i j q1 q2 q3 => by rw [zg_n (by omega)]
    have v5 : ∀ k j, ¬ (k = 40 ∧ (j = 12 ∨ j = 11 ∨ j = 10)) → (zset M 40 0 12 (nI 0)).1 k 0 j = M.1 k 0 j := fun k j q => by rw [zg_n (by omega)]
    obtain ⟨w1, w2, w3⟩ := old _ _ v4 v5
    refine ⟨_, _, _, rfl, rfl, ?_⟩
    exact keep _ _ ec ev (Nat.le_refl _) b4 rfl rfl v4 v5 (zg_e ⟨rfl, rfl, rfl⟩) (zg_e ⟨rfl, rfl, rfl⟩) (by rw [zg_n (by omega), K _ _ _ (by omega) (by omega) (by omega), c3]) (by rw [zg_n (by omega), L _ _ (by omega) (by omega) (by omega) (by omega) (by omega), m3]) (by rw [zg_n (by omega), K _ _ _ (by omega) (by omega) (by omega), c5]) (by rw [zg_n (by omega), L _ _ (by omega) (by omega) (by omega) (by omega) (by omega), m5]) b6 ⟨w1, w2, w3⟩
