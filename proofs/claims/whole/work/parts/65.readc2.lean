/-! PURE PART: the class reads an E. -/
def RES (c : zM) (e : Nat) (W : List Int32) (hv : Int32) (r : PR) (o : Option (Int32 × zM)) : Prop := ∃ C' W', o = some (nI (bv r.1), C') ∧ CT c C' e r.2.1 W' hv ∧ W'.length ≤ r.2.1 ∧ (r.1 = true → W' = W ++ r.2.2.map tkW)
section
variable {c : zM} {s : Nat → Nat} {tl e : Nat}
theorem test_e {C : zM} {a : Nat} {W : List Int32} {hv : Int32} (hB : BC c s tl) (h : CT c C e a W hv) (ha : a ≤ tl) (hW : W.length ≤ a) : RES c e W hv (pTest s a) (qT_readTest C e) := by
  have htl := hB.1
  unfold pTest
  by_cases h1 : plc (s a) < 6
  · rw [if_pos h1]
    have hs := plc_lt h1
    have i1 := in_tl hB.2.2.2 (a := a) (by omega)
    have hA := CT_at h (a + 1)
    have ix : qS_indexOf C 3 (((nI (s a)).toUInt32 % 65536).toInt32) = some (nI (plc (s a)), C) := by rw [idx_e C hs, if_pos h1]
    -- the head: the letter is taken
    have head : ∀ R, zbnd (qT_sees (zset C 10 0 2 (nI (a + 1))) (nI 60)) (fun x6 M5 => zjn (fun (M9 : zM) (x8 : Int32) => zjn (fun (M11 : zM)  => znm (zset M11 10 0 2 ((M11.1 10 0 2) + nI 1)) fun M13 => zbnd (qT_readNumber M13 ) fun x15 M14 => if x15 = nI 0 then (some (nI 0, M14)) else (zbnd (qE_append M14 e x8 (nI (plc (s a))) (M14.1 10 0 3)) fun _ M17 => some (nI 1, M17))) (fun j12 => if x8 = nI 2 then (zbnd (qT_sees M9 (nI 62)) fun x20 M19 => if x20 = nI 0 then (some (nI 0, M19)) else (j12 M19)) else (j12 M9))) (fun j10 => if x6 = nI 0 then (zbnd (qT_sees M5 (nI 61)) fun x23 M22 => if x23 = nI 0 then (j10 M22 (nI 2)) else (j10 M22 (nI 1))) else (j10 M5 (nI 0)))) = R → qT_readTest C e = R := by
      intro R hR
      unfold qT_readTest
      simp only [zl0, zl1, zl2, zl3, zl4, zl5, zl6, zl7, zl8, zl9, zl10, zl11, zl12, zl13, zl14, zl16, zl18, zl19, zl20, zl22, zl24, zl30, zl32, zl33, zl36, zl38, zl40, zl41, zl48, zl50, zl51, zl57, zl59, zl60, zl61, zl62, zl70, zl71, zl99, zl100, zl103, zl104, zl105, zl106, zl107, zl108, zl109, zl110, zl111, zl112, zl113, zl114, zl115, zl116, zl124, zl127, zl255, zl999, zl1000, zl1001, zl1002, zl1003]
      rw [zjn_e, CT_len hB h, h.2.2.1, if_neg (nI_ge (by omega) (by omega)), zchk_e (ze_in (by omega) (by omega)), ze_cl (show a < 2 ^ 31 by omega), CT_sg hB h i1, zbnd_c ix]
      dsimp only
      rw [if_pos (nI_le (by omega) (by omega)), h.2.2.1, ze_add, znm_e]
      exact hR
    have c60 := sees_e hB hA (show a + 1 ≤ tl by omega) (show 60 < 128 by decide)
    have c61 := sees_e hB hA (show a + 1 ≤ tl by omega) (show 61 < 128 by decide)
    have c62 := sees_e hB hA (show a + 1 ≤ tl by omega) (show 62 < 128 by decide)
    -- the tail, once the sign is known
    have tail : ∀ op, op < 3 → s (a + 1) = 60 + op → RES c e W hv (if (pNum s (a + 2)).1 = true then (true, (pNum s (a + 2)).2.1, [(s (a + 1) - 60, plc (s a), (pNum s (a + 2)).2.2)]) else (false, a + 2, [])) (znm (zset (zset C 10 0 2 (nI (a + 1))) 10 0 2 (((zset C 10 0 2 (nI (a + 1))).1 10 0 2) + nI 1)) fun M13 => zbnd (qT_readNumber M13 ) fun x15 M14 => if x15 = nI 0 then (some (nI 0, M14)) else (zbnd (qE_append M14 e (nI op) (nI (plc (s a))) (M14.1 10 0 3)) fun _ M17 => some (nI 1, M17))) := by
      intro op hop hso
      have i2 := in_tl hB.2.2.2 (a := a + 1) (by omega)
      have hA2 := CT_at hA (a + 2)
      obtain ⟨C1, n1, n2, n3⟩ := num_e hB hA2 (by omega)
      rw [hA.2.2.1, ze_add, znm_e]
      by_cases h3 : (pNum s (a + 2)).1 = true
      · obtain ⟨k1, k2, k3⟩ := pNum_ok hB.2.2.2 h3
        rw [h3] at n1
        rw [if_pos h3]
        obtain ⟨C2, p1, p2⟩ := app_e n2 (show W.length < 100 by omega) (show op < 8 by omega) h1 k3
        refine ⟨C2, _, ?_, p2, by rw [List.length_append]; show W.length + 1 ≤ (pNum s (a + 2)).2.1; omega, fun _ => ?_⟩
        · rw [zbnd_c n1, if_neg (show ¬ nI (bv true) = nI 0 from znI_ne (by decide) (by decide) (by decide)), n3 h3, zbnd_c p1]
          rfl
        · show W ++ [nI (op * 65536 + plc (s a) * 256 + (pNum s (a + 2)).2.2)] = W ++ [tkW (s (a + 1) - 60, plc (s a), (pNum s (a + 2)).2.2)]
          rw [hso, Nat.add_sub_cancel_left]
          rfl
      · have h3f : (pNum s (a + 2)).1 = false := by
          cases hb : (pNum s (a + 2)).1
          · rfl
          · exact absurd hb h3
        rw [h3f] at n1
        rw [if_neg h3]
        have e2 : (pNum s (a + 2)).2.1 = a + 2 := by
          unfold pNum at h3 ⊢
          by_cases q : dg (s (a + 2)) = true
          · rw [if_pos q] at h3
            exfalso
            apply h3
            by_cases q2 : dg (s (a + 2 + 1)) = true
            · rw [if_pos q2]
            · rw [if_neg q2]
          · rw [if_neg q]
        rw [e2] at n2
        refine ⟨C1, W, ?_, n2, by show W.length ≤ a + 2; omega, fun q => absurd (show false = true from q) Bool.false_ne_true⟩
        rw [zbnd_c n1, if_pos (show nI (bv false) = nI 0 from rfl)]
        rfl
    by_cases h2 : 60 ≤ s (a + 1) ∧ s (a + 1) ≤ 62
    · rw [if_pos h2]
      rcases (show s (a + 1) = 60 ∨ s (a + 1) = 61 ∨ s (a + 1) = 62 by omega) with q | q | q
      · obtain ⟨C', W', x1, x2, x3⟩ := tail 0 (by decide) q
        refine ⟨C', W', head _ ?_, x2, x3⟩
        rw [if_pos q] at c60
        rw [zbnd_c c60, zjn_e, if_neg (show ¬ nI 1 = nI 0 from znI_ne (by decide) (by decide) (by decide))]
        dsimp only
        rw [zjn_e, if_neg (show ¬ nI 0 = nI 2 from znI_ne (by decide) (by decide) (by decide))]
        exact x1
      · obtain ⟨C', W', x1, x2, x3⟩ := tail 1 (by decide) q
        refine ⟨C', W', head _ ?_, x2, x3⟩
        rw [if_neg (by omega)] at c60
        rw [if_pos q] at c61
        rw [zbnd_c c60, zjn_e, if_pos rfl, zbnd_c c61, if_neg (show ¬ nI 1 = nI 0 from znI_ne (by decide) (by decide) (by decide))]
        dsimp only
        rw [zjn_e, if_neg (show ¬ nI 1 = nI 2 from znI_ne (by decide) (by decide) (by decide))]
        exact x1
      · obtain ⟨C', W', x1, x2, x3⟩ := tail 2 (by decide) q
        refine ⟨C', W', head _ ?_, x2, x3⟩
        rw [if_neg (by omega)] at c60
        rw [if_neg (by omega)] at c61
        rw [if_pos q] at c62
        rw [zbnd_c c60, zjn_e, if_pos rfl, zbnd_c c61, if_pos rfl]
        dsimp only
        rw [zjn_e, if_pos rfl, zbnd_c c62, if_neg (show ¬ nI 1 = nI 0 from znI_ne (by decide) (by decide) (by decide))]
        exact x1
    · rw [if_neg h2]
      refine ⟨zset C 10 0 2 (nI (a + 1)), W, head _ ?_, hA, by show W.length ≤ a + 1; omega, fun q => absurd (show false = true from q) Bool.false_ne_true⟩
      rw [if_neg (by omega)] at c60 c61 c62
      rw [zbnd_c c60, zjn_e, if_pos rfl, zbnd_c c61, if_pos rfl]
      dsimp only
      rw [zjn_e, if_pos rfl, zbnd_c c62, if_pos rfl]
      rfl
  · rw [if_neg h1]
    refine ⟨C, W, ?_, h, hW, fun q => absurd (show false = true from q) Bool.false_ne_true⟩
    unfold qT_readTest
    simp only [zl0, zl1, zl2, zl3, zl4, zl5, zl6, zl7, zl8, zl9, zl10, zl11, zl12, zl13, zl14, zl16, zl18, zl19, zl20, zl22, zl24, zl30, zl32, zl33, zl36, zl38, zl40, zl41, zl48, zl50, zl51, zl57, zl59, zl60, zl61, zl62, zl70, zl71, zl99, zl100, zl103, zl104, zl105, zl106, zl107, zl108, zl109, zl110, zl111, zl112, zl113, zl114, zl115, zl116, zl124, zl127, zl255, zl999, zl1000, zl1001, zl1002, zl1003]
    have m1 : ¬ nI 0 ≤ (-nI 1 : Int32) := of_eq_false (ze_nle (by omega) (by omega) (by omega))
    rw [zjn_e, CT_len hB h, h.2.2.1]
    by_cases q : tl ≤ a
    · rw [if_pos (nI_le (by omega) (by omega))]
      dsimp only
      rw [if_neg m1]
      rfl
    · have hs := (hB.2.2.1 a (by omega)).1
      have ix := idx_e C hs
      rw [if_neg h1] at ix
      rw [if_neg (nI_ge (by omega) (by omega)), zchk_e (ze_in (by omega) (by omega)), ze_cl (show a < 2 ^ 31 by omega), CT_sg hB h (by omega), zbnd_c ix]
      dsimp only
      rw [if_neg m1]
      rfl
/-- a reader of factors is as told -/
def FOK (c : zM) (s : Nat → Nat) (tl e : Nat) (q : Nat) (rF : zM → Nat → Int32 → Option (Int32 × zM)) : Prop := ∀ C a W hv, CT c C e a W hv → a ≤ tl → W.length ≤ a → RES c e W hv (pF s q a) (rF C e (nI (4 - q)))
theorem tkW_AND : tkW tAND = nI (4 * 65536 + 0 * 256 + 0) := rfl
theorem tkW_OR : tkW tOR = nI (5 * 65536 + 0 * 256 + 0) := rfl
theorem tkW_NOT : tkW tNOT = nI (3 * 65536 + 0 * 256 + 0) := rfl
theorem opt_app {C : zM} {a x : Nat} {W : List Int32} {hv : Int32} {t : Tk} {b : Bool} {v : Nat} {J : zM → Option (Int32 × zM)} (h : CT c C e a W hv) (hW : b = true → W.length < 100) (hx : x < 8) (ht : tkW t = nI (x * 65536 + 0 * 256 + 0)) (hb : b = true ↔ 0 < v) (hv9 : v < 100) : ∃ C', (∀ R, J C' = R → (if nI v ≤ nI 0 then J C else zbnd (qE_append C e (nI x) (nI 0) (nI 0)) fun _ M9 => J M9) = R) ∧ CT c C' e a (W ++ (if b = true then [t] else []).map tkW) hv := by
  cases b
  · have : v = 0 := by
      rcases Nat.eq_zero_or_pos v with q | q
      · exact q
      · exact absurd (hb.mpr q) Bool.false_ne_true
    refine ⟨C, fun R hR => ?_, ?_⟩
    · rw [if_pos (nI_le (by omega) (by omega))]; exact hR
    · rw [if_neg (by decide)]
      show CT c C e a (W ++ []) hv
      rw [List.append_nil]
      exact h
  · have := hb.mp rfl
    obtain ⟨C', p1, p2⟩ := app_e h (hW rfl) hx (show 0 < 6 by decide) (show 0 < 100 by decide)
    refine ⟨C', fun R hR => ?_, ?_⟩
    · rw [if_neg (nI_ge (by omega) (by omega)), zbnd_c p1]; exact hR
    · rw [if_pos rfl]
      show CT c C' e a (W ++ [tkW t]) hv
      rw [ht]
      exact p2
/-- the class's two loops over what is between | and & -/
theorem loop_c {q : Nat} {rE rF : zM → Nat → Int32 → Option (Int32 × zM)} (hB : BC c s tl) (hq : q ≤ 4) (hF : FOK c s tl e q rF) : ∀ (k v3 v4 F1 F2 : Nat) (pa po : Bool) (acc : List Tk) (a : Nat) (W0 : List Int32) (hv : Int32) (C : zM), k ≤ 1000 → k ≤ F1 → k ≤ F2 → tl + 1 ≤ a + k → a ≤ tl → (pa = true ↔ 0 < v4) → (po = true ↔ 0 < v3) → 2 * v3 ≤ a → 2 * v4 ≤ a → CT c C e a (W0 ++ acc.map tkW) hv → (W0 ++ acc.map tkW).length + bv pa + bv po ≤ a →
    RES c e W0 hv (pL (pF s q) s k pa po acc a) (qT_readE_L11 rE rF e (nI (4 - q)) (nI v3) (fun (M11 : zM)  => zjn (fun (M12 : zM)  => zbnd (qT_passes M12 (nI 124)) fun x15 M14 => if x15 = nI 0 then (some (nI 1, M14)) else (qT_readE_L2 rE rF e (nI (4 - q)) F2 M14 (nI v3 + nI 1))) (fun j13 => if nI v3 ≤ nI 0 then (j13 M11) else (zbnd (qE_append M11 e (nI 5) (nI 0) (nI 0)) fun _ M17 => j13 M17))) (fun (M19 : zM)  => zjn (fun (M20 : zM)  => zbnd (qT_passes M20 (nI 124)) fun x23 M22 => if x23 = nI 0 then (some (nI 1, M22)) else (qT_readE_L2 rE rF e (nI (4 - q)) F2 M22 (nI v3 + nI 1))) (fun j21 => if nI v3 ≤ nI 0 then (j21 M19) else (zbnd (qE_append M19 e (nI 5) (nI 0) (nI 0)) fun _ M25 => j21 M25))) F1 C (nI v4))
  | 0, v3, v4, F1, F2, pa, po, acc, a, W0, hv, C, h0, h1, h2, h3, h4, h5, h6, h7, h8, h9, h10 => by omega
  | k + 1, v3, v4, 0, F2, pa, po, acc, a, W0, hv, C, h0, h1, h2, h3, h4, h5, h6, h7, h8, h9, h10 => by omega
  | k + 1, v3, v4, F1 + 1, 0, pa, po, acc, a, W0, hv, C, h0, h1, h2, h3, h4, h5, h6, h7, h8, h9, h10 => by omega
  | k + 1, v3, v4, F1 + 1, F2 + 1, pa, po, acc, a, W0, hv, C, h0, h1, h2, h3, h4, h5, h6, h7, h8, h9, h10 => by
    have htl := hB.1
    obtain ⟨f1, f2, f3⟩ := pF_ok hB.2.2.2 htl q a h4
    obtain ⟨C1, W1, r1, r2, r3, r4⟩ := hF C a (W0 ++ acc.map tkW) hv h9 h4 (by omega)
    unfold pL
    generalize pF s q a = r at f1 f2 f3 r1 r2 r3 r4
    have bpa : bv pa ≤ 1 := by cases pa <;> decide
    have bpo : bv po ≤ 1 := by cases po <;> decide
    by_cases hr : r.1 = true
    · rw [if_pos hr]
      obtain ⟨g1, g2, g3⟩ := f3 hr
      have hW1 := r4 hr
      rw [hr] at r1
      have l1 : W1.length = (W0 ++ acc.map tkW).length + r.2.2.length := by rw [hW1, List.length_append, List.length_map]
      obtain ⟨C2, p1, p2⟩ := opt_app (J := fun (M4 : zM)  => zbnd (qT_passes M4 (nI 38)) fun x7 M6 => if x7 = nI 0 then (zjn (fun (M20 : zM)  => zbnd (qT_passes M20 (nI 124)) fun x23 M22 => if x23 = nI 0 then (some (nI 1, M22)) else (qT_readE_L2 rE rF e (nI (4 - q)) (F2 + 1) M22 (nI v3 + nI 1))) (fun j21 => if nI v3 ≤ nI 0 then (j21 M6) else (zbnd (qE_append M6 e (nI 5) (nI 0) (nI 0)) fun _ M25 => j21 M25))) else (qT_readE_L11 rE rF e (nI (4 - q)) (nI v3) (fun (M11 : zM)  => zjn (fun (M12 : zM)  => zbnd (qT_passes M12 (nI 124)) fun x15 M14 => if x15 = nI 0 then (some (nI 1, M14)) else (qT_readE_L2 rE rF e (nI (4 - q)) (F2 + 1) M14 (nI v3 + nI 1))) (fun j13 => if nI v3 ≤ nI 0 then (j13 M11) else (zbnd (qE_append M11 e (nI 5) (nI 0) (nI 0)) fun _ M17 => j13 M17))) (fun (M19 : zM)  => zjn (fun (M20 : zM)  => zbnd (qT_passes M20 (nI 124)) fun x23 M22 => if x23 = nI 0 then (some (nI 1, M22)) else (qT_readE_L2 rE rF e (nI (4 - q)) (F2 + 1) M22 (nI v3 + nI 1))) (fun j21 => if nI v3 ≤ nI 0 then (j21 M19) else (zbnd (qE_append M19 e (nI 5) (nI 0) (nI 0)) fun _ M25 => j21 M25))) F1 M6 (nI v4 + nI 1))) r2 (fun hb => by rw [hb, bvt] at h10; omega) (show 4 < 8 by decide) tkW_AND h5 (show v4 < 100 by omega)
      have w2 : W1 ++ (if pa = true then [tAND] else []).map tkW = W0 ++ (acc ++ r.2.2 ++ (if pa = true then [tAND] else [])).map tkW := by
        rw [hW1, List.map_append, List.map_append, List.append_assoc, List.append_assoc, List.append_assoc]
      rw [w2] at p2
      have l2 : (W0 ++ (acc ++ r.2.2 ++ (if pa = true then [tAND] else [])).map tkW).length = W1.length + bv pa := by rw [← w2, List.length_append, List.length_map, opt_len]
      have head : ∀ R, (zbnd (qT_passes C2 (nI 38)) fun x7 M6 => if x7 = nI 0 then (zjn (fun (M20 : zM)  => zbnd (qT_passes M20 (nI 124)) fun x23 M22 => if x23 = nI 0 then (some (nI 1, M22)) else (qT_readE_L2 rE rF e (nI (4 - q)) (F2 + 1) M22 (nI v3 + nI 1))) (fun j21 => if nI v3 ≤ nI 0 then (j21 M6) else (zbnd (qE_append M6 e (nI 5) (nI 0) (nI 0)) fun _ M25 => j21 M25))) else (qT_readE_L11 rE rF e (nI (4 - q)) (nI v3) (fun (M11 : zM)  => zjn (fun (M12 : zM)  => zbnd (qT_passes M12 (nI 124)) fun x15 M14 => if x15 = nI 0 then (some (nI 1, M14)) else (qT_readE_L2 rE rF e (nI (4 - q)) (F2 + 1) M14 (nI v3 + nI 1))) (fun j13 => if nI v3 ≤ nI 0 then (j13 M11) else (zbnd (qE_append M11 e (nI 5) (nI 0) (nI 0)) fun _ M17 => j13 M17))) (fun (M19 : zM)  => zjn (fun (M20 : zM)  => zbnd (qT_passes M20 (nI 124)) fun x23 M22 => if x23 = nI 0 then (some (nI 1, M22)) else (qT_readE_L2 rE rF e (nI (4 - q)) (F2 + 1) M22 (nI v3 + nI 1))) (fun j21 => if nI v3 ≤ nI 0 then (j21 M19) else (zbnd (qE_append M19 e (nI 5) (nI 0) (nI 0)) fun _ M25 => j21 M25))) F1 M6 (nI v4 + nI 1))) = R → (qT_readE_L11 rE rF e (nI (4 - q)) (nI v3) (fun (M11 : zM)  => zjn (fun (M12 : zM)  => zbnd (qT_passes M12 (nI 124)) fun x15 M14 => if x15 = nI 0 then (some (nI 1, M14)) else (qT_readE_L2 rE rF e (nI (4 - q)) (F2 + 1) M14 (nI v3 + nI 1))) (fun j13 => if nI v3 ≤ nI 0 then (j13 M11) else (zbnd (qE_append M11 e (nI 5) (nI 0) (nI 0)) fun _ M17 => j13 M17))) (fun (M19 : zM)  => zjn (fun (M20 : zM)  => zbnd (qT_passes M20 (nI 124)) fun x23 M22 => if x23 = nI 0 then (some (nI 1, M22)) else (qT_readE_L2 rE rF e (nI (4 - q)) (F2 + 1) M22 (nI v3 + nI 1))) (fun j21 => if nI v3 ≤ nI 0 then (j21 M19) else (zbnd (qE_append M19 e (nI 5) (nI 0) (nI 0)) fun _ M25 => j21 M25))) (F1 + 1) C (nI v4)) = R := by
        intro R hR
        rw [qT_readE_L11]
        simp only [zl0, zl1, zl4, zl38, zl100]
        rw [if_neg (nI_ge (by omega) (by omega)), zbnd_c r1, if_neg (show ¬ nI (bv true) = nI 0 from znI_ne (by decide) (by decide) (by decide)), zjn_e]
        exact p1 R hR
      by_cases h38 : s r.2.1 = 38
      · rw [if_pos h38]
        obtain ⟨C3, t1, t2, t3, -⟩ := pass_y hB p2 f2 (show 38 < 128 by decide) h38
        obtain ⟨C', W', z1, z2, z3, z4⟩ := loop_c (rE := rE) (rF := rF) hB hq hF k v3 (v4 + 1) F1 (F2 + 1) true po (acc ++ r.2.2 ++ (if pa = true then [tAND] else [])) (r.2.1 + 1) W0 hv C3 (by omega) (by omega) (by omega) (by omega) (by omega) ⟨fun _ => by omega, fun _ => rfl⟩ h6 (by omega) (by omega) t2 (by rw [l2, bvt]; omega)
        refine ⟨C', W', head _ ?_, z2, z3, z4⟩
        rw [zb_y t1, ze_add v4 1]
        exact z1
      rw [if_neg h38]
      have t1 := pass_n hB p2 f2 (show 38 < 128 by decide) h38
      obtain ⟨C3, u1, u2⟩ := opt_app (J := fun (M20 : zM)  => zbnd (qT_passes M20 (nI 124)) fun x23 M22 => if x23 = nI 0 then (some (nI 1, M22)) else (qT_readE_L2 rE rF e (nI (4 - q)) (F2 + 1) M22 (nI v3 + nI 1))) p2 (fun hb => by rw [l2]; rw [hb, bvt] at h10; omega) (show 5 < 8 by decide) tkW_OR h6 (show v3 < 100 by omega)
      have w3 : W0 ++ (acc ++ r.2.2 ++ (if pa = true then [tAND] else [])).map tkW ++ (if po = true then [tOR] else []).map tkW = W0 ++ (acc ++ r.2.2 ++ (if pa = true then [tAND] else []) ++ (if po = true then [tOR] else [])).map tkW := by
        rw [List.map_append (l₁ := acc ++ r.2.2 ++ (if pa = true then [tAND] else [])), ← List.append_assoc]
      rw [w3] at u2
      have l3 : (W0 ++ (acc ++ r.2.2 ++ (if pa = true then [tAND] else []) ++ (if po = true then [tOR] else [])).map tkW).length = W1.length + bv pa + bv po := by rw [← w3, List.length_append, l2, List.length_map, opt_len]
      by_cases h124 : s r.2.1 = 124
      · rw [if_pos h124]
        obtain ⟨C4, x1, x2, x3, -⟩ := pass_y hB u2 f2 (show 124 < 128 by decide) h124
        obtain ⟨C', W', z1, z2, z3, z4⟩ := loop_c (rE := rE) (rF := rF) hB hq hF k (v3 + 1) 0 1000 F2 false true (acc ++ r.2.2 ++ (if pa = true then [tAND] else []) ++ (if po = true then [tOR] else [])) (r.2.1 + 1) W0 hv C4 (by omega) (by omega) (by omega) (by omega) (by omega) ⟨fun h => absurd h Bool.false_ne_true, fun h => absurd h (Nat.lt_irrefl 0)⟩ ⟨fun _ => by omega, fun _ => rfl⟩ (by omega) (by omega) x2 (by rw [l3, bvt, bvf]; omega)
        refine ⟨C', W', head _ ?_, z2, z3, z4⟩
        rw [zb_n t1, zjn_e]
        refine u1 _ ?_
        rw [zb_y x1, qT_readE_L2]
        simp only [zl0, zl1, zl5, zl100, zl124]
        rw [ze_add v3 1, if_neg (nI_ge (by omega) (by omega))]
        exact z1
      rw [if_neg h124]
      have x1 := pass_n hB u2 f2 (show 124 < 128 by decide) h124
      refine ⟨C3, _, head _ ?_, u2, by rw [l3]; show W1.length + bv pa + bv po ≤ r.2.1; omega, fun _ => rfl⟩
      rw [zb_n t1, zjn_e]
      refine u1 _ ?_
      rw [zb_n x1]
      rfl
    · have hrf : r.1 = false := by
        cases hb : r.1
        · rfl
        · exact absurd hb hr
      rw [if_neg hr]
      rw [hrf] at r1
      refine ⟨C1, W1, ?_, r2, r3, fun q => absurd (show false = true from q) Bool.false_ne_true⟩
      rw [qT_readE_L11]
      simp only [zl0, zl1, zl4, zl38, zl100]
      rw [if_neg (nI_ge (by omega) (by omega)), zbnd_c r1, if_pos (show nI (bv false) = nI 0 from rfl)]
      rfl
theorem readE_e {q : Nat} {rE rF : zM → Nat → Int32 → Option (Int32 × zM)} (hB : BC c s tl) (hq : q ≤ 4) (hF : FOK c s tl e q rF) {C : zM} {a : Nat} {W : List Int32} {hv : Int32} (h : CT c C e a W hv) (ha : a ≤ tl) (hW : W.length ≤ a) : RES c e W hv (pE s q a) (qT_readE_b rE rF C e (nI (4 - q))) := by
  have htl := hB.1
  have h' : CT c C e a (W ++ ([] : List Tk).map tkW) hv := by
    show CT c C e a (W ++ []) hv
    rw [List.append_nil]
    exact h
  obtain ⟨C', W', z1, z2, z3, z4⟩ := loop_c (rE := rE) (rF := rF) hB hq hF 101 0 0 1000 999 false false [] a W hv C (by omega) (by omega) (by omega) (by omega) ha ⟨fun h => absurd h Bool.false_ne_true, fun h => absurd h (Nat.lt_irrefl 0)⟩ ⟨fun h => absurd h Bool.false_ne_true, fun h => absurd h (Nat.lt_irrefl 0)⟩ (by omega) (by omega) h' (by show (W ++ []).length + 0 + 0 ≤ a; rw [List.append_nil]; omega)
  refine ⟨C', W', ?_, z2, z3, z4⟩
  unfold qT_readE_b
  rw [show (1000 : Nat) = 999 + 1 from rfl, qT_readE_L2]
  simp only [zl0, zl1, zl5, zl100, zl124]
  rw [if_neg (nI_ge (by omega) (by omega))]
  exact z1
theorem not_res {C1 : zM} {a : Nat} {W W1 : List Int32} {hv : Int32} {r : PR} {a' : Nat} (hB : BC c s tl) (hr : r.1 = true) (h : CT c C1 e r.2.1 W1 hv) (hW1 : W1 = W ++ r.2.2.map tkW) (hl : W1.length + 1 ≤ r.2.1) (ht : r.2.1 ≤ tl) : RES c e W hv (true, r.2.1, r.2.2 ++ [tNOT]) (zbnd (qE_append C1 e (nI 3) (nI 0) (nI 0)) fun _ M23 => some (nI 1, M23)) := by
  have htl := hB.1
  obtain ⟨C', p1, p2⟩ := app_e h (show W1.length < 100 by omega) (show 3 < 8 by decide) (show 0 < 6 by decide) (show 0 < 100 by decide)
  refine ⟨C', _, ?_, p2, by rw [List.length_append]; exact hl, fun _ => ?_⟩
  · rw [zbnd_c p1]; rfl
  · rw [hW1, ← tkW_NOT]
    show W ++ r.2.2.map tkW ++ [tkW tNOT] = W ++ (r.2.2 ++ [tNOT]).map tkW
    rw [List.map_append, List.append_assoc]
    rfl
theorem rec_F (hB : BC c s tl) : ∀ (q lvl : Nat), q ≤ 4 → 2 * q + 1 ≤ lvl → FOK c s tl e q (qT_rec lvl).2
  | 0, lvl + 1, hq, hlv => by
    intro C a W hv h ha hW
    have htl := hB.1
    show RES c e W hv (pTest s a) (qT_readF_b (qT_rec lvl).1 (qT_rec lvl).2 C e (nI 4))
    obtain ⟨C', W', z1, z2, z3, z4⟩ := test_e hB h ha hW
    refine ⟨C', W', ?_, z2, z3, z4⟩
    unfold qT_readF_b
    simp only [zl0, zl1, zl2, zl3, zl4, zl5, zl6, zl7, zl8, zl9, zl10, zl11, zl12, zl13, zl14, zl16, zl18, zl19, zl20, zl22, zl24, zl30, zl32, zl33, zl36, zl38, zl40, zl41, zl48, zl50, zl51, zl57, zl59, zl60, zl61, zl62, zl70, zl71, zl99, zl100, zl103, zl104, zl105, zl106, zl107, zl108, zl109, zl110, zl111, zl112, zl113, zl114, zl115, zl116, zl124, zl127, zl255, zl999, zl1000, zl1001, zl1002, zl1003]
    rw [zjn_e, if_pos (nI_le (by omega) (by omega))]
    dsimp only
    rw [zjn_e, if_pos (nI_le (by omega) (by omega))]
    dsimp only
    rw [zbnd_c z1]
  | q + 1, lvl + 1, hq, hlv => by
    intro C a W hv h ha hW
    have htl := hB.1
    have IH := rec_F hB q lvl (by omega) (by omega)
    have n10 : ¬ nI (bv true) = nI 0 := znI_ne (by decide) (by decide) (by decide)
    show RES c e W hv (pF s (q + 1) a) (qT_readF_b (qT_rec lvl).1 (qT_rec lvl).2 C e (nI (4 - (q + 1))))
    have ed : nI (4 - (q + 1)) + nI 1 = nI (4 - q) := by rw [ze_add, show 4 - (q + 1) + 1 = 4 - q by omega]
    have dq : ¬ nI 4 ≤ nI (4 - (q + 1)) := nI_ge (by omega) (by omega)
    unfold qT_readF_b pF
    simp only [zl0, zl1, zl2, zl3, zl4, zl5, zl6, zl7, zl8, zl9, zl10, zl11, zl12, zl13, zl14, zl16, zl18, zl19, zl20, zl22, zl24, zl30, zl32, zl33, zl36, zl38, zl40, zl41, zl48, zl50, zl51, zl57, zl59, zl60, zl61, zl62, zl70, zl71, zl99, zl100, zl103, zl104, zl105, zl106, zl107, zl108, zl109, zl110, zl111, zl112, zl113, zl114, zl115, zl116, zl124, zl127, zl255, zl999, zl1000, zl1001, zl1002, zl1003]
    rw [zjn_e, if_neg dq]
    by_cases h33 : s a = 33
    · rw [if_pos h33]
      obtain ⟨C0, t1, t2, t3, -⟩ := pass_y hB h ha (show 33 < 128 by decide) h33
      obtain ⟨f1, f2, f3⟩ := pF_ok hB.2.2.2 htl q (a + 1) (by omega)
      obtain ⟨C1, W1, r1, r2, r3, r4⟩ := IH C0 (a + 1) W hv t2 (by omega) (by omega)
      rw [zb_y t1, ed]
      generalize pF s q (a + 1) = r at f1 f2 f3 r1 r2 r3 r4
      by_cases hr : r.1 = true
      · rw [if_pos hr]
        obtain ⟨g1, g2, g3⟩ := f3 hr
        have l1 : W1.length = W.length + r.2.2.length := by rw [r4 hr, List.length_append, List.length_map]
        obtain ⟨C', W', z1, z2, z3, z4⟩ := not_res (a := a) (a' := a) hB hr r2 (r4 hr) (by omega) f2
        refine ⟨C', W', ?_, z2, z3, z4⟩
        rw [hr] at r1
        rw [zbnd_c r1, if_neg n10]
        exact z1
      · have hrf : r.1 = false := by
          cases hb : r.1
          · rfl
          · exact absurd hb hr
        rw [if_neg hr]
        rw [hrf] at r1
        refine ⟨C1, W1, ?_, r2, r3, fun q => absurd (show false = true from q) Bool.false_ne_true⟩
        rw [zbnd_c r1, if_pos (show nI (bv false) = nI 0 from rfl)]
        rfl
    rw [if_neg h33, zb_n (pass_n hB h ha (show 33 < 128 by decide) h33), zjn_e, if_neg dq]
    by_cases h40 : s a = 40
    · rw [if_pos h40]
      obtain ⟨C0, t1, t2, t3, -⟩ := pass_y hB h ha (show 40 < 128 by decide) h40
      obtain ⟨f1, f2, f3⟩ := pE_ok (q := q) (a := a + 1) hB.2.2.2 htl (by omega)
      obtain ⟨l2, hl2⟩ : ∃ l2, lvl = l2 + 1 := ⟨lvl - 1, by omega⟩
      have IH2 : RES c e W hv (pE s q (a + 1)) ((qT_rec lvl).1 C0 e (nI (4 - q))) := by
        rw [hl2]
        exact readE_e hB (by omega) (rec_F hB q l2 (by omega) (by omega)) t2 (by omega) (by omega)
      obtain ⟨C1, W1, r1, r2, r3, r4⟩ := IH2
      rw [zb_y t1, ed]
      rw [show pL (pF s q) s 101 false false [] (a + 1) = pE s q (a + 1) from rfl]
      generalize pE s q (a + 1) = r at f1 f2 f3 r1 r2 r3 r4
      by_cases hr : r.1 = true
      · rw [if_pos hr]
        rw [hr] at r1
        rw [zbnd_c r1, if_neg n10]
        by_cases h41 : s r.2.1 = 41
        · rw [if_pos h41]
          obtain ⟨C2, u1, u2, u3, -⟩ := pass_y hB r2 f2 (show 41 < 128 by decide) h41
          refine ⟨C2, W1, ?_, u2, by show W1.length ≤ r.2.1 + 1; omega, fun _ => r4 hr⟩
          rw [zb_y u1]
          rfl
        · rw [if_neg h41]
          refine ⟨C1, W1, ?_, r2, r3, fun q => absurd (show false = true from q) Bool.false_ne_true⟩
          rw [zb_n (pass_n hB r2 f2 (show 41 < 128 by decide) h41)]
          rfl
      · have hrf : r.1 = false := by
          cases hb : r.1
          · rfl
          · exact absurd hb hr
        rw [if_neg hr]
        rw [hrf] at r1
        refine ⟨C1, W1, ?_, r2, r3, fun q => absurd (show false = true from q) Bool.false_ne_true⟩
        rw [zbnd_c r1, if_pos (show nI (bv false) = nI 0 from rfl)]
        rfl
    rw [if_neg h40, zb_n (pass_n hB h ha (show 40 < 128 by decide) h40)]
    obtain ⟨C', W', z1, z2, z3, z4⟩ := test_e hB h ha hW
    refine ⟨C', W', ?_, z2, z3, z4⟩
    rw [zbnd_c z1]
theorem E_e (hB : BC c s tl) {C : zM} {a : Nat} {W : List Int32} {hv : Int32} (h : CT c C e a W hv) (ha : a ≤ tl) (hW : W.length ≤ a) : RES c e W hv (pE s 4 a) (qT_readE C e (nI 0)) := by
  unfold qT_readE
  exact readE_e (q := 4) hB (by omega) (rec_F hB 4 39 (by omega) (by omega)) h ha hW
end
