/-- every call answers alike on both sides, and keeps the relation -/
def zStep (Rl : zM → zM → Prop) : Prop :=
  (∀ (x m2 : zM) (a0 : Int32) (a1 : Int32), Rl x m2 → ∃ (r : Int32) (x1 m1 : zM), qG_person x a0 a1 = some (r, x1) ∧ qM_person m2 a0 a1 = some (r, m1) ∧ Rl x1 m1) ∧
  (∀ (x m2 : zM) (a0 : Int32) (a1 : Int32) (a2 : Int32) (a3 : Int32), Rl x m2 → ∃ (r : Int32) (x1 m1 : zM), qG_thing x a0 a1 a2 a3 = some (r, x1) ∧ qM_thing m2 a0 a1 a2 a3 = some (r, m1) ∧ Rl x1 m1) ∧
  (∀ (x m2 : zM) (a0 : Int32) (a1 : Int32), Rl x m2 → ∃ (r : Int32) (x1 m1 : zM), qG_lie x a0 a1 = some (r, x1) ∧ qM_lie m2 a0 a1 = some (r, m1) ∧ Rl x1 m1) ∧
  (∀ (x m2 : zM) (a0 : Int32) (a1 : Int32) (a2 : Int32), Rl x m2 → ∃ (r : Int32) (x1 m1 : zM), qG_tells x a0 a1 a2 = some (r, x1) ∧ qM_tells m2 a0 a1 a2 = some (r, m1) ∧ Rl x1 m1) ∧
  (∀ (x m2 : zM) (a0 : Int32) (a1 : Int32), Rl x m2 → ∃ (r : Int32) (x1 m1 : zM), qG_of x a0 a1 = some (r, x1) ∧ qM_of m2 a0 a1 = some (r, m1) ∧ Rl x1 m1) ∧
  (∀ (x m2 : zM) (a0 : Int32) (a1 : Int32) (a2 : Int32), Rl x m2 → ∃ (r : Int32) (x1 m1 : zM), qG_row x a0 a1 a2 = some (r, x1) ∧ qM_row m2 a0 a1 a2 = some (r, m1) ∧ Rl x1 m1) ∧
  (∀ (x m2 : zM) (a0 : Int32), Rl x m2 → ∃ (r : Int32) (x1 m1 : zM), qG_feed x a0 = some (r, x1) ∧ qM_feed m2 a0 = some (r, m1) ∧ Rl x1 m1) ∧
  (∀ (x m2 : zM), Rl x m2 → ∃ (r : Int32) (x1 m1 : zM), qG_evening x  = some (r, x1) ∧ qM_evening m2  = some (r, m1) ∧ Rl x1 m1) ∧
  (∀ (x m2 : zM) (a0 : Int32), Rl x m2 → ∃ (r : Int32) (x1 m1 : zM), qG_told x a0 = some (r, x1) ∧ qM_told m2 a0 = some (r, m1) ∧ Rl x1 m1) ∧
  (∀ (x m2 : zM) (a0 : Int32) (a1 : Int32) (a2 : Int32), Rl x m2 → ∃ (r : Int32) (x1 m1 : zM), qG_doubt x a0 a1 a2 = some (r, x1) ∧ qM_doubt m2 a0 a1 a2 = some (r, m1) ∧ Rl x1 m1) ∧
  (∀ (x m2 : zM) (a0 : Int32), Rl x m2 → ∃ (r : Int32) (x1 m1 : zM), qG_round x a0 = some (r, x1) ∧ qM_round m2 a0 = some (r, m1) ∧ Rl x1 m1) ∧
  (∀ (x m2 : zM) (a0 : Int32) (a1 : Int32), Rl x m2 → ∃ (r : Int32) (x1 m1 : zM), qG_guess x a0 a1 = some (r, x1) ∧ qM_guess m2 a0 a1 = some (r, m1) ∧ Rl x1 m1) ∧
  (∀ (x m2 : zM) (a0 : Int32) (a1 : Int32), Rl x m2 → ∃ (r : Int32) (x1 m1 : zM), qG_hands x a0 a1 = some (r, x1) ∧ qM_hands m2 a0 a1 = some (r, m1) ∧ Rl x1 m1) ∧
  (∀ (x m2 : zM) (a0 : Int32) (a1 : Int32), Rl x m2 → ∃ (r : Int32) (x1 m1 : zM), qG_order x a0 a1 = some (r, x1) ∧ qM_order m2 a0 a1 = some (r, m1) ∧ Rl x1 m1) ∧
  (∀ (x m2 : zM) (a0 : Int32) (a1 : Int32), Rl x m2 → ∃ (r : Int32) (x1 m1 : zM), qG_likely x a0 a1 = some (r, x1) ∧ qM_likely m2 a0 a1 = some (r, m1) ∧ Rl x1 m1) ∧
  (∀ (x m2 : zM) (a0 : Int32) (a1 : Int32), Rl x m2 → ∃ (r : Int32) (x1 m1 : zM), qG_best x a0 a1 = some (r, x1) ∧ qM_best m2 a0 a1 = some (r, m1) ∧ Rl x1 m1) ∧
  (∀ (x m2 : zM) (a0 : Int32) (a1 : Int32) (a2 : Int32), Rl x m2 → ∃ (r : Int32) (x1 m1 : zM), qG_first x a0 a1 a2 = some (r, x1) ∧ qM_first m2 a0 a1 a2 = some (r, m1) ∧ Rl x1 m1) ∧
  (∀ (x m2 : zM) (a0 : Int32) (a1 : Int32), Rl x m2 → ∃ (r : Int32) (x1 m1 : zM), qG_line x a0 a1 = some (r, x1) ∧ qM_line m2 a0 a1 = some (r, m1) ∧ Rl x1 m1) ∧
  (∀ (x m2 : zM) (a0 : Int32), Rl x m2 → ∃ (r : Int32) (x1 m1 : zM), qG_worth x a0 = some (r, x1) ∧ qM_worth m2 a0 = some (r, m1) ∧ Rl x1 m1) ∧
  (∀ (x m2 : zM) (a0 : Int32) (a1 : Int32), Rl x m2 → ∃ (r : Int32) (x1 m1 : zM), qG_see x a0 a1 = some (r, x1) ∧ qM_see m2 a0 a1 = some (r, m1) ∧ Rl x1 m1) ∧
  (∀ (x m2 : zM) (a0 : Int32), Rl x m2 → ∃ (r : Int32) (x1 m1 : zM), qG_lies x a0 = some (r, x1) ∧ qM_lies m2 a0 = some (r, m1) ∧ Rl x1 m1) ∧
  (∀ (x m2 : zM) (a0 : Int32) (a1 : Int32) (a2 : Int32), Rl x m2 → ∃ (r : Int32) (x1 m1 : zM), qG_ends x a0 a1 a2 = some (r, x1) ∧ qM_ends m2 a0 a1 a2 = some (r, m1) ∧ Rl x1 m1) ∧
  (∀ (x m2 : zM) (a0 : Int32) (a1 : Int32), Rl x m2 → ∃ (r : Int64) (x1 m1 : zM), qG_odds x a0 a1 = some (r, x1) ∧ qM_odds m2 a0 a1 = some (r, m1) ∧ Rl x1 m1) ∧
  (∀ (x m2 : zM) (a0 : Int32), Rl x m2 → ∃ (r : Int64) (x1 m1 : zM), qG_mean x a0 = some (r, x1) ∧ qM_mean m2 a0 = some (r, m1) ∧ Rl x1 m1) ∧
  (∀ (x m2 : zM) (a0 : Int32) (a1 : Int32) (a2 : Int32), Rl x m2 → ∃ (r : Int32) (x1 m1 : zM), qG_book x a0 a1 a2 = some (r, x1) ∧ qM_book m2 a0 a1 a2 = some (r, m1) ∧ Rl x1 m1) ∧
  (∀ (x m2 : zM), Rl x m2 → ∃ (r : Int32) (x1 m1 : zM), qG_looked x  = some (r, x1) ∧ qM_looked m2  = some (r, m1) ∧ Rl x1 m1) ∧
  (∀ (x m2 : zM) (a0 : Int32) (a1 : Int32), Rl x m2 → ∃ (r : Int32) (x1 m1 : zM), qG_judge x a0 a1 = some (r, x1) ∧ qM_judge m2 a0 a1 = some (r, m1) ∧ Rl x1 m1) ∧
  (∀ (x m2 : zM), Rl x m2 → ∃ (r : Int32) (x1 m1 : zM), qG_image x  = some (r, x1) ∧ qM_image m2  = some (r, m1) ∧ Rl x1 m1) ∧
  (∀ (x m2 : zM), Rl x m2 → ∃ (r : Int32) (x1 m1 : zM), qG_undo x  = some (r, x1) ∧ qM_undo m2  = some (r, m1) ∧ Rl x1 m1) ∧
  (∀ (x m2 : zM) (a0 : Int32) (a1 : Int32) (a2 : Int32), Rl x m2 → ∃ (r : Int32) (x1 m1 : zM), qG_act x a0 a1 a2 = some (r, x1) ∧ qM_act m2 a0 a1 a2 = some (r, m1) ∧ Rl x1 m1) ∧
  (∀ (x m2 : zM) (a0 : Int32), Rl x m2 → ∃ (r : Int32) (x1 m1 : zM), qG_trace x a0 = some (r, x1) ∧ qM_trace m2 a0 = some (r, m1) ∧ Rl x1 m1) ∧
  (∀ (x m2 : zM) (a0 : Int32) (a1 : Int32), Rl x m2 → ∃ (r : Int32) (x1 m1 : zM), qG_taken x a0 a1 = some (r, x1) ∧ qM_taken m2 a0 a1 = some (r, m1) ∧ Rl x1 m1) ∧
  (∀ (x m2 : zM) (a0 : Int32), Rl x m2 → ∃ (r : Int32) (x1 m1 : zM), qG_count x a0 = some (r, x1) ∧ qM_count m2 a0 = some (r, m1) ∧ Rl x1 m1) ∧
  (∀ (x m2 : zM) (a0 : Int32) (a1 : Int32) (a2 : Int32), Rl x m2 → ∃ (r : Int32) (x1 m1 : zM), qG_tape x a0 a1 a2 = some (r, x1) ∧ qM_tape m2 a0 a1 a2 = some (r, m1) ∧ Rl x1 m1) ∧
  (∀ (x m2 : zM) (a0 : Int32) (a1 : Int32) (a2 : Int64), Rl x m2 → ∃ (r : Int32) (x1 m1 : zM), qG_item x a0 a1 a2 = some (r, x1) ∧ qM_item m2 a0 a1 a2 = some (r, m1) ∧ Rl x1 m1) ∧
  (∀ (x m2 : zM) (a0 : Int32) (a1 : Int32), Rl x m2 → ∃ (r : Int64) (x1 m1 : zM), qG_read x a0 a1 = some (r, x1) ∧ qM_read m2 a0 a1 = some (r, m1) ∧ Rl x1 m1) ∧
  (∀ (x m2 : zM) (a0 : Int32) (a1 : Int32) (a2 : Int32) (a3 : Int32) (a4 : Int32), Rl x m2 → ∃ (r : Int32) (x1 m1 : zM), qG_shift x a0 a1 a2 a3 a4 = some (r, x1) ∧ qM_shift m2 a0 a1 a2 a3 a4 = some (r, m1) ∧ Rl x1 m1)
set_option maxHeartbeats 4000000 in
set_option maxRecDepth 100000 in
theorem law_loop {p : Program} {l : Launch} {e : Env} {s : State} {m : MethodId} {below : List Frame} {meth : Method} {c : Code} {b L : Nat} {xs : Nat → Int32} {E : zE} {Q : State → Prop} (Rl : zM → zM → Prop) (hst : zStep Rl) (C : zLx p s m meth c b L xs E) (hend : ∀ (la : Array Slot) (x m2 : zM), zL p l e s m below meth c b E Q 1436 la [] x m2) : ∀ (n i : Nat) (x m2 : zM) (la : Array Slot), L < i + 6 * n → i < 4000 → Rl x m2 → lv_has la 4 (zls E b i) → zL p l e s m below meth c b E Q 18 la [] x m2 := by
  obtain ⟨s0, s1, s2, s3, s4, s5, s6, s7, s8, s9, s10, s11, s12, s13, s14, s15, s16, s17, s18, s19, s20, s21, s22, s23, s24, s25, s26, s27, s28, s29, s30, s31, s32, s33, s34, s35, s36⟩ := hst
  intro n
  induction n with
  | zero =>
    intro i x m2 la h1 hi4 hR hl H locs hP hM hS
    obtain ⟨hx, hb, hml, hown, hts, hX, hbl, hK, hE, had, hL⟩ := id C
    have hbA : ¬ (fun q : Nat => s.heap.size ≤ q) b := Nat.not_le.mpr hbl
    refine lv_iload_n hx hb dw_18 rfl (lv_at hl 3 rfl) ?_
    refine lv_aload_n hx hb dw_19 rfl (lv_at hl 0 rfl) ?_
    refine va_slen hx hb hX hbl hbA hS dw_20 ?_
    refine lv_bipush (v := 6) hx hb dw_21 (by decide) ?_
    refine lv_isub hx hb dw_23 ?_
    refine lv_icmp_gt (tgt := 1436) hx hb dw_24 (by decide) (fun _ => hend la x m2 H locs hP hM hS) (fun h => absurd (Int32.lt_iff_toInt_lt.mpr ?_) h)
    rw [show (6 : Int32) = nI 6 from rfl, show Int32.ofNat L = nI L from rfl, pk_sub_toInt (by omega) (by omega), nI_toInt (by omega)]
    omega
  | succ n ih =>
    intro i x m2 la h1 hi4 hR hl H locs hP hM hS
    obtain ⟨hx, hb, hml, hown, hts, hX, hbl, hK, hE, had, hL⟩ := id C
    have hbA : ¬ (fun q : Nat => s.heap.size ≤ q) b := Nat.not_le.mpr hbl
    refine lv_iload_n hx hb dw_18 rfl (lv_at hl 3 rfl) ?_
    refine lv_aload_n hx hb dw_19 rfl (lv_at hl 0 rfl) ?_
    refine va_slen hx hb hX hbl hbA hS dw_20 ?_
    refine lv_bipush (v := 6) hx hb dw_21 (by decide) ?_
    refine lv_isub hx hb dw_23 ?_
    refine lv_icmp_gt (tgt := 1436) hx hb dw_24 (by decide) (fun _ => hend la x m2 H locs hP hM hS) (fun h => ?_)
    have hi : i + 6 ≤ L := by
      have h2 : ¬ (Int32.ofNat L - 6).toInt < (nI i).toInt := fun g => h (Int32.lt_iff_toInt_lt.mpr g)
      rw [show (6 : Int32) = nI 6 from rfl, show Int32.ofNat L = nI L from rfl, pk_sub_toInt (by omega) (by omega), nI_toInt (by omega)] at h2
      omega
    have hk : ∀ (x m2 : zM), Rl x m2 → zL p l e s m below meth c b E Q 1430 la [] x m2 := by
      intro x m2 hR H locs hP hM hS
      refine lv_iinc (v := nI (i + 6)) (lv' := [(3, .int (nI (i + 6))), (0, .ref b), (1, .ref (zad E 0 0)), (2, .ref (zad E 40 0))]) hx hb dw_1430 hl (k := 3) rfl (by rw [show Int32.ofInt 6 = nI 6 from by decide, nI_add]) (by decide) rfl (fun la2 hl2 => ?_)
      refine lv_goto (tgt := 18) hx hb dw_1433 (by decide) ?_
      exact ih (i + 6) x m2 la2 (by omega) (by omega) hR (lv_sub hl2 [1, 2, 3, 0] rfl) H locs hP hM hS
    refine lv_aload_n hx hb dw_27 rfl (lv_at hl 0 rfl) ?_
    refine lv_iload_n hx hb dw_28 rfl (lv_at hl 3 rfl) ?_
    refine va_sld hx hb hX hbl hbA hS (vp_in_nI (show i < L by omega) (by omega)) dw_29 ?_
    refine lv_bipush (v := 63) hx hb dw_30 (by decide) ?_
    refine lv_iand hx hb dw_32 ?_
    generalize (xs (nI i).toNatClampNeg &&& 63) = w
    by_cases h0 : w = 0
    · obtain ⟨r, x1, m1, hx1, hm1, hR1⟩ := s0 x m2 (xs (i + 1)) (xs (i + 2)) hR
      exact lv_tableIn (tgt := 196) hx hb dw_33 (by rw [h0]; decide) (by rw [h0]; decide) (off := 163) (by rw [h0]; rfl) (by decide) (law_0 C hl hi hx1 hm1 (hk x1 m1 hR1) H locs hP hM hS)
    by_cases h1 : w = 1
    · obtain ⟨r, x1, m1, hx1, hm1, hR1⟩ := s1 x m2 (xs (i + 1)) (xs (i + 2)) (xs (i + 3)) (xs (i + 4)) hR
      exact lv_tableIn (tgt := 229) hx hb dw_33 (by rw [h1]; decide) (by rw [h1]; decide) (off := 196) (by rw [h1]; rfl) (by decide) (law_1 C hl hi hx1 hm1 (hk x1 m1 hR1) H locs hP hM hS)
    by_cases h2 : w = 2
    · obtain ⟨r, x1, m1, hx1, hm1, hR1⟩ := s2 x m2 (xs (i + 1)) (xs (i + 2)) hR
      exact lv_tableIn (tgt := 282) hx hb dw_33 (by rw [h2]; decide) (by rw [h2]; decide) (off := 249) (by rw [h2]; rfl) (by decide) (law_2 C hl hi hx1 hm1 (hk x1 m1 hR1) H locs hP hM hS)
    by_cases h3 : w = 3
    · obtain ⟨r, x1, m1, hx1, hm1, hR1⟩ := s3 x m2 (xs (i + 1)) (xs (i + 2)) (xs (i + 3)) hR
      exact lv_tableIn (tgt := 315) hx hb dw_33 (by rw [h3]; decide) (by rw [h3]; decide) (off := 282) (by rw [h3]; rfl) (by decide) (law_3 C hl hi hx1 hm1 (hk x1 m1 hR1) H locs hP hM hS)
    by_cases h4 : w = 4
    · obtain ⟨r, x1, m1, hx1, hm1, hR1⟩ := s4 x m2 (xs (i + 1)) (xs (i + 2)) hR
      exact lv_tableIn (tgt := 358) hx hb dw_33 (by rw [h4]; decide) (by rw [h4]; decide) (off := 325) (by rw [h4]; rfl) (by decide) (law_4 C hl hi hx1 hm1 (hk x1 m1 hR1) H locs hP hM hS)
    by_cases h5 : w = 5
    · obtain ⟨r, x1, m1, hx1, hm1, hR1⟩ := s5 x m2 (xs (i + 1)) (xs (i + 2)) (xs (i + 3)) hR
      exact lv_tableIn (tgt := 391) hx hb dw_33 (by rw [h5]; decide) (by rw [h5]; decide) (off := 358) (by rw [h5]; rfl) (by decide) (law_5 C hl hi hx1 hm1 (hk x1 m1 hR1) H locs hP hM hS)
    by_cases h6 : w = 6
    · obtain ⟨r, x1, m1, hx1, hm1, hR1⟩ := s6 x m2 (xs (i + 1)) hR
      exact lv_tableIn (tgt := 434) hx hb dw_33 (by rw [h6]; decide) (by rw [h6]; decide) (off := 401) (by rw [h6]; rfl) (by decide) (law_6 C hl hi hx1 hm1 (hk x1 m1 hR1) H locs hP hM hS)
    by_cases h7 : w = 7
    · obtain ⟨r, x1, m1, hx1, hm1, hR1⟩ := s7 x m2  hR
      exact lv_tableIn (tgt := 457) hx hb dw_33 (by rw [h7]; decide) (by rw [h7]; decide) (off := 424) (by rw [h7]; rfl) (by decide) (law_7 C hl hi hx1 hm1 (hk x1 m1 hR1) H locs hP hM hS)
    by_cases h8 : w = 8
    · obtain ⟨r, x1, m1, hx1, hm1, hR1⟩ := s8 x m2 (xs (i + 1)) hR
      exact lv_tableIn (tgt := 470) hx hb dw_33 (by rw [h8]; decide) (by rw [h8]; decide) (off := 437) (by rw [h8]; rfl) (by decide) (law_8 C hl hi hx1 hm1 (hk x1 m1 hR1) H locs hP hM hS)
    by_cases h9 : w = 9
    · obtain ⟨r, x1, m1, hx1, hm1, hR1⟩ := s9 x m2 (xs (i + 1)) (xs (i + 2)) (xs (i + 3)) hR
      exact lv_tableIn (tgt := 493) hx hb dw_33 (by rw [h9]; decide) (by rw [h9]; decide) (off := 460) (by rw [h9]; rfl) (by decide) (law_9 C hl hi hx1 hm1 (hk x1 m1 hR1) H locs hP hM hS)
    by_cases h10 : w = 10
    · obtain ⟨r, x1, m1, hx1, hm1, hR1⟩ := s10 x m2 (xs (i + 1)) hR
      exact lv_tableIn (tgt := 536) hx hb dw_33 (by rw [h10]; decide) (by rw [h10]; decide) (off := 503) (by rw [h10]; rfl) (by decide) (law_10 C hl hi hx1 hm1 (hk x1 m1 hR1) H locs hP hM hS)
    by_cases h11 : w = 11
    · obtain ⟨r, x1, m1, hx1, hm1, hR1⟩ := s11 x m2 (xs (i + 1)) (xs (i + 2)) hR
      exact lv_tableIn (tgt := 559) hx hb dw_33 (by rw [h11]; decide) (by rw [h11]; decide) (off := 526) (by rw [h11]; rfl) (by decide) (law_11 C hl hi hx1 hm1 (hk x1 m1 hR1) H locs hP hM hS)
    by_cases h12 : w = 12
    · obtain ⟨r, x1, m1, hx1, hm1, hR1⟩ := s12 x m2 (xs (i + 1)) (xs (i + 2)) hR
      exact lv_tableIn (tgt := 592) hx hb dw_33 (by rw [h12]; decide) (by rw [h12]; decide) (off := 559) (by rw [h12]; rfl) (by decide) (law_12 C hl hi hx1 hm1 (hk x1 m1 hR1) H locs hP hM hS)
    by_cases h13 : w = 13
    · obtain ⟨r, x1, m1, hx1, hm1, hR1⟩ := s13 x m2 (xs (i + 1)) (xs (i + 2)) hR
      exact lv_tableIn (tgt := 625) hx hb dw_33 (by rw [h13]; decide) (by rw [h13]; decide) (off := 592) (by rw [h13]; rfl) (by decide) (law_13 C hl hi hx1 hm1 (hk x1 m1 hR1) H locs hP hM hS)
    by_cases h14 : w = 14
    · obtain ⟨r, x1, m1, hx1, hm1, hR1⟩ := s14 x m2 (xs (i + 1)) (xs (i + 2)) hR
      exact lv_tableIn (tgt := 658) hx hb dw_33 (by rw [h14]; decide) (by rw [h14]; decide) (off := 625) (by rw [h14]; rfl) (by decide) (law_14 C hl hi hx1 hm1 (hk x1 m1 hR1) H locs hP hM hS)
    by_cases h15 : w = 15
    · obtain ⟨r, x1, m1, hx1, hm1, hR1⟩ := s15 x m2 (xs (i + 1)) (xs (i + 2)) hR
      exact lv_tableIn (tgt := 691) hx hb dw_33 (by rw [h15]; decide) (by rw [h15]; decide) (off := 658) (by rw [h15]; rfl) (by decide) (law_15 C hl hi hx1 hm1 (hk x1 m1 hR1) H locs hP hM hS)
    by_cases h16 : w = 16
    · obtain ⟨r, x1, m1, hx1, hm1, hR1⟩ := s16 x m2 (xs (i + 1)) (xs (i + 2)) (xs (i + 3)) hR
      exact lv_tableIn (tgt := 724) hx hb dw_33 (by rw [h16]; decide) (by rw [h16]; decide) (off := 691) (by rw [h16]; rfl) (by decide) (law_16 C hl hi hx1 hm1 (hk x1 m1 hR1) H locs hP hM hS)
    by_cases h17 : w = 17
    · obtain ⟨r, x1, m1, hx1, hm1, hR1⟩ := s17 x m2 (xs (i + 1)) (xs (i + 2)) hR
      exact lv_tableIn (tgt := 767) hx hb dw_33 (by rw [h17]; decide) (by rw [h17]; decide) (off := 734) (by rw [h17]; rfl) (by decide) (law_17 C hl hi hx1 hm1 (hk x1 m1 hR1) H locs hP hM hS)
    by_cases h18 : w = 18
    · obtain ⟨r, x1, m1, hx1, hm1, hR1⟩ := s18 x m2 (xs (i + 1)) hR
      exact lv_tableIn (tgt := 800) hx hb dw_33 (by rw [h18]; decide) (by rw [h18]; decide) (off := 767) (by rw [h18]; rfl) (by decide) (law_18 C hl hi hx1 hm1 (hk x1 m1 hR1) H locs hP hM hS)
    by_cases h19 : w = 19
    · obtain ⟨r, x1, m1, hx1, hm1, hR1⟩ := s19 x m2 (xs (i + 1)) (xs (i + 2)) hR
      exact lv_tableIn (tgt := 823) hx hb dw_33 (by rw [h19]; decide) (by rw [h19]; decide) (off := 790) (by rw [h19]; rfl) (by decide) (law_19 C hl hi hx1 hm1 (hk x1 m1 hR1) H locs hP hM hS)
    by_cases h20 : w = 20
    · obtain ⟨r, x1, m1, hx1, hm1, hR1⟩ := s20 x m2 (xs (i + 1)) hR
      exact lv_tableIn (tgt := 856) hx hb dw_33 (by rw [h20]; decide) (by rw [h20]; decide) (off := 823) (by rw [h20]; rfl) (by decide) (law_20 C hl hi hx1 hm1 (hk x1 m1 hR1) H locs hP hM hS)
    by_cases h21 : w = 21
    · obtain ⟨r, x1, m1, hx1, hm1, hR1⟩ := s21 x m2 (xs (i + 1)) (xs (i + 2)) (xs (i + 3)) hR
      exact lv_tableIn (tgt := 879) hx hb dw_33 (by rw [h21]; decide) (by rw [h21]; decide) (off := 846) (by rw [h21]; rfl) (by decide) (law_21 C hl hi hx1 hm1 (hk x1 m1 hR1) H locs hP hM hS)
    by_cases h22 : w = 22
    · obtain ⟨r, x1, m1, hx1, hm1, hR1⟩ := s22 x m2 (xs (i + 1)) (xs (i + 2)) hR
      exact lv_tableIn (tgt := 922) hx hb dw_33 (by rw [h22]; decide) (by rw [h22]; decide) (off := 889) (by rw [h22]; rfl) (by decide) (law_22 C hl hi hx1 hm1 (hk x1 m1 hR1) H locs hP hM hS)
    by_cases h23 : w = 23
    · obtain ⟨r, x1, m1, hx1, hm1, hR1⟩ := s23 x m2 (xs (i + 1)) hR
      exact lv_tableIn (tgt := 956) hx hb dw_33 (by rw [h23]; decide) (by rw [h23]; decide) (off := 923) (by rw [h23]; rfl) (by decide) (law_23 C hl hi hx1 hm1 (hk x1 m1 hR1) H locs hP hM hS)
    by_cases h24 : w = 24
    · obtain ⟨r, x1, m1, hx1, hm1, hR1⟩ := s24 x m2 (xs (i + 1)) (xs (i + 2)) (xs (i + 3)) hR
      exact lv_tableIn (tgt := 980) hx hb dw_33 (by rw [h24]; decide) (by rw [h24]; decide) (off := 947) (by rw [h24]; rfl) (by decide) (law_24 C hl hi hx1 hm1 (hk x1 m1 hR1) H locs hP hM hS)
    by_cases h25 : w = 25
    · obtain ⟨r, x1, m1, hx1, hm1, hR1⟩ := s25 x m2  hR
      exact lv_tableIn (tgt := 1023) hx hb dw_33 (by rw [h25]; decide) (by rw [h25]; decide) (off := 990) (by rw [h25]; rfl) (by decide) (law_25 C hl hi hx1 hm1 (hk x1 m1 hR1) H locs hP hM hS)
    by_cases h26 : w = 26
    · obtain ⟨r, x1, m1, hx1, hm1, hR1⟩ := s26 x m2 (xs (i + 1)) (xs (i + 2)) hR
      exact lv_tableIn (tgt := 1036) hx hb dw_33 (by rw [h26]; decide) (by rw [h26]; decide) (off := 1003) (by rw [h26]; rfl) (by decide) (law_26 C hl hi hx1 hm1 (hk x1 m1 hR1) H locs hP hM hS)
    by_cases h27 : w = 27
    · obtain ⟨r, x1, m1, hx1, hm1, hR1⟩ := s27 x m2  hR
      exact lv_tableIn (tgt := 1069) hx hb dw_33 (by rw [h27]; decide) (by rw [h27]; decide) (off := 1036) (by rw [h27]; rfl) (by decide) (law_27 C hl hi hx1 hm1 (hk x1 m1 hR1) H locs hP hM hS)
    by_cases h28 : w = 28
    · obtain ⟨r, x1, m1, hx1, hm1, hR1⟩ := s28 x m2  hR
      exact lv_tableIn (tgt := 1082) hx hb dw_33 (by rw [h28]; decide) (by rw [h28]; decide) (off := 1049) (by rw [h28]; rfl) (by decide) (law_28 C hl hi hx1 hm1 (hk x1 m1 hR1) H locs hP hM hS)
    by_cases h29 : w = 29
    · obtain ⟨r, x1, m1, hx1, hm1, hR1⟩ := s29 x m2 (xs (i + 1)) (xs (i + 2)) (xs (i + 3)) hR
      exact lv_tableIn (tgt := 1095) hx hb dw_33 (by rw [h29]; decide) (by rw [h29]; decide) (off := 1062) (by rw [h29]; rfl) (by decide) (law_29 C hl hi hx1 hm1 (hk x1 m1 hR1) H locs hP hM hS)
    by_cases h30 : w = 30
    · obtain ⟨r, x1, m1, hx1, hm1, hR1⟩ := s30 x m2 (xs (i + 1)) hR
      exact lv_tableIn (tgt := 1138) hx hb dw_33 (by rw [h30]; decide) (by rw [h30]; decide) (off := 1105) (by rw [h30]; rfl) (by decide) (law_30 C hl hi hx1 hm1 (hk x1 m1 hR1) H locs hP hM hS)
    by_cases h31 : w = 31
    · obtain ⟨r, x1, m1, hx1, hm1, hR1⟩ := s31 x m2 (xs (i + 1)) (xs (i + 2)) hR
      exact lv_tableIn (tgt := 1161) hx hb dw_33 (by rw [h31]; decide) (by rw [h31]; decide) (off := 1128) (by rw [h31]; rfl) (by decide) (law_31 C hl hi hx1 hm1 (hk x1 m1 hR1) H locs hP hM hS)
    by_cases h32 : w = 32
    · obtain ⟨r, x1, m1, hx1, hm1, hR1⟩ := s32 x m2 (xs (i + 1)) hR
      exact lv_tableIn (tgt := 1194) hx hb dw_33 (by rw [h32]; decide) (by rw [h32]; decide) (off := 1161) (by rw [h32]; rfl) (by decide) (law_32 C hl hi hx1 hm1 (hk x1 m1 hR1) H locs hP hM hS)
    by_cases h33 : w = 33
    · obtain ⟨r, x1, m1, hx1, hm1, hR1⟩ := s33 x m2 (xs (i + 1)) (xs (i + 2)) (xs (i + 3)) hR
      exact lv_tableIn (tgt := 1217) hx hb dw_33 (by rw [h33]; decide) (by rw [h33]; decide) (off := 1184) (by rw [h33]; rfl) (by decide) (law_33 C hl hi hx1 hm1 (hk x1 m1 hR1) H locs hP hM hS)
    by_cases h34 : w = 34
    · obtain ⟨r, x1, m1, hx1, hm1, hR1⟩ := s34 x m2 (xs (i + 1)) (xs (i + 2)) (zlong (xs (i + 3)) (xs (i + 4))) hR
      exact lv_tableIn (tgt := 1260) hx hb dw_33 (by rw [h34]; decide) (by rw [h34]; decide) (off := 1227) (by rw [h34]; rfl) (by decide) (law_34 C hl hi hx1 hm1 (hk x1 m1 hR1) H locs hP hM hS)
    by_cases h35 : w = 35
    · obtain ⟨r, x1, m1, hx1, hm1, hR1⟩ := s35 x m2 (xs (i + 1)) (xs (i + 2)) hR
      exact lv_tableIn (tgt := 1333) hx hb dw_33 (by rw [h35]; decide) (by rw [h35]; decide) (off := 1300) (by rw [h35]; rfl) (by decide) (law_35 C hl hi hx1 hm1 (hk x1 m1 hR1) H locs hP hM hS)
    by_cases h36 : w = 36
    · obtain ⟨r, x1, m1, hx1, hm1, hR1⟩ := s36 x m2 (xs (i + 1)) (xs (i + 2)) (xs (i + 3)) (xs (i + 4)) (xs (i + 5)) hR
      exact lv_tableIn (tgt := 1367) hx hb dw_33 (by rw [h36]; decide) (by rw [h36]; decide) (off := 1334) (by rw [h36]; rfl) (by decide) (law_36 C hl hi hx1 hm1 (hk x1 m1 hR1) H locs hP hM hS)
    exact lv_tableOut (tgt := 1430) hx hb dw_33 (by have g0 := lv_neT h0 (by decide : (0 : Int32).toInt = 0); have g1 := lv_neT h1 (by decide : (1 : Int32).toInt = 1); have g2 := lv_neT h2 (by decide : (2 : Int32).toInt = 2); have g3 := lv_neT h3 (by decide : (3 : Int32).toInt = 3); have g4 := lv_neT h4 (by decide : (4 : Int32).toInt = 4); have g5 := lv_neT h5 (by decide : (5 : Int32).toInt = 5); have g6 := lv_neT h6 (by decide : (6 : Int32).toInt = 6); have g7 := lv_neT h7 (by decide : (7 : Int32).toInt = 7); have g8 := lv_neT h8 (by decide : (8 : Int32).toInt = 8); have g9 := lv_neT h9 (by decide : (9 : Int32).toInt = 9); have g10 := lv_neT h10 (by decide : (10 : Int32).toInt = 10); have g11 := lv_neT h11 (by decide : (11 : Int32).toInt = 11); have g12 := lv_neT h12 (by decide : (12 : Int32).toInt = 12); have g13 := lv_neT h13 (by decide : (13 : Int32).toInt = 13); have g14 := lv_neT h14 (by decide : (14 : Int32).toInt = 14); have g15 := lv_neT h15 (by decide : (15 : Int32).toInt = 15); have g16 := lv_neT h16 (by decide : (16 : Int32).toInt = 16); have g17 := lv_neT h17 (by decide : (17 : Int32).toInt = 17); have g18 := lv_neT h18 (by decide : (18 : Int32).toInt = 18); have g19 := lv_neT h19 (by decide : (19 : Int32).toInt = 19); have g20 := lv_neT h20 (by decide : (20 : Int32).toInt = 20); have g21 := lv_neT h21 (by decide : (21 : Int32).toInt = 21); have g22 := lv_neT h22 (by decide : (22 : Int32).toInt = 22); have g23 := lv_neT h23 (by decide : (23 : Int32).toInt = 23); have g24 := lv_neT h24 (by decide : (24 : Int32).toInt = 24); have g25 := lv_neT h25 (by decide : (25 : Int32).toInt = 25); have g26 := lv_neT h26 (by decide : (26 : Int32).toInt = 26); have g27 := lv_neT h27 (by decide : (27 : Int32).toInt = 27); have g28 := lv_neT h28 (by decide : (28 : Int32).toInt = 28); have g29 := lv_neT h29 (by decide : (29 : Int32).toInt = 29); have g30 := lv_neT h30 (by decide : (30 : Int32).toInt = 30); have g31 := lv_neT h31 (by decide : (31 : Int32).toInt = 31); have g32 := lv_neT h32 (by decide : (32 : Int32).toInt = 32); have g33 := lv_neT h33 (by decide : (33 : Int32).toInt = 33); have g34 := lv_neT h34 (by decide : (34 : Int32).toInt = 34); have g35 := lv_neT h35 (by decide : (35 : Int32).toInt = 35); have g36 := lv_neT h36 (by decide : (36 : Int32).toInt = 36); omega) (by decide) (hk x m2 hR H locs hP hM hS)
