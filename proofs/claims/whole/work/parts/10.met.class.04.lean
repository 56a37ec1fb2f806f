set_option maxHeartbeats 4000000 in
set_option maxRecDepth 100000 in
theorem tT_readInto_L17 {p : Program} {l : Launch} {e : Env} {R : Room} {s : State} {m : MethodId} {args : Array Value} {below : List Frame} {meth : Method} {c : Code} {E : zE} {A : Nat → Prop} (C : zCx p R s m args meth c cX6_readInto "TwoTrue$Text" E zNC A 4 (some .int) 51) (hD : zD E zNC A) (k1 : Nat) (hk1 : k1 < 7) {e48 : zM → Int32 → Option (Int32 × zM)} (he48 : ∀ (M : zM) (u2 : Int32), zG p l e R s m args below meth c E zNC A 4 zvI zoT 48 [(0, .ref (zad E 10 0)), (2, .int u2)] [] M (e48 M u2)) : ∀ (n : Nat) (M : zM) (v2 : Int32) (v3 : Int32), zG p l e R s m args below meth c E zNC A 4 zvI zoT 17 [(0, .ref (zad E 10 0)), (1, .ref (zad E 13 k1)), (2, .int v2), (3, .int v3)] [] M (qT_readInto_L17 k1 e48 n M v2 v3) := by
  intro n
  induction n with
  | zero =>
    intro M v2 v3
    exact zg_none
  | succ n ih =>
    intro M v2 v3
    rw [qT_readInto_L17]
    refine zg_iload_n C 2 18 rfl dX6_readInto_17 rfl ?_
    refine zg_if_eq C 48 21 rfl dX6_readInto_18 (by decide) ?_ ?_
    · refine zg_sub [0, 2] [(0, .ref (zad E 10 0)), (2, .int v2)] rfl ?_
      exact he48 M v2
    · refine zg_iload_n C 3 22 rfl dX6_readInto_21 rfl ?_
      refine zg_bipush C (10 : Int32) 24 rfl dX6_readInto_22 (by decide) ?_
      refine zg_icmp_ge C 48 27 rfl dX6_readInto_24 (by decide) ?_ ?_
      · refine zg_sub [0, 2] [(0, .ref (zad E 10 0)), (2, .int v2)] rfl ?_
        exact he48 M v2
      · refine zg_aload_n C 0 28 rfl dX6_readInto_27 rfl ?_
        refine zg_bipush C (59 : Int32) 30 rfl dX6_readInto_28 (by decide) ?_
        refine zg_callVI C [.int (59 : Int32)] 33 rfl dX6_readInto_30 (tT_passes hD M (59 : Int32)) rfl (fun _ _ hP _ => zrecv C.2.2.2.2.2.1 hP zn10 rfl rfl) zw405 zw402 zw404 zv3 zw4 oT_passes (by decide) (Nat.le_of_ble_eq_true rfl) (fun x8 M7 h9 => ?_)
        refine zg_if_eq C 48 36 rfl dX6_readInto_33 (by decide) ?_ ?_
        · refine zg_sub [0, 2] [(0, .ref (zad E 10 0)), (2, .int v2)] rfl ?_
          exact he48 M7 v2
        · refine zg_aload_n C 0 37 rfl dX6_readInto_36 rfl ?_
          refine zg_aload_n C 1 38 rfl dX6_readInto_37 rfl ?_
          refine zg_callVI C [.ref (zad E 13 k1)] 41 rfl dX6_readInto_38 (tT_readClause hD M7 k1 hk1) rfl (fun _ _ hP _ => zrecv C.2.2.2.2.2.1 hP zn10 rfl rfl) zw344 zw341 zw343 zv0 zw4 oT_readClause (by decide) (Nat.le_of_ble_eq_true rfl) (fun x11 M10 h12 => ?_)
          refine zg_istore_n C 2 [(2, .int x11), (0, .ref (zad E 10 0)), (1, .ref (zad E 13 k1)), (3, .int v3)] 42 rfl dX6_readInto_41 rfl (by decide) rfl ?_
          refine zg_iinc C 3 (v3 + (1 : Int32)) [(3, .int (v3 + (1 : Int32))), (2, .int x11), (0, .ref (zad E 10 0)), (1, .ref (zad E 13 k1))] 45 rfl dX6_readInto_42 rfl (congrArg (fun z : Int32 => v3 + z) (by decide : Int32.ofInt (1) = (1 : Int32))) (by decide) rfl ?_
          refine zg_goto C 17 dX6_readInto_45 (by decide) ?_
          refine zg_sub [2, 3, 1, 0] [(0, .ref (zad E 10 0)), (1, .ref (zad E 13 k1)), (2, .int x11), (3, .int (v3 + (1 : Int32)))] rfl ?_
          exact ih M10 x11 (v3 + (1 : Int32))
set_option maxHeartbeats 4000000 in
set_option maxRecDepth 100000 in
theorem tT_readInto {l : Launch} {E : zE} {A : Nat → Prop} (hD : zD E zNC A) (M : zM) (r1 : Nat) (hr1 : r1 < 7) : zCT l yX6_readInto cX6_readInto 4 (some .int) 51 E zNC A [.ref (zad E 10 0), .ref (zad E 13 r1)] M zvI zoT (qT_readInto  M r1) := by
  refine zCT_of (by decide) hD (by first | decide | exact Nat.le_of_ble_eq_true rfl) (fun p e R s m args below meth c C => ?_)
  have C : zCx p R s m args meth c cX6_readInto "TwoTrue$Text" E zNC A 4 (some .int) 51 := C
  unfold qT_readInto
  refine zg_sub [0, 1] [(0, .ref (zad E 10 0)), (1, .ref (zad E 13 r1))] rfl ?_
  refine zg_aload_n C 1 1 rfl dX6_readInto_0 rfl ?_
  refine zg_callVU C [] 4 rfl dX6_readInto_1 (tE_clear hD M r1 hr1) rfl (fun _ _ hP _ => zrecv C.2.2.2.2.2.1 hP (zn13 hr1) rfl rfl) zw340 zw337 zw338 zw339 zw5 oE_clear (by decide) (Nat.le_of_ble_eq_true rfl) (fun _u M1 h2 => ?_)
  refine zg_aload_n C 0 5 rfl dX6_readInto_4 rfl ?_
  refine zg_iconst C (0 : Int32) 6 rfl dX6_readInto_5 (by decide) ?_
  refine fpX6_24 C zn10 9 rfl dX6_readInto_6 (fun M3 => ?_)
  refine zg_aload_n C 0 10 rfl dX6_readInto_9 rfl ?_
  refine zg_aload_n C 1 11 rfl dX6_readInto_10 rfl ?_
  refine zg_callVI C [.ref (zad E 13 r1)] 14 rfl dX6_readInto_11 (tT_readClause hD M3 r1 hr1) rfl (fun _ _ hP _ => zrecv C.2.2.2.2.2.1 hP zn10 rfl rfl) zw344 zw341 zw343 zv0 zw4 oT_readClause (by decide) (Nat.le_of_ble_eq_true rfl) (fun x5 M4 h6 => ?_)
  refine zg_istore_n C 2 [(2, .int x5), (0, .ref (zad E 10 0)), (1, .ref (zad E 13 r1))] 15 rfl dX6_readInto_14 rfl (by decide) rfl ?_
  refine zg_iconst C (1 : Int32) 16 rfl dX6_readInto_15 (by decide) ?_
  refine zg_istore_n C 3 [(3, .int (1 : Int32)), (2, .int x5), (0, .ref (zad E 10 0)), (1, .ref (zad E 13 r1))] 17 rfl dX6_readInto_16 rfl (by decide) rfl ?_
  refine zg_sub [2, 3, 1, 0] [(0, .ref (zad E 10 0)), (1, .ref (zad E 13 r1)), (2, .int x5), (3, .int (1 : Int32))] rfl ?_
  refine tT_readInto_L17 C hD r1 hr1 (fun M13 x14 => ?_) 1000 M4 x5 (1 : Int32)
  · refine zg_iload_n C 1 49 rfl dX6_readInto_48 rfl ?_
    refine zg_if_eq C 67 52 rfl dX6_readInto_49 (by decide) ?_ ?_
    · refine zg_aload_n C 0 68 rfl dX6_readInto_67 rfl ?_
      refine fgX6_24 C zn10 71 rfl dX6_readInto_68 ?_
      exact zg_iret C dX6_readInto_71 trivial
    · refine zg_aload_n C 0 53 rfl dX6_readInto_52 rfl ?_
      refine fgX6_24 C zn10 56 rfl dX6_readInto_53 ?_
      refine zg_aload_n C 0 57 rfl dX6_readInto_56 rfl ?_
      refine fgX6_15 C zn10 60 rfl dX6_readInto_57 ?_
      refine zg_icmp_ne C 67 63 rfl dX6_readInto_60 (by decide) ?_ ?_
      · refine zg_iconst C (-1 : Int32) 64 rfl dX6_readInto_63 (by decide) ?_
        refine zg_goto C 71 dX6_readInto_64 (by decide) ?_
        exact zg_iret C dX6_readInto_71 trivial
      · refine zg_aload_n C 0 68 rfl dX6_readInto_67 rfl ?_
        refine fgX6_24 C zn10 71 rfl dX6_readInto_68 ?_
        exact zg_iret C dX6_readInto_71 trivial
set_option maxHeartbeats 4000000 in
set_option maxRecDepth 100000 in
theorem tG_evening {l : Launch} {E : zE} {A : Nat → Prop} (hD : zD E zNC A) (M : zM) : zCT l yX7_evening cX7_evening 2 (some .int) 52 E zNC A [.ref (zad E 0 0)] M zvI zoT (qG_evening  M ) := by
  refine zCT_of (by decide) hD (by first | decide | exact Nat.le_of_ble_eq_true rfl) (fun p e R s m args below meth c C => ?_)
  have C : zCx p R s m args meth c cX7_evening "TwoTrue" E zNC A 2 (some .int) 52 := C
  unfold qG_evening
  refine zg_sub [0] [(0, .ref (zad E 0 0))] rfl ?_
  refine zg_aload_n C 0 1 rfl dX7_evening_0 rfl ?_
  refine fgX7_123 C zn0 4 rfl dX7_evening_1 ?_
  refine zg_bipush C (6 : Int32) 6 rfl dX7_evening_4 (by decide) ?_
  refine zg_icmp_lt C 12 9 rfl dX7_evening_6 (by decide) ?_ ?_
  · refine zg_aload_n C 0 13 rfl dX7_evening_12 rfl ?_
    refine fgX7_27 C zn0 16 rfl dX7_evening_13 ?_
    refine zg_aload_n C 0 17 rfl dX7_evening_16 rfl ?_
    refine fgX7_33 C zn0 20 rfl dX7_evening_17 ?_
    refine zg_aload_n C 0 21 rfl dX7_evening_20 rfl ?_
    refine fgX7_123 C zn0 24 rfl dX7_evening_21 ?_
    refine zg_aald (k2 := 13) (b := 0) (t0 := 4) C 25 rfl dX7_evening_24 zn12 rfl rfl (fun i1 hbi1 hei1 => ?_)
    have hi1 : i1 < 7 := by omega
    refine zg_callVI C [.ref (zad E 13 i1)] 28 rfl dX7_evening_25 (tT_readInto hD M i1 hi1) rfl (fun _ _ hP _ => zrecv C.2.2.2.2.2.1 hP zn10 rfl rfl) zw336 zw333 zw334 zw335 zw4 oT_readInto (by decide) (Nat.le_of_ble_eq_true rfl) (fun x3 M2 h4 => ?_)
    refine zg_istore_n C 1 [(1, .int x3), (0, .ref (zad E 0 0))] 29 rfl dX7_evening_28 rfl (by decide) rfl ?_
    refine zg_aload_n C 1 30 rfl dX7_evening_29 rfl ?_
    refine fgX7_27 C zn0 33 rfl dX7_evening_30 ?_
    refine zg_iconst C (0 : Int32) 34 rfl dX7_evening_33 (by decide) ?_
    refine fpX7_117 C zn10 37 rfl dX7_evening_34 (fun M5 => ?_)
    refine zg_iload_n C 0 38 rfl dX7_evening_37 rfl ?_
    refine zg_if_lt C 46 41 rfl dX7_evening_38 (by decide) ?_ ?_
    · refine zg_aload_n C 1 47 rfl dX7_evening_46 rfl ?_
      refine fgX7_12 C zn0 50 rfl dX7_evening_47 ?_
      refine zg_aload_n C 1 51 rfl dX7_evening_50 rfl ?_
      refine fgX7_123 C zn0 54 rfl dX7_evening_51 ?_
      refine fpX7_130 C (zn1 (by decide : 0 < 3)) 57 rfl dX7_evening_54 (fun M6 => ?_)
      refine zg_aload_n C 1 58 rfl dX7_evening_57 rfl ?_
      refine zg_dup C rfl 59 rfl dX7_evening_58 ?_
      refine fgX7_123 C zn0 62 rfl dX7_evening_59 ?_
      refine zg_iconst C (1 : Int32) 63 rfl dX7_evening_62 (by decide) ?_
      refine zg_iadd C 64 rfl dX7_evening_63 ?_
      refine fpX7_123 C zn0 67 rfl dX7_evening_64 (fun M7 => ?_)
      refine zg_aload_n C 1 68 rfl dX7_evening_67 rfl ?_
      refine fgX7_12 C zn0 71 rfl dX7_evening_68 ?_
      refine fgX7_130 C (zn1 (by decide : 0 < 3)) 74 rfl dX7_evening_71 ?_
      exact zg_iret C dX7_evening_74 trivial
    · refine zg_bipush C (-10 : Int32) 43 rfl dX7_evening_41 (by decide) ?_
      refine zg_iload_n C 0 44 rfl dX7_evening_43 rfl ?_
      refine zg_isub C 45 rfl dX7_evening_44 ?_
      exact zg_iret C dX7_evening_45 trivial
  · refine zg_bipush C (-4 : Int32) 11 rfl dX7_evening_9 (by decide) ?_
    exact zg_iret C dX7_evening_11 trivial
set_option maxHeartbeats 4000000 in
set_option maxRecDepth 100000 in
theorem tA_perform_L6 {dz : Nat} {p : Program} {l : Launch} {e : Env} {R : Room} {s : State} {m : MethodId} {args : Array Value} {below : List Frame} {meth : Method} {c : Code} {E : zE} {A : Nat → Prop} (C : zCx p R s m args meth c cX0_perform "TwoTrue$Acts" E zNC A 8 (some .int) (dz + 10)) (hD : zD E zNC A) (fperform : zM → Nat → Int32 → Int32 → Int32 → Int32 → Option (Int32 × zM)) (hperform : ∀ (M : zM) (r1 : Nat) (hr1 : r1 < 18) (a1 : Int32) (a2 : Int32) (a3 : Int32) (a4 : Int32), zCT l yX0_perform cX0_perform 8 (some .int) (dz + 9) E zNC A [.ref (zad E 25 0), .ref (zad E 2 r1), .int a1, .int a2, .int a3, .int a4] M zvI zoT (fperform M r1 a1 a2 a3 a4)) (frunBody : zM → Int32 → Nat → Int32 → Int32 → Int32 → Option (Int32 × zM)) (hrunBody : ∀ (M : zM) (a0 : Int32) (r2 : Nat) (hr2 : r2 < 18) (a2 : Int32) (a3 : Int32) (a4 : Int32), zCT l yX0_runBody cX0_runBody 6 (some .int) (dz + 9) E zNC A [.ref (zad E 25 0), .int a0, .ref (zad E 2 r2), .int a2, .int a3, .int a4] M zvI zoT (frunBody M a0 r2 a2 a3 a4)) (k1 : Nat) (hk1 : k1 < 18) (c3 : Int32) (c4 : Int32) (c5 : Int32) {e45 : zM → Int32 → Option (Int32 × zM)} (he45 : ∀ (M : zM) (u6 : Int32), zG p l e R s m args below meth c E zNC A 8 zvI zoT 45 [(0, .ref (zad E 25 0)), (1, .ref (zad E 2 k1)), (3, .int c3), (4, .int c4), (5, .int c5), (6, .int u6)] [] M (e45 M u6)) : ∀ (n : Nat) (M : zM) (v6 : Int32) (v7 : Int32), zG p l e R s m args below meth c E zNC A 8 zvI zoT 6 [(0, .ref (zad E 25 0)), (1, .ref (zad E 2 k1)), (3, .int c3), (4, .int c4), (5, .int c5), (6, .int v6), (7, .int v7)] [] M (qA_perform_L6 fperform frunBody k1 c3 c4 c5 e45 n M v6 v7) := by
  intro n
  induction n with
  | zero =>
    intro M v6 v7
    exact zg_none
  | succ n ih =>
    intro M v6 v7
    rw [qA_perform_L6]
    refine zg_iload C 6 8 rfl dX0_perform_6 rfl ?_
    refine zg_bipush C (7 : Int32) 10 rfl dX0_perform_8 (by decide) ?_
    refine zg_icmp_ge C 45 13 rfl dX0_perform_10 (by decide) ?_ ?_
    · refine zg_sub [0, 1, 2, 3, 4, 5] [(0, .ref (zad E 25 0)), (1, .ref (zad E 2 k1)), (3, .int c3), (4, .int c4), (5, .int c5), (6, .int v6)] rfl ?_
      exact he45 M v6
    · refine zg_iload C 5 15 rfl dX0_perform_13 rfl ?_
      refine zg_if_le C 45 18 rfl dX0_perform_15 (by decide) ?_ ?_
      · refine zg_sub [0, 1, 2, 3, 4, 5] [(0, .ref (zad E 25 0)), (1, .ref (zad E 2 k1)), (3, .int c3), (4, .int c4), (5, .int c5), (6, .int v6)] rfl ?_
        exact he45 M v6
      · refine zg_gets C 2 (by decide) 21 rfl dX0_perform_18 zw701 ?_
        refine zg_iload C 5 23 rfl dX0_perform_21 rfl ?_
        refine zg_iconst C (3 : Int32) 24 rfl dX0_perform_23 (by decide) ?_
        refine zg_imul C 25 rfl dX0_perform_24 ?_
        refine zg_iload_n C 2 26 rfl dX0_perform_25 rfl ?_
        refine zg_iadd C 27 rfl dX0_perform_26 ?_
        refine zg_ti C (by decide) 28 rfl dX0_perform_27 ?_
        refine zg_if_ne C 45 31 rfl dX0_perform_28 (by decide) ?_ ?_
        · refine zg_getsN C 34 rfl dX0_perform_31 ?_
          refine zg_iload C 5 36 rfl dX0_perform_34 rfl ?_
          refine zg_ti C (by decide) 37 rfl dX0_perform_36 ?_
          refine zg_nmI (fun x1 => ?_)
          refine zg_istore C 6 [(6, .int x1), (0, .ref (zad E 25 0)), (1, .ref (zad E 2 k1)), (3, .int c3), (4, .int c4), (5, .int c5), (7, .int v7)] 39 rfl dX0_perform_37 (by decide) rfl ?_
          refine zg_iinc C 6 (v7 + (1 : Int32)) [(7, .int (v7 + (1 : Int32))), (6, .int x1), (0, .ref (zad E 25 0)), (1, .ref (zad E 2 k1)), (3, .int c3), (4, .int c4), (5, .int c5)] 42 rfl dX0_perform_39 rfl (congrArg (fun z : Int32 => v7 + z) (by decide : Int32.ofInt (1) = (1 : Int32))) (by decide) rfl ?_
          refine zg_goto C 6 dX0_perform_42 (by decide) ?_
          refine zg_sub [2, 3, 4, 5, 6, 1, 0] [(0, .ref (zad E 25 0)), (1, .ref (zad E 2 k1)), (3, .int c3), (4, .int c4), (5, .int c5), (6, .int x1), (7, .int (v7 + (1 : Int32)))] rfl ?_
          exact ih M x1 (v7 + (1 : Int32))
        · refine zg_sub [0, 1, 2, 3, 4, 5] [(0, .ref (zad E 25 0)), (1, .ref (zad E 2 k1)), (3, .int c3), (4, .int c4), (5, .int c5), (6, .int v6)] rfl ?_
          exact he45 M v6
set_option maxHeartbeats 4000000 in
set_option maxRecDepth 100000 in
theorem tA_perform_b {dz : Nat} {l : Launch} {E : zE} {A : Nat → Prop} (hD : zD E zNC A) (fperform : zM → Nat → Int32 → Int32 → Int32 → Int32 → Option (Int32 × zM)) (hperform : ∀ (M : zM) (r1 : Nat) (hr1 : r1 < 18) (a1 : Int32) (a2 : Int32) (a3 : Int32) (a4 : Int32), zCT l yX0_perform cX0_perform 8 (some .int) (dz + 9) E zNC A [.ref (zad E 25 0), .ref (zad E 2 r1), .int a1, .int a2, .int a3, .int a4] M zvI zoT (fperform M r1 a1 a2 a3 a4)) (frunBody : zM → Int32 → Nat → Int32 → Int32 → Int32 → Option (Int32 × zM)) (hrunBody : ∀ (M : zM) (a0 : Int32) (r2 : Nat) (hr2 : r2 < 18) (a2 : Int32) (a3 : Int32) (a4 : Int32), zCT l yX0_runBody cX0_runBody 6 (some .int) (dz + 9) E zNC A [.ref (zad E 25 0), .int a0, .ref (zad E 2 r2), .int a2, .int a3, .int a4] M zvI zoT (frunBody M a0 r2 a2 a3 a4)) (M : zM) (r1 : Nat) (hr1 : r1 < 18) (a1 : Int32) (a2 : Int32) (a3 : Int32) (a4 : Int32) : zCT l yX0_perform cX0_perform 8 (some .int) (dz + 10) E zNC A [.ref (zad E 25 0), .ref (zad E 2 r1), .int a1, .int a2, .int a3, .int a4] M zvI zoT (qA_perform_b fperform frunBody M r1 a1 a2 a3 a4) := by
  refine zCT_of (by decide) hD (by first | decide | exact Nat.le_of_ble_eq_true rfl) (fun p e R s m args below meth c C => ?_)
  have C : zCx p R s m args meth c cX0_perform "TwoTrue$Acts" E zNC A 8 (some .int) (dz + 10) := C
  unfold qA_perform_b
  refine zg_sub [0, 1, 2, 3, 4, 5] [(0, .ref (zad E 25 0)), (1, .ref (zad E 2 r1)), (2, .int a1), (3, .int a2), (4, .int a3), (5, .int a4)] rfl ?_
  refine zg_iload_n C 2 1 rfl dX0_perform_0 rfl ?_
  refine zg_istore C 6 [(6, .int a1), (0, .ref (zad E 25 0)), (1, .ref (zad E 2 r1)), (2, .int a1), (3, .int a2), (4, .int a3), (5, .int a4)] 3 rfl dX0_perform_1 (by decide) rfl ?_
  refine zg_iconst C (0 : Int32) 4 rfl dX0_perform_3 (by decide) ?_
  refine zg_istore C 7 [(7, .int (0 : Int32)), (6, .int a1), (0, .ref (zad E 25 0)), (1, .ref (zad E 2 r1)), (2, .int a1), (3, .int a2), (4, .int a3), (5, .int a4)] 6 rfl dX0_perform_4 (by decide) rfl ?_
  refine zg_sub [2, 3, 5, 6, 7, 1, 0] [(0, .ref (zad E 25 0)), (1, .ref (zad E 2 r1)), (3, .int a2), (4, .int a3), (5, .int a4), (6, .int a1), (7, .int (0 : Int32))] rfl ?_
  refine tA_perform_L6 C hD fperform hperform frunBody hrunBody r1 hr1 a2 a3 a4 (fun M2 x3 => ?_) 1000 M a1 (0 : Int32)
  · refine zg_iload C 5 47 rfl dX0_perform_45 rfl ?_
    refine zg_if_lt C 57 50 rfl dX0_perform_47 (by decide) ?_ ?_
    · refine zg_iconst C (0 : Int32) 58 rfl dX0_perform_57 (by decide) ?_
      exact zg_iret C dX0_perform_58 trivial
    · refine zg_iload C 4 52 rfl dX0_perform_50 rfl ?_
      refine zg_bipush C (40 : Int32) 54 rfl dX0_perform_52 (by decide) ?_
      refine zg_icmp_le C 59 57 rfl dX0_perform_54 (by decide) ?_ ?_
      · refine zg_gets C 2 (by decide) 62 rfl dX0_perform_59 zw701 ?_
        refine zg_iload C 5 64 rfl dX0_perform_62 rfl ?_
        refine zg_iconst C (3 : Int32) 65 rfl dX0_perform_64 (by decide) ?_
        refine zg_imul C 66 rfl dX0_perform_65 ?_
        refine zg_iload_n C 2 67 rfl dX0_perform_66 rfl ?_
        refine zg_iadd C 68 rfl dX0_perform_67 ?_
        refine zg_ti C (by decide) 69 rfl dX0_perform_68 ?_
        refine zg_nmI (fun x4 => ?_)
        refine zg_istore C 7 [(7, .int x4), (0, .ref (zad E 25 0)), (1, .ref (zad E 2 r1)), (3, .int a2), (4, .int a3), (5, .int a4), (6, .int x3)] 71 rfl dX0_perform_69 (by decide) rfl ?_
        refine zg_aload_n C 1 72 rfl dX0_perform_71 rfl ?_
        refine fgX0_31 C zn25 75 rfl dX0_perform_72 ?_
        refine zg_bipush C (20 : Int32) 77 rfl dX0_perform_75 (by decide) ?_
        refine zg_jn (fun j6 => ∀ (M5 : zM), zG p l e R s m args below meth c E zNC A 8 zvI zoT 91 [(0, .ref (zad E 25 0)), (1, .ref (zad E 2 r1)), (4, .int a3), (5, .int a4), (6, .int x3), (7, .int x4)] [] M5 (j6 M5 )) (fun M5 => ?_) (fun j6 hj6 => ?_)
        · refine zg_aload_n C 0 92 rfl dX0_perform_91 rfl ?_
          refine zg_dup C rfl 93 rfl dX0_perform_92 ?_
          refine fgX0_31 C zn25 96 rfl dX0_perform_93 ?_
          refine zg_iconst C (1 : Int32) 97 rfl dX0_perform_96 (by decide) ?_
          refine zg_iadd C 98 rfl dX0_perform_97 ?_
          refine fpX0_31 C zn25 101 rfl dX0_perform_98 (fun M7 => ?_)
          refine zg_aload_n C 0 102 rfl dX0_perform_101 rfl ?_
          refine zg_iload C 5 104 rfl dX0_perform_102 rfl ?_
          refine zg_aload_n C 1 105 rfl dX0_perform_104 rfl ?_
          refine zg_getsN C 108 rfl dX0_perform_105 ?_
          refine zg_iload C 4 110 rfl dX0_perform_108 rfl ?_
          refine zg_ti C (by decide) 111 rfl dX0_perform_110 ?_
          refine zg_iload C 2 113 rfl dX0_perform_111 rfl ?_
          refine zg_iload C 3 115 rfl dX0_perform_113 rfl ?_
          refine zg_iconst C (1 : Int32) 116 rfl dX0_perform_115 (by decide) ?_
          refine zg_iadd C 117 rfl dX0_perform_116 ?_
          refine zg_callVI C [.int x4, .ref (zad E 2 r1), .int (zst 0 x3.toNatClampNeg), .int a3, .int (a4 + (1 : Int32))] 120 rfl dX0_perform_117 (hrunBody M7 x4 r1 hr1 (zst 0 x3.toNatClampNeg) a3 (a4 + (1 : Int32))) rfl (fun _ _ hP _ => zrecv C.2.2.2.2.2.1 hP zn25 rfl rfl) zw707 zw704 zw706 zv18 zw7 oA_runBody (by omega) (Nat.le_of_ble_eq_true rfl) (fun x9 M8 h10 => ?_)
          exact zg_iret C dX0_perform_120 trivial
        · refine zg_icmp_ge C 91 80 rfl dX0_perform_77 (by decide) ?_ ?_
          · refine zg_sub [1, 2, 4, 5, 6, 0] [(0, .ref (zad E 25 0)), (1, .ref (zad E 2 r1)), (4, .int a3), (5, .int a4), (6, .int x3), (7, .int x4)] rfl ?_
            exact hj6 M2 
          · refine zg_aload_n C 1 81 rfl dX0_perform_80 rfl ?_
            refine fgX0_11 C zn25 84 rfl dX0_perform_81 ?_
            refine zg_aload_n C 1 85 rfl dX0_perform_84 rfl ?_
            refine fgX0_31 C zn25 88 rfl dX0_perform_85 ?_
            refine zg_iload C 0 90 rfl dX0_perform_88 rfl ?_
            refine zg_iast C 91 rfl dX0_perform_90 zn26 (fun _ _ => rfl) (fun M11 => ?_)
            refine zg_sub [1, 2, 4, 5, 6, 0] [(0, .ref (zad E 25 0)), (1, .ref (zad E 2 r1)), (4, .int a3), (5, .int a4), (6, .int x3), (7, .int x4)] rfl ?_
            exact hj6 M11 
      · refine zg_iconst C (0 : Int32) 58 rfl dX0_perform_57 (by decide) ?_
        exact zg_iret C dX0_perform_58 trivial
set_option maxHeartbeats 4000000 in
set_option maxRecDepth 100000 in
theorem tA_runBody_b {dz : Nat} {l : Launch} {E : zE} {A : Nat → Prop} (hD : zD E zNC A) (fperform : zM → Nat → Int32 → Int32 → Int32 → Int32 → Option (Int32 × zM)) (hperform : ∀ (M : zM) (r1 : Nat) (hr1 : r1 < 18) (a1 : Int32) (a2 : Int32) (a3 : Int32) (a4 : Int32), zCT l yX0_perform cX0_perform 8 (some .int) (dz + 9) E zNC A [.ref (zad E 25 0), .ref (zad E 2 r1), .int a1, .int a2, .int a3, .int a4] M zvI zoT (fperform M r1 a1 a2 a3 a4)) (frunBody : zM → Int32 → Nat → Int32 → Int32 → Int32 → Option (Int32 × zM)) (hrunBody : ∀ (M : zM) (a0 : Int32) (r2 : Nat) (hr2 : r2 < 18) (a2 : Int32) (a3 : Int32) (a4 : Int32), zCT l yX0_runBody cX0_runBody 6 (some .int) (dz + 9) E zNC A [.ref (zad E 25 0), .int a0, .ref (zad E 2 r2), .int a2, .int a3, .int a4] M zvI zoT (frunBody M a0 r2 a2 a3 a4)) (M : zM) (a0 : Int32) (r2 : Nat) (hr2 : r2 < 18) (a2 : Int32) (a3 : Int32) (a4 : Int32) : zCT l yX0_runBody cX0_runBody 6 (some .int) (dz + 10) E zNC A [.ref (zad E 25 0), .int a0, .ref (zad E 2 r2), .int a2, .int a3, .int a4] M zvI zoT (qA_runBody_b fperform frunBody M a0 r2 a2 a3 a4) := by
  refine zCT_of (by decide) hD (by first | decide | exact Nat.le_of_ble_eq_true rfl) (fun p e R s m args below meth c C => ?_)
  have C : zCx p R s m args meth c cX0_runBody "TwoTrue$Acts" E zNC A 6 (some .int) (dz + 10) := C
  unfold qA_runBody_b
  refine zg_sub [0, 1, 2, 3, 4, 5] [(0, .ref (zad E 25 0)), (1, .int a0), (2, .ref (zad E 2 r2)), (3, .int a2), (4, .int a3), (5, .int a4)] rfl ?_
  refine zg_iload_n C 1 1 rfl dX0_runBody_0 rfl ?_
  refine zg_if (fun h1 => ?_) (fun h1 => ?_)
  · refine zg_look C (99) 100 dX0_runBody_1 (by decide) (by rw [zxi h1 (by decide : (10 : Int32).toInt = 10)]; rfl) (by decide) ?_
    refine zg_iload C 4 102 rfl dX0_runBody_100 rfl ?_
    refine zg_aload_n C 2 103 rfl dX0_runBody_102 rfl ?_
    refine fgX0_38 C (zn2 hr2) 106 rfl dX0_runBody_103 ?_
    refine zg_iadd C 107 rfl dX0_runBody_106 ?_
    exact zg_iret C dX0_runBody_107 trivial
  · refine zg_if (fun h2 => ?_) (fun h2 => ?_)
    · refine zg_look C (107) 108 dX0_runBody_1 (by decide) (by rw [zxi h2 (by decide : (11 : Int32).toInt = 11)]; rfl) (by decide) ?_
      refine zg_aload_n C 0 109 rfl dX0_runBody_108 rfl ?_
      refine zg_aload_n C 2 110 rfl dX0_runBody_109 rfl ?_
      refine zg_aload_n C 2 111 rfl dX0_runBody_110 rfl ?_
      refine fgX0_15 C (zn2 hr2) 114 rfl dX0_runBody_111 ?_
      refine zg_iconst C (0 : Int32) 115 rfl dX0_runBody_114 (by decide) ?_
      refine zg_iload C 4 117 rfl dX0_runBody_115 rfl ?_
      refine zg_iload C 5 119 rfl dX0_runBody_117 rfl ?_
      refine zg_callVI C [.ref (zad E 2 r2), .int (M.1 2 r2 1), .int (0 : Int32), .int a3, .int a4] 122 rfl dX0_runBody_119 (hperform M r2 hr2 (M.1 2 r2 1) (0 : Int32) a3 a4) rfl (fun _ _ hP _ => zrecv C.2.2.2.2.2.1 hP zn25 rfl rfl) zw700 zw697 zw699 zv17 zw7 oA_perform (by omega) (Nat.le_of_ble_eq_true rfl) (fun x4 M3 h5 => ?_)
      refine zg_aload_n C 2 123 rfl dX0_runBody_122 rfl ?_
      refine fgX0_41 C (zn2 hr2) 126 rfl dX0_runBody_123 ?_
      refine zg_isub C 127 rfl dX0_runBody_126 ?_
      exact zg_iret C dX0_runBody_127 trivial
    · refine zg_if (fun h6 => ?_) (fun h6 => ?_)
      · refine zg_look C (127) 128 dX0_runBody_1 (by decide) (by rw [zxi h6 (by decide : (12 : Int32).toInt = 12)]; rfl) (by decide) ?_
        refine zg_aload_n C 0 129 rfl dX0_runBody_128 rfl ?_
        refine zg_aload_n C 2 130 rfl dX0_runBody_129 rfl ?_
        refine zg_aload_n C 2 131 rfl dX0_runBody_130 rfl ?_
        refine fgX0_15 C (zn2 hr2) 134 rfl dX0_runBody_131 ?_
        refine zg_iconst C (1 : Int32) 135 rfl dX0_runBody_134 (by decide) ?_
        refine zg_iload C 4 137 rfl dX0_runBody_135 rfl ?_
        refine zg_iload C 5 139 rfl dX0_runBody_137 rfl ?_
        refine zg_callVI C [.ref (zad E 2 r2), .int (M.1 2 r2 1), .int (1 : Int32), .int a3, .int a4] 142 rfl dX0_runBody_139 (hperform M r2 hr2 (M.1 2 r2 1) (1 : Int32) a3 a4) rfl (fun _ _ hP _ => zrecv C.2.2.2.2.2.1 hP zn25 rfl rfl) zw700 zw697 zw699 zv17 zw7 oA_perform (by omega) (Nat.le_of_ble_eq_true rfl) (fun x8 M7 h9 => ?_)
        refine zg_iconst C (2 : Int32) 143 rfl dX0_runBody_142 (by decide) ?_
        refine zg_imul C 144 rfl dX0_runBody_143 ?_
        exact zg_iret C dX0_runBody_144 trivial
      · refine zg_if (fun h10 => ?_) (fun h10 => ?_)
        · refine zg_look C (144) 145 dX0_runBody_1 (by decide) (by rw [zxi h10 (by decide : (20 : Int32).toInt = 20)]; rfl) (by decide) ?_
          refine zg_aload_n C 0 146 rfl dX0_runBody_145 rfl ?_
          refine zg_aload_n C 2 147 rfl dX0_runBody_146 rfl ?_
          refine zg_iload_n C 3 148 rfl dX0_runBody_147 rfl ?_
          refine zg_iconst C (1 : Int32) 149 rfl dX0_runBody_148 (by decide) ?_
          refine zg_iload C 4 151 rfl dX0_runBody_149 rfl ?_
          refine zg_iload C 5 153 rfl dX0_runBody_151 rfl ?_
          refine zg_callVI C [.ref (zad E 2 r2), .int a2, .int (1 : Int32), .int a3, .int a4] 156 rfl dX0_runBody_153 (hperform M r2 hr2 a2 (1 : Int32) a3 a4) rfl (fun _ _ hP _ => zrecv C.2.2.2.2.2.1 hP zn25 rfl rfl) zw700 zw697 zw699 zv17 zw7 oA_perform (by omega) (Nat.le_of_ble_eq_true rfl) (fun x12 M11 h13 => ?_)
          refine zg_bipush C (6 : Int32) 158 rfl dX0_runBody_156 (by decide) ?_
          refine zg_ixor C 159 rfl dX0_runBody_158 ?_
          exact zg_iret C dX0_runBody_159 trivial
        · refine zg_if (fun h14 => ?_) (fun h14 => ?_)
          · refine zg_look C (159) 160 dX0_runBody_1 (by decide) (by rw [zxi h14 (by decide : (30 : Int32).toInt = 30)]; rfl) (by decide) ?_
            refine zg_aload_n C 0 161 rfl dX0_runBody_160 rfl ?_
            refine zg_aload_n C 2 162 rfl dX0_runBody_161 rfl ?_
            refine zg_iload_n C 3 163 rfl dX0_runBody_162 rfl ?_
            refine zg_iconst C (0 : Int32) 164 rfl dX0_runBody_163 (by decide) ?_
            refine zg_iload C 4 166 rfl dX0_runBody_164 rfl ?_
            refine zg_iconst C (3 : Int32) 167 rfl dX0_runBody_166 (by decide) ?_
            refine zg_imul C 168 rfl dX0_runBody_167 ?_
            refine zg_iload C 5 170 rfl dX0_runBody_168 rfl ?_
            refine zg_callVI C [.ref (zad E 2 r2), .int a2, .int (0 : Int32), .int (a3 * (3 : Int32)), .int a4] 173 rfl dX0_runBody_170 (hperform M r2 hr2 a2 (0 : Int32) (a3 * (3 : Int32)) a4) rfl (fun _ _ hP _ => zrecv C.2.2.2.2.2.1 hP zn25 rfl rfl) zw700 zw697 zw699 zv17 zw7 oA_perform (by omega) (Nat.le_of_ble_eq_true rfl) (fun x16 M15 h17 => ?_)
            exact zg_iret C dX0_runBody_173 trivial
          · refine zg_if (fun h18 => ?_) (fun h18 => ?_)
            · refine zg_look C (173) 174 dX0_runBody_1 (by decide) (by rw [zxi h18 (by decide : (40 : Int32).toInt = 40)]; rfl) (by decide) ?_
              refine zg_aload_n C 0 175 rfl dX0_runBody_174 rfl ?_
              refine zg_aload_n C 2 176 rfl dX0_runBody_175 rfl ?_
              refine zg_iload_n C 3 177 rfl dX0_runBody_176 rfl ?_
              refine zg_iconst C (2 : Int32) 178 rfl dX0_runBody_177 (by decide) ?_
              refine zg_iload C 4 180 rfl dX0_runBody_178 rfl ?_
              refine zg_iload C 5 182 rfl dX0_runBody_180 rfl ?_
              refine zg_callVI C [.ref (zad E 2 r2), .int a2, .int (2 : Int32), .int a3, .int a4] 185 rfl dX0_runBody_182 (hperform M r2 hr2 a2 (2 : Int32) a3 a4) rfl (fun _ _ hP _ => zrecv C.2.2.2.2.2.1 hP zn25 rfl rfl) zw700 zw697 zw699 zv17 zw7 oA_perform (by omega) (Nat.le_of_ble_eq_true rfl) (fun x20 M19 h21 => ?_)
              refine zg_aload_n C 0 186 rfl dX0_runBody_185 rfl ?_
              refine zg_aload_n C 2 187 rfl dX0_runBody_186 rfl ?_
              refine zg_aload_n C 2 188 rfl dX0_runBody_187 rfl ?_
              refine fgX0_15 C (zn2 hr2) 191 rfl dX0_runBody_188 ?_
              refine zg_iconst C (1 : Int32) 192 rfl dX0_runBody_191 (by decide) ?_
              refine zg_iconst C (1 : Int32) 193 rfl dX0_runBody_192 (by decide) ?_
              refine zg_iload C 5 195 rfl dX0_runBody_193 rfl ?_
              refine zg_callVI C [.ref (zad E 2 r2), .int (M19.1 2 r2 1), .int (1 : Int32), .int (1 : Int32), .int a4] 198 rfl dX0_runBody_195 (hperform M19 r2 hr2 (M19.1 2 r2 1) (1 : Int32) (1 : Int32) a4) rfl (fun _ _ hP _ => zrecv C.2.2.2.2.2.1 hP zn25 rfl rfl) zw700 zw697 zw699 zv17 zw7 oA_perform (by omega) (Nat.le_of_ble_eq_true rfl) (fun x23 M22 h24 => ?_)
              refine zg_iadd C 199 rfl dX0_runBody_198 ?_
              exact zg_iret C dX0_runBody_199 trivial
            · refine zg_if (fun h25 => ?_) (fun h25 => ?_)
              · refine zg_look C (199) 200 dX0_runBody_1 (by decide) (by rw [zxi h25 (by decide : (50 : Int32).toInt = 50)]; rfl) (by decide) ?_
                refine zg_aload_n C 0 201 rfl dX0_runBody_200 rfl ?_
                refine zg_aload_n C 2 202 rfl dX0_runBody_201 rfl ?_
                refine zg_iload_n C 3 203 rfl dX0_runBody_202 rfl ?_
                refine zg_iconst C (0 : Int32) 204 rfl dX0_runBody_203 (by decide) ?_
                refine zg_iload C 4 206 rfl dX0_runBody_204 rfl ?_
                refine zg_iload C 5 208 rfl dX0_runBody_206 rfl ?_
                refine zg_callVI C [.ref (zad E 2 r2), .int a2, .int (0 : Int32), .int a3, .int a4] 211 rfl dX0_runBody_208 (hperform M r2 hr2 a2 (0 : Int32) a3 a4) rfl (fun _ _ hP _ => zrecv C.2.2.2.2.2.1 hP zn25 rfl rfl) zw700 zw697 zw699 zv17 zw7 oA_perform (by omega) (Nat.le_of_ble_eq_true rfl) (fun x27 M26 h28 => ?_)
                refine zg_ineg C 212 rfl dX0_runBody_211 ?_
                exact zg_iret C dX0_runBody_212 trivial
              · refine zg_if (fun h29 => ?_) (fun h29 => ?_)
                · refine zg_look C (212) 213 dX0_runBody_1 (by decide) (by rw [zxi h29 (by decide : (51 : Int32).toInt = 51)]; rfl) (by decide) ?_
                  refine zg_aload_n C 0 214 rfl dX0_runBody_213 rfl ?_
                  refine zg_aload_n C 2 215 rfl dX0_runBody_214 rfl ?_
                  refine zg_iload_n C 3 216 rfl dX0_runBody_215 rfl ?_
                  refine zg_iconst C (1 : Int32) 217 rfl dX0_runBody_216 (by decide) ?_
                  refine zg_iload C 4 219 rfl dX0_runBody_217 rfl ?_
                  refine zg_iconst C (1 : Int32) 220 rfl dX0_runBody_219 (by decide) ?_
                  refine zg_iadd C 221 rfl dX0_runBody_220 ?_
                  refine zg_iload C 5 223 rfl dX0_runBody_221 rfl ?_
                  refine zg_callVI C [.ref (zad E 2 r2), .int a2, .int (1 : Int32), .int (a3 + (1 : Int32)), .int a4] 226 rfl dX0_runBody_223 (hperform M r2 hr2 a2 (1 : Int32) (a3 + (1 : Int32)) a4) rfl (fun _ _ hP _ => zrecv C.2.2.2.2.2.1 hP zn25 rfl rfl) zw700 zw697 zw699 zv17 zw7 oA_perform (by omega) (Nat.le_of_ble_eq_true rfl) (fun x31 M30 h32 => ?_)
                  exact zg_iret C dX0_runBody_226 trivial
                · refine zg_if (fun h33 => ?_) (fun h33 => ?_)
                  · refine zg_look C (226) 227 dX0_runBody_1 (by decide) (by rw [zxi h33 (by decide : (60 : Int32).toInt = 60)]; rfl) (by decide) ?_
                    refine zg_aload_n C 0 228 rfl dX0_runBody_227 rfl ?_
                    refine zg_aload_n C 2 229 rfl dX0_runBody_228 rfl ?_
                    refine zg_iload_n C 3 230 rfl dX0_runBody_229 rfl ?_
                    refine zg_iconst C (2 : Int32) 231 rfl dX0_runBody_230 (by decide) ?_
                    refine zg_iload C 4 233 rfl dX0_runBody_231 rfl ?_
                    refine zg_aload_n C 2 234 rfl dX0_runBody_233 rfl ?_
                    refine fgX0_38 C (zn2 hr2) 237 rfl dX0_runBody_234 ?_
                    refine zg_isub C 238 rfl dX0_runBody_237 ?_
                    refine zg_iload C 5 240 rfl dX0_runBody_238 rfl ?_
                    refine zg_callVI C [.ref (zad E 2 r2), .int a2, .int (2 : Int32), .int (a3 - (M.1 2 r2 0)), .int a4] 243 rfl dX0_runBody_240 (hperform M r2 hr2 a2 (2 : Int32) (a3 - (M.1 2 r2 0)) a4) rfl (fun _ _ hP _ => zrecv C.2.2.2.2.2.1 hP zn25 rfl rfl) zw700 zw697 zw699 zv17 zw7 oA_perform (by omega) (Nat.le_of_ble_eq_true rfl) (fun x35 M34 h36 => ?_)
                    exact zg_iret C dX0_runBody_243 trivial
                  · refine zg_if (fun h37 => ?_) (fun h37 => ?_)
                    · refine zg_look C (243) 244 dX0_runBody_1 (by decide) (by rw [zxi h37 (by decide : (70 : Int32).toInt = 70)]; rfl) (by decide) ?_
                      refine zg_aload_n C 0 245 rfl dX0_runBody_244 rfl ?_
                      refine zg_aload_n C 2 246 rfl dX0_runBody_245 rfl ?_
                      refine zg_iload_n C 3 247 rfl dX0_runBody_246 rfl ?_
                      refine zg_iconst C (1 : Int32) 248 rfl dX0_runBody_247 (by decide) ?_
                      refine zg_iload C 4 250 rfl dX0_runBody_248 rfl ?_
                      refine zg_iload C 5 252 rfl dX0_runBody_250 rfl ?_
                      refine zg_callVI C [.ref (zad E 2 r2), .int a2, .int (1 : Int32), .int a3, .int a4] 255 rfl dX0_runBody_252 (hperform M r2 hr2 a2 (1 : Int32) a3 a4) rfl (fun _ _ hP _ => zrecv C.2.2.2.2.2.1 hP zn25 rfl rfl) zw700 zw697 zw699 zv17 zw7 oA_perform (by omega) (Nat.le_of_ble_eq_true rfl) (fun x39 M38 h40 => ?_)
                      refine zg_aload_n C 0 256 rfl dX0_runBody_255 rfl ?_
                      refine zg_aload_n C 2 257 rfl dX0_runBody_256 rfl ?_
                      refine zg_iload_n C 3 258 rfl dX0_runBody_257 rfl ?_
                      refine zg_iconst C (0 : Int32) 259 rfl dX0_runBody_258 (by decide) ?_
                      refine zg_iconst C (2 : Int32) 260 rfl dX0_runBody_259 (by decide) ?_
                      refine zg_iload C 5 262 rfl dX0_runBody_260 rfl ?_
                      refine zg_callVI C [.ref (zad E 2 r2), .int a2, .int (0 : Int32), .int (2 : Int32), .int a4] 265 rfl dX0_runBody_262 (hperform M38 r2 hr2 a2 (0 : Int32) (2 : Int32) a4) rfl (fun _ _ hP _ => zrecv C.2.2.2.2.2.1 hP zn25 rfl rfl) zw700 zw697 zw699 zv17 zw7 oA_perform (by omega) (Nat.le_of_ble_eq_true rfl) (fun x42 M41 h43 => ?_)
                      refine zg_iadd C 266 rfl dX0_runBody_265 ?_
                      exact zg_iret C dX0_runBody_266 trivial
                    · refine zg_if (fun h44 => ?_) (fun h44 => ?_)
                      · refine zg_look C (266) 267 dX0_runBody_1 (by decide) (by rw [zxi h44 (by decide : (71 : Int32).toInt = 71)]; rfl) (by decide) ?_
                        refine zg_aload_n C 0 268 rfl dX0_runBody_267 rfl ?_
                        refine zg_aload_n C 2 269 rfl dX0_runBody_268 rfl ?_
                        refine zg_iload_n C 3 270 rfl dX0_runBody_269 rfl ?_
                        refine zg_iconst C (0 : Int32) 271 rfl dX0_runBody_270 (by decide) ?_
                        refine zg_iload C 4 273 rfl dX0_runBody_271 rfl ?_
                        refine zg_iload C 5 275 rfl dX0_runBody_273 rfl ?_
                        refine zg_callVI C [.ref (zad E 2 r2), .int a2, .int (0 : Int32), .int a3, .int a4] 278 rfl dX0_runBody_275 (hperform M r2 hr2 a2 (0 : Int32) a3 a4) rfl (fun _ _ hP _ => zrecv C.2.2.2.2.2.1 hP zn25 rfl rfl) zw700 zw697 zw699 zv17 zw7 oA_perform (by omega) (Nat.le_of_ble_eq_true rfl) (fun x46 M45 h47 => ?_)
                        refine zg_aload_n C 2 279 rfl dX0_runBody_278 rfl ?_
                        refine fgX0_41 C (zn2 hr2) 282 rfl dX0_runBody_279 ?_
                        refine zg_ixor C 283 rfl dX0_runBody_282 ?_
                        exact zg_iret C dX0_runBody_283 trivial
                      · refine zg_look C (283) 284 dX0_runBody_1 (by decide) (by show Op.lookupswitch.offset [(10, 99), (11, 107), (12, 127), (20, 144), (30, 159), (40, 173), (50, 199), (51, 212), (60, 226), (70, 243), (71, 266)] (283) a0.toInt = 283; rw [lv_osw h1 (by decide : (10 : Int32).toInt = 10), lv_osw h2 (by decide : (11 : Int32).toInt = 11), lv_osw h6 (by decide : (12 : Int32).toInt = 12), lv_osw h10 (by decide : (20 : Int32).toInt = 20), lv_osw h14 (by decide : (30 : Int32).toInt = 30), lv_osw h18 (by decide : (40 : Int32).toInt = 40), lv_osw h25 (by decide : (50 : Int32).toInt = 50), lv_osw h29 (by decide : (51 : Int32).toInt = 51), lv_osw h33 (by decide : (60 : Int32).toInt = 60), lv_osw h37 (by decide : (70 : Int32).toInt = 70), lv_osw h44 (by decide : (71 : Int32).toInt = 71)]; rfl) (by decide) ?_
                        refine zg_iconst C (0 : Int32) 285 rfl dX0_runBody_284 (by decide) ?_
                        exact zg_iret C dX0_runBody_285 trivial
set_option maxHeartbeats 4000000 in
set_option maxRecDepth 100000 in
theorem tA_rec {l : Launch} {E : zE} {A : Nat → Prop} (hD : zD E zNC A) : ∀ n : Nat, (∀ (M : zM) (r1 : Nat) (hr1 : r1 < 18) (a1 : Int32) (a2 : Int32) (a3 : Int32) (a4 : Int32), zCT l yX0_perform cX0_perform 8 (some .int) (n + 9) E zNC A [.ref (zad E 25 0), .ref (zad E 2 r1), .int a1, .int a2, .int a3, .int a4] M zvI zoT ((qA_rec n).1 M r1 a1 a2 a3 a4)) ∧ (∀ (M : zM) (a0 : Int32) (r2 : Nat) (hr2 : r2 < 18) (a2 : Int32) (a3 : Int32) (a4 : Int32), zCT l yX0_runBody cX0_runBody 6 (some .int) (n + 9) E zNC A [.ref (zad E 25 0), .int a0, .ref (zad E 2 r2), .int a2, .int a3, .int a4] M zvI zoT ((qA_rec n).2 M a0 r2 a2 a3 a4)) := by
  intro n
  induction n with
  | zero => exact ⟨fun M r1 hr1 a1 a2 a3 a4 => (by intro r M2 h; cases h), fun M a0 r2 hr2 a2 a3 a4 => (by intro r M2 h; cases h)⟩
  | succ n ih => exact ⟨fun M r1 hr1 a1 a2 a3 a4 => tA_perform_b (dz := n) hD _ ih.1 _ ih.2 M r1 hr1 a1 a2 a3 a4, fun M a0 r2 hr2 a2 a3 a4 => tA_runBody_b (dz := n) hD _ ih.1 _ ih.2 M a0 r2 hr2 a2 a3 a4⟩
set_option maxHeartbeats 4000000 in
set_option maxRecDepth 100000 in
theorem tA_perform {l : Launch} {E : zE} {A : Nat → Prop} (hD : zD E zNC A) (M : zM) (r1 : Nat) (hr1 : r1 < 18) (a1 : Int32) (a2 : Int32) (a3 : Int32) (a4 : Int32) : zCT l yX0_perform cX0_perform 8 (some .int) 109 E zNC A [.ref (zad E 25 0), .ref (zad E 2 r1), .int a1, .int a2, .int a3, .int a4] M zvI zoT (qA_perform M r1 a1 a2 a3 a4) := (tA_rec hD 100).1 M r1 hr1 a1 a2 a3 a4
set_option maxHeartbeats 4000000 in
set_option maxRecDepth 100000 in
theorem tA_runBody {l : Launch} {E : zE} {A : Nat → Prop} (hD : zD E zNC A) (M : zM) (a0 : Int32) (r2 : Nat) (hr2 : r2 < 18) (a2 : Int32) (a3 : Int32) (a4 : Int32) : zCT l yX0_runBody cX0_runBody 6 (some .int) 109 E zNC A [.ref (zad E 25 0), .int a0, .ref (zad E 2 r2), .int a2, .int a3, .int a4] M zvI zoT (qA_runBody M a0 r2 a2 a3 a4) := (tA_rec hD 100).2 M a0 r2 hr2 a2 a3 a4
set_option maxHeartbeats 4000000 in
set_option maxRecDepth 100000 in
theorem tA_run {l : Launch} {E : zE} {A : Nat → Prop} (hD : zD E zNC A) (M : zM) (r1 : Nat) (hr1 : r1 < 18) (a1 : Int32) (a2 : Int32) : zCT l yX0_run cX0_run 4 (some .int) 110 E zNC A [.ref (zad E 25 0), .ref (zad E 2 r1), .int a1, .int a2] M zvI zoT (qA_run  M r1 a1 a2) := by
  refine zCT_of (by decide) hD (by first | decide | exact Nat.le_of_ble_eq_true rfl) (fun p e R s m args below meth c C => ?_)
  have C : zCx p R s m args meth c cX0_run "TwoTrue$Acts" E zNC A 4 (some .int) 110 := C
  unfold qA_run
  refine zg_sub [0, 1, 2, 3] [(0, .ref (zad E 25 0)), (1, .ref (zad E 2 r1)), (2, .int a1), (3, .int a2)] rfl ?_
  refine zg_aload_n C 0 1 rfl dX0_run_0 rfl ?_
  refine zg_aload_n C 1 2 rfl dX0_run_1 rfl ?_
  refine zg_aload_n C 1 3 rfl dX0_run_2 rfl ?_
  refine fgX0_15 C (zn2 hr1) 6 rfl dX0_run_3 ?_
  refine zg_iload_n C 2 7 rfl dX0_run_6 rfl ?_
  refine zg_iload_n C 3 8 rfl dX0_run_7 rfl ?_
  refine zg_iconst C (0 : Int32) 9 rfl dX0_run_8 (by decide) ?_
  refine zg_callVI C [.ref (zad E 2 r1), .int (M.1 2 r1 1), .int a1, .int a2, .int (0 : Int32)] 12 rfl dX0_run_9 (tA_perform hD M r1 hr1 (M.1 2 r1 1) a1 a2 (0 : Int32)) rfl (fun _ _ hP _ => zrecv C.2.2.2.2.2.1 hP zn25 rfl rfl) zw700 zw697 zw699 zv17 zw7 oA_perform (by decide) (Nat.le_of_ble_eq_true rfl) (fun x2 M1 h3 => ?_)
  exact zg_iret C dX0_run_12 trivial
set_option maxHeartbeats 4000000 in
set_option maxRecDepth 100000 in
theorem tG_act {l : Launch} {E : zE} {A : Nat → Prop} (hD : zD E zNC A) (M : zM) (a0 : Int32) (a1 : Int32) (a2 : Int32) : zCT l yX7_act cX7_act 4 (some .int) 111 E zNC A [.ref (zad E 0 0), .int a0, .int a1, .int a2] M zvI zoT (qG_act  M a0 a1 a2) := by
  refine zCT_of (by decide) hD (by first | decide | exact Nat.le_of_ble_eq_true rfl) (fun p e R s m args below meth c C => ?_)
  have C : zCx p R s m args meth c cX7_act "TwoTrue" E zNC A 4 (some .int) 111 := C
  unfold qG_act
  refine zg_sub [0, 1, 2, 3] [(0, .ref (zad E 0 0)), (1, .int a0), (2, .int a1), (3, .int a2)] rfl ?_
  refine zg_aload_n C 0 1 rfl dX7_act_0 rfl ?_
  refine fgX7_62 C zn0 4 rfl dX7_act_1 ?_
  refine zg_iconst C (0 : Int32) 5 rfl dX7_act_4 (by decide) ?_
  refine fpX7_240 C zn25 8 rfl dX7_act_5 (fun M1 => ?_)
  refine zg_aload_n C 0 9 rfl dX7_act_8 rfl ?_
  refine fgX7_12 C zn0 12 rfl dX7_act_9 ?_
  refine zg_iload_n C 1 13 rfl dX7_act_12 rfl ?_
  refine zg_callVI C [.int a0] 16 rfl dX7_act_13 (tP_has hD M1 0 (by decide) a0) rfl (fun _ _ hP _ => zrecv C.2.2.2.2.2.1 hP (zn1 (by decide : 0 < 3)) rfl rfl) zw292 zw289 zw290 zw291 zw2 oP_has (by decide) (Nat.le_of_ble_eq_true rfl) (fun x3 M2 h4 => ?_)
  refine zg_if_eq C 28 19 rfl dX7_act_16 (by decide) ?_ ?_
  · refine zg_iconst C (0 : Int32) 29 rfl dX7_act_28 (by decide) ?_
    exact zg_iret C dX7_act_29 trivial
  · refine zg_iload_n C 2 20 rfl dX7_act_19 rfl ?_
    refine zg_if_lt C 28 23 rfl dX7_act_20 (by decide) ?_ ?_
    · refine zg_iconst C (0 : Int32) 29 rfl dX7_act_28 (by decide) ?_
      exact zg_iret C dX7_act_29 trivial
    · refine zg_iload_n C 2 24 rfl dX7_act_23 rfl ?_
      refine zg_iconst C (3 : Int32) 25 rfl dX7_act_24 (by decide) ?_
      refine zg_icmp_lt C 30 28 rfl dX7_act_25 (by decide) ?_ ?_
      · refine zg_aload_n C 0 31 rfl dX7_act_30 rfl ?_
        refine fgX7_62 C zn0 34 rfl dX7_act_31 ?_
        refine zg_aload_n C 0 35 rfl dX7_act_34 rfl ?_
        refine fgX7_12 C zn0 38 rfl dX7_act_35 ?_
        refine fgX7_88 C (zn1 (by decide : 0 < 3)) 41 rfl dX7_act_38 ?_
        refine zg_iload_n C 1 42 rfl dX7_act_41 rfl ?_
        refine zg_aald (k2 := 2) (b := 0) (t0 := 3) C 43 rfl dX7_act_42 (zn7 (by decide : 0 < 3)) rfl rfl (fun i5 hbi5 hei5 => ?_)
        have hi5 : i5 < 18 := by omega
        refine zg_iload_n C 2 44 rfl dX7_act_43 rfl ?_
        refine zg_iload_n C 3 45 rfl dX7_act_44 rfl ?_
        refine zg_callVI C [.ref (zad E 2 i5), .int a1, .int a2] 48 rfl dX7_act_45 (tA_run hD M2 i5 hi5 a1 a2) rfl (fun _ _ hP _ => zrecv C.2.2.2.2.2.1 hP zn25 rfl rfl) zw696 zw693 zw694 zw695 zw7 oA_run (by decide) (Nat.le_of_ble_eq_true rfl) (fun x7 M6 h8 => ?_)
        exact zg_iret C dX7_act_48 trivial
      · refine zg_iconst C (0 : Int32) 29 rfl dX7_act_28 (by decide) ?_
        exact zg_iret C dX7_act_29 trivial
