set_option maxHeartbeats 4000000 in
set_option maxRecDepth 100000 in
theorem tG_isOfThree {l : Launch} {E : zE} {A : Nat → Prop} (hD : zD E zNC A) (M : zM) (a0 : Int32) : zCT l yX7_isOfThree cX7_isOfThree 1 (some .boolean) 2 E zNC A [.int a0] M zvI zoB (qG_isOfThree  M a0) := by
  refine zCT_of (by decide) hD (by first | decide | exact Nat.le_of_ble_eq_true rfl) (fun p e R s m args below meth c C => ?_)
  have C : zCx p R s m args meth c cX7_isOfThree "TwoTrue" E zNC A 1 (some .boolean) 2 := C
  unfold qG_isOfThree
  refine zg_sub [0] [(0, .int a0)] rfl ?_
  refine zg_iload_n C 0 1 rfl dX7_isOfThree_0 rfl ?_
  refine zg_if_lt C 13 4 rfl dX7_isOfThree_1 (by decide) ?_ ?_
  · refine zg_iconst C (0 : Int32) 14 rfl dX7_isOfThree_13 (by decide) ?_
    exact zg_zret C dX7_isOfThree_14 rfl rfl
  · refine zg_iload_n C 0 5 rfl dX7_isOfThree_4 rfl ?_
    refine zg_iconst C (3 : Int32) 6 rfl dX7_isOfThree_5 (by decide) ?_
    refine zg_icmp_ge C 13 9 rfl dX7_isOfThree_6 (by decide) ?_ ?_
    · refine zg_iconst C (0 : Int32) 14 rfl dX7_isOfThree_13 (by decide) ?_
      exact zg_zret C dX7_isOfThree_14 rfl rfl
    · refine zg_iconst C (1 : Int32) 10 rfl dX7_isOfThree_9 (by decide) ?_
      refine zg_goto C 14 dX7_isOfThree_10 (by decide) ?_
      exact zg_zret C dX7_isOfThree_14 rfl rfl
set_option maxHeartbeats 4000000 in
set_option maxRecDepth 100000 in
theorem tG_held {l : Launch} {E : zE} {A : Nat → Prop} (hD : zD E zNC A) (M : zM) : zCT l yX7_held cX7_held 1 (some (.object "TwoTrue$Evening")) 2 E zNC A [.ref (zad E 0 0)] M (zvR E 13) (fun r : Nat => r < 7) (qG_held  M ) := by
  refine zCT_of (by decide) hD (by first | decide | exact Nat.le_of_ble_eq_true rfl) (fun p e R s m args below meth c C => ?_)
  have C : zCx p R s m args meth c cX7_held "TwoTrue" E zNC A 1 (some (.object "TwoTrue$Evening")) 2 := C
  unfold qG_held
  refine zg_sub [0] [(0, .ref (zad E 0 0))] rfl ?_
  refine zg_aload_n C 0 1 rfl dX7_held_0 rfl ?_
  refine fgX7_12 C zn0 4 rfl dX7_held_1 ?_
  refine fgX7_130 C (zn1 (by decide : 0 < 3)) 7 rfl dX7_held_4 ?_
  refine zg_if_lt C 37 10 rfl dX7_held_7 (by decide) ?_ ?_
  · refine zg_aload_n C 0 38 rfl dX7_held_37 rfl ?_
    refine fgX7_38 C zn0 41 rfl dX7_held_38 ?_
    exact zg_aret C dX7_held_41 (by decide)
  · refine zg_aload_n C 0 11 rfl dX7_held_10 rfl ?_
    refine fgX7_12 C zn0 14 rfl dX7_held_11 ?_
    refine fgX7_130 C (zn1 (by decide : 0 < 3)) 17 rfl dX7_held_14 ?_
    refine zg_bipush C (6 : Int32) 19 rfl dX7_held_17 (by decide) ?_
    refine zg_icmp_ge C 37 22 rfl dX7_held_19 (by decide) ?_ ?_
    · refine zg_aload_n C 0 38 rfl dX7_held_37 rfl ?_
      refine fgX7_38 C zn0 41 rfl dX7_held_38 ?_
      exact zg_aret C dX7_held_41 (by decide)
    · refine zg_aload_n C 0 23 rfl dX7_held_22 rfl ?_
      refine fgX7_33 C zn0 26 rfl dX7_held_23 ?_
      refine zg_aload_n C 0 27 rfl dX7_held_26 rfl ?_
      refine fgX7_12 C zn0 30 rfl dX7_held_27 ?_
      refine fgX7_130 C (zn1 (by decide : 0 < 3)) 33 rfl dX7_held_30 ?_
      refine zg_aald (k2 := 13) (b := 0) (t0 := 4) C 34 rfl dX7_held_33 zn12 rfl rfl (fun i1 hbi1 hei1 => ?_)
      have hi1 : i1 < 7 := by omega
      refine zg_goto C 41 dX7_held_34 (by decide) ?_
      exact zg_aret C dX7_held_41 hi1
set_option maxHeartbeats 4000000 in
set_option maxRecDepth 100000 in
theorem tG_isOfKind_L4 {p : Program} {l : Launch} {e : Env} {R : Room} {s : State} {m : MethodId} {args : Array Value} {below : List Frame} {meth : Method} {c : Code} {E : zE} {A : Nat → Prop} (C : zCx p R s m args meth c cX7_isOfKind "TwoTrue" E zNC A 4 (some .boolean) 2) (hD : zD E zNC A) (c1 : Int32) : ∀ (n : Nat) (M : zM) (v2 : Int32) (v3 : Int32), zG p l e R s m args below meth c E zNC A 4 zvI zoB 4 [(1, .int c1), (2, .int v2), (3, .int v3)] [] M (qG_isOfKind_L4 c1 n M v2 v3) := by
  intro n
  induction n with
  | zero =>
    intro M v2 v3
    exact zg_none
  | succ n ih =>
    intro M v2 v3
    rw [qG_isOfKind_L4]
    refine zg_iload_n C 2 5 rfl dX7_isOfKind_4 rfl ?_
    refine zg_bipush C (7 : Int32) 7 rfl dX7_isOfKind_5 (by decide) ?_
    refine zg_icmp_ge C 33 10 rfl dX7_isOfKind_7 (by decide) ?_ ?_
    · refine zg_iconst C (0 : Int32) 34 rfl dX7_isOfKind_33 (by decide) ?_
      exact zg_zret C dX7_isOfKind_34 rfl rfl
    · refine zg_iload_n C 1 11 rfl dX7_isOfKind_10 rfl ?_
      refine zg_if_lt C 33 14 rfl dX7_isOfKind_11 (by decide) ?_ ?_
      · refine zg_iconst C (0 : Int32) 34 rfl dX7_isOfKind_33 (by decide) ?_
        exact zg_zret C dX7_isOfKind_34 rfl rfl
      · refine zg_iload_n C 1 15 rfl dX7_isOfKind_14 rfl ?_
        refine zg_iload_n C 0 16 rfl dX7_isOfKind_15 rfl ?_
        refine zg_icmp_ne C 21 19 rfl dX7_isOfKind_16 (by decide) ?_ ?_
        · refine zg_iconst C (1 : Int32) 20 rfl dX7_isOfKind_19 (by decide) ?_
          exact zg_zret C dX7_isOfKind_20 rfl rfl
        · refine zg_gets C 0 (by decide) 24 rfl dX7_isOfKind_21 zw540 ?_
          refine zg_iload_n C 1 25 rfl dX7_isOfKind_24 rfl ?_
          refine zg_ti C (by decide) 26 rfl dX7_isOfKind_25 ?_
          refine zg_nmI (fun x1 => ?_)
          refine zg_istore_n C 2 [(2, .int x1), (1, .int c1), (3, .int v3)] 27 rfl dX7_isOfKind_26 rfl (by decide) rfl ?_
          refine zg_iinc C 2 (v3 + (1 : Int32)) [(3, .int (v3 + (1 : Int32))), (2, .int x1), (1, .int c1)] 30 rfl dX7_isOfKind_27 rfl (congrArg (fun z : Int32 => v3 + z) (by decide : Int32.ofInt (1) = (1 : Int32))) (by decide) rfl ?_
          refine zg_goto C 4 dX7_isOfKind_30 (by decide) ?_
          refine zg_sub [2, 1, 0] [(1, .int c1), (2, .int x1), (3, .int (v3 + (1 : Int32)))] rfl ?_
          exact ih M x1 (v3 + (1 : Int32))
set_option maxHeartbeats 4000000 in
set_option maxRecDepth 100000 in
theorem tG_isOfKind {l : Launch} {E : zE} {A : Nat → Prop} (hD : zD E zNC A) (M : zM) (a0 : Int32) (a1 : Int32) : zCT l yX7_isOfKind cX7_isOfKind 4 (some .boolean) 2 E zNC A [.int a0, .int a1] M zvI zoB (qG_isOfKind  M a0 a1) := by
  refine zCT_of (by decide) hD (by first | decide | exact Nat.le_of_ble_eq_true rfl) (fun p e R s m args below meth c C => ?_)
  have C : zCx p R s m args meth c cX7_isOfKind "TwoTrue" E zNC A 4 (some .boolean) 2 := C
  unfold qG_isOfKind
  refine zg_sub [0, 1] [(0, .int a0), (1, .int a1)] rfl ?_
  refine zg_iload_n C 0 1 rfl dX7_isOfKind_0 rfl ?_
  refine zg_istore_n C 2 [(2, .int a0), (0, .int a0), (1, .int a1)] 2 rfl dX7_isOfKind_1 rfl (by decide) rfl ?_
  refine zg_iconst C (0 : Int32) 3 rfl dX7_isOfKind_2 (by decide) ?_
  refine zg_istore_n C 3 [(3, .int (0 : Int32)), (2, .int a0), (0, .int a0), (1, .int a1)] 4 rfl dX7_isOfKind_3 rfl (by decide) rfl ?_
  refine zg_sub [3, 1, 0] [(1, .int a1), (2, .int a0), (3, .int (0 : Int32))] rfl ?_
  refine tG_isOfKind_L4 C hD a1  1000 M a0 (0 : Int32)
set_option maxHeartbeats 4000000 in
set_option maxRecDepth 100000 in
theorem tG_exchange {l : Launch} {E : zE} {A : Nat → Prop} (hD : zD E zNC A) (M : zM) (a1 : Int32) (a2 : Int32) : zCT l yX7_exchange cX7_exchange 4 none 2 E zNC A [.ref (zad E 23 0), .int a1, .int a2] M zvU zoT (qG_exchange  M a1 a2) := by
  refine zCT_of (by decide) hD (by first | decide | exact Nat.le_of_ble_eq_true rfl) (fun p e R s m args below meth c C => ?_)
  have C : zCx p R s m args meth c cX7_exchange "TwoTrue" E zNC A 4 none 2 := C
  unfold qG_exchange
  refine zg_sub [0, 1, 2] [(0, .ref (zad E 23 0)), (1, .int a1), (2, .int a2)] rfl ?_
  refine zg_aload_n C 0 1 rfl dX7_exchange_0 rfl ?_
  refine zg_iload_n C 1 2 rfl dX7_exchange_1 rfl ?_
  refine zg_iald C 3 rfl dX7_exchange_2 zn23 rfl ?_
  refine zg_nmI (fun x1 => ?_)
  refine zg_istore_n C 3 [(3, .int x1), (0, .ref (zad E 23 0)), (1, .int a1), (2, .int a2)] 4 rfl dX7_exchange_3 rfl (by decide) rfl ?_
  refine zg_aload_n C 1 5 rfl dX7_exchange_4 rfl ?_
  refine zg_iload_n C 2 6 rfl dX7_exchange_5 rfl ?_
  refine zg_aload_n C 1 7 rfl dX7_exchange_6 rfl ?_
  refine zg_iload_n C 3 8 rfl dX7_exchange_7 rfl ?_
  refine zg_iald C 9 rfl dX7_exchange_8 zn23 rfl ?_
  refine zg_iast C 10 rfl dX7_exchange_9 zn23 (fun _ _ => rfl) (fun M2 => ?_)
  refine zg_aload_n C 1 11 rfl dX7_exchange_10 rfl ?_
  refine zg_iload_n C 3 12 rfl dX7_exchange_11 rfl ?_
  refine zg_iload_n C 0 13 rfl dX7_exchange_12 rfl ?_
  refine zg_iast C 14 rfl dX7_exchange_13 zn23 (fun _ _ => rfl) (fun M3 => ?_)
  exact zg_vret C dX7_exchange_14 trivial
set_option maxHeartbeats 4000000 in
set_option maxRecDepth 100000 in
theorem tG_partOfFraction_L5 {p : Program} {l : Launch} {e : Env} {R : Room} {s : State} {m : MethodId} {args : Array Value} {below : List Frame} {meth : Method} {c : Code} {E : zE} {A : Nat → Prop} (C : zCx p R s m args meth c cX7_partOfFraction "TwoTrue" E zNC A 5 (some .long) 2) (hD : zD E zNC A) (c0 : Int32) (c1 : Int32) (c2 : Int32) {e34 : zM → Int32 → Option (Int64 × zM)} (he34 : ∀ (M : zM) (u3 : Int32), zG p l e R s m args below meth c E zNC A 5 zvL zoT 34 [(0, .int c0), (1, .int c1), (2, .int c2), (3, .int u3)] [] M (e34 M u3)) : ∀ (n : Nat) (M : zM) (v3 : Int32) (v4 : Int32), zG p l e R s m args below meth c E zNC A 5 zvL zoT 5 [(0, .int c0), (1, .int c1), (2, .int c2), (3, .int v3), (4, .int v4)] [] M (qG_partOfFraction_L5 c0 c1 c2 e34 n M v3 v4) := by
  intro n
  induction n with
  | zero =>
    intro M v3 v4
    exact zg_none
  | succ n ih =>
    intro M v3 v4
    rw [qG_partOfFraction_L5]
    refine zg_iload C 4 7 rfl dX7_partOfFraction_5 rfl ?_
    refine zg_iload_n C 1 8 rfl dX7_partOfFraction_7 rfl ?_
    refine zg_icmp_gt C 34 11 rfl dX7_partOfFraction_8 (by decide) ?_ ?_
    · refine zg_sub [0, 1, 2, 3] [(0, .int c0), (1, .int c1), (2, .int c2), (3, .int v3)] rfl ?_
      exact he34 M v3
    · refine zg_iload_n C 0 12 rfl dX7_partOfFraction_11 rfl ?_
      refine zg_iload C 4 14 rfl dX7_partOfFraction_12 rfl ?_
      refine zg_irem C 15 rfl dX7_partOfFraction_14 ?_
      refine zg_jn (fun j3 => ∀ (M2 : zM) (x1 : Int32), zG p l e R s m args below meth c E zNC A 5 zvL zoT 28 [(0, .int c0), (1, .int c1), (2, .int c2), (3, .int x1), (4, .int v4)] [] M2 (j3 M2 x1)) (fun M2 x1 => ?_) (fun j3 hj3 => ?_)
      · refine zg_iinc C 4 (v4 + (1 : Int32)) [(4, .int (v4 + (1 : Int32))), (0, .int c0), (1, .int c1), (2, .int c2), (3, .int x1)] 31 rfl dX7_partOfFraction_28 rfl (congrArg (fun z : Int32 => v4 + z) (by decide : Int32.ofInt (1) = (1 : Int32))) (by decide) rfl ?_
        refine zg_goto C 5 dX7_partOfFraction_31 (by decide) ?_
        refine zg_sub [1, 2, 3, 4, 0] [(0, .int c0), (1, .int c1), (2, .int c2), (3, .int x1), (4, .int (v4 + (1 : Int32)))] rfl ?_
        exact ih M2 x1 (v4 + (1 : Int32))
      · refine zg_if_ne C 28 18 rfl dX7_partOfFraction_15 (by decide) ?_ ?_
        · refine zg_iload_n C 1 19 rfl dX7_partOfFraction_18 rfl ?_
          refine zg_iload C 4 21 rfl dX7_partOfFraction_19 rfl ?_
          refine zg_irem C 22 rfl dX7_partOfFraction_21 ?_
          refine zg_if_ne C 28 25 rfl dX7_partOfFraction_22 (by decide) ?_ ?_
          · refine zg_iload C 4 27 rfl dX7_partOfFraction_25 rfl ?_
            refine zg_istore_n C 3 [(3, .int v4), (0, .int c0), (1, .int c1), (2, .int c2), (4, .int v4)] 28 rfl dX7_partOfFraction_27 rfl (by decide) rfl ?_
            refine zg_sub [1, 2, 3, 0, 4] [(0, .int c0), (1, .int c1), (2, .int c2), (3, .int v4), (4, .int v4)] rfl ?_
            exact hj3 M v4
          · exact hj3 M v3
        · exact hj3 M v3
set_option maxHeartbeats 4000000 in
set_option maxRecDepth 100000 in
theorem tG_partOfFraction {l : Launch} {E : zE} {A : Nat → Prop} (hD : zD E zNC A) (M : zM) (a0 : Int32) (a1 : Int32) (a2 : Int32) : zCT l yX7_partOfFraction cX7_partOfFraction 5 (some .long) 2 E zNC A [.int a0, .int a1, .int a2] M zvL zoT (qG_partOfFraction  M a0 a1 a2) := by
  refine zCT_of (by decide) hD (by first | decide | exact Nat.le_of_ble_eq_true rfl) (fun p e R s m args below meth c C => ?_)
  have C : zCx p R s m args meth c cX7_partOfFraction "TwoTrue" E zNC A 5 (some .long) 2 := C
  unfold qG_partOfFraction
  refine zg_sub [0, 1, 2] [(0, .int a0), (1, .int a1), (2, .int a2)] rfl ?_
  refine zg_iconst C (1 : Int32) 1 rfl dX7_partOfFraction_0 (by decide) ?_
  refine zg_istore_n C 3 [(3, .int (1 : Int32)), (0, .int a0), (1, .int a1), (2, .int a2)] 2 rfl dX7_partOfFraction_1 rfl (by decide) rfl ?_
  refine zg_iconst C (2 : Int32) 3 rfl dX7_partOfFraction_2 (by decide) ?_
  refine zg_istore C 4 [(4, .int (2 : Int32)), (3, .int (1 : Int32)), (0, .int a0), (1, .int a1), (2, .int a2)] 5 rfl dX7_partOfFraction_3 (by decide) rfl ?_
  refine zg_sub [2, 3, 4, 1, 0] [(0, .int a0), (1, .int a1), (2, .int a2), (3, .int (1 : Int32)), (4, .int (2 : Int32))] rfl ?_
  refine tG_partOfFraction_L5 C hD a0 a1 a2 (fun M4 x5 => ?_) 1000 M (1 : Int32) (2 : Int32)
  · refine zg_iload_n C 2 35 rfl dX7_partOfFraction_34 rfl ?_
    refine zg_if_ne C 42 38 rfl dX7_partOfFraction_35 (by decide) ?_ ?_
    · refine zg_iload_n C 0 39 rfl dX7_partOfFraction_38 rfl ?_
      refine zg_goto C 43 dX7_partOfFraction_39 (by decide) ?_
      refine zg_iload_n C 3 44 rfl dX7_partOfFraction_43 rfl ?_
      refine zg_idiv C 45 rfl dX7_partOfFraction_44 ?_
      refine zg_i2l C 46 rfl dX7_partOfFraction_45 ?_
      exact zg_lret C dX7_partOfFraction_46 trivial
    · refine zg_iload_n C 1 43 rfl dX7_partOfFraction_42 rfl ?_
      refine zg_iload_n C 3 44 rfl dX7_partOfFraction_43 rfl ?_
      refine zg_idiv C 45 rfl dX7_partOfFraction_44 ?_
      refine zg_i2l C 46 rfl dX7_partOfFraction_45 ?_
      exact zg_lret C dX7_partOfFraction_46 trivial
set_option maxHeartbeats 4000000 in
set_option maxRecDepth 100000 in
theorem tG_trace {l : Launch} {E : zE} {A : Nat → Prop} (hD : zD E zNC A) (M : zM) (a0 : Int32) : zCT l yX7_trace cX7_trace 2 (some .int) 2 E zNC A [.ref (zad E 0 0), .int a0] M zvI zoT (qG_trace  M a0) := by
  refine zCT_of (by decide) hD (by first | decide | exact Nat.le_of_ble_eq_true rfl) (fun p e R s m args below meth c C => ?_)
  have C : zCx p R s m args meth c cX7_trace "TwoTrue" E zNC A 2 (some .int) 2 := C
  unfold qG_trace
  refine zg_sub [0, 1] [(0, .ref (zad E 0 0)), (1, .int a0)] rfl ?_
  refine zg_iload_n C 1 1 rfl dX7_trace_0 rfl ?_
  refine zg_if_lt C 21 4 rfl dX7_trace_1 (by decide) ?_ ?_
  · refine zg_iconst C (-1 : Int32) 22 rfl dX7_trace_21 (by decide) ?_
    refine zg_goto C 34 dX7_trace_22 (by decide) ?_
    exact zg_iret C dX7_trace_34 trivial
  · refine zg_iload_n C 1 5 rfl dX7_trace_4 rfl ?_
    refine zg_aload_n C 0 6 rfl dX7_trace_5 rfl ?_
    refine fgX7_62 C zn0 9 rfl dX7_trace_6 ?_
    refine fgX7_240 C zn25 12 rfl dX7_trace_9 ?_
    refine zg_icmp_ge C 21 15 rfl dX7_trace_12 (by decide) ?_ ?_
    · refine zg_iconst C (-1 : Int32) 22 rfl dX7_trace_21 (by decide) ?_
      refine zg_goto C 34 dX7_trace_22 (by decide) ?_
      exact zg_iret C dX7_trace_34 trivial
    · refine zg_iload_n C 1 16 rfl dX7_trace_15 rfl ?_
      refine zg_bipush C (20 : Int32) 18 rfl dX7_trace_16 (by decide) ?_
      refine zg_icmp_lt C 25 21 rfl dX7_trace_18 (by decide) ?_ ?_
      · refine zg_aload_n C 0 26 rfl dX7_trace_25 rfl ?_
        refine fgX7_62 C zn0 29 rfl dX7_trace_26 ?_
        refine fgX7_247 C zn25 32 rfl dX7_trace_29 ?_
        refine zg_iload_n C 1 33 rfl dX7_trace_32 rfl ?_
        refine zg_iald C 34 rfl dX7_trace_33 zn26 rfl ?_
        exact zg_iret C dX7_trace_34 trivial
      · refine zg_iconst C (-1 : Int32) 22 rfl dX7_trace_21 (by decide) ?_
        refine zg_goto C 34 dX7_trace_22 (by decide) ?_
        exact zg_iret C dX7_trace_34 trivial
set_option maxHeartbeats 4000000 in
set_option maxRecDepth 100000 in
theorem tG_count {l : Launch} {E : zE} {A : Nat → Prop} (hD : zD E zNC A) (M : zM) (a0 : Int32) : zCT l yX7_count cX7_count 2 (some .int) 2 E zNC A [.ref (zad E 0 0), .int a0] M zvI zoT (qG_count  M a0) := by
  refine zCT_of (by decide) hD (by first | decide | exact Nat.le_of_ble_eq_true rfl) (fun p e R s m args below meth c C => ?_)
  have C : zCx p R s m args meth c cX7_count "TwoTrue" E zNC A 2 (some .int) 2 := C
  unfold qG_count
  refine zg_sub [0, 1] [(0, .ref (zad E 0 0)), (1, .int a0)] rfl ?_
  refine zg_iload_n C 1 1 rfl dX7_count_0 rfl ?_
  refine zg_if (fun h1 => ?_) (fun h1 => ?_)
  · refine zg_tabIn C 0 (35) 36 dX7_count_1 (zxi h1 (by decide)) (by decide) (by decide) rfl (by decide) ?_
    refine zg_aload_n C 0 37 rfl dX7_count_36 rfl ?_
    refine fgX7_12 C zn0 40 rfl dX7_count_37 ?_
    refine fgX7_73 C (zn1 (by decide : 0 < 3)) 43 rfl dX7_count_40 ?_
    exact zg_iret C dX7_count_43 trivial
  · refine zg_if (fun h2 => ?_) (fun h2 => ?_)
    · refine zg_tabIn C 1 (43) 44 dX7_count_1 (zxi h2 (by decide)) (by decide) (by decide) rfl (by decide) ?_
      refine zg_aload_n C 0 45 rfl dX7_count_44 rfl ?_
      refine fgX7_123 C zn0 48 rfl dX7_count_45 ?_
      exact zg_iret C dX7_count_48 trivial
    · refine zg_if (fun h3 => ?_) (fun h3 => ?_)
      · refine zg_tabIn C 2 (48) 49 dX7_count_1 (zxi h3 (by decide)) (by decide) (by decide) rfl (by decide) ?_
        refine zg_aload_n C 0 50 rfl dX7_count_49 rfl ?_
        refine fgX7_12 C zn0 53 rfl dX7_count_50 ?_
        refine fgX7_213 C (zn1 (by decide : 0 < 3)) 56 rfl dX7_count_53 ?_
        exact zg_iret C dX7_count_56 trivial
      · refine zg_if (fun h4 => ?_) (fun h4 => ?_)
        · refine zg_tabIn C 3 (56) 57 dX7_count_1 (zxi h4 (by decide)) (by decide) (by decide) rfl (by decide) ?_
          refine zg_aload_n C 0 58 rfl dX7_count_57 rfl ?_
          refine fgX7_27 C zn0 61 rfl dX7_count_58 ?_
          refine fgX7_117 C zn10 64 rfl dX7_count_61 ?_
          exact zg_iret C dX7_count_64 trivial
        · refine zg_if (fun h5 => ?_) (fun h5 => ?_)
          · refine zg_tabIn C 4 (64) 65 dX7_count_1 (zxi h5 (by decide)) (by decide) (by decide) rfl (by decide) ?_
            refine zg_aload_n C 0 66 rfl dX7_count_65 rfl ?_
            refine fgX7_62 C zn0 69 rfl dX7_count_66 ?_
            refine fgX7_240 C zn25 72 rfl dX7_count_69 ?_
            exact zg_iret C dX7_count_72 trivial
          · refine zg_tabOut C 73 dX7_count_1 (by have gh1 := zxn h1 (by decide : (0 : Int32).toInt = 0); have gh2 := zxn h2 (by decide : (1 : Int32).toInt = 1); have gh3 := zxn h3 (by decide : (2 : Int32).toInt = 2); have gh4 := zxn h4 (by decide : (3 : Int32).toInt = 3); have gh5 := zxn h5 (by decide : (4 : Int32).toInt = 4); omega) (by decide) ?_
            refine zg_bipush C (-2 : Int32) 75 rfl dX7_count_73 (by decide) ?_
            exact zg_iret C dX7_count_75 trivial
set_option maxHeartbeats 4000000 in
set_option maxRecDepth 100000 in
theorem tE_clear {l : Launch} {E : zE} {A : Nat → Prop} (hD : zD E zNC A) (M : zM) (r0 : Nat) (hr0 : r0 < 7) : zCT l yX1_clear cX1_clear 1 none 2 E zNC A [.ref (zad E 13 r0)] M zvU zoT (qE_clear  M r0) := by
  refine zCT_of (by decide) hD (by first | decide | exact Nat.le_of_ble_eq_true rfl) (fun p e R s m args below meth c C => ?_)
  have C : zCx p R s m args meth c cX1_clear "TwoTrue$Evening" E zNC A 1 none 2 := C
  unfold qE_clear
  refine zg_sub [0] [(0, .ref (zad E 13 r0))] rfl ?_
  refine zg_aload_n C 0 1 rfl dX1_clear_0 rfl ?_
  refine zg_iconst C (0 : Int32) 2 rfl dX1_clear_1 (by decide) ?_
  refine fpX1_22 C (zn13 hr0) 5 rfl dX1_clear_2 (fun M1 => ?_)
  refine zg_aload_n C 0 6 rfl dX1_clear_5 rfl ?_
  refine zg_bipush C (10 : Int32) 8 rfl dX1_clear_6 (by decide) ?_
  refine fpX1_18 C (zn13 hr0) 11 rfl dX1_clear_8 (fun M2 => ?_)
  exact zg_vret C dX1_clear_11 trivial
set_option maxHeartbeats 4000000 in
set_option maxRecDepth 100000 in
theorem tE_append {l : Launch} {E : zE} {A : Nat → Prop} (hD : zD E zNC A) (M : zM) (r0 : Nat) (hr0 : r0 < 7) (a0 : Int32) (a1 : Int32) (a2 : Int32) : zCT l yX1_append cX1_append 4 none 2 E zNC A [.ref (zad E 13 r0), .int a0, .int a1, .int a2] M zvU zoT (qE_append  M r0 a0 a1 a2) := by
  refine zCT_of (by decide) hD (by first | decide | exact Nat.le_of_ble_eq_true rfl) (fun p e R s m args below meth c C => ?_)
  have C : zCx p R s m args meth c cX1_append "TwoTrue$Evening" E zNC A 4 none 2 := C
  unfold qE_append
  refine zg_sub [0, 1, 2, 3] [(0, .ref (zad E 13 r0)), (1, .int a0), (2, .int a1), (3, .int a2)] rfl ?_
  refine zg_aload_n C 0 1 rfl dX1_append_0 rfl ?_
  refine fgX1_22 C (zn13 hr0) 4 rfl dX1_append_1 ?_
  refine zg_bipush C (100 : Int32) 6 rfl dX1_append_4 (by decide) ?_
  refine zg_icmp_ge C 39 9 rfl dX1_append_6 (by decide) ?_ ?_
  · exact zg_vret C dX1_append_39 trivial
  · refine zg_aload_n C 0 10 rfl dX1_append_9 rfl ?_
    refine fgX1_9 C (zn13 hr0) 13 rfl dX1_append_10 ?_
    refine zg_aload_n C 0 14 rfl dX1_append_13 rfl ?_
    refine fgX1_22 C (zn13 hr0) 17 rfl dX1_append_14 ?_
    refine zg_iload_n C 1 18 rfl dX1_append_17 rfl ?_
    refine zg_bipush C (16 : Int32) 20 rfl dX1_append_18 (by decide) ?_
    refine zg_ishl C 21 rfl dX1_append_20 ?_
    refine zg_iload_n C 2 22 rfl dX1_append_21 rfl ?_
    refine zg_bipush C (8 : Int32) 24 rfl dX1_append_22 (by decide) ?_
    refine zg_ishl C 25 rfl dX1_append_24 ?_
    refine zg_ior C 26 rfl dX1_append_25 ?_
    refine zg_iload_n C 3 27 rfl dX1_append_26 rfl ?_
    refine zg_ior C 28 rfl dX1_append_27 ?_
    refine zg_iast C 29 rfl dX1_append_28 (zn14 hr0) (fun _ _ => rfl) (fun M1 => ?_)
    refine zg_aload_n C 0 30 rfl dX1_append_29 rfl ?_
    refine zg_dup C rfl 31 rfl dX1_append_30 ?_
    refine fgX1_22 C (zn13 hr0) 34 rfl dX1_append_31 ?_
    refine zg_iconst C (1 : Int32) 35 rfl dX1_append_34 (by decide) ?_
    refine zg_iadd C 36 rfl dX1_append_35 ?_
    refine fpX1_22 C (zn13 hr0) 39 rfl dX1_append_36 (fun M2 => ?_)
    exact zg_vret C dX1_append_39 trivial
set_option maxHeartbeats 4000000 in
set_option maxRecDepth 100000 in
theorem tE_holds {l : Launch} {E : zE} {A : Nat → Prop} (hD : zD E zNC A) (M : zM) (r0 : Nat) (hr0 : r0 < 7) (a0 : Int32) (a1 : Int32) (a2 : Int32) : zCT l yX1_holds cX1_holds 5 (some .boolean) 2 E zNC A [.ref (zad E 13 r0), .int a0, .int a1, .int a2] M zvI zoB (qE_holds  M r0 a0 a1 a2) := by
  refine zCT_of (by decide) hD (by first | decide | exact Nat.le_of_ble_eq_true rfl) (fun p e R s m args below meth c C => ?_)
  have C : zCx p R s m args meth c cX1_holds "TwoTrue$Evening" E zNC A 5 (some .boolean) 2 := C
  unfold qE_holds
  refine zg_sub [0, 1, 2, 3] [(0, .ref (zad E 13 r0)), (1, .int a0), (2, .int a1), (3, .int a2)] rfl ?_
  refine zg_iload_n C 2 1 rfl dX1_holds_0 rfl ?_
  refine zg_aload_n C 0 2 rfl dX1_holds_1 rfl ?_
  refine fgX1_15 C (zn13 hr0) 5 rfl dX1_holds_2 ?_
  refine zg_alen C 0 (6 : Int32) 6 rfl dX1_holds_5 (zn15 hr0) rfl rfl (show Int32.ofNat 6 = (6 : Int32) by decide) ?_
  refine zg_jn (fun j3 => ∀ (M2 : zM) (x1 : Int32), zG p l e R s m args below meth c E zNC A 5 zvI zoB 19 [(1, .int a0), (3, .int a2)] [.int x1] M2 (j3 M2 x1)) (fun M2 x1 => ?_) (fun j3 hj3 => ?_)
  · refine zg_istore C 4 [(4, .int x1), (1, .int a0), (3, .int a2)] 21 rfl dX1_holds_19 (by decide) rfl ?_
    refine zg_iload_n C 1 22 rfl dX1_holds_21 rfl ?_
    refine zg_if (fun h4 => ?_) (fun h4 => ?_)
    · refine zg_look C (26) 48 dX1_holds_22 (by decide) (by rw [zxi h4 (by decide : (0 : Int32).toInt = 0)]; rfl) (by decide) ?_
      refine zg_iload C 0 50 rfl dX1_holds_48 rfl ?_
      refine zg_iload_n C 2 51 rfl dX1_holds_50 rfl ?_
      refine zg_icmp_ge C 58 54 rfl dX1_holds_51 (by decide) ?_ ?_
      · refine zg_iconst C (0 : Int32) 59 rfl dX1_holds_58 (by decide) ?_
        exact zg_zret C dX1_holds_59 rfl rfl
      · refine zg_iconst C (1 : Int32) 55 rfl dX1_holds_54 (by decide) ?_
        refine zg_goto C 59 dX1_holds_55 (by decide) ?_
        exact zg_zret C dX1_holds_59 rfl rfl
    · refine zg_if (fun h5 => ?_) (fun h5 => ?_)
      · refine zg_look C (38) 60 dX1_holds_22 (by decide) (by rw [zxi h5 (by decide : (1 : Int32).toInt = 1)]; rfl) (by decide) ?_
        refine zg_iload C 0 62 rfl dX1_holds_60 rfl ?_
        refine zg_iload_n C 2 63 rfl dX1_holds_62 rfl ?_
        refine zg_icmp_ne C 70 66 rfl dX1_holds_63 (by decide) ?_ ?_
        · refine zg_iconst C (1 : Int32) 67 rfl dX1_holds_66 (by decide) ?_
          refine zg_goto C 71 dX1_holds_67 (by decide) ?_
          exact zg_zret C dX1_holds_71 rfl rfl
        · refine zg_iconst C (0 : Int32) 71 rfl dX1_holds_70 (by decide) ?_
          exact zg_zret C dX1_holds_71 rfl rfl
      · refine zg_look C (50) 72 dX1_holds_22 (by decide) (by show Op.lookupswitch.offset [(0, 26), (1, 38)] (50) a0.toInt = 50; rw [lv_osw h4 (by decide : (0 : Int32).toInt = 0), lv_osw h5 (by decide : (1 : Int32).toInt = 1)]; rfl) (by decide) ?_
        refine zg_iload C 0 74 rfl dX1_holds_72 rfl ?_
        refine zg_iload_n C 2 75 rfl dX1_holds_74 rfl ?_
        refine zg_icmp_le C 82 78 rfl dX1_holds_75 (by decide) ?_ ?_
        · refine zg_iconst C (0 : Int32) 83 rfl dX1_holds_82 (by decide) ?_
          exact zg_zret C dX1_holds_83 rfl rfl
        · refine zg_iconst C (1 : Int32) 79 rfl dX1_holds_78 (by decide) ?_
          refine zg_goto C 83 dX1_holds_79 (by decide) ?_
          exact zg_zret C dX1_holds_83 rfl rfl
  · refine zg_icmp_ge C 18 9 rfl dX1_holds_6 (by decide) ?_ ?_
    · refine zg_iconst C (0 : Int32) 19 rfl dX1_holds_18 (by decide) ?_
      refine zg_sub [1, 3] [(1, .int a0), (3, .int a2)] rfl ?_
      exact hj3 M (0 : Int32)
    · refine zg_aload_n C 0 10 rfl dX1_holds_9 rfl ?_
      refine fgX1_15 C (zn13 hr0) 13 rfl dX1_holds_10 ?_
      refine zg_iload_n C 2 14 rfl dX1_holds_13 rfl ?_
      refine zg_iald C 15 rfl dX1_holds_14 (zn15 hr0) rfl ?_
      refine zg_goto C 19 dX1_holds_15 (by decide) ?_
      refine zg_sub [1, 3] [(1, .int a0), (3, .int a2)] rfl ?_
      exact hj3 M (M.1 15 r0 a1.toNatClampNeg)
set_option maxHeartbeats 4000000 in
set_option maxRecDepth 100000 in
theorem tP_has {l : Launch} {E : zE} {A : Nat → Prop} (hD : zD E zNC A) (M : zM) (r0 : Nat) (hr0 : r0 < 3) (a0 : Int32) : zCT l yX2_has cX2_has 2 (some .boolean) 2 E zNC A [.ref (zad E 1 r0), .int a0] M zvI zoB (qP_has  M r0 a0) := by
  refine zCT_of (by decide) hD (by first | decide | exact Nat.le_of_ble_eq_true rfl) (fun p e R s m args below meth c C => ?_)
  have C : zCx p R s m args meth c cX2_has "TwoTrue$Party" E zNC A 2 (some .boolean) 2 := C
  unfold qP_has
  refine zg_sub [0, 1] [(0, .ref (zad E 1 r0)), (1, .int a0)] rfl ?_
  refine zg_iload_n C 1 1 rfl dX2_has_0 rfl ?_
  refine zg_if_lt C 16 4 rfl dX2_has_1 (by decide) ?_ ?_
  · refine zg_iconst C (0 : Int32) 17 rfl dX2_has_16 (by decide) ?_
    exact zg_zret C dX2_has_17 rfl rfl
  · refine zg_iload_n C 1 5 rfl dX2_has_4 rfl ?_
    refine zg_aload_n C 0 6 rfl dX2_has_5 rfl ?_
    refine fgX2_31 C (zn1 hr0) 9 rfl dX2_has_6 ?_
    refine zg_icmp_ge C 16 12 rfl dX2_has_9 (by decide) ?_ ?_
    · refine zg_iconst C (0 : Int32) 17 rfl dX2_has_16 (by decide) ?_
      exact zg_zret C dX2_has_17 rfl rfl
    · refine zg_iconst C (1 : Int32) 13 rfl dX2_has_12 (by decide) ?_
      refine zg_goto C 17 dX2_has_13 (by decide) ?_
      exact zg_zret C dX2_has_17 rfl rfl
set_option maxHeartbeats 4000000 in
set_option maxRecDepth 100000 in
theorem tP_leader_L4 {p : Program} {l : Launch} {e : Env} {R : Room} {s : State} {m : MethodId} {args : Array Value} {below : List Frame} {meth : Method} {c : Code} {E : zE} {A : Nat → Prop} (C : zCx p R s m args meth c cX2_leader "TwoTrue$Party" E zNC A 3 (some .int) 2) (hD : zD E zNC A) (k0 : Nat) (hk0 : k0 < 3) : ∀ (n : Nat) (M : zM) (v1 : Int32) (v2 : Int32), zG p l e R s m args below meth c E zNC A 3 zvI zoT 4 [(0, .ref (zad E 1 k0)), (1, .int v1), (2, .int v2)] [] M (qP_leader_L4 k0 n M v1 v2) := by
  intro n
  induction n with
  | zero =>
    intro M v1 v2
    exact zg_none
  | succ n ih =>
    intro M v1 v2
    rw [qP_leader_L4]
    refine zg_iload_n C 2 5 rfl dX2_leader_4 rfl ?_
    refine zg_aload_n C 0 6 rfl dX2_leader_5 rfl ?_
    refine fgX2_31 C (zn1 hk0) 9 rfl dX2_leader_6 ?_
    refine zg_icmp_ge C 41 12 rfl dX2_leader_9 (by decide) ?_ ?_
    · refine zg_iload_n C 1 42 rfl dX2_leader_41 rfl ?_
      exact zg_iret C dX2_leader_42 trivial
    · refine zg_aload_n C 0 13 rfl dX2_leader_12 rfl ?_
      refine fgX2_11 C (zn1 hk0) 16 rfl dX2_leader_13 ?_
      refine zg_iload_n C 2 17 rfl dX2_leader_16 rfl ?_
      refine zg_aald (k2 := 2) (b := (6 * k0)) (t0 := 3) C 18 rfl dX2_leader_17 (zn7 hk0) rfl rfl (fun i1 hbi1 hei1 => ?_)
      have hi1 : i1 < 18 := by omega
      refine fgX2_41 C (zn2 hi1) 21 rfl dX2_leader_18 ?_
      refine zg_aload_n C 0 22 rfl dX2_leader_21 rfl ?_
      refine fgX2_11 C (zn1 hk0) 25 rfl dX2_leader_22 ?_
      refine zg_iload_n C 1 26 rfl dX2_leader_25 rfl ?_
      refine zg_aald (k2 := 2) (b := (6 * k0)) (t0 := 3) C 27 rfl dX2_leader_26 (zn7 hk0) rfl rfl (fun i2 hbi2 hei2 => ?_)
      have hi2 : i2 < 18 := by omega
      refine fgX2_41 C (zn2 hi2) 30 rfl dX2_leader_27 ?_
      refine zg_jn (fun j5 => ∀ (M4 : zM) (x3 : Int32), zG p l e R s m args below meth c E zNC A 3 zvI zoT 35 [(0, .ref (zad E 1 k0)), (1, .int x3), (2, .int v2)] [] M4 (j5 M4 x3)) (fun M4 x3 => ?_) (fun j5 hj5 => ?_)
      · refine zg_iinc C 2 (v2 + (1 : Int32)) [(2, .int (v2 + (1 : Int32))), (0, .ref (zad E 1 k0)), (1, .int x3)] 38 rfl dX2_leader_35 rfl (congrArg (fun z : Int32 => v2 + z) (by decide : Int32.ofInt (1) = (1 : Int32))) (by decide) rfl ?_
        refine zg_goto C 4 dX2_leader_38 (by decide) ?_
        refine zg_sub [1, 2, 0] [(0, .ref (zad E 1 k0)), (1, .int x3), (2, .int (v2 + (1 : Int32)))] rfl ?_
        exact ih M4 x3 (v2 + (1 : Int32))
      · refine zg_icmp_le C 35 33 rfl dX2_leader_30 (by decide) ?_ ?_
        · exact hj5 M v1
        · refine zg_iload_n C 2 34 rfl dX2_leader_33 rfl ?_
          refine zg_istore_n C 1 [(1, .int v2), (0, .ref (zad E 1 k0)), (2, .int v2)] 35 rfl dX2_leader_34 rfl (by decide) rfl ?_
          refine zg_sub [1, 0, 2] [(0, .ref (zad E 1 k0)), (1, .int v2), (2, .int v2)] rfl ?_
          exact hj5 M v2
set_option maxHeartbeats 4000000 in
set_option maxRecDepth 100000 in
theorem tP_leader {l : Launch} {E : zE} {A : Nat → Prop} (hD : zD E zNC A) (M : zM) (r0 : Nat) (hr0 : r0 < 3) : zCT l yX2_leader cX2_leader 3 (some .int) 2 E zNC A [.ref (zad E 1 r0)] M zvI zoT (qP_leader  M r0) := by
  refine zCT_of (by decide) hD (by first | decide | exact Nat.le_of_ble_eq_true rfl) (fun p e R s m args below meth c C => ?_)
  have C : zCx p R s m args meth c cX2_leader "TwoTrue$Party" E zNC A 3 (some .int) 2 := C
  unfold qP_leader
  refine zg_sub [0] [(0, .ref (zad E 1 r0))] rfl ?_
  refine zg_iconst C (0 : Int32) 1 rfl dX2_leader_0 (by decide) ?_
  refine zg_istore_n C 1 [(1, .int (0 : Int32)), (0, .ref (zad E 1 r0))] 2 rfl dX2_leader_1 rfl (by decide) rfl ?_
  refine zg_iconst C (1 : Int32) 3 rfl dX2_leader_2 (by decide) ?_
  refine zg_istore_n C 2 [(2, .int (1 : Int32)), (1, .int (0 : Int32)), (0, .ref (zad E 1 r0))] 4 rfl dX2_leader_3 rfl (by decide) rfl ?_
  refine zg_sub [2, 1, 0] [(0, .ref (zad E 1 r0)), (1, .int (0 : Int32)), (2, .int (1 : Int32))] rfl ?_
  refine tP_leader_L4 C hD r0 hr0  1000 M (0 : Int32) (1 : Int32)
set_option maxHeartbeats 4000000 in
set_option maxRecDepth 100000 in
theorem tP_write {l : Launch} {E : zE} {A : Nat → Prop} (hD : zD E zNC A) (M : zM) (r0 : Nat) (hr0 : r0 < 3) (a0 : Int32) (a1 : Int32) (a2 : Int32) : zCT l yX2_write cX2_write 4 (some .int) 2 E zNC A [.ref (zad E 1 r0), .int a0, .int a1, .int a2] M zvI zoT (qP_write  M r0 a0 a1 a2) := by
  refine zCT_of (by decide) hD (by first | decide | exact Nat.le_of_ble_eq_true rfl) (fun p e R s m args below meth c C => ?_)
  have C : zCx p R s m args meth c cX2_write "TwoTrue$Party" E zNC A 4 (some .int) 2 := C
  unfold qP_write
  refine zg_sub [0, 1, 2, 3] [(0, .ref (zad E 1 r0)), (1, .int a0), (2, .int a1), (3, .int a2)] rfl ?_
  refine zg_aload_n C 0 1 rfl dX2_write_0 rfl ?_
  refine fgX2_25 C (zn1 hr0) 4 rfl dX2_write_1 ?_
  refine zg_aload_n C 0 5 rfl dX2_write_4 rfl ?_
  refine fgX2_38 C (zn1 hr0) 8 rfl dX2_write_5 ?_
  refine zg_iconst C (3 : Int32) 9 rfl dX2_write_8 (by decide) ?_
  refine zg_imul C 10 rfl dX2_write_9 ?_
  refine zg_iload_n C 1 11 rfl dX2_write_10 rfl ?_
  refine zg_iast C 12 rfl dX2_write_11 (zn9 hr0) (fun _ _ => rfl) (fun M1 => ?_)
  refine zg_aload_n C 0 13 rfl dX2_write_12 rfl ?_
  refine fgX2_25 C (zn1 hr0) 16 rfl dX2_write_13 ?_
  refine zg_aload_n C 0 17 rfl dX2_write_16 rfl ?_
  refine fgX2_38 C (zn1 hr0) 20 rfl dX2_write_17 ?_
  refine zg_iconst C (3 : Int32) 21 rfl dX2_write_20 (by decide) ?_
  refine zg_imul C 22 rfl dX2_write_21 ?_
  refine zg_iconst C (1 : Int32) 23 rfl dX2_write_22 (by decide) ?_
  refine zg_iadd C 24 rfl dX2_write_23 ?_
  refine zg_iload_n C 2 25 rfl dX2_write_24 rfl ?_
  refine zg_iast C 26 rfl dX2_write_25 (zn9 hr0) (fun _ _ => rfl) (fun M2 => ?_)
  refine zg_aload_n C 0 27 rfl dX2_write_26 rfl ?_
  refine fgX2_25 C (zn1 hr0) 30 rfl dX2_write_27 ?_
  refine zg_aload_n C 0 31 rfl dX2_write_30 rfl ?_
  refine fgX2_38 C (zn1 hr0) 34 rfl dX2_write_31 ?_
  refine zg_iconst C (3 : Int32) 35 rfl dX2_write_34 (by decide) ?_
  refine zg_imul C 36 rfl dX2_write_35 ?_
  refine zg_iconst C (2 : Int32) 37 rfl dX2_write_36 (by decide) ?_
  refine zg_iadd C 38 rfl dX2_write_37 ?_
  refine zg_iload_n C 3 39 rfl dX2_write_38 rfl ?_
  refine zg_iast C 40 rfl dX2_write_39 (zn9 hr0) (fun _ _ => rfl) (fun M3 => ?_)
  refine zg_aload_n C 0 41 rfl dX2_write_40 rfl ?_
  refine zg_dup C rfl 42 rfl dX2_write_41 ?_
  refine fgX2_38 C (zn1 hr0) 45 rfl dX2_write_42 ?_
  refine zg_iconst C (1 : Int32) 46 rfl dX2_write_45 (by decide) ?_
  refine zg_iadd C 47 rfl dX2_write_46 ?_
  refine fpX2_38 C (zn1 hr0) 50 rfl dX2_write_47 (fun M4 => ?_)
  refine zg_aload_n C 0 51 rfl dX2_write_50 rfl ?_
  refine fgX2_38 C (zn1 hr0) 54 rfl dX2_write_51 ?_
  exact zg_iret C dX2_write_54 trivial
set_option maxHeartbeats 4000000 in
set_option maxRecDepth 100000 in
theorem tN_begin_L22 {p : Program} {l : Launch} {e : Env} {R : Room} {s : State} {m : MethodId} {args : Array Value} {below : List Frame} {meth : Method} {c : Code} {E : zE} {A : Nat → Prop} (C : zCx p R s m args meth c cX3_begin "TwoTrue$Person" E zNC A 4 none 2) (hD : zD E zNC A) (k0 : Nat) (hk0 : k0 < 18) {e55 : zM → Option (Unit × zM)} (he55 : ∀ (M : zM), zG p l e R s m args below meth c E zNC A 4 zvU zoT 55 [(0, .ref (zad E 2 k0))] [] M (e55 M )) : ∀ (n : Nat) (M : zM) (v3 : Int32), zG p l e R s m args below meth c E zNC A 4 zvU zoT 22 [(0, .ref (zad E 2 k0)), (3, .int v3)] [] M (qN_begin_L22 k0 e55 n M v3) := by
  intro n
  induction n with
  | zero =>
    intro M v3
    exact zg_none
  | succ n ih =>
    intro M v3
    rw [qN_begin_L22]
    refine zg_iload_n C 1 23 rfl dX3_begin_22 rfl ?_
    refine zg_iconst C (3 : Int32) 24 rfl dX3_begin_23 (by decide) ?_
    refine zg_icmp_ge C 55 27 rfl dX3_begin_24 (by decide) ?_ ?_
    · refine zg_sub [0] [(0, .ref (zad E 2 k0))] rfl ?_
      exact he55 M 
    · refine zg_aload_n C 0 28 rfl dX3_begin_27 rfl ?_
      refine fgX3_9 C (zn2 hk0) 31 rfl dX3_begin_28 ?_
      refine zg_iload_n C 1 32 rfl dX3_begin_31 rfl ?_
      refine zg_bipush C (50 : Int32) 34 rfl dX3_begin_32 (by decide) ?_
      refine zg_iast C 35 rfl dX3_begin_34 (zn3 hk0) (fun _ _ => rfl) (fun M5 => ?_)
      refine zg_aload_n C 0 36 rfl dX3_begin_35 rfl ?_
      refine fgX3_15 C (zn2 hk0) 39 rfl dX3_begin_36 ?_
      refine zg_iload_n C 1 40 rfl dX3_begin_39 rfl ?_
      refine zg_iconst C (5 : Int32) 41 rfl dX3_begin_40 (by decide) ?_
      refine zg_iast C 42 rfl dX3_begin_41 (zn4 hk0) (fun _ _ => rfl) (fun M6 => ?_)
      refine zg_aload_n C 0 43 rfl dX3_begin_42 rfl ?_
      refine fgX3_18 C (zn2 hk0) 46 rfl dX3_begin_43 ?_
      refine zg_iload_n C 1 47 rfl dX3_begin_46 rfl ?_
      refine zg_iload_n C 1 48 rfl dX3_begin_47 rfl ?_
      refine zg_iast C 49 rfl dX3_begin_48 (zn5 hk0) (fun _ _ => rfl) (fun M7 => ?_)
      refine zg_iinc C 1 (v3 + (1 : Int32)) [(3, .int (v3 + (1 : Int32))), (0, .ref (zad E 2 k0))] 52 rfl dX3_begin_49 rfl (congrArg (fun z : Int32 => v3 + z) (by decide : Int32.ofInt (1) = (1 : Int32))) (by decide) rfl ?_
      refine zg_goto C 22 dX3_begin_52 (by decide) ?_
      refine zg_sub [1, 0] [(0, .ref (zad E 2 k0)), (3, .int (v3 + (1 : Int32)))] rfl ?_
      exact ih M7 (v3 + (1 : Int32))
set_option maxHeartbeats 4000000 in
set_option maxRecDepth 100000 in
theorem tN_begin_L57 {p : Program} {l : Launch} {e : Env} {R : Room} {s : State} {m : MethodId} {args : Array Value} {below : List Frame} {meth : Method} {c : Code} {E : zE} {A : Nat → Prop} (C : zCx p R s m args meth c cX3_begin "TwoTrue$Person" E zNC A 4 none 2) (hD : zD E zNC A) (k0 : Nat) (hk0 : k0 < 18) : ∀ (n : Nat) (M : zM) (v3 : Int32), zG p l e R s m args below meth c E zNC A 4 zvU zoT 57 [(0, .ref (zad E 2 k0)), (3, .int v3)] [] M (qN_begin_L57 k0 n M v3) := by
  intro n
  induction n with
  | zero =>
    intro M v3
    exact zg_none
  | succ n ih =>
    intro M v3
    rw [qN_begin_L57]
    refine zg_iload_n C 1 58 rfl dX3_begin_57 rfl ?_
    refine zg_iconst C (4 : Int32) 59 rfl dX3_begin_58 (by decide) ?_
    refine zg_icmp_ge C 75 62 rfl dX3_begin_59 (by decide) ?_ ?_
    · exact zg_vret C dX3_begin_75 trivial
    · refine zg_aload_n C 0 63 rfl dX3_begin_62 rfl ?_
      refine fgX3_21 C (zn2 hk0) 66 rfl dX3_begin_63 ?_
      refine zg_iload_n C 1 67 rfl dX3_begin_66 rfl ?_
      refine zg_iconst C (0 : Int32) 68 rfl dX3_begin_67 (by decide) ?_
      refine zg_iast C 69 rfl dX3_begin_68 (zn6 hk0) (fun _ _ => rfl) (fun M9 => ?_)
      refine zg_iinc C 1 (v3 + (1 : Int32)) [(3, .int (v3 + (1 : Int32))), (0, .ref (zad E 2 k0))] 72 rfl dX3_begin_69 rfl (congrArg (fun z : Int32 => v3 + z) (by decide : Int32.ofInt (1) = (1 : Int32))) (by decide) rfl ?_
      refine zg_goto C 57 dX3_begin_72 (by decide) ?_
      refine zg_sub [1, 0] [(0, .ref (zad E 2 k0)), (3, .int (v3 + (1 : Int32)))] rfl ?_
      exact ih M9 (v3 + (1 : Int32))
set_option maxHeartbeats 4000000 in
set_option maxRecDepth 100000 in
theorem tN_begin {l : Launch} {E : zE} {A : Nat → Prop} (hD : zD E zNC A) (M : zM) (r0 : Nat) (hr0 : r0 < 18) (a0 : Int32) (a1 : Int32) : zCT l yX3_begin cX3_begin 4 none 2 E zNC A [.ref (zad E 2 r0), .int a0, .int a1] M zvU zoT (qN_begin  M r0 a0 a1) := by
  refine zCT_of (by decide) hD (by first | decide | exact Nat.le_of_ble_eq_true rfl) (fun p e R s m args below meth c C => ?_)
  have C : zCx p R s m args meth c cX3_begin "TwoTrue$Person" E zNC A 4 none 2 := C
  unfold qN_begin
  refine zg_sub [0, 1, 2] [(0, .ref (zad E 2 r0)), (1, .int a0), (2, .int a1)] rfl ?_
  refine zg_aload_n C 0 1 rfl dX3_begin_0 rfl ?_
  refine zg_iload_n C 1 2 rfl dX3_begin_1 rfl ?_
  refine fpX3_28 C (zn2 hr0) 5 rfl dX3_begin_2 (fun M1 => ?_)
  refine zg_aload_n C 0 6 rfl dX3_begin_5 rfl ?_
  refine zg_iload_n C 2 7 rfl dX3_begin_6 rfl ?_
  refine fpX3_31 C (zn2 hr0) 10 rfl dX3_begin_7 (fun M2 => ?_)
  refine zg_aload_n C 0 11 rfl dX3_begin_10 rfl ?_
  refine zg_iconst C (0 : Int32) 12 rfl dX3_begin_11 (by decide) ?_
  refine fpX3_34 C (zn2 hr0) 15 rfl dX3_begin_12 (fun M3 => ?_)
  refine zg_aload_n C 0 16 rfl dX3_begin_15 rfl ?_
  refine zg_iconst C (0 : Int32) 17 rfl dX3_begin_16 (by decide) ?_
  refine fpX3_37 C (zn2 hr0) 20 rfl dX3_begin_17 (fun M4 => ?_)
  refine zg_iconst C (0 : Int32) 21 rfl dX3_begin_20 (by decide) ?_
  refine zg_istore_n C 3 [(3, .int (0 : Int32)), (0, .ref (zad E 2 r0)), (1, .int a0), (2, .int a1)] 22 rfl dX3_begin_21 rfl (by decide) rfl ?_
  refine zg_sub [1, 0] [(0, .ref (zad E 2 r0)), (3, .int (0 : Int32))] rfl ?_
  refine tN_begin_L22 C hD r0 hr0 (fun M8 => ?_) 1000 M4 (0 : Int32)
  · refine zg_iconst C (0 : Int32) 56 rfl dX3_begin_55 (by decide) ?_
    refine zg_istore_n C 3 [(3, .int (0 : Int32)), (0, .ref (zad E 2 r0))] 57 rfl dX3_begin_56 rfl (by decide) rfl ?_
    refine zg_sub [1, 0] [(0, .ref (zad E 2 r0)), (3, .int (0 : Int32))] rfl ?_
    refine tN_begin_L57 C hD r0 hr0  1000 M8 (0 : Int32)
set_option maxHeartbeats 4000000 in
set_option maxRecDepth 100000 in
theorem tN_setOrder {l : Launch} {E : zE} {A : Nat → Prop} (hD : zD E zNC A) (M : zM) (r0 : Nat) (hr0 : r0 < 18) (a0 : Int32) (a1 : Int32) : zCT l yX3_setOrder cX3_setOrder 3 none 2 E zNC A [.ref (zad E 2 r0), .int a0, .int a1] M zvU zoT (qN_setOrder  M r0 a0 a1) := by
  refine zCT_of (by decide) hD (by first | decide | exact Nat.le_of_ble_eq_true rfl) (fun p e R s m args below meth c C => ?_)
  have C : zCx p R s m args meth c cX3_setOrder "TwoTrue$Person" E zNC A 3 none 2 := C
  unfold qN_setOrder
  refine zg_sub [0, 1, 2] [(0, .ref (zad E 2 r0)), (1, .int a0), (2, .int a1)] rfl ?_
  refine zg_aload_n C 0 1 rfl dX3_setOrder_0 rfl ?_
  refine fgX3_18 C (zn2 hr0) 4 rfl dX3_setOrder_1 ?_
  refine zg_iconst C (0 : Int32) 5 rfl dX3_setOrder_4 (by decide) ?_
  refine zg_iload_n C 1 6 rfl dX3_setOrder_5 rfl ?_
  refine zg_iast C 7 rfl dX3_setOrder_6 (zn5 hr0) (fun _ _ => rfl) (fun M1 => ?_)
  refine zg_aload_n C 0 8 rfl dX3_setOrder_7 rfl ?_
  refine fgX3_18 C (zn2 hr0) 11 rfl dX3_setOrder_8 ?_
  refine zg_iconst C (1 : Int32) 12 rfl dX3_setOrder_11 (by decide) ?_
  refine zg_iload_n C 2 13 rfl dX3_setOrder_12 rfl ?_
  refine zg_iast C 14 rfl dX3_setOrder_13 (zn5 hr0) (fun _ _ => rfl) (fun M2 => ?_)
  refine zg_aload_n C 0 15 rfl dX3_setOrder_14 rfl ?_
  refine fgX3_18 C (zn2 hr0) 18 rfl dX3_setOrder_15 ?_
  refine zg_iconst C (2 : Int32) 19 rfl dX3_setOrder_18 (by decide) ?_
  refine zg_iconst C (3 : Int32) 20 rfl dX3_setOrder_19 (by decide) ?_
  refine zg_iload_n C 1 21 rfl dX3_setOrder_20 rfl ?_
  refine zg_isub C 22 rfl dX3_setOrder_21 ?_
  refine zg_iload_n C 2 23 rfl dX3_setOrder_22 rfl ?_
  refine zg_isub C 24 rfl dX3_setOrder_23 ?_
  refine zg_iast C 25 rfl dX3_setOrder_24 (zn5 hr0) (fun _ _ => rfl) (fun M3 => ?_)
  exact zg_vret C dX3_setOrder_25 trivial
set_option maxHeartbeats 4000000 in
set_option maxRecDepth 100000 in
theorem tN_placeOfLie {l : Launch} {E : zE} {A : Nat → Prop} (hD : zD E zNC A) (M : zM) (r0 : Nat) (hr0 : r0 < 18) : zCT l yX3_placeOfLie cX3_placeOfLie 1 (some .int) 2 E zNC A [.ref (zad E 2 r0)] M zvI zoT (qN_placeOfLie  M r0) := by
  refine zCT_of (by decide) hD (by first | decide | exact Nat.le_of_ble_eq_true rfl) (fun p e R s m args below meth c C => ?_)
  have C : zCx p R s m args meth c cX3_placeOfLie "TwoTrue$Person" E zNC A 1 (some .int) 2 := C
  unfold qN_placeOfLie
  refine zg_sub [0] [(0, .ref (zad E 2 r0))] rfl ?_
  refine zg_aload_n C 0 1 rfl dX3_placeOfLie_0 rfl ?_
  refine fgX3_18 C (zn2 hr0) 4 rfl dX3_placeOfLie_1 ?_
  refine zg_iconst C (0 : Int32) 5 rfl dX3_placeOfLie_4 (by decide) ?_
  refine zg_iald C 6 rfl dX3_placeOfLie_5 (zn5 hr0) rfl ?_
  refine zg_aload_n C 0 7 rfl dX3_placeOfLie_6 rfl ?_
  refine fgX3_37 C (zn2 hr0) 10 rfl dX3_placeOfLie_7 ?_
  refine zg_icmp_ne C 17 13 rfl dX3_placeOfLie_10 (by decide) ?_ ?_
  · refine zg_iconst C (0 : Int32) 14 rfl dX3_placeOfLie_13 (by decide) ?_
    refine zg_goto C 35 dX3_placeOfLie_14 (by decide) ?_
    exact zg_iret C dX3_placeOfLie_35 trivial
  · refine zg_aload_n C 0 18 rfl dX3_placeOfLie_17 rfl ?_
    refine fgX3_18 C (zn2 hr0) 21 rfl dX3_placeOfLie_18 ?_
    refine zg_iconst C (1 : Int32) 22 rfl dX3_placeOfLie_21 (by decide) ?_
    refine zg_iald C 23 rfl dX3_placeOfLie_22 (zn5 hr0) rfl ?_
    refine zg_aload_n C 0 24 rfl dX3_placeOfLie_23 rfl ?_
    refine fgX3_37 C (zn2 hr0) 27 rfl dX3_placeOfLie_24 ?_
    refine zg_icmp_ne C 34 30 rfl dX3_placeOfLie_27 (by decide) ?_ ?_
    · refine zg_iconst C (1 : Int32) 31 rfl dX3_placeOfLie_30 (by decide) ?_
      refine zg_goto C 35 dX3_placeOfLie_31 (by decide) ?_
      exact zg_iret C dX3_placeOfLie_35 trivial
    · refine zg_iconst C (2 : Int32) 35 rfl dX3_placeOfLie_34 (by decide) ?_
      exact zg_iret C dX3_placeOfLie_35 trivial
set_option maxHeartbeats 4000000 in
set_option maxRecDepth 100000 in
theorem tN_become {l : Launch} {E : zE} {A : Nat → Prop} (hD : zD E zNC A) (M : zM) (r0 : Nat) (hr0 : r0 < 18) (r1 : Nat) (hr1 : r1 < 18) : zCT l yX3_become cX3_become 2 none 2 E zNC A [.ref (zad E 2 r0), .ref (zad E 2 r1)] M zvU zoT (qN_become  M r0 r1) := by
  refine zCT_of (by decide) hD (by first | decide | exact Nat.le_of_ble_eq_true rfl) (fun p e R s m args below meth c C => ?_)
  have C : zCx p R s m args meth c cX3_become "TwoTrue$Person" E zNC A 2 none 2 := C
  unfold qN_become
  refine zg_sub [0, 1] [(0, .ref (zad E 2 r0)), (1, .ref (zad E 2 r1))] rfl ?_
  refine zg_aload_n C 0 1 rfl dX3_become_0 rfl ?_
  refine zg_aload_n C 1 2 rfl dX3_become_1 rfl ?_
  refine fgX3_28 C (zn2 hr1) 5 rfl dX3_become_2 ?_
  refine fpX3_28 C (zn2 hr0) 8 rfl dX3_become_5 (fun M1 => ?_)
  refine zg_aload_n C 0 9 rfl dX3_become_8 rfl ?_
  refine zg_aload_n C 1 10 rfl dX3_become_9 rfl ?_
  refine fgX3_31 C (zn2 hr1) 13 rfl dX3_become_10 ?_
  refine fpX3_31 C (zn2 hr0) 16 rfl dX3_become_13 (fun M2 => ?_)
  refine zg_aload_n C 0 17 rfl dX3_become_16 rfl ?_
  refine zg_aload_n C 1 18 rfl dX3_become_17 rfl ?_
  refine fgX3_34 C (zn2 hr1) 21 rfl dX3_become_18 ?_
  refine fpX3_34 C (zn2 hr0) 24 rfl dX3_become_21 (fun M3 => ?_)
  refine zg_aload_n C 0 25 rfl dX3_become_24 rfl ?_
  refine zg_aload_n C 1 26 rfl dX3_become_25 rfl ?_
  refine fgX3_37 C (zn2 hr1) 29 rfl dX3_become_26 ?_
  refine fpX3_37 C (zn2 hr0) 32 rfl dX3_become_29 (fun M4 => ?_)
  refine zg_aload_n C 1 33 rfl dX3_become_32 rfl ?_
  refine fgX3_9 C (zn2 hr1) 36 rfl dX3_become_33 ?_
  refine zg_iconst C (0 : Int32) 37 rfl dX3_become_36 (by decide) ?_
  refine zg_aload_n C 0 38 rfl dX3_become_37 rfl ?_
  refine fgX3_9 C (zn2 hr0) 41 rfl dX3_become_38 ?_
  refine zg_iconst C (0 : Int32) 42 rfl dX3_become_41 (by decide) ?_
  refine zg_iconst C (3 : Int32) 43 rfl dX3_become_42 (by decide) ?_
  refine zg_copyi C 46 rfl dX3_become_43 (zn3 hr1) (zn3 hr0) (fun _ _ => rfl) (fun _ _ => rfl) zw581 zw576 zw575 zw16 (by decide) (Nat.le_of_ble_eq_true rfl) (fun M5 => ?_)
  refine zg_aload_n C 1 47 rfl dX3_become_46 rfl ?_
  refine fgX3_15 C (zn2 hr1) 50 rfl dX3_become_47 ?_
  refine zg_iconst C (0 : Int32) 51 rfl dX3_become_50 (by decide) ?_
  refine zg_aload_n C 0 52 rfl dX3_become_51 rfl ?_
  refine fgX3_15 C (zn2 hr0) 55 rfl dX3_become_52 ?_
  refine zg_iconst C (0 : Int32) 56 rfl dX3_become_55 (by decide) ?_
  refine zg_iconst C (3 : Int32) 57 rfl dX3_become_56 (by decide) ?_
  refine zg_copyi C 60 rfl dX3_become_57 (zn4 hr1) (zn4 hr0) (fun _ _ => rfl) (fun _ _ => rfl) zw581 zw576 zw575 zw16 (by decide) (Nat.le_of_ble_eq_true rfl) (fun M6 => ?_)
  refine zg_aload_n C 1 61 rfl dX3_become_60 rfl ?_
  refine fgX3_18 C (zn2 hr1) 64 rfl dX3_become_61 ?_
  refine zg_iconst C (0 : Int32) 65 rfl dX3_become_64 (by decide) ?_
  refine zg_aload_n C 0 66 rfl dX3_become_65 rfl ?_
  refine fgX3_18 C (zn2 hr0) 69 rfl dX3_become_66 ?_
  refine zg_iconst C (0 : Int32) 70 rfl dX3_become_69 (by decide) ?_
  refine zg_iconst C (3 : Int32) 71 rfl dX3_become_70 (by decide) ?_
  refine zg_copyi C 74 rfl dX3_become_71 (zn5 hr1) (zn5 hr0) (fun _ _ => rfl) (fun _ _ => rfl) zw581 zw576 zw575 zw16 (by decide) (Nat.le_of_ble_eq_true rfl) (fun M7 => ?_)
  refine zg_aload_n C 1 75 rfl dX3_become_74 rfl ?_
  refine fgX3_21 C (zn2 hr1) 78 rfl dX3_become_75 ?_
  refine zg_iconst C (0 : Int32) 79 rfl dX3_become_78 (by decide) ?_
  refine zg_aload_n C 0 80 rfl dX3_become_79 rfl ?_
  refine fgX3_21 C (zn2 hr0) 83 rfl dX3_become_80 ?_
  refine zg_iconst C (0 : Int32) 84 rfl dX3_become_83 (by decide) ?_
  refine zg_iconst C (4 : Int32) 85 rfl dX3_become_84 (by decide) ?_
  refine zg_copyi C 88 rfl dX3_become_85 (zn6 hr1) (zn6 hr0) (fun _ _ => rfl) (fun _ _ => rfl) zw581 zw576 zw575 zw16 (by decide) (Nat.le_of_ble_eq_true rfl) (fun M8 => ?_)
  exact zg_vret C dX3_become_88 trivial
set_option maxHeartbeats 4000000 in
set_option maxRecDepth 100000 in
theorem tY_knows {l : Launch} {E : zE} {A : Nat → Prop} (hD : zD E zNC A) (M : zM) (r1 : Nat) (hr1 : r1 < 18) (r2 : Nat) (hr2 : r2 < 18) (a2 : Int32) : zCT l yX4_knows cX4_knows 3 (some .boolean) 2 E zNC A [.ref (zad E 2 r1), .ref (zad E 2 r2), .int a2] M zvI zoB (qY_knows  M r1 r2 a2) := by
  refine zCT_of (by decide) hD (by first | decide | exact Nat.le_of_ble_eq_true rfl) (fun p e R s m args below meth c C => ?_)
  have C : zCx p R s m args meth c cX4_knows "TwoTrue$Play" E zNC A 3 (some .boolean) 2 := C
  unfold qY_knows
  refine zg_sub [0, 1, 2] [(0, .ref (zad E 2 r1)), (1, .ref (zad E 2 r2)), (2, .int a2)] rfl ?_
  refine zg_iload_n C 2 1 rfl dX4_knows_0 rfl ?_
  refine zg_if_le C 21 4 rfl dX4_knows_1 (by decide) ?_ ?_
  · refine zg_iconst C (0 : Int32) 22 rfl dX4_knows_21 (by decide) ?_
    exact zg_zret C dX4_knows_22 rfl rfl
  · refine zg_aload_n C 0 5 rfl dX4_knows_4 rfl ?_
    refine fgX4_79 C (zn2 hr1) 8 rfl dX4_knows_5 ?_
    refine zg_iload_n C 2 9 rfl dX4_knows_8 rfl ?_
    refine zg_irem C 10 rfl dX4_knows_9 ?_
    refine zg_aload_n C 1 11 rfl dX4_knows_10 rfl ?_
    refine fgX4_88 C (zn2 hr2) 14 rfl dX4_knows_11 ?_
    refine zg_icmp_ne C 21 17 rfl dX4_knows_14 (by decide) ?_ ?_
    · refine zg_iconst C (1 : Int32) 18 rfl dX4_knows_17 (by decide) ?_
      refine zg_goto C 22 dX4_knows_18 (by decide) ?_
      exact zg_zret C dX4_knows_22 rfl rfl
    · refine zg_iconst C (0 : Int32) 22 rfl dX4_knows_21 (by decide) ?_
      exact zg_zret C dX4_knows_22 rfl rfl
set_option maxHeartbeats 4000000 in
set_option maxRecDepth 100000 in
theorem tY_lowerHands_L7 {p : Program} {l : Launch} {e : Env} {R : Room} {s : State} {m : MethodId} {args : Array Value} {below : List Frame} {meth : Method} {c : Code} {E : zE} {A : Nat → Prop} (C : zCx p R s m args meth c cX4_lowerHands "TwoTrue$Play" E zNC A 2 none 2) (hD : zD E zNC A) : ∀ (n : Nat) (M : zM) (v1 : Int32), zG p l e R s m args below meth c E zNC A 2 zvU zoT 7 [(0, .ref (zad E 16 0)), (1, .int v1)] [] M (qY_lowerHands_L7 n M v1) := by
  intro n
  induction n with
  | zero =>
    intro M v1
    exact zg_none
  | succ n ih =>
    intro M v1
    rw [qY_lowerHands_L7]
    refine zg_iload_n C 1 8 rfl dX4_lowerHands_7 rfl ?_
    refine zg_iconst C (3 : Int32) 9 rfl dX4_lowerHands_8 (by decide) ?_
    refine zg_icmp_ge C 25 12 rfl dX4_lowerHands_9 (by decide) ?_ ?_
    · exact zg_vret C dX4_lowerHands_25 trivial
    · refine zg_aload_n C 0 13 rfl dX4_lowerHands_12 rfl ?_
      refine fgX4_22 C zn16 16 rfl dX4_lowerHands_13 ?_
      refine zg_iload_n C 1 17 rfl dX4_lowerHands_16 rfl ?_
      refine zg_iconst C (0 : Int32) 18 rfl dX4_lowerHands_17 (by decide) ?_
      refine zg_iast C 19 rfl dX4_lowerHands_18 zn20 (fun _ _ => rfl) (fun M2 => ?_)
      refine zg_iinc C 1 (v1 + (1 : Int32)) [(1, .int (v1 + (1 : Int32))), (0, .ref (zad E 16 0))] 22 rfl dX4_lowerHands_19 rfl (congrArg (fun z : Int32 => v1 + z) (by decide : Int32.ofInt (1) = (1 : Int32))) (by decide) rfl ?_
      refine zg_goto C 7 dX4_lowerHands_22 (by decide) ?_
      refine zg_sub [1, 0] [(0, .ref (zad E 16 0)), (1, .int (v1 + (1 : Int32)))] rfl ?_
      exact ih M2 (v1 + (1 : Int32))
set_option maxHeartbeats 4000000 in
set_option maxRecDepth 100000 in
theorem tY_lowerHands {l : Launch} {E : zE} {A : Nat → Prop} (hD : zD E zNC A) (M : zM) : zCT l yX4_lowerHands cX4_lowerHands 2 none 2 E zNC A [.ref (zad E 16 0)] M zvU zoT (qY_lowerHands  M ) := by
  refine zCT_of (by decide) hD (by first | decide | exact Nat.le_of_ble_eq_true rfl) (fun p e R s m args below meth c C => ?_)
  have C : zCx p R s m args meth c cX4_lowerHands "TwoTrue$Play" E zNC A 2 none 2 := C
  unfold qY_lowerHands
  refine zg_sub [0] [(0, .ref (zad E 16 0))] rfl ?_
  refine zg_aload_n C 0 1 rfl dX4_lowerHands_0 rfl ?_
  refine zg_iconst C (0 : Int32) 2 rfl dX4_lowerHands_1 (by decide) ?_
  refine fpX4_91 C zn16 5 rfl dX4_lowerHands_2 (fun M1 => ?_)
  refine zg_iconst C (0 : Int32) 6 rfl dX4_lowerHands_5 (by decide) ?_
  refine zg_istore_n C 1 [(1, .int (0 : Int32)), (0, .ref (zad E 16 0))] 7 rfl dX4_lowerHands_6 rfl (by decide) rfl ?_
  refine zg_sub [1, 0] [(0, .ref (zad E 16 0)), (1, .int (0 : Int32))] rfl ?_
  refine tY_lowerHands_L7 C hD   1000 M1 (0 : Int32)
set_option maxHeartbeats 4000000 in
set_option maxRecDepth 100000 in
theorem tY_letGuess_L46 {p : Program} {l : Launch} {e : Env} {R : Room} {s : State} {m : MethodId} {args : Array Value} {below : List Frame} {meth : Method} {c : Code} {E : zE} {A : Nat → Prop} (C : zCx p R s m args meth c cX4_letGuess "TwoTrue$Play" E zNC A 7 (some .int) 2) (hD : zD E zNC A) (c1 : Int32) (c2 : Int32) {e113 : zM → Int32 → Option (Int32 × zM)} (he113 : ∀ (M : zM) (u3 : Int32), zG p l e R s m args below meth c E zNC A 7 zvI zoT 113 [(0, .ref (zad E 16 0)), (1, .int c1), (3, .int u3)] [] M (e113 M u3)) : ∀ (n : Nat) (M : zM) (v3 : Int32) (v4 : Int32) (v5 : Int32), zG p l e R s m args below meth c E zNC A 7 zvI zoT 46 [(0, .ref (zad E 16 0)), (1, .int c1), (2, .int c2), (3, .int v3), (4, .int v4), (5, .int v5)] [] M (qY_letGuess_L46 c1 c2 e113 n M v3 v4 v5) := by
  intro n
  induction n with
  | zero =>
    intro M v3 v4 v5
    exact zg_none
  | succ n ih =>
    intro M v3 v4 v5
    rw [qY_letGuess_L46]
    refine zg_iload C 5 48 rfl dX4_letGuess_46 rfl ?_
    refine zg_iconst C (3 : Int32) 49 rfl dX4_letGuess_48 (by decide) ?_
    refine zg_icmp_ge C 113 52 rfl dX4_letGuess_49 (by decide) ?_ ?_
    · refine zg_sub [0, 1, 3] [(0, .ref (zad E 16 0)), (1, .int c1), (3, .int v3)] rfl ?_
      exact he113 M v3
    · refine zg_aload_n C 0 53 rfl dX4_letGuess_52 rfl ?_
      refine fgX4_15 C zn16 56 rfl dX4_letGuess_53 ?_
      refine zg_iload_n C 1 57 rfl dX4_letGuess_56 rfl ?_
      refine zg_iald C 58 rfl dX4_letGuess_57 zn18 rfl ?_
      refine zg_aload_n C 0 59 rfl dX4_letGuess_58 rfl ?_
      refine fgX4_22 C zn16 62 rfl dX4_letGuess_59 ?_
      refine zg_iload C 5 64 rfl dX4_letGuess_62 rfl ?_
      refine zg_iald C 65 rfl dX4_letGuess_64 zn20 rfl ?_
      refine zg_imul C 66 rfl dX4_letGuess_65 ?_
      refine zg_nmI (fun x4 => ?_)
      refine zg_istore C 6 [(6, .int x4), (0, .ref (zad E 16 0)), (1, .int c1), (2, .int c2), (3, .int v3), (4, .int v4), (5, .int v5)] 68 rfl dX4_letGuess_66 (by decide) rfl ?_
      refine zg_iload_n C 3 69 rfl dX4_letGuess_68 rfl ?_
      refine zg_jn (fun j7 => ∀ (M6 : zM) (x5 : Int32), zG p l e R s m args below meth c E zNC A 7 zvI zoT 88 [(0, .ref (zad E 16 0)), (1, .int c1), (2, .int c2), (3, .int v3), (4, .int v4), (5, .int v5), (6, .int x5)] [] M6 (j7 M6 x5)) (fun M6 x5 => ?_) (fun j7 hj7 => ?_)
      · refine zg_iload C 5 90 rfl dX4_letGuess_88 rfl ?_
        refine zg_jn (fun j11 => ∀ (M10 : zM) (x8 : Int32) (x9 : Int32), zG p l e R s m args below meth c E zNC A 7 zvI zoT 107 [(0, .ref (zad E 16 0)), (1, .int c1), (2, .int c2), (3, .int x8), (4, .int x9), (5, .int v5)] [] M10 (j11 M10 x8 x9)) (fun M10 x8 x9 => ?_) (fun j11 hj11 => ?_)
        · refine zg_iinc C 5 (v5 + (1 : Int32)) [(5, .int (v5 + (1 : Int32))), (0, .ref (zad E 16 0)), (1, .int c1), (2, .int c2), (3, .int x8), (4, .int x9)] 110 rfl dX4_letGuess_107 rfl (congrArg (fun z : Int32 => v5 + z) (by decide : Int32.ofInt (1) = (1 : Int32))) (by decide) rfl ?_
          refine zg_goto C 46 dX4_letGuess_110 (by decide) ?_
          refine zg_sub [1, 2, 3, 4, 5, 0] [(0, .ref (zad E 16 0)), (1, .int c1), (2, .int c2), (3, .int x8), (4, .int x9), (5, .int (v5 + (1 : Int32)))] rfl ?_
          exact ih M10 x8 x9 (v5 + (1 : Int32))
        · refine zg_jn (fun j13 => ∀ (M12 : zM), zG p l e R s m args below meth c E zNC A 7 zvI zoT 100 [(0, .ref (zad E 16 0)), (1, .int c1), (2, .int c2), (5, .int v5), (6, .int x5)] [] M12 (j13 M12 )) (fun M12 => ?_) (fun j13 hj13 => ?_)
          · refine zg_iload C 4 102 rfl dX4_letGuess_100 rfl ?_
            refine zg_istore C 4 [(4, .int x5), (0, .ref (zad E 16 0)), (1, .int c1), (2, .int c2), (5, .int v5), (6, .int x5)] 104 rfl dX4_letGuess_102 (by decide) rfl ?_
            refine zg_iload C 4 106 rfl dX4_letGuess_104 rfl ?_
            refine zg_istore_n C 3 [(3, .int v5), (4, .int x5), (0, .ref (zad E 16 0)), (1, .int c1), (2, .int c2), (5, .int v5), (6, .int x5)] 107 rfl dX4_letGuess_106 rfl (by decide) rfl ?_
            refine zg_sub [2, 3, 4, 0, 1, 5] [(0, .ref (zad E 16 0)), (1, .int c1), (2, .int c2), (3, .int v5), (4, .int x5), (5, .int v5)] rfl ?_
            exact hj11 M12 v5 x5
          · refine zg_if_eq C 100 93 rfl dX4_letGuess_90 (by decide) ?_ ?_
            · refine zg_sub [0, 1, 2, 5, 6] [(0, .ref (zad E 16 0)), (1, .int c1), (2, .int c2), (5, .int v5), (6, .int x5)] rfl ?_
              exact hj13 M6 
            · refine zg_iload C 6 95 rfl dX4_letGuess_93 rfl ?_
              refine zg_iload C 4 97 rfl dX4_letGuess_95 rfl ?_
              refine zg_icmp_le C 107 100 rfl dX4_letGuess_97 (by decide) ?_ ?_
              · refine zg_sub [0, 1, 2, 3, 4, 5] [(0, .ref (zad E 16 0)), (1, .int c1), (2, .int c2), (3, .int v3), (4, .int v4), (5, .int v5)] rfl ?_
                exact hj11 M6 v3 v4
              · refine zg_sub [0, 1, 2, 5, 6] [(0, .ref (zad E 16 0)), (1, .int c1), (2, .int c2), (5, .int v5), (6, .int x5)] rfl ?_
                exact hj13 M6 
      · refine zg_if_ne C 88 72 rfl dX4_letGuess_69 (by decide) ?_ ?_
        · refine zg_iload C 0 74 rfl dX4_letGuess_72 rfl ?_
          refine zg_aload_n C 1 75 rfl dX4_letGuess_74 rfl ?_
          refine fgX4_9 C zn16 78 rfl dX4_letGuess_75 ?_
          refine zg_iload_n C 2 79 rfl dX4_letGuess_78 rfl ?_
          refine zg_iconst C (3 : Int32) 80 rfl dX4_letGuess_79 (by decide) ?_
          refine zg_imul C 81 rfl dX4_letGuess_80 ?_
          refine zg_iload C 6 83 rfl dX4_letGuess_81 rfl ?_
          refine zg_iadd C 84 rfl dX4_letGuess_83 ?_
          refine zg_iald C 85 rfl dX4_letGuess_84 zn17 rfl ?_
          refine zg_iadd C 86 rfl dX4_letGuess_85 ?_
          refine zg_nmI (fun x14 => ?_)
          refine zg_istore C 6 [(6, .int x14), (0, .ref (zad E 16 0)), (1, .int c1), (2, .int c2), (3, .int v3), (4, .int v4), (5, .int v5)] 88 rfl dX4_letGuess_86 (by decide) rfl ?_
          refine zg_sub [1, 2, 3, 4, 5, 6, 0] [(0, .ref (zad E 16 0)), (1, .int c1), (2, .int c2), (3, .int v3), (4, .int v4), (5, .int v5), (6, .int x14)] rfl ?_
          exact hj7 M x14
        · refine zg_sub [1, 2, 3, 4, 5, 6, 0] [(0, .ref (zad E 16 0)), (1, .int c1), (2, .int c2), (3, .int v3), (4, .int v4), (5, .int v5), (6, .int x4)] rfl ?_
          exact hj7 M x4
set_option maxHeartbeats 4000000 in
set_option maxRecDepth 100000 in
theorem tY_letGuess {l : Launch} {E : zE} {A : Nat → Prop} (hD : zD E zNC A) (M : zM) (a0 : Int32) : zCT l yX4_letGuess cX4_letGuess 7 (some .int) 2 E zNC A [.ref (zad E 16 0), .int a0] M zvI zoT (qY_letGuess  M a0) := by
  refine zCT_of (by decide) hD (by first | decide | exact Nat.le_of_ble_eq_true rfl) (fun p e R s m args below meth c C => ?_)
  have C : zCx p R s m args meth c cX4_letGuess "TwoTrue$Play" E zNC A 7 (some .int) 2 := C
  unfold qY_letGuess
  refine zg_sub [0, 1] [(0, .ref (zad E 16 0)), (1, .int a0)] rfl ?_
  refine zg_aload_n C 0 1 rfl dX4_letGuess_0 rfl ?_
  refine fgX4_18 C zn16 4 rfl dX4_letGuess_1 ?_
  refine zg_iload_n C 1 5 rfl dX4_letGuess_4 rfl ?_
  refine zg_zald C 6 rfl dX4_letGuess_5 zn19 rfl ?_
  refine zg_jn (fun j3 => ∀ (M2 : zM) (x1 : Int32), zG p l e R s m args below meth c E zNC A 7 zvI zoT 37 [(0, .ref (zad E 16 0)), (1, .int a0)] [.int x1] M2 (j3 M2 x1)) (fun M2 x1 => ?_) (fun j3 hj3 => ?_)
  · refine zg_istore_n C 2 [(2, .int x1), (0, .ref (zad E 16 0)), (1, .int a0)] 38 rfl dX4_letGuess_37 rfl (by decide) rfl ?_
    refine zg_iconst C (0 : Int32) 39 rfl dX4_letGuess_38 (by decide) ?_
    refine zg_istore_n C 3 [(3, .int (0 : Int32)), (2, .int x1), (0, .ref (zad E 16 0)), (1, .int a0)] 40 rfl dX4_letGuess_39 rfl (by decide) rfl ?_
    refine zg_iconst C (0 : Int32) 41 rfl dX4_letGuess_40 (by decide) ?_
    refine zg_istore C 4 [(4, .int (0 : Int32)), (3, .int (0 : Int32)), (2, .int x1), (0, .ref (zad E 16 0)), (1, .int a0)] 43 rfl dX4_letGuess_41 (by decide) rfl ?_
    refine zg_iconst C (0 : Int32) 44 rfl dX4_letGuess_43 (by decide) ?_
    refine zg_istore C 5 [(5, .int (0 : Int32)), (4, .int (0 : Int32)), (3, .int (0 : Int32)), (2, .int x1), (0, .ref (zad E 16 0)), (1, .int a0)] 46 rfl dX4_letGuess_44 (by decide) rfl ?_
    refine zg_sub [4, 5, 3, 2, 1, 0] [(0, .ref (zad E 16 0)), (1, .int a0), (2, .int x1), (3, .int (0 : Int32)), (4, .int (0 : Int32)), (5, .int (0 : Int32))] rfl ?_
    refine tY_letGuess_L46 C hD a0 x1 (fun M15 x16 => ?_) 1000 M2 (0 : Int32) (0 : Int32) (0 : Int32)
    · refine zg_aload_n C 0 114 rfl dX4_letGuess_113 rfl ?_
      refine fgX4_25 C zn16 117 rfl dX4_letGuess_114 ?_
      refine zg_iload_n C 1 118 rfl dX4_letGuess_117 rfl ?_
      refine zg_iload_n C 2 119 rfl dX4_letGuess_118 rfl ?_
      refine zg_iast C 120 rfl dX4_letGuess_119 zn21 (fun _ _ => rfl) (fun M17 => ?_)
      refine zg_aload_n C 0 121 rfl dX4_letGuess_120 rfl ?_
      refine fgX4_22 C zn16 124 rfl dX4_letGuess_121 ?_
      refine zg_iload_n C 2 125 rfl dX4_letGuess_124 rfl ?_
      refine zg_dup2 C rfl rfl 126 rfl dX4_letGuess_125 ?_
      refine zg_iald C 127 rfl dX4_letGuess_126 zn20 rfl ?_
      refine zg_iconst C (1 : Int32) 128 rfl dX4_letGuess_127 (by decide) ?_
      refine zg_iadd C 129 rfl dX4_letGuess_128 ?_
      refine zg_iast C 130 rfl dX4_letGuess_129 zn20 (fun _ _ => rfl) (fun M18 => ?_)
      refine zg_iload_n C 2 131 rfl dX4_letGuess_130 rfl ?_
      refine zg_aload_n C 0 132 rfl dX4_letGuess_131 rfl ?_
      refine fgX4_40 C zn16 135 rfl dX4_letGuess_132 ?_
      refine zg_icmp_eq C 148 138 rfl dX4_letGuess_135 (by decide) ?_ ?_
      · refine zg_iload_n C 2 149 rfl dX4_letGuess_148 rfl ?_
        exact zg_iret C dX4_letGuess_149 trivial
      · refine zg_aload_n C 0 139 rfl dX4_letGuess_138 rfl ?_
        refine zg_dup C rfl 140 rfl dX4_letGuess_139 ?_
        refine fgX4_91 C zn16 143 rfl dX4_letGuess_140 ?_
        refine zg_iconst C (1 : Int32) 144 rfl dX4_letGuess_143 (by decide) ?_
        refine zg_iadd C 145 rfl dX4_letGuess_144 ?_
        refine fpX4_91 C zn16 148 rfl dX4_letGuess_145 (fun M19 => ?_)
        refine zg_iload_n C 2 149 rfl dX4_letGuess_148 rfl ?_
        exact zg_iret C dX4_letGuess_149 trivial
  · refine zg_jn (fun j21 => ∀ (M20 : zM), zG p l e R s m args below meth c E zNC A 7 zvI zoT 36 [(0, .ref (zad E 16 0)), (1, .int a0)] [] M20 (j21 M20 )) (fun M20 => ?_) (fun j21 hj21 => ?_)
    · refine zg_iconst C (0 : Int32) 37 rfl dX4_letGuess_36 (by decide) ?_
      exact hj3 M20 (0 : Int32)
    · refine zg_if_eq C 36 9 rfl dX4_letGuess_6 (by decide) ?_ ?_
      · exact hj21 M 
      · refine zg_aload_n C 0 10 rfl dX4_letGuess_9 rfl ?_
        refine fgX4_22 C zn16 13 rfl dX4_letGuess_10 ?_
        refine zg_iconst C (0 : Int32) 14 rfl dX4_letGuess_13 (by decide) ?_
        refine zg_iald C 15 rfl dX4_letGuess_14 zn20 rfl ?_
        refine zg_aload_n C 0 16 rfl dX4_letGuess_15 rfl ?_
        refine fgX4_22 C zn16 19 rfl dX4_letGuess_16 ?_
        refine zg_iconst C (1 : Int32) 20 rfl dX4_letGuess_19 (by decide) ?_
        refine zg_iald C 21 rfl dX4_letGuess_20 zn20 rfl ?_
        refine zg_iadd C 22 rfl dX4_letGuess_21 ?_
        refine zg_aload_n C 0 23 rfl dX4_letGuess_22 rfl ?_
        refine fgX4_22 C zn16 26 rfl dX4_letGuess_23 ?_
        refine zg_iconst C (2 : Int32) 27 rfl dX4_letGuess_26 (by decide) ?_
        refine zg_iald C 28 rfl dX4_letGuess_27 zn20 rfl ?_
        refine zg_iadd C 29 rfl dX4_letGuess_28 ?_
        refine zg_if_le C 36 32 rfl dX4_letGuess_29 (by decide) ?_ ?_
        · exact hj21 M 
        · refine zg_iconst C (1 : Int32) 33 rfl dX4_letGuess_32 (by decide) ?_
          refine zg_goto C 37 dX4_letGuess_33 (by decide) ?_
          exact hj3 M (1 : Int32)
set_option maxHeartbeats 4000000 in
set_option maxRecDepth 100000 in
theorem tY_isRaised {l : Launch} {E : zE} {A : Nat → Prop} (hD : zD E zNC A) (M : zM) : zCT l yX4_isRaised cX4_isRaised 2 (some .boolean) 2 E zNC A [.ref (zad E 16 0), .ref (zad E 8 0)] M zvI zoB (qY_isRaised  M ) := by
  refine zCT_of (by decide) hD (by first | decide | exact Nat.le_of_ble_eq_true rfl) (fun p e R s m args below meth c C => ?_)
  have C : zCx p R s m args meth c cX4_isRaised "TwoTrue$Play" E zNC A 2 (some .boolean) 2 := C
  unfold qY_isRaised
  refine zg_sub [0, 1] [(0, .ref (zad E 16 0)), (1, .ref (zad E 8 0))] rfl ?_
  refine zg_aload_n C 0 1 rfl dX4_isRaised_0 rfl ?_
  refine fgX4_22 C zn16 4 rfl dX4_isRaised_1 ?_
  refine zg_iconst C (0 : Int32) 5 rfl dX4_isRaised_4 (by decide) ?_
  refine zg_iald C 6 rfl dX4_isRaised_5 zn20 rfl ?_
  refine zg_aload_n C 1 7 rfl dX4_isRaised_6 rfl ?_
  refine zg_iconst C (0 : Int32) 8 rfl dX4_isRaised_7 (by decide) ?_
  refine zg_iald C 9 rfl dX4_isRaised_8 (zn8 (by decide : 0 < 3)) rfl ?_
  refine zg_icmp_ne C 40 12 rfl dX4_isRaised_9 (by decide) ?_ ?_
  · refine zg_aload_n C 0 13 rfl dX4_isRaised_12 rfl ?_
    refine fgX4_22 C zn16 16 rfl dX4_isRaised_13 ?_
    refine zg_iconst C (1 : Int32) 17 rfl dX4_isRaised_16 (by decide) ?_
    refine zg_iald C 18 rfl dX4_isRaised_17 zn20 rfl ?_
    refine zg_aload_n C 1 19 rfl dX4_isRaised_18 rfl ?_
    refine zg_iconst C (1 : Int32) 20 rfl dX4_isRaised_19 (by decide) ?_
    refine zg_iald C 21 rfl dX4_isRaised_20 (zn8 (by decide : 0 < 3)) rfl ?_
    refine zg_icmp_ne C 40 24 rfl dX4_isRaised_21 (by decide) ?_ ?_
    · refine zg_aload_n C 0 25 rfl dX4_isRaised_24 rfl ?_
      refine fgX4_22 C zn16 28 rfl dX4_isRaised_25 ?_
      refine zg_iconst C (2 : Int32) 29 rfl dX4_isRaised_28 (by decide) ?_
      refine zg_iald C 30 rfl dX4_isRaised_29 zn20 rfl ?_
      refine zg_aload_n C 1 31 rfl dX4_isRaised_30 rfl ?_
      refine zg_iconst C (2 : Int32) 32 rfl dX4_isRaised_31 (by decide) ?_
      refine zg_iald C 33 rfl dX4_isRaised_32 (zn8 (by decide : 0 < 3)) rfl ?_
      refine zg_icmp_ne C 40 36 rfl dX4_isRaised_33 (by decide) ?_ ?_
      · refine zg_iconst C (1 : Int32) 37 rfl dX4_isRaised_36 (by decide) ?_
        refine zg_goto C 41 dX4_isRaised_37 (by decide) ?_
        exact zg_zret C dX4_isRaised_41 rfl rfl
      · refine zg_iconst C (0 : Int32) 41 rfl dX4_isRaised_40 (by decide) ?_
        exact zg_zret C dX4_isRaised_41 rfl rfl
    · refine zg_iconst C (0 : Int32) 41 rfl dX4_isRaised_40 (by decide) ?_
      exact zg_zret C dX4_isRaised_41 rfl rfl
  · refine zg_iconst C (0 : Int32) 41 rfl dX4_isRaised_40 (by decide) ?_
    exact zg_zret C dX4_isRaised_41 rfl rfl
set_option maxHeartbeats 4000000 in
set_option maxRecDepth 100000 in
theorem tK_has {l : Launch} {E : zE} {A : Nat → Prop} (hD : zD E zNC A) (M : zM) (a0 : Int32) : zCT l yX5_has cX5_has 2 (some .boolean) 2 E zNC A [.ref (zad E 27 0), .int a0] M zvI zoB (qK_has  M a0) := by
  refine zCT_of (by decide) hD (by first | decide | exact Nat.le_of_ble_eq_true rfl) (fun p e R s m args below meth c C => ?_)
  have C : zCx p R s m args meth c cX5_has "TwoTrue$Tapes" E zNC A 2 (some .boolean) 2 := C
  unfold qK_has
  refine zg_sub [1] [(1, .int a0)] rfl ?_
  refine zg_iload_n C 0 1 rfl dX5_has_0 rfl ?_
  refine zg_if_lt C 14 4 rfl dX5_has_1 (by decide) ?_ ?_
  · refine zg_iconst C (0 : Int32) 15 rfl dX5_has_14 (by decide) ?_
    exact zg_zret C dX5_has_15 rfl rfl
  · refine zg_iload_n C 0 5 rfl dX5_has_4 rfl ?_
    refine zg_bipush C (6 : Int32) 7 rfl dX5_has_5 (by decide) ?_
    refine zg_icmp_ge C 14 10 rfl dX5_has_7 (by decide) ?_ ?_
    · refine zg_iconst C (0 : Int32) 15 rfl dX5_has_14 (by decide) ?_
      exact zg_zret C dX5_has_15 rfl rfl
    · refine zg_iconst C (1 : Int32) 11 rfl dX5_has_10 (by decide) ?_
      refine zg_goto C 15 dX5_has_11 (by decide) ?_
      exact zg_zret C dX5_has_15 rfl rfl
set_option maxHeartbeats 4000000 in
set_option maxRecDepth 100000 in
theorem tK_holds {l : Launch} {E : zE} {A : Nat → Prop} (hD : zD E zNC A) (M : zM) (a0 : Int32) : zCT l yX5_holds cX5_holds 2 (some .boolean) 2 E zNC A [.ref (zad E 27 0), .int a0] M zvI zoB (qK_holds  M a0) := by
  refine zCT_of (by decide) hD (by first | decide | exact Nat.le_of_ble_eq_true rfl) (fun p e R s m args below meth c C => ?_)
  have C : zCx p R s m args meth c cX5_holds "TwoTrue$Tapes" E zNC A 2 (some .boolean) 2 := C
  unfold qK_holds
  refine zg_sub [0, 1] [(0, .ref (zad E 27 0)), (1, .int a0)] rfl ?_
  refine zg_aload_n C 0 1 rfl dX5_holds_0 rfl ?_
  refine fgX5_9 C zn27 4 rfl dX5_holds_1 ?_
  refine zg_iload_n C 1 5 rfl dX5_holds_4 rfl ?_
  refine zg_iald C 6 rfl dX5_holds_5 zn28 rfl ?_
  refine zg_iconst C (-1 : Int32) 7 rfl dX5_holds_6 (by decide) ?_
  refine zg_icmp_eq C 14 10 rfl dX5_holds_7 (by decide) ?_ ?_
  · refine zg_iconst C (0 : Int32) 15 rfl dX5_holds_14 (by decide) ?_
    exact zg_zret C dX5_holds_15 rfl rfl
  · refine zg_iconst C (1 : Int32) 11 rfl dX5_holds_10 (by decide) ?_
    refine zg_goto C 15 dX5_holds_11 (by decide) ?_
    exact zg_zret C dX5_holds_15 rfl rfl
set_option maxHeartbeats 4000000 in
set_option maxRecDepth 100000 in
theorem tK_at {l : Launch} {E : zE} {A : Nat → Prop} (hD : zD E zNC A) (M : zM) (a0 : Int32) (a1 : Int32) : zCT l yX5_at cX5_at 3 (some .long) 2 E zNC A [.ref (zad E 27 0), .int a0, .int a1] M zvL zoT (qK_at  M a0 a1) := by
  refine zCT_of (by decide) hD (by first | decide | exact Nat.le_of_ble_eq_true rfl) (fun p e R s m args below meth c C => ?_)
  have C : zCx p R s m args meth c cX5_at "TwoTrue$Tapes" E zNC A 3 (some .long) 2 := C
  unfold qK_at
  refine zg_sub [0, 1, 2] [(0, .ref (zad E 27 0)), (1, .int a0), (2, .int a1)] rfl ?_
  refine zg_aload_n C 0 1 rfl dX5_at_0 rfl ?_
  refine fgX5_16 C zn27 4 rfl dX5_at_1 ?_
  refine zg_iload_n C 1 5 rfl dX5_at_4 rfl ?_
  refine zg_bipush C (60 : Int32) 7 rfl dX5_at_5 (by decide) ?_
  refine zg_imul C 8 rfl dX5_at_7 ?_
  refine zg_iload_n C 2 9 rfl dX5_at_8 rfl ?_
  refine zg_iadd C 10 rfl dX5_at_9 ?_
  refine zg_lald C 11 rfl dX5_at_10 zn30 rfl ?_
  exact zg_lret C dX5_at_11 trivial
set_option maxHeartbeats 4000000 in
set_option maxRecDepth 100000 in
theorem tK_lay_L17 {p : Program} {l : Launch} {e : Env} {R : Room} {s : State} {m : MethodId} {args : Array Value} {below : List Frame} {meth : Method} {c : Code} {E : zE} {A : Nat → Prop} (C : zCx p R s m args meth c cX5_lay "TwoTrue$Tapes" E zNC A 5 none 2) (hD : zD E zNC A) (c1 : Int32) (c3 : Int32) : ∀ (n : Nat) (M : zM) (v4 : Int32), zG p l e R s m args below meth c E zNC A 5 zvU zoT 17 [(0, .ref (zad E 27 0)), (1, .int c1), (3, .int c3), (4, .int v4)] [] M (qK_lay_L17 c1 c3 n M v4) := by
  intro n
  induction n with
  | zero =>
    intro M v4
    exact zg_none
  | succ n ih =>
    intro M v4
    rw [qK_lay_L17]
    refine zg_iload C 3 19 rfl dX5_lay_17 rfl ?_
    refine zg_iload_n C 2 20 rfl dX5_lay_19 rfl ?_
    refine zg_icmp_ge C 42 23 rfl dX5_lay_20 (by decide) ?_ ?_
    · exact zg_vret C dX5_lay_42 trivial
    · refine zg_aload_n C 0 24 rfl dX5_lay_23 rfl ?_
      refine fgX5_16 C zn27 27 rfl dX5_lay_24 ?_
      refine zg_iload_n C 1 28 rfl dX5_lay_27 rfl ?_
      refine zg_bipush C (60 : Int32) 30 rfl dX5_lay_28 (by decide) ?_
      refine zg_imul C 31 rfl dX5_lay_30 ?_
      refine zg_iload C 3 33 rfl dX5_lay_31 rfl ?_
      refine zg_iadd C 34 rfl dX5_lay_33 ?_
      refine zg_lconst C (0 : Int64) 35 rfl dX5_lay_34 (by decide) ?_
      refine zg_last C 36 rfl dX5_lay_35 zn30 (fun _ _ => rfl) (fun M3 => ?_)
      refine zg_iinc C 3 (v4 + (1 : Int32)) [(4, .int (v4 + (1 : Int32))), (0, .ref (zad E 27 0)), (1, .int c1), (3, .int c3)] 39 rfl dX5_lay_36 rfl (congrArg (fun z : Int32 => v4 + z) (by decide : Int32.ofInt (1) = (1 : Int32))) (by decide) rfl ?_
      refine zg_goto C 17 dX5_lay_39 (by decide) ?_
      refine zg_sub [1, 2, 3, 0] [(0, .ref (zad E 27 0)), (1, .int c1), (3, .int c3), (4, .int (v4 + (1 : Int32)))] rfl ?_
      exact ih M3 (v4 + (1 : Int32))
set_option maxHeartbeats 4000000 in
set_option maxRecDepth 100000 in
theorem tK_lay {l : Launch} {E : zE} {A : Nat → Prop} (hD : zD E zNC A) (M : zM) (a0 : Int32) (a1 : Int32) (a2 : Int32) : zCT l yX5_lay cX5_lay 5 none 2 E zNC A [.ref (zad E 27 0), .int a0, .int a1, .int a2] M zvU zoT (qK_lay  M a0 a1 a2) := by
  refine zCT_of (by decide) hD (by first | decide | exact Nat.le_of_ble_eq_true rfl) (fun p e R s m args below meth c C => ?_)
  have C : zCx p R s m args meth c cX5_lay "TwoTrue$Tapes" E zNC A 5 none 2 := C
  unfold qK_lay
  refine zg_sub [0, 1, 2, 3] [(0, .ref (zad E 27 0)), (1, .int a0), (2, .int a1), (3, .int a2)] rfl ?_
  refine zg_aload_n C 0 1 rfl dX5_lay_0 rfl ?_
  refine fgX5_9 C zn27 4 rfl dX5_lay_1 ?_
  refine zg_iload_n C 1 5 rfl dX5_lay_4 rfl ?_
  refine zg_iload_n C 2 6 rfl dX5_lay_5 rfl ?_
  refine zg_iast C 7 rfl dX5_lay_6 zn28 (fun _ _ => rfl) (fun M1 => ?_)
  refine zg_aload_n C 0 8 rfl dX5_lay_7 rfl ?_
  refine fgX5_13 C zn27 11 rfl dX5_lay_8 ?_
  refine zg_iload_n C 1 12 rfl dX5_lay_11 rfl ?_
  refine zg_iload_n C 3 13 rfl dX5_lay_12 rfl ?_
  refine zg_iast C 14 rfl dX5_lay_13 zn29 (fun _ _ => rfl) (fun M2 => ?_)
  refine zg_iconst C (0 : Int32) 15 rfl dX5_lay_14 (by decide) ?_
  refine zg_istore C 4 [(4, .int (0 : Int32)), (0, .ref (zad E 27 0)), (1, .int a0), (2, .int a1), (3, .int a2)] 17 rfl dX5_lay_15 (by decide) rfl ?_
  refine zg_sub [1, 2, 4, 0] [(0, .ref (zad E 27 0)), (1, .int a0), (3, .int a2), (4, .int (0 : Int32))] rfl ?_
  refine tK_lay_L17 C hD a0 a2  1000 M2 (0 : Int32)
set_option maxHeartbeats 4000000 in
set_option maxRecDepth 100000 in
theorem tK_hasPlace {l : Launch} {E : zE} {A : Nat → Prop} (hD : zD E zNC A) (M : zM) (a0 : Int32) (a1 : Int32) : zCT l yX5_hasPlace cX5_hasPlace 3 (some .boolean) 2 E zNC A [.ref (zad E 27 0), .int a0, .int a1] M zvI zoB (qK_hasPlace  M a0 a1) := by
  refine zCT_of (by decide) hD (by first | decide | exact Nat.le_of_ble_eq_true rfl) (fun p e R s m args below meth c C => ?_)
  have C : zCx p R s m args meth c cX5_hasPlace "TwoTrue$Tapes" E zNC A 3 (some .boolean) 2 := C
  unfold qK_hasPlace
  refine zg_sub [0, 1, 2] [(0, .ref (zad E 27 0)), (1, .int a0), (2, .int a1)] rfl ?_
  refine zg_iload_n C 2 1 rfl dX5_hasPlace_0 rfl ?_
  refine zg_if_lt C 18 4 rfl dX5_hasPlace_1 (by decide) ?_ ?_
  · refine zg_iconst C (0 : Int32) 19 rfl dX5_hasPlace_18 (by decide) ?_
    exact zg_zret C dX5_hasPlace_19 rfl rfl
  · refine zg_iload_n C 2 5 rfl dX5_hasPlace_4 rfl ?_
    refine zg_aload_n C 0 6 rfl dX5_hasPlace_5 rfl ?_
    refine fgX5_13 C zn27 9 rfl dX5_hasPlace_6 ?_
    refine zg_iload_n C 1 10 rfl dX5_hasPlace_9 rfl ?_
    refine zg_iald C 11 rfl dX5_hasPlace_10 zn29 rfl ?_
    refine zg_icmp_ge C 18 14 rfl dX5_hasPlace_11 (by decide) ?_ ?_
    · refine zg_iconst C (0 : Int32) 19 rfl dX5_hasPlace_18 (by decide) ?_
      exact zg_zret C dX5_hasPlace_19 rfl rfl
    · refine zg_iconst C (1 : Int32) 15 rfl dX5_hasPlace_14 (by decide) ?_
      refine zg_goto C 19 dX5_hasPlace_15 (by decide) ?_
      exact zg_zret C dX5_hasPlace_19 rfl rfl
set_option maxHeartbeats 4000000 in
set_option maxRecDepth 100000 in
theorem tK_cut {l : Launch} {E : zE} {A : Nat → Prop} (hD : zD E zNC A) (M : zM) (a0 : Int32) (a1 : Int64) : zCT l yX5_cut cX5_cut 3 (some .long) 2 E zNC A [.int a0, .long a1] M zvL zoT (qK_cut  M a0 a1) := by
  refine zCT_of (by decide) hD (by first | decide | exact Nat.le_of_ble_eq_true rfl) (fun p e R s m args below meth c C => ?_)
  have C : zCx p R s m args meth c cX5_cut "TwoTrue$Tapes" E zNC A 3 (some .long) 2 := C
  unfold qK_cut
  refine zg_sub [0, 1] [(0, .int a0), (1, .long a1)] rfl ?_
  refine zg_iload_n C 0 1 rfl dX5_cut_0 rfl ?_
  refine zg_if (fun h1 => ?_) (fun h1 => ?_)
  · refine zg_tabIn C 0 (31) 32 dX5_cut_1 (zxi h1 (by decide)) (by decide) (by decide) rfl (by decide) ?_
    refine zg_lload_n C 1 33 rfl dX5_cut_32 rfl ?_
    refine zg_l2i C 34 rfl dX5_cut_33 ?_
    refine zg_i2b C 35 rfl dX5_cut_34 ?_
    refine zg_i2l C 36 rfl dX5_cut_35 ?_
    exact zg_lret C dX5_cut_36 trivial
  · refine zg_if (fun h2 => ?_) (fun h2 => ?_)
    · refine zg_tabIn C 1 (36) 37 dX5_cut_1 (zxi h2 (by decide)) (by decide) (by decide) rfl (by decide) ?_
      refine zg_lload_n C 1 38 rfl dX5_cut_37 rfl ?_
      refine zg_l2i C 39 rfl dX5_cut_38 ?_
      refine zg_i2s C 40 rfl dX5_cut_39 ?_
      refine zg_i2l C 41 rfl dX5_cut_40 ?_
      exact zg_lret C dX5_cut_41 trivial
    · refine zg_if (fun h3 => ?_) (fun h3 => ?_)
      · refine zg_tabIn C 2 (41) 42 dX5_cut_1 (zxi h3 (by decide)) (by decide) (by decide) rfl (by decide) ?_
        refine zg_lload_n C 1 43 rfl dX5_cut_42 rfl ?_
        refine zg_l2i C 44 rfl dX5_cut_43 ?_
        refine zg_i2l C 45 rfl dX5_cut_44 ?_
        exact zg_lret C dX5_cut_45 trivial
      · refine zg_if (fun h4 => ?_) (fun h4 => ?_)
        · refine zg_tabIn C 3 (45) 46 dX5_cut_1 (zxi h4 (by decide)) (by decide) (by decide) rfl (by decide) ?_
          refine zg_lload_n C 1 47 rfl dX5_cut_46 rfl ?_
          exact zg_lret C dX5_cut_47 trivial
        · refine zg_tabOut C 48 dX5_cut_1 (by have gh1 := zxn h1 (by decide : (0 : Int32).toInt = 0); have gh2 := zxn h2 (by decide : (1 : Int32).toInt = 1); have gh3 := zxn h3 (by decide : (2 : Int32).toInt = 2); have gh4 := zxn h4 (by decide : (3 : Int32).toInt = 3); omega) (by decide) ?_
          refine zg_lload_n C 1 49 rfl dX5_cut_48 rfl ?_
          refine zg_lconst C (0 : Int64) 50 rfl dX5_cut_49 (by decide) ?_
          refine zg_lcmp C 51 rfl dX5_cut_50 ?_
          refine zg_if_eq C 58 54 rfl dX5_cut_51 (by decide) ?_ ?_
          · refine zg_lconst C (0 : Int64) 59 rfl dX5_cut_58 (by decide) ?_
            exact zg_lret C dX5_cut_59 trivial
          · refine zg_lconst C (1 : Int64) 55 rfl dX5_cut_54 (by decide) ?_
            refine zg_goto C 59 dX5_cut_55 (by decide) ?_
            exact zg_lret C dX5_cut_59 trivial
set_option maxHeartbeats 4000000 in
set_option maxRecDepth 100000 in
theorem tK_hasPlaces {l : Launch} {E : zE} {A : Nat → Prop} (hD : zD E zNC A) (M : zM) (a0 : Int32) (a1 : Int32) (a2 : Int32) : zCT l yX5_hasPlaces cX5_hasPlaces 4 (some .boolean) 2 E zNC A [.ref (zad E 27 0), .int a0, .int a1, .int a2] M zvI zoB (qK_hasPlaces  M a0 a1 a2) := by
  refine zCT_of (by decide) hD (by first | decide | exact Nat.le_of_ble_eq_true rfl) (fun p e R s m args below meth c C => ?_)
  have C : zCx p R s m args meth c cX5_hasPlaces "TwoTrue$Tapes" E zNC A 4 (some .boolean) 2 := C
  unfold qK_hasPlaces
  refine zg_sub [0, 1, 2, 3] [(0, .ref (zad E 27 0)), (1, .int a0), (2, .int a1), (3, .int a2)] rfl ?_
  refine zg_iload_n C 3 1 rfl dX5_hasPlaces_0 rfl ?_
  refine zg_if_lt C 24 4 rfl dX5_hasPlaces_1 (by decide) ?_ ?_
  · refine zg_iconst C (0 : Int32) 25 rfl dX5_hasPlaces_24 (by decide) ?_
    exact zg_zret C dX5_hasPlaces_25 rfl rfl
  · refine zg_iload_n C 2 5 rfl dX5_hasPlaces_4 rfl ?_
    refine zg_if_lt C 24 8 rfl dX5_hasPlaces_5 (by decide) ?_ ?_
    · refine zg_iconst C (0 : Int32) 25 rfl dX5_hasPlaces_24 (by decide) ?_
      exact zg_zret C dX5_hasPlaces_25 rfl rfl
    · refine zg_iload_n C 2 9 rfl dX5_hasPlaces_8 rfl ?_
      refine zg_aload_n C 0 10 rfl dX5_hasPlaces_9 rfl ?_
      refine fgX5_13 C zn27 13 rfl dX5_hasPlaces_10 ?_
      refine zg_iload_n C 1 14 rfl dX5_hasPlaces_13 rfl ?_
      refine zg_iald C 15 rfl dX5_hasPlaces_14 zn29 rfl ?_
      refine zg_iload_n C 3 16 rfl dX5_hasPlaces_15 rfl ?_
      refine zg_isub C 17 rfl dX5_hasPlaces_16 ?_
      refine zg_icmp_gt C 24 20 rfl dX5_hasPlaces_17 (by decide) ?_ ?_
      · refine zg_iconst C (0 : Int32) 25 rfl dX5_hasPlaces_24 (by decide) ?_
        exact zg_zret C dX5_hasPlaces_25 rfl rfl
      · refine zg_iconst C (1 : Int32) 21 rfl dX5_hasPlaces_20 (by decide) ?_
        refine zg_goto C 25 dX5_hasPlaces_21 (by decide) ?_
        exact zg_zret C dX5_hasPlaces_25 rfl rfl
set_option maxHeartbeats 4000000 in
set_option maxRecDepth 100000 in
theorem tK_copy {l : Launch} {E : zE} {A : Nat → Prop} (hD : zD E zNC A) (M : zM) (a0 : Int32) (a1 : Int32) (a2 : Int32) (a3 : Int32) (a4 : Int32) : zCT l yX5_copy cX5_copy 6 none 2 E zNC A [.ref (zad E 27 0), .int a0, .int a1, .int a2, .int a3, .int a4] M zvU zoT (qK_copy  M a0 a1 a2 a3 a4) := by
  refine zCT_of (by decide) hD (by first | decide | exact Nat.le_of_ble_eq_true rfl) (fun p e R s m args below meth c C => ?_)
  have C : zCx p R s m args meth c cX5_copy "TwoTrue$Tapes" E zNC A 6 none 2 := C
  unfold qK_copy
  refine zg_sub [0, 1, 2, 3, 4, 5] [(0, .ref (zad E 27 0)), (1, .int a0), (2, .int a1), (3, .int a2), (4, .int a3), (5, .int a4)] rfl ?_
  refine zg_aload_n C 0 1 rfl dX5_copy_0 rfl ?_
  refine fgX5_16 C zn27 4 rfl dX5_copy_1 ?_
  refine zg_iload_n C 1 5 rfl dX5_copy_4 rfl ?_
  refine zg_bipush C (60 : Int32) 7 rfl dX5_copy_5 (by decide) ?_
  refine zg_imul C 8 rfl dX5_copy_7 ?_
  refine zg_iload_n C 2 9 rfl dX5_copy_8 rfl ?_
  refine zg_iadd C 10 rfl dX5_copy_9 ?_
  refine zg_aload_n C 0 11 rfl dX5_copy_10 rfl ?_
  refine fgX5_16 C zn27 14 rfl dX5_copy_11 ?_
  refine zg_iload_n C 3 15 rfl dX5_copy_14 rfl ?_
  refine zg_bipush C (60 : Int32) 17 rfl dX5_copy_15 (by decide) ?_
  refine zg_imul C 18 rfl dX5_copy_17 ?_
  refine zg_iload C 4 20 rfl dX5_copy_18 rfl ?_
  refine zg_iadd C 21 rfl dX5_copy_20 ?_
  refine zg_iload C 5 23 rfl dX5_copy_21 rfl ?_
  refine zg_copyl C 26 rfl dX5_copy_23 zn30 zn30 (fun _ _ => rfl) (fun _ _ => rfl) zw759 zw576 zw575 zw16 (by decide) (Nat.le_of_ble_eq_true rfl) (fun M1 => ?_)
  exact zg_vret C dX5_copy_26 trivial
set_option maxHeartbeats 4000000 in
set_option maxRecDepth 100000 in
theorem tT_append {l : Launch} {E : zE} {A : Nat → Prop} (hD : zD E zNC A) (M : zM) (a0 : Int32) : zCT l yX6_append cX6_append 2 (some .int) 2 E zNC A [.ref (zad E 10 0), .int a0] M zvI zoT (qT_append  M a0) := by
  refine zCT_of (by decide) hD (by first | decide | exact Nat.le_of_ble_eq_true rfl) (fun p e R s m args below meth c C => ?_)
  have C : zCx p R s m args meth c cX6_append "TwoTrue$Text" E zNC A 2 (some .int) 2 := C
  unfold qT_append
  refine zg_sub [0, 1] [(0, .ref (zad E 10 0)), (1, .int a0)] rfl ?_
  refine zg_aload_n C 0 1 rfl dX6_append_0 rfl ?_
  refine fgX6_9 C zn10 4 rfl dX6_append_1 ?_
  refine zg_aload_n C 0 5 rfl dX6_append_4 rfl ?_
  refine fgX6_15 C zn10 8 rfl dX6_append_5 ?_
  refine zg_iload_n C 1 9 rfl dX6_append_8 rfl ?_
  refine zg_iast C 10 rfl dX6_append_9 zn11 (fun _ _ => rfl) (fun M1 => ?_)
  refine zg_aload_n C 0 11 rfl dX6_append_10 rfl ?_
  refine zg_dup C rfl 12 rfl dX6_append_11 ?_
  refine fgX6_15 C zn10 15 rfl dX6_append_12 ?_
  refine zg_iconst C (1 : Int32) 16 rfl dX6_append_15 (by decide) ?_
  refine zg_iadd C 17 rfl dX6_append_16 ?_
  refine fpX6_15 C zn10 20 rfl dX6_append_17 (fun M2 => ?_)
  refine zg_aload_n C 0 21 rfl dX6_append_20 rfl ?_
  refine fgX6_15 C zn10 24 rfl dX6_append_21 ?_
  exact zg_iret C dX6_append_24 trivial
set_option maxHeartbeats 4000000 in
set_option maxRecDepth 100000 in
theorem tT_sees {l : Launch} {E : zE} {A : Nat → Prop} (hD : zD E zNC A) (M : zM) (a0 : Int32) : zCT l yX6_sees cX6_sees 2 (some .boolean) 2 E zNC A [.ref (zad E 10 0), .int a0] M zvI zoB (qT_sees  M a0) := by
  refine zCT_of (by decide) hD (by first | decide | exact Nat.le_of_ble_eq_true rfl) (fun p e R s m args below meth c C => ?_)
  have C : zCx p R s m args meth c cX6_sees "TwoTrue$Text" E zNC A 2 (some .boolean) 2 := C
  unfold qT_sees
  refine zg_sub [0, 1] [(0, .ref (zad E 10 0)), (1, .int a0)] rfl ?_
  refine zg_aload_n C 0 1 rfl dX6_sees_0 rfl ?_
  refine fgX6_24 C zn10 4 rfl dX6_sees_1 ?_
  refine zg_aload_n C 0 5 rfl dX6_sees_4 rfl ?_
  refine fgX6_15 C zn10 8 rfl dX6_sees_5 ?_
  refine zg_icmp_ge C 28 11 rfl dX6_sees_8 (by decide) ?_ ?_
  · refine zg_iconst C (0 : Int32) 29 rfl dX6_sees_28 (by decide) ?_
    exact zg_zret C dX6_sees_29 rfl rfl
  · refine zg_aload_n C 0 12 rfl dX6_sees_11 rfl ?_
    refine fgX6_9 C zn10 15 rfl dX6_sees_12 ?_
    refine zg_aload_n C 0 16 rfl dX6_sees_15 rfl ?_
    refine fgX6_24 C zn10 19 rfl dX6_sees_16 ?_
    refine zg_iald C 20 rfl dX6_sees_19 zn11 rfl ?_
    refine zg_iload_n C 1 21 rfl dX6_sees_20 rfl ?_
    refine zg_icmp_ne C 28 24 rfl dX6_sees_21 (by decide) ?_ ?_
    · refine zg_iconst C (1 : Int32) 25 rfl dX6_sees_24 (by decide) ?_
      refine zg_goto C 29 dX6_sees_25 (by decide) ?_
      exact zg_zret C dX6_sees_29 rfl rfl
    · refine zg_iconst C (0 : Int32) 29 rfl dX6_sees_28 (by decide) ?_
      exact zg_zret C dX6_sees_29 rfl rfl
set_option maxHeartbeats 4000000 in
set_option maxRecDepth 100000 in
theorem tT_passes {l : Launch} {E : zE} {A : Nat → Prop} (hD : zD E zNC A) (M : zM) (a0 : Int32) : zCT l yX6_passes cX6_passes 2 (some .boolean) 2 E zNC A [.ref (zad E 10 0), .int a0] M zvI zoB (qT_passes  M a0) := by
  refine zCT_of (by decide) hD (by first | decide | exact Nat.le_of_ble_eq_true rfl) (fun p e R s m args below meth c C => ?_)
  have C : zCx p R s m args meth c cX6_passes "TwoTrue$Text" E zNC A 2 (some .boolean) 2 := C
  unfold qT_passes
  refine zg_sub [0, 1] [(0, .ref (zad E 10 0)), (1, .int a0)] rfl ?_
  refine zg_aload_n C 0 1 rfl dX6_passes_0 rfl ?_
  refine fgX6_24 C zn10 4 rfl dX6_passes_1 ?_
  refine zg_aload_n C 0 5 rfl dX6_passes_4 rfl ?_
  refine fgX6_15 C zn10 8 rfl dX6_passes_5 ?_
  refine zg_icmp_ge C 24 11 rfl dX6_passes_8 (by decide) ?_ ?_
  · refine zg_iconst C (0 : Int32) 25 rfl dX6_passes_24 (by decide) ?_
    exact zg_zret C dX6_passes_25 rfl rfl
  · refine zg_aload_n C 0 12 rfl dX6_passes_11 rfl ?_
    refine fgX6_9 C zn10 15 rfl dX6_passes_12 ?_
    refine zg_aload_n C 0 16 rfl dX6_passes_15 rfl ?_
    refine fgX6_24 C zn10 19 rfl dX6_passes_16 ?_
    refine zg_iald C 20 rfl dX6_passes_19 zn11 rfl ?_
    refine zg_iload_n C 1 21 rfl dX6_passes_20 rfl ?_
    refine zg_icmp_eq C 26 24 rfl dX6_passes_21 (by decide) ?_ ?_
    · refine zg_aload_n C 0 27 rfl dX6_passes_26 rfl ?_
      refine zg_dup C rfl 28 rfl dX6_passes_27 ?_
      refine fgX6_24 C zn10 31 rfl dX6_passes_28 ?_
      refine zg_iconst C (1 : Int32) 32 rfl dX6_passes_31 (by decide) ?_
      refine zg_iadd C 33 rfl dX6_passes_32 ?_
      refine fpX6_24 C zn10 36 rfl dX6_passes_33 (fun M1 => ?_)
      refine zg_iconst C (1 : Int32) 37 rfl dX6_passes_36 (by decide) ?_
      exact zg_zret C dX6_passes_37 rfl rfl
    · refine zg_iconst C (0 : Int32) 25 rfl dX6_passes_24 (by decide) ?_
      exact zg_zret C dX6_passes_25 rfl rfl
set_option maxHeartbeats 4000000 in
set_option maxRecDepth 100000 in
theorem tT_seesDigit {l : Launch} {E : zE} {A : Nat → Prop} (hD : zD E zNC A) (M : zM) : zCT l yX6_seesDigit cX6_seesDigit 1 (some .boolean) 2 E zNC A [.ref (zad E 10 0)] M zvI zoB (qT_seesDigit  M ) := by
  refine zCT_of (by decide) hD (by first | decide | exact Nat.le_of_ble_eq_true rfl) (fun p e R s m args below meth c C => ?_)
  have C : zCx p R s m args meth c cX6_seesDigit "TwoTrue$Text" E zNC A 1 (some .boolean) 2 := C
  unfold qT_seesDigit
  refine zg_sub [0] [(0, .ref (zad E 10 0))] rfl ?_
  refine zg_aload_n C 0 1 rfl dX6_seesDigit_0 rfl ?_
  refine fgX6_24 C zn10 4 rfl dX6_seesDigit_1 ?_
  refine zg_aload_n C 0 5 rfl dX6_seesDigit_4 rfl ?_
  refine fgX6_15 C zn10 8 rfl dX6_seesDigit_5 ?_
  refine zg_icmp_ge C 43 11 rfl dX6_seesDigit_8 (by decide) ?_ ?_
  · refine zg_iconst C (0 : Int32) 44 rfl dX6_seesDigit_43 (by decide) ?_
    exact zg_zret C dX6_seesDigit_44 rfl rfl
  · refine zg_aload_n C 0 12 rfl dX6_seesDigit_11 rfl ?_
    refine fgX6_9 C zn10 15 rfl dX6_seesDigit_12 ?_
    refine zg_aload_n C 0 16 rfl dX6_seesDigit_15 rfl ?_
    refine fgX6_24 C zn10 19 rfl dX6_seesDigit_16 ?_
    refine zg_iald C 20 rfl dX6_seesDigit_19 zn11 rfl ?_
    refine zg_bipush C (48 : Int32) 22 rfl dX6_seesDigit_20 (by decide) ?_
    refine zg_icmp_lt C 43 25 rfl dX6_seesDigit_22 (by decide) ?_ ?_
    · refine zg_iconst C (0 : Int32) 44 rfl dX6_seesDigit_43 (by decide) ?_
      exact zg_zret C dX6_seesDigit_44 rfl rfl
    · refine zg_aload_n C 0 26 rfl dX6_seesDigit_25 rfl ?_
      refine fgX6_9 C zn10 29 rfl dX6_seesDigit_26 ?_
      refine zg_aload_n C 0 30 rfl dX6_seesDigit_29 rfl ?_
      refine fgX6_24 C zn10 33 rfl dX6_seesDigit_30 ?_
      refine zg_iald C 34 rfl dX6_seesDigit_33 zn11 rfl ?_
      refine zg_bipush C (57 : Int32) 36 rfl dX6_seesDigit_34 (by decide) ?_
      refine zg_icmp_gt C 43 39 rfl dX6_seesDigit_36 (by decide) ?_ ?_
      · refine zg_iconst C (0 : Int32) 44 rfl dX6_seesDigit_43 (by decide) ?_
        exact zg_zret C dX6_seesDigit_44 rfl rfl
      · refine zg_iconst C (1 : Int32) 40 rfl dX6_seesDigit_39 (by decide) ?_
        refine zg_goto C 44 dX6_seesDigit_40 (by decide) ?_
        exact zg_zret C dX6_seesDigit_44 rfl rfl
