set_option maxHeartbeats 4000000 in
set_option maxRecDepth 100000 in
theorem tS_coder {l : Launch} {E : zE} {A : Nat → Prop} (hD : zD E zNC A) (M : zM) (w : Nat) (hw : w < 4) : zCT l yJS_coder prog_13_method_152_code 1 (some .byte) 2 E zNC A [.ref (zsk E w)] M zvI zoY (qS_coder  M w) := by
  refine zCT_of (by decide) hD (by first | decide | exact Nat.le_of_ble_eq_true rfl) (fun p e R s m args below meth c C => ?_)
  have C : zCx p R s m args meth c prog_13_method_152_code "java/lang/String" E zNC A 1 (some .byte) 2 := C
  unfold qS_coder
  refine zg_sub [0] [(0, .ref (zsk E w))] rfl ?_
  refine zg_getC C 3 rfl dJ13_coder_0 zw362 ?_
  refine zg_if_eq C 13 6 rfl dJ13_coder_3 (by decide) ?_ ?_
  · refine zg_iconst C (1 : Int32) 14 rfl dJ13_coder_13 (by decide) ?_
    exact zg_zret C dJ13_coder_14 rfl rfl
  · refine zg_aload_n C 0 7 rfl dJ13_coder_6 rfl ?_
    refine zg_getK C hw 10 rfl dJ13_coder_7 zw1297 ?_
    refine zg_goto C 14 dJ13_coder_10 (by decide) ?_
    exact zg_zret C dJ13_coder_14 rfl rfl
set_option maxHeartbeats 4000000 in
set_option maxRecDepth 100000 in
theorem tS_isLatin1 {l : Launch} {E : zE} {A : Nat → Prop} (hD : zD E zNC A) (M : zM) (w : Nat) (hw : w < 4) : zCT l yJS_isLatin1 prog_13_method_154_code 1 (some .boolean) 2 E zNC A [.ref (zsk E w)] M zvI zoB (qS_isLatin1  M w) := by
  refine zCT_of (by decide) hD (by first | decide | exact Nat.le_of_ble_eq_true rfl) (fun p e R s m args below meth c C => ?_)
  have C : zCx p R s m args meth c prog_13_method_154_code "java/lang/String" E zNC A 1 (some .boolean) 2 := C
  unfold qS_isLatin1
  refine zg_sub [0] [(0, .ref (zsk E w))] rfl ?_
  refine zg_getC C 3 rfl dJ13_isLatin1_0 zw362 ?_
  refine zg_if_eq C 17 6 rfl dJ13_isLatin1_3 (by decide) ?_ ?_
  · refine zg_iconst C (0 : Int32) 18 rfl dJ13_isLatin1_17 (by decide) ?_
    exact zg_zret C dJ13_isLatin1_18 rfl rfl
  · refine zg_aload_n C 0 7 rfl dJ13_isLatin1_6 rfl ?_
    refine zg_getK C hw 10 rfl dJ13_isLatin1_7 zw1297 ?_
    refine zg_if_ne C 17 13 rfl dJ13_isLatin1_10 (by decide) ?_ ?_
    · refine zg_iconst C (1 : Int32) 14 rfl dJ13_isLatin1_13 (by decide) ?_
      refine zg_goto C 18 dJ13_isLatin1_14 (by decide) ?_
      exact zg_zret C dJ13_isLatin1_18 rfl rfl
    · refine zg_iconst C (0 : Int32) 18 rfl dJ13_isLatin1_17 (by decide) ?_
      exact zg_zret C dJ13_isLatin1_18 rfl rfl
set_option maxHeartbeats 4000000 in
set_option maxRecDepth 100000 in
theorem tL_canEncode {l : Launch} {E : zE} {A : Nat → Prop} (hD : zD E zNC A) (M : zM) (a0 : Int32) : zCT l yJL_canEncode prog_14_method_4_code 1 (some .boolean) 2 E zNC A [.int a0] M zvI zoB (qL_canEncode  M a0) := by
  refine zCT_of (by decide) hD (by first | decide | exact Nat.le_of_ble_eq_true rfl) (fun p e R s m args below meth c C => ?_)
  have C : zCx p R s m args meth c prog_14_method_4_code "java/lang/StringLatin1" E zNC A 1 (some .boolean) 2 := C
  unfold qL_canEncode
  refine zg_sub [0] [(0, .int a0)] rfl ?_
  refine zg_iload_n C 0 1 rfl dJ14_canEncode_0 rfl ?_
  refine zg_if_lt C 15 4 rfl dJ14_canEncode_1 (by decide) ?_ ?_
  · refine zg_iconst C (0 : Int32) 16 rfl dJ14_canEncode_15 (by decide) ?_
    exact zg_zret C dJ14_canEncode_16 rfl rfl
  · refine zg_iload_n C 0 5 rfl dJ14_canEncode_4 rfl ?_
    refine zg_sipush C (255 : Int32) 8 rfl dJ14_canEncode_5 (by decide) ?_
    refine zg_icmp_gt C 15 11 rfl dJ14_canEncode_8 (by decide) ?_ ?_
    · refine zg_iconst C (0 : Int32) 16 rfl dJ14_canEncode_15 (by decide) ?_
      exact zg_zret C dJ14_canEncode_16 rfl rfl
    · refine zg_iconst C (1 : Int32) 12 rfl dJ14_canEncode_11 (by decide) ?_
      refine zg_goto C 16 dJ14_canEncode_12 (by decide) ?_
      exact zg_zret C dJ14_canEncode_16 rfl rfl
set_option maxHeartbeats 4000000 in
set_option maxRecDepth 100000 in
theorem tL_indexOfChar_L7 {p : Program} {l : Launch} {e : Env} {R : Room} {s : State} {m : MethodId} {args : Array Value} {below : List Frame} {meth : Method} {c : Code} {E : zE} {A : Nat → Prop} (C : zCx p R s m args meth c prog_14_method_23_code "java/lang/StringLatin1" E zNC A 6 (some .int) 2) (hD : zD E zNC A) (k0 : Nat) (hk0 : k0 < 4) (c3 : Int32) (c4 : Int32) : ∀ (n : Nat) (M : zM) (v5 : Int32), zG p l e R s m args below meth c E zNC A 6 zvI zoT 7 [(0, .ref (zsv E k0)), (3, .int c3), (4, .int c4), (5, .int v5)] [] M (qL_indexOfChar_L7 k0 c3 c4 n M v5) := by
  intro n
  induction n with
  | zero =>
    intro M v5
    exact zg_none
  | succ n ih =>
    intro M v5
    rw [qL_indexOfChar_L7]
    refine zg_iload C 3 9 rfl dJ14_indexOfChar_7 rfl ?_
    refine zg_iload_n C 1 10 rfl dJ14_indexOfChar_9 rfl ?_
    refine zg_icmp_ge C 31 13 rfl dJ14_indexOfChar_10 (by decide) ?_ ?_
    · refine zg_iconst C (-1 : Int32) 32 rfl dJ14_indexOfChar_31 (by decide) ?_
      exact zg_iret C dJ14_indexOfChar_32 trivial
    · refine zg_aload_n C 0 14 rfl dJ14_indexOfChar_13 rfl ?_
      refine zg_iload C 3 16 rfl dJ14_indexOfChar_14 rfl ?_
      refine zg_tb C 17 rfl hk0 dJ14_indexOfChar_16 ?_
      refine zg_iload C 2 19 rfl dJ14_indexOfChar_17 rfl ?_
      refine zg_icmp_ne C 25 22 rfl dJ14_indexOfChar_19 (by decide) ?_ ?_
      · refine zg_iload C 3 24 rfl dJ14_indexOfChar_22 rfl ?_
        exact zg_iret C dJ14_indexOfChar_24 trivial
      · refine zg_iinc C 3 (v5 + (1 : Int32)) [(5, .int (v5 + (1 : Int32))), (0, .ref (zsv E k0)), (3, .int c3), (4, .int c4)] 28 rfl dJ14_indexOfChar_25 rfl (congrArg (fun z : Int32 => v5 + z) (by decide : Int32.ofInt (1) = (1 : Int32))) (by decide) rfl ?_
        refine zg_goto C 7 dJ14_indexOfChar_28 (by decide) ?_
        refine zg_sub [1, 2, 3, 0] [(0, .ref (zsv E k0)), (3, .int c3), (4, .int c4), (5, .int (v5 + (1 : Int32)))] rfl ?_
        exact ih M (v5 + (1 : Int32))
set_option maxHeartbeats 4000000 in
set_option maxRecDepth 100000 in
theorem tL_indexOfChar {l : Launch} {E : zE} {A : Nat → Prop} (hD : zD E zNC A) (M : zM) (w0 : Nat) (hw0 : w0 < 4) (a1 : Int32) (a2 : Int32) (a3 : Int32) : zCT l yJL_indexOfChar prog_14_method_23_code 6 (some .int) 2 E zNC A [.ref (zsv E w0), .int a1, .int a2, .int a3] M zvI zoT (qL_indexOfChar  M w0 a1 a2 a3) := by
  refine zCT_of (by decide) hD (by first | decide | exact Nat.le_of_ble_eq_true rfl) (fun p e R s m args below meth c C => ?_)
  have C : zCx p R s m args meth c prog_14_method_23_code "java/lang/StringLatin1" E zNC A 6 (some .int) 2 := C
  unfold qL_indexOfChar
  refine zg_sub [0, 1, 2, 3] [(0, .ref (zsv E w0)), (1, .int a1), (2, .int a2), (3, .int a3)] rfl ?_
  refine zg_iload_n C 1 1 rfl dJ14_indexOfChar_0 rfl ?_
  refine zg_i2b C 2 rfl dJ14_indexOfChar_1 ?_
  refine zg_nmI (fun x1 => ?_)
  refine zg_istore C 4 [(4, .int x1), (0, .ref (zsv E w0)), (1, .int a1), (2, .int a2), (3, .int a3)] 4 rfl dJ14_indexOfChar_2 (by decide) rfl ?_
  refine zg_iload_n C 3 5 rfl dJ14_indexOfChar_4 rfl ?_
  refine zg_istore C 5 [(5, .int a2), (4, .int x1), (0, .ref (zsv E w0)), (1, .int a1), (2, .int a2), (3, .int a3)] 7 rfl dJ14_indexOfChar_5 (by decide) rfl ?_
  refine zg_sub [2, 5, 1, 0] [(0, .ref (zsv E w0)), (3, .int a3), (4, .int x1), (5, .int a2)] rfl ?_
  refine tL_indexOfChar_L7 C hD w0 hw0 a3 x1  1000 M a2
set_option maxHeartbeats 4000000 in
set_option maxRecDepth 100000 in
theorem tC_checkIndex {l : Launch} {E : zE} {A : Nat → Prop} (hD : zD E zNC A) (M : zM) (a0 : Int32) (a1 : Int32) (z2 : Option Nat) : zCT l yJC_checkIndex prog_17_method_11_code 3 (some .int) 2 E zNC A [.int a0, .int a1, va_rf z2] M zvI zoT (qC_checkIndex  M a0 a1) := by
  cases z2
  all_goals
    refine zCT_of (by decide) hD (by first | decide | exact Nat.le_of_ble_eq_true rfl) (fun p e R s m args below meth c C => ?_)
    have C : zCx p R s m args meth c prog_17_method_11_code "jdk/internal/util/Preconditions" E zNC A 3 (some .int) 2 := C
    unfold qC_checkIndex
    refine zg_sub [0, 1] [(0, .int a0), (1, .int a1)] rfl ?_
    refine zg_iload_n C 0 1 rfl dJ17_checkIndex_0 rfl ?_
    refine zg_if_lt C 9 4 rfl dJ17_checkIndex_1 (by decide) ?_ ?_
    · exact zg_none
    · refine zg_iload_n C 0 5 rfl dJ17_checkIndex_4 rfl ?_
      refine zg_iload_n C 1 6 rfl dJ17_checkIndex_5 rfl ?_
      refine zg_icmp_lt C 16 9 rfl dJ17_checkIndex_6 (by decide) ?_ ?_
      · refine zg_iload_n C 0 17 rfl dJ17_checkIndex_16 rfl ?_
        exact zg_iret C dJ17_checkIndex_17 trivial
      · exact zg_none
set_option maxHeartbeats 4000000 in
set_option maxRecDepth 100000 in
theorem tG_thing {l : Launch} {E : zE} {A : Nat → Prop} (hD : zD E zNC A) (M : zM) (a0 : Int32) (a1 : Int32) (a2 : Int32) (a3 : Int32) : zCT l yX7_thing cX7_thing 7 (some .int) 3 E zNC A [.ref (zad E 0 0), .int a0, .int a1, .int a2, .int a3] M zvI zoT (qG_thing  M a0 a1 a2 a3) := by
  refine zCT_of (by decide) hD (by first | decide | exact Nat.le_of_ble_eq_true rfl) (fun p e R s m args below meth c C => ?_)
  have C : zCx p R s m args meth c cX7_thing "TwoTrue" E zNC A 7 (some .int) 3 := C
  unfold qG_thing
  refine zg_sub [0, 1, 2, 3, 4] [(0, .ref (zad E 0 0)), (1, .int a0), (2, .int a1), (3, .int a2), (4, .int a3)] rfl ?_
  refine zg_aload_n C 0 1 rfl dX7_thing_0 rfl ?_
  refine fgX7_12 C zn0 4 rfl dX7_thing_1 ?_
  refine zg_iload_n C 1 5 rfl dX7_thing_4 rfl ?_
  refine zg_callVI C [.int a0] 8 rfl dX7_thing_5 (tP_has hD M 0 (by decide) a0) rfl (fun _ _ hP _ => zrecv C.2.2.2.2.2.1 hP (zn1 (by decide : 0 < 3)) rfl rfl) zw292 zw289 zw290 zw291 zw2 oP_has (by decide) (Nat.le_of_ble_eq_true rfl) (fun x2 M1 h3 => ?_)
  refine zg_if_eq C 27 11 rfl dX7_thing_8 (by decide) ?_ ?_
  · refine zg_iconst C (-1 : Int32) 28 rfl dX7_thing_27 (by decide) ?_
    exact zg_iret C dX7_thing_28 trivial
  · refine zg_iload_n C 2 12 rfl dX7_thing_11 rfl ?_
    refine zg_callSI C [.int a1] 15 rfl dX7_thing_12 (tG_isOfThree hD M1 a1) rfl  zw295 zw293 zw294 zw1 oG_isOfThree (by decide) (Nat.le_of_ble_eq_true rfl) (fun x5 M4 h6 => ?_)
    refine zg_if_eq C 27 18 rfl dX7_thing_15 (by decide) ?_ ?_
    · refine zg_iconst C (-1 : Int32) 28 rfl dX7_thing_27 (by decide) ?_
      exact zg_iret C dX7_thing_28 trivial
    · refine zg_iload_n C 3 19 rfl dX7_thing_18 rfl ?_
      refine zg_if_lt C 27 22 rfl dX7_thing_19 (by decide) ?_ ?_
      · refine zg_iconst C (-1 : Int32) 28 rfl dX7_thing_27 (by decide) ?_
        exact zg_iret C dX7_thing_28 trivial
      · refine zg_iload_n C 3 23 rfl dX7_thing_22 rfl ?_
        refine zg_iconst C (1 : Int32) 24 rfl dX7_thing_23 (by decide) ?_
        refine zg_icmp_le C 29 27 rfl dX7_thing_24 (by decide) ?_ ?_
        · refine zg_iload C 4 31 rfl dX7_thing_29 rfl ?_
          refine zg_if_lt C 50 34 rfl dX7_thing_31 (by decide) ?_ ?_
          · refine zg_bipush C (-2 : Int32) 52 rfl dX7_thing_50 (by decide) ?_
            exact zg_iret C dX7_thing_52 trivial
          · refine zg_iload C 4 36 rfl dX7_thing_34 rfl ?_
            refine zg_iload_n C 3 37 rfl dX7_thing_36 rfl ?_
            refine zg_jn (fun j9 => ∀ (M8 : zM) (x7 : Int32), zG p l e R s m args below meth c E zNC A 7 zvI zoT 47 [(0, .ref (zad E 0 0)), (1, .int a0), (2, .int a1), (3, .int a2), (4, .int a3)] [.int x7, .int a3] M8 (j9 M8 x7)) (fun M8 x7 => ?_) (fun j9 hj9 => ?_)
            · refine zg_icmp_le C 53 50 rfl dX7_thing_47 (by decide) ?_ ?_
              · refine zg_iload_n C 3 54 rfl dX7_thing_53 rfl ?_
                refine zg_if_ne C 72 57 rfl dX7_thing_54 (by decide) ?_ ?_
                · refine zg_aload_n C 0 58 rfl dX7_thing_57 rfl ?_
                  refine fgX7_12 C zn0 61 rfl dX7_thing_58 ?_
                  refine fgX7_88 C (zn1 (by decide : 0 < 3)) 64 rfl dX7_thing_61 ?_
                  refine zg_iload_n C 1 65 rfl dX7_thing_64 rfl ?_
                  refine zg_aald (k2 := 2) (b := 0) (t0 := 3) C 66 rfl dX7_thing_65 (zn7 (by decide : 0 < 3)) rfl rfl (fun i10 hbi10 hei10 => ?_)
                  have hi10 : i10 < 18 := by omega
                  refine fgX7_92 C (zn2 hi10) 69 rfl dX7_thing_66 ?_
                  refine zg_goto C 84 dX7_thing_69 (by decide) ?_
                  refine zg_astore C 5 [(5, .ref (zad E 3 i10)), (0, .ref (zad E 0 0)), (1, .int a0), (2, .int a1), (3, .int a2), (4, .int a3)] 86 rfl dX7_thing_84 (by decide) rfl ?_
                  refine zg_aload C 0 88 rfl dX7_thing_86 rfl ?_
                  refine zg_iload_n C 3 89 rfl dX7_thing_88 rfl ?_
                  refine zg_iald C 90 rfl dX7_thing_89 (zn3 hi10) rfl ?_
                  refine zg_nmI (fun x11 => ?_)
                  refine zg_istore C 6 [(6, .int x11), (5, .ref (zad E 3 i10)), (0, .ref (zad E 0 0)), (1, .int a0), (2, .int a1), (3, .int a2), (4, .int a3)] 92 rfl dX7_thing_90 (by decide) rfl ?_
                  refine zg_aload C 1 94 rfl dX7_thing_92 rfl ?_
                  refine zg_iload_n C 4 95 rfl dX7_thing_94 rfl ?_
                  refine zg_iload C 6 97 rfl dX7_thing_95 rfl ?_
                  refine zg_iast C 98 rfl dX7_thing_97 (zn3 hi10) (fun _ _ => rfl) (fun M12 => ?_)
                  refine zg_iload C 0 100 rfl dX7_thing_98 rfl ?_
                  exact zg_iret C dX7_thing_100 trivial
                · refine zg_aload_n C 0 73 rfl dX7_thing_72 rfl ?_
                  refine fgX7_12 C zn0 76 rfl dX7_thing_73 ?_
                  refine fgX7_88 C (zn1 (by decide : 0 < 3)) 79 rfl dX7_thing_76 ?_
                  refine zg_iload_n C 1 80 rfl dX7_thing_79 rfl ?_
                  refine zg_aald (k2 := 2) (b := 0) (t0 := 3) C 81 rfl dX7_thing_80 (zn7 (by decide : 0 < 3)) rfl rfl (fun i13 hbi13 hei13 => ?_)
                  have hi13 : i13 < 18 := by omega
                  refine fgX7_97 C (zn2 hi13) 84 rfl dX7_thing_81 ?_
                  refine zg_astore C 5 [(5, .ref (zad E 4 i13)), (0, .ref (zad E 0 0)), (1, .int a0), (2, .int a1), (3, .int a2), (4, .int a3)] 86 rfl dX7_thing_84 (by decide) rfl ?_
                  refine zg_aload C 0 88 rfl dX7_thing_86 rfl ?_
                  refine zg_iload_n C 3 89 rfl dX7_thing_88 rfl ?_
                  refine zg_iald C 90 rfl dX7_thing_89 (zn4 hi13) rfl ?_
                  refine zg_nmI (fun x14 => ?_)
                  refine zg_istore C 6 [(6, .int x14), (5, .ref (zad E 4 i13)), (0, .ref (zad E 0 0)), (1, .int a0), (2, .int a1), (3, .int a2), (4, .int a3)] 92 rfl dX7_thing_90 (by decide) rfl ?_
                  refine zg_aload C 1 94 rfl dX7_thing_92 rfl ?_
                  refine zg_iload_n C 4 95 rfl dX7_thing_94 rfl ?_
                  refine zg_iload C 6 97 rfl dX7_thing_95 rfl ?_
                  refine zg_iast C 98 rfl dX7_thing_97 (zn4 hi13) (fun _ _ => rfl) (fun M15 => ?_)
                  refine zg_iload C 0 100 rfl dX7_thing_98 rfl ?_
                  exact zg_iret C dX7_thing_100 trivial
              · refine zg_bipush C (-2 : Int32) 52 rfl dX7_thing_50 (by decide) ?_
                exact zg_iret C dX7_thing_52 trivial
            · refine zg_if_ne C 45 40 rfl dX7_thing_37 (by decide) ?_ ?_
              · refine zg_bipush C (99 : Int32) 42 rfl dX7_thing_40 (by decide) ?_
                refine zg_goto C 47 dX7_thing_42 (by decide) ?_
                exact hj9 M4 (99 : Int32)
              · refine zg_bipush C (9 : Int32) 47 rfl dX7_thing_45 (by decide) ?_
                exact hj9 M4 (9 : Int32)
        · refine zg_iconst C (-1 : Int32) 28 rfl dX7_thing_27 (by decide) ?_
          exact zg_iret C dX7_thing_28 trivial
set_option maxHeartbeats 4000000 in
set_option maxRecDepth 100000 in
theorem tG_lie {l : Launch} {E : zE} {A : Nat → Prop} (hD : zD E zNC A) (M : zM) (a0 : Int32) (a1 : Int32) : zCT l yX7_lie cX7_lie 4 (some .int) 3 E zNC A [.ref (zad E 0 0), .int a0, .int a1] M zvI zoT (qG_lie  M a0 a1) := by
  refine zCT_of (by decide) hD (by first | decide | exact Nat.le_of_ble_eq_true rfl) (fun p e R s m args below meth c C => ?_)
  have C : zCx p R s m args meth c cX7_lie "TwoTrue" E zNC A 4 (some .int) 3 := C
  unfold qG_lie
  refine zg_sub [0, 1, 2] [(0, .ref (zad E 0 0)), (1, .int a0), (2, .int a1)] rfl ?_
  refine zg_aload_n C 0 1 rfl dX7_lie_0 rfl ?_
  refine fgX7_12 C zn0 4 rfl dX7_lie_1 ?_
  refine zg_iload_n C 1 5 rfl dX7_lie_4 rfl ?_
  refine zg_callVI C [.int a0] 8 rfl dX7_lie_5 (tP_has hD M 0 (by decide) a0) rfl (fun _ _ hP _ => zrecv C.2.2.2.2.2.1 hP (zn1 (by decide : 0 < 3)) rfl rfl) zw292 zw289 zw290 zw291 zw2 oP_has (by decide) (Nat.le_of_ble_eq_true rfl) (fun x2 M1 h3 => ?_)
  refine zg_if_eq C 18 11 rfl dX7_lie_8 (by decide) ?_ ?_
  · refine zg_iconst C (-1 : Int32) 19 rfl dX7_lie_18 (by decide) ?_
    exact zg_iret C dX7_lie_19 trivial
  · refine zg_iload_n C 2 12 rfl dX7_lie_11 rfl ?_
    refine zg_callSI C [.int a1] 15 rfl dX7_lie_12 (tG_isOfThree hD M1 a1) rfl  zw295 zw293 zw294 zw1 oG_isOfThree (by decide) (Nat.le_of_ble_eq_true rfl) (fun x5 M4 h6 => ?_)
    refine zg_if_ne C 20 18 rfl dX7_lie_15 (by decide) ?_ ?_
    · refine zg_iconst C (-1 : Int32) 19 rfl dX7_lie_18 (by decide) ?_
      exact zg_iret C dX7_lie_19 trivial
    · refine zg_aload_n C 0 21 rfl dX7_lie_20 rfl ?_
      refine fgX7_12 C zn0 24 rfl dX7_lie_21 ?_
      refine fgX7_88 C (zn1 (by decide : 0 < 3)) 27 rfl dX7_lie_24 ?_
      refine zg_iload_n C 1 28 rfl dX7_lie_27 rfl ?_
      refine zg_aald (k2 := 2) (b := 0) (t0 := 3) C 29 rfl dX7_lie_28 (zn7 (by decide : 0 < 3)) rfl rfl (fun i7 hbi7 hei7 => ?_)
      have hi7 : i7 < 18 := by omega
      refine fgX7_100 C (zn2 hi7) 32 rfl dX7_lie_29 ?_
      refine zg_nmI (fun x8 => ?_)
      refine zg_istore_n C 3 [(3, .int x8), (0, .ref (zad E 0 0)), (1, .int a0), (2, .int a1)] 33 rfl dX7_lie_32 rfl (by decide) rfl ?_
      refine zg_aload_n C 1 34 rfl dX7_lie_33 rfl ?_
      refine fgX7_12 C zn0 37 rfl dX7_lie_34 ?_
      refine fgX7_88 C (zn1 (by decide : 0 < 3)) 40 rfl dX7_lie_37 ?_
      refine zg_iload_n C 2 41 rfl dX7_lie_40 rfl ?_
      refine zg_aald (k2 := 2) (b := 0) (t0 := 3) C 42 rfl dX7_lie_41 (zn7 (by decide : 0 < 3)) rfl rfl (fun i9 hbi9 hei9 => ?_)
      have hi9 : i9 < 18 := by omega
      refine zg_iload_n C 3 43 rfl dX7_lie_42 rfl ?_
      refine fpX7_100 C (zn2 hi9) 46 rfl dX7_lie_43 (fun M10 => ?_)
      refine zg_iload_n C 0 47 rfl dX7_lie_46 rfl ?_
      exact zg_iret C dX7_lie_47 trivial
set_option maxHeartbeats 4000000 in
set_option maxRecDepth 100000 in
theorem tG_tells {l : Launch} {E : zE} {A : Nat → Prop} (hD : zD E zNC A) (M : zM) (a0 : Int32) (a1 : Int32) (a2 : Int32) : zCT l yX7_tells cX7_tells 4 (some .int) 3 E zNC A [.ref (zad E 0 0), .int a0, .int a1, .int a2] M zvI zoT (qG_tells  M a0 a1 a2) := by
  refine zCT_of (by decide) hD (by first | decide | exact Nat.le_of_ble_eq_true rfl) (fun p e R s m args below meth c C => ?_)
  have C : zCx p R s m args meth c cX7_tells "TwoTrue" E zNC A 4 (some .int) 3 := C
  unfold qG_tells
  refine zg_sub [0, 1, 2, 3] [(0, .ref (zad E 0 0)), (1, .int a0), (2, .int a1), (3, .int a2)] rfl ?_
  refine zg_aload_n C 0 1 rfl dX7_tells_0 rfl ?_
  refine fgX7_12 C zn0 4 rfl dX7_tells_1 ?_
  refine zg_iload_n C 1 5 rfl dX7_tells_4 rfl ?_
  refine zg_callVI C [.int a0] 8 rfl dX7_tells_5 (tP_has hD M 0 (by decide) a0) rfl (fun _ _ hP _ => zrecv C.2.2.2.2.2.1 hP (zn1 (by decide : 0 < 3)) rfl rfl) zw292 zw289 zw290 zw291 zw2 oP_has (by decide) (Nat.le_of_ble_eq_true rfl) (fun x2 M1 h3 => ?_)
  refine zg_if_eq C 25 11 rfl dX7_tells_8 (by decide) ?_ ?_
  · refine zg_iconst C (-1 : Int32) 26 rfl dX7_tells_25 (by decide) ?_
    exact zg_iret C dX7_tells_26 trivial
  · refine zg_iload_n C 2 12 rfl dX7_tells_11 rfl ?_
    refine zg_callSI C [.int a1] 15 rfl dX7_tells_12 (tG_isOfThree hD M1 a1) rfl  zw295 zw293 zw294 zw1 oG_isOfThree (by decide) (Nat.le_of_ble_eq_true rfl) (fun x5 M4 h6 => ?_)
    refine zg_if_eq C 25 18 rfl dX7_tells_15 (by decide) ?_ ?_
    · refine zg_iconst C (-1 : Int32) 26 rfl dX7_tells_25 (by decide) ?_
      exact zg_iret C dX7_tells_26 trivial
    · refine zg_iload_n C 3 19 rfl dX7_tells_18 rfl ?_
      refine zg_callSI C [.int a2] 22 rfl dX7_tells_19 (tG_isOfThree hD M4 a2) rfl  zw295 zw293 zw294 zw1 oG_isOfThree (by decide) (Nat.le_of_ble_eq_true rfl) (fun x8 M7 h9 => ?_)
      refine zg_if_ne C 27 25 rfl dX7_tells_22 (by decide) ?_ ?_
      · refine zg_iconst C (-1 : Int32) 26 rfl dX7_tells_25 (by decide) ?_
        exact zg_iret C dX7_tells_26 trivial
      · refine zg_iload_n C 2 28 rfl dX7_tells_27 rfl ?_
        refine zg_iload_n C 3 29 rfl dX7_tells_28 rfl ?_
        refine zg_icmp_ne C 35 32 rfl dX7_tells_29 (by decide) ?_ ?_
        · refine zg_bipush C (-2 : Int32) 34 rfl dX7_tells_32 (by decide) ?_
          exact zg_iret C dX7_tells_34 trivial
        · refine zg_aload_n C 0 36 rfl dX7_tells_35 rfl ?_
          refine fgX7_12 C zn0 39 rfl dX7_tells_36 ?_
          refine fgX7_88 C (zn1 (by decide : 0 < 3)) 42 rfl dX7_tells_39 ?_
          refine zg_iload_n C 1 43 rfl dX7_tells_42 rfl ?_
          refine zg_aald (k2 := 2) (b := 0) (t0 := 3) C 44 rfl dX7_tells_43 (zn7 (by decide : 0 < 3)) rfl rfl (fun i10 hbi10 hei10 => ?_)
          have hi10 : i10 < 18 := by omega
          refine zg_iload_n C 2 45 rfl dX7_tells_44 rfl ?_
          refine zg_iload_n C 3 46 rfl dX7_tells_45 rfl ?_
          refine zg_callVU C [.int a1, .int a2] 49 rfl dX7_tells_46 (tN_setOrder hD M7 i10 hi10 a1 a2) rfl (fun _ _ hP _ => zrecv C.2.2.2.2.2.1 hP (zn2 hi10) rfl rfl) zw307 zw304 zw305 zw306 zw3 oN_setOrder (by decide) (Nat.le_of_ble_eq_true rfl) (fun _u M11 h12 => ?_)
          refine zg_iconst C (1 : Int32) 50 rfl dX7_tells_49 (by decide) ?_
          exact zg_iret C dX7_tells_50 trivial
set_option maxHeartbeats 4000000 in
set_option maxRecDepth 100000 in
theorem tG_row {l : Launch} {E : zE} {A : Nat → Prop} (hD : zD E zNC A) (M : zM) (a0 : Int32) (a1 : Int32) (a2 : Int32) : zCT l yX7_row cX7_row 6 (some .int) 3 E zNC A [.ref (zad E 0 0), .int a0, .int a1, .int a2] M zvI zoT (qG_row  M a0 a1 a2) := by
  refine zCT_of (by decide) hD (by first | decide | exact Nat.le_of_ble_eq_true rfl) (fun p e R s m args below meth c C => ?_)
  have C : zCx p R s m args meth c cX7_row "TwoTrue" E zNC A 6 (some .int) 3 := C
  unfold qG_row
  refine zg_sub [0, 1, 2, 3] [(0, .ref (zad E 0 0)), (1, .int a0), (2, .int a1), (3, .int a2)] rfl ?_
  refine zg_aload_n C 0 1 rfl dX7_row_0 rfl ?_
  refine fgX7_12 C zn0 4 rfl dX7_row_1 ?_
  refine zg_iload_n C 1 5 rfl dX7_row_4 rfl ?_
  refine zg_callVI C [.int a0] 8 rfl dX7_row_5 (tP_has hD M 0 (by decide) a0) rfl (fun _ _ hP _ => zrecv C.2.2.2.2.2.1 hP (zn1 (by decide : 0 < 3)) rfl rfl) zw292 zw289 zw290 zw291 zw2 oP_has (by decide) (Nat.le_of_ble_eq_true rfl) (fun x2 M1 h3 => ?_)
  refine zg_if_eq C 20 11 rfl dX7_row_8 (by decide) ?_ ?_
  · refine zg_iconst C (-1 : Int32) 21 rfl dX7_row_20 (by decide) ?_
    exact zg_iret C dX7_row_21 trivial
  · refine zg_iload_n C 2 12 rfl dX7_row_11 rfl ?_
    refine zg_if_lt C 20 15 rfl dX7_row_12 (by decide) ?_ ?_
    · refine zg_iconst C (-1 : Int32) 21 rfl dX7_row_20 (by decide) ?_
      exact zg_iret C dX7_row_21 trivial
    · refine zg_iload_n C 2 16 rfl dX7_row_15 rfl ?_
      refine zg_iconst C (4 : Int32) 17 rfl dX7_row_16 (by decide) ?_
      refine zg_icmp_lt C 22 20 rfl dX7_row_17 (by decide) ?_ ?_
      · refine zg_iload_n C 3 23 rfl dX7_row_22 rfl ?_
        refine zg_callSI C [.int a2] 26 rfl dX7_row_23 (tG_isOfThree hD M1 a2) rfl  zw295 zw293 zw294 zw1 oG_isOfThree (by decide) (Nat.le_of_ble_eq_true rfl) (fun x5 M4 h6 => ?_)
        refine zg_if_ne C 32 29 rfl dX7_row_26 (by decide) ?_ ?_
        · refine zg_bipush C (-2 : Int32) 31 rfl dX7_row_29 (by decide) ?_
          exact zg_iret C dX7_row_31 trivial
        · refine zg_aload_n C 0 33 rfl dX7_row_32 rfl ?_
          refine fgX7_12 C zn0 36 rfl dX7_row_33 ?_
          refine fgX7_88 C (zn1 (by decide : 0 < 3)) 39 rfl dX7_row_36 ?_
          refine zg_iload_n C 1 40 rfl dX7_row_39 rfl ?_
          refine zg_aald (k2 := 2) (b := 0) (t0 := 3) C 41 rfl dX7_row_40 (zn7 (by decide : 0 < 3)) rfl rfl (fun i7 hbi7 hei7 => ?_)
          have hi7 : i7 < 18 := by omega
          refine zg_astore C 4 [(4, .ref (zad E 2 i7)), (0, .ref (zad E 0 0)), (1, .int a0), (2, .int a1), (3, .int a2)] 43 rfl dX7_row_41 (by decide) rfl ?_
          refine zg_aload C 0 45 rfl dX7_row_43 rfl ?_
          refine fgX7_111 C (zn2 hi7) 48 rfl dX7_row_45 ?_
          refine zg_bipush C (6 : Int32) 50 rfl dX7_row_48 (by decide) ?_
          refine zg_icmp_eq C 56 53 rfl dX7_row_50 (by decide) ?_ ?_
          · refine zg_aload C 0 58 rfl dX7_row_56 rfl ?_
            refine fgX7_114 C (zn2 hi7) 61 rfl dX7_row_58 ?_
            refine zg_iload_n C 3 62 rfl dX7_row_61 rfl ?_
            refine zg_iald C 63 rfl dX7_row_62 (zn6 hi7) rfl ?_
            refine zg_nmI (fun x8 => ?_)
            refine zg_istore C 5 [(5, .int x8), (4, .ref (zad E 2 i7)), (0, .ref (zad E 0 0)), (1, .int a0), (2, .int a1), (3, .int a2)] 65 rfl dX7_row_63 (by decide) rfl ?_
            refine zg_aload C 1 67 rfl dX7_row_65 rfl ?_
            refine fgX7_114 C (zn2 hi7) 70 rfl dX7_row_67 ?_
            refine zg_iload_n C 4 71 rfl dX7_row_70 rfl ?_
            refine zg_iload_n C 5 72 rfl dX7_row_71 rfl ?_
            refine zg_iast C 73 rfl dX7_row_72 (zn6 hi7) (fun _ _ => rfl) (fun M9 => ?_)
            refine zg_iload C 0 75 rfl dX7_row_73 rfl ?_
            exact zg_iret C dX7_row_75 trivial
          · refine zg_bipush C (-3 : Int32) 55 rfl dX7_row_53 (by decide) ?_
            exact zg_iret C dX7_row_55 trivial
      · refine zg_iconst C (-1 : Int32) 21 rfl dX7_row_20 (by decide) ?_
        exact zg_iret C dX7_row_21 trivial
set_option maxHeartbeats 4000000 in
set_option maxRecDepth 100000 in
theorem tG_feed {l : Launch} {E : zE} {A : Nat → Prop} (hD : zD E zNC A) (M : zM) (a0 : Int32) : zCT l yX7_feed cX7_feed 2 (some .int) 3 E zNC A [.ref (zad E 0 0), .int a0] M zvI zoT (qG_feed  M a0) := by
  refine zCT_of (by decide) hD (by first | decide | exact Nat.le_of_ble_eq_true rfl) (fun p e R s m args below meth c C => ?_)
  have C : zCx p R s m args meth c cX7_feed "TwoTrue" E zNC A 2 (some .int) 3 := C
  unfold qG_feed
  refine zg_sub [0, 1] [(0, .ref (zad E 0 0)), (1, .int a0)] rfl ?_
  refine zg_iload_n C 1 1 rfl dX7_feed_0 rfl ?_
  refine zg_if_lt C 10 4 rfl dX7_feed_1 (by decide) ?_ ?_
  · refine zg_bipush C (-2 : Int32) 12 rfl dX7_feed_10 (by decide) ?_
    exact zg_iret C dX7_feed_12 trivial
  · refine zg_iload_n C 1 5 rfl dX7_feed_4 rfl ?_
    refine zg_bipush C (127 : Int32) 7 rfl dX7_feed_5 (by decide) ?_
    refine zg_icmp_le C 13 10 rfl dX7_feed_7 (by decide) ?_ ?_
    · refine zg_aload_n C 0 14 rfl dX7_feed_13 rfl ?_
      refine fgX7_27 C zn0 17 rfl dX7_feed_14 ?_
      refine fgX7_117 C zn10 20 rfl dX7_feed_17 ?_
      refine zg_bipush C (100 : Int32) 22 rfl dX7_feed_20 (by decide) ?_
      refine zg_icmp_lt C 30 25 rfl dX7_feed_22 (by decide) ?_ ?_
      · refine zg_aload_n C 0 31 rfl dX7_feed_30 rfl ?_
        refine fgX7_27 C zn0 34 rfl dX7_feed_31 ?_
        refine zg_iload_n C 1 35 rfl dX7_feed_34 rfl ?_
        refine zg_callVI C [.int a0] 38 rfl dX7_feed_35 (tT_append hD M a0) rfl (fun _ _ hP _ => zrecv C.2.2.2.2.2.1 hP zn10 rfl rfl) zw328 zw325 zw326 zw327 zw4 oT_append (by decide) (Nat.le_of_ble_eq_true rfl) (fun x2 M1 h3 => ?_)
        exact zg_iret C dX7_feed_38 trivial
      · refine zg_bipush C (-4 : Int32) 27 rfl dX7_feed_25 (by decide) ?_
        refine zg_goto C 38 dX7_feed_27 (by decide) ?_
        exact zg_iret C dX7_feed_38 trivial
    · refine zg_bipush C (-2 : Int32) 12 rfl dX7_feed_10 (by decide) ?_
      exact zg_iret C dX7_feed_12 trivial
set_option maxHeartbeats 4000000 in
set_option maxRecDepth 100000 in
theorem tG_told {l : Launch} {E : zE} {A : Nat → Prop} (hD : zD E zNC A) (M : zM) (a0 : Int32) : zCT l yX7_told cX7_told 2 (some .int) 3 E zNC A [.ref (zad E 0 0), .int a0] M zvI zoT (qG_told  M a0) := by
  refine zCT_of (by decide) hD (by first | decide | exact Nat.le_of_ble_eq_true rfl) (fun p e R s m args below meth c C => ?_)
  have C : zCx p R s m args meth c cX7_told "TwoTrue" E zNC A 2 (some .int) 3 := C
  unfold qG_told
  refine zg_sub [0, 1] [(0, .ref (zad E 0 0)), (1, .int a0)] rfl ?_
  refine zg_iload_n C 1 1 rfl dX7_told_0 rfl ?_
  refine zg_if (fun h1 => ?_) (fun h1 => ?_)
  · refine zg_look C (27) 28 dX7_told_1 (by decide) (by rw [zxi h1 (by decide : (0 : Int32).toInt = 0)]; rfl) (by decide) ?_
    refine zg_aload_n C 0 29 rfl dX7_told_28 rfl ?_
    refine fgX7_12 C zn0 32 rfl dX7_told_29 ?_
    refine fgX7_133 C (zn1 (by decide : 0 < 3)) 35 rfl dX7_told_32 ?_
    exact zg_iret C dX7_told_35 trivial
  · refine zg_if (fun h2 => ?_) (fun h2 => ?_)
    · refine zg_look C (35) 36 dX7_told_1 (by decide) (by rw [zxi h2 (by decide : (1 : Int32).toInt = 1)]; rfl) (by decide) ?_
      refine zg_aload_n C 0 37 rfl dX7_told_36 rfl ?_
      refine zg_callVR C [] 40 rfl dX7_told_37 (tG_held hD M ) rfl (fun _ _ hP _ => zrecv C.2.2.2.2.2.1 hP zn0 rfl rfl) zw500 zw497 zw499 zv9 zw1 oG_held (by decide) (Nat.le_of_ble_eq_true rfl) (fun i5 M3 h6 => ?_)
      refine fgX7_140 C (zn13 h6) 43 rfl dX7_told_40 ?_
      exact zg_iret C dX7_told_43 trivial
    · refine zg_look C (43) 44 dX7_told_1 (by decide) (by show Op.lookupswitch.offset [(0, 27), (1, 35)] (43) a0.toInt = 43; rw [lv_osw h1 (by decide : (0 : Int32).toInt = 0), lv_osw h2 (by decide : (1 : Int32).toInt = 1)]; rfl) (by decide) ?_
      refine zg_iconst C (-1 : Int32) 45 rfl dX7_told_44 (by decide) ?_
      exact zg_iret C dX7_told_45 trivial
set_option maxHeartbeats 4000000 in
set_option maxRecDepth 100000 in
theorem tG_stepRow_L4 {p : Program} {l : Launch} {e : Env} {R : Room} {s : State} {m : MethodId} {args : Array Value} {below : List Frame} {meth : Method} {c : Code} {E : zE} {A : Nat → Prop} (C : zCx p R s m args meth c cX7_stepRow "TwoTrue" E zNC A 6 (some .boolean) 3) (hD : zD E zNC A) (c1 : Int32) {e25 : zM → Int32 → Option (Int32 × zM)} (he25 : ∀ (M : zM) (u2 : Int32), zG p l e R s m args below meth c E zNC A 6 zvI zoB 25 [(0, .ref (zad E 23 0)), (1, .int c1), (2, .int u2)] [] M (e25 M u2)) : ∀ (n : Nat) (M : zM) (v2 : Int32), zG p l e R s m args below meth c E zNC A 6 zvI zoB 4 [(0, .ref (zad E 23 0)), (1, .int c1), (2, .int v2)] [] M (qG_stepRow_L4 c1 e25 n M v2) := by
  intro n
  induction n with
  | zero =>
    intro M v2
    exact zg_none
  | succ n ih =>
    intro M v2
    rw [qG_stepRow_L4]
    refine zg_iload_n C 2 5 rfl dX7_stepRow_4 rfl ?_
    refine zg_if_lt C 25 8 rfl dX7_stepRow_5 (by decide) ?_ ?_
    · exact he25 M v2
    · refine zg_aload_n C 0 9 rfl dX7_stepRow_8 rfl ?_
      refine zg_iload_n C 2 10 rfl dX7_stepRow_9 rfl ?_
      refine zg_iald C 11 rfl dX7_stepRow_10 zn23 rfl ?_
      refine zg_aload_n C 0 12 rfl dX7_stepRow_11 rfl ?_
      refine zg_iload_n C 2 13 rfl dX7_stepRow_12 rfl ?_
      refine zg_iconst C (1 : Int32) 14 rfl dX7_stepRow_13 (by decide) ?_
      refine zg_iadd C 15 rfl dX7_stepRow_14 ?_
      refine zg_iald C 16 rfl dX7_stepRow_15 zn23 rfl ?_
      refine zg_icmp_le C 25 19 rfl dX7_stepRow_16 (by decide) ?_ ?_
      · exact he25 M v2
      · refine zg_iinc C 2 (v2 + (-1 : Int32)) [(2, .int (v2 + (-1 : Int32))), (0, .ref (zad E 23 0)), (1, .int c1)] 22 rfl dX7_stepRow_19 rfl (congrArg (fun z : Int32 => v2 + z) (by decide : Int32.ofInt (-1) = (-1 : Int32))) (by decide) rfl ?_
        refine zg_goto C 4 dX7_stepRow_22 (by decide) ?_
        refine zg_sub [1, 2, 0] [(0, .ref (zad E 23 0)), (1, .int c1), (2, .int (v2 + (-1 : Int32)))] rfl ?_
        exact ih M (v2 + (-1 : Int32))
set_option maxHeartbeats 4000000 in
set_option maxRecDepth 100000 in
theorem tG_stepRow_L35 {p : Program} {l : Launch} {e : Env} {R : Room} {s : State} {m : MethodId} {args : Array Value} {below : List Frame} {meth : Method} {c : Code} {E : zE} {A : Nat → Prop} (C : zCx p R s m args meth c cX7_stepRow "TwoTrue" E zNC A 6 (some .boolean) 3) (hD : zD E zNC A) (c1 : Int32) (c2 : Int32) {e55 : zM → Int32 → Option (Int32 × zM)} (he55 : ∀ (M : zM) (u3 : Int32), zG p l e R s m args below meth c E zNC A 6 zvI zoB 55 [(0, .ref (zad E 23 0)), (1, .int c1), (2, .int c2), (3, .int u3)] [] M (e55 M u3)) : ∀ (n : Nat) (M : zM) (v3 : Int32), zG p l e R s m args below meth c E zNC A 6 zvI zoB 35 [(0, .ref (zad E 23 0)), (1, .int c1), (2, .int c2), (3, .int v3)] [] M (qG_stepRow_L35 c1 c2 e55 n M v3) := by
  intro n
  induction n with
  | zero =>
    intro M v3
    exact zg_none
  | succ n ih =>
    intro M v3
    rw [qG_stepRow_L35]
    refine zg_iload_n C 3 36 rfl dX7_stepRow_35 rfl ?_
    refine zg_iload_n C 2 37 rfl dX7_stepRow_36 rfl ?_
    refine zg_icmp_le C 55 40 rfl dX7_stepRow_37 (by decide) ?_ ?_
    · exact he55 M v3
    · refine zg_aload_n C 0 41 rfl dX7_stepRow_40 rfl ?_
      refine zg_iload_n C 3 42 rfl dX7_stepRow_41 rfl ?_
      refine zg_iald C 43 rfl dX7_stepRow_42 zn23 rfl ?_
      refine zg_aload_n C 0 44 rfl dX7_stepRow_43 rfl ?_
      refine zg_iload_n C 2 45 rfl dX7_stepRow_44 rfl ?_
      refine zg_iald C 46 rfl dX7_stepRow_45 zn23 rfl ?_
      refine zg_icmp_ge C 55 49 rfl dX7_stepRow_46 (by decide) ?_ ?_
      · exact he55 M v3
      · refine zg_iinc C 3 (v3 + (-1 : Int32)) [(3, .int (v3 + (-1 : Int32))), (0, .ref (zad E 23 0)), (1, .int c1), (2, .int c2)] 52 rfl dX7_stepRow_49 rfl (congrArg (fun z : Int32 => v3 + z) (by decide : Int32.ofInt (-1) = (-1 : Int32))) (by decide) rfl ?_
        refine zg_goto C 35 dX7_stepRow_52 (by decide) ?_
        refine zg_sub [1, 2, 3, 0] [(0, .ref (zad E 23 0)), (1, .int c1), (2, .int c2), (3, .int (v3 + (-1 : Int32)))] rfl ?_
        exact ih M (v3 + (-1 : Int32))
set_option maxHeartbeats 4000000 in
set_option maxRecDepth 100000 in
theorem tG_stepRow_L71 {p : Program} {l : Launch} {e : Env} {R : Room} {s : State} {m : MethodId} {args : Array Value} {below : List Frame} {meth : Method} {c : Code} {E : zE} {A : Nat → Prop} (C : zCx p R s m args meth c cX7_stepRow "TwoTrue" E zNC A 6 (some .boolean) 3) (hD : zD E zNC A) : ∀ (n : Nat) (M : zM) (v4 : Int32) (v5 : Int32), zG p l e R s m args below meth c E zNC A 6 zvI zoB 71 [(0, .ref (zad E 23 0)), (4, .int v4), (5, .int v5)] [] M (qG_stepRow_L71 n M v4 v5) := by
  intro n
  induction n with
  | zero =>
    intro M v4 v5
    exact zg_none
  | succ n ih =>
    intro M v4 v5
    rw [qG_stepRow_L71]
    refine zg_iload C 1 73 rfl dX7_stepRow_71 rfl ?_
    refine zg_iload C 2 75 rfl dX7_stepRow_73 rfl ?_
    refine zg_icmp_ge C 95 78 rfl dX7_stepRow_75 (by decide) ?_ ?_
    · refine zg_iconst C (1 : Int32) 96 rfl dX7_stepRow_95 (by decide) ?_
      exact zg_zret C dX7_stepRow_96 rfl rfl
    · refine zg_aload_n C 0 79 rfl dX7_stepRow_78 rfl ?_
      refine zg_iload C 1 81 rfl dX7_stepRow_79 rfl ?_
      refine zg_iload C 2 83 rfl dX7_stepRow_81 rfl ?_
      refine zg_callSU C [.ref (zad E 23 0), .int v4, .int v5] 86 rfl dX7_stepRow_83 (tG_exchange hD M v4 v5) rfl  zw611 zw609 zw610 zw1 oG_exchange (by decide) (Nat.le_of_ble_eq_true rfl) (fun _u M11 h12 => ?_)
      refine zg_iinc C 1 (v4 + (1 : Int32)) [(4, .int (v4 + (1 : Int32))), (0, .ref (zad E 23 0)), (5, .int v5)] 89 rfl dX7_stepRow_86 rfl (congrArg (fun z : Int32 => v4 + z) (by decide : Int32.ofInt (1) = (1 : Int32))) (by decide) rfl ?_
      refine zg_iinc C 2 (v5 + (-1 : Int32)) [(5, .int (v5 + (-1 : Int32))), (4, .int (v4 + (1 : Int32))), (0, .ref (zad E 23 0))] 92 rfl dX7_stepRow_89 rfl (congrArg (fun z : Int32 => v5 + z) (by decide : Int32.ofInt (-1) = (-1 : Int32))) (by decide) rfl ?_
      refine zg_goto C 71 dX7_stepRow_92 (by decide) ?_
      refine zg_sub [2, 1, 0] [(0, .ref (zad E 23 0)), (4, .int (v4 + (1 : Int32))), (5, .int (v5 + (-1 : Int32)))] rfl ?_
      exact ih M11 (v4 + (1 : Int32)) (v5 + (-1 : Int32))
set_option maxHeartbeats 4000000 in
set_option maxRecDepth 100000 in
theorem tG_stepRow {l : Launch} {E : zE} {A : Nat → Prop} (hD : zD E zNC A) (M : zM) (a1 : Int32) : zCT l yX7_stepRow cX7_stepRow 6 (some .boolean) 3 E zNC A [.ref (zad E 23 0), .int a1] M zvI zoB (qG_stepRow  M a1) := by
  refine zCT_of (by decide) hD (by first | decide | exact Nat.le_of_ble_eq_true rfl) (fun p e R s m args below meth c C => ?_)
  have C : zCx p R s m args meth c cX7_stepRow "TwoTrue" E zNC A 6 (some .boolean) 3 := C
  unfold qG_stepRow
  refine zg_sub [0, 1] [(0, .ref (zad E 23 0)), (1, .int a1)] rfl ?_
  refine zg_iload_n C 1 1 rfl dX7_stepRow_0 rfl ?_
  refine zg_iconst C (2 : Int32) 2 rfl dX7_stepRow_1 (by decide) ?_
  refine zg_isub C 3 rfl dX7_stepRow_2 ?_
  refine zg_nmI (fun x1 => ?_)
  refine zg_istore_n C 2 [(2, .int x1), (0, .ref (zad E 23 0)), (1, .int a1)] 4 rfl dX7_stepRow_3 rfl (by decide) rfl ?_
  refine zg_sub [1, 2, 0] [(0, .ref (zad E 23 0)), (1, .int a1), (2, .int x1)] rfl ?_
  refine tG_stepRow_L4 C hD a1 (fun M2 x3 => ?_) 1000 M x1
  · refine zg_iload_n C 2 26 rfl dX7_stepRow_25 rfl ?_
    refine zg_if_ge C 31 29 rfl dX7_stepRow_26 (by decide) ?_ ?_
    · refine zg_iload_n C 1 32 rfl dX7_stepRow_31 rfl ?_
      refine zg_iconst C (1 : Int32) 33 rfl dX7_stepRow_32 (by decide) ?_
      refine zg_isub C 34 rfl dX7_stepRow_33 ?_
      refine zg_nmI (fun x4 => ?_)
      refine zg_istore_n C 3 [(3, .int x4), (0, .ref (zad E 23 0)), (1, .int a1), (2, .int x3)] 35 rfl dX7_stepRow_34 rfl (by decide) rfl ?_
      refine zg_sub [1, 2, 3, 0] [(0, .ref (zad E 23 0)), (1, .int a1), (2, .int x3), (3, .int x4)] rfl ?_
      refine tG_stepRow_L35 C hD a1 x3 (fun M5 x6 => ?_) 1000 M2 x4
      · refine zg_aload_n C 0 56 rfl dX7_stepRow_55 rfl ?_
        refine zg_iload_n C 2 57 rfl dX7_stepRow_56 rfl ?_
        refine zg_iload_n C 3 58 rfl dX7_stepRow_57 rfl ?_
        refine zg_callSU C [.ref (zad E 23 0), .int x3, .int x6] 61 rfl dX7_stepRow_58 (tG_exchange hD M5 x3 x6) rfl  zw611 zw609 zw610 zw1 oG_exchange (by decide) (Nat.le_of_ble_eq_true rfl) (fun _u M7 h8 => ?_)
        refine zg_iload_n C 2 62 rfl dX7_stepRow_61 rfl ?_
        refine zg_iconst C (1 : Int32) 63 rfl dX7_stepRow_62 (by decide) ?_
        refine zg_iadd C 64 rfl dX7_stepRow_63 ?_
        refine zg_nmI (fun x9 => ?_)
        refine zg_istore C 4 [(4, .int x9), (0, .ref (zad E 23 0)), (1, .int a1), (2, .int x3), (3, .int x6)] 66 rfl dX7_stepRow_64 (by decide) rfl ?_
        refine zg_iload_n C 2 67 rfl dX7_stepRow_66 rfl ?_
        refine zg_iconst C (1 : Int32) 68 rfl dX7_stepRow_67 (by decide) ?_
        refine zg_isub C 69 rfl dX7_stepRow_68 ?_
        refine zg_nmI (fun x10 => ?_)
        refine zg_istore C 5 [(5, .int x10), (4, .int x9), (0, .ref (zad E 23 0)), (1, .int a1), (2, .int x3), (3, .int x6)] 71 rfl dX7_stepRow_69 (by decide) rfl ?_
        refine zg_sub [2, 1, 0] [(0, .ref (zad E 23 0)), (4, .int x9), (5, .int x10)] rfl ?_
        refine tG_stepRow_L71 C hD   1000 M7 x9 x10
    · refine zg_iconst C (0 : Int32) 30 rfl dX7_stepRow_29 (by decide) ?_
      exact zg_zret C dX7_stepRow_30 rfl rfl
set_option maxHeartbeats 4000000 in
set_option maxRecDepth 100000 in
theorem tG_see {l : Launch} {E : zE} {A : Nat → Prop} (hD : zD E zNC A) (M : zM) (a0 : Int32) (a1 : Int32) : zCT l yX7_see cX7_see 4 (some .int) 3 E zNC A [.ref (zad E 0 0), .int a0, .int a1] M zvI zoT (qG_see  M a0 a1) := by
  refine zCT_of (by decide) hD (by first | decide | exact Nat.le_of_ble_eq_true rfl) (fun p e R s m args below meth c C => ?_)
  have C : zCx p R s m args meth c cX7_see "TwoTrue" E zNC A 4 (some .int) 3 := C
  unfold qG_see
  refine zg_sub [0, 1, 2] [(0, .ref (zad E 0 0)), (1, .int a0), (2, .int a1)] rfl ?_
  refine zg_iload_n C 1 1 rfl dX7_see_0 rfl ?_
  refine zg_callSI C [.int a0] 4 rfl dX7_see_1 (tG_isOfThree hD M a0) rfl  zw295 zw293 zw294 zw1 oG_isOfThree (by decide) (Nat.le_of_ble_eq_true rfl) (fun x2 M1 h3 => ?_)
  refine zg_if_ne C 9 7 rfl dX7_see_4 (by decide) ?_ ?_
  · refine zg_iconst C (-1 : Int32) 8 rfl dX7_see_7 (by decide) ?_
    exact zg_iret C dX7_see_8 trivial
  · refine zg_iload_n C 2 10 rfl dX7_see_9 rfl ?_
    refine zg_if_lt C 18 13 rfl dX7_see_10 (by decide) ?_ ?_
    · refine zg_bipush C (-2 : Int32) 20 rfl dX7_see_18 (by decide) ?_
      exact zg_iret C dX7_see_20 trivial
    · refine zg_iload_n C 2 14 rfl dX7_see_13 rfl ?_
      refine zg_iconst C (5 : Int32) 15 rfl dX7_see_14 (by decide) ?_
      refine zg_icmp_le C 21 18 rfl dX7_see_15 (by decide) ?_ ?_
      · refine zg_aload_n C 0 22 rfl dX7_see_21 rfl ?_
        refine fgX7_12 C zn0 25 rfl dX7_see_22 ?_
        refine fgX7_193 C (zn1 (by decide : 0 < 3)) 28 rfl dX7_see_25 ?_
        refine zg_iload_n C 1 29 rfl dX7_see_28 rfl ?_
        refine zg_iald C 30 rfl dX7_see_29 (zn8 (by decide : 0 < 3)) rfl ?_
        refine zg_nmI (fun x4 => ?_)
        refine zg_istore_n C 3 [(3, .int x4), (0, .ref (zad E 0 0)), (1, .int a0), (2, .int a1)] 31 rfl dX7_see_30 rfl (by decide) rfl ?_
        refine zg_aload_n C 1 32 rfl dX7_see_31 rfl ?_
        refine fgX7_12 C zn0 35 rfl dX7_see_32 ?_
        refine fgX7_193 C (zn1 (by decide : 0 < 3)) 38 rfl dX7_see_35 ?_
        refine zg_iload_n C 2 39 rfl dX7_see_38 rfl ?_
        refine zg_iload_n C 3 40 rfl dX7_see_39 rfl ?_
        refine zg_iast C 41 rfl dX7_see_40 (zn8 (by decide : 0 < 3)) (fun _ _ => rfl) (fun M5 => ?_)
        refine zg_iload_n C 0 42 rfl dX7_see_41 rfl ?_
        exact zg_iret C dX7_see_42 trivial
      · refine zg_bipush C (-2 : Int32) 20 rfl dX7_see_18 (by decide) ?_
        exact zg_iret C dX7_see_20 trivial
set_option maxHeartbeats 4000000 in
set_option maxRecDepth 100000 in
theorem tG_book {l : Launch} {E : zE} {A : Nat → Prop} (hD : zD E zNC A) (M : zM) (a0 : Int32) (a1 : Int32) (a2 : Int32) : zCT l yX7_book cX7_book 4 (some .int) 3 E zNC A [.ref (zad E 0 0), .int a0, .int a1, .int a2] M zvI zoT (qG_book  M a0 a1 a2) := by
  refine zCT_of (by decide) hD (by first | decide | exact Nat.le_of_ble_eq_true rfl) (fun p e R s m args below meth c C => ?_)
  have C : zCx p R s m args meth c cX7_book "TwoTrue" E zNC A 4 (some .int) 3 := C
  unfold qG_book
  refine zg_sub [0, 1, 2, 3] [(0, .ref (zad E 0 0)), (1, .int a0), (2, .int a1), (3, .int a2)] rfl ?_
  refine zg_iload_n C 1 1 rfl dX7_book_0 rfl ?_
  refine zg_iconst C (-1 : Int32) 2 rfl dX7_book_1 (by decide) ?_
  refine zg_icmp_ne C 15 5 rfl dX7_book_2 (by decide) ?_ ?_
  · refine zg_aload_n C 0 6 rfl dX7_book_5 rfl ?_
    refine fgX7_12 C zn0 9 rfl dX7_book_6 ?_
    refine zg_iconst C (0 : Int32) 10 rfl dX7_book_9 (by decide) ?_
    refine fpX7_213 C (zn1 (by decide : 0 < 3)) 13 rfl dX7_book_10 (fun M1 => ?_)
    refine zg_iconst C (0 : Int32) 14 rfl dX7_book_13 (by decide) ?_
    exact zg_iret C dX7_book_14 trivial
  · refine zg_aload_n C 0 16 rfl dX7_book_15 rfl ?_
    refine fgX7_12 C zn0 19 rfl dX7_book_16 ?_
    refine zg_iload_n C 1 20 rfl dX7_book_19 rfl ?_
    refine zg_callVI C [.int a0] 23 rfl dX7_book_20 (tP_has hD M 0 (by decide) a0) rfl (fun _ _ hP _ => zrecv C.2.2.2.2.2.1 hP (zn1 (by decide : 0 < 3)) rfl rfl) zw292 zw289 zw290 zw291 zw2 oP_has (by decide) (Nat.le_of_ble_eq_true rfl) (fun x3 M2 h4 => ?_)
    refine zg_if_eq C 44 26 rfl dX7_book_23 (by decide) ?_ ?_
    · refine zg_iconst C (-1 : Int32) 45 rfl dX7_book_44 (by decide) ?_
      exact zg_iret C dX7_book_45 trivial
    · refine zg_aload_n C 0 27 rfl dX7_book_26 rfl ?_
      refine fgX7_12 C zn0 30 rfl dX7_book_27 ?_
      refine zg_iload_n C 2 31 rfl dX7_book_30 rfl ?_
      refine zg_callVI C [.int a1] 34 rfl dX7_book_31 (tP_has hD M2 0 (by decide) a1) rfl (fun _ _ hP _ => zrecv C.2.2.2.2.2.1 hP (zn1 (by decide : 0 < 3)) rfl rfl) zw292 zw289 zw290 zw291 zw2 oP_has (by decide) (Nat.le_of_ble_eq_true rfl) (fun x6 M5 h7 => ?_)
      refine zg_if_eq C 44 37 rfl dX7_book_34 (by decide) ?_ ?_
      · refine zg_iconst C (-1 : Int32) 45 rfl dX7_book_44 (by decide) ?_
        exact zg_iret C dX7_book_45 trivial
      · refine zg_iload_n C 3 38 rfl dX7_book_37 rfl ?_
        refine zg_callSI C [.int a2] 41 rfl dX7_book_38 (tG_isOfThree hD M5 a2) rfl  zw295 zw293 zw294 zw1 oG_isOfThree (by decide) (Nat.le_of_ble_eq_true rfl) (fun x9 M8 h10 => ?_)
        refine zg_if_ne C 46 44 rfl dX7_book_41 (by decide) ?_ ?_
        · refine zg_iconst C (-1 : Int32) 45 rfl dX7_book_44 (by decide) ?_
          exact zg_iret C dX7_book_45 trivial
        · refine zg_iload_n C 1 47 rfl dX7_book_46 rfl ?_
          refine zg_iload_n C 2 48 rfl dX7_book_47 rfl ?_
          refine zg_icmp_ne C 54 51 rfl dX7_book_48 (by decide) ?_ ?_
          · refine zg_bipush C (-2 : Int32) 53 rfl dX7_book_51 (by decide) ?_
            exact zg_iret C dX7_book_53 trivial
          · refine zg_aload_n C 0 55 rfl dX7_book_54 rfl ?_
            refine fgX7_12 C zn0 58 rfl dX7_book_55 ?_
            refine fgX7_213 C (zn1 (by decide : 0 < 3)) 61 rfl dX7_book_58 ?_
            refine zg_bipush C (12 : Int32) 63 rfl dX7_book_61 (by decide) ?_
            refine zg_icmp_lt C 71 66 rfl dX7_book_63 (by decide) ?_ ?_
            · refine zg_aload_n C 0 72 rfl dX7_book_71 rfl ?_
              refine fgX7_12 C zn0 75 rfl dX7_book_72 ?_
              refine zg_iload_n C 1 76 rfl dX7_book_75 rfl ?_
              refine zg_iload_n C 2 77 rfl dX7_book_76 rfl ?_
              refine zg_iload_n C 3 78 rfl dX7_book_77 rfl ?_
              refine zg_callVI C [.int a0, .int a1, .int a2] 81 rfl dX7_book_78 (tP_write hD M8 0 (by decide) a0 a1 a2) rfl (fun _ _ hP _ => zrecv C.2.2.2.2.2.1 hP (zn1 (by decide : 0 < 3)) rfl rfl) zw660 zw657 zw658 zw659 zw2 oP_write (by decide) (Nat.le_of_ble_eq_true rfl) (fun x12 M11 h13 => ?_)
              exact zg_iret C dX7_book_81 trivial
            · refine zg_bipush C (-4 : Int32) 68 rfl dX7_book_66 (by decide) ?_
              refine zg_goto C 81 dX7_book_68 (by decide) ?_
              exact zg_iret C dX7_book_81 trivial
set_option maxHeartbeats 4000000 in
set_option maxRecDepth 100000 in
theorem tG_judge_L76 {p : Program} {l : Launch} {e : Env} {R : Room} {s : State} {m : MethodId} {args : Array Value} {below : List Frame} {meth : Method} {c : Code} {E : zE} {A : Nat → Prop} (C : zCx p R s m args meth c cX7_judge "TwoTrue" E zNC A 5 (some .int) 3) (hD : zD E zNC A) (c1 : Int32) (c2 : Int32) (c3 : Int32) : ∀ (n : Nat) (M : zM) (v4 : Int32), zG p l e R s m args below meth c E zNC A 5 zvI zoT 76 [(0, .ref (zad E 0 0)), (1, .int c1), (2, .int c2), (3, .int c3), (4, .int v4)] [] M (qG_judge_L76 c1 c2 c3 n M v4) := by
  intro n
  induction n with
  | zero =>
    intro M v4
    exact zg_none
  | succ n ih =>
    intro M v4
    rw [qG_judge_L76]
    refine zg_iload C 4 78 rfl dX7_judge_76 rfl ?_
    refine zg_aload_n C 0 79 rfl dX7_judge_78 rfl ?_
    refine fgX7_12 C zn0 82 rfl dX7_judge_79 ?_
    refine fgX7_73 C (zn1 (by decide : 0 < 3)) 85 rfl dX7_judge_82 ?_
    refine zg_icmp_ge C 139 88 rfl dX7_judge_85 (by decide) ?_ ?_
    · refine zg_bipush C (-5 : Int32) 141 rfl dX7_judge_139 (by decide) ?_
      exact zg_iret C dX7_judge_141 trivial
    · refine zg_iload C 4 90 rfl dX7_judge_88 rfl ?_
      refine zg_iload_n C 3 91 rfl dX7_judge_90 rfl ?_
      refine zg_icmp_lt C 100 94 rfl dX7_judge_91 (by decide) ?_ ?_
      · refine zg_aload_n C 0 101 rfl dX7_judge_100 rfl ?_
        refine fgX7_69 C zn0 104 rfl dX7_judge_101 ?_
        refine zg_iload_n C 1 105 rfl dX7_judge_104 rfl ?_
        refine zg_iload_n C 2 106 rfl dX7_judge_105 rfl ?_
        refine zg_iload C 4 108 rfl dX7_judge_106 rfl ?_
        refine zg_iadd C 109 rfl dX7_judge_108 ?_
        refine zg_callVL C [.int c1, .int (c2 + v4)] 112 rfl dX7_judge_109 (tK_at hD M c1 (c2 + v4)) rfl (fun _ _ hP _ => zrecv C.2.2.2.2.2.1 hP zn27 rfl rfl) zw680 zw677 zw678 zw679 zw8 oK_at (by decide) (Nat.le_of_ble_eq_true rfl) (fun x13 M12 h14 => ?_)
        refine zg_aload_n C 0 113 rfl dX7_judge_112 rfl ?_
        refine fgX7_12 C zn0 116 rfl dX7_judge_113 ?_
        refine fgX7_88 C (zn1 (by decide : 0 < 3)) 119 rfl dX7_judge_116 ?_
        refine zg_iload C 4 121 rfl dX7_judge_119 rfl ?_
        refine zg_aald (k2 := 2) (b := 0) (t0 := 3) C 122 rfl dX7_judge_121 (zn7 (by decide : 0 < 3)) rfl rfl (fun i15 hbi15 hei15 => ?_)
        have hi15 : i15 < 18 := by omega
        refine fgX7_200 C (zn2 hi15) 125 rfl dX7_judge_122 ?_
        refine zg_i2l C 126 rfl dX7_judge_125 ?_
        refine zg_lcmp C 127 rfl dX7_judge_126 ?_
        refine zg_if_eq C 133 130 rfl dX7_judge_127 (by decide) ?_ ?_
        · refine zg_iinc C 4 (v4 + (1 : Int32)) [(4, .int (v4 + (1 : Int32))), (0, .ref (zad E 0 0)), (1, .int c1), (2, .int c2), (3, .int c3)] 136 rfl dX7_judge_133 rfl (congrArg (fun z : Int32 => v4 + z) (by decide : Int32.ofInt (1) = (1 : Int32))) (by decide) rfl ?_
          refine zg_goto C 76 dX7_judge_136 (by decide) ?_
          refine zg_sub [1, 2, 3, 4, 0] [(0, .ref (zad E 0 0)), (1, .int c1), (2, .int c2), (3, .int c3), (4, .int (v4 + (1 : Int32)))] rfl ?_
          exact ih M12 (v4 + (1 : Int32))
        · refine zg_iload C 4 132 rfl dX7_judge_130 rfl ?_
          exact zg_iret C dX7_judge_132 trivial
      · refine zg_bipush C (100 : Int32) 96 rfl dX7_judge_94 (by decide) ?_
        refine zg_iload C 4 98 rfl dX7_judge_96 rfl ?_
        refine zg_iadd C 99 rfl dX7_judge_98 ?_
        exact zg_iret C dX7_judge_99 trivial
set_option maxHeartbeats 4000000 in
set_option maxRecDepth 100000 in
theorem tG_judge {l : Launch} {E : zE} {A : Nat → Prop} (hD : zD E zNC A) (M : zM) (a0 : Int32) (a1 : Int32) : zCT l yX7_judge cX7_judge 5 (some .int) 3 E zNC A [.ref (zad E 0 0), .int a0, .int a1] M zvI zoT (qG_judge  M a0 a1) := by
  refine zCT_of (by decide) hD (by first | decide | exact Nat.le_of_ble_eq_true rfl) (fun p e R s m args below meth c C => ?_)
  have C : zCx p R s m args meth c cX7_judge "TwoTrue" E zNC A 5 (some .int) 3 := C
  unfold qG_judge
  refine zg_sub [0, 1, 2] [(0, .ref (zad E 0 0)), (1, .int a0), (2, .int a1)] rfl ?_
  refine zg_aload_n C 0 1 rfl dX7_judge_0 rfl ?_
  refine fgX7_69 C zn0 4 rfl dX7_judge_1 ?_
  refine zg_iload_n C 1 5 rfl dX7_judge_4 rfl ?_
  refine zg_callVI C [.int a0] 8 rfl dX7_judge_5 (tK_has hD M a0) rfl (fun _ _ hP _ => zrecv C.2.2.2.2.2.1 hP zn27 rfl rfl) zw672 zw669 zw670 zw671 zw8 oK_has (by decide) (Nat.le_of_ble_eq_true rfl) (fun x2 M1 h3 => ?_)
  refine zg_if_ne C 13 11 rfl dX7_judge_8 (by decide) ?_ ?_
  · refine zg_iconst C (-1 : Int32) 12 rfl dX7_judge_11 (by decide) ?_
    exact zg_iret C dX7_judge_12 trivial
  · refine zg_aload_n C 0 14 rfl dX7_judge_13 rfl ?_
    refine fgX7_69 C zn0 17 rfl dX7_judge_14 ?_
    refine zg_iload_n C 1 18 rfl dX7_judge_17 rfl ?_
    refine zg_callVI C [.int a0] 21 rfl dX7_judge_18 (tK_holds hD M1 a0) rfl (fun _ _ hP _ => zrecv C.2.2.2.2.2.1 hP zn27 rfl rfl) zw676 zw673 zw674 zw675 zw8 oK_holds (by decide) (Nat.le_of_ble_eq_true rfl) (fun x5 M4 h6 => ?_)
    refine zg_jn (fun j8 => ∀ (M7 : zM), zG p l e R s m args below meth c E zNC A 5 zvI zoT 40 [(0, .ref (zad E 0 0)), (1, .int a0), (2, .int a1)] [] M7 (j8 M7 )) (fun M7 => ?_) (fun j8 hj8 => ?_)
    · refine zg_iload_n C 2 41 rfl dX7_judge_40 rfl ?_
      refine zg_jn (fun j11 => ∀ (M10 : zM) (x9 : Int32), zG p l e R s m args below meth c E zNC A 5 zvI zoT 72 [(0, .ref (zad E 0 0)), (1, .int a0), (2, .int a1)] [.int x9] M10 (j11 M10 x9)) (fun M10 x9 => ?_) (fun j11 hj11 => ?_)
      · refine zg_istore_n C 3 [(3, .int x9), (0, .ref (zad E 0 0)), (1, .int a0), (2, .int a1)] 73 rfl dX7_judge_72 rfl (by decide) rfl ?_
        refine zg_iconst C (0 : Int32) 74 rfl dX7_judge_73 (by decide) ?_
        refine zg_istore C 4 [(4, .int (0 : Int32)), (3, .int x9), (0, .ref (zad E 0 0)), (1, .int a0), (2, .int a1)] 76 rfl dX7_judge_74 (by decide) rfl ?_
        refine zg_sub [2, 3, 4, 1, 0] [(0, .ref (zad E 0 0)), (1, .int a0), (2, .int a1), (3, .int x9), (4, .int (0 : Int32))] rfl ?_
        refine tG_judge_L76 C hD a0 a1 x9  1000 M10 (0 : Int32)
      · refine zg_jn (fun j17 => ∀ (M16 : zM), zG p l e R s m args below meth c E zNC A 5 zvI zoT 57 [(0, .ref (zad E 0 0)), (1, .int a0), (2, .int a1)] [] M16 (j17 M16 )) (fun M16 => ?_) (fun j17 hj17 => ?_)
        · refine zg_iconst C (0 : Int32) 58 rfl dX7_judge_57 (by decide) ?_
          refine zg_goto C 72 dX7_judge_58 (by decide) ?_
          exact hj11 M16 (0 : Int32)
        · refine zg_if_lt C 57 44 rfl dX7_judge_41 (by decide) ?_ ?_
          · exact hj17 M7 
          · refine zg_iload_n C 2 45 rfl dX7_judge_44 rfl ?_
            refine zg_aload_n C 0 46 rfl dX7_judge_45 rfl ?_
            refine fgX7_69 C zn0 49 rfl dX7_judge_46 ?_
            refine fgX7_230 C zn27 52 rfl dX7_judge_49 ?_
            refine zg_iload_n C 1 53 rfl dX7_judge_52 rfl ?_
            refine zg_iald C 54 rfl dX7_judge_53 zn29 rfl ?_
            refine zg_icmp_le C 61 57 rfl dX7_judge_54 (by decide) ?_ ?_
            · refine zg_aload_n C 0 62 rfl dX7_judge_61 rfl ?_
              refine fgX7_69 C zn0 65 rfl dX7_judge_62 ?_
              refine fgX7_230 C zn27 68 rfl dX7_judge_65 ?_
              refine zg_iload_n C 1 69 rfl dX7_judge_68 rfl ?_
              refine zg_iald C 70 rfl dX7_judge_69 zn29 rfl ?_
              refine zg_iload_n C 2 71 rfl dX7_judge_70 rfl ?_
              refine zg_isub C 72 rfl dX7_judge_71 ?_
              exact hj11 M7 ((M7.1 29 0 a0.toNatClampNeg) - a1)
            · exact hj17 M7 
    · refine zg_if_eq C 40 24 rfl dX7_judge_21 (by decide) ?_ ?_
      · exact hj8 M4 
      · refine zg_aload_n C 0 25 rfl dX7_judge_24 rfl ?_
        refine fgX7_69 C zn0 28 rfl dX7_judge_25 ?_
        refine fgX7_227 C zn27 31 rfl dX7_judge_28 ?_
        refine zg_iload_n C 1 32 rfl dX7_judge_31 rfl ?_
        refine zg_iald C 33 rfl dX7_judge_32 zn28 rfl ?_
        refine zg_iconst C (1 : Int32) 34 rfl dX7_judge_33 (by decide) ?_
        refine zg_icmp_eq C 40 37 rfl dX7_judge_34 (by decide) ?_ ?_
        · exact hj8 M4 
        · refine zg_bipush C (-12 : Int32) 39 rfl dX7_judge_37 (by decide) ?_
          exact zg_iret C dX7_judge_39 trivial
set_option maxHeartbeats 4000000 in
set_option maxRecDepth 100000 in
theorem tG_taken {l : Launch} {E : zE} {A : Nat → Prop} (hD : zD E zNC A) (M : zM) (a0 : Int32) (a1 : Int32) : zCT l yX7_taken cX7_taken 4 (some .int) 3 E zNC A [.ref (zad E 0 0), .int a0, .int a1] M zvI zoT (qG_taken  M a0 a1) := by
  refine zCT_of (by decide) hD (by first | decide | exact Nat.le_of_ble_eq_true rfl) (fun p e R s m args below meth c C => ?_)
  have C : zCx p R s m args meth c cX7_taken "TwoTrue" E zNC A 4 (some .int) 3 := C
  unfold qG_taken
  refine zg_sub [0, 1, 2] [(0, .ref (zad E 0 0)), (1, .int a0), (2, .int a1)] rfl ?_
  refine zg_iload_n C 2 1 rfl dX7_taken_0 rfl ?_
  refine zg_if_lt C 10 4 rfl dX7_taken_1 (by decide) ?_ ?_
  · refine zg_bipush C (-2 : Int32) 12 rfl dX7_taken_10 (by decide) ?_
    exact zg_iret C dX7_taken_12 trivial
  · refine zg_iload_n C 2 5 rfl dX7_taken_4 rfl ?_
    refine zg_bipush C (7 : Int32) 7 rfl dX7_taken_5 (by decide) ?_
    refine zg_icmp_lt C 13 10 rfl dX7_taken_7 (by decide) ?_ ?_
    · refine zg_aload_n C 0 14 rfl dX7_taken_13 rfl ?_
      refine fgX7_12 C zn0 17 rfl dX7_taken_14 ?_
      refine zg_iload_n C 1 18 rfl dX7_taken_17 rfl ?_
      refine zg_callVI C [.int a0] 21 rfl dX7_taken_18 (tP_has hD M 0 (by decide) a0) rfl (fun _ _ hP _ => zrecv C.2.2.2.2.2.1 hP (zn1 (by decide : 0 < 3)) rfl rfl) zw292 zw289 zw290 zw291 zw2 oP_has (by decide) (Nat.le_of_ble_eq_true rfl) (fun x2 M1 h3 => ?_)
      refine zg_if_ne C 27 24 rfl dX7_taken_21 (by decide) ?_ ?_
      · refine zg_bipush C (-11 : Int32) 26 rfl dX7_taken_24 (by decide) ?_
        exact zg_iret C dX7_taken_26 trivial
      · refine zg_aload_n C 0 28 rfl dX7_taken_27 rfl ?_
        refine fgX7_12 C zn0 31 rfl dX7_taken_28 ?_
        refine fgX7_88 C (zn1 (by decide : 0 < 3)) 34 rfl dX7_taken_31 ?_
        refine zg_iload_n C 1 35 rfl dX7_taken_34 rfl ?_
        refine zg_aald (k2 := 2) (b := 0) (t0 := 3) C 36 rfl dX7_taken_35 (zn7 (by decide : 0 < 3)) rfl rfl (fun i4 hbi4 hei4 => ?_)
        have hi4 : i4 < 18 := by omega
        refine fgX7_111 C (zn2 hi4) 39 rfl dX7_taken_36 ?_
        refine zg_nmI (fun x5 => ?_)
        refine zg_istore_n C 3 [(3, .int x5), (0, .ref (zad E 0 0)), (1, .int a0), (2, .int a1)] 40 rfl dX7_taken_39 rfl (by decide) rfl ?_
        refine zg_iload_n C 0 41 rfl dX7_taken_40 rfl ?_
        refine zg_iload_n C 3 42 rfl dX7_taken_41 rfl ?_
        refine zg_callSI C [.int x5, .int a1] 45 rfl dX7_taken_42 (tG_isOfKind hD M1 x5 a1) rfl  zw539 zw616 zw538 zw1 oG_isOfKind (by decide) (Nat.le_of_ble_eq_true rfl) (fun x7 M6 h8 => ?_)
        refine zg_if_eq C 52 48 rfl dX7_taken_45 (by decide) ?_ ?_
        · refine zg_bipush C (-12 : Int32) 54 rfl dX7_taken_52 (by decide) ?_
          exact zg_iret C dX7_taken_54 trivial
        · refine zg_iload_n C 0 49 rfl dX7_taken_48 rfl ?_
          refine zg_goto C 54 dX7_taken_49 (by decide) ?_
          exact zg_iret C dX7_taken_54 trivial
    · refine zg_bipush C (-2 : Int32) 12 rfl dX7_taken_10 (by decide) ?_
      exact zg_iret C dX7_taken_12 trivial
set_option maxHeartbeats 4000000 in
set_option maxRecDepth 100000 in
theorem tG_tape {l : Launch} {E : zE} {A : Nat → Prop} (hD : zD E zNC A) (M : zM) (a0 : Int32) (a1 : Int32) (a2 : Int32) : zCT l yX7_tape cX7_tape 4 (some .int) 3 E zNC A [.ref (zad E 0 0), .int a0, .int a1, .int a2] M zvI zoT (qG_tape  M a0 a1 a2) := by
  refine zCT_of (by decide) hD (by first | decide | exact Nat.le_of_ble_eq_true rfl) (fun p e R s m args below meth c C => ?_)
  have C : zCx p R s m args meth c cX7_tape "TwoTrue" E zNC A 4 (some .int) 3 := C
  unfold qG_tape
  refine zg_sub [0, 1, 2, 3] [(0, .ref (zad E 0 0)), (1, .int a0), (2, .int a1), (3, .int a2)] rfl ?_
  refine zg_aload_n C 0 1 rfl dX7_tape_0 rfl ?_
  refine fgX7_69 C zn0 4 rfl dX7_tape_1 ?_
  refine zg_iload_n C 1 5 rfl dX7_tape_4 rfl ?_
  refine zg_callVI C [.int a0] 8 rfl dX7_tape_5 (tK_has hD M a0) rfl (fun _ _ hP _ => zrecv C.2.2.2.2.2.1 hP zn27 rfl rfl) zw672 zw669 zw670 zw671 zw8 oK_has (by decide) (Nat.le_of_ble_eq_true rfl) (fun x2 M1 h3 => ?_)
  refine zg_if_ne C 13 11 rfl dX7_tape_8 (by decide) ?_ ?_
  · refine zg_iconst C (-1 : Int32) 12 rfl dX7_tape_11 (by decide) ?_
    exact zg_iret C dX7_tape_12 trivial
  · refine zg_iload_n C 2 14 rfl dX7_tape_13 rfl ?_
    refine zg_iconst C (-1 : Int32) 15 rfl dX7_tape_14 (by decide) ?_
    refine zg_icmp_ne C 30 18 rfl dX7_tape_15 (by decide) ?_ ?_
    · refine zg_aload_n C 0 19 rfl dX7_tape_18 rfl ?_
      refine fgX7_69 C zn0 22 rfl dX7_tape_19 ?_
      refine zg_iload_n C 1 23 rfl dX7_tape_22 rfl ?_
      refine zg_iconst C (-1 : Int32) 24 rfl dX7_tape_23 (by decide) ?_
      refine zg_iconst C (0 : Int32) 25 rfl dX7_tape_24 (by decide) ?_
      refine zg_callVU C [.int a0, .int (-1 : Int32), .int (0 : Int32)] 28 rfl dX7_tape_25 (tK_lay hD M1 a0 (-1 : Int32) (0 : Int32)) rfl (fun _ _ hP _ => zrecv C.2.2.2.2.2.1 hP zn27 rfl rfl) zw727 zw724 zw725 zw726 zw8 oK_lay (by decide) (Nat.le_of_ble_eq_true rfl) (fun _u M4 h5 => ?_)
      refine zg_iconst C (1 : Int32) 29 rfl dX7_tape_28 (by decide) ?_
      exact zg_iret C dX7_tape_29 trivial
    · refine zg_iload_n C 2 31 rfl dX7_tape_30 rfl ?_
      refine zg_if_lt C 45 34 rfl dX7_tape_31 (by decide) ?_ ?_
      · refine zg_bipush C (-2 : Int32) 47 rfl dX7_tape_45 (by decide) ?_
        exact zg_iret C dX7_tape_47 trivial
      · refine zg_iload_n C 2 35 rfl dX7_tape_34 rfl ?_
        refine zg_iconst C (5 : Int32) 36 rfl dX7_tape_35 (by decide) ?_
        refine zg_icmp_ge C 45 39 rfl dX7_tape_36 (by decide) ?_ ?_
        · refine zg_bipush C (-2 : Int32) 47 rfl dX7_tape_45 (by decide) ?_
          exact zg_iret C dX7_tape_47 trivial
        · refine zg_iload_n C 3 40 rfl dX7_tape_39 rfl ?_
          refine zg_bipush C (60 : Int32) 42 rfl dX7_tape_40 (by decide) ?_
          refine zg_icmp_le C 48 45 rfl dX7_tape_42 (by decide) ?_ ?_
          · refine zg_iload_n C 3 49 rfl dX7_tape_48 rfl ?_
            refine zg_if_ge C 55 52 rfl dX7_tape_49 (by decide) ?_ ?_
            · refine zg_aload_n C 0 56 rfl dX7_tape_55 rfl ?_
              refine fgX7_69 C zn0 59 rfl dX7_tape_56 ?_
              refine zg_iload_n C 1 60 rfl dX7_tape_59 rfl ?_
              refine zg_iload_n C 2 61 rfl dX7_tape_60 rfl ?_
              refine zg_iload_n C 3 62 rfl dX7_tape_61 rfl ?_
              refine zg_callVU C [.int a0, .int a1, .int a2] 65 rfl dX7_tape_62 (tK_lay hD M1 a0 a1 a2) rfl (fun _ _ hP _ => zrecv C.2.2.2.2.2.1 hP zn27 rfl rfl) zw727 zw724 zw725 zw726 zw8 oK_lay (by decide) (Nat.le_of_ble_eq_true rfl) (fun _u M6 h7 => ?_)
              refine zg_iconst C (1 : Int32) 66 rfl dX7_tape_65 (by decide) ?_
              exact zg_iret C dX7_tape_66 trivial
            · refine zg_bipush C (-14 : Int32) 54 rfl dX7_tape_52 (by decide) ?_
              exact zg_iret C dX7_tape_54 trivial
          · refine zg_bipush C (-2 : Int32) 47 rfl dX7_tape_45 (by decide) ?_
            exact zg_iret C dX7_tape_47 trivial
set_option maxHeartbeats 4000000 in
set_option maxRecDepth 100000 in
theorem tG_read {l : Launch} {E : zE} {A : Nat → Prop} (hD : zD E zNC A) (M : zM) (a0 : Int32) (a1 : Int32) : zCT l yX7_read cX7_read 3 (some .long) 3 E zNC A [.ref (zad E 0 0), .int a0, .int a1] M zvL zoT (qG_read  M a0 a1) := by
  refine zCT_of (by decide) hD (by first | decide | exact Nat.le_of_ble_eq_true rfl) (fun p e R s m args below meth c C => ?_)
  have C : zCx p R s m args meth c cX7_read "TwoTrue" E zNC A 3 (some .long) 3 := C
  unfold qG_read
  refine zg_sub [0, 1, 2] [(0, .ref (zad E 0 0)), (1, .int a0), (2, .int a1)] rfl ?_
  refine zg_aload_n C 0 1 rfl dX7_read_0 rfl ?_
  refine fgX7_69 C zn0 4 rfl dX7_read_1 ?_
  refine zg_iload_n C 1 5 rfl dX7_read_4 rfl ?_
  refine zg_callVI C [.int a0] 8 rfl dX7_read_5 (tK_has hD M a0) rfl (fun _ _ hP _ => zrecv C.2.2.2.2.2.1 hP zn27 rfl rfl) zw672 zw669 zw670 zw671 zw8 oK_has (by decide) (Nat.le_of_ble_eq_true rfl) (fun x2 M1 h3 => ?_)
  refine zg_if_eq C 35 11 rfl dX7_read_8 (by decide) ?_ ?_
  · refine zg_ldc2 C (-9223372036854775808 : Int64) 38 rfl dX7_read_35 zw645 ?_
    exact zg_lret C dX7_read_38 trivial
  · refine zg_aload_n C 0 12 rfl dX7_read_11 rfl ?_
    refine fgX7_69 C zn0 15 rfl dX7_read_12 ?_
    refine zg_iload_n C 1 16 rfl dX7_read_15 rfl ?_
    refine zg_iload_n C 2 17 rfl dX7_read_16 rfl ?_
    refine zg_callVI C [.int a0, .int a1] 20 rfl dX7_read_17 (tK_hasPlace hD M1 a0 a1) rfl (fun _ _ hP _ => zrecv C.2.2.2.2.2.1 hP zn27 rfl rfl) zw735 zw732 zw733 zw734 zw8 oK_hasPlace (by decide) (Nat.le_of_ble_eq_true rfl) (fun x5 M4 h6 => ?_)
    refine zg_if_eq C 35 23 rfl dX7_read_20 (by decide) ?_ ?_
    · refine zg_ldc2 C (-9223372036854775808 : Int64) 38 rfl dX7_read_35 zw645 ?_
      exact zg_lret C dX7_read_38 trivial
    · refine zg_aload_n C 0 24 rfl dX7_read_23 rfl ?_
      refine fgX7_69 C zn0 27 rfl dX7_read_24 ?_
      refine zg_iload_n C 1 28 rfl dX7_read_27 rfl ?_
      refine zg_iload_n C 2 29 rfl dX7_read_28 rfl ?_
      refine zg_callVL C [.int a0, .int a1] 32 rfl dX7_read_29 (tK_at hD M4 a0 a1) rfl (fun _ _ hP _ => zrecv C.2.2.2.2.2.1 hP zn27 rfl rfl) zw680 zw677 zw678 zw679 zw8 oK_at (by decide) (Nat.le_of_ble_eq_true rfl) (fun x8 M7 h9 => ?_)
      refine zg_goto C 38 dX7_read_32 (by decide) ?_
      exact zg_lret C dX7_read_38 trivial
set_option maxHeartbeats 4000000 in
set_option maxRecDepth 100000 in
theorem tG_shift {l : Launch} {E : zE} {A : Nat → Prop} (hD : zD E zNC A) (M : zM) (a0 : Int32) (a1 : Int32) (a2 : Int32) (a3 : Int32) (a4 : Int32) : zCT l yX7_shift cX7_shift 6 (some .int) 3 E zNC A [.ref (zad E 0 0), .int a0, .int a1, .int a2, .int a3, .int a4] M zvI zoT (qG_shift  M a0 a1 a2 a3 a4) := by
  refine zCT_of (by decide) hD (by first | decide | exact Nat.le_of_ble_eq_true rfl) (fun p e R s m args below meth c C => ?_)
  have C : zCx p R s m args meth c cX7_shift "TwoTrue" E zNC A 6 (some .int) 3 := C
  unfold qG_shift
  refine zg_sub [0, 1, 2, 3, 4, 5] [(0, .ref (zad E 0 0)), (1, .int a0), (2, .int a1), (3, .int a2), (4, .int a3), (5, .int a4)] rfl ?_
  refine zg_aload_n C 0 1 rfl dX7_shift_0 rfl ?_
  refine fgX7_69 C zn0 4 rfl dX7_shift_1 ?_
  refine zg_iload_n C 1 5 rfl dX7_shift_4 rfl ?_
  refine zg_callVI C [.int a0] 8 rfl dX7_shift_5 (tK_has hD M a0) rfl (fun _ _ hP _ => zrecv C.2.2.2.2.2.1 hP zn27 rfl rfl) zw672 zw669 zw670 zw671 zw8 oK_has (by decide) (Nat.le_of_ble_eq_true rfl) (fun x2 M1 h3 => ?_)
  refine zg_if_eq C 22 11 rfl dX7_shift_8 (by decide) ?_ ?_
  · refine zg_iconst C (-1 : Int32) 23 rfl dX7_shift_22 (by decide) ?_
    exact zg_iret C dX7_shift_23 trivial
  · refine zg_aload_n C 0 12 rfl dX7_shift_11 rfl ?_
    refine fgX7_69 C zn0 15 rfl dX7_shift_12 ?_
    refine zg_iload_n C 3 16 rfl dX7_shift_15 rfl ?_
    refine zg_callVI C [.int a2] 19 rfl dX7_shift_16 (tK_has hD M1 a2) rfl (fun _ _ hP _ => zrecv C.2.2.2.2.2.1 hP zn27 rfl rfl) zw672 zw669 zw670 zw671 zw8 oK_has (by decide) (Nat.le_of_ble_eq_true rfl) (fun x5 M4 h6 => ?_)
    refine zg_if_ne C 24 22 rfl dX7_shift_19 (by decide) ?_ ?_
    · refine zg_iconst C (-1 : Int32) 23 rfl dX7_shift_22 (by decide) ?_
      exact zg_iret C dX7_shift_23 trivial
    · refine zg_aload_n C 0 25 rfl dX7_shift_24 rfl ?_
      refine fgX7_69 C zn0 28 rfl dX7_shift_25 ?_
      refine zg_iload_n C 1 29 rfl dX7_shift_28 rfl ?_
      refine zg_callVI C [.int a0] 32 rfl dX7_shift_29 (tK_holds hD M4 a0) rfl (fun _ _ hP _ => zrecv C.2.2.2.2.2.1 hP zn27 rfl rfl) zw676 zw673 zw674 zw675 zw8 oK_holds (by decide) (Nat.le_of_ble_eq_true rfl) (fun x8 M7 h9 => ?_)
      refine zg_if_eq C 46 35 rfl dX7_shift_32 (by decide) ?_ ?_
      · refine zg_bipush C (-11 : Int32) 48 rfl dX7_shift_46 (by decide) ?_
        exact zg_iret C dX7_shift_48 trivial
      · refine zg_aload_n C 0 36 rfl dX7_shift_35 rfl ?_
        refine fgX7_69 C zn0 39 rfl dX7_shift_36 ?_
        refine zg_iload_n C 3 40 rfl dX7_shift_39 rfl ?_
        refine zg_callVI C [.int a2] 43 rfl dX7_shift_40 (tK_holds hD M7 a2) rfl (fun _ _ hP _ => zrecv C.2.2.2.2.2.1 hP zn27 rfl rfl) zw676 zw673 zw674 zw675 zw8 oK_holds (by decide) (Nat.le_of_ble_eq_true rfl) (fun x11 M10 h12 => ?_)
        refine zg_if_ne C 49 46 rfl dX7_shift_43 (by decide) ?_ ?_
        · refine zg_bipush C (-11 : Int32) 48 rfl dX7_shift_46 (by decide) ?_
          exact zg_iret C dX7_shift_48 trivial
        · refine zg_aload_n C 0 50 rfl dX7_shift_49 rfl ?_
          refine fgX7_69 C zn0 53 rfl dX7_shift_50 ?_
          refine fgX7_227 C zn27 56 rfl dX7_shift_53 ?_
          refine zg_iload_n C 1 57 rfl dX7_shift_56 rfl ?_
          refine zg_iald C 58 rfl dX7_shift_57 zn28 rfl ?_
          refine zg_aload_n C 0 59 rfl dX7_shift_58 rfl ?_
          refine fgX7_69 C zn0 62 rfl dX7_shift_59 ?_
          refine fgX7_227 C zn27 65 rfl dX7_shift_62 ?_
          refine zg_iload_n C 3 66 rfl dX7_shift_65 rfl ?_
          refine zg_iald C 67 rfl dX7_shift_66 zn28 rfl ?_
          refine zg_icmp_eq C 73 70 rfl dX7_shift_67 (by decide) ?_ ?_
          · refine zg_aload_n C 0 74 rfl dX7_shift_73 rfl ?_
            refine fgX7_69 C zn0 77 rfl dX7_shift_74 ?_
            refine zg_iload_n C 1 78 rfl dX7_shift_77 rfl ?_
            refine zg_iload_n C 2 79 rfl dX7_shift_78 rfl ?_
            refine zg_iload C 5 81 rfl dX7_shift_79 rfl ?_
            refine zg_callVI C [.int a0, .int a1, .int a4] 84 rfl dX7_shift_81 (tK_hasPlaces hD M10 a0 a1 a4) rfl (fun _ _ hP _ => zrecv C.2.2.2.2.2.1 hP zn27 rfl rfl) zw754 zw751 zw752 zw753 zw8 oK_hasPlaces (by decide) (Nat.le_of_ble_eq_true rfl) (fun x14 M13 h15 => ?_)
            refine zg_if_eq C 102 87 rfl dX7_shift_84 (by decide) ?_ ?_
            · refine zg_bipush C (-13 : Int32) 104 rfl dX7_shift_102 (by decide) ?_
              exact zg_iret C dX7_shift_104 trivial
            · refine zg_aload_n C 0 88 rfl dX7_shift_87 rfl ?_
              refine fgX7_69 C zn0 91 rfl dX7_shift_88 ?_
              refine zg_iload_n C 3 92 rfl dX7_shift_91 rfl ?_
              refine zg_iload C 4 94 rfl dX7_shift_92 rfl ?_
              refine zg_iload C 5 96 rfl dX7_shift_94 rfl ?_
              refine zg_callVI C [.int a2, .int a3, .int a4] 99 rfl dX7_shift_96 (tK_hasPlaces hD M13 a2 a3 a4) rfl (fun _ _ hP _ => zrecv C.2.2.2.2.2.1 hP zn27 rfl rfl) zw754 zw751 zw752 zw753 zw8 oK_hasPlaces (by decide) (Nat.le_of_ble_eq_true rfl) (fun x17 M16 h18 => ?_)
              refine zg_if_ne C 105 102 rfl dX7_shift_99 (by decide) ?_ ?_
              · refine zg_bipush C (-13 : Int32) 104 rfl dX7_shift_102 (by decide) ?_
                exact zg_iret C dX7_shift_104 trivial
              · refine zg_aload_n C 0 106 rfl dX7_shift_105 rfl ?_
                refine fgX7_69 C zn0 109 rfl dX7_shift_106 ?_
                refine zg_iload_n C 1 110 rfl dX7_shift_109 rfl ?_
                refine zg_iload_n C 2 111 rfl dX7_shift_110 rfl ?_
                refine zg_iload_n C 3 112 rfl dX7_shift_111 rfl ?_
                refine zg_iload C 4 114 rfl dX7_shift_112 rfl ?_
                refine zg_iload C 5 116 rfl dX7_shift_114 rfl ?_
                refine zg_callVU C [.int a0, .int a1, .int a2, .int a3, .int a4] 119 rfl dX7_shift_116 (tK_copy hD M16 a0 a1 a2 a3 a4) rfl (fun _ _ hP _ => zrecv C.2.2.2.2.2.1 hP zn27 rfl rfl) zw758 zw755 zw756 zw757 zw8 oK_copy (by decide) (Nat.le_of_ble_eq_true rfl) (fun _u M19 h20 => ?_)
                refine zg_iload C 5 121 rfl dX7_shift_119 rfl ?_
                exact zg_iret C dX7_shift_121 trivial
          · refine zg_bipush C (-12 : Int32) 72 rfl dX7_shift_70 (by decide) ?_
            exact zg_iret C dX7_shift_72 trivial
set_option maxHeartbeats 4000000 in
set_option maxRecDepth 100000 in
theorem tE_runClauses_L6 {p : Program} {l : Launch} {e : Env} {R : Room} {s : State} {m : MethodId} {args : Array Value} {below : List Frame} {meth : Method} {c : Code} {E : zE} {A : Nat → Prop} (C : zCx p R s m args meth c cX1_runClauses "TwoTrue$Evening" E zNC A 7 (some .int) 3) (hD : zD E zNC A) (k0 : Nat) (hk0 : k0 < 7) : ∀ (n : Nat) (M : zM) (v1 : Int32) (v2 : Int32) (v3 : Int32), zG p l e R s m args below meth c E zNC A 7 zvI zoT 6 [(0, .ref (zad E 13 k0)), (1, .int v1), (2, .int v2), (3, .int v3)] [] M (qE_runClauses_L6 k0 n M v1 v2 v3) := by
  intro n
  induction n with
  | zero =>
    intro M v1 v2 v3
    exact zg_none
  | succ n ih =>
    intro M v1 v2 v3
    rw [qE_runClauses_L6]
    refine zg_iload_n C 3 7 rfl dX1_runClauses_6 rfl ?_
    refine zg_aload_n C 0 8 rfl dX1_runClauses_7 rfl ?_
    refine fgX1_22 C (zn13 hk0) 11 rfl dX1_runClauses_8 ?_
    refine zg_icmp_ge C 190 14 rfl dX1_runClauses_11 (by decide) ?_ ?_
    · refine zg_iload_n C 1 191 rfl dX1_runClauses_190 rfl ?_
      exact zg_iret C dX1_runClauses_191 trivial
    · refine zg_aload_n C 0 15 rfl dX1_runClauses_14 rfl ?_
      refine fgX1_9 C (zn13 hk0) 18 rfl dX1_runClauses_15 ?_
      refine zg_iload_n C 3 19 rfl dX1_runClauses_18 rfl ?_
      refine zg_iald C 20 rfl dX1_runClauses_19 (zn14 hk0) rfl ?_
      refine zg_bipush C (16 : Int32) 22 rfl dX1_runClauses_20 (by decide) ?_
      refine zg_ishr C 23 rfl dX1_runClauses_22 ?_
      refine zg_nmI (fun x1 => ?_)
      refine zg_istore C 4 [(4, .int x1), (0, .ref (zad E 13 k0)), (1, .int v1), (2, .int v2), (3, .int v3)] 25 rfl dX1_runClauses_23 (by decide) rfl ?_
      refine zg_aload_n C 1 26 rfl dX1_runClauses_25 rfl ?_
      refine fgX1_9 C (zn13 hk0) 29 rfl dX1_runClauses_26 ?_
      refine zg_iload_n C 4 30 rfl dX1_runClauses_29 rfl ?_
      refine zg_iald C 31 rfl dX1_runClauses_30 (zn14 hk0) rfl ?_
      refine zg_sipush C (255 : Int32) 34 rfl dX1_runClauses_31 (by decide) ?_
      refine zg_iand C 35 rfl dX1_runClauses_34 ?_
      refine zg_nmI (fun x2 => ?_)
      refine zg_istore C 5 [(5, .int x2), (4, .int x1), (0, .ref (zad E 13 k0)), (1, .int v1), (2, .int v2), (3, .int v3)] 37 rfl dX1_runClauses_35 (by decide) rfl ?_
      refine zg_iload C 1 39 rfl dX1_runClauses_37 rfl ?_
      refine zg_iconst C (2 : Int32) 40 rfl dX1_runClauses_39 (by decide) ?_
      refine zg_jn (fun j6 => ∀ (M5 : zM) (x3 : Int32) (x4 : Int32), zG p l e R s m args below meth c E zNC A 7 zvI zoT 184 [(0, .ref (zad E 13 k0)), (1, .int x3), (2, .int x4), (3, .int v3)] [] M5 (j6 M5 x3 x4)) (fun M5 x3 x4 => ?_) (fun j6 hj6 => ?_)
      · refine zg_iinc C 3 (v3 + (1 : Int32)) [(3, .int (v3 + (1 : Int32))), (0, .ref (zad E 13 k0)), (1, .int x3), (2, .int x4)] 187 rfl dX1_runClauses_184 rfl (congrArg (fun z : Int32 => v3 + z) (by decide : Int32.ofInt (1) = (1 : Int32))) (by decide) rfl ?_
        refine zg_goto C 6 dX1_runClauses_187 (by decide) ?_
        refine zg_sub [1, 2, 3, 0] [(0, .ref (zad E 13 k0)), (1, .int x3), (2, .int x4), (3, .int (v3 + (1 : Int32)))] rfl ?_
        exact ih M5 x3 x4 (v3 + (1 : Int32))
      · refine zg_icmp_gt C 79 43 rfl dX1_runClauses_40 (by decide) ?_ ?_
        · refine zg_iload C 1 81 rfl dX1_runClauses_79 rfl ?_
          refine zg_iconst C (3 : Int32) 82 rfl dX1_runClauses_81 (by decide) ?_
          refine zg_icmp_ne C 92 85 rfl dX1_runClauses_82 (by decide) ?_ ?_
          · refine zg_iload_n C 4 86 rfl dX1_runClauses_85 rfl ?_
            refine zg_iconst C (1 : Int32) 87 rfl dX1_runClauses_86 (by decide) ?_
            refine zg_ixor C 88 rfl dX1_runClauses_87 ?_
            refine zg_nmI (fun x7 => ?_)
            refine zg_istore_n C 2 [(2, .int x7), (5, .int x2), (4, .int x1), (0, .ref (zad E 13 k0)), (1, .int v1), (3, .int v3)] 89 rfl dX1_runClauses_88 rfl (by decide) rfl ?_
            refine zg_goto C 184 dX1_runClauses_89 (by decide) ?_
            refine zg_sub [3, 4, 0, 5] [(0, .ref (zad E 13 k0)), (1, .int v1), (2, .int x7), (3, .int v3)] rfl ?_
            exact hj6 M v1 x7
          · refine zg_iload_n C 4 93 rfl dX1_runClauses_92 rfl ?_
            refine zg_iconst C (1 : Int32) 94 rfl dX1_runClauses_93 (by decide) ?_
            refine zg_iand C 95 rfl dX1_runClauses_94 ?_
            refine zg_iconst C (1 : Int32) 96 rfl dX1_runClauses_95 (by decide) ?_
            refine zg_jn (fun j10 => ∀ (M9 : zM) (x8 : Int32), zG p l e R s m args below meth c E zNC A 7 zvI zoT 104 [(0, .ref (zad E 13 k0)), (1, .int v1), (2, .int v2), (3, .int v3), (4, .int x1), (5, .int x2)] [.int x8] M9 (j10 M9 x8)) (fun M9 x8 => ?_) (fun j10 hj10 => ?_)
            · refine zg_istore C 6 [(6, .int x8), (0, .ref (zad E 13 k0)), (1, .int v1), (2, .int v2), (3, .int v3), (4, .int x1), (5, .int x2)] 106 rfl dX1_runClauses_104 (by decide) rfl ?_
              refine zg_iload_n C 3 107 rfl dX1_runClauses_106 rfl ?_
              refine zg_iconst C (1 : Int32) 108 rfl dX1_runClauses_107 (by decide) ?_
              refine zg_ishr C 109 rfl dX1_runClauses_108 ?_
              refine zg_nmI (fun x11 => ?_)
              refine zg_istore_n C 2 [(2, .int x11), (6, .int x8), (0, .ref (zad E 13 k0)), (1, .int v1), (3, .int v3), (4, .int x1), (5, .int x2)] 110 rfl dX1_runClauses_109 rfl (by decide) rfl ?_
              refine zg_iload C 5 112 rfl dX1_runClauses_110 rfl ?_
              refine zg_iconst C (4 : Int32) 113 rfl dX1_runClauses_112 (by decide) ?_
              refine zg_jn (fun j13 => ∀ (M12 : zM), zG p l e R s m args below meth c E zNC A 7 zvI zoT 129 [(0, .ref (zad E 13 k0)), (1, .int v1), (2, .int x11), (3, .int v3), (4, .int x1), (5, .int x2), (6, .int x8)] [] M12 (j13 M12 )) (fun M12 => ?_) (fun j13 hj13 => ?_)
              · refine zg_iload C 4 131 rfl dX1_runClauses_129 rfl ?_
                refine zg_iconst C (5 : Int32) 132 rfl dX1_runClauses_131 (by decide) ?_
                refine zg_jn (fun j15 => ∀ (M14 : zM), zG p l e R s m args below meth c E zNC A 7 zvI zoT 147 [(0, .ref (zad E 13 k0)), (1, .int v1), (2, .int x11), (3, .int v3), (4, .int x1), (5, .int x2), (6, .int x8)] [] M14 (j15 M14 )) (fun M14 => ?_) (fun j15 hj15 => ?_)
                · refine zg_iload C 4 149 rfl dX1_runClauses_147 rfl ?_
                  refine zg_bipush C (6 : Int32) 151 rfl dX1_runClauses_149 (by decide) ?_
                  refine zg_jn (fun j17 => ∀ (M16 : zM), zG p l e R s m args below meth c E zNC A 7 zvI zoT 167 [(0, .ref (zad E 13 k0)), (1, .int v1), (2, .int x11), (3, .int v3), (4, .int x1), (5, .int x2), (6, .int x8)] [] M16 (j17 M16 )) (fun M16 => ?_) (fun j17 hj17 => ?_)
                  · refine zg_iload C 4 169 rfl dX1_runClauses_167 rfl ?_
                    refine zg_bipush C (7 : Int32) 171 rfl dX1_runClauses_169 (by decide) ?_
                    refine zg_icmp_ne C 184 174 rfl dX1_runClauses_171 (by decide) ?_ ?_
                    · refine zg_iload C 6 176 rfl dX1_runClauses_174 rfl ?_
                      refine zg_if_eq C 184 179 rfl dX1_runClauses_176 (by decide) ?_ ?_
                      · refine zg_sub [0, 1, 2, 3] [(0, .ref (zad E 13 k0)), (1, .int v1), (2, .int x11), (3, .int v3)] rfl ?_
                        exact hj6 M16 v1 x11
                      · refine zg_iload_n C 1 180 rfl dX1_runClauses_179 rfl ?_
                        refine zg_iload C 5 182 rfl dX1_runClauses_180 rfl ?_
                        refine zg_isub C 183 rfl dX1_runClauses_182 ?_
                        refine zg_nmI (fun x18 => ?_)
                        refine zg_istore_n C 1 [(1, .int x18), (0, .ref (zad E 13 k0)), (2, .int x11), (3, .int v3), (4, .int x1), (5, .int x2), (6, .int x8)] 184 rfl dX1_runClauses_183 rfl (by decide) rfl ?_
                        refine zg_sub [1, 0, 2, 3] [(0, .ref (zad E 13 k0)), (1, .int x18), (2, .int x11), (3, .int v3)] rfl ?_
                        exact hj6 M16 x18 x11
                    · refine zg_sub [0, 1, 2, 3] [(0, .ref (zad E 13 k0)), (1, .int v1), (2, .int x11), (3, .int v3)] rfl ?_
                      exact hj6 M16 v1 x11
                  · refine zg_icmp_ne C 167 154 rfl dX1_runClauses_151 (by decide) ?_ ?_
                    · refine zg_iload C 6 156 rfl dX1_runClauses_154 rfl ?_
                      refine zg_if_eq C 167 159 rfl dX1_runClauses_156 (by decide) ?_ ?_
                      · exact hj17 M14 
                      · refine zg_iload_n C 1 160 rfl dX1_runClauses_159 rfl ?_
                        refine zg_iload C 5 162 rfl dX1_runClauses_160 rfl ?_
                        refine zg_iadd C 163 rfl dX1_runClauses_162 ?_
                        refine zg_nmI (fun x19 => ?_)
                        refine zg_istore_n C 1 [(1, .int x19), (0, .ref (zad E 13 k0)), (2, .int x11), (3, .int v3), (4, .int x1), (5, .int x2), (6, .int x8)] 164 rfl dX1_runClauses_163 rfl (by decide) rfl ?_
                        refine zg_goto C 184 dX1_runClauses_164 (by decide) ?_
                        refine zg_sub [1, 0, 2, 3] [(0, .ref (zad E 13 k0)), (1, .int x19), (2, .int x11), (3, .int v3)] rfl ?_
                        exact hj6 M14 x19 x11
                    · exact hj17 M14 
                · refine zg_icmp_ne C 147 135 rfl dX1_runClauses_132 (by decide) ?_ ?_
                  · refine zg_iload C 6 137 rfl dX1_runClauses_135 rfl ?_
                    refine zg_if_eq C 147 140 rfl dX1_runClauses_137 (by decide) ?_ ?_
                    · exact hj15 M12 
                    · refine zg_iload_n C 2 141 rfl dX1_runClauses_140 rfl ?_
                      refine zg_iconst C (1 : Int32) 142 rfl dX1_runClauses_141 (by decide) ?_
                      refine zg_ior C 143 rfl dX1_runClauses_142 ?_
                      refine zg_nmI (fun x20 => ?_)
                      refine zg_istore_n C 2 [(2, .int x20), (0, .ref (zad E 13 k0)), (1, .int v1), (3, .int v3), (4, .int x1), (5, .int x2), (6, .int x8)] 144 rfl dX1_runClauses_143 rfl (by decide) rfl ?_
                      refine zg_goto C 184 dX1_runClauses_144 (by decide) ?_
                      refine zg_sub [1, 2, 0, 3] [(0, .ref (zad E 13 k0)), (1, .int v1), (2, .int x20), (3, .int v3)] rfl ?_
                      exact hj6 M12 v1 x20
                  · exact hj15 M12 
              · refine zg_icmp_ne C 129 116 rfl dX1_runClauses_113 (by decide) ?_ ?_
                · refine zg_iload C 1 118 rfl dX1_runClauses_116 rfl ?_
                  refine zg_if_ne C 129 121 rfl dX1_runClauses_118 (by decide) ?_ ?_
                  · refine zg_iload_n C 0 122 rfl dX1_runClauses_121 rfl ?_
                    refine zg_bipush C (-2 : Int32) 124 rfl dX1_runClauses_122 (by decide) ?_
                    refine zg_iand C 125 rfl dX1_runClauses_124 ?_
                    refine zg_nmI (fun x21 => ?_)
                    refine zg_istore_n C 2 [(2, .int x21), (6, .int x8), (0, .ref (zad E 13 k0)), (1, .int v1), (3, .int v3), (4, .int x1), (5, .int x2)] 126 rfl dX1_runClauses_125 rfl (by decide) rfl ?_
                    refine zg_goto C 184 dX1_runClauses_126 (by decide) ?_
                    refine zg_sub [2, 3, 0, 4] [(0, .ref (zad E 13 k0)), (1, .int v1), (2, .int x21), (3, .int v3)] rfl ?_
                    exact hj6 M9 v1 x21
                  · refine zg_sub [2, 3, 0, 4, 5, 6, 1] [(0, .ref (zad E 13 k0)), (1, .int v1), (2, .int x11), (3, .int v3), (4, .int x1), (5, .int x2), (6, .int x8)] rfl ?_
                    exact hj13 M9 
                · refine zg_sub [2, 3, 0, 4, 5, 6, 1] [(0, .ref (zad E 13 k0)), (1, .int v1), (2, .int x11), (3, .int v3), (4, .int x1), (5, .int x2), (6, .int x8)] rfl ?_
                  exact hj13 M9 
            · refine zg_icmp_ne C 103 99 rfl dX1_runClauses_96 (by decide) ?_ ?_
              · refine zg_iconst C (1 : Int32) 100 rfl dX1_runClauses_99 (by decide) ?_
                refine zg_goto C 104 dX1_runClauses_100 (by decide) ?_
                refine zg_sub [2, 3, 4, 5, 1, 0] [(0, .ref (zad E 13 k0)), (1, .int v1), (2, .int v2), (3, .int v3), (4, .int x1), (5, .int x2)] rfl ?_
                exact hj10 M (1 : Int32)
              · refine zg_iconst C (0 : Int32) 104 rfl dX1_runClauses_103 (by decide) ?_
                refine zg_sub [2, 3, 4, 5, 1, 0] [(0, .ref (zad E 13 k0)), (1, .int v1), (2, .int v2), (3, .int v3), (4, .int x1), (5, .int x2)] rfl ?_
                exact hj10 M (0 : Int32)
        · refine zg_iload_n C 4 44 rfl dX1_runClauses_43 rfl ?_
          refine zg_iconst C (1 : Int32) 45 rfl dX1_runClauses_44 (by decide) ?_
          refine zg_ishl C 46 rfl dX1_runClauses_45 ?_
          refine zg_aload_n C 2 47 rfl dX1_runClauses_46 rfl ?_
          refine zg_iload C 1 49 rfl dX1_runClauses_47 rfl ?_
          refine zg_aload_n C 2 50 rfl dX1_runClauses_49 rfl ?_
          refine fgX1_9 C (zn13 hk0) 53 rfl dX1_runClauses_50 ?_
          refine zg_iload_n C 5 54 rfl dX1_runClauses_53 rfl ?_
          refine zg_iald C 55 rfl dX1_runClauses_54 (zn14 hk0) rfl ?_
          refine zg_bipush C (8 : Int32) 57 rfl dX1_runClauses_55 (by decide) ?_
          refine zg_ishr C 58 rfl dX1_runClauses_57 ?_
          refine zg_bipush C (7 : Int32) 60 rfl dX1_runClauses_58 (by decide) ?_
          refine zg_iand C 61 rfl dX1_runClauses_60 ?_
          refine zg_iload C 0 63 rfl dX1_runClauses_61 rfl ?_
          refine zg_callVI C [.int x1, .int (((M.1 14 k0 v3.toNatClampNeg) >>> ((8 : Int32) &&& 31)) &&& (7 : Int32)), .int x2] 66 rfl dX1_runClauses_63 (tE_holds hD M k0 hk0 x1 (((M.1 14 k0 v3.toNatClampNeg) >>> ((8 : Int32) &&& 31)) &&& (7 : Int32)) x2) rfl (fun _ _ hP _ => zrecv C.2.2.2.2.2.1 hP (zn13 hk0) rfl rfl) zw516 zw513 zw515 zv11 zw5 oE_holds (by decide) (Nat.le_of_ble_eq_true rfl) (fun x23 M22 h24 => ?_)
          refine zg_jn (fun j27 => ∀ (M26 : zM) (x25 : Int32), zG p l e R s m args below meth c E zNC A 7 zvI zoT 74 [(0, .ref (zad E 13 k0)), (1, .int v1), (3, .int v3)] [.int x25, .int (v2 <<< ((1 : Int32) &&& 31))] M26 (j27 M26 x25)) (fun M26 x25 => ?_) (fun j27 hj27 => ?_)
          · refine zg_ior C 75 rfl dX1_runClauses_74 ?_
            refine zg_nmI (fun x28 => ?_)
            refine zg_istore_n C 2 [(2, .int x28), (0, .ref (zad E 13 k0)), (1, .int v1), (3, .int v3)] 76 rfl dX1_runClauses_75 rfl (by decide) rfl ?_
            refine zg_goto C 184 dX1_runClauses_76 (by decide) ?_
            refine zg_sub [1, 2, 0, 3] [(0, .ref (zad E 13 k0)), (1, .int v1), (2, .int x28), (3, .int v3)] rfl ?_
            exact hj6 M26 v1 x28
          · refine zg_if_eq C 73 69 rfl dX1_runClauses_66 (by decide) ?_ ?_
            · refine zg_iconst C (0 : Int32) 74 rfl dX1_runClauses_73 (by decide) ?_
              refine zg_sub [2, 3, 5] [(0, .ref (zad E 13 k0)), (1, .int v1), (3, .int v3)] rfl ?_
              exact hj27 M22 (0 : Int32)
            · refine zg_iconst C (1 : Int32) 70 rfl dX1_runClauses_69 (by decide) ?_
              refine zg_goto C 74 dX1_runClauses_70 (by decide) ?_
              refine zg_sub [2, 3, 5] [(0, .ref (zad E 13 k0)), (1, .int v1), (3, .int v3)] rfl ?_
              exact hj27 M22 (1 : Int32)
set_option maxHeartbeats 4000000 in
set_option maxRecDepth 100000 in
theorem tE_runClauses {l : Launch} {E : zE} {A : Nat → Prop} (hD : zD E zNC A) (M : zM) (r0 : Nat) (hr0 : r0 < 7) : zCT l yX1_runClauses cX1_runClauses 7 (some .int) 3 E zNC A [.ref (zad E 13 r0)] M zvI zoT (qE_runClauses  M r0) := by
  refine zCT_of (by decide) hD (by first | decide | exact Nat.le_of_ble_eq_true rfl) (fun p e R s m args below meth c C => ?_)
  have C : zCx p R s m args meth c cX1_runClauses "TwoTrue$Evening" E zNC A 7 (some .int) 3 := C
  unfold qE_runClauses
  refine zg_sub [0] [(0, .ref (zad E 13 r0))] rfl ?_
  refine zg_iconst C (0 : Int32) 1 rfl dX1_runClauses_0 (by decide) ?_
  refine zg_istore_n C 1 [(1, .int (0 : Int32)), (0, .ref (zad E 13 r0))] 2 rfl dX1_runClauses_1 rfl (by decide) rfl ?_
  refine zg_iconst C (0 : Int32) 3 rfl dX1_runClauses_2 (by decide) ?_
  refine zg_istore_n C 2 [(2, .int (0 : Int32)), (1, .int (0 : Int32)), (0, .ref (zad E 13 r0))] 4 rfl dX1_runClauses_3 rfl (by decide) rfl ?_
  refine zg_iconst C (0 : Int32) 5 rfl dX1_runClauses_4 (by decide) ?_
  refine zg_istore_n C 3 [(3, .int (0 : Int32)), (2, .int (0 : Int32)), (1, .int (0 : Int32)), (0, .ref (zad E 13 r0))] 6 rfl dX1_runClauses_5 rfl (by decide) rfl ?_
  refine zg_sub [3, 2, 1, 0] [(0, .ref (zad E 13 r0)), (1, .int (0 : Int32)), (2, .int (0 : Int32)), (3, .int (0 : Int32))] rfl ?_
  refine tE_runClauses_L6 C hD r0 hr0  1000 M (0 : Int32) (0 : Int32) (0 : Int32)
set_option maxHeartbeats 4000000 in
set_option maxRecDepth 100000 in
theorem tP_join {l : Launch} {E : zE} {A : Nat → Prop} (hD : zD E zNC A) (M : zM) (r0 : Nat) (hr0 : r0 < 3) (a0 : Int32) (a1 : Int32) : zCT l yX2_join cX2_join 3 (some .int) 3 E zNC A [.ref (zad E 1 r0), .int a0, .int a1] M zvI zoT (qP_join  M r0 a0 a1) := by
  refine zCT_of (by decide) hD (by first | decide | exact Nat.le_of_ble_eq_true rfl) (fun p e R s m args below meth c C => ?_)
  have C : zCx p R s m args meth c cX2_join "TwoTrue$Party" E zNC A 3 (some .int) 3 := C
  unfold qP_join
  refine zg_sub [0, 1, 2] [(0, .ref (zad E 1 r0)), (1, .int a0), (2, .int a1)] rfl ?_
  refine zg_aload_n C 0 1 rfl dX2_join_0 rfl ?_
  refine fgX2_11 C (zn1 hr0) 4 rfl dX2_join_1 ?_
  refine zg_aload_n C 0 5 rfl dX2_join_4 rfl ?_
  refine fgX2_31 C (zn1 hr0) 8 rfl dX2_join_5 ?_
  refine zg_aald (k2 := 2) (b := (6 * r0)) (t0 := 3) C 9 rfl dX2_join_8 (zn7 hr0) rfl rfl (fun i1 hbi1 hei1 => ?_)
  have hi1 : i1 < 18 := by omega
  refine zg_iload_n C 1 10 rfl dX2_join_9 rfl ?_
  refine zg_iload_n C 2 11 rfl dX2_join_10 rfl ?_
  refine zg_callVU C [.int a0, .int a1] 14 rfl dX2_join_11 (tN_begin hD M i1 hi1 a0 a1) rfl (fun _ _ hP _ => zrecv C.2.2.2.2.2.1 hP (zn2 hi1) rfl rfl) zw284 zw281 zw282 zw283 zw3 oN_begin (by decide) (Nat.le_of_ble_eq_true rfl) (fun _u M2 h3 => ?_)
  refine zg_aload_n C 0 15 rfl dX2_join_14 rfl ?_
  refine zg_dup C rfl 16 rfl dX2_join_15 ?_
  refine fgX2_31 C (zn1 hr0) 19 rfl dX2_join_16 ?_
  refine zg_iconst C (1 : Int32) 20 rfl dX2_join_19 (by decide) ?_
  refine zg_iadd C 21 rfl dX2_join_20 ?_
  refine fpX2_31 C (zn1 hr0) 24 rfl dX2_join_21 (fun M4 => ?_)
  refine zg_aload_n C 0 25 rfl dX2_join_24 rfl ?_
  refine fgX2_31 C (zn1 hr0) 28 rfl dX2_join_25 ?_
  refine zg_iconst C (1 : Int32) 29 rfl dX2_join_28 (by decide) ?_
  refine zg_isub C 30 rfl dX2_join_29 ?_
  exact zg_iret C dX2_join_30 trivial
set_option maxHeartbeats 4000000 in
set_option maxRecDepth 100000 in
theorem tP_become_L63 {p : Program} {l : Launch} {e : Env} {R : Room} {s : State} {m : MethodId} {args : Array Value} {below : List Frame} {meth : Method} {c : Code} {E : zE} {A : Nat → Prop} (C : zCx p R s m args meth c cX2_become "TwoTrue$Party" E zNC A 3 none 3) (hD : zD E zNC A) (k0 : Nat) (hk0 : k0 < 3) (k1 : Nat) (hk1 : k1 < 3) : ∀ (n : Nat) (M : zM) (v2 : Int32), zG p l e R s m args below meth c E zNC A 3 zvU zoT 63 [(0, .ref (zad E 1 k0)), (1, .ref (zad E 1 k1)), (2, .int v2)] [] M (qP_become_L63 k0 k1 n M v2) := by
  intro n
  induction n with
  | zero =>
    intro M v2
    exact zg_none
  | succ n ih =>
    intro M v2
    rw [qP_become_L63]
    refine zg_iload_n C 2 64 rfl dX2_become_63 rfl ?_
    refine zg_aload_n C 0 65 rfl dX2_become_64 rfl ?_
    refine fgX2_31 C (zn1 hk0) 68 rfl dX2_become_65 ?_
    refine zg_icmp_ge C 92 71 rfl dX2_become_68 (by decide) ?_ ?_
    · exact zg_vret C dX2_become_92 trivial
    · refine zg_aload_n C 0 72 rfl dX2_become_71 rfl ?_
      refine fgX2_11 C (zn1 hk0) 75 rfl dX2_become_72 ?_
      refine zg_iload_n C 2 76 rfl dX2_become_75 rfl ?_
      refine zg_aald (k2 := 2) (b := (6 * k0)) (t0 := 3) C 77 rfl dX2_become_76 (zn7 hk0) rfl rfl (fun i7 hbi7 hei7 => ?_)
      have hi7 : i7 < 18 := by omega
      refine zg_aload_n C 1 78 rfl dX2_become_77 rfl ?_
      refine fgX2_11 C (zn1 hk1) 81 rfl dX2_become_78 ?_
      refine zg_iload_n C 2 82 rfl dX2_become_81 rfl ?_
      refine zg_aald (k2 := 2) (b := (6 * k1)) (t0 := 3) C 83 rfl dX2_become_82 (zn7 hk1) rfl rfl (fun i8 hbi8 hei8 => ?_)
      have hi8 : i8 < 18 := by omega
      refine zg_callVU C [.ref (zad E 2 i8)] 86 rfl dX2_become_83 (tN_become hD M i7 hi7 i8 hi8) rfl (fun _ _ hP _ => zrecv C.2.2.2.2.2.1 hP (zn2 hi7) rfl rfl) zw580 zw577 zw578 zw579 zw3 oN_become (by decide) (Nat.le_of_ble_eq_true rfl) (fun _u M9 h10 => ?_)
      refine zg_iinc C 2 (v2 + (1 : Int32)) [(2, .int (v2 + (1 : Int32))), (0, .ref (zad E 1 k0)), (1, .ref (zad E 1 k1))] 89 rfl dX2_become_86 rfl (congrArg (fun z : Int32 => v2 + z) (by decide : Int32.ofInt (1) = (1 : Int32))) (by decide) rfl ?_
      refine zg_goto C 63 dX2_become_89 (by decide) ?_
      refine zg_sub [1, 2, 0] [(0, .ref (zad E 1 k0)), (1, .ref (zad E 1 k1)), (2, .int (v2 + (1 : Int32)))] rfl ?_
      exact ih M9 (v2 + (1 : Int32))
set_option maxHeartbeats 4000000 in
set_option maxRecDepth 100000 in
theorem tP_become {l : Launch} {E : zE} {A : Nat → Prop} (hD : zD E zNC A) (M : zM) (r0 : Nat) (hr0 : r0 < 3) (r1 : Nat) (hr1 : r1 < 3) : zCT l yX2_become cX2_become 3 none 3 E zNC A [.ref (zad E 1 r0), .ref (zad E 1 r1)] M zvU zoT (qP_become  M r0 r1) := by
  refine zCT_of (by decide) hD (by first | decide | exact Nat.le_of_ble_eq_true rfl) (fun p e R s m args below meth c C => ?_)
  have C : zCx p R s m args meth c cX2_become "TwoTrue$Party" E zNC A 3 none 3 := C
  unfold qP_become
  refine zg_sub [0, 1] [(0, .ref (zad E 1 r0)), (1, .ref (zad E 1 r1))] rfl ?_
  refine zg_aload_n C 0 1 rfl dX2_become_0 rfl ?_
  refine zg_aload_n C 1 2 rfl dX2_become_1 rfl ?_
  refine fgX2_31 C (zn1 hr1) 5 rfl dX2_become_2 ?_
  refine fpX2_31 C (zn1 hr0) 8 rfl dX2_become_5 (fun M1 => ?_)
  refine zg_aload_n C 0 9 rfl dX2_become_8 rfl ?_
  refine zg_aload_n C 1 10 rfl dX2_become_9 rfl ?_
  refine fgX2_44 C (zn1 hr1) 13 rfl dX2_become_10 ?_
  refine fpX2_44 C (zn1 hr0) 16 rfl dX2_become_13 (fun M2 => ?_)
  refine zg_aload_n C 0 17 rfl dX2_become_16 rfl ?_
  refine zg_aload_n C 1 18 rfl dX2_become_17 rfl ?_
  refine fgX2_17 C (zn1 hr1) 21 rfl dX2_become_18 ?_
  refine fpX2_17 C (zn1 hr0) 24 rfl dX2_become_21 (fun M3 => ?_)
  refine zg_aload_n C 0 25 rfl dX2_become_24 rfl ?_
  refine zg_aload_n C 1 26 rfl dX2_become_25 rfl ?_
  refine fgX2_38 C (zn1 hr1) 29 rfl dX2_become_26 ?_
  refine fpX2_38 C (zn1 hr0) 32 rfl dX2_become_29 (fun M4 => ?_)
  refine zg_aload_n C 1 33 rfl dX2_become_32 rfl ?_
  refine fgX2_21 C (zn1 hr1) 36 rfl dX2_become_33 ?_
  refine zg_iconst C (0 : Int32) 37 rfl dX2_become_36 (by decide) ?_
  refine zg_aload_n C 0 38 rfl dX2_become_37 rfl ?_
  refine fgX2_21 C (zn1 hr0) 41 rfl dX2_become_38 ?_
  refine zg_iconst C (0 : Int32) 42 rfl dX2_become_41 (by decide) ?_
  refine zg_iconst C (3 : Int32) 43 rfl dX2_become_42 (by decide) ?_
  refine zg_copyi C 46 rfl dX2_become_43 (zn8 hr1) (zn8 hr0) (fun _ _ => rfl) (fun _ _ => rfl) zw574 zw576 zw575 zw16 (by decide) (Nat.le_of_ble_eq_true rfl) (fun M5 => ?_)
  refine zg_aload_n C 1 47 rfl dX2_become_46 rfl ?_
  refine fgX2_25 C (zn1 hr1) 50 rfl dX2_become_47 ?_
  refine zg_iconst C (0 : Int32) 51 rfl dX2_become_50 (by decide) ?_
  refine zg_aload_n C 0 52 rfl dX2_become_51 rfl ?_
  refine fgX2_25 C (zn1 hr0) 55 rfl dX2_become_52 ?_
  refine zg_iconst C (0 : Int32) 56 rfl dX2_become_55 (by decide) ?_
  refine zg_bipush C (36 : Int32) 58 rfl dX2_become_56 (by decide) ?_
  refine zg_copyi C 61 rfl dX2_become_58 (zn9 hr1) (zn9 hr0) (fun _ _ => rfl) (fun _ _ => rfl) zw574 zw576 zw575 zw16 (by decide) (Nat.le_of_ble_eq_true rfl) (fun M6 => ?_)
  refine zg_iconst C (0 : Int32) 62 rfl dX2_become_61 (by decide) ?_
  refine zg_istore_n C 2 [(2, .int (0 : Int32)), (0, .ref (zad E 1 r0)), (1, .ref (zad E 1 r1))] 63 rfl dX2_become_62 rfl (by decide) rfl ?_
  refine zg_sub [1, 2, 0] [(0, .ref (zad E 1 r0)), (1, .ref (zad E 1 r1)), (2, .int (0 : Int32))] rfl ?_
  refine tP_become_L63 C hD r0 hr0 r1 hr1  1000 M6 (0 : Int32)
set_option maxHeartbeats 4000000 in
set_option maxRecDepth 100000 in
theorem tN_known {l : Launch} {E : zE} {A : Nat → Prop} (hD : zD E zNC A) (M : zM) (r0 : Nat) (hr0 : r0 < 18) (a0 : Int32) : zCT l yX3_known cX3_known 2 (some .int) 3 E zNC A [.ref (zad E 2 r0), .int a0] M zvI zoT (qN_known  M r0 a0) := by
  refine zCT_of (by decide) hD (by first | decide | exact Nat.le_of_ble_eq_true rfl) (fun p e R s m args below meth c C => ?_)
  have C : zCx p R s m args meth c cX3_known "TwoTrue$Person" E zNC A 2 (some .int) 3 := C
  unfold qN_known
  refine zg_sub [0, 1] [(0, .ref (zad E 2 r0)), (1, .int a0)] rfl ?_
  refine zg_iload_n C 1 1 rfl dX3_known_0 rfl ?_
  refine zg_if (fun h1 => ?_) (fun h1 => ?_)
  · refine zg_tabIn C 0 (31) 32 dX3_known_1 (zxi h1 (by decide)) (by decide) (by decide) rfl (by decide) ?_
    refine zg_aload_n C 0 33 rfl dX3_known_32 rfl ?_
    refine fgX3_28 C (zn2 hr0) 36 rfl dX3_known_33 ?_
    exact zg_iret C dX3_known_36 trivial
  · refine zg_if (fun h2 => ?_) (fun h2 => ?_)
    · refine zg_tabIn C 1 (36) 37 dX3_known_1 (zxi h2 (by decide)) (by decide) (by decide) rfl (by decide) ?_
      refine zg_aload_n C 0 38 rfl dX3_known_37 rfl ?_
      refine fgX3_31 C (zn2 hr0) 41 rfl dX3_known_38 ?_
      exact zg_iret C dX3_known_41 trivial
    · refine zg_if (fun h3 => ?_) (fun h3 => ?_)
      · refine zg_tabIn C 2 (41) 42 dX3_known_1 (zxi h3 (by decide)) (by decide) (by decide) rfl (by decide) ?_
        refine zg_aload_n C 0 43 rfl dX3_known_42 rfl ?_
        refine fgX3_34 C (zn2 hr0) 46 rfl dX3_known_43 ?_
        exact zg_iret C dX3_known_46 trivial
      · refine zg_if (fun h4 => ?_) (fun h4 => ?_)
        · refine zg_tabIn C 3 (46) 47 dX3_known_1 (zxi h4 (by decide)) (by decide) (by decide) rfl (by decide) ?_
          refine zg_aload_n C 0 48 rfl dX3_known_47 rfl ?_
          refine fgX3_37 C (zn2 hr0) 51 rfl dX3_known_48 ?_
          exact zg_iret C dX3_known_51 trivial
        · refine zg_tabOut C 52 dX3_known_1 (by have gh1 := zxn h1 (by decide : (0 : Int32).toInt = 0); have gh2 := zxn h2 (by decide : (1 : Int32).toInt = 1); have gh3 := zxn h3 (by decide : (2 : Int32).toInt = 2); have gh4 := zxn h4 (by decide : (3 : Int32).toInt = 3); omega) (by decide) ?_
          refine zg_iload_n C 1 53 rfl dX3_known_52 rfl ?_
          refine zg_bipush C (10 : Int32) 55 rfl dX3_known_53 (by decide) ?_
          refine zg_isub C 56 rfl dX3_known_55 ?_
          refine zg_callNI C [.int (a0 - (10 : Int32))] 59 rfl dX3_known_56 (tG_isOfThree hD M (a0 - (10 : Int32))) rfl  zw295 (by decide) zw294 zw1 oG_isOfThree (by decide) (Nat.le_of_ble_eq_true rfl) (fun x6 M5 h7 => ?_)
          refine zg_if_eq C 72 62 rfl dX3_known_59 (by decide) ?_ ?_
          · refine zg_iload_n C 1 73 rfl dX3_known_72 rfl ?_
            refine zg_bipush C (20 : Int32) 75 rfl dX3_known_73 (by decide) ?_
            refine zg_isub C 76 rfl dX3_known_75 ?_
            refine zg_callNI C [.int (a0 - (20 : Int32))] 79 rfl dX3_known_76 (tG_isOfThree hD M5 (a0 - (20 : Int32))) rfl  zw295 (by decide) zw294 zw1 oG_isOfThree (by decide) (Nat.le_of_ble_eq_true rfl) (fun x9 M8 h10 => ?_)
            refine zg_if_eq C 92 82 rfl dX3_known_79 (by decide) ?_ ?_
            · refine zg_iload_n C 1 93 rfl dX3_known_92 rfl ?_
              refine zg_bipush C (30 : Int32) 95 rfl dX3_known_93 (by decide) ?_
              refine zg_isub C 96 rfl dX3_known_95 ?_
              refine zg_callNI C [.int (a0 - (30 : Int32))] 99 rfl dX3_known_96 (tG_isOfThree hD M8 (a0 - (30 : Int32))) rfl  zw295 (by decide) zw294 zw1 oG_isOfThree (by decide) (Nat.le_of_ble_eq_true rfl) (fun x12 M11 h13 => ?_)
              refine zg_if_eq C 114 102 rfl dX3_known_99 (by decide) ?_ ?_
              · refine zg_iconst C (-1 : Int32) 115 rfl dX3_known_114 (by decide) ?_
                exact zg_iret C dX3_known_115 trivial
              · refine zg_aload_n C 0 103 rfl dX3_known_102 rfl ?_
                refine fgX3_15 C (zn2 hr0) 106 rfl dX3_known_103 ?_
                refine zg_iload_n C 1 107 rfl dX3_known_106 rfl ?_
                refine zg_bipush C (30 : Int32) 109 rfl dX3_known_107 (by decide) ?_
                refine zg_isub C 110 rfl dX3_known_109 ?_
                refine zg_iald C 111 rfl dX3_known_110 (zn4 hr0) rfl ?_
                refine zg_goto C 115 dX3_known_111 (by decide) ?_
                exact zg_iret C dX3_known_115 trivial
            · refine zg_aload_n C 0 83 rfl dX3_known_82 rfl ?_
              refine fgX3_9 C (zn2 hr0) 86 rfl dX3_known_83 ?_
              refine zg_iload_n C 1 87 rfl dX3_known_86 rfl ?_
              refine zg_bipush C (20 : Int32) 89 rfl dX3_known_87 (by decide) ?_
              refine zg_isub C 90 rfl dX3_known_89 ?_
              refine zg_iald C 91 rfl dX3_known_90 (zn3 hr0) rfl ?_
              exact zg_iret C dX3_known_91 trivial
          · refine zg_aload_n C 0 63 rfl dX3_known_62 rfl ?_
            refine fgX3_18 C (zn2 hr0) 66 rfl dX3_known_63 ?_
            refine zg_iload_n C 1 67 rfl dX3_known_66 rfl ?_
            refine zg_bipush C (10 : Int32) 69 rfl dX3_known_67 (by decide) ?_
            refine zg_isub C 70 rfl dX3_known_69 ?_
            refine zg_iald C 71 rfl dX3_known_70 (zn5 hr0) rfl ?_
            exact zg_iret C dX3_known_71 trivial
