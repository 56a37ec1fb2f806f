set_option maxHeartbeats 4000000 in
set_option maxRecDepth 100000 in
theorem tY_addedTo {l : Launch} {E : zE} {A : Nat → Prop} (hD : zD E zNC A) (M : zM) (r1 : Nat) (hr1 : r1 < 18) (r2 : Nat) (hr2 : r2 < 18) (a2 : Int32) (r4 : Nat) (hr4 : r4 < 3) : zCT l yX4_addedTo cX4_addedTo 6 (some .int) 3 E zNC A [.ref (zad E 16 0), .ref (zad E 2 r1), .ref (zad E 2 r2), .int a2, .ref (zad E 1 r4)] M zvI zoT (qY_addedTo  M r1 r2 a2 r4) := by
  refine zCT_of (by decide) hD (by first | decide | exact Nat.le_of_ble_eq_true rfl) (fun p e R s m args below meth c C => ?_)
  have C : zCx p R s m args meth c cX4_addedTo "TwoTrue$Play" E zNC A 6 (some .int) 3 := C
  unfold qY_addedTo
  refine zg_sub [0, 1, 2, 3, 4] [(0, .ref (zad E 16 0)), (1, .ref (zad E 2 r1)), (2, .ref (zad E 2 r2)), (3, .int a2), (4, .ref (zad E 1 r4))] rfl ?_
  refine zg_iconst C (0 : Int32) 1 rfl dX4_addedTo_0 (by decide) ?_
  refine zg_istore C 5 [(5, .int (0 : Int32)), (0, .ref (zad E 16 0)), (1, .ref (zad E 2 r1)), (2, .ref (zad E 2 r2)), (3, .int a2), (4, .ref (zad E 1 r4))] 3 rfl dX4_addedTo_1 (by decide) rfl ?_
  refine zg_aload_n C 2 4 rfl dX4_addedTo_3 rfl ?_
  refine fgX4_46 C (zn2 hr1) 7 rfl dX4_addedTo_4 ?_
  refine zg_iconst C (1 : Int32) 8 rfl dX4_addedTo_7 (by decide) ?_
  refine zg_callNI C [.int (M.1 2 r1 1), .int (1 : Int32)] 11 rfl dX4_addedTo_8 (tG_isOfKind hD M (M.1 2 r1 1) (1 : Int32)) rfl  zw539 (by decide) zw538 zw1 oG_isOfKind (by decide) (Nat.le_of_ble_eq_true rfl) (fun x2 M1 h3 => ?_)
  refine zg_jn (fun j6 => ∀ (M5 : zM) (x4 : Int32), zG p l e R s m args below meth c E zNC A 6 zvI zoT 32 [(0, .ref (zad E 16 0)), (1, .ref (zad E 2 r1)), (2, .ref (zad E 2 r2)), (3, .int a2), (4, .ref (zad E 1 r4)), (5, .int x4)] [] M5 (j6 M5 x4)) (fun M5 x4 => ?_) (fun j6 hj6 => ?_)
  · refine zg_aload_n C 1 33 rfl dX4_addedTo_32 rfl ?_
    refine fgX4_46 C (zn2 hr1) 36 rfl dX4_addedTo_33 ?_
    refine zg_iconst C (4 : Int32) 37 rfl dX4_addedTo_36 (by decide) ?_
    refine zg_jn (fun j9 => ∀ (M8 : zM) (x7 : Int32), zG p l e R s m args below meth c E zNC A 6 zvI zoT 48 [(0, .ref (zad E 16 0)), (1, .ref (zad E 2 r1)), (2, .ref (zad E 2 r2)), (3, .int a2), (4, .ref (zad E 1 r4)), (5, .int x7)] [] M8 (j9 M8 x7)) (fun M8 x7 => ?_) (fun j9 hj9 => ?_)
    · refine zg_aload_n C 1 49 rfl dX4_addedTo_48 rfl ?_
      refine fgX4_46 C (zn2 hr1) 52 rfl dX4_addedTo_49 ?_
      refine zg_iconst C (3 : Int32) 53 rfl dX4_addedTo_52 (by decide) ?_
      refine zg_callNI C [.int (M8.1 2 r1 1), .int (3 : Int32)] 56 rfl dX4_addedTo_53 (tG_isOfKind hD M8 (M8.1 2 r1 1) (3 : Int32)) rfl  zw539 (by decide) zw538 zw1 oG_isOfKind (by decide) (Nat.le_of_ble_eq_true rfl) (fun x11 M10 h12 => ?_)
      refine zg_jn (fun j15 => ∀ (M14 : zM) (x13 : Int32), zG p l e R s m args below meth c E zNC A 6 zvI zoT 91 [(1, .ref (zad E 2 r1)), (3, .int a2), (4, .ref (zad E 1 r4)), (5, .int x13)] [] M14 (j15 M14 x13)) (fun M14 x13 => ?_) (fun j15 hj15 => ?_)
      · refine zg_aload_n C 0 92 rfl dX4_addedTo_91 rfl ?_
        refine fgX4_46 C (zn2 hr1) 95 rfl dX4_addedTo_92 ?_
        refine zg_bipush C (6 : Int32) 97 rfl dX4_addedTo_95 (by decide) ?_
        refine zg_icmp_ne C 119 100 rfl dX4_addedTo_97 (by decide) ?_ ?_
        · refine zg_aload_n C 0 101 rfl dX4_addedTo_100 rfl ?_
          refine fgX4_82 C (zn2 hr1) 104 rfl dX4_addedTo_101 ?_
          refine zg_aload C 2 106 rfl dX4_addedTo_104 rfl ?_
          refine fgX4_85 C (zn1 hr4) 109 rfl dX4_addedTo_106 ?_
          refine zg_iconst C (4 : Int32) 110 rfl dX4_addedTo_109 (by decide) ?_
          refine zg_iremK C 111 rfl dX4_addedTo_110 (by decide) ?_
          refine zg_iald C 112 rfl dX4_addedTo_111 (zn6 hr1) rfl ?_
          refine zg_iload_n C 1 113 rfl dX4_addedTo_112 rfl ?_
          refine zg_icmp_ne C 119 116 rfl dX4_addedTo_113 (by decide) ?_ ?_
          · refine zg_iinc C 3 (x13 + (40 : Int32)) [(5, .int (x13 + (40 : Int32))), (1, .ref (zad E 2 r1)), (3, .int a2), (4, .ref (zad E 1 r4))] 119 rfl dX4_addedTo_116 rfl (congrArg (fun z : Int32 => x13 + z) (by decide : Int32.ofInt (40) = (40 : Int32))) (by decide) rfl ?_
            refine zg_iload C 0 121 rfl dX4_addedTo_119 rfl ?_
            exact zg_iret C dX4_addedTo_121 trivial
          · refine zg_iload C 3 121 rfl dX4_addedTo_119 rfl ?_
            exact zg_iret C dX4_addedTo_121 trivial
        · refine zg_iload C 3 121 rfl dX4_addedTo_119 rfl ?_
          exact zg_iret C dX4_addedTo_121 trivial
      · refine zg_if_eq C 91 59 rfl dX4_addedTo_56 (by decide) ?_ ?_
        · refine zg_sub [1, 3, 4, 5] [(1, .ref (zad E 2 r1)), (3, .int a2), (4, .ref (zad E 1 r4)), (5, .int x7)] rfl ?_
          exact hj15 M10 x7
        · refine zg_iload_n C 3 60 rfl dX4_addedTo_59 rfl ?_
          refine zg_aload_n C 0 61 rfl dX4_addedTo_60 rfl ?_
          refine fgX4_40 C zn16 64 rfl dX4_addedTo_61 ?_
          refine zg_icmp_ne C 91 67 rfl dX4_addedTo_64 (by decide) ?_ ?_
          · refine zg_aload_n C 1 68 rfl dX4_addedTo_67 rfl ?_
            refine zg_aload_n C 2 69 rfl dX4_addedTo_68 rfl ?_
            refine zg_aload C 4 71 rfl dX4_addedTo_69 rfl ?_
            refine fgX4_43 C (zn1 hr4) 74 rfl dX4_addedTo_71 ?_
            refine zg_callSI C [.ref (zad E 2 r1), .ref (zad E 2 r2), .int (M10.1 1 r4 1)] 77 rfl dX4_addedTo_74 (tY_knows hD M10 r1 hr1 r2 hr2 (M10.1 1 r4 1)) rfl  zw549 zw547 zw548 zw6 oY_knows (by decide) (Nat.le_of_ble_eq_true rfl) (fun x17 M16 h18 => ?_)
            refine zg_if_eq C 91 80 rfl dX4_addedTo_77 (by decide) ?_ ?_
            · refine zg_sub [1, 3, 4, 5] [(1, .ref (zad E 2 r1)), (3, .int a2), (4, .ref (zad E 1 r4)), (5, .int x7)] rfl ?_
              exact hj15 M16 x7
            · refine zg_iload C 5 82 rfl dX4_addedTo_80 rfl ?_
              refine zg_iconst C (5 : Int32) 83 rfl dX4_addedTo_82 (by decide) ?_
              refine zg_aload_n C 1 84 rfl dX4_addedTo_83 rfl ?_
              refine fgX4_79 C (zn2 hr1) 87 rfl dX4_addedTo_84 ?_
              refine zg_imul C 88 rfl dX4_addedTo_87 ?_
              refine zg_iadd C 89 rfl dX4_addedTo_88 ?_
              refine zg_nmI (fun x19 => ?_)
              refine zg_istore C 5 [(5, .int x19), (0, .ref (zad E 16 0)), (1, .ref (zad E 2 r1)), (2, .ref (zad E 2 r2)), (3, .int a2), (4, .ref (zad E 1 r4))] 91 rfl dX4_addedTo_89 (by decide) rfl ?_
              refine zg_sub [2, 4, 5, 0] [(1, .ref (zad E 2 r1)), (3, .int a2), (4, .ref (zad E 1 r4)), (5, .int x19)] rfl ?_
              exact hj15 M16 x19
          · refine zg_sub [1, 3, 4, 5] [(1, .ref (zad E 2 r1)), (3, .int a2), (4, .ref (zad E 1 r4)), (5, .int x7)] rfl ?_
            exact hj15 M10 x7
    · refine zg_icmp_ne C 48 40 rfl dX4_addedTo_37 (by decide) ?_ ?_
      · refine zg_iload_n C 3 41 rfl dX4_addedTo_40 rfl ?_
        refine zg_iconst C (2 : Int32) 42 rfl dX4_addedTo_41 (by decide) ?_
        refine zg_icmp_ne C 48 45 rfl dX4_addedTo_42 (by decide) ?_ ?_
        · refine zg_iinc C 5 (x4 + (30 : Int32)) [(5, .int (x4 + (30 : Int32))), (0, .ref (zad E 16 0)), (1, .ref (zad E 2 r1)), (2, .ref (zad E 2 r2)), (3, .int a2), (4, .ref (zad E 1 r4))] 48 rfl dX4_addedTo_45 rfl (congrArg (fun z : Int32 => x4 + z) (by decide : Int32.ofInt (30) = (30 : Int32))) (by decide) rfl ?_
          refine zg_sub [1, 2, 3, 4, 5, 0] [(0, .ref (zad E 16 0)), (1, .ref (zad E 2 r1)), (2, .ref (zad E 2 r2)), (3, .int a2), (4, .ref (zad E 1 r4)), (5, .int (x4 + (30 : Int32)))] rfl ?_
          exact hj9 M5 (x4 + (30 : Int32))
        · exact hj9 M5 x4
      · exact hj9 M5 x4
  · refine zg_if_eq C 32 14 rfl dX4_addedTo_11 (by decide) ?_ ?_
    · refine zg_sub [1, 2, 3, 4, 5, 0] [(0, .ref (zad E 16 0)), (1, .ref (zad E 2 r1)), (2, .ref (zad E 2 r2)), (3, .int a2), (4, .ref (zad E 1 r4)), (5, .int (0 : Int32))] rfl ?_
      exact hj6 M1 (0 : Int32)
    · refine zg_iload C 0 16 rfl dX4_addedTo_14 rfl ?_
      refine zg_iconst C (2 : Int32) 17 rfl dX4_addedTo_16 (by decide) ?_
      refine zg_aload_n C 3 18 rfl dX4_addedTo_17 rfl ?_
      refine fgX4_69 C (zn2 hr2) 21 rfl dX4_addedTo_18 ?_
      refine zg_aload_n C 3 22 rfl dX4_addedTo_21 rfl ?_
      refine fgX4_72 C (zn2 hr2) 25 rfl dX4_addedTo_22 ?_
      refine zg_iload_n C 4 26 rfl dX4_addedTo_25 rfl ?_
      refine zg_iald C 27 rfl dX4_addedTo_26 (zn5 hr2) rfl ?_
      refine zg_iald C 28 rfl dX4_addedTo_27 (zn4 hr2) rfl ?_
      refine zg_imul C 29 rfl dX4_addedTo_28 ?_
      refine zg_iadd C 30 rfl dX4_addedTo_29 ?_
      refine zg_nmI (fun x20 => ?_)
      refine zg_istore C 5 [(5, .int x20), (0, .ref (zad E 16 0)), (1, .ref (zad E 2 r1)), (2, .ref (zad E 2 r2)), (3, .int a2), (4, .ref (zad E 1 r4))] 32 rfl dX4_addedTo_30 (by decide) rfl ?_
      refine zg_sub [1, 2, 3, 4, 5, 0] [(0, .ref (zad E 16 0)), (1, .ref (zad E 2 r1)), (2, .ref (zad E 2 r2)), (3, .int a2), (4, .ref (zad E 1 r4)), (5, .int x20)] rfl ?_
      exact hj6 M1 x20
set_option maxHeartbeats 4000000 in
set_option maxRecDepth 100000 in
theorem tK_put {l : Launch} {E : zE} {A : Nat → Prop} (hD : zD E zNC A) (M : zM) (a0 : Int32) (a1 : Int32) (a2 : Int64) : zCT l yX5_put cX5_put 5 none 3 E zNC A [.ref (zad E 27 0), .int a0, .int a1, .long a2] M zvU zoT (qK_put  M a0 a1 a2) := by
  refine zCT_of (by decide) hD (by first | decide | exact Nat.le_of_ble_eq_true rfl) (fun p e R s m args below meth c C => ?_)
  have C : zCx p R s m args meth c cX5_put "TwoTrue$Tapes" E zNC A 5 none 3 := C
  unfold qK_put
  refine zg_sub [0, 1, 2, 3] [(0, .ref (zad E 27 0)), (1, .int a0), (2, .int a1), (3, .long a2)] rfl ?_
  refine zg_aload_n C 0 1 rfl dX5_put_0 rfl ?_
  refine fgX5_16 C zn27 4 rfl dX5_put_1 ?_
  refine zg_iload_n C 1 5 rfl dX5_put_4 rfl ?_
  refine zg_bipush C (60 : Int32) 7 rfl dX5_put_5 (by decide) ?_
  refine zg_imul C 8 rfl dX5_put_7 ?_
  refine zg_iload_n C 2 9 rfl dX5_put_8 rfl ?_
  refine zg_iadd C 10 rfl dX5_put_9 ?_
  refine zg_aload_n C 0 11 rfl dX5_put_10 rfl ?_
  refine fgX5_9 C zn27 14 rfl dX5_put_11 ?_
  refine zg_iload_n C 1 15 rfl dX5_put_14 rfl ?_
  refine zg_iald C 16 rfl dX5_put_15 zn28 rfl ?_
  refine zg_lload_n C 3 17 rfl dX5_put_16 rfl ?_
  refine zg_callSL C [.int (M.1 28 0 a0.toNatClampNeg), .long a2] 20 rfl dX5_put_17 (tK_cut hD M (M.1 28 0 a0.toNatClampNeg) a2) rfl  zw742 zw740 zw741 zw8 oK_cut (by decide) (Nat.le_of_ble_eq_true rfl) (fun x2 M1 h3 => ?_)
  refine zg_last C 21 rfl dX5_put_20 zn30 (fun _ _ => rfl) (fun M4 => ?_)
  exact zg_vret C dX5_put_21 trivial
set_option maxHeartbeats 4000000 in
set_option maxRecDepth 100000 in
theorem tT_readNumber {l : Launch} {E : zE} {A : Nat → Prop} (hD : zD E zNC A) (M : zM) : zCT l yX6_readNumber cX6_readNumber 1 (some .boolean) 3 E zNC A [.ref (zad E 10 0)] M zvI zoB (qT_readNumber  M ) := by
  refine zCT_of (by decide) hD (by first | decide | exact Nat.le_of_ble_eq_true rfl) (fun p e R s m args below meth c C => ?_)
  have C : zCx p R s m args meth c cX6_readNumber "TwoTrue$Text" E zNC A 1 (some .boolean) 3 := C
  unfold qT_readNumber
  refine zg_sub [0] [(0, .ref (zad E 10 0))] rfl ?_
  refine zg_aload_n C 0 1 rfl dX6_readNumber_0 rfl ?_
  refine zg_callVI C [] 4 rfl dX6_readNumber_1 (tT_seesDigit hD M ) rfl (fun _ _ hP _ => zrecv C.2.2.2.2.2.1 hP zn10 rfl rfl) zw413 zw410 zw412 zv5 zw4 oT_seesDigit (by decide) (Nat.le_of_ble_eq_true rfl) (fun x2 M1 h3 => ?_)
  refine zg_if_ne C 9 7 rfl dX6_readNumber_4 (by decide) ?_ ?_
  · refine zg_iconst C (0 : Int32) 8 rfl dX6_readNumber_7 (by decide) ?_
    exact zg_zret C dX6_readNumber_8 rfl rfl
  · refine zg_aload_n C 0 10 rfl dX6_readNumber_9 rfl ?_
    refine zg_aload_n C 0 11 rfl dX6_readNumber_10 rfl ?_
    refine fgX6_9 C zn10 14 rfl dX6_readNumber_11 ?_
    refine zg_aload_n C 0 15 rfl dX6_readNumber_14 rfl ?_
    refine fgX6_24 C zn10 18 rfl dX6_readNumber_15 ?_
    refine zg_iald C 19 rfl dX6_readNumber_18 zn11 rfl ?_
    refine zg_bipush C (48 : Int32) 21 rfl dX6_readNumber_19 (by decide) ?_
    refine zg_isub C 22 rfl dX6_readNumber_21 ?_
    refine fpX6_48 C zn10 25 rfl dX6_readNumber_22 (fun M4 => ?_)
    refine zg_aload_n C 0 26 rfl dX6_readNumber_25 rfl ?_
    refine zg_dup C rfl 27 rfl dX6_readNumber_26 ?_
    refine fgX6_24 C zn10 30 rfl dX6_readNumber_27 ?_
    refine zg_iconst C (1 : Int32) 31 rfl dX6_readNumber_30 (by decide) ?_
    refine zg_iadd C 32 rfl dX6_readNumber_31 ?_
    refine fpX6_24 C zn10 35 rfl dX6_readNumber_32 (fun M5 => ?_)
    refine zg_aload_n C 0 36 rfl dX6_readNumber_35 rfl ?_
    refine zg_callVI C [] 39 rfl dX6_readNumber_36 (tT_seesDigit hD M5 ) rfl (fun _ _ hP _ => zrecv C.2.2.2.2.2.1 hP zn10 rfl rfl) zw413 zw410 zw412 zv5 zw4 oT_seesDigit (by decide) (Nat.le_of_ble_eq_true rfl) (fun x7 M6 h8 => ?_)
    refine zg_if_eq C 76 42 rfl dX6_readNumber_39 (by decide) ?_ ?_
    · refine zg_iconst C (1 : Int32) 77 rfl dX6_readNumber_76 (by decide) ?_
      exact zg_zret C dX6_readNumber_77 rfl rfl
    · refine zg_aload_n C 0 43 rfl dX6_readNumber_42 rfl ?_
      refine zg_aload_n C 0 44 rfl dX6_readNumber_43 rfl ?_
      refine fgX6_48 C zn10 47 rfl dX6_readNumber_44 ?_
      refine zg_bipush C (10 : Int32) 49 rfl dX6_readNumber_47 (by decide) ?_
      refine zg_imul C 50 rfl dX6_readNumber_49 ?_
      refine zg_aload_n C 0 51 rfl dX6_readNumber_50 rfl ?_
      refine fgX6_9 C zn10 54 rfl dX6_readNumber_51 ?_
      refine zg_aload_n C 0 55 rfl dX6_readNumber_54 rfl ?_
      refine fgX6_24 C zn10 58 rfl dX6_readNumber_55 ?_
      refine zg_iald C 59 rfl dX6_readNumber_58 zn11 rfl ?_
      refine zg_iadd C 60 rfl dX6_readNumber_59 ?_
      refine zg_bipush C (48 : Int32) 62 rfl dX6_readNumber_60 (by decide) ?_
      refine zg_isub C 63 rfl dX6_readNumber_62 ?_
      refine fpX6_48 C zn10 66 rfl dX6_readNumber_63 (fun M9 => ?_)
      refine zg_aload_n C 0 67 rfl dX6_readNumber_66 rfl ?_
      refine zg_dup C rfl 68 rfl dX6_readNumber_67 ?_
      refine fgX6_24 C zn10 71 rfl dX6_readNumber_68 ?_
      refine zg_iconst C (1 : Int32) 72 rfl dX6_readNumber_71 (by decide) ?_
      refine zg_iadd C 73 rfl dX6_readNumber_72 ?_
      refine fpX6_24 C zn10 76 rfl dX6_readNumber_73 (fun M10 => ?_)
      refine zg_iconst C (1 : Int32) 77 rfl dX6_readNumber_76 (by decide) ?_
      exact zg_zret C dX6_readNumber_77 rfl rfl
set_option maxHeartbeats 4000000 in
set_option maxRecDepth 100000 in
theorem tS_length {l : Launch} {E : zE} {A : Nat → Prop} (hD : zD E zNC A) (M : zM) (w : Nat) (hw : w < 4) : zCT l yJS_length prog_13_method_54_code 1 (some .int) 3 E zNC A [.ref (zsk E w)] M zvI zoT (qS_length  M w) := by
  refine zCT_of (by decide) hD (by first | decide | exact Nat.le_of_ble_eq_true rfl) (fun p e R s m args below meth c C => ?_)
  have C : zCx p R s m args meth c prog_13_method_54_code "java/lang/String" E zNC A 1 (some .int) 3 := C
  unfold qS_length
  refine zg_sub [0] [(0, .ref (zsk E w))] rfl ?_
  refine zg_aload_n C 0 1 rfl dJ13_length_0 rfl ?_
  refine zg_getV C hw 4 rfl dJ13_length_1 zw1296 ?_
  refine zg_tlen C 5 rfl hw dJ13_length_4 ?_
  refine zg_aload_n C 0 6 rfl dJ13_length_5 rfl ?_
  refine zg_callVI C [] 9 rfl dJ13_length_6 (tS_coder hD M w hw) rfl (fun _ _ _ hS => vk_recv C.2.2.2.2.2.2.1.2.2.2.1 hw hS) zw361 zw358 zw359 zw360 zw10 oS_coder (by decide) (Nat.le_of_ble_eq_true rfl) (fun x2 M1 h3 => ?_)
  refine zg_ishr C 10 rfl dJ13_length_9 ?_
  exact zg_iret C dJ13_length_10 trivial
set_option maxHeartbeats 4000000 in
set_option maxRecDepth 100000 in
theorem tS_checkIndex {l : Launch} {E : zE} {A : Nat → Prop} (hD : zD E zNC A) (M : zM) (a0 : Int32) (a1 : Int32) : zCT l yJS_checkIndex prog_13_method_155_code 2 none 3 E zNC A [.int a0, .int a1] M zvU zoT (qS_checkIndex  M a0 a1) := by
  refine zCT_of (by decide) hD (by first | decide | exact Nat.le_of_ble_eq_true rfl) (fun p e R s m args below meth c C => ?_)
  have C : zCx p R s m args meth c prog_13_method_155_code "java/lang/String" E zNC A 2 none 3 := C
  unfold qS_checkIndex
  refine zg_sub [0, 1] [(0, .int a0), (1, .int a1)] rfl ?_
  refine zg_iload_n C 0 1 rfl dJ13_checkIndex_0 rfl ?_
  refine zg_iload_n C 1 2 rfl dJ13_checkIndex_1 rfl ?_
  refine zg_getO C 5 rfl dJ13_checkIndex_2 zw378 (fun z1 => ?_)
  refine zg_callSI C [.int a0, .int a1, va_rf z1] 8 rfl dJ13_checkIndex_5 (tC_checkIndex hD M a0 a1 z1) rfl  zw382 zw380 zw381 zw12 oC_checkIndex (by decide) (Nat.le_of_ble_eq_true rfl) (fun x3 M2 h4 => ?_)
  refine zg_pop C rfl 9 rfl dJ13_checkIndex_8 ?_
  exact zg_vret C dJ13_checkIndex_9 trivial
set_option maxHeartbeats 4000000 in
set_option maxRecDepth 100000 in
theorem tL_indexOf {l : Launch} {E : zE} {A : Nat → Prop} (hD : zD E zNC A) (M : zM) (w0 : Nat) (hw0 : w0 < 4) (a1 : Int32) (a2 : Int32) (a3 : Int32) : zCT l yJL_indexOf prog_14_method_22_code 4 (some .int) 3 E zNC A [.ref (zsv E w0), .int a1, .int a2, .int a3] M zvI zoT (qL_indexOf  M w0 a1 a2 a3) := by
  refine zCT_of (by decide) hD (by first | decide | exact Nat.le_of_ble_eq_true rfl) (fun p e R s m args below meth c C => ?_)
  have C : zCx p R s m args meth c prog_14_method_22_code "java/lang/StringLatin1" E zNC A 4 (some .int) 3 := C
  unfold qL_indexOf
  refine zg_sub [0, 1, 2, 3] [(0, .ref (zsv E w0)), (1, .int a1), (2, .int a2), (3, .int a3)] rfl ?_
  refine zg_iload_n C 1 1 rfl dJ14_indexOf_0 rfl ?_
  refine zg_callSI C [.int a1] 4 rfl dJ14_indexOf_1 (tL_canEncode hD M a1) rfl  zw447 zw445 zw446 zw11 oL_canEncode (by decide) (Nat.le_of_ble_eq_true rfl) (fun x2 M1 h3 => ?_)
  refine zg_if_ne C 9 7 rfl dJ14_indexOf_4 (by decide) ?_ ?_
  · refine zg_iconst C (-1 : Int32) 8 rfl dJ14_indexOf_7 (by decide) ?_
    exact zg_iret C dJ14_indexOf_8 trivial
  · refine zg_iload_n C 2 10 rfl dJ14_indexOf_9 rfl ?_
    refine zg_iconst C (0 : Int32) 11 rfl dJ14_indexOf_10 (by decide) ?_
    refine zg_mmax C 14 rfl dJ14_indexOf_11 zw448 zw449 zw14 zwmmax (by decide) (Nat.le_of_ble_eq_true rfl) ?_
    refine zg_nmI (fun x4 => ?_)
    refine zg_istore_n C 2 [(2, .int x4), (0, .ref (zsv E w0)), (1, .int a1), (3, .int a3)] 15 rfl dJ14_indexOf_14 rfl (by decide) rfl ?_
    refine zg_iload_n C 3 16 rfl dJ14_indexOf_15 rfl ?_
    refine zg_aload_n C 1 17 rfl dJ14_indexOf_16 rfl ?_
    refine zg_tlen C 18 rfl hw0 dJ14_indexOf_17 ?_
    refine zg_mmin C 21 rfl dJ14_indexOf_18 zw451 zw452 zw14 zwmmin (by decide) (Nat.le_of_ble_eq_true rfl) ?_
    refine zg_nmI (fun x5 => ?_)
    refine zg_istore_n C 3 [(3, .int x5), (2, .int x4), (0, .ref (zsv E w0)), (1, .int a1)] 22 rfl dJ14_indexOf_21 rfl (by decide) rfl ?_
    refine zg_iload_n C 1 23 rfl dJ14_indexOf_22 rfl ?_
    refine zg_iload_n C 0 24 rfl dJ14_indexOf_23 rfl ?_
    refine zg_icmp_lt C 29 27 rfl dJ14_indexOf_24 (by decide) ?_ ?_
    · refine zg_aload_n C 2 30 rfl dJ14_indexOf_29 rfl ?_
      refine zg_iload_n C 3 31 rfl dJ14_indexOf_30 rfl ?_
      refine zg_iload_n C 1 32 rfl dJ14_indexOf_31 rfl ?_
      refine zg_iload_n C 0 33 rfl dJ14_indexOf_32 rfl ?_
      refine zg_callSI C [.ref (zsv E w0), .int a1, .int x4, .int x5] 36 rfl dJ14_indexOf_33 (tL_indexOfChar hD M1 w0 hw0 a1 x4 x5) rfl  zw456 zw454 zw455 zw11 oL_indexOfChar (by decide) (Nat.le_of_ble_eq_true rfl) (fun x7 M6 h8 => ?_)
      exact zg_iret C dJ14_indexOf_36 trivial
    · refine zg_iconst C (-1 : Int32) 28 rfl dJ14_indexOf_27 (by decide) ?_
      exact zg_iret C dJ14_indexOf_28 trivial
set_option maxHeartbeats 4000000 in
set_option maxRecDepth 100000 in
theorem tG_person {l : Launch} {E : zE} {A : Nat → Prop} (hD : zD E zNC A) (M : zM) (a0 : Int32) (a1 : Int32) : zCT l yX7_person cX7_person 3 (some .int) 4 E zNC A [.ref (zad E 0 0), .int a0, .int a1] M zvI zoT (qG_person  M a0 a1) := by
  refine zCT_of (by decide) hD (by first | decide | exact Nat.le_of_ble_eq_true rfl) (fun p e R s m args below meth c C => ?_)
  have C : zCx p R s m args meth c cX7_person "TwoTrue" E zNC A 3 (some .int) 4 := C
  unfold qG_person
  refine zg_sub [0, 1, 2] [(0, .ref (zad E 0 0)), (1, .int a0), (2, .int a1)] rfl ?_
  refine zg_iload_n C 1 1 rfl dX7_person_0 rfl ?_
  refine zg_if_lt C 10 4 rfl dX7_person_1 (by decide) ?_ ?_
  · refine zg_iconst C (-1 : Int32) 11 rfl dX7_person_10 (by decide) ?_
    exact zg_iret C dX7_person_11 trivial
  · refine zg_iload_n C 1 5 rfl dX7_person_4 rfl ?_
    refine zg_bipush C (7 : Int32) 7 rfl dX7_person_5 (by decide) ?_
    refine zg_icmp_lt C 12 10 rfl dX7_person_7 (by decide) ?_ ?_
    · refine zg_iload_n C 2 13 rfl dX7_person_12 rfl ?_
      refine zg_if_lt C 22 16 rfl dX7_person_13 (by decide) ?_ ?_
      · refine zg_bipush C (-2 : Int32) 24 rfl dX7_person_22 (by decide) ?_
        exact zg_iret C dX7_person_24 trivial
      · refine zg_iload_n C 2 17 rfl dX7_person_16 rfl ?_
        refine zg_bipush C (9 : Int32) 19 rfl dX7_person_17 (by decide) ?_
        refine zg_icmp_le C 25 22 rfl dX7_person_19 (by decide) ?_ ?_
        · refine zg_aload_n C 0 26 rfl dX7_person_25 rfl ?_
          refine fgX7_12 C zn0 29 rfl dX7_person_26 ?_
          refine fgX7_73 C (zn1 (by decide : 0 < 3)) 32 rfl dX7_person_29 ?_
          refine zg_bipush C (6 : Int32) 34 rfl dX7_person_32 (by decide) ?_
          refine zg_icmp_lt C 42 37 rfl dX7_person_34 (by decide) ?_ ?_
          · refine zg_aload_n C 0 43 rfl dX7_person_42 rfl ?_
            refine fgX7_12 C zn0 46 rfl dX7_person_43 ?_
            refine zg_iload_n C 1 47 rfl dX7_person_46 rfl ?_
            refine zg_iload_n C 2 48 rfl dX7_person_47 rfl ?_
            refine zg_callVI C [.int a0, .int a1] 51 rfl dX7_person_48 (tP_join hD M 0 (by decide) a0 a1) rfl (fun _ _ hP _ => zrecv C.2.2.2.2.2.1 hP (zn1 (by decide : 0 < 3)) rfl rfl) zw280 zw277 zw278 zw279 zw2 oP_join (by decide) (Nat.le_of_ble_eq_true rfl) (fun x2 M1 h3 => ?_)
            exact zg_iret C dX7_person_51 trivial
          · refine zg_bipush C (-4 : Int32) 39 rfl dX7_person_37 (by decide) ?_
            refine zg_goto C 51 dX7_person_39 (by decide) ?_
            exact zg_iret C dX7_person_51 trivial
        · refine zg_bipush C (-2 : Int32) 24 rfl dX7_person_22 (by decide) ?_
          exact zg_iret C dX7_person_24 trivial
    · refine zg_iconst C (-1 : Int32) 11 rfl dX7_person_10 (by decide) ?_
      exact zg_iret C dX7_person_11 trivial
set_option maxHeartbeats 4000000 in
set_option maxRecDepth 100000 in
theorem tG_of {l : Launch} {E : zE} {A : Nat → Prop} (hD : zD E zNC A) (M : zM) (a0 : Int32) (a1 : Int32) : zCT l yX7_of cX7_of 3 (some .int) 4 E zNC A [.ref (zad E 0 0), .int a0, .int a1] M zvI zoT (qG_of  M a0 a1) := by
  refine zCT_of (by decide) hD (by first | decide | exact Nat.le_of_ble_eq_true rfl) (fun p e R s m args below meth c C => ?_)
  have C : zCx p R s m args meth c cX7_of "TwoTrue" E zNC A 3 (some .int) 4 := C
  unfold qG_of
  refine zg_sub [0, 1, 2] [(0, .ref (zad E 0 0)), (1, .int a0), (2, .int a1)] rfl ?_
  refine zg_aload_n C 0 1 rfl dX7_of_0 rfl ?_
  refine fgX7_12 C zn0 4 rfl dX7_of_1 ?_
  refine zg_iload_n C 1 5 rfl dX7_of_4 rfl ?_
  refine zg_callVI C [.int a0] 8 rfl dX7_of_5 (tP_has hD M 0 (by decide) a0) rfl (fun _ _ hP _ => zrecv C.2.2.2.2.2.1 hP (zn1 (by decide : 0 < 3)) rfl rfl) zw292 zw289 zw290 zw291 zw2 oP_has (by decide) (Nat.le_of_ble_eq_true rfl) (fun x2 M1 h3 => ?_)
  refine zg_if_eq C 27 11 rfl dX7_of_8 (by decide) ?_ ?_
  · refine zg_iconst C (-1 : Int32) 28 rfl dX7_of_27 (by decide) ?_
    exact zg_iret C dX7_of_28 trivial
  · refine zg_aload_n C 0 12 rfl dX7_of_11 rfl ?_
    refine fgX7_12 C zn0 15 rfl dX7_of_12 ?_
    refine fgX7_88 C (zn1 (by decide : 0 < 3)) 18 rfl dX7_of_15 ?_
    refine zg_iload_n C 1 19 rfl dX7_of_18 rfl ?_
    refine zg_aald (k2 := 2) (b := 0) (t0 := 3) C 20 rfl dX7_of_19 (zn7 (by decide : 0 < 3)) rfl rfl (fun i4 hbi4 hei4 => ?_)
    have hi4 : i4 < 18 := by omega
    refine zg_iload_n C 2 21 rfl dX7_of_20 rfl ?_
    refine zg_callVI C [.int a1] 24 rfl dX7_of_21 (tN_known hD M1 i4 hi4 a1) rfl (fun _ _ hP _ => zrecv C.2.2.2.2.2.1 hP (zn2 hi4) rfl rfl) zw315 zw312 zw313 zw314 zw3 oN_known (by decide) (Nat.le_of_ble_eq_true rfl) (fun x6 M5 h7 => ?_)
    refine zg_goto C 28 dX7_of_24 (by decide) ?_
    exact zg_iret C dX7_of_28 trivial
set_option maxHeartbeats 4000000 in
set_option maxRecDepth 100000 in
theorem tG_image {l : Launch} {E : zE} {A : Nat → Prop} (hD : zD E zNC A) (M : zM) : zCT l yX7_image cX7_image 1 (some .int) 4 E zNC A [.ref (zad E 0 0)] M zvI zoT (qG_image  M ) := by
  refine zCT_of (by decide) hD (by first | decide | exact Nat.le_of_ble_eq_true rfl) (fun p e R s m args below meth c C => ?_)
  have C : zCx p R s m args meth c cX7_image "TwoTrue" E zNC A 1 (some .int) 4 := C
  unfold qG_image
  refine zg_sub [0] [(0, .ref (zad E 0 0))] rfl ?_
  refine zg_aload_n C 0 1 rfl dX7_image_0 rfl ?_
  refine fgX7_18 C zn0 4 rfl dX7_image_1 ?_
  refine zg_aload_n C 0 5 rfl dX7_image_4 rfl ?_
  refine fgX7_12 C zn0 8 rfl dX7_image_5 ?_
  refine zg_callVU C [.ref (zad E 1 0)] 11 rfl dX7_image_8 (tP_become hD M 1 (by decide) 0 (by decide)) rfl (fun _ _ hP _ => zrecv C.2.2.2.2.2.1 hP (zn1 (by decide : 1 < 3)) rfl rfl) zw573 zw570 zw571 zw572 zw2 oP_become (by decide) (Nat.le_of_ble_eq_true rfl) (fun _u M1 h2 => ?_)
  refine zg_aload_n C 0 12 rfl dX7_image_11 rfl ?_
  refine zg_iconst C (1 : Int32) 13 rfl dX7_image_12 (by decide) ?_
  refine fpX7_236 C zn0 rfl rfl 16 rfl dX7_image_13 (fun M3 => ?_)
  refine zg_aload_n C 0 17 rfl dX7_image_16 rfl ?_
  refine fgX7_12 C zn0 20 rfl dX7_image_17 ?_
  refine fgX7_73 C (zn1 (by decide : 0 < 3)) 23 rfl dX7_image_20 ?_
  exact zg_iret C dX7_image_23 trivial
set_option maxHeartbeats 4000000 in
set_option maxRecDepth 100000 in
theorem tG_undo {l : Launch} {E : zE} {A : Nat → Prop} (hD : zD E zNC A) (M : zM) : zCT l yX7_undo cX7_undo 1 (some .int) 4 E zNC A [.ref (zad E 0 0)] M zvI zoT (qG_undo  M ) := by
  refine zCT_of (by decide) hD (by first | decide | exact Nat.le_of_ble_eq_true rfl) (fun p e R s m args below meth c C => ?_)
  have C : zCx p R s m args meth c cX7_undo "TwoTrue" E zNC A 1 (some .int) 4 := C
  unfold qG_undo
  refine zg_sub [0] [(0, .ref (zad E 0 0))] rfl ?_
  refine zg_aload_n C 0 1 rfl dX7_undo_0 rfl ?_
  refine fgX7_236 C zn0 4 rfl dX7_undo_1 ?_
  refine zg_if_ne C 10 7 rfl dX7_undo_4 (by decide) ?_ ?_
  · refine zg_bipush C (-3 : Int32) 9 rfl dX7_undo_7 (by decide) ?_
    exact zg_iret C dX7_undo_9 trivial
  · refine zg_aload_n C 0 11 rfl dX7_undo_10 rfl ?_
    refine fgX7_12 C zn0 14 rfl dX7_undo_11 ?_
    refine zg_aload_n C 0 15 rfl dX7_undo_14 rfl ?_
    refine fgX7_18 C zn0 18 rfl dX7_undo_15 ?_
    refine zg_callVU C [.ref (zad E 1 1)] 21 rfl dX7_undo_18 (tP_become hD M 0 (by decide) 1 (by decide)) rfl (fun _ _ hP _ => zrecv C.2.2.2.2.2.1 hP (zn1 (by decide : 0 < 3)) rfl rfl) zw573 zw570 zw571 zw572 zw2 oP_become (by decide) (Nat.le_of_ble_eq_true rfl) (fun _u M1 h2 => ?_)
    refine zg_aload_n C 0 22 rfl dX7_undo_21 rfl ?_
    refine fgX7_12 C zn0 25 rfl dX7_undo_22 ?_
    refine fgX7_73 C (zn1 (by decide : 0 < 3)) 28 rfl dX7_undo_25 ?_
    exact zg_iret C dX7_undo_28 trivial
set_option maxHeartbeats 4000000 in
set_option maxRecDepth 100000 in
theorem tG_item {l : Launch} {E : zE} {A : Nat → Prop} (hD : zD E zNC A) (M : zM) (a0 : Int32) (a1 : Int32) (a2 : Int64) : zCT l yX7_item cX7_item 5 (some .int) 4 E zNC A [.ref (zad E 0 0), .int a0, .int a1, .long a2] M zvI zoT (qG_item  M a0 a1 a2) := by
  refine zCT_of (by decide) hD (by first | decide | exact Nat.le_of_ble_eq_true rfl) (fun p e R s m args below meth c C => ?_)
  have C : zCx p R s m args meth c cX7_item "TwoTrue" E zNC A 5 (some .int) 4 := C
  unfold qG_item
  refine zg_sub [0, 1, 2, 3] [(0, .ref (zad E 0 0)), (1, .int a0), (2, .int a1), (3, .long a2)] rfl ?_
  refine zg_aload_n C 0 1 rfl dX7_item_0 rfl ?_
  refine fgX7_69 C zn0 4 rfl dX7_item_1 ?_
  refine zg_iload_n C 1 5 rfl dX7_item_4 rfl ?_
  refine zg_callVI C [.int a0] 8 rfl dX7_item_5 (tK_has hD M a0) rfl (fun _ _ hP _ => zrecv C.2.2.2.2.2.1 hP zn27 rfl rfl) zw672 zw669 zw670 zw671 zw8 oK_has (by decide) (Nat.le_of_ble_eq_true rfl) (fun x2 M1 h3 => ?_)
  refine zg_if_ne C 13 11 rfl dX7_item_8 (by decide) ?_ ?_
  · refine zg_iconst C (-1 : Int32) 12 rfl dX7_item_11 (by decide) ?_
    exact zg_iret C dX7_item_12 trivial
  · refine zg_aload_n C 0 14 rfl dX7_item_13 rfl ?_
    refine fgX7_69 C zn0 17 rfl dX7_item_14 ?_
    refine zg_iload_n C 1 18 rfl dX7_item_17 rfl ?_
    refine zg_callVI C [.int a0] 21 rfl dX7_item_18 (tK_holds hD M1 a0) rfl (fun _ _ hP _ => zrecv C.2.2.2.2.2.1 hP zn27 rfl rfl) zw676 zw673 zw674 zw675 zw8 oK_holds (by decide) (Nat.le_of_ble_eq_true rfl) (fun x5 M4 h6 => ?_)
    refine zg_if_ne C 27 24 rfl dX7_item_21 (by decide) ?_ ?_
    · refine zg_bipush C (-11 : Int32) 26 rfl dX7_item_24 (by decide) ?_
      exact zg_iret C dX7_item_26 trivial
    · refine zg_aload_n C 0 28 rfl dX7_item_27 rfl ?_
      refine fgX7_69 C zn0 31 rfl dX7_item_28 ?_
      refine zg_iload_n C 1 32 rfl dX7_item_31 rfl ?_
      refine zg_iload_n C 2 33 rfl dX7_item_32 rfl ?_
      refine zg_callVI C [.int a0, .int a1] 36 rfl dX7_item_33 (tK_hasPlace hD M4 a0 a1) rfl (fun _ _ hP _ => zrecv C.2.2.2.2.2.1 hP zn27 rfl rfl) zw735 zw732 zw733 zw734 zw8 oK_hasPlace (by decide) (Nat.le_of_ble_eq_true rfl) (fun x8 M7 h9 => ?_)
      refine zg_if_ne C 42 39 rfl dX7_item_36 (by decide) ?_ ?_
      · refine zg_bipush C (-13 : Int32) 41 rfl dX7_item_39 (by decide) ?_
        exact zg_iret C dX7_item_41 trivial
      · refine zg_aload_n C 0 43 rfl dX7_item_42 rfl ?_
        refine fgX7_69 C zn0 46 rfl dX7_item_43 ?_
        refine zg_iload_n C 1 47 rfl dX7_item_46 rfl ?_
        refine zg_iload_n C 2 48 rfl dX7_item_47 rfl ?_
        refine zg_lload_n C 3 49 rfl dX7_item_48 rfl ?_
        refine zg_callVU C [.int a0, .int a1, .long a2] 52 rfl dX7_item_49 (tK_put hD M7 a0 a1 a2) rfl (fun _ _ hP _ => zrecv C.2.2.2.2.2.1 hP zn27 rfl rfl) zw739 zw736 zw737 zw738 zw8 oK_put (by decide) (Nat.le_of_ble_eq_true rfl) (fun _u M10 h11 => ?_)
        refine zg_iconst C (1 : Int32) 53 rfl dX7_item_52 (by decide) ?_
        exact zg_iret C dX7_item_53 trivial
set_option maxHeartbeats 4000000 in
set_option maxRecDepth 100000 in
theorem tE_doubtOf {l : Launch} {E : zE} {A : Nat → Prop} (hD : zD E zNC A) (M : zM) (r0 : Nat) (hr0 : r0 < 7) (r1 : Nat) (hr1 : r1 < 18) (r2 : Nat) (hr2 : r2 < 18) (a2 : Int32) : zCT l yX1_doubtOf cX1_doubtOf 5 (some .int) 4 E zNC A [.ref (zad E 13 r0), .ref (zad E 2 r1), .ref (zad E 2 r2), .int a2] M zvI zoT (qE_doubtOf  M r0 r1 r2 a2) := by
  refine zCT_of (by decide) hD (by first | decide | exact Nat.le_of_ble_eq_true rfl) (fun p e R s m args below meth c C => ?_)
  have C : zCx p R s m args meth c cX1_doubtOf "TwoTrue$Evening" E zNC A 5 (some .int) 4 := C
  unfold qE_doubtOf
  refine zg_sub [0, 1, 2, 3] [(0, .ref (zad E 13 r0)), (1, .ref (zad E 2 r1)), (2, .ref (zad E 2 r2)), (3, .int a2)] rfl ?_
  refine zg_aload_n C 2 1 rfl dX1_doubtOf_0 rfl ?_
  refine fgX1_25 C (zn2 hr2) 4 rfl dX1_doubtOf_1 ?_
  refine zg_iload_n C 3 5 rfl dX1_doubtOf_4 rfl ?_
  refine zg_iald C 6 rfl dX1_doubtOf_5 (zn5 hr2) rfl ?_
  refine zg_nmI (fun x1 => ?_)
  refine zg_istore C 4 [(4, .int x1), (0, .ref (zad E 13 r0)), (1, .ref (zad E 2 r1)), (2, .ref (zad E 2 r2)), (3, .int a2)] 8 rfl dX1_doubtOf_6 (by decide) rfl ?_
  refine zg_aload_n C 1 9 rfl dX1_doubtOf_8 rfl ?_
  refine fgX1_15 C (zn13 hr0) 12 rfl dX1_doubtOf_9 ?_
  refine zg_iconst C (0 : Int32) 13 rfl dX1_doubtOf_12 (by decide) ?_
  refine zg_aload_n C 2 14 rfl dX1_doubtOf_13 rfl ?_
  refine fgX1_30 C (zn2 hr1) 17 rfl dX1_doubtOf_14 ?_
  refine zg_iast C 18 rfl dX1_doubtOf_17 (zn15 hr0) (fun _ _ => rfl) (fun M2 => ?_)
  refine zg_aload_n C 1 19 rfl dX1_doubtOf_18 rfl ?_
  refine fgX1_15 C (zn13 hr0) 22 rfl dX1_doubtOf_19 ?_
  refine zg_iconst C (1 : Int32) 23 rfl dX1_doubtOf_22 (by decide) ?_
  refine zg_aload_n C 2 24 rfl dX1_doubtOf_23 rfl ?_
  refine fgX1_33 C (zn2 hr1) 27 rfl dX1_doubtOf_24 ?_
  refine zg_iast C 28 rfl dX1_doubtOf_27 (zn15 hr0) (fun _ _ => rfl) (fun M3 => ?_)
  refine zg_aload_n C 1 29 rfl dX1_doubtOf_28 rfl ?_
  refine fgX1_15 C (zn13 hr0) 32 rfl dX1_doubtOf_29 ?_
  refine zg_iconst C (2 : Int32) 33 rfl dX1_doubtOf_32 (by decide) ?_
  refine zg_aload_n C 3 34 rfl dX1_doubtOf_33 rfl ?_
  refine fgX1_30 C (zn2 hr2) 37 rfl dX1_doubtOf_34 ?_
  refine zg_iast C 38 rfl dX1_doubtOf_37 (zn15 hr0) (fun _ _ => rfl) (fun M4 => ?_)
  refine zg_aload_n C 1 39 rfl dX1_doubtOf_38 rfl ?_
  refine fgX1_15 C (zn13 hr0) 42 rfl dX1_doubtOf_39 ?_
  refine zg_iconst C (3 : Int32) 43 rfl dX1_doubtOf_42 (by decide) ?_
  refine zg_iload_n C 4 44 rfl dX1_doubtOf_43 rfl ?_
  refine zg_iast C 45 rfl dX1_doubtOf_44 (zn15 hr0) (fun _ _ => rfl) (fun M5 => ?_)
  refine zg_aload_n C 1 46 rfl dX1_doubtOf_45 rfl ?_
  refine fgX1_15 C (zn13 hr0) 49 rfl dX1_doubtOf_46 ?_
  refine zg_iconst C (4 : Int32) 50 rfl dX1_doubtOf_49 (by decide) ?_
  refine zg_aload_n C 3 51 rfl dX1_doubtOf_50 rfl ?_
  refine fgX1_36 C (zn2 hr2) 54 rfl dX1_doubtOf_51 ?_
  refine zg_iload C 0 56 rfl dX1_doubtOf_54 rfl ?_
  refine zg_iald C 57 rfl dX1_doubtOf_56 (zn3 hr2) rfl ?_
  refine zg_bipush C (10 : Int32) 59 rfl dX1_doubtOf_57 (by decide) ?_
  refine zg_idivK C 60 rfl dX1_doubtOf_59 (by decide) ?_
  refine zg_iast C 61 rfl dX1_doubtOf_60 (zn15 hr0) (fun _ _ => rfl) (fun M6 => ?_)
  refine zg_aload_n C 1 62 rfl dX1_doubtOf_61 rfl ?_
  refine fgX1_15 C (zn13 hr0) 65 rfl dX1_doubtOf_62 ?_
  refine zg_iconst C (5 : Int32) 66 rfl dX1_doubtOf_65 (by decide) ?_
  refine zg_aload_n C 3 67 rfl dX1_doubtOf_66 rfl ?_
  refine fgX1_39 C (zn2 hr2) 70 rfl dX1_doubtOf_67 ?_
  refine zg_iload C 0 72 rfl dX1_doubtOf_70 rfl ?_
  refine zg_iald C 73 rfl dX1_doubtOf_72 (zn4 hr2) rfl ?_
  refine zg_iast C 74 rfl dX1_doubtOf_73 (zn15 hr0) (fun _ _ => rfl) (fun M7 => ?_)
  refine zg_bipush C (99 : Int32) 76 rfl dX1_doubtOf_74 (by decide) ?_
  refine zg_aload_n C 3 77 rfl dX1_doubtOf_76 rfl ?_
  refine fgX1_36 C (zn2 hr2) 80 rfl dX1_doubtOf_77 ?_
  refine zg_iload C 0 82 rfl dX1_doubtOf_80 rfl ?_
  refine zg_iald C 83 rfl dX1_doubtOf_82 (zn3 hr2) rfl ?_
  refine zg_isub C 84 rfl dX1_doubtOf_83 ?_
  refine zg_aload_n C 1 85 rfl dX1_doubtOf_84 rfl ?_
  refine zg_callVI C [] 88 rfl dX1_doubtOf_85 (tE_runClauses hD M7 r0 hr0) rfl (fun _ _ hP _ => zrecv C.2.2.2.2.2.1 hP (zn13 hr0) rfl rfl) zw512 zw509 zw511 zv10 zw5 oE_runClauses (by decide) (Nat.le_of_ble_eq_true rfl) (fun x9 M8 h10 => ?_)
  refine zg_iadd C 89 rfl dX1_doubtOf_88 ?_
  exact zg_iret C dX1_doubtOf_89 trivial
set_option maxHeartbeats 4000000 in
set_option maxRecDepth 100000 in
theorem tS_indexOf2 {l : Launch} {E : zE} {A : Nat → Prop} (hD : zD E zNC A) (M : zM) (w : Nat) (hw : w < 4) (a0 : Int32) (a1 : Int32) : zCT l yJS_indexOf2 prog_13_method_80_code 3 (some .int) 4 E zNC A [.ref (zsk E w), .int a0, .int a1] M zvI zoT (qS_indexOf2  M w a0 a1) := by
  refine zCT_of (by decide) hD (by first | decide | exact Nat.le_of_ble_eq_true rfl) (fun p e R s m args below meth c C => ?_)
  have C : zCx p R s m args meth c prog_13_method_80_code "java/lang/String" E zNC A 3 (some .int) 4 := C
  unfold qS_indexOf2
  refine zg_sub [0, 1, 2] [(0, .ref (zsk E w)), (1, .int a0), (2, .int a1)] rfl ?_
  refine zg_aload_n C 0 1 rfl dJ13_indexOf2_0 rfl ?_
  refine zg_callVI C [] 4 rfl dJ13_indexOf2_1 (tS_isLatin1 hD M w hw) rfl (fun _ _ _ hS => vk_recv C.2.2.2.2.2.2.1.2.2.2.1 hw hS) zw371 zw368 zw369 zw370 zw10 oS_isLatin1 (by decide) (Nat.le_of_ble_eq_true rfl) (fun x2 M1 h3 => ?_)
  refine zg_if_eq C 23 7 rfl dJ13_indexOf2_4 (by decide) ?_ ?_
  · refine zg_aload_n C 0 24 rfl dJ13_indexOf2_23 rfl ?_
    refine zg_getV C hw 27 rfl dJ13_indexOf2_24 zw1296 ?_
    refine zg_iload_n C 1 28 rfl dJ13_indexOf2_27 rfl ?_
    refine zg_iload_n C 2 29 rfl dJ13_indexOf2_28 rfl ?_
    refine zg_aload_n C 0 30 rfl dJ13_indexOf2_29 rfl ?_
    refine zg_callVI C [] 33 rfl dJ13_indexOf2_30 (tS_length hD M1 w hw) rfl (fun _ _ _ hS => vk_recv C.2.2.2.2.2.2.1.2.2.2.1 hw hS) zw357 zw441 zw355 zw356 zw10 oS_length (by decide) (Nat.le_of_ble_eq_true rfl) (fun x5 M4 h6 => ?_)
    exact zg_none
  · refine zg_aload_n C 0 8 rfl dJ13_indexOf2_7 rfl ?_
    refine zg_getV C hw 11 rfl dJ13_indexOf2_8 zw1296 ?_
    refine zg_iload_n C 1 12 rfl dJ13_indexOf2_11 rfl ?_
    refine zg_iload_n C 2 13 rfl dJ13_indexOf2_12 rfl ?_
    refine zg_aload_n C 0 14 rfl dJ13_indexOf2_13 rfl ?_
    refine zg_callVI C [] 17 rfl dJ13_indexOf2_14 (tS_length hD M1 w hw) rfl (fun _ _ _ hS => vk_recv C.2.2.2.2.2.2.1.2.2.2.1 hw hS) zw357 zw441 zw355 zw356 zw10 oS_length (by decide) (Nat.le_of_ble_eq_true rfl) (fun x8 M7 h9 => ?_)
    refine zg_callSI C [.ref (zsv E w), .int a0, .int a1, .int x8] 20 rfl dJ13_indexOf2_17 (tL_indexOf hD M7 w hw a0 a1 x8) rfl  zw444 zw442 zw443 zw11 oL_indexOf (by decide) (Nat.le_of_ble_eq_true rfl) (fun x11 M10 h12 => ?_)
    refine zg_goto C 36 dJ13_indexOf2_20 (by decide) ?_
    exact zg_iret C dJ13_indexOf2_36 trivial
set_option maxHeartbeats 4000000 in
set_option maxRecDepth 100000 in
theorem tL_charAt {l : Launch} {E : zE} {A : Nat → Prop} (hD : zD E zNC A) (M : zM) (w0 : Nat) (hw0 : w0 < 4) (a1 : Int32) : zCT l yJL_charAt prog_14_method_2_code 2 (some .char) 4 E zNC A [.ref (zsv E w0), .int a1] M zvI zoC (qL_charAt  M w0 a1) := by
  refine zCT_of (by decide) hD (by first | decide | exact Nat.le_of_ble_eq_true rfl) (fun p e R s m args below meth c C => ?_)
  have C : zCx p R s m args meth c prog_14_method_2_code "java/lang/StringLatin1" E zNC A 2 (some .char) 4 := C
  unfold qL_charAt
  refine zg_sub [0, 1] [(0, .ref (zsv E w0)), (1, .int a1)] rfl ?_
  refine zg_iload_n C 1 1 rfl dJ14_charAt_0 rfl ?_
  refine zg_aload_n C 0 2 rfl dJ14_charAt_1 rfl ?_
  refine zg_tlen C 3 rfl hw0 dJ14_charAt_2 ?_
  refine zg_callSU C [.int a1, .int (nI (zlen.getD w0 0))] 6 rfl dJ14_charAt_3 (tS_checkIndex hD M a1 (nI (zlen.getD w0 0))) rfl  zw377 zw375 zw376 zw10 oS_checkIndex (by decide) (Nat.le_of_ble_eq_true rfl) (fun _u M1 h2 => ?_)
  refine zg_aload_n C 0 7 rfl dJ14_charAt_6 rfl ?_
  refine zg_iload_n C 1 8 rfl dJ14_charAt_7 rfl ?_
  refine zg_tb C 9 rfl hw0 dJ14_charAt_8 ?_
  refine zg_sipush C (255 : Int32) 12 rfl dJ14_charAt_9 (by decide) ?_
  refine zg_iand C 13 rfl dJ14_charAt_12 ?_
  refine zg_i2c C 14 rfl dJ14_charAt_13 ?_
  exact zg_zret C dJ14_charAt_14 (pk_nc (((zbyt.getD w0 []).getD a1.toNatClampNeg 0) &&& (255 : Int32))) (pk_nc (((zbyt.getD w0 []).getD a1.toNatClampNeg 0) &&& (255 : Int32)))
set_option maxHeartbeats 4000000 in
set_option maxRecDepth 100000 in
theorem tG_doubt {l : Launch} {E : zE} {A : Nat → Prop} (hD : zD E zNC A) (M : zM) (a0 : Int32) (a1 : Int32) (a2 : Int32) : zCT l yX7_doubt cX7_doubt 4 (some .int) 5 E zNC A [.ref (zad E 0 0), .int a0, .int a1, .int a2] M zvI zoT (qG_doubt  M a0 a1 a2) := by
  refine zCT_of (by decide) hD (by first | decide | exact Nat.le_of_ble_eq_true rfl) (fun p e R s m args below meth c C => ?_)
  have C : zCx p R s m args meth c cX7_doubt "TwoTrue" E zNC A 4 (some .int) 5 := C
  unfold qG_doubt
  refine zg_sub [0, 1, 2, 3] [(0, .ref (zad E 0 0)), (1, .int a0), (2, .int a1), (3, .int a2)] rfl ?_
  refine zg_aload_n C 0 1 rfl dX7_doubt_0 rfl ?_
  refine fgX7_12 C zn0 4 rfl dX7_doubt_1 ?_
  refine zg_iload_n C 1 5 rfl dX7_doubt_4 rfl ?_
  refine zg_callVI C [.int a0] 8 rfl dX7_doubt_5 (tP_has hD M 0 (by decide) a0) rfl (fun _ _ hP _ => zrecv C.2.2.2.2.2.1 hP (zn1 (by decide : 0 < 3)) rfl rfl) zw292 zw289 zw290 zw291 zw2 oP_has (by decide) (Nat.le_of_ble_eq_true rfl) (fun x2 M1 h3 => ?_)
  refine zg_if_eq C 29 11 rfl dX7_doubt_8 (by decide) ?_ ?_
  · refine zg_sipush C (-1001 : Int32) 32 rfl dX7_doubt_29 (by decide) ?_
    exact zg_iret C dX7_doubt_32 trivial
  · refine zg_aload_n C 0 12 rfl dX7_doubt_11 rfl ?_
    refine fgX7_12 C zn0 15 rfl dX7_doubt_12 ?_
    refine zg_iload_n C 2 16 rfl dX7_doubt_15 rfl ?_
    refine zg_callVI C [.int a1] 19 rfl dX7_doubt_16 (tP_has hD M1 0 (by decide) a1) rfl (fun _ _ hP _ => zrecv C.2.2.2.2.2.1 hP (zn1 (by decide : 0 < 3)) rfl rfl) zw292 zw289 zw290 zw291 zw2 oP_has (by decide) (Nat.le_of_ble_eq_true rfl) (fun x5 M4 h6 => ?_)
    refine zg_if_eq C 29 22 rfl dX7_doubt_19 (by decide) ?_ ?_
    · refine zg_sipush C (-1001 : Int32) 32 rfl dX7_doubt_29 (by decide) ?_
      exact zg_iret C dX7_doubt_32 trivial
    · refine zg_iload_n C 3 23 rfl dX7_doubt_22 rfl ?_
      refine zg_callSI C [.int a2] 26 rfl dX7_doubt_23 (tG_isOfThree hD M4 a2) rfl  zw295 zw293 zw294 zw1 oG_isOfThree (by decide) (Nat.le_of_ble_eq_true rfl) (fun x8 M7 h9 => ?_)
      refine zg_if_ne C 33 29 rfl dX7_doubt_26 (by decide) ?_ ?_
      · refine zg_sipush C (-1001 : Int32) 32 rfl dX7_doubt_29 (by decide) ?_
        exact zg_iret C dX7_doubt_32 trivial
      · refine zg_iload_n C 1 34 rfl dX7_doubt_33 rfl ?_
        refine zg_iload_n C 2 35 rfl dX7_doubt_34 rfl ?_
        refine zg_icmp_ne C 42 38 rfl dX7_doubt_35 (by decide) ?_ ?_
        · refine zg_sipush C (-1002 : Int32) 41 rfl dX7_doubt_38 (by decide) ?_
          exact zg_iret C dX7_doubt_41 trivial
        · refine zg_aload_n C 0 43 rfl dX7_doubt_42 rfl ?_
          refine zg_callVR C [] 46 rfl dX7_doubt_43 (tG_held hD M7 ) rfl (fun _ _ hP _ => zrecv C.2.2.2.2.2.1 hP zn0 rfl rfl) zw500 zw497 zw499 zv9 zw1 oG_held (by decide) (Nat.le_of_ble_eq_true rfl) (fun i12 M10 h13 => ?_)
          refine zg_aload_n C 0 47 rfl dX7_doubt_46 rfl ?_
          refine fgX7_12 C zn0 50 rfl dX7_doubt_47 ?_
          refine fgX7_88 C (zn1 (by decide : 0 < 3)) 53 rfl dX7_doubt_50 ?_
          refine zg_iload_n C 1 54 rfl dX7_doubt_53 rfl ?_
          refine zg_aald (k2 := 2) (b := 0) (t0 := 3) C 55 rfl dX7_doubt_54 (zn7 (by decide : 0 < 3)) rfl rfl (fun i14 hbi14 hei14 => ?_)
          have hi14 : i14 < 18 := by omega
          refine zg_aload_n C 0 56 rfl dX7_doubt_55 rfl ?_
          refine fgX7_12 C zn0 59 rfl dX7_doubt_56 ?_
          refine fgX7_88 C (zn1 (by decide : 0 < 3)) 62 rfl dX7_doubt_59 ?_
          refine zg_iload_n C 2 63 rfl dX7_doubt_62 rfl ?_
          refine zg_aald (k2 := 2) (b := 0) (t0 := 3) C 64 rfl dX7_doubt_63 (zn7 (by decide : 0 < 3)) rfl rfl (fun i15 hbi15 hei15 => ?_)
          have hi15 : i15 < 18 := by omega
          refine zg_iload_n C 3 65 rfl dX7_doubt_64 rfl ?_
          refine zg_callVI C [.ref (zad E 2 i14), .ref (zad E 2 i15), .int a2] 68 rfl dX7_doubt_65 (tE_doubtOf hD M10 i12 h13 i14 hi14 i15 hi15 a2) rfl (fun _ _ hP _ => zrecv C.2.2.2.2.2.1 hP (zn13 h13) rfl rfl) zw508 zw505 zw506 zw507 zw5 oE_doubtOf (by decide) (Nat.le_of_ble_eq_true rfl) (fun x17 M16 h18 => ?_)
          exact zg_iret C dX7_doubt_68 trivial
set_option maxHeartbeats 4000000 in
set_option maxRecDepth 100000 in
theorem tG_guessOfGuest_L17 {p : Program} {l : Launch} {e : Env} {R : Room} {s : State} {m : MethodId} {args : Array Value} {below : List Frame} {meth : Method} {c : Code} {E : zE} {A : Nat → Prop} (C : zCx p R s m args meth c cX7_guessOfGuest "TwoTrue" E zNC A 7 (some .int) 5) (hD : zD E zNC A) (k1 : Nat) (hk1 : k1 < 18) (k2 : Nat) (hk2 : k2 < 18) : ∀ (n : Nat) (M : zM) (v3 : Int32) (v4 : Int32) (v5 : Int32), zG p l e R s m args below meth c E zNC A 7 zvI zoT 17 [(0, .ref (zad E 0 0)), (1, .ref (zad E 2 k1)), (2, .ref (zad E 2 k2)), (3, .int v3), (4, .int v4), (5, .int v5)] [] M (qG_guessOfGuest_L17 k1 k2 n M v3 v4 v5) := by
  intro n
  induction n with
  | zero =>
    intro M v3 v4 v5
    exact zg_none
  | succ n ih =>
    intro M v3 v4 v5
    rw [qG_guessOfGuest_L17]
    refine zg_iload C 5 19 rfl dX7_guessOfGuest_17 rfl ?_
    refine zg_iconst C (3 : Int32) 20 rfl dX7_guessOfGuest_19 (by decide) ?_
    refine zg_icmp_ge C 56 23 rfl dX7_guessOfGuest_20 (by decide) ?_ ?_
    · refine zg_iload_n C 3 57 rfl dX7_guessOfGuest_56 rfl ?_
      exact zg_iret C dX7_guessOfGuest_57 trivial
    · refine zg_aload_n C 0 24 rfl dX7_guessOfGuest_23 rfl ?_
      refine zg_callVR C [] 27 rfl dX7_guessOfGuest_24 (tG_held hD M ) rfl (fun _ _ hP _ => zrecv C.2.2.2.2.2.1 hP zn0 rfl rfl) zw500 zw497 zw499 zv9 zw1 oG_held (by decide) (Nat.le_of_ble_eq_true rfl) (fun i10 M8 h11 => ?_)
      refine zg_aload_n C 1 28 rfl dX7_guessOfGuest_27 rfl ?_
      refine zg_aload_n C 2 29 rfl dX7_guessOfGuest_28 rfl ?_
      refine zg_iload C 5 31 rfl dX7_guessOfGuest_29 rfl ?_
      refine zg_callVI C [.ref (zad E 2 k1), .ref (zad E 2 k2), .int v5] 34 rfl dX7_guessOfGuest_31 (tE_doubtOf hD M8 i10 h11 k1 hk1 k2 hk2 v5) rfl (fun _ _ hP _ => zrecv C.2.2.2.2.2.1 hP (zn13 h11) rfl rfl) zw508 zw505 zw506 zw507 zw5 oE_doubtOf (by decide) (Nat.le_of_ble_eq_true rfl) (fun x13 M12 h14 => ?_)
      refine zg_istore C 6 [(6, .int x13), (0, .ref (zad E 0 0)), (1, .ref (zad E 2 k1)), (2, .ref (zad E 2 k2)), (3, .int v3), (4, .int v4), (5, .int v5)] 36 rfl dX7_guessOfGuest_34 (by decide) rfl ?_
      refine zg_iload C 0 38 rfl dX7_guessOfGuest_36 rfl ?_
      refine zg_iload C 5 40 rfl dX7_guessOfGuest_38 rfl ?_
      refine zg_jn (fun j18 => ∀ (M17 : zM) (x15 : Int32) (x16 : Int32), zG p l e R s m args below meth c E zNC A 7 zvI zoT 50 [(0, .ref (zad E 0 0)), (1, .ref (zad E 2 k1)), (2, .ref (zad E 2 k2)), (3, .int x15), (4, .int x16), (5, .int v5)] [] M17 (j18 M17 x15 x16)) (fun M17 x15 x16 => ?_) (fun j18 hj18 => ?_)
      · refine zg_iinc C 5 (v5 + (1 : Int32)) [(5, .int (v5 + (1 : Int32))), (0, .ref (zad E 0 0)), (1, .ref (zad E 2 k1)), (2, .ref (zad E 2 k2)), (3, .int x15), (4, .int x16)] 53 rfl dX7_guessOfGuest_50 rfl (congrArg (fun z : Int32 => v5 + z) (by decide : Int32.ofInt (1) = (1 : Int32))) (by decide) rfl ?_
        refine zg_goto C 17 dX7_guessOfGuest_53 (by decide) ?_
        refine zg_sub [1, 2, 3, 4, 5, 0] [(0, .ref (zad E 0 0)), (1, .ref (zad E 2 k1)), (2, .ref (zad E 2 k2)), (3, .int x15), (4, .int x16), (5, .int (v5 + (1 : Int32)))] rfl ?_
        exact ih M17 x15 x16 (v5 + (1 : Int32))
      · refine zg_icmp_le C 50 43 rfl dX7_guessOfGuest_40 (by decide) ?_ ?_
        · refine zg_sub [1, 2, 3, 4, 5, 6] [(0, .ref (zad E 0 0)), (1, .ref (zad E 2 k1)), (2, .ref (zad E 2 k2)), (3, .int v3), (4, .int v4), (5, .int v5)] rfl ?_
          exact hj18 M12 v3 v4
        · refine zg_iload C 0 45 rfl dX7_guessOfGuest_43 rfl ?_
          refine zg_istore C 4 [(4, .int x13), (6, .int x13), (0, .ref (zad E 0 0)), (1, .ref (zad E 2 k1)), (2, .ref (zad E 2 k2)), (3, .int v3), (5, .int v5)] 47 rfl dX7_guessOfGuest_45 (by decide) rfl ?_
          refine zg_iload C 6 49 rfl dX7_guessOfGuest_47 rfl ?_
          refine zg_istore_n C 3 [(3, .int v5), (4, .int x13), (6, .int x13), (0, .ref (zad E 0 0)), (1, .ref (zad E 2 k1)), (2, .ref (zad E 2 k2)), (5, .int v5)] 50 rfl dX7_guessOfGuest_49 rfl (by decide) rfl ?_
          refine zg_sub [3, 4, 5, 0, 1, 6] [(0, .ref (zad E 0 0)), (1, .ref (zad E 2 k1)), (2, .ref (zad E 2 k2)), (3, .int v5), (4, .int x13), (5, .int v5)] rfl ?_
          exact hj18 M12 v5 x13
set_option maxHeartbeats 4000000 in
set_option maxRecDepth 100000 in
theorem tG_guessOfGuest {l : Launch} {E : zE} {A : Nat → Prop} (hD : zD E zNC A) (M : zM) (r1 : Nat) (hr1 : r1 < 18) (r2 : Nat) (hr2 : r2 < 18) : zCT l yX7_guessOfGuest cX7_guessOfGuest 7 (some .int) 5 E zNC A [.ref (zad E 0 0), .ref (zad E 2 r1), .ref (zad E 2 r2)] M zvI zoT (qG_guessOfGuest  M r1 r2) := by
  refine zCT_of (by decide) hD (by first | decide | exact Nat.le_of_ble_eq_true rfl) (fun p e R s m args below meth c C => ?_)
  have C : zCx p R s m args meth c cX7_guessOfGuest "TwoTrue" E zNC A 7 (some .int) 5 := C
  unfold qG_guessOfGuest
  refine zg_sub [0, 1, 2] [(0, .ref (zad E 0 0)), (1, .ref (zad E 2 r1)), (2, .ref (zad E 2 r2))] rfl ?_
  refine zg_iconst C (0 : Int32) 1 rfl dX7_guessOfGuest_0 (by decide) ?_
  refine zg_istore_n C 3 [(3, .int (0 : Int32)), (0, .ref (zad E 0 0)), (1, .ref (zad E 2 r1)), (2, .ref (zad E 2 r2))] 2 rfl dX7_guessOfGuest_1 rfl (by decide) rfl ?_
  refine zg_aload_n C 1 3 rfl dX7_guessOfGuest_2 rfl ?_
  refine zg_callVR C [] 6 rfl dX7_guessOfGuest_3 (tG_held hD M ) rfl (fun _ _ hP _ => zrecv C.2.2.2.2.2.1 hP zn0 rfl rfl) zw500 zw497 zw499 zv9 zw1 oG_held (by decide) (Nat.le_of_ble_eq_true rfl) (fun i3 M1 h4 => ?_)
  refine zg_aload_n C 2 7 rfl dX7_guessOfGuest_6 rfl ?_
  refine zg_aload_n C 3 8 rfl dX7_guessOfGuest_7 rfl ?_
  refine zg_iconst C (0 : Int32) 9 rfl dX7_guessOfGuest_8 (by decide) ?_
  refine zg_callVI C [.ref (zad E 2 r1), .ref (zad E 2 r2), .int (0 : Int32)] 12 rfl dX7_guessOfGuest_9 (tE_doubtOf hD M1 i3 h4 r1 hr1 r2 hr2 (0 : Int32)) rfl (fun _ _ hP _ => zrecv C.2.2.2.2.2.1 hP (zn13 h4) rfl rfl) zw508 zw505 zw506 zw507 zw5 oE_doubtOf (by decide) (Nat.le_of_ble_eq_true rfl) (fun x6 M5 h7 => ?_)
  refine zg_istore C 4 [(4, .int x6), (3, .int (0 : Int32)), (0, .ref (zad E 0 0)), (1, .ref (zad E 2 r1)), (2, .ref (zad E 2 r2))] 14 rfl dX7_guessOfGuest_12 (by decide) rfl ?_
  refine zg_iconst C (1 : Int32) 15 rfl dX7_guessOfGuest_14 (by decide) ?_
  refine zg_istore C 5 [(5, .int (1 : Int32)), (4, .int x6), (3, .int (0 : Int32)), (0, .ref (zad E 0 0)), (1, .ref (zad E 2 r1)), (2, .ref (zad E 2 r2))] 17 rfl dX7_guessOfGuest_15 (by decide) rfl ?_
  refine zg_sub [3, 4, 5, 2, 1, 0] [(0, .ref (zad E 0 0)), (1, .ref (zad E 2 r1)), (2, .ref (zad E 2 r2)), (3, .int (0 : Int32)), (4, .int x6), (5, .int (1 : Int32))] rfl ?_
  refine tG_guessOfGuest_L17 C hD r1 hr1 r2 hr2  1000 M5 (0 : Int32) x6 (1 : Int32)
set_option maxHeartbeats 4000000 in
set_option maxRecDepth 100000 in
theorem tY_begin_L89 {p : Program} {l : Launch} {e : Env} {R : Room} {s : State} {m : MethodId} {args : Array Value} {below : List Frame} {meth : Method} {c : Code} {E : zE} {A : Nat → Prop} (C : zCx p R s m args meth c cX4_begin "TwoTrue$Play" E zNC A 8 none 5) (hD : zD E zNC A) (k1 : Nat) (hk1 : k1 < 3) (k2 : Nat) (hk2 : k2 < 7) (c3 : Int32) (k4 : Nat) (hk4 : k4 < 18) (c5 : Int32) (k6 : Nat) (hk6 : k6 < 18) {e141 : zM → Option (Unit × zM)} (he141 : ∀ (M : zM), zG p l e R s m args below meth c E zNC A 8 zvU zoT 141 [(0, .ref (zad E 16 0)), (1, .ref (zad E 1 k1)), (2, .ref (zad E 13 k2)), (3, .int c3), (4, .ref (zad E 2 k4)), (5, .int c5)] [] M (e141 M )) : ∀ (n : Nat) (M : zM) (v7 : Int32), zG p l e R s m args below meth c E zNC A 8 zvU zoT 89 [(0, .ref (zad E 16 0)), (1, .ref (zad E 1 k1)), (2, .ref (zad E 13 k2)), (3, .int c3), (4, .ref (zad E 2 k4)), (5, .int c5), (6, .ref (zad E 2 k6)), (7, .int v7)] [] M (qY_begin_L89 k1 k2 c3 k4 c5 k6 e141 n M v7) := by
  intro n
  induction n with
  | zero =>
    intro M v7
    exact zg_none
  | succ n ih =>
    intro M v7
    rw [qY_begin_L89]
    refine zg_iload C 7 91 rfl dX4_begin_89 rfl ?_
    refine zg_iconst C (3 : Int32) 92 rfl dX4_begin_91 (by decide) ?_
    refine zg_icmp_ge C 141 95 rfl dX4_begin_92 (by decide) ?_ ?_
    · refine zg_sub [0, 1, 2, 3, 4, 5] [(0, .ref (zad E 16 0)), (1, .ref (zad E 1 k1)), (2, .ref (zad E 13 k2)), (3, .int c3), (4, .ref (zad E 2 k4)), (5, .int c5)] rfl ?_
      exact he141 M 
    · refine zg_iload C 5 97 rfl dX4_begin_95 rfl ?_
      refine zg_iload_n C 3 98 rfl dX4_begin_97 rfl ?_
      refine zg_icmp_eq C 141 101 rfl dX4_begin_98 (by decide) ?_ ?_
      · refine zg_sub [0, 1, 2, 3, 4, 5] [(0, .ref (zad E 16 0)), (1, .ref (zad E 1 k1)), (2, .ref (zad E 13 k2)), (3, .int c3), (4, .ref (zad E 2 k4)), (5, .int c5)] rfl ?_
        exact he141 M 
      · refine zg_aload_n C 0 102 rfl dX4_begin_101 rfl ?_
        refine fgX4_9 C zn16 105 rfl dX4_begin_102 ?_
        refine zg_iload C 5 107 rfl dX4_begin_105 rfl ?_
        refine zg_iconst C (3 : Int32) 108 rfl dX4_begin_107 (by decide) ?_
        refine zg_imul C 109 rfl dX4_begin_108 ?_
        refine zg_iload C 7 111 rfl dX4_begin_109 rfl ?_
        refine zg_iadd C 112 rfl dX4_begin_111 ?_
        refine zg_aload_n C 2 113 rfl dX4_begin_112 rfl ?_
        refine zg_aload C 6 115 rfl dX4_begin_113 rfl ?_
        refine zg_aload C 4 117 rfl dX4_begin_115 rfl ?_
        refine zg_iload C 7 119 rfl dX4_begin_117 rfl ?_
        refine zg_callVI C [.ref (zad E 2 k6), .ref (zad E 2 k4), .int v7] 122 rfl dX4_begin_119 (tE_doubtOf hD M k2 hk2 k6 hk6 k4 hk4 v7) rfl (fun _ _ hP _ => zrecv C.2.2.2.2.2.1 hP (zn13 hk2) rfl rfl) zw508 zw542 zw506 zw507 zw5 oE_doubtOf (by decide) (Nat.le_of_ble_eq_true rfl) (fun x19 M18 h20 => ?_)
        refine zg_aload_n C 0 123 rfl dX4_begin_122 rfl ?_
        refine zg_aload C 6 125 rfl dX4_begin_123 rfl ?_
        refine zg_aload C 4 127 rfl dX4_begin_125 rfl ?_
        refine zg_iload C 7 129 rfl dX4_begin_127 rfl ?_
        refine zg_aload_n C 1 130 rfl dX4_begin_129 rfl ?_
        refine zg_callVI C [.ref (zad E 2 k6), .ref (zad E 2 k4), .int v7, .ref (zad E 1 k1)] 133 rfl dX4_begin_130 (tY_addedTo hD M18 k6 hk6 k4 hk4 v7 k1 hk1) rfl (fun _ _ hP _ => zrecv C.2.2.2.2.2.1 hP zn16 rfl rfl) zw546 zw543 zw545 zv14 zw6 oY_addedTo (by decide) (Nat.le_of_ble_eq_true rfl) (fun x22 M21 h23 => ?_)
        refine zg_iadd C 134 rfl dX4_begin_133 ?_
        refine zg_iast C 135 rfl dX4_begin_134 zn17 (fun _ _ => rfl) (fun M24 => ?_)
        refine zg_iinc C 7 (v7 + (1 : Int32)) [(7, .int (v7 + (1 : Int32))), (0, .ref (zad E 16 0)), (1, .ref (zad E 1 k1)), (2, .ref (zad E 13 k2)), (3, .int c3), (4, .ref (zad E 2 k4)), (5, .int c5), (6, .ref (zad E 2 k6))] 138 rfl dX4_begin_135 rfl (congrArg (fun z : Int32 => v7 + z) (by decide : Int32.ofInt (1) = (1 : Int32))) (by decide) rfl ?_
        refine zg_goto C 89 dX4_begin_138 (by decide) ?_
        refine zg_sub [1, 2, 3, 4, 5, 6, 7, 0] [(0, .ref (zad E 16 0)), (1, .ref (zad E 1 k1)), (2, .ref (zad E 13 k2)), (3, .int c3), (4, .ref (zad E 2 k4)), (5, .int c5), (6, .ref (zad E 2 k6)), (7, .int (v7 + (1 : Int32)))] rfl ?_
        exact ih M24 (v7 + (1 : Int32))
set_option maxHeartbeats 4000000 in
set_option maxRecDepth 100000 in
theorem tY_begin_L20 {p : Program} {l : Launch} {e : Env} {R : Room} {s : State} {m : MethodId} {args : Array Value} {below : List Frame} {meth : Method} {c : Code} {E : zE} {A : Nat → Prop} (C : zCx p R s m args meth c cX4_begin "TwoTrue$Play" E zNC A 8 none 5) (hD : zD E zNC A) (k1 : Nat) (hk1 : k1 < 3) (k2 : Nat) (hk2 : k2 < 7) (c3 : Int32) (k4 : Nat) (hk4 : k4 < 18) {e147 : zM → Option (Unit × zM)} (he147 : ∀ (M : zM), zG p l e R s m args below meth c E zNC A 8 zvU zoT 147 [(0, .ref (zad E 16 0))] [] M (e147 M )) : ∀ (n : Nat) (M : zM) (v5 : Int32), zG p l e R s m args below meth c E zNC A 8 zvU zoT 20 [(0, .ref (zad E 16 0)), (1, .ref (zad E 1 k1)), (2, .ref (zad E 13 k2)), (3, .int c3), (4, .ref (zad E 2 k4)), (5, .int v5)] [] M (qY_begin_L20 k1 k2 c3 k4 e147 n M v5) := by
  intro n
  induction n with
  | zero =>
    intro M v5
    exact zg_none
  | succ n ih =>
    intro M v5
    rw [qY_begin_L20]
    refine zg_iload C 5 22 rfl dX4_begin_20 rfl ?_
    refine zg_aload_n C 1 23 rfl dX4_begin_22 rfl ?_
    refine fgX4_43 C (zn1 hk1) 26 rfl dX4_begin_23 ?_
    refine zg_icmp_ge C 147 29 rfl dX4_begin_26 (by decide) ?_ ?_
    · refine zg_sub [0] [(0, .ref (zad E 16 0))] rfl ?_
      exact he147 M 
    · refine zg_aload_n C 1 30 rfl dX4_begin_29 rfl ?_
      refine fgX4_28 C (zn1 hk1) 33 rfl dX4_begin_30 ?_
      refine zg_iload C 5 35 rfl dX4_begin_33 rfl ?_
      refine zg_aald (k2 := 2) (b := (6 * k1)) (t0 := 3) C 36 rfl dX4_begin_35 (zn7 hk1) rfl rfl (fun i6 hbi6 hei6 => ?_)
      have hi6 : i6 < 18 := by omega
      refine zg_astore C 6 [(6, .ref (zad E 2 i6)), (0, .ref (zad E 16 0)), (1, .ref (zad E 1 k1)), (2, .ref (zad E 13 k2)), (3, .int c3), (4, .ref (zad E 2 k4)), (5, .int v5)] 38 rfl dX4_begin_36 (by decide) rfl ?_
      refine zg_aload_n C 1 39 rfl dX4_begin_38 rfl ?_
      refine fgX4_15 C zn16 42 rfl dX4_begin_39 ?_
      refine zg_iload C 6 44 rfl dX4_begin_42 rfl ?_
      refine zg_aload C 0 46 rfl dX4_begin_44 rfl ?_
      refine fgX4_46 C (zn2 hi6) 49 rfl dX4_begin_46 ?_
      refine zg_iconst C (2 : Int32) 50 rfl dX4_begin_49 (by decide) ?_
      refine zg_callNI C [.int (M.1 2 i6 1), .int (2 : Int32)] 53 rfl dX4_begin_50 (tG_isOfKind hD M (M.1 2 i6 1) (2 : Int32)) rfl  zw539 (by decide) zw538 zw1 oG_isOfKind (by decide) (Nat.le_of_ble_eq_true rfl) (fun x8 M7 h9 => ?_)
      refine zg_jn (fun j12 => ∀ (M11 : zM) (x10 : Int32), zG p l e R s m args below meth c E zNC A 8 zvU zoT 64 [(0, .ref (zad E 16 0)), (1, .ref (zad E 1 k1)), (2, .ref (zad E 13 k2)), (3, .int c3), (4, .ref (zad E 2 k4)), (5, .int v5), (6, .ref (zad E 2 i6))] [.int x10, .int v5, .ref (zad E 18 0)] M11 (j12 M11 x10)) (fun M11 x10 => ?_) (fun j12 hj12 => ?_)
      · refine zg_iast C 65 rfl dX4_begin_64 zn18 (fun _ _ => rfl) (fun M13 => ?_)
        refine zg_aload_n C 0 66 rfl dX4_begin_65 rfl ?_
        refine fgX4_18 C zn16 69 rfl dX4_begin_66 ?_
        refine zg_iload C 5 71 rfl dX4_begin_69 rfl ?_
        refine zg_aload C 6 73 rfl dX4_begin_71 rfl ?_
        refine fgX4_46 C (zn2 hi6) 76 rfl dX4_begin_73 ?_
        refine zg_iconst C (5 : Int32) 77 rfl dX4_begin_76 (by decide) ?_
        refine zg_jn (fun j16 => ∀ (M15 : zM) (x14 : Int32), zG p l e R s m args below meth c E zNC A 8 zvU zoT 85 [(0, .ref (zad E 16 0)), (1, .ref (zad E 1 k1)), (2, .ref (zad E 13 k2)), (3, .int c3), (4, .ref (zad E 2 k4)), (5, .int v5), (6, .ref (zad E 2 i6))] [.int x14, .int v5, .ref (zad E 19 0)] M15 (j16 M15 x14)) (fun M15 x14 => ?_) (fun j16 hj16 => ?_)
        · refine zg_zast C 86 rfl dX4_begin_85 zn19 (fun _ _ => rfl) (fun M17 => ?_)
          refine zg_iconst C (0 : Int32) 87 rfl dX4_begin_86 (by decide) ?_
          refine zg_istore C 7 [(7, .int (0 : Int32)), (0, .ref (zad E 16 0)), (1, .ref (zad E 1 k1)), (2, .ref (zad E 13 k2)), (3, .int c3), (4, .ref (zad E 2 k4)), (5, .int v5), (6, .ref (zad E 2 i6))] 89 rfl dX4_begin_87 (by decide) rfl ?_
          refine zg_sub [1, 2, 3, 4, 5, 6, 7, 0] [(0, .ref (zad E 16 0)), (1, .ref (zad E 1 k1)), (2, .ref (zad E 13 k2)), (3, .int c3), (4, .ref (zad E 2 k4)), (5, .int v5), (6, .ref (zad E 2 i6)), (7, .int (0 : Int32))] rfl ?_
          refine tY_begin_L89 C hD k1 hk1 k2 hk2 c3 k4 hk4 v5 i6 hi6 (fun M25 => ?_) 1000 M17 (0 : Int32)
          · refine zg_iinc C 5 (v5 + (1 : Int32)) [(5, .int (v5 + (1 : Int32))), (0, .ref (zad E 16 0)), (1, .ref (zad E 1 k1)), (2, .ref (zad E 13 k2)), (3, .int c3), (4, .ref (zad E 2 k4))] 144 rfl dX4_begin_141 rfl (congrArg (fun z : Int32 => v5 + z) (by decide : Int32.ofInt (1) = (1 : Int32))) (by decide) rfl ?_
            refine zg_goto C 20 dX4_begin_144 (by decide) ?_
            refine zg_sub [1, 2, 3, 4, 5, 0] [(0, .ref (zad E 16 0)), (1, .ref (zad E 1 k1)), (2, .ref (zad E 13 k2)), (3, .int c3), (4, .ref (zad E 2 k4)), (5, .int (v5 + (1 : Int32)))] rfl ?_
            exact ih M25 (v5 + (1 : Int32))
        · refine zg_icmp_ne C 84 80 rfl dX4_begin_77 (by decide) ?_ ?_
          · refine zg_iconst C (1 : Int32) 81 rfl dX4_begin_80 (by decide) ?_
            refine zg_goto C 85 dX4_begin_81 (by decide) ?_
            exact hj16 M13 (1 : Int32)
          · refine zg_iconst C (0 : Int32) 85 rfl dX4_begin_84 (by decide) ?_
            exact hj16 M13 (0 : Int32)
      · refine zg_if_eq C 63 56 rfl dX4_begin_53 (by decide) ?_ ?_
        · refine zg_iconst C (0 : Int32) 64 rfl dX4_begin_63 (by decide) ?_
          refine zg_sub [1, 2, 3, 4, 5, 6, 0] [(0, .ref (zad E 16 0)), (1, .ref (zad E 1 k1)), (2, .ref (zad E 13 k2)), (3, .int c3), (4, .ref (zad E 2 k4)), (5, .int v5), (6, .ref (zad E 2 i6))] rfl ?_
          exact hj12 M7 (0 : Int32)
        · refine zg_aload_n C 3 57 rfl dX4_begin_56 rfl ?_
          refine fgX4_53 C (zn13 hk2) 60 rfl dX4_begin_57 ?_
          refine zg_goto C 64 dX4_begin_60 (by decide) ?_
          refine zg_sub [1, 2, 3, 4, 5, 6, 0] [(0, .ref (zad E 16 0)), (1, .ref (zad E 1 k1)), (2, .ref (zad E 13 k2)), (3, .int c3), (4, .ref (zad E 2 k4)), (5, .int v5), (6, .ref (zad E 2 i6))] rfl ?_
          exact hj12 M7 (M7.1 13 k2 3)
set_option maxHeartbeats 4000000 in
set_option maxRecDepth 100000 in
theorem tY_begin {l : Launch} {E : zE} {A : Nat → Prop} (hD : zD E zNC A) (M : zM) (r1 : Nat) (hr1 : r1 < 3) (r2 : Nat) (hr2 : r2 < 7) (a2 : Int32) : zCT l yX4_begin cX4_begin 8 none 5 E zNC A [.ref (zad E 16 0), .ref (zad E 1 r1), .ref (zad E 13 r2), .int a2] M zvU zoT (qY_begin  M r1 r2 a2) := by
  refine zCT_of (by decide) hD (by first | decide | exact Nat.le_of_ble_eq_true rfl) (fun p e R s m args below meth c C => ?_)
  have C : zCx p R s m args meth c cX4_begin "TwoTrue$Play" E zNC A 8 none 5 := C
  unfold qY_begin
  refine zg_sub [0, 1, 2, 3] [(0, .ref (zad E 16 0)), (1, .ref (zad E 1 r1)), (2, .ref (zad E 13 r2)), (3, .int a2)] rfl ?_
  refine zg_aload_n C 1 1 rfl dX4_begin_0 rfl ?_
  refine fgX4_28 C (zn1 hr1) 4 rfl dX4_begin_1 ?_
  refine zg_iload_n C 3 5 rfl dX4_begin_4 rfl ?_
  refine zg_aald (k2 := 2) (b := (6 * r1)) (t0 := 3) C 6 rfl dX4_begin_5 (zn7 hr1) rfl rfl (fun i1 hbi1 hei1 => ?_)
  have hi1 : i1 < 18 := by omega
  refine zg_astore C 4 [(4, .ref (zad E 2 i1)), (0, .ref (zad E 16 0)), (1, .ref (zad E 1 r1)), (2, .ref (zad E 13 r2)), (3, .int a2)] 8 rfl dX4_begin_6 (by decide) rfl ?_
  refine zg_aload_n C 1 9 rfl dX4_begin_8 rfl ?_
  refine zg_aload C 0 11 rfl dX4_begin_9 rfl ?_
  refine zg_callVI C [] 14 rfl dX4_begin_11 (tN_placeOfLie hD M i1 hi1) rfl (fun _ _ hP _ => zrecv C.2.2.2.2.2.1 hP (zn2 hi1) rfl rfl) zw536 zw533 zw534 zw535 zw3 oN_placeOfLie (by decide) (Nat.le_of_ble_eq_true rfl) (fun x3 M2 h4 => ?_)
  refine fpX4_40 C zn16 17 rfl dX4_begin_14 (fun M5 => ?_)
  refine zg_iconst C (0 : Int32) 18 rfl dX4_begin_17 (by decide) ?_
  refine zg_istore C 5 [(5, .int (0 : Int32)), (4, .ref (zad E 2 i1)), (0, .ref (zad E 16 0)), (1, .ref (zad E 1 r1)), (2, .ref (zad E 13 r2)), (3, .int a2)] 20 rfl dX4_begin_18 (by decide) rfl ?_
  refine zg_sub [2, 3, 4, 5, 1, 0] [(0, .ref (zad E 16 0)), (1, .ref (zad E 1 r1)), (2, .ref (zad E 13 r2)), (3, .int a2), (4, .ref (zad E 2 i1)), (5, .int (0 : Int32))] rfl ?_
  refine tY_begin_L20 C hD r1 hr1 r2 hr2 a2 i1 hi1 (fun M26 => ?_) 1000 M5 (0 : Int32)
  · refine zg_aload_n C 0 148 rfl dX4_begin_147 rfl ?_
    refine zg_callVU C [] 151 rfl dX4_begin_148 (tY_lowerHands hD M26 ) rfl (fun _ _ hP _ => zrecv C.2.2.2.2.2.1 hP zn16 rfl rfl) zw553 zw550 zw551 zw552 zw6 oY_lowerHands (by decide) (Nat.le_of_ble_eq_true rfl) (fun _u M27 h28 => ?_)
    exact zg_vret C dX4_begin_151 trivial
set_option maxHeartbeats 4000000 in
set_option maxRecDepth 100000 in
theorem tS_charAt {l : Launch} {E : zE} {A : Nat → Prop} (hD : zD E zNC A) (M : zM) (w : Nat) (hw : w < 4) (a0 : Int32) : zCT l yJS_charAt prog_13_method_56_code 2 (some .char) 5 E zNC A [.ref (zsk E w), .int a0] M zvI zoC (qS_charAt  M w a0) := by
  refine zCT_of (by decide) hD (by first | decide | exact Nat.le_of_ble_eq_true rfl) (fun p e R s m args below meth c C => ?_)
  have C : zCx p R s m args meth c prog_13_method_56_code "java/lang/String" E zNC A 2 (some .char) 5 := C
  unfold qS_charAt
  refine zg_sub [0, 1] [(0, .ref (zsk E w)), (1, .int a0)] rfl ?_
  refine zg_aload_n C 0 1 rfl dJ13_charAt_0 rfl ?_
  refine zg_callVI C [] 4 rfl dJ13_charAt_1 (tS_isLatin1 hD M w hw) rfl (fun _ _ _ hS => vk_recv C.2.2.2.2.2.2.1.2.2.2.1 hw hS) zw371 zw368 zw369 zw370 zw10 oS_isLatin1 (by decide) (Nat.le_of_ble_eq_true rfl) (fun x2 M1 h3 => ?_)
  refine zg_if_eq C 16 7 rfl dJ13_charAt_4 (by decide) ?_ ?_
  · refine zg_aload_n C 0 17 rfl dJ13_charAt_16 rfl ?_
    refine zg_getV C hw 20 rfl dJ13_charAt_17 zw1296 ?_
    refine zg_iload_n C 1 21 rfl dJ13_charAt_20 rfl ?_
    exact zg_none
  · refine zg_aload_n C 0 8 rfl dJ13_charAt_7 rfl ?_
    refine zg_getV C hw 11 rfl dJ13_charAt_8 zw1296 ?_
    refine zg_iload_n C 1 12 rfl dJ13_charAt_11 rfl ?_
    refine zg_callSI C [.ref (zsv E w), .int a0] 15 rfl dJ13_charAt_12 (tL_charAt hD M1 w hw a0) rfl  zw374 zw372 zw373 zw11 oL_charAt (by decide) (Nat.le_of_ble_eq_true rfl) (fun x5 M4 h6 => ?_)
    exact zg_zret C dJ13_charAt_15 h6 h6
set_option maxHeartbeats 4000000 in
set_option maxRecDepth 100000 in
theorem tS_indexOf {l : Launch} {E : zE} {A : Nat → Prop} (hD : zD E zNC A) (M : zM) (w : Nat) (hw : w < 4) (a0 : Int32) : zCT l yJS_indexOf prog_13_method_79_code 2 (some .int) 5 E zNC A [.ref (zsk E w), .int a0] M zvI zoT (qS_indexOf  M w a0) := by
  refine zCT_of (by decide) hD (by first | decide | exact Nat.le_of_ble_eq_true rfl) (fun p e R s m args below meth c C => ?_)
  have C : zCx p R s m args meth c prog_13_method_79_code "java/lang/String" E zNC A 2 (some .int) 5 := C
  unfold qS_indexOf
  refine zg_sub [0, 1] [(0, .ref (zsk E w)), (1, .int a0)] rfl ?_
  refine zg_aload_n C 0 1 rfl dJ13_indexOf_0 rfl ?_
  refine zg_iload_n C 1 2 rfl dJ13_indexOf_1 rfl ?_
  refine zg_iconst C (0 : Int32) 3 rfl dJ13_indexOf_2 (by decide) ?_
  refine zg_callVI C [.int a0, .int (0 : Int32)] 6 rfl dJ13_indexOf_3 (tS_indexOf2 hD M w hw a0 (0 : Int32)) rfl (fun _ _ _ hS => vk_recv C.2.2.2.2.2.2.1.2.2.2.1 hw hS) zw440 zw437 zw438 zw439 zw10 oS_indexOf2 (by decide) (Nat.le_of_ble_eq_true rfl) (fun x2 M1 h3 => ?_)
  exact zg_iret C dJ13_indexOf_6 trivial
set_option maxHeartbeats 4000000 in
set_option maxRecDepth 100000 in
theorem tG_playAsEver_L15 {p : Program} {l : Launch} {e : Env} {R : Room} {s : State} {m : MethodId} {args : Array Value} {below : List Frame} {meth : Method} {c : Code} {E : zE} {A : Nat → Prop} (C : zCx p R s m args meth c cX7_playAsEver "TwoTrue" E zNC A 4 (some .int) 6) (hD : zD E zNC A) (k1 : Nat) (hk1 : k1 < 3) (c2 : Int32) : ∀ (n : Nat) (M : zM) (v3 : Int32), zG p l e R s m args below meth c E zNC A 4 zvI zoT 15 [(0, .ref (zad E 0 0)), (1, .ref (zad E 1 k1)), (2, .int c2), (3, .int v3)] [] M (qG_playAsEver_L15 k1 c2 n M v3) := by
  intro n
  induction n with
  | zero =>
    intro M v3
    exact zg_none
  | succ n ih =>
    intro M v3
    rw [qG_playAsEver_L15]
    refine zg_iload_n C 3 16 rfl dX7_playAsEver_15 rfl ?_
    refine zg_aload_n C 1 17 rfl dX7_playAsEver_16 rfl ?_
    refine fgX7_73 C (zn1 hk1) 20 rfl dX7_playAsEver_17 ?_
    refine zg_icmp_ge C 43 23 rfl dX7_playAsEver_20 (by decide) ?_ ?_
    · refine zg_aload_n C 0 44 rfl dX7_playAsEver_43 rfl ?_
      refine fgX7_45 C zn0 47 rfl dX7_playAsEver_44 ?_
      refine fgX7_276 C zn16 50 rfl dX7_playAsEver_47 ?_
      exact zg_iret C dX7_playAsEver_50 trivial
    · refine zg_iload_n C 3 24 rfl dX7_playAsEver_23 rfl ?_
      refine zg_iload_n C 2 25 rfl dX7_playAsEver_24 rfl ?_
      refine zg_jn (fun j8 => ∀ (M7 : zM), zG p l e R s m args below meth c E zNC A 4 zvI zoT 37 [(0, .ref (zad E 0 0)), (1, .ref (zad E 1 k1)), (2, .int c2), (3, .int v3)] [] M7 (j8 M7 )) (fun M7 => ?_) (fun j8 hj8 => ?_)
      · refine zg_iinc C 3 (v3 + (1 : Int32)) [(3, .int (v3 + (1 : Int32))), (0, .ref (zad E 0 0)), (1, .ref (zad E 1 k1)), (2, .int c2)] 40 rfl dX7_playAsEver_37 rfl (congrArg (fun z : Int32 => v3 + z) (by decide : Int32.ofInt (1) = (1 : Int32))) (by decide) rfl ?_
        refine zg_goto C 15 dX7_playAsEver_40 (by decide) ?_
        refine zg_sub [1, 2, 3, 0] [(0, .ref (zad E 0 0)), (1, .ref (zad E 1 k1)), (2, .int c2), (3, .int (v3 + (1 : Int32)))] rfl ?_
        exact ih M7 (v3 + (1 : Int32))
      · refine zg_icmp_eq C 37 28 rfl dX7_playAsEver_25 (by decide) ?_ ?_
        · exact hj8 M 
        · refine zg_aload_n C 0 29 rfl dX7_playAsEver_28 rfl ?_
          refine fgX7_45 C zn0 32 rfl dX7_playAsEver_29 ?_
          refine zg_iload_n C 3 33 rfl dX7_playAsEver_32 rfl ?_
          refine zg_callVI C [.int v3] 36 rfl dX7_playAsEver_33 (tY_letGuess hD M v3) rfl (fun _ _ hP _ => zrecv C.2.2.2.2.2.1 hP zn16 rfl rfl) zw557 zw554 zw555 zw556 zw6 oY_letGuess (by decide) (Nat.le_of_ble_eq_true rfl) (fun x10 M9 h11 => ?_)
          refine zg_pop C rfl 37 rfl dX7_playAsEver_36 ?_
          exact hj8 M9 
set_option maxHeartbeats 4000000 in
set_option maxRecDepth 100000 in
theorem tG_playAsEver {l : Launch} {E : zE} {A : Nat → Prop} (hD : zD E zNC A) (M : zM) (r1 : Nat) (hr1 : r1 < 3) (a1 : Int32) : zCT l yX7_playAsEver cX7_playAsEver 4 (some .int) 6 E zNC A [.ref (zad E 0 0), .ref (zad E 1 r1), .int a1] M zvI zoT (qG_playAsEver  M r1 a1) := by
  refine zCT_of (by decide) hD (by first | decide | exact Nat.le_of_ble_eq_true rfl) (fun p e R s m args below meth c C => ?_)
  have C : zCx p R s m args meth c cX7_playAsEver "TwoTrue" E zNC A 4 (some .int) 6 := C
  unfold qG_playAsEver
  refine zg_sub [0, 1, 2] [(0, .ref (zad E 0 0)), (1, .ref (zad E 1 r1)), (2, .int a1)] rfl ?_
  refine zg_aload_n C 0 1 rfl dX7_playAsEver_0 rfl ?_
  refine fgX7_45 C zn0 4 rfl dX7_playAsEver_1 ?_
  refine zg_aload_n C 1 5 rfl dX7_playAsEver_4 rfl ?_
  refine zg_aload_n C 0 6 rfl dX7_playAsEver_5 rfl ?_
  refine zg_callVR C [] 9 rfl dX7_playAsEver_6 (tG_held hD M ) rfl (fun _ _ hP _ => zrecv C.2.2.2.2.2.1 hP zn0 rfl rfl) zw500 zw497 zw499 zv9 zw1 oG_held (by decide) (Nat.le_of_ble_eq_true rfl) (fun i3 M1 h4 => ?_)
  refine zg_iload_n C 2 10 rfl dX7_playAsEver_9 rfl ?_
  refine zg_callVU C [.ref (zad E 1 r1), .ref (zad E 13 i3), .int a1] 13 rfl dX7_playAsEver_10 (tY_begin hD M1 r1 hr1 i3 h4 a1) rfl (fun _ _ hP _ => zrecv C.2.2.2.2.2.1 hP zn16 rfl rfl) zw532 zw529 zw530 zw531 zw6 oY_begin (by decide) (Nat.le_of_ble_eq_true rfl) (fun _u M5 h6 => ?_)
  refine zg_iconst C (0 : Int32) 14 rfl dX7_playAsEver_13 (by decide) ?_
  refine zg_istore_n C 3 [(3, .int (0 : Int32)), (0, .ref (zad E 0 0)), (1, .ref (zad E 1 r1)), (2, .int a1)] 15 rfl dX7_playAsEver_14 rfl (by decide) rfl ?_
  refine zg_sub [1, 2, 3, 0] [(0, .ref (zad E 0 0)), (1, .ref (zad E 1 r1)), (2, .int a1), (3, .int (0 : Int32))] rfl ?_
  refine tG_playAsEver_L15 C hD r1 hr1 a1  1000 M5 (0 : Int32)
set_option maxHeartbeats 4000000 in
set_option maxRecDepth 100000 in
theorem tG_seekLine_L4 {p : Program} {l : Launch} {e : Env} {R : Room} {s : State} {m : MethodId} {args : Array Value} {below : List Frame} {meth : Method} {c : Code} {E : zE} {A : Nat → Prop} (C : zCx p R s m args meth c cX7_seekLine "TwoTrue" E zNC A 7 (some .int) 6) (hD : zD E zNC A) (c1 : Int32) {e41 : zM → Int32 → Option (Int32 × zM)} (he41 : ∀ (M : zM) (u2 : Int32), zG p l e R s m args below meth c E zNC A 7 zvI zoT 41 [(0, .ref (zad E 0 0)), (1, .int c1), (2, .int u2)] [] M (e41 M u2)) : ∀ (n : Nat) (M : zM) (v2 : Int32) (v3 : Int32), zG p l e R s m args below meth c E zNC A 7 zvI zoT 4 [(0, .ref (zad E 0 0)), (1, .int c1), (2, .int v2), (3, .int v3)] [] M (qG_seekLine_L4 c1 e41 n M v2 v3) := by
  intro n
  induction n with
  | zero =>
    intro M v2 v3
    exact zg_none
  | succ n ih =>
    intro M v2 v3
    rw [qG_seekLine_L4]
    refine zg_iload_n C 3 5 rfl dX7_seekLine_4 rfl ?_
    refine zg_aload_n C 0 6 rfl dX7_seekLine_5 rfl ?_
    refine fgX7_12 C zn0 9 rfl dX7_seekLine_6 ?_
    refine fgX7_73 C (zn1 (by decide : 0 < 3)) 12 rfl dX7_seekLine_9 ?_
    refine zg_icmp_ge C 41 15 rfl dX7_seekLine_12 (by decide) ?_ ?_
    · refine zg_sub [0, 1, 2] [(0, .ref (zad E 0 0)), (1, .int c1), (2, .int v2)] rfl ?_
      exact he41 M v2
    · refine zg_iload_n C 2 16 rfl dX7_seekLine_15 rfl ?_
      refine zg_iconst C (5 : Int32) 17 rfl dX7_seekLine_16 (by decide) ?_
      refine zg_icmp_ge C 41 20 rfl dX7_seekLine_17 (by decide) ?_ ?_
      · refine zg_sub [0, 1, 2] [(0, .ref (zad E 0 0)), (1, .int c1), (2, .int v2)] rfl ?_
        exact he41 M v2
      · refine zg_iload_n C 3 21 rfl dX7_seekLine_20 rfl ?_
        refine zg_iload_n C 1 22 rfl dX7_seekLine_21 rfl ?_
        refine zg_jn (fun j3 => ∀ (M2 : zM) (x1 : Int32), zG p l e R s m args below meth c E zNC A 7 zvI zoT 35 [(0, .ref (zad E 0 0)), (1, .int c1), (2, .int x1), (3, .int v3)] [] M2 (j3 M2 x1)) (fun M2 x1 => ?_) (fun j3 hj3 => ?_)
        · refine zg_iinc C 3 (v3 + (1 : Int32)) [(3, .int (v3 + (1 : Int32))), (0, .ref (zad E 0 0)), (1, .int c1), (2, .int x1)] 38 rfl dX7_seekLine_35 rfl (congrArg (fun z : Int32 => v3 + z) (by decide : Int32.ofInt (1) = (1 : Int32))) (by decide) rfl ?_
          refine zg_goto C 4 dX7_seekLine_38 (by decide) ?_
          refine zg_sub [1, 2, 3, 0] [(0, .ref (zad E 0 0)), (1, .int c1), (2, .int x1), (3, .int (v3 + (1 : Int32)))] rfl ?_
          exact ih M2 x1 (v3 + (1 : Int32))
        · refine zg_icmp_eq C 35 25 rfl dX7_seekLine_22 (by decide) ?_ ?_
          · exact hj3 M v2
          · refine zg_aload_n C 0 26 rfl dX7_seekLine_25 rfl ?_
            refine fgX7_53 C zn0 29 rfl dX7_seekLine_26 ?_
            refine zg_iload_n C 2 30 rfl dX7_seekLine_29 rfl ?_
            refine zg_iload_n C 3 31 rfl dX7_seekLine_30 rfl ?_
            refine zg_iast C 32 rfl dX7_seekLine_31 zn23 (fun _ _ => rfl) (fun M4 => ?_)
            refine zg_iinc C 2 (v2 + (1 : Int32)) [(2, .int (v2 + (1 : Int32))), (0, .ref (zad E 0 0)), (1, .int c1), (3, .int v3)] 35 rfl dX7_seekLine_32 rfl (congrArg (fun z : Int32 => v2 + z) (by decide : Int32.ofInt (1) = (1 : Int32))) (by decide) rfl ?_
            refine zg_sub [1, 2, 0, 3] [(0, .ref (zad E 0 0)), (1, .int c1), (2, .int (v2 + (1 : Int32))), (3, .int v3)] rfl ?_
            exact hj3 M4 (v2 + (1 : Int32))
set_option maxHeartbeats 4000000 in
set_option maxRecDepth 100000 in
theorem tG_seekLine_L88 {p : Program} {l : Launch} {e : Env} {R : Room} {s : State} {m : MethodId} {args : Array Value} {below : List Frame} {meth : Method} {c : Code} {E : zE} {A : Nat → Prop} (C : zCx p R s m args meth c cX7_seekLine "TwoTrue" E zNC A 7 (some .int) 6) (hD : zD E zNC A) (c2 : Int32) (c3 : Int32) (c5 : Int32) {e115 : zM → Option (Int32 × zM)} (he115 : ∀ (M : zM), zG p l e R s m args below meth c E zNC A 7 zvI zoT 115 [(0, .ref (zad E 0 0)), (2, .int c2), (3, .int c3), (5, .int c5)] [] M (e115 M )) : ∀ (n : Nat) (M : zM) (v6 : Int32), zG p l e R s m args below meth c E zNC A 7 zvI zoT 88 [(0, .ref (zad E 0 0)), (2, .int c2), (3, .int c3), (5, .int c5), (6, .int v6)] [] M (qG_seekLine_L88 c2 c3 c5 e115 n M v6) := by
  intro n
  induction n with
  | zero =>
    intro M v6
    exact zg_none
  | succ n ih =>
    intro M v6
    rw [qG_seekLine_L88]
    refine zg_iload C 4 90 rfl dX7_seekLine_88 rfl ?_
    refine zg_iload_n C 1 91 rfl dX7_seekLine_90 rfl ?_
    refine zg_icmp_ge C 115 94 rfl dX7_seekLine_91 (by decide) ?_ ?_
    · refine zg_sub [0, 1, 2, 3] [(0, .ref (zad E 0 0)), (2, .int c2), (3, .int c3), (5, .int c5)] rfl ?_
      exact he115 M 
    · refine zg_aload_n C 0 95 rfl dX7_seekLine_94 rfl ?_
      refine fgX7_45 C zn0 98 rfl dX7_seekLine_95 ?_
      refine zg_aload_n C 0 99 rfl dX7_seekLine_98 rfl ?_
      refine fgX7_53 C zn0 102 rfl dX7_seekLine_99 ?_
      refine zg_iload C 4 104 rfl dX7_seekLine_102 rfl ?_
      refine zg_iald C 105 rfl dX7_seekLine_104 zn23 rfl ?_
      refine zg_callVI C [.int (M.1 23 0 v6.toNatClampNeg)] 108 rfl dX7_seekLine_105 (tY_letGuess hD M (M.1 23 0 v6.toNatClampNeg)) rfl (fun _ _ hP _ => zrecv C.2.2.2.2.2.1 hP zn16 rfl rfl) zw557 zw554 zw555 zw556 zw6 oY_letGuess (by decide) (Nat.le_of_ble_eq_true rfl) (fun x16 M15 h17 => ?_)
      refine zg_pop C rfl 109 rfl dX7_seekLine_108 ?_
      refine zg_iinc C 4 (v6 + (1 : Int32)) [(6, .int (v6 + (1 : Int32))), (0, .ref (zad E 0 0)), (2, .int c2), (3, .int c3), (5, .int c5)] 112 rfl dX7_seekLine_109 rfl (congrArg (fun z : Int32 => v6 + z) (by decide : Int32.ofInt (1) = (1 : Int32))) (by decide) rfl ?_
      refine zg_goto C 88 dX7_seekLine_112 (by decide) ?_
      refine zg_sub [1, 2, 3, 4, 0] [(0, .ref (zad E 0 0)), (2, .int c2), (3, .int c3), (5, .int c5), (6, .int (v6 + (1 : Int32)))] rfl ?_
      exact ih M15 (v6 + (1 : Int32))
set_option maxHeartbeats 4000000 in
set_option maxRecDepth 100000 in
theorem tG_seekLine_L66 {p : Program} {l : Launch} {e : Env} {R : Room} {s : State} {m : MethodId} {args : Array Value} {below : List Frame} {meth : Method} {c : Code} {E : zE} {A : Nat → Prop} (C : zCx p R s m args meth c cX7_seekLine "TwoTrue" E zNC A 7 (some .int) 6) (hD : zD E zNC A) (c2 : Int32) : ∀ (n : Nat) (M : zM) (v3 : Int32) (v4 : Int32) (v5 : Int32), zG p l e R s m args below meth c E zNC A 7 zvI zoT 66 [(0, .ref (zad E 0 0)), (2, .int c2), (3, .int v3), (4, .int v4), (5, .int v5)] [] M (qG_seekLine_L66 c2 n M v3 v4 v5) := by
  intro n
  induction n with
  | zero =>
    intro M v3 v4 v5
    exact zg_none
  | succ n ih =>
    intro M v3 v4 v5
    rw [qG_seekLine_L66]
    refine zg_iload C 4 68 rfl dX7_seekLine_66 rfl ?_
    refine zg_bipush C (24 : Int32) 70 rfl dX7_seekLine_68 (by decide) ?_
    refine zg_icmp_ge C 164 73 rfl dX7_seekLine_70 (by decide) ?_ ?_
    · refine zg_iload_n C 2 165 rfl dX7_seekLine_164 rfl ?_
      exact zg_iret C dX7_seekLine_165 trivial
    · refine zg_iload C 3 75 rfl dX7_seekLine_73 rfl ?_
      refine zg_if_eq C 164 78 rfl dX7_seekLine_75 (by decide) ?_ ?_
      · refine zg_iload_n C 2 165 rfl dX7_seekLine_164 rfl ?_
        exact zg_iret C dX7_seekLine_165 trivial
      · refine zg_aload_n C 0 79 rfl dX7_seekLine_78 rfl ?_
        refine fgX7_45 C zn0 82 rfl dX7_seekLine_79 ?_
        refine zg_callVU C [] 85 rfl dX7_seekLine_82 (tY_lowerHands hD M ) rfl (fun _ _ hP _ => zrecv C.2.2.2.2.2.1 hP zn16 rfl rfl) zw553 zw597 zw551 zw552 zw6 oY_lowerHands (by decide) (Nat.le_of_ble_eq_true rfl) (fun _u M13 h14 => ?_)
        refine zg_iconst C (0 : Int32) 86 rfl dX7_seekLine_85 (by decide) ?_
        refine zg_istore C 6 [(6, .int (0 : Int32)), (0, .ref (zad E 0 0)), (2, .int c2), (3, .int v3), (4, .int v4), (5, .int v5)] 88 rfl dX7_seekLine_86 (by decide) rfl ?_
        refine zg_sub [1, 2, 3, 5, 0] [(0, .ref (zad E 0 0)), (2, .int c2), (3, .int v3), (5, .int v5), (6, .int (0 : Int32))] rfl ?_
        refine tG_seekLine_L88 C hD c2 v3 v5 (fun M18 => ?_) 1000 M13 (0 : Int32)
        · refine zg_aload_n C 0 116 rfl dX7_seekLine_115 rfl ?_
          refine fgX7_45 C zn0 119 rfl dX7_seekLine_116 ?_
          refine fgX7_276 C zn16 122 rfl dX7_seekLine_119 ?_
          refine zg_iload_n C 2 123 rfl dX7_seekLine_122 rfl ?_
          refine zg_jn (fun j21 => ∀ (M20 : zM) (x19 : Int32), zG p l e R s m args below meth c E zNC A 7 zvI zoT 148 [(0, .ref (zad E 0 0)), (2, .int c2), (3, .int x19), (5, .int v5)] [] M20 (j21 M20 x19)) (fun M20 x19 => ?_) (fun j21 hj21 => ?_)
          · refine zg_aload_n C 0 149 rfl dX7_seekLine_148 rfl ?_
            refine fgX7_53 C zn0 152 rfl dX7_seekLine_149 ?_
            refine zg_iload_n C 1 153 rfl dX7_seekLine_152 rfl ?_
            refine zg_callSI C [.ref (zad E 23 0), .int c2] 156 rfl dX7_seekLine_153 (tG_stepRow hD M20 c2) rfl  zw608 zw606 zw607 zw1 oG_stepRow (by decide) (Nat.le_of_ble_eq_true rfl) (fun x23 M22 h24 => ?_)
            refine zg_istore C 4 [(4, .int x23), (0, .ref (zad E 0 0)), (2, .int c2), (3, .int x19), (5, .int v5)] 158 rfl dX7_seekLine_156 (by decide) rfl ?_
            refine zg_iinc C 4 (v5 + (1 : Int32)) [(5, .int (v5 + (1 : Int32))), (4, .int x23), (0, .ref (zad E 0 0)), (2, .int c2), (3, .int x19)] 161 rfl dX7_seekLine_158 rfl (congrArg (fun z : Int32 => v5 + z) (by decide : Int32.ofInt (1) = (1 : Int32))) (by decide) rfl ?_
            refine zg_goto C 66 dX7_seekLine_161 (by decide) ?_
            refine zg_sub [2, 3, 4, 1, 0] [(0, .ref (zad E 0 0)), (2, .int c2), (3, .int x19), (4, .int x23), (5, .int (v5 + (1 : Int32)))] rfl ?_
            exact ih M22 x19 x23 (v5 + (1 : Int32))
          · refine zg_icmp_ge C 148 126 rfl dX7_seekLine_123 (by decide) ?_ ?_
            · exact hj21 M18 v3
            · refine zg_aload_n C 0 127 rfl dX7_seekLine_126 rfl ?_
              refine fgX7_45 C zn0 130 rfl dX7_seekLine_127 ?_
              refine fgX7_276 C zn16 133 rfl dX7_seekLine_130 ?_
              refine zg_nmI (fun x25 => ?_)
              refine zg_istore_n C 3 [(3, .int x25), (0, .ref (zad E 0 0)), (2, .int c2), (5, .int v5)] 134 rfl dX7_seekLine_133 rfl (by decide) rfl ?_
              refine zg_aload_n C 1 135 rfl dX7_seekLine_134 rfl ?_
              refine fgX7_53 C zn0 138 rfl dX7_seekLine_135 ?_
              refine zg_iconst C (0 : Int32) 139 rfl dX7_seekLine_138 (by decide) ?_
              refine zg_aload_n C 1 140 rfl dX7_seekLine_139 rfl ?_
              refine fgX7_56 C zn0 143 rfl dX7_seekLine_140 ?_
              refine zg_iconst C (0 : Int32) 144 rfl dX7_seekLine_143 (by decide) ?_
              refine zg_iload_n C 2 145 rfl dX7_seekLine_144 rfl ?_
              refine zg_copyi C 148 rfl dX7_seekLine_145 zn23 zn24 (fun _ _ => rfl) (fun _ _ => rfl) zw596 zw576 zw575 zw16 (by decide) (Nat.le_of_ble_eq_true rfl) (fun M26 => ?_)
              refine zg_sub [1, 2, 0, 3] [(0, .ref (zad E 0 0)), (2, .int c2), (3, .int x25), (5, .int v5)] rfl ?_
              exact hj21 M26 x25
set_option maxHeartbeats 4000000 in
set_option maxRecDepth 100000 in
theorem tG_seekLine {l : Launch} {E : zE} {A : Nat → Prop} (hD : zD E zNC A) (M : zM) (a0 : Int32) : zCT l yX7_seekLine cX7_seekLine 7 (some .int) 6 E zNC A [.ref (zad E 0 0), .int a0] M zvI zoT (qG_seekLine  M a0) := by
  refine zCT_of (by decide) hD (by first | decide | exact Nat.le_of_ble_eq_true rfl) (fun p e R s m args below meth c C => ?_)
  have C : zCx p R s m args meth c cX7_seekLine "TwoTrue" E zNC A 7 (some .int) 6 := C
  unfold qG_seekLine
  refine zg_sub [0, 1] [(0, .ref (zad E 0 0)), (1, .int a0)] rfl ?_
  refine zg_iconst C (0 : Int32) 1 rfl dX7_seekLine_0 (by decide) ?_
  refine zg_istore_n C 2 [(2, .int (0 : Int32)), (0, .ref (zad E 0 0)), (1, .int a0)] 2 rfl dX7_seekLine_1 rfl (by decide) rfl ?_
  refine zg_iconst C (0 : Int32) 3 rfl dX7_seekLine_2 (by decide) ?_
  refine zg_istore_n C 3 [(3, .int (0 : Int32)), (2, .int (0 : Int32)), (0, .ref (zad E 0 0)), (1, .int a0)] 4 rfl dX7_seekLine_3 rfl (by decide) rfl ?_
  refine zg_sub [2, 3, 1, 0] [(0, .ref (zad E 0 0)), (1, .int a0), (2, .int (0 : Int32)), (3, .int (0 : Int32))] rfl ?_
  refine tG_seekLine_L4 C hD a0 (fun M5 x6 => ?_) 1000 M (0 : Int32) (0 : Int32)
  · refine zg_aload_n C 0 42 rfl dX7_seekLine_41 rfl ?_
    refine fgX7_45 C zn0 45 rfl dX7_seekLine_42 ?_
    refine zg_aload_n C 0 46 rfl dX7_seekLine_45 rfl ?_
    refine fgX7_12 C zn0 49 rfl dX7_seekLine_46 ?_
    refine zg_aload_n C 0 50 rfl dX7_seekLine_49 rfl ?_
    refine zg_callVR C [] 53 rfl dX7_seekLine_50 (tG_held hD M5 ) rfl (fun _ _ hP _ => zrecv C.2.2.2.2.2.1 hP zn0 rfl rfl) zw500 zw497 zw499 zv9 zw1 oG_held (by decide) (Nat.le_of_ble_eq_true rfl) (fun i9 M7 h10 => ?_)
    refine zg_iload_n C 1 54 rfl dX7_seekLine_53 rfl ?_
    refine zg_callVU C [.ref (zad E 1 0), .ref (zad E 13 i9), .int a0] 57 rfl dX7_seekLine_54 (tY_begin hD M7 0 (by decide) i9 h10 a0) rfl (fun _ _ hP _ => zrecv C.2.2.2.2.2.1 hP zn16 rfl rfl) zw532 zw529 zw530 zw531 zw6 oY_begin (by decide) (Nat.le_of_ble_eq_true rfl) (fun _u M11 h12 => ?_)
    refine zg_bipush C (6 : Int32) 59 rfl dX7_seekLine_57 (by decide) ?_
    refine zg_istore_n C 3 [(3, .int (6 : Int32)), (0, .ref (zad E 0 0)), (1, .int a0), (2, .int x6)] 60 rfl dX7_seekLine_59 rfl (by decide) rfl ?_
    refine zg_iconst C (1 : Int32) 61 rfl dX7_seekLine_60 (by decide) ?_
    refine zg_istore C 4 [(4, .int (1 : Int32)), (3, .int (6 : Int32)), (0, .ref (zad E 0 0)), (1, .int a0), (2, .int x6)] 63 rfl dX7_seekLine_61 (by decide) rfl ?_
    refine zg_iconst C (0 : Int32) 64 rfl dX7_seekLine_63 (by decide) ?_
    refine zg_istore C 5 [(5, .int (0 : Int32)), (4, .int (1 : Int32)), (3, .int (6 : Int32)), (0, .ref (zad E 0 0)), (1, .int a0), (2, .int x6)] 66 rfl dX7_seekLine_64 (by decide) rfl ?_
    refine zg_sub [3, 5, 2, 1, 0] [(0, .ref (zad E 0 0)), (2, .int x6), (3, .int (6 : Int32)), (4, .int (1 : Int32)), (5, .int (0 : Int32))] rfl ?_
    refine tG_seekLine_L66 C hD x6  1000 M11 (6 : Int32) (1 : Int32) (0 : Int32)
set_option maxHeartbeats 4000000 in
set_option maxRecDepth 100000 in
theorem tT_passesWord_L2 {p : Program} {l : Launch} {e : Env} {R : Room} {s : State} {m : MethodId} {args : Array Value} {below : List Frame} {meth : Method} {c : Code} {E : zE} {A : Nat → Prop} (C : zCx p R s m args meth c cX6_passesWord "TwoTrue$Text" E zNC A 3 (some .boolean) 6) (hD : zD E zNC A) (k1 : Nat) (hk1 : k1 < 4) : ∀ (n : Nat) (M : zM) (v2 : Int32), zG p l e R s m args below meth c E zNC A 3 zvI zoB 2 [(0, .ref (zad E 10 0)), (1, .ref (zsk E k1)), (2, .int v2)] [] M (qT_passesWord_L2 k1 n M v2) := by
  intro n
  induction n with
  | zero =>
    intro M v2
    exact zg_none
  | succ n ih =>
    intro M v2
    rw [qT_passesWord_L2]
    refine zg_iload_n C 2 3 rfl dX6_passesWord_2 rfl ?_
    refine zg_aload_n C 1 4 rfl dX6_passesWord_3 rfl ?_
    refine zg_callVI C [] 7 rfl dX6_passesWord_4 (tS_length hD M k1 hk1) rfl (fun _ _ _ hS => vk_recv C.2.2.2.2.2.2.1.2.2.2.1 hk1 hS) zw357 zw354 zw355 zw356 zw10 oS_length (by decide) (Nat.le_of_ble_eq_true rfl) (fun x2 M1 h3 => ?_)
    refine zg_icmp_ge C 30 10 rfl dX6_passesWord_7 (by decide) ?_ ?_
    · refine zg_iconst C (1 : Int32) 31 rfl dX6_passesWord_30 (by decide) ?_
      exact zg_zret C dX6_passesWord_31 rfl rfl
    · refine zg_aload_n C 0 11 rfl dX6_passesWord_10 rfl ?_
      refine zg_aload_n C 1 12 rfl dX6_passesWord_11 rfl ?_
      refine zg_iload_n C 2 13 rfl dX6_passesWord_12 rfl ?_
      refine zg_callVI C [.int v2] 16 rfl dX6_passesWord_13 (tS_charAt hD M1 k1 hk1 v2) rfl (fun _ _ _ hS => vk_recv C.2.2.2.2.2.2.1.2.2.2.1 hk1 hS) zw367 zw364 zw365 zw366 zw10 oS_charAt (by decide) (Nat.le_of_ble_eq_true rfl) (fun x5 M4 h6 => ?_)
      refine zg_callVI C [.int x5] 19 rfl dX6_passesWord_16 (tT_passes hD M4 x5) rfl (fun _ _ hP _ => zrecv C.2.2.2.2.2.1 hP zn10 rfl rfl) zw405 zw402 zw404 zv3 zw4 oT_passes (by decide) (Nat.le_of_ble_eq_true rfl) (fun x8 M7 h9 => ?_)
      refine zg_if_ne C 24 22 rfl dX6_passesWord_19 (by decide) ?_ ?_
      · refine zg_iconst C (0 : Int32) 23 rfl dX6_passesWord_22 (by decide) ?_
        exact zg_zret C dX6_passesWord_23 rfl rfl
      · refine zg_iinc C 2 (v2 + (1 : Int32)) [(2, .int (v2 + (1 : Int32))), (0, .ref (zad E 10 0)), (1, .ref (zsk E k1))] 27 rfl dX6_passesWord_24 rfl (congrArg (fun z : Int32 => v2 + z) (by decide : Int32.ofInt (1) = (1 : Int32))) (by decide) rfl ?_
        refine zg_goto C 2 dX6_passesWord_27 (by decide) ?_
        refine zg_sub [1, 2, 0] [(0, .ref (zad E 10 0)), (1, .ref (zsk E k1)), (2, .int (v2 + (1 : Int32)))] rfl ?_
        exact ih M7 (v2 + (1 : Int32))
set_option maxHeartbeats 4000000 in
set_option maxRecDepth 100000 in
theorem tT_passesWord {l : Launch} {E : zE} {A : Nat → Prop} (hD : zD E zNC A) (M : zM) (w0 : Nat) (hw0 : w0 < 4) : zCT l yX6_passesWord cX6_passesWord 3 (some .boolean) 6 E zNC A [.ref (zad E 10 0), .ref (zsk E w0)] M zvI zoB (qT_passesWord  M w0) := by
  refine zCT_of (by decide) hD (by first | decide | exact Nat.le_of_ble_eq_true rfl) (fun p e R s m args below meth c C => ?_)
  have C : zCx p R s m args meth c cX6_passesWord "TwoTrue$Text" E zNC A 3 (some .boolean) 6 := C
  unfold qT_passesWord
  refine zg_sub [0, 1] [(0, .ref (zad E 10 0)), (1, .ref (zsk E w0))] rfl ?_
  refine zg_iconst C (0 : Int32) 1 rfl dX6_passesWord_0 (by decide) ?_
  refine zg_istore_n C 2 [(2, .int (0 : Int32)), (0, .ref (zad E 10 0)), (1, .ref (zsk E w0))] 2 rfl dX6_passesWord_1 rfl (by decide) rfl ?_
  refine zg_sub [1, 2, 0] [(0, .ref (zad E 10 0)), (1, .ref (zsk E w0)), (2, .int (0 : Int32))] rfl ?_
  refine tT_passesWord_L2 C hD w0 hw0  1000 M (0 : Int32)
set_option maxHeartbeats 4000000 in
set_option maxRecDepth 100000 in
theorem tT_readTest {l : Launch} {E : zE} {A : Nat → Prop} (hD : zD E zNC A) (M : zM) (r1 : Nat) (hr1 : r1 < 7) : zCT l yX6_readTest cX6_readTest 4 (some .boolean) 6 E zNC A [.ref (zad E 10 0), .ref (zad E 13 r1)] M zvI zoB (qT_readTest  M r1) := by
  refine zCT_of (by decide) hD (by first | decide | exact Nat.le_of_ble_eq_true rfl) (fun p e R s m args below meth c C => ?_)
  have C : zCx p R s m args meth c cX6_readTest "TwoTrue$Text" E zNC A 4 (some .boolean) 6 := C
  unfold qT_readTest
  refine zg_sub [0, 1] [(0, .ref (zad E 10 0)), (1, .ref (zad E 13 r1))] rfl ?_
  refine zg_aload_n C 0 1 rfl dX6_readTest_0 rfl ?_
  refine fgX6_24 C zn10 4 rfl dX6_readTest_1 ?_
  refine zg_aload_n C 0 5 rfl dX6_readTest_4 rfl ?_
  refine fgX6_15 C zn10 8 rfl dX6_readTest_5 ?_
  refine zg_jn (fun j3 => ∀ (M2 : zM) (x1 : Int32), zG p l e R s m args below meth c E zNC A 4 zvI zoB 30 [(0, .ref (zad E 10 0)), (1, .ref (zad E 13 r1))] [.int x1] M2 (j3 M2 x1)) (fun M2 x1 => ?_) (fun j3 hj3 => ?_)
  · refine zg_istore_n C 2 [(2, .int x1), (0, .ref (zad E 10 0)), (1, .ref (zad E 13 r1))] 31 rfl dX6_readTest_30 rfl (by decide) rfl ?_
    refine zg_iload_n C 0 32 rfl dX6_readTest_31 rfl ?_
    refine zg_if_ge C 37 35 rfl dX6_readTest_32 (by decide) ?_ ?_
    · refine zg_aload_n C 1 38 rfl dX6_readTest_37 rfl ?_
      refine zg_dup C rfl 39 rfl dX6_readTest_38 ?_
      refine fgX6_24 C zn10 42 rfl dX6_readTest_39 ?_
      refine zg_iconst C (1 : Int32) 43 rfl dX6_readTest_42 (by decide) ?_
      refine zg_iadd C 44 rfl dX6_readTest_43 ?_
      refine fpX6_24 C zn10 47 rfl dX6_readTest_44 (fun M4 => ?_)
      refine zg_aload_n C 1 48 rfl dX6_readTest_47 rfl ?_
      refine zg_bipush C (60 : Int32) 50 rfl dX6_readTest_48 (by decide) ?_
      refine zg_callVI C [.int (60 : Int32)] 53 rfl dX6_readTest_50 (tT_sees hD M4 (60 : Int32)) rfl (fun _ _ hP _ => zrecv C.2.2.2.2.2.1 hP zn10 rfl rfl) zw348 zw345 zw347 zv1 zw4 oT_sees (by decide) (Nat.le_of_ble_eq_true rfl) (fun x6 M5 h7 => ?_)
      refine zg_jn (fun j10 => ∀ (M9 : zM) (x8 : Int32), zG p l e R s m args below meth c E zNC A 4 zvI zoB 74 [(0, .ref (zad E 10 0)), (1, .ref (zad E 13 r1)), (2, .int x1)] [.int x8] M9 (j10 M9 x8)) (fun M9 x8 => ?_) (fun j10 hj10 => ?_)
      · refine zg_istore_n C 3 [(3, .int x8), (0, .ref (zad E 10 0)), (1, .ref (zad E 13 r1)), (2, .int x1)] 75 rfl dX6_readTest_74 rfl (by decide) rfl ?_
        refine zg_iload_n C 0 76 rfl dX6_readTest_75 rfl ?_
        refine zg_iconst C (2 : Int32) 77 rfl dX6_readTest_76 (by decide) ?_
        refine zg_jn (fun j12 => ∀ (M11 : zM), zG p l e R s m args below meth c E zNC A 4 zvI zoB 91 [(0, .ref (zad E 10 0)), (1, .ref (zad E 13 r1)), (2, .int x1), (3, .int x8)] [] M11 (j12 M11 )) (fun M11 => ?_) (fun j12 hj12 => ?_)
        · refine zg_aload_n C 0 92 rfl dX6_readTest_91 rfl ?_
          refine zg_dup C rfl 93 rfl dX6_readTest_92 ?_
          refine fgX6_24 C zn10 96 rfl dX6_readTest_93 ?_
          refine zg_iconst C (1 : Int32) 97 rfl dX6_readTest_96 (by decide) ?_
          refine zg_iadd C 98 rfl dX6_readTest_97 ?_
          refine fpX6_24 C zn10 101 rfl dX6_readTest_98 (fun M13 => ?_)
          refine zg_aload_n C 0 102 rfl dX6_readTest_101 rfl ?_
          refine zg_callVI C [] 105 rfl dX6_readTest_102 (tT_readNumber hD M13 ) rfl (fun _ _ hP _ => zrecv C.2.2.2.2.2.1 hP zn10 rfl rfl) zw409 zw406 zw408 zv4 zw4 oT_readNumber (by decide) (Nat.le_of_ble_eq_true rfl) (fun x15 M14 h16 => ?_)
          refine zg_if_ne C 110 108 rfl dX6_readTest_105 (by decide) ?_ ?_
          · refine zg_iconst C (0 : Int32) 109 rfl dX6_readTest_108 (by decide) ?_
            exact zg_zret C dX6_readTest_109 rfl rfl
          · refine zg_aload_n C 1 111 rfl dX6_readTest_110 rfl ?_
            refine zg_iload_n C 3 112 rfl dX6_readTest_111 rfl ?_
            refine zg_iload_n C 2 113 rfl dX6_readTest_112 rfl ?_
            refine zg_aload_n C 0 114 rfl dX6_readTest_113 rfl ?_
            refine fgX6_48 C zn10 117 rfl dX6_readTest_114 ?_
            refine zg_callVU C [.int x8, .int x1, .int (M14.1 10 0 3)] 120 rfl dX6_readTest_117 (tE_append hD M14 r1 hr1 x8 x1 (M14.1 10 0 3)) rfl (fun _ _ hP _ => zrecv C.2.2.2.2.2.1 hP (zn13 hr1) rfl rfl) zw427 zw424 zw425 zw426 zw5 oE_append (by decide) (Nat.le_of_ble_eq_true rfl) (fun _u M17 h18 => ?_)
            refine zg_iconst C (1 : Int32) 121 rfl dX6_readTest_120 (by decide) ?_
            exact zg_zret C dX6_readTest_121 rfl rfl
        · refine zg_icmp_ne C 91 80 rfl dX6_readTest_77 (by decide) ?_ ?_
          · refine zg_aload_n C 1 81 rfl dX6_readTest_80 rfl ?_
            refine zg_bipush C (62 : Int32) 83 rfl dX6_readTest_81 (by decide) ?_
            refine zg_callVI C [.int (62 : Int32)] 86 rfl dX6_readTest_83 (tT_sees hD M9 (62 : Int32)) rfl (fun _ _ hP _ => zrecv C.2.2.2.2.2.1 hP zn10 rfl rfl) zw348 zw345 zw347 zv1 zw4 oT_sees (by decide) (Nat.le_of_ble_eq_true rfl) (fun x20 M19 h21 => ?_)
            refine zg_if_ne C 91 89 rfl dX6_readTest_86 (by decide) ?_ ?_
            · refine zg_iconst C (0 : Int32) 90 rfl dX6_readTest_89 (by decide) ?_
              exact zg_zret C dX6_readTest_90 rfl rfl
            · refine zg_sub [1, 2, 3, 0] [(0, .ref (zad E 10 0)), (1, .ref (zad E 13 r1)), (2, .int x1), (3, .int x8)] rfl ?_
              exact hj12 M19 
          · refine zg_sub [1, 2, 3, 0] [(0, .ref (zad E 10 0)), (1, .ref (zad E 13 r1)), (2, .int x1), (3, .int x8)] rfl ?_
            exact hj12 M9 
      · refine zg_if_eq C 60 56 rfl dX6_readTest_53 (by decide) ?_ ?_
        · refine zg_aload_n C 1 61 rfl dX6_readTest_60 rfl ?_
          refine zg_bipush C (61 : Int32) 63 rfl dX6_readTest_61 (by decide) ?_
          refine zg_callVI C [.int (61 : Int32)] 66 rfl dX6_readTest_63 (tT_sees hD M5 (61 : Int32)) rfl (fun _ _ hP _ => zrecv C.2.2.2.2.2.1 hP zn10 rfl rfl) zw348 zw345 zw347 zv1 zw4 oT_sees (by decide) (Nat.le_of_ble_eq_true rfl) (fun x23 M22 h24 => ?_)
          refine zg_if_eq C 73 69 rfl dX6_readTest_66 (by decide) ?_ ?_
          · refine zg_iconst C (2 : Int32) 74 rfl dX6_readTest_73 (by decide) ?_
            refine zg_sub [1, 2, 0] [(0, .ref (zad E 10 0)), (1, .ref (zad E 13 r1)), (2, .int x1)] rfl ?_
            exact hj10 M22 (2 : Int32)
          · refine zg_iconst C (1 : Int32) 70 rfl dX6_readTest_69 (by decide) ?_
            refine zg_goto C 74 dX6_readTest_70 (by decide) ?_
            refine zg_sub [1, 2, 0] [(0, .ref (zad E 10 0)), (1, .ref (zad E 13 r1)), (2, .int x1)] rfl ?_
            exact hj10 M22 (1 : Int32)
        · refine zg_iconst C (0 : Int32) 57 rfl dX6_readTest_56 (by decide) ?_
          refine zg_goto C 74 dX6_readTest_57 (by decide) ?_
          refine zg_sub [1, 2, 0] [(0, .ref (zad E 10 0)), (1, .ref (zad E 13 r1)), (2, .int x1)] rfl ?_
          exact hj10 M5 (0 : Int32)
    · refine zg_iconst C (0 : Int32) 36 rfl dX6_readTest_35 (by decide) ?_
      exact zg_zret C dX6_readTest_36 rfl rfl
  · refine zg_icmp_ge C 29 11 rfl dX6_readTest_8 (by decide) ?_ ?_
    · refine zg_iconst C (-1 : Int32) 30 rfl dX6_readTest_29 (by decide) ?_
      exact hj3 M (-1 : Int32)
    · refine zg_ldcS C 3 (by decide) 13 rfl dX6_readTest_11 rfl ?_
      refine zg_aload_n C 0 14 rfl dX6_readTest_13 rfl ?_
      refine fgX6_9 C zn10 17 rfl dX6_readTest_14 ?_
      refine zg_aload_n C 0 18 rfl dX6_readTest_17 rfl ?_
      refine fgX6_24 C zn10 21 rfl dX6_readTest_18 ?_
      refine zg_iald C 22 rfl dX6_readTest_21 zn11 rfl ?_
      refine zg_i2c C 23 rfl dX6_readTest_22 ?_
      refine zg_callVI C [.int (((M.1 11 0 (M.1 10 0 2).toNatClampNeg).toUInt32 % 65536).toInt32)] 26 rfl dX6_readTest_23 (tS_indexOf hD M 3 (by decide) (((M.1 11 0 (M.1 10 0 2).toNatClampNeg).toUInt32 % 65536).toInt32)) rfl (fun _ _ _ hS => vk_recv C.2.2.2.2.2.2.1.2.2.2.1 (by decide) hS) zw436 zw433 zw434 zw435 zw10 oS_indexOf (by decide) (Nat.le_of_ble_eq_true rfl) (fun x26 M25 h27 => ?_)
      refine zg_goto C 30 dX6_readTest_26 (by decide) ?_
      exact hj3 M25 x26
set_option maxHeartbeats 4000000 in
set_option maxRecDepth 100000 in
theorem tG_playForPoints_L10 {p : Program} {l : Launch} {e : Env} {R : Room} {s : State} {m : MethodId} {args : Array Value} {below : List Frame} {meth : Method} {c : Code} {E : zE} {A : Nat → Prop} (C : zCx p R s m args meth c cX7_playForPoints "TwoTrue" E zNC A 5 (some .int) 7) (hD : zD E zNC A) (k1 : Nat) (hk1 : k1 < 3) (c2 : Int32) (c3 : Int32) {e67 : zM → Option (Int32 × zM)} (he67 : ∀ (M : zM), zG p l e R s m args below meth c E zNC A 5 zvI zoT 67 [(1, .ref (zad E 1 k1)), (2, .int c2), (3, .int c3)] [] M (e67 M )) : ∀ (n : Nat) (M : zM) (v4 : Int32), zG p l e R s m args below meth c E zNC A 5 zvI zoT 10 [(0, .ref (zad E 0 0)), (1, .ref (zad E 1 k1)), (2, .int c2), (3, .int c3), (4, .int v4)] [] M (qG_playForPoints_L10 k1 c2 c3 e67 n M v4) := by
  intro n
  induction n with
  | zero =>
    intro M v4
    exact zg_none
  | succ n ih =>
    intro M v4
    rw [qG_playForPoints_L10]
    refine zg_iload C 4 12 rfl dX7_playForPoints_10 rfl ?_
    refine zg_aload_n C 1 13 rfl dX7_playForPoints_12 rfl ?_
    refine fgX7_73 C (zn1 hk1) 16 rfl dX7_playForPoints_13 ?_
    refine zg_icmp_ge C 67 19 rfl dX7_playForPoints_16 (by decide) ?_ ?_
    · refine zg_sub [1, 2, 3] [(1, .ref (zad E 1 k1)), (2, .int c2), (3, .int c3)] rfl ?_
      exact he67 M 
    · refine zg_iload C 4 21 rfl dX7_playForPoints_19 rfl ?_
      refine zg_iload_n C 2 22 rfl dX7_playForPoints_21 rfl ?_
      refine zg_jn (fun j5 => ∀ (M4 : zM), zG p l e R s m args below meth c E zNC A 5 zvI zoT 61 [(0, .ref (zad E 0 0)), (1, .ref (zad E 1 k1)), (2, .int c2), (3, .int c3), (4, .int v4)] [] M4 (j5 M4 )) (fun M4 => ?_) (fun j5 hj5 => ?_)
      · refine zg_iinc C 4 (v4 + (1 : Int32)) [(4, .int (v4 + (1 : Int32))), (0, .ref (zad E 0 0)), (1, .ref (zad E 1 k1)), (2, .int c2), (3, .int c3)] 64 rfl dX7_playForPoints_61 rfl (congrArg (fun z : Int32 => v4 + z) (by decide : Int32.ofInt (1) = (1 : Int32))) (by decide) rfl ?_
        refine zg_goto C 10 dX7_playForPoints_64 (by decide) ?_
        refine zg_sub [1, 2, 3, 4, 0] [(0, .ref (zad E 0 0)), (1, .ref (zad E 1 k1)), (2, .int c2), (3, .int c3), (4, .int (v4 + (1 : Int32)))] rfl ?_
        exact ih M4 (v4 + (1 : Int32))
      · refine zg_icmp_eq C 61 25 rfl dX7_playForPoints_22 (by decide) ?_ ?_
        · exact hj5 M 
        · refine zg_aload_n C 0 26 rfl dX7_playForPoints_25 rfl ?_
          refine fgX7_45 C zn0 29 rfl dX7_playForPoints_26 ?_
          refine fgX7_154 C zn16 32 rfl dX7_playForPoints_29 ?_
          refine zg_iload C 4 34 rfl dX7_playForPoints_32 rfl ?_
          refine zg_iald C 35 rfl dX7_playForPoints_34 zn21 rfl ?_
          refine zg_aload_n C 0 36 rfl dX7_playForPoints_35 rfl ?_
          refine fgX7_45 C zn0 39 rfl dX7_playForPoints_36 ?_
          refine fgX7_186 C zn16 42 rfl dX7_playForPoints_39 ?_
          refine zg_icmp_ne C 61 45 rfl dX7_playForPoints_42 (by decide) ?_ ?_
          · refine zg_aload_n C 1 46 rfl dX7_playForPoints_45 rfl ?_
            refine fgX7_88 C (zn1 hk1) 49 rfl dX7_playForPoints_46 ?_
            refine zg_iload C 4 51 rfl dX7_playForPoints_49 rfl ?_
            refine zg_aald (k2 := 2) (b := (6 * k1)) (t0 := 3) C 52 rfl dX7_playForPoints_51 (zn7 hk1) rfl rfl (fun i6 hbi6 hei6 => ?_)
            have hi6 : i6 < 18 := by omega
            refine zg_dup C rfl 53 rfl dX7_playForPoints_52 ?_
            refine fgX7_200 C (zn2 hi6) 56 rfl dX7_playForPoints_53 ?_
            refine zg_iconst C (1 : Int32) 57 rfl dX7_playForPoints_56 (by decide) ?_
            refine zg_iadd C 58 rfl dX7_playForPoints_57 ?_
            refine fpX7_200 C (zn2 hi6) 61 rfl dX7_playForPoints_58 (fun M7 => ?_)
            exact hj5 M7 
          · exact hj5 M 
set_option maxHeartbeats 4000000 in
set_option maxRecDepth 100000 in
theorem tG_playForPoints {l : Launch} {E : zE} {A : Nat → Prop} (hD : zD E zNC A) (M : zM) (r1 : Nat) (hr1 : r1 < 3) (a1 : Int32) : zCT l yX7_playForPoints cX7_playForPoints 5 (some .int) 7 E zNC A [.ref (zad E 0 0), .ref (zad E 1 r1), .int a1] M zvI zoT (qG_playForPoints  M r1 a1) := by
  refine zCT_of (by decide) hD (by first | decide | exact Nat.le_of_ble_eq_true rfl) (fun p e R s m args below meth c C => ?_)
  have C : zCx p R s m args meth c cX7_playForPoints "TwoTrue" E zNC A 5 (some .int) 7 := C
  unfold qG_playForPoints
  refine zg_sub [0, 1, 2] [(0, .ref (zad E 0 0)), (1, .ref (zad E 1 r1)), (2, .int a1)] rfl ?_
  refine zg_aload_n C 0 1 rfl dX7_playForPoints_0 rfl ?_
  refine zg_aload_n C 1 2 rfl dX7_playForPoints_1 rfl ?_
  refine zg_iload_n C 2 3 rfl dX7_playForPoints_2 rfl ?_
  refine zg_callVI C [.ref (zad E 1 r1), .int a1] 6 rfl dX7_playForPoints_3 (tG_playAsEver hD M r1 hr1 a1) rfl (fun _ _ hP _ => zrecv C.2.2.2.2.2.1 hP zn0 rfl rfl) zw528 zw525 zw527 zv13 zw1 oG_playAsEver (by decide) (Nat.le_of_ble_eq_true rfl) (fun x2 M1 h3 => ?_)
  refine zg_istore_n C 3 [(3, .int x2), (0, .ref (zad E 0 0)), (1, .ref (zad E 1 r1)), (2, .int a1)] 7 rfl dX7_playForPoints_6 rfl (by decide) rfl ?_
  refine zg_iconst C (0 : Int32) 8 rfl dX7_playForPoints_7 (by decide) ?_
  refine zg_istore C 4 [(4, .int (0 : Int32)), (3, .int x2), (0, .ref (zad E 0 0)), (1, .ref (zad E 1 r1)), (2, .int a1)] 10 rfl dX7_playForPoints_8 (by decide) rfl ?_
  refine zg_sub [2, 3, 4, 1, 0] [(0, .ref (zad E 0 0)), (1, .ref (zad E 1 r1)), (2, .int a1), (3, .int x2), (4, .int (0 : Int32))] rfl ?_
  refine tG_playForPoints_L10 C hD r1 hr1 a1 x2 (fun M8 => ?_) 1000 M1 (0 : Int32)
  · refine zg_aload_n C 0 68 rfl dX7_playForPoints_67 rfl ?_
    refine fgX7_88 C (zn1 hr1) 71 rfl dX7_playForPoints_68 ?_
    refine zg_iload_n C 1 72 rfl dX7_playForPoints_71 rfl ?_
    refine zg_aald (k2 := 2) (b := (6 * r1)) (t0 := 3) C 73 rfl dX7_playForPoints_72 (zn7 hr1) rfl rfl (fun i9 hbi9 hei9 => ?_)
    have hi9 : i9 < 18 := by omega
    refine zg_dup C rfl 74 rfl dX7_playForPoints_73 ?_
    refine fgX7_200 C (zn2 hi9) 77 rfl dX7_playForPoints_74 ?_
    refine zg_iload_n C 2 78 rfl dX7_playForPoints_77 rfl ?_
    refine zg_iadd C 79 rfl dX7_playForPoints_78 ?_
    refine fpX7_200 C (zn2 hi9) 82 rfl dX7_playForPoints_79 (fun M10 => ?_)
    refine zg_aload_n C 0 83 rfl dX7_playForPoints_82 rfl ?_
    refine zg_dup C rfl 84 rfl dX7_playForPoints_83 ?_
    refine fgX7_133 C (zn1 hr1) 87 rfl dX7_playForPoints_84 ?_
    refine zg_iconst C (1 : Int32) 88 rfl dX7_playForPoints_87 (by decide) ?_
    refine zg_iadd C 89 rfl dX7_playForPoints_88 ?_
    refine fpX7_133 C (zn1 hr1) 92 rfl dX7_playForPoints_89 (fun M11 => ?_)
    refine zg_iload_n C 2 93 rfl dX7_playForPoints_92 rfl ?_
    exact zg_iret C dX7_playForPoints_93 trivial
set_option maxHeartbeats 4000000 in
set_option maxRecDepth 100000 in
theorem tG_guess {l : Launch} {E : zE} {A : Nat → Prop} (hD : zD E zNC A) (M : zM) (a0 : Int32) (a1 : Int32) : zCT l yX7_guess cX7_guess 3 (some .int) 7 E zNC A [.ref (zad E 0 0), .int a0, .int a1] M zvI zoT (qG_guess  M a0 a1) := by
  refine zCT_of (by decide) hD (by first | decide | exact Nat.le_of_ble_eq_true rfl) (fun p e R s m args below meth c C => ?_)
  have C : zCx p R s m args meth c cX7_guess "TwoTrue" E zNC A 3 (some .int) 7 := C
  unfold qG_guess
  refine zg_sub [0, 1, 2] [(0, .ref (zad E 0 0)), (1, .int a0), (2, .int a1)] rfl ?_
  refine zg_aload_n C 0 1 rfl dX7_guess_0 rfl ?_
  refine fgX7_12 C zn0 4 rfl dX7_guess_1 ?_
  refine zg_iload_n C 1 5 rfl dX7_guess_4 rfl ?_
  refine zg_callVI C [.int a0] 8 rfl dX7_guess_5 (tP_has hD M 0 (by decide) a0) rfl (fun _ _ hP _ => zrecv C.2.2.2.2.2.1 hP (zn1 (by decide : 0 < 3)) rfl rfl) zw292 zw289 zw290 zw291 zw2 oP_has (by decide) (Nat.le_of_ble_eq_true rfl) (fun x2 M1 h3 => ?_)
  refine zg_if_eq C 22 11 rfl dX7_guess_8 (by decide) ?_ ?_
  · refine zg_iconst C (-1 : Int32) 23 rfl dX7_guess_22 (by decide) ?_
    exact zg_iret C dX7_guess_23 trivial
  · refine zg_aload_n C 0 12 rfl dX7_guess_11 rfl ?_
    refine fgX7_12 C zn0 15 rfl dX7_guess_12 ?_
    refine zg_iload_n C 2 16 rfl dX7_guess_15 rfl ?_
    refine zg_callVI C [.int a1] 19 rfl dX7_guess_16 (tP_has hD M1 0 (by decide) a1) rfl (fun _ _ hP _ => zrecv C.2.2.2.2.2.1 hP (zn1 (by decide : 0 < 3)) rfl rfl) zw292 zw289 zw290 zw291 zw2 oP_has (by decide) (Nat.le_of_ble_eq_true rfl) (fun x5 M4 h6 => ?_)
    refine zg_if_ne C 24 22 rfl dX7_guess_19 (by decide) ?_ ?_
    · refine zg_iconst C (-1 : Int32) 23 rfl dX7_guess_22 (by decide) ?_
      exact zg_iret C dX7_guess_23 trivial
    · refine zg_iload_n C 1 25 rfl dX7_guess_24 rfl ?_
      refine zg_iload_n C 2 26 rfl dX7_guess_25 rfl ?_
      refine zg_icmp_ne C 32 29 rfl dX7_guess_26 (by decide) ?_ ?_
      · refine zg_bipush C (-2 : Int32) 31 rfl dX7_guess_29 (by decide) ?_
        exact zg_iret C dX7_guess_31 trivial
      · refine zg_aload_n C 0 33 rfl dX7_guess_32 rfl ?_
        refine zg_aload_n C 0 34 rfl dX7_guess_33 rfl ?_
        refine fgX7_12 C zn0 37 rfl dX7_guess_34 ?_
        refine zg_iload_n C 2 38 rfl dX7_guess_37 rfl ?_
        refine zg_callVI C [.ref (zad E 1 0), .int a1] 41 rfl dX7_guess_38 (tG_playAsEver hD M4 0 (by decide) a1) rfl (fun _ _ hP _ => zrecv C.2.2.2.2.2.1 hP zn0 rfl rfl) zw528 zw525 zw527 zv13 zw1 oG_playAsEver (by decide) (Nat.le_of_ble_eq_true rfl) (fun x8 M7 h9 => ?_)
        refine zg_pop C rfl 42 rfl dX7_guess_41 ?_
        refine zg_aload_n C 0 43 rfl dX7_guess_42 rfl ?_
        refine fgX7_45 C zn0 46 rfl dX7_guess_43 ?_
        refine fgX7_154 C zn16 49 rfl dX7_guess_46 ?_
        refine zg_iload_n C 1 50 rfl dX7_guess_49 rfl ?_
        refine zg_iald C 51 rfl dX7_guess_50 zn21 rfl ?_
        exact zg_iret C dX7_guess_51 trivial
set_option maxHeartbeats 4000000 in
set_option maxRecDepth 100000 in
theorem tG_hands {l : Launch} {E : zE} {A : Nat → Prop} (hD : zD E zNC A) (M : zM) (a0 : Int32) (a1 : Int32) : zCT l yX7_hands cX7_hands 4 (some .int) 7 E zNC A [.ref (zad E 0 0), .int a0, .int a1] M zvI zoT (qG_hands  M a0 a1) := by
  refine zCT_of (by decide) hD (by first | decide | exact Nat.le_of_ble_eq_true rfl) (fun p e R s m args below meth c C => ?_)
  have C : zCx p R s m args meth c cX7_hands "TwoTrue" E zNC A 4 (some .int) 7 := C
  unfold qG_hands
  refine zg_sub [0, 1, 2] [(0, .ref (zad E 0 0)), (1, .int a0), (2, .int a1)] rfl ?_
  refine zg_aload_n C 0 1 rfl dX7_hands_0 rfl ?_
  refine fgX7_12 C zn0 4 rfl dX7_hands_1 ?_
  refine zg_iload_n C 1 5 rfl dX7_hands_4 rfl ?_
  refine zg_callVI C [.int a0] 8 rfl dX7_hands_5 (tP_has hD M 0 (by decide) a0) rfl (fun _ _ hP _ => zrecv C.2.2.2.2.2.1 hP (zn1 (by decide : 0 < 3)) rfl rfl) zw292 zw289 zw290 zw291 zw2 oP_has (by decide) (Nat.le_of_ble_eq_true rfl) (fun x2 M1 h3 => ?_)
  refine zg_if_eq C 20 11 rfl dX7_hands_8 (by decide) ?_ ?_
  · refine zg_iconst C (-1 : Int32) 21 rfl dX7_hands_20 (by decide) ?_
    exact zg_iret C dX7_hands_21 trivial
  · refine zg_iload_n C 2 12 rfl dX7_hands_11 rfl ?_
    refine zg_if_lt C 20 15 rfl dX7_hands_12 (by decide) ?_ ?_
    · refine zg_iconst C (-1 : Int32) 21 rfl dX7_hands_20 (by decide) ?_
      exact zg_iret C dX7_hands_21 trivial
    · refine zg_iload_n C 2 16 rfl dX7_hands_15 rfl ?_
      refine zg_iconst C (3 : Int32) 17 rfl dX7_hands_16 (by decide) ?_
      refine zg_icmp_le C 22 20 rfl dX7_hands_17 (by decide) ?_ ?_
      · refine zg_aload_n C 0 23 rfl dX7_hands_22 rfl ?_
        refine zg_aload_n C 0 24 rfl dX7_hands_23 rfl ?_
        refine fgX7_12 C zn0 27 rfl dX7_hands_24 ?_
        refine zg_iload_n C 1 28 rfl dX7_hands_27 rfl ?_
        refine zg_callVI C [.ref (zad E 1 0), .int a0] 31 rfl dX7_hands_28 (tG_playAsEver hD M1 0 (by decide) a0) rfl (fun _ _ hP _ => zrecv C.2.2.2.2.2.1 hP zn0 rfl rfl) zw528 zw525 zw527 zv13 zw1 oG_playAsEver (by decide) (Nat.le_of_ble_eq_true rfl) (fun x5 M4 h6 => ?_)
        refine zg_istore_n C 3 [(3, .int x5), (0, .ref (zad E 0 0)), (1, .int a0), (2, .int a1)] 32 rfl dX7_hands_31 rfl (by decide) rfl ?_
        refine zg_iload_n C 3 33 rfl dX7_hands_32 rfl ?_
        refine zg_iconst C (3 : Int32) 34 rfl dX7_hands_33 (by decide) ?_
        refine zg_icmp_ne C 41 37 rfl dX7_hands_34 (by decide) ?_ ?_
        · refine zg_iload_n C 0 38 rfl dX7_hands_37 rfl ?_
          refine zg_goto C 50 dX7_hands_38 (by decide) ?_
          exact zg_iret C dX7_hands_50 trivial
        · refine zg_aload_n C 1 42 rfl dX7_hands_41 rfl ?_
          refine fgX7_45 C zn0 45 rfl dX7_hands_42 ?_
          refine fgX7_157 C zn16 48 rfl dX7_hands_45 ?_
          refine zg_iload_n C 3 49 rfl dX7_hands_48 rfl ?_
          refine zg_iald C 50 rfl dX7_hands_49 zn20 rfl ?_
          exact zg_iret C dX7_hands_50 trivial
      · refine zg_iconst C (-1 : Int32) 21 rfl dX7_hands_20 (by decide) ?_
        exact zg_iret C dX7_hands_21 trivial
