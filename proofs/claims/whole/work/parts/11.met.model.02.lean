set_option maxHeartbeats 4000000 in
set_option maxRecDepth 100000 in
theorem tM_book {l : Launch} {E : zE} {A : Nat → Prop} (hD : zD E zNM A) (M : zM) (a0 : Int32) (a1 : Int32) (a2 : Int32) : zCT l yX8_book cX8_book 4 (some .int) 4 E zNM A [.ref (zad E 40 0), .int a0, .int a1, .int a2] M zvI zoT (qM_book  M a0 a1 a2) := by
  refine zCT_of (by decide) hD (by first | decide | exact Nat.le_of_ble_eq_true rfl) (fun p e R s m args below meth c C => ?_)
  have C : zCx p R s m args meth c cX8_book "TwoTrueModel" E zNM A 4 (some .int) 4 := C
  unfold qM_book
  refine zg_sub [0, 1, 2, 3] [(0, .ref (zad E 40 0)), (1, .int a0), (2, .int a1), (3, .int a2)] rfl ?_
  refine zg_iload_n C 1 1 rfl dX8_book_0 rfl ?_
  refine zg_iconst C (-1 : Int32) 2 rfl dX8_book_1 (by decide) ?_
  refine zg_icmp_ne C 12 5 rfl dX8_book_2 (by decide) ?_ ?_
  · refine zg_aload_n C 0 6 rfl dX8_book_5 rfl ?_
    refine zg_iconst C (0 : Int32) 7 rfl dX8_book_6 (by decide) ?_
    refine fpX8_126 C zn40 10 rfl dX8_book_7 (fun M1 => ?_)
    refine zg_iconst C (0 : Int32) 11 rfl dX8_book_10 (by decide) ?_
    exact zg_iret C dX8_book_11 trivial
  · refine zg_aload_n C 0 13 rfl dX8_book_12 rfl ?_
    refine zg_iload_n C 1 14 rfl dX8_book_13 rfl ?_
    refine zg_callVI C [.int a0] 17 rfl dX8_book_14 (tM_isPerson hD M a0) rfl (fun _ _ hP _ => zrecv C.2.2.2.2.2.1 hP zn40 rfl rfl) zw977 zw974 zw976 zv20 zw9 oM_isPerson (by decide) (Nat.le_of_ble_eq_true rfl) (fun x3 M2 h4 => ?_)
    refine zg_if_eq C 38 20 rfl dX8_book_17 (by decide) ?_ ?_
    · refine zg_iconst C (-1 : Int32) 39 rfl dX8_book_38 (by decide) ?_
      exact zg_iret C dX8_book_39 trivial
    · refine zg_aload_n C 0 21 rfl dX8_book_20 rfl ?_
      refine zg_iload_n C 2 22 rfl dX8_book_21 rfl ?_
      refine zg_callVI C [.int a1] 25 rfl dX8_book_22 (tM_isPerson hD M2 a1) rfl (fun _ _ hP _ => zrecv C.2.2.2.2.2.1 hP zn40 rfl rfl) zw977 zw974 zw976 zv20 zw9 oM_isPerson (by decide) (Nat.le_of_ble_eq_true rfl) (fun x6 M5 h7 => ?_)
      refine zg_if_eq C 38 28 rfl dX8_book_25 (by decide) ?_ ?_
      · refine zg_iconst C (-1 : Int32) 39 rfl dX8_book_38 (by decide) ?_
        exact zg_iret C dX8_book_39 trivial
      · refine zg_aload_n C 0 29 rfl dX8_book_28 rfl ?_
        refine zg_iload_n C 3 30 rfl dX8_book_29 rfl ?_
        refine zg_iconst C (0 : Int32) 31 rfl dX8_book_30 (by decide) ?_
        refine zg_iconst C (2 : Int32) 32 rfl dX8_book_31 (by decide) ?_
        refine zg_callVI C [.int a2, .int (0 : Int32), .int (2 : Int32)] 35 rfl dX8_book_32 (tM_in hD M5 a2 (0 : Int32) (2 : Int32)) rfl (fun _ _ hP _ => zrecv C.2.2.2.2.2.1 hP zn40 rfl rfl) zw969 zw966 zw968 zv19 zw9 oM_in (by decide) (Nat.le_of_ble_eq_true rfl) (fun x9 M8 h10 => ?_)
        refine zg_if_ne C 40 38 rfl dX8_book_35 (by decide) ?_ ?_
        · refine zg_iconst C (-1 : Int32) 39 rfl dX8_book_38 (by decide) ?_
          exact zg_iret C dX8_book_39 trivial
        · refine zg_iload_n C 1 41 rfl dX8_book_40 rfl ?_
          refine zg_iload_n C 2 42 rfl dX8_book_41 rfl ?_
          refine zg_icmp_ne C 48 45 rfl dX8_book_42 (by decide) ?_ ?_
          · refine zg_bipush C (-2 : Int32) 47 rfl dX8_book_45 (by decide) ?_
            exact zg_iret C dX8_book_47 trivial
          · refine zg_aload_n C 0 49 rfl dX8_book_48 rfl ?_
            refine fgX8_126 C zn40 52 rfl dX8_book_49 ?_
            refine zg_bipush C (12 : Int32) 54 rfl dX8_book_52 (by decide) ?_
            refine zg_icmp_ne C 60 57 rfl dX8_book_54 (by decide) ?_ ?_
            · refine zg_bipush C (-4 : Int32) 59 rfl dX8_book_57 (by decide) ?_
              exact zg_iret C dX8_book_59 trivial
            · refine zg_aload_n C 0 61 rfl dX8_book_60 rfl ?_
              refine fgX8_129 C zn40 64 rfl dX8_book_61 ?_
              refine zg_aload_n C 0 65 rfl dX8_book_64 rfl ?_
              refine fgX8_126 C zn40 68 rfl dX8_book_65 ?_
              refine zg_iload_n C 1 69 rfl dX8_book_68 rfl ?_
              refine zg_iast C 70 rfl dX8_book_69 zn66 (fun _ _ => rfl) (fun M11 => ?_)
              refine zg_aload_n C 0 71 rfl dX8_book_70 rfl ?_
              refine fgX8_132 C zn40 74 rfl dX8_book_71 ?_
              refine zg_aload_n C 0 75 rfl dX8_book_74 rfl ?_
              refine fgX8_126 C zn40 78 rfl dX8_book_75 ?_
              refine zg_iload_n C 2 79 rfl dX8_book_78 rfl ?_
              refine zg_iast C 80 rfl dX8_book_79 zn67 (fun _ _ => rfl) (fun M12 => ?_)
              refine zg_aload_n C 0 81 rfl dX8_book_80 rfl ?_
              refine fgX8_135 C zn40 84 rfl dX8_book_81 ?_
              refine zg_aload_n C 0 85 rfl dX8_book_84 rfl ?_
              refine fgX8_126 C zn40 88 rfl dX8_book_85 ?_
              refine zg_iload_n C 3 89 rfl dX8_book_88 rfl ?_
              refine zg_iast C 90 rfl dX8_book_89 zn68 (fun _ _ => rfl) (fun M13 => ?_)
              refine zg_aload_n C 0 91 rfl dX8_book_90 rfl ?_
              refine zg_dup C rfl 92 rfl dX8_book_91 ?_
              refine fgX8_126 C zn40 95 rfl dX8_book_92 ?_
              refine zg_iconst C (1 : Int32) 96 rfl dX8_book_95 (by decide) ?_
              refine zg_iadd C 97 rfl dX8_book_96 ?_
              refine fpX8_126 C zn40 100 rfl dX8_book_97 (fun M14 => ?_)
              refine zg_aload_n C 0 101 rfl dX8_book_100 rfl ?_
              refine fgX8_126 C zn40 104 rfl dX8_book_101 ?_
              exact zg_iret C dX8_book_104 trivial
set_option maxHeartbeats 4000000 in
set_option maxRecDepth 100000 in
theorem tM_judge_L34 {p : Program} {l : Launch} {e : Env} {R : Room} {s : State} {m : MethodId} {args : Array Value} {below : List Frame} {meth : Method} {c : Code} {E : zE} {A : Nat → Prop} (C : zCx p R s m args meth c cX8_judge "TwoTrueModel" E zNM A 4 (some .int) 4) (hD : zD E zNM A) (c1 : Int32) (c2 : Int32) : ∀ (n : Nat) (M : zM) (v3 : Int32), zG p l e R s m args below meth c E zNM A 4 zvI zoT 34 [(0, .ref (zad E 40 0)), (1, .int c1), (2, .int c2), (3, .int v3)] [] M (qM_judge_L34 c1 c2 n M v3) := by
  intro n
  induction n with
  | zero =>
    intro M v3
    exact zg_none
  | succ n ih =>
    intro M v3
    rw [qM_judge_L34]
    refine zg_iload_n C 3 35 rfl dX8_judge_34 rfl ?_
    refine zg_aload_n C 0 36 rfl dX8_judge_35 rfl ?_
    refine fgX8_7 C zn40 39 rfl dX8_judge_36 ?_
    refine zg_icmp_ge C 106 42 rfl dX8_judge_39 (by decide) ?_ ?_
    · refine zg_bipush C (-5 : Int32) 108 rfl dX8_judge_106 (by decide) ?_
      exact zg_iret C dX8_judge_108 trivial
    · refine zg_aload_n C 0 43 rfl dX8_judge_42 rfl ?_
      refine fgX8_196 C zn40 46 rfl dX8_judge_43 ?_
      refine zg_iload_n C 1 47 rfl dX8_judge_46 rfl ?_
      refine zg_iald C 48 rfl dX8_judge_47 zn82 rfl ?_
      refine zg_if_lt C 69 51 rfl dX8_judge_48 (by decide) ?_ ?_
      · refine zg_bipush C (100 : Int32) 71 rfl dX8_judge_69 (by decide) ?_
        refine zg_iload_n C 3 72 rfl dX8_judge_71 rfl ?_
        refine zg_iadd C 73 rfl dX8_judge_72 ?_
        exact zg_iret C dX8_judge_73 trivial
      · refine zg_iload_n C 2 52 rfl dX8_judge_51 rfl ?_
        refine zg_if_lt C 69 55 rfl dX8_judge_52 (by decide) ?_ ?_
        · refine zg_bipush C (100 : Int32) 71 rfl dX8_judge_69 (by decide) ?_
          refine zg_iload_n C 3 72 rfl dX8_judge_71 rfl ?_
          refine zg_iadd C 73 rfl dX8_judge_72 ?_
          exact zg_iret C dX8_judge_73 trivial
        · refine zg_iload_n C 2 56 rfl dX8_judge_55 rfl ?_
          refine zg_aload_n C 0 57 rfl dX8_judge_56 rfl ?_
          refine fgX8_199 C zn40 60 rfl dX8_judge_57 ?_
          refine zg_iload_n C 1 61 rfl dX8_judge_60 rfl ?_
          refine zg_iald C 62 rfl dX8_judge_61 zn83 rfl ?_
          refine zg_iload_n C 3 63 rfl dX8_judge_62 rfl ?_
          refine zg_isub C 64 rfl dX8_judge_63 ?_
          refine zg_iconst C (1 : Int32) 65 rfl dX8_judge_64 (by decide) ?_
          refine zg_isub C 66 rfl dX8_judge_65 ?_
          refine zg_icmp_le C 74 69 rfl dX8_judge_66 (by decide) ?_ ?_
          · refine zg_aload_n C 0 75 rfl dX8_judge_74 rfl ?_
            refine fgX8_202 C zn40 78 rfl dX8_judge_75 ?_
            refine zg_bipush C (60 : Int32) 80 rfl dX8_judge_78 (by decide) ?_
            refine zg_iload_n C 1 81 rfl dX8_judge_80 rfl ?_
            refine zg_imul C 82 rfl dX8_judge_81 ?_
            refine zg_iload_n C 2 83 rfl dX8_judge_82 rfl ?_
            refine zg_iadd C 84 rfl dX8_judge_83 ?_
            refine zg_iload_n C 3 85 rfl dX8_judge_84 rfl ?_
            refine zg_iadd C 86 rfl dX8_judge_85 ?_
            refine zg_lald C 87 rfl dX8_judge_86 zn84 rfl ?_
            refine zg_aload_n C 0 88 rfl dX8_judge_87 rfl ?_
            refine fgX8_23 C zn40 91 rfl dX8_judge_88 ?_
            refine zg_iload_n C 3 92 rfl dX8_judge_91 rfl ?_
            refine zg_iald C 93 rfl dX8_judge_92 zn43 rfl ?_
            refine zg_i2l C 94 rfl dX8_judge_93 ?_
            refine zg_lcmp C 95 rfl dX8_judge_94 ?_
            refine zg_if_eq C 100 98 rfl dX8_judge_95 (by decide) ?_ ?_
            · refine zg_iinc C 3 (v3 + (1 : Int32)) [(3, .int (v3 + (1 : Int32))), (0, .ref (zad E 40 0)), (1, .int c1), (2, .int c2)] 103 rfl dX8_judge_100 rfl (congrArg (fun z : Int32 => v3 + z) (by decide : Int32.ofInt (1) = (1 : Int32))) (by decide) rfl ?_
              refine zg_goto C 34 dX8_judge_103 (by decide) ?_
              refine zg_sub [1, 2, 3, 0] [(0, .ref (zad E 40 0)), (1, .int c1), (2, .int c2), (3, .int (v3 + (1 : Int32)))] rfl ?_
              exact ih M (v3 + (1 : Int32))
            · refine zg_iload_n C 3 99 rfl dX8_judge_98 rfl ?_
              exact zg_iret C dX8_judge_99 trivial
          · refine zg_bipush C (100 : Int32) 71 rfl dX8_judge_69 (by decide) ?_
            refine zg_iload_n C 3 72 rfl dX8_judge_71 rfl ?_
            refine zg_iadd C 73 rfl dX8_judge_72 ?_
            exact zg_iret C dX8_judge_73 trivial
set_option maxHeartbeats 4000000 in
set_option maxRecDepth 100000 in
theorem tM_judge {l : Launch} {E : zE} {A : Nat → Prop} (hD : zD E zNM A) (M : zM) (a0 : Int32) (a1 : Int32) : zCT l yX8_judge cX8_judge 4 (some .int) 4 E zNM A [.ref (zad E 40 0), .int a0, .int a1] M zvI zoT (qM_judge  M a0 a1) := by
  refine zCT_of (by decide) hD (by first | decide | exact Nat.le_of_ble_eq_true rfl) (fun p e R s m args below meth c C => ?_)
  have C : zCx p R s m args meth c cX8_judge "TwoTrueModel" E zNM A 4 (some .int) 4 := C
  unfold qM_judge
  refine zg_sub [0, 1, 2] [(0, .ref (zad E 40 0)), (1, .int a0), (2, .int a1)] rfl ?_
  refine zg_aload_n C 0 1 rfl dX8_judge_0 rfl ?_
  refine zg_iload_n C 1 2 rfl dX8_judge_1 rfl ?_
  refine zg_callVI C [.int a0] 5 rfl dX8_judge_2 (tM_isTape hD M a0) rfl (fun _ _ hP _ => zrecv C.2.2.2.2.2.1 hP zn40 rfl rfl) zw1218 zw1215 zw1217 zv55 zw9 oM_isTape (by decide) (Nat.le_of_ble_eq_true rfl) (fun x2 M1 h3 => ?_)
  refine zg_if_ne C 10 8 rfl dX8_judge_5 (by decide) ?_ ?_
  · refine zg_iconst C (-1 : Int32) 9 rfl dX8_judge_8 (by decide) ?_
    exact zg_iret C dX8_judge_9 trivial
  · refine zg_aload_n C 0 11 rfl dX8_judge_10 rfl ?_
    refine fgX8_196 C zn40 14 rfl dX8_judge_11 ?_
    refine zg_iload_n C 1 15 rfl dX8_judge_14 rfl ?_
    refine zg_iald C 16 rfl dX8_judge_15 zn82 rfl ?_
    refine zg_jn (fun j5 => ∀ (M4 : zM), zG p l e R s m args below meth c E zNM A 4 zvI zoT 32 [(0, .ref (zad E 40 0)), (1, .int a0), (2, .int a1)] [] M4 (j5 M4 )) (fun M4 => ?_) (fun j5 hj5 => ?_)
    · refine zg_iconst C (0 : Int32) 33 rfl dX8_judge_32 (by decide) ?_
      refine zg_istore_n C 3 [(3, .int (0 : Int32)), (0, .ref (zad E 40 0)), (1, .int a0), (2, .int a1)] 34 rfl dX8_judge_33 rfl (by decide) rfl ?_
      refine zg_sub [1, 2, 3, 0] [(0, .ref (zad E 40 0)), (1, .int a0), (2, .int a1), (3, .int (0 : Int32))] rfl ?_
      refine tM_judge_L34 C hD a0 a1  1000 M4 (0 : Int32)
    · refine zg_if_lt C 32 19 rfl dX8_judge_16 (by decide) ?_ ?_
      · exact hj5 M1 
      · refine zg_aload_n C 0 20 rfl dX8_judge_19 rfl ?_
        refine fgX8_196 C zn40 23 rfl dX8_judge_20 ?_
        refine zg_iload_n C 1 24 rfl dX8_judge_23 rfl ?_
        refine zg_iald C 25 rfl dX8_judge_24 zn82 rfl ?_
        refine zg_iconst C (1 : Int32) 26 rfl dX8_judge_25 (by decide) ?_
        refine zg_icmp_eq C 32 29 rfl dX8_judge_26 (by decide) ?_ ?_
        · exact hj5 M1 
        · refine zg_bipush C (-12 : Int32) 31 rfl dX8_judge_29 (by decide) ?_
          exact zg_iret C dX8_judge_31 trivial
set_option maxHeartbeats 4000000 in
set_option maxRecDepth 100000 in
theorem tM_doubtsAct {l : Launch} {E : zE} {A : Nat → Prop} (hD : zD E zNM A) (M : zM) (a0 : Int32) (a1 : Int32) : zCT l yX8_doubtsAct cX8_doubtsAct 3 (some .int) 4 E zNM A [.ref (zad E 40 0), .int a0, .int a1] M zvI zoT (qM_doubtsAct  M a0 a1) := by
  refine zCT_of (by decide) hD (by first | decide | exact Nat.le_of_ble_eq_true rfl) (fun p e R s m args below meth c C => ?_)
  have C : zCx p R s m args meth c cX8_doubtsAct "TwoTrueModel" E zNM A 3 (some .int) 4 := C
  unfold qM_doubtsAct
  refine zg_sub [0, 1, 2] [(0, .ref (zad E 40 0)), (1, .int a0), (2, .int a1)] rfl ?_
  refine zg_aload_n C 0 1 rfl dX8_doubtsAct_0 rfl ?_
  refine fgX8_16 C zn40 4 rfl dX8_doubtsAct_1 ?_
  refine zg_iload_n C 1 5 rfl dX8_doubtsAct_4 rfl ?_
  refine zg_iald C 6 rfl dX8_doubtsAct_5 zn41 rfl ?_
  refine zg_nmI (fun x1 => ?_)
  refine zg_if (fun h2 => ?_) (fun h2 => ?_)
  · refine zg_tabIn C 2 (34) 40 dX8_doubtsAct_6 (zxi h2 (by decide)) (by decide) (by decide) rfl (by decide) ?_
    refine zg_aload_n C 0 41 rfl dX8_doubtsAct_40 rfl ?_
    refine zg_bipush C (30 : Int32) 43 rfl dX8_doubtsAct_41 (by decide) ?_
    refine zg_callVU C [.int (30 : Int32)] 46 rfl dX8_doubtsAct_43 (tM_body hD M (30 : Int32)) rfl (fun _ _ hP _ => zrecv C.2.2.2.2.2.1 hP zn40 rfl rfl) zw1238 zw1235 zw1237 zv57 zw9 oM_body (by decide) (Nat.le_of_ble_eq_true rfl) (fun _u M3 h4 => ?_)
    refine zg_aload_n C 0 47 rfl dX8_doubtsAct_46 rfl ?_
    refine zg_iload_n C 1 48 rfl dX8_doubtsAct_47 rfl ?_
    refine zg_iload_n C 2 49 rfl dX8_doubtsAct_48 rfl ?_
    refine zg_iconst C (3 : Int32) 50 rfl dX8_doubtsAct_49 (by decide) ?_
    refine zg_imul C 51 rfl dX8_doubtsAct_50 ?_
    refine zg_callVI C [.int a0, .int (a1 * (3 : Int32))] 54 rfl dX8_doubtsAct_51 (tM_guestDoubts hD M3 a0 (a1 * (3 : Int32))) rfl (fun _ _ hP _ => zrecv C.2.2.2.2.2.1 hP zn40 rfl rfl) zw1242 zw1239 zw1241 zv58 zw9 oM_guestDoubts (by decide) (Nat.le_of_ble_eq_true rfl) (fun x6 M5 h7 => ?_)
    exact zg_iret C dX8_doubtsAct_54 trivial
  · refine zg_if (fun h8 => ?_) (fun h8 => ?_)
    · refine zg_tabIn C 3 (83) 89 dX8_doubtsAct_6 (zxi h8 (by decide)) (by decide) (by decide) rfl (by decide) ?_
      refine zg_aload_n C 0 90 rfl dX8_doubtsAct_89 rfl ?_
      refine zg_iload_n C 1 91 rfl dX8_doubtsAct_90 rfl ?_
      refine zg_iload_n C 2 92 rfl dX8_doubtsAct_91 rfl ?_
      refine zg_callVI C [.int a0, .int a1] 95 rfl dX8_doubtsAct_92 (tM_guestDoubts hD M a0 a1) rfl (fun _ _ hP _ => zrecv C.2.2.2.2.2.1 hP zn40 rfl rfl) zw1242 zw1239 zw1241 zv58 zw9 oM_guestDoubts (by decide) (Nat.le_of_ble_eq_true rfl) (fun x10 M9 h11 => ?_)
      exact zg_iret C dX8_doubtsAct_95 trivial
    · refine zg_if (fun h12 => ?_) (fun h12 => ?_)
      · refine zg_tabIn C 4 (49) 55 dX8_doubtsAct_6 (zxi h12 (by decide)) (by decide) (by decide) rfl (by decide) ?_
        refine zg_aload_n C 0 56 rfl dX8_doubtsAct_55 rfl ?_
        refine zg_bipush C (50 : Int32) 58 rfl dX8_doubtsAct_56 (by decide) ?_
        refine zg_callVU C [.int (50 : Int32)] 61 rfl dX8_doubtsAct_58 (tM_body hD M (50 : Int32)) rfl (fun _ _ hP _ => zrecv C.2.2.2.2.2.1 hP zn40 rfl rfl) zw1238 zw1235 zw1237 zv57 zw9 oM_body (by decide) (Nat.le_of_ble_eq_true rfl) (fun _u M13 h14 => ?_)
        refine zg_aload_n C 0 62 rfl dX8_doubtsAct_61 rfl ?_
        refine zg_iload_n C 1 63 rfl dX8_doubtsAct_62 rfl ?_
        refine zg_iload_n C 2 64 rfl dX8_doubtsAct_63 rfl ?_
        refine zg_callVI C [.int a0, .int a1] 67 rfl dX8_doubtsAct_64 (tM_guestDoubts hD M13 a0 a1) rfl (fun _ _ hP _ => zrecv C.2.2.2.2.2.1 hP zn40 rfl rfl) zw1242 zw1239 zw1241 zv58 zw9 oM_guestDoubts (by decide) (Nat.le_of_ble_eq_true rfl) (fun x16 M15 h17 => ?_)
        refine zg_ineg C 68 rfl dX8_doubtsAct_67 ?_
        exact zg_iret C dX8_doubtsAct_68 trivial
      · refine zg_if (fun h18 => ?_) (fun h18 => ?_)
        · refine zg_tabIn C 5 (34) 40 dX8_doubtsAct_6 (zxi h18 (by decide)) (by decide) (by decide) rfl (by decide) ?_
          refine zg_aload_n C 0 41 rfl dX8_doubtsAct_40 rfl ?_
          refine zg_bipush C (30 : Int32) 43 rfl dX8_doubtsAct_41 (by decide) ?_
          refine zg_callVU C [.int (30 : Int32)] 46 rfl dX8_doubtsAct_43 (tM_body hD M (30 : Int32)) rfl (fun _ _ hP _ => zrecv C.2.2.2.2.2.1 hP zn40 rfl rfl) zw1238 zw1235 zw1237 zv57 zw9 oM_body (by decide) (Nat.le_of_ble_eq_true rfl) (fun _u M19 h20 => ?_)
          refine zg_aload_n C 0 47 rfl dX8_doubtsAct_46 rfl ?_
          refine zg_iload_n C 1 48 rfl dX8_doubtsAct_47 rfl ?_
          refine zg_iload_n C 2 49 rfl dX8_doubtsAct_48 rfl ?_
          refine zg_iconst C (3 : Int32) 50 rfl dX8_doubtsAct_49 (by decide) ?_
          refine zg_imul C 51 rfl dX8_doubtsAct_50 ?_
          refine zg_callVI C [.int a0, .int (a1 * (3 : Int32))] 54 rfl dX8_doubtsAct_51 (tM_guestDoubts hD M19 a0 (a1 * (3 : Int32))) rfl (fun _ _ hP _ => zrecv C.2.2.2.2.2.1 hP zn40 rfl rfl) zw1242 zw1239 zw1241 zv58 zw9 oM_guestDoubts (by decide) (Nat.le_of_ble_eq_true rfl) (fun x22 M21 h23 => ?_)
          exact zg_iret C dX8_doubtsAct_54 trivial
        · refine zg_if (fun h24 => ?_) (fun h24 => ?_)
          · refine zg_tabIn C 6 (63) 69 dX8_doubtsAct_6 (zxi h24 (by decide)) (by decide) (by decide) rfl (by decide) ?_
            refine zg_aload_n C 0 70 rfl dX8_doubtsAct_69 rfl ?_
            refine zg_bipush C (71 : Int32) 72 rfl dX8_doubtsAct_70 (by decide) ?_
            refine zg_callVU C [.int (71 : Int32)] 75 rfl dX8_doubtsAct_72 (tM_body hD M (71 : Int32)) rfl (fun _ _ hP _ => zrecv C.2.2.2.2.2.1 hP zn40 rfl rfl) zw1238 zw1235 zw1237 zv57 zw9 oM_body (by decide) (Nat.le_of_ble_eq_true rfl) (fun _u M25 h26 => ?_)
            refine zg_aload_n C 0 76 rfl dX8_doubtsAct_75 rfl ?_
            refine zg_iload_n C 1 77 rfl dX8_doubtsAct_76 rfl ?_
            refine zg_iload_n C 2 78 rfl dX8_doubtsAct_77 rfl ?_
            refine zg_callVI C [.int a0, .int a1] 81 rfl dX8_doubtsAct_78 (tM_guestDoubts hD M25 a0 a1) rfl (fun _ _ hP _ => zrecv C.2.2.2.2.2.1 hP zn40 rfl rfl) zw1242 zw1239 zw1241 zv58 zw9 oM_guestDoubts (by decide) (Nat.le_of_ble_eq_true rfl) (fun x28 M27 h29 => ?_)
            refine zg_aload_n C 0 82 rfl dX8_doubtsAct_81 rfl ?_
            refine fgX8_20 C zn40 85 rfl dX8_doubtsAct_82 ?_
            refine zg_iload_n C 1 86 rfl dX8_doubtsAct_85 rfl ?_
            refine zg_iald C 87 rfl dX8_doubtsAct_86 zn42 rfl ?_
            refine zg_ixor C 88 rfl dX8_doubtsAct_87 ?_
            exact zg_iret C dX8_doubtsAct_88 trivial
          · refine zg_tabOut C 89 dX8_doubtsAct_6 (by have gh2 := zxn h2 (by decide : (2 : Int32).toInt = 2); have gh8 := zxn h8 (by decide : (3 : Int32).toInt = 3); have gh12 := zxn h12 (by decide : (4 : Int32).toInt = 4); have gh18 := zxn h18 (by decide : (5 : Int32).toInt = 5); have gh24 := zxn h24 (by decide : (6 : Int32).toInt = 6); omega) (by decide) ?_
            refine zg_aload_n C 0 90 rfl dX8_doubtsAct_89 rfl ?_
            refine zg_iload_n C 1 91 rfl dX8_doubtsAct_90 rfl ?_
            refine zg_iload_n C 2 92 rfl dX8_doubtsAct_91 rfl ?_
            refine zg_callVI C [.int a0, .int a1] 95 rfl dX8_doubtsAct_92 (tM_guestDoubts hD M a0 a1) rfl (fun _ _ hP _ => zrecv C.2.2.2.2.2.1 hP zn40 rfl rfl) zw1242 zw1239 zw1241 zv58 zw9 oM_guestDoubts (by decide) (Nat.le_of_ble_eq_true rfl) (fun x31 M30 h32 => ?_)
            exact zg_iret C dX8_doubtsAct_95 trivial
set_option maxHeartbeats 4000000 in
set_option maxRecDepth 100000 in
theorem tM_taken {l : Launch} {E : zE} {A : Nat → Prop} (hD : zD E zNM A) (M : zM) (a0 : Int32) (a1 : Int32) : zCT l yX8_taken cX8_taken 4 (some .int) 4 E zNM A [.ref (zad E 40 0), .int a0, .int a1] M zvI zoT (qM_taken  M a0 a1) := by
  refine zCT_of (by decide) hD (by first | decide | exact Nat.le_of_ble_eq_true rfl) (fun p e R s m args below meth c C => ?_)
  have C : zCx p R s m args meth c cX8_taken "TwoTrueModel" E zNM A 4 (some .int) 4 := C
  unfold qM_taken
  refine zg_sub [0, 1, 2] [(0, .ref (zad E 40 0)), (1, .int a0), (2, .int a1)] rfl ?_
  refine zg_aload_n C 0 1 rfl dX8_taken_0 rfl ?_
  refine zg_iload_n C 2 2 rfl dX8_taken_1 rfl ?_
  refine zg_iconst C (0 : Int32) 3 rfl dX8_taken_2 (by decide) ?_
  refine zg_bipush C (6 : Int32) 5 rfl dX8_taken_3 (by decide) ?_
  refine zg_callVI C [.int a1, .int (0 : Int32), .int (6 : Int32)] 8 rfl dX8_taken_5 (tM_in hD M a1 (0 : Int32) (6 : Int32)) rfl (fun _ _ hP _ => zrecv C.2.2.2.2.2.1 hP zn40 rfl rfl) zw969 zw966 zw968 zv19 zw9 oM_in (by decide) (Nat.le_of_ble_eq_true rfl) (fun x2 M1 h3 => ?_)
  refine zg_if_ne C 14 11 rfl dX8_taken_8 (by decide) ?_ ?_
  · refine zg_bipush C (-2 : Int32) 13 rfl dX8_taken_11 (by decide) ?_
    exact zg_iret C dX8_taken_13 trivial
  · refine zg_aload_n C 0 15 rfl dX8_taken_14 rfl ?_
    refine zg_iload_n C 1 16 rfl dX8_taken_15 rfl ?_
    refine zg_callVI C [.int a0] 19 rfl dX8_taken_16 (tM_isPerson hD M1 a0) rfl (fun _ _ hP _ => zrecv C.2.2.2.2.2.1 hP zn40 rfl rfl) zw977 zw974 zw976 zv20 zw9 oM_isPerson (by decide) (Nat.le_of_ble_eq_true rfl) (fun x5 M4 h6 => ?_)
    refine zg_if_ne C 25 22 rfl dX8_taken_19 (by decide) ?_ ?_
    · refine zg_bipush C (-11 : Int32) 24 rfl dX8_taken_22 (by decide) ?_
      exact zg_iret C dX8_taken_24 trivial
    · refine zg_aload_n C 0 26 rfl dX8_taken_25 rfl ?_
      refine fgX8_16 C zn40 29 rfl dX8_taken_26 ?_
      refine zg_iload_n C 1 30 rfl dX8_taken_29 rfl ?_
      refine zg_iald C 31 rfl dX8_taken_30 zn41 rfl ?_
      refine zg_nmI (fun x7 => ?_)
      refine zg_istore_n C 3 [(3, .int x7), (0, .ref (zad E 40 0)), (1, .int a0), (2, .int a1)] 32 rfl dX8_taken_31 rfl (by decide) rfl ?_
      refine zg_iload_n C 3 33 rfl dX8_taken_32 rfl ?_
      refine zg_if_eq C 72 36 rfl dX8_taken_33 (by decide) ?_ ?_
      · refine zg_iload_n C 0 73 rfl dX8_taken_72 rfl ?_
        refine zg_goto C 78 dX8_taken_73 (by decide) ?_
        exact zg_iret C dX8_taken_78 trivial
      · refine zg_iload_n C 0 37 rfl dX8_taken_36 rfl ?_
        refine zg_iload_n C 3 38 rfl dX8_taken_37 rfl ?_
        refine zg_icmp_eq C 72 41 rfl dX8_taken_38 (by decide) ?_ ?_
        · refine zg_iload_n C 0 73 rfl dX8_taken_72 rfl ?_
          refine zg_goto C 78 dX8_taken_73 (by decide) ?_
          exact zg_iret C dX8_taken_78 trivial
        · refine zg_iload_n C 3 42 rfl dX8_taken_41 rfl ?_
          refine zg_iconst C (1 : Int32) 43 rfl dX8_taken_42 (by decide) ?_
          refine zg_jn (fun j9 => ∀ (M8 : zM), zG p l e R s m args below meth c E zNM A 4 zvI zoT 51 [(2, .int a1), (3, .int x7)] [] M8 (j9 M8 )) (fun M8 => ?_) (fun j9 hj9 => ?_)
          · refine zg_iload_n C 0 52 rfl dX8_taken_51 rfl ?_
            refine zg_iconst C (2 : Int32) 53 rfl dX8_taken_52 (by decide) ?_
            refine zg_jn (fun j11 => ∀ (M10 : zM), zG p l e R s m args below meth c E zNM A 4 zvI zoT 61 [(2, .int a1), (3, .int x7)] [] M10 (j11 M10 )) (fun M10 => ?_) (fun j11 hj11 => ?_)
            · refine zg_iload_n C 0 62 rfl dX8_taken_61 rfl ?_
              refine zg_iconst C (3 : Int32) 63 rfl dX8_taken_62 (by decide) ?_
              refine zg_icmp_ne C 76 66 rfl dX8_taken_63 (by decide) ?_ ?_
              · refine zg_iload_n C 1 67 rfl dX8_taken_66 rfl ?_
                refine zg_bipush C (6 : Int32) 69 rfl dX8_taken_67 (by decide) ?_
                refine zg_icmp_ne C 76 72 rfl dX8_taken_69 (by decide) ?_ ?_
                · refine zg_iload_n C 1 73 rfl dX8_taken_72 rfl ?_
                  refine zg_goto C 78 dX8_taken_73 (by decide) ?_
                  exact zg_iret C dX8_taken_78 trivial
                · refine zg_bipush C (-12 : Int32) 78 rfl dX8_taken_76 (by decide) ?_
                  exact zg_iret C dX8_taken_78 trivial
              · refine zg_bipush C (-12 : Int32) 78 rfl dX8_taken_76 (by decide) ?_
                exact zg_iret C dX8_taken_78 trivial
            · refine zg_icmp_ne C 61 56 rfl dX8_taken_53 (by decide) ?_ ?_
              · refine zg_iload_n C 1 57 rfl dX8_taken_56 rfl ?_
                refine zg_iconst C (5 : Int32) 58 rfl dX8_taken_57 (by decide) ?_
                refine zg_icmp_eq C 72 61 rfl dX8_taken_58 (by decide) ?_ ?_
                · refine zg_iload_n C 1 73 rfl dX8_taken_72 rfl ?_
                  refine zg_goto C 78 dX8_taken_73 (by decide) ?_
                  exact zg_iret C dX8_taken_78 trivial
                · exact hj11 M8 
              · exact hj11 M8 
          · refine zg_icmp_ne C 51 46 rfl dX8_taken_43 (by decide) ?_ ?_
            · refine zg_iload_n C 0 47 rfl dX8_taken_46 rfl ?_
              refine zg_iconst C (4 : Int32) 48 rfl dX8_taken_47 (by decide) ?_
              refine zg_icmp_eq C 72 51 rfl dX8_taken_48 (by decide) ?_ ?_
              · refine zg_iload_n C 0 73 rfl dX8_taken_72 rfl ?_
                refine zg_goto C 78 dX8_taken_73 (by decide) ?_
                exact zg_iret C dX8_taken_78 trivial
              · refine zg_sub [3, 0] [(2, .int a1), (3, .int x7)] rfl ?_
                exact hj9 M4 
            · refine zg_sub [3, 0] [(2, .int a1), (3, .int x7)] rfl ?_
              exact hj9 M4 
set_option maxHeartbeats 4000000 in
set_option maxRecDepth 100000 in
theorem tM_tape_L69 {p : Program} {l : Launch} {e : Env} {R : Room} {s : State} {m : MethodId} {args : Array Value} {below : List Frame} {meth : Method} {c : Code} {E : zE} {A : Nat → Prop} (C : zCx p R s m args meth c cX8_tape "TwoTrueModel" E zNM A 5 (some .int) 4) (hD : zD E zNM A) (c1 : Int32) : ∀ (n : Nat) (M : zM) (v4 : Int32), zG p l e R s m args below meth c E zNM A 5 zvI zoT 69 [(0, .ref (zad E 40 0)), (1, .int c1), (4, .int v4)] [] M (qM_tape_L69 c1 n M v4) := by
  intro n
  induction n with
  | zero =>
    intro M v4
    exact zg_none
  | succ n ih =>
    intro M v4
    rw [qM_tape_L69]
    refine zg_iload C 2 71 rfl dX8_tape_69 rfl ?_
    refine zg_bipush C (60 : Int32) 73 rfl dX8_tape_71 (by decide) ?_
    refine zg_icmp_ge C 95 76 rfl dX8_tape_73 (by decide) ?_ ?_
    · refine zg_iconst C (1 : Int32) 96 rfl dX8_tape_95 (by decide) ?_
      exact zg_iret C dX8_tape_96 trivial
    · refine zg_aload_n C 0 77 rfl dX8_tape_76 rfl ?_
      refine fgX8_202 C zn40 80 rfl dX8_tape_77 ?_
      refine zg_bipush C (60 : Int32) 82 rfl dX8_tape_80 (by decide) ?_
      refine zg_iload_n C 1 83 rfl dX8_tape_82 rfl ?_
      refine zg_imul C 84 rfl dX8_tape_83 ?_
      refine zg_iload C 2 86 rfl dX8_tape_84 rfl ?_
      refine zg_iadd C 87 rfl dX8_tape_86 ?_
      refine zg_lconst C (0 : Int64) 88 rfl dX8_tape_87 (by decide) ?_
      refine zg_last C 89 rfl dX8_tape_88 zn84 (fun _ _ => rfl) (fun M16 => ?_)
      refine zg_iinc C 2 (v4 + (1 : Int32)) [(4, .int (v4 + (1 : Int32))), (0, .ref (zad E 40 0)), (1, .int c1)] 92 rfl dX8_tape_89 rfl (congrArg (fun z : Int32 => v4 + z) (by decide : Int32.ofInt (1) = (1 : Int32))) (by decide) rfl ?_
      refine zg_goto C 69 dX8_tape_92 (by decide) ?_
      refine zg_sub [1, 2, 0] [(0, .ref (zad E 40 0)), (1, .int c1), (4, .int (v4 + (1 : Int32)))] rfl ?_
      exact ih M16 (v4 + (1 : Int32))
set_option maxHeartbeats 4000000 in
set_option maxRecDepth 100000 in
theorem tM_tape {l : Launch} {E : zE} {A : Nat → Prop} (hD : zD E zNM A) (M : zM) (a0 : Int32) (a1 : Int32) (a2 : Int32) : zCT l yX8_tape cX8_tape 5 (some .int) 4 E zNM A [.ref (zad E 40 0), .int a0, .int a1, .int a2] M zvI zoT (qM_tape  M a0 a1 a2) := by
  refine zCT_of (by decide) hD (by first | decide | exact Nat.le_of_ble_eq_true rfl) (fun p e R s m args below meth c C => ?_)
  have C : zCx p R s m args meth c cX8_tape "TwoTrueModel" E zNM A 5 (some .int) 4 := C
  unfold qM_tape
  refine zg_sub [0, 1, 2, 3] [(0, .ref (zad E 40 0)), (1, .int a0), (2, .int a1), (3, .int a2)] rfl ?_
  refine zg_aload_n C 0 1 rfl dX8_tape_0 rfl ?_
  refine zg_iload_n C 1 2 rfl dX8_tape_1 rfl ?_
  refine zg_callVI C [.int a0] 5 rfl dX8_tape_2 (tM_isTape hD M a0) rfl (fun _ _ hP _ => zrecv C.2.2.2.2.2.1 hP zn40 rfl rfl) zw1218 zw1215 zw1217 zv55 zw9 oM_isTape (by decide) (Nat.le_of_ble_eq_true rfl) (fun x2 M1 h3 => ?_)
  refine zg_if_ne C 10 8 rfl dX8_tape_5 (by decide) ?_ ?_
  · refine zg_iconst C (-1 : Int32) 9 rfl dX8_tape_8 (by decide) ?_
    exact zg_iret C dX8_tape_9 trivial
  · refine zg_aload_n C 0 11 rfl dX8_tape_10 rfl ?_
    refine zg_iload_n C 2 12 rfl dX8_tape_11 rfl ?_
    refine zg_iconst C (-1 : Int32) 13 rfl dX8_tape_12 (by decide) ?_
    refine zg_iconst C (4 : Int32) 14 rfl dX8_tape_13 (by decide) ?_
    refine zg_callVI C [.int a1, .int (-1 : Int32), .int (4 : Int32)] 17 rfl dX8_tape_14 (tM_in hD M1 a1 (-1 : Int32) (4 : Int32)) rfl (fun _ _ hP _ => zrecv C.2.2.2.2.2.1 hP zn40 rfl rfl) zw969 zw966 zw968 zv19 zw9 oM_in (by decide) (Nat.le_of_ble_eq_true rfl) (fun x5 M4 h6 => ?_)
    refine zg_if_eq C 30 20 rfl dX8_tape_17 (by decide) ?_ ?_
    · refine zg_bipush C (-2 : Int32) 32 rfl dX8_tape_30 (by decide) ?_
      exact zg_iret C dX8_tape_32 trivial
    · refine zg_iload_n C 2 21 rfl dX8_tape_20 rfl ?_
      refine zg_jn (fun j8 => ∀ (M7 : zM), zG p l e R s m args below meth c E zNM A 5 zvI zoT 33 [(0, .ref (zad E 40 0)), (1, .int a0), (2, .int a1), (3, .int a2)] [] M7 (j8 M7 )) (fun M7 => ?_) (fun j8 hj8 => ?_)
      · refine zg_iload_n C 2 34 rfl dX8_tape_33 rfl ?_
        refine zg_jn (fun j10 => ∀ (M9 : zM), zG p l e R s m args below meth c E zNM A 5 zvI zoT 44 [(0, .ref (zad E 40 0)), (1, .int a0), (2, .int a1), (3, .int a2)] [] M9 (j10 M9 )) (fun M9 => ?_) (fun j10 hj10 => ?_)
        · refine zg_aload_n C 0 45 rfl dX8_tape_44 rfl ?_
          refine fgX8_196 C zn40 48 rfl dX8_tape_45 ?_
          refine zg_iload_n C 1 49 rfl dX8_tape_48 rfl ?_
          refine zg_iload_n C 2 50 rfl dX8_tape_49 rfl ?_
          refine zg_iast C 51 rfl dX8_tape_50 zn82 (fun _ _ => rfl) (fun M11 => ?_)
          refine zg_aload_n C 0 52 rfl dX8_tape_51 rfl ?_
          refine fgX8_199 C zn40 55 rfl dX8_tape_52 ?_
          refine zg_iload_n C 1 56 rfl dX8_tape_55 rfl ?_
          refine zg_iload_n C 2 57 rfl dX8_tape_56 rfl ?_
          refine zg_jn (fun j14 => ∀ (M13 : zM) (x12 : Int32), zG p l e R s m args below meth c E zNM A 5 zvI zoT 65 [(0, .ref (zad E 40 0)), (1, .int a0)] [.int x12, .int a0, .ref (zad E 83 0)] M13 (j14 M13 x12)) (fun M13 x12 => ?_) (fun j14 hj14 => ?_)
          · refine zg_iast C 66 rfl dX8_tape_65 zn83 (fun _ _ => rfl) (fun M15 => ?_)
            refine zg_iconst C (0 : Int32) 67 rfl dX8_tape_66 (by decide) ?_
            refine zg_istore C 4 [(4, .int (0 : Int32)), (0, .ref (zad E 40 0)), (1, .int a0)] 69 rfl dX8_tape_67 (by decide) rfl ?_
            refine zg_sub [1, 2, 0] [(0, .ref (zad E 40 0)), (1, .int a0), (4, .int (0 : Int32))] rfl ?_
            refine tM_tape_L69 C hD a0  1000 M15 (0 : Int32)
          · refine zg_if_ge C 64 60 rfl dX8_tape_57 (by decide) ?_ ?_
            · refine zg_iload_n C 3 65 rfl dX8_tape_64 rfl ?_
              refine zg_sub [0, 1] [(0, .ref (zad E 40 0)), (1, .int a0)] rfl ?_
              exact hj14 M11 a2
            · refine zg_iconst C (0 : Int32) 61 rfl dX8_tape_60 (by decide) ?_
              refine zg_goto C 65 dX8_tape_61 (by decide) ?_
              refine zg_sub [0, 1] [(0, .ref (zad E 40 0)), (1, .int a0)] rfl ?_
              exact hj14 M11 (0 : Int32)
        · refine zg_if_lt C 44 37 rfl dX8_tape_34 (by decide) ?_ ?_
          · exact hj10 M7 
          · refine zg_iload_n C 3 38 rfl dX8_tape_37 rfl ?_
            refine zg_if_ge C 44 41 rfl dX8_tape_38 (by decide) ?_ ?_
            · exact hj10 M7 
            · refine zg_bipush C (-14 : Int32) 43 rfl dX8_tape_41 (by decide) ?_
              exact zg_iret C dX8_tape_43 trivial
      · refine zg_if_lt C 33 24 rfl dX8_tape_21 (by decide) ?_ ?_
        · exact hj8 M4 
        · refine zg_iload_n C 3 25 rfl dX8_tape_24 rfl ?_
          refine zg_bipush C (60 : Int32) 27 rfl dX8_tape_25 (by decide) ?_
          refine zg_icmp_le C 33 30 rfl dX8_tape_27 (by decide) ?_ ?_
          · exact hj8 M4 
          · refine zg_bipush C (-2 : Int32) 32 rfl dX8_tape_30 (by decide) ?_
            exact zg_iret C dX8_tape_32 trivial
set_option maxHeartbeats 4000000 in
set_option maxRecDepth 100000 in
theorem tM_item {l : Launch} {E : zE} {A : Nat → Prop} (hD : zD E zNM A) (M : zM) (a0 : Int32) (a1 : Int32) (a2 : Int64) : zCT l yX8_item cX8_item 5 (some .int) 4 E zNM A [.ref (zad E 40 0), .int a0, .int a1, .long a2] M zvI zoT (qM_item  M a0 a1 a2) := by
  refine zCT_of (by decide) hD (by first | decide | exact Nat.le_of_ble_eq_true rfl) (fun p e R s m args below meth c C => ?_)
  have C : zCx p R s m args meth c cX8_item "TwoTrueModel" E zNM A 5 (some .int) 4 := C
  unfold qM_item
  refine zg_sub [0, 1, 2, 3] [(0, .ref (zad E 40 0)), (1, .int a0), (2, .int a1), (3, .long a2)] rfl ?_
  refine zg_aload_n C 0 1 rfl dX8_item_0 rfl ?_
  refine zg_iload_n C 1 2 rfl dX8_item_1 rfl ?_
  refine zg_callVI C [.int a0] 5 rfl dX8_item_2 (tM_isTape hD M a0) rfl (fun _ _ hP _ => zrecv C.2.2.2.2.2.1 hP zn40 rfl rfl) zw1218 zw1215 zw1217 zv55 zw9 oM_isTape (by decide) (Nat.le_of_ble_eq_true rfl) (fun x2 M1 h3 => ?_)
  refine zg_if_ne C 10 8 rfl dX8_item_5 (by decide) ?_ ?_
  · refine zg_iconst C (-1 : Int32) 9 rfl dX8_item_8 (by decide) ?_
    exact zg_iret C dX8_item_9 trivial
  · refine zg_aload_n C 0 11 rfl dX8_item_10 rfl ?_
    refine fgX8_196 C zn40 14 rfl dX8_item_11 ?_
    refine zg_iload_n C 1 15 rfl dX8_item_14 rfl ?_
    refine zg_iald C 16 rfl dX8_item_15 zn82 rfl ?_
    refine zg_if_ge C 22 19 rfl dX8_item_16 (by decide) ?_ ?_
    · refine zg_aload_n C 0 23 rfl dX8_item_22 rfl ?_
      refine zg_iload_n C 2 24 rfl dX8_item_23 rfl ?_
      refine zg_iconst C (0 : Int32) 25 rfl dX8_item_24 (by decide) ?_
      refine zg_aload_n C 0 26 rfl dX8_item_25 rfl ?_
      refine fgX8_199 C zn40 29 rfl dX8_item_26 ?_
      refine zg_iload_n C 1 30 rfl dX8_item_29 rfl ?_
      refine zg_iald C 31 rfl dX8_item_30 zn83 rfl ?_
      refine zg_iconst C (1 : Int32) 32 rfl dX8_item_31 (by decide) ?_
      refine zg_isub C 33 rfl dX8_item_32 ?_
      refine zg_callVI C [.int a1, .int (0 : Int32), .int ((M1.1 83 0 a0.toNatClampNeg) - (1 : Int32))] 36 rfl dX8_item_33 (tM_in hD M1 a1 (0 : Int32) ((M1.1 83 0 a0.toNatClampNeg) - (1 : Int32))) rfl (fun _ _ hP _ => zrecv C.2.2.2.2.2.1 hP zn40 rfl rfl) zw969 zw966 zw968 zv19 zw9 oM_in (by decide) (Nat.le_of_ble_eq_true rfl) (fun x5 M4 h6 => ?_)
      refine zg_if_ne C 42 39 rfl dX8_item_36 (by decide) ?_ ?_
      · refine zg_bipush C (-13 : Int32) 41 rfl dX8_item_39 (by decide) ?_
        exact zg_iret C dX8_item_41 trivial
      · refine zg_aload_n C 0 43 rfl dX8_item_42 rfl ?_
        refine fgX8_202 C zn40 46 rfl dX8_item_43 ?_
        refine zg_bipush C (60 : Int32) 48 rfl dX8_item_46 (by decide) ?_
        refine zg_iload_n C 1 49 rfl dX8_item_48 rfl ?_
        refine zg_imul C 50 rfl dX8_item_49 ?_
        refine zg_iload_n C 2 51 rfl dX8_item_50 rfl ?_
        refine zg_iadd C 52 rfl dX8_item_51 ?_
        refine zg_aload_n C 0 53 rfl dX8_item_52 rfl ?_
        refine zg_aload_n C 0 54 rfl dX8_item_53 rfl ?_
        refine fgX8_196 C zn40 57 rfl dX8_item_54 ?_
        refine zg_iload_n C 1 58 rfl dX8_item_57 rfl ?_
        refine zg_iald C 59 rfl dX8_item_58 zn82 rfl ?_
        refine zg_lload_n C 3 60 rfl dX8_item_59 rfl ?_
        refine zg_callVL C [.int (M4.1 82 0 a0.toNatClampNeg), .long a2] 63 rfl dX8_item_60 (tM_narrow hD M4 (M4.1 82 0 a0.toNatClampNeg) a2) rfl (fun _ _ hP _ => zrecv C.2.2.2.2.2.1 hP zn40 rfl rfl) zw1286 zw1283 zw1285 zv64 zw9 oM_narrow (by decide) (Nat.le_of_ble_eq_true rfl) (fun x8 M7 h9 => ?_)
        refine zg_last C 64 rfl dX8_item_63 zn84 (fun _ _ => rfl) (fun M10 => ?_)
        refine zg_iconst C (1 : Int32) 65 rfl dX8_item_64 (by decide) ?_
        exact zg_iret C dX8_item_65 trivial
    · refine zg_bipush C (-11 : Int32) 21 rfl dX8_item_19 (by decide) ?_
      exact zg_iret C dX8_item_21 trivial
set_option maxHeartbeats 4000000 in
set_option maxRecDepth 100000 in
theorem tM_read {l : Launch} {E : zE} {A : Nat → Prop} (hD : zD E zNM A) (M : zM) (a0 : Int32) (a1 : Int32) : zCT l yX8_read cX8_read 3 (some .long) 4 E zNM A [.ref (zad E 40 0), .int a0, .int a1] M zvL zoT (qM_read  M a0 a1) := by
  refine zCT_of (by decide) hD (by first | decide | exact Nat.le_of_ble_eq_true rfl) (fun p e R s m args below meth c C => ?_)
  have C : zCx p R s m args meth c cX8_read "TwoTrueModel" E zNM A 3 (some .long) 4 := C
  unfold qM_read
  refine zg_sub [0, 1, 2] [(0, .ref (zad E 40 0)), (1, .int a0), (2, .int a1)] rfl ?_
  refine zg_aload_n C 0 1 rfl dX8_read_0 rfl ?_
  refine zg_iload_n C 1 2 rfl dX8_read_1 rfl ?_
  refine zg_callVI C [.int a0] 5 rfl dX8_read_2 (tM_isTape hD M a0) rfl (fun _ _ hP _ => zrecv C.2.2.2.2.2.1 hP zn40 rfl rfl) zw1218 zw1215 zw1217 zv55 zw9 oM_isTape (by decide) (Nat.le_of_ble_eq_true rfl) (fun x2 M1 h3 => ?_)
  refine zg_if_eq C 34 8 rfl dX8_read_5 (by decide) ?_ ?_
  · refine zg_ldc2 C (-9223372036854775808 : Int64) 37 rfl dX8_read_34 zw1190 ?_
    refine zg_goto C 51 dX8_read_37 (by decide) ?_
    exact zg_lret C dX8_read_51 trivial
  · refine zg_aload_n C 0 9 rfl dX8_read_8 rfl ?_
    refine fgX8_196 C zn40 12 rfl dX8_read_9 ?_
    refine zg_iload_n C 1 13 rfl dX8_read_12 rfl ?_
    refine zg_iald C 14 rfl dX8_read_13 zn82 rfl ?_
    refine zg_if_lt C 34 17 rfl dX8_read_14 (by decide) ?_ ?_
    · refine zg_ldc2 C (-9223372036854775808 : Int64) 37 rfl dX8_read_34 zw1190 ?_
      refine zg_goto C 51 dX8_read_37 (by decide) ?_
      exact zg_lret C dX8_read_51 trivial
    · refine zg_aload_n C 0 18 rfl dX8_read_17 rfl ?_
      refine zg_iload_n C 2 19 rfl dX8_read_18 rfl ?_
      refine zg_iconst C (0 : Int32) 20 rfl dX8_read_19 (by decide) ?_
      refine zg_aload_n C 0 21 rfl dX8_read_20 rfl ?_
      refine fgX8_199 C zn40 24 rfl dX8_read_21 ?_
      refine zg_iload_n C 1 25 rfl dX8_read_24 rfl ?_
      refine zg_iald C 26 rfl dX8_read_25 zn83 rfl ?_
      refine zg_iconst C (1 : Int32) 27 rfl dX8_read_26 (by decide) ?_
      refine zg_isub C 28 rfl dX8_read_27 ?_
      refine zg_callVI C [.int a1, .int (0 : Int32), .int ((M1.1 83 0 a0.toNatClampNeg) - (1 : Int32))] 31 rfl dX8_read_28 (tM_in hD M1 a1 (0 : Int32) ((M1.1 83 0 a0.toNatClampNeg) - (1 : Int32))) rfl (fun _ _ hP _ => zrecv C.2.2.2.2.2.1 hP zn40 rfl rfl) zw969 zw966 zw968 zv19 zw9 oM_in (by decide) (Nat.le_of_ble_eq_true rfl) (fun x5 M4 h6 => ?_)
      refine zg_if_ne C 40 34 rfl dX8_read_31 (by decide) ?_ ?_
      · refine zg_ldc2 C (-9223372036854775808 : Int64) 37 rfl dX8_read_34 zw1190 ?_
        refine zg_goto C 51 dX8_read_37 (by decide) ?_
        exact zg_lret C dX8_read_51 trivial
      · refine zg_aload_n C 0 41 rfl dX8_read_40 rfl ?_
        refine fgX8_202 C zn40 44 rfl dX8_read_41 ?_
        refine zg_bipush C (60 : Int32) 46 rfl dX8_read_44 (by decide) ?_
        refine zg_iload_n C 1 47 rfl dX8_read_46 rfl ?_
        refine zg_imul C 48 rfl dX8_read_47 ?_
        refine zg_iload_n C 2 49 rfl dX8_read_48 rfl ?_
        refine zg_iadd C 50 rfl dX8_read_49 ?_
        refine zg_lald C 51 rfl dX8_read_50 zn84 rfl ?_
        exact zg_lret C dX8_read_51 trivial
set_option maxHeartbeats 4000000 in
set_option maxRecDepth 100000 in
theorem tM_shift_L104 {p : Program} {l : Launch} {e : Env} {R : Room} {s : State} {m : MethodId} {args : Array Value} {below : List Frame} {meth : Method} {c : Code} {E : zE} {A : Nat → Prop} (C : zCx p R s m args meth c cX8_shift "TwoTrueModel" E zNM A 7 (some .int) 4) (hD : zD E zNM A) (c1 : Int32) (c2 : Int32) (c3 : Int32) (c4 : Int32) (c5 : Int32) {e138 : zM → Option (Int32 × zM)} (he138 : ∀ (M : zM), zG p l e R s m args below meth c E zNM A 7 zvI zoT 138 [(0, .ref (zad E 40 0)), (3, .int c3), (4, .int c4), (5, .int c5)] [] M (e138 M )) : ∀ (n : Nat) (M : zM) (v6 : Int32), zG p l e R s m args below meth c E zNM A 7 zvI zoT 104 [(0, .ref (zad E 40 0)), (1, .int c1), (2, .int c2), (3, .int c3), (4, .int c4), (5, .int c5), (6, .int v6)] [] M (qM_shift_L104 c1 c2 c3 c4 c5 e138 n M v6) := by
  intro n
  induction n with
  | zero =>
    intro M v6
    exact zg_none
  | succ n ih =>
    intro M v6
    rw [qM_shift_L104]
    refine zg_iload C 6 106 rfl dX8_shift_104 rfl ?_
    refine zg_iload C 5 108 rfl dX8_shift_106 rfl ?_
    refine zg_icmp_ge C 138 111 rfl dX8_shift_108 (by decide) ?_ ?_
    · refine zg_sub [0, 3, 4, 5] [(0, .ref (zad E 40 0)), (3, .int c3), (4, .int c4), (5, .int c5)] rfl ?_
      exact he138 M 
    · refine zg_aload_n C 0 112 rfl dX8_shift_111 rfl ?_
      refine fgX8_206 C zn40 115 rfl dX8_shift_112 ?_
      refine zg_iload C 6 117 rfl dX8_shift_115 rfl ?_
      refine zg_aload_n C 0 118 rfl dX8_shift_117 rfl ?_
      refine fgX8_202 C zn40 121 rfl dX8_shift_118 ?_
      refine zg_bipush C (60 : Int32) 123 rfl dX8_shift_121 (by decide) ?_
      refine zg_iload_n C 1 124 rfl dX8_shift_123 rfl ?_
      refine zg_imul C 125 rfl dX8_shift_124 ?_
      refine zg_iload_n C 2 126 rfl dX8_shift_125 rfl ?_
      refine zg_iadd C 127 rfl dX8_shift_126 ?_
      refine zg_iload C 6 129 rfl dX8_shift_127 rfl ?_
      refine zg_iadd C 130 rfl dX8_shift_129 ?_
      refine zg_lald C 131 rfl dX8_shift_130 zn84 rfl ?_
      refine zg_last C 132 rfl dX8_shift_131 zn85 (fun _ _ => rfl) (fun M7 => ?_)
      refine zg_iinc C 6 (v6 + (1 : Int32)) [(6, .int (v6 + (1 : Int32))), (0, .ref (zad E 40 0)), (1, .int c1), (2, .int c2), (3, .int c3), (4, .int c4), (5, .int c5)] 135 rfl dX8_shift_132 rfl (congrArg (fun z : Int32 => v6 + z) (by decide : Int32.ofInt (1) = (1 : Int32))) (by decide) rfl ?_
      refine zg_goto C 104 dX8_shift_135 (by decide) ?_
      refine zg_sub [1, 2, 3, 4, 5, 6, 0] [(0, .ref (zad E 40 0)), (1, .int c1), (2, .int c2), (3, .int c3), (4, .int c4), (5, .int c5), (6, .int (v6 + (1 : Int32)))] rfl ?_
      exact ih M7 (v6 + (1 : Int32))
set_option maxHeartbeats 4000000 in
set_option maxRecDepth 100000 in
theorem tM_shift_L141 {p : Program} {l : Launch} {e : Env} {R : Room} {s : State} {m : MethodId} {args : Array Value} {below : List Frame} {meth : Method} {c : Code} {E : zE} {A : Nat → Prop} (C : zCx p R s m args meth c cX8_shift "TwoTrueModel" E zNM A 7 (some .int) 4) (hD : zD E zNM A) (c3 : Int32) (c4 : Int32) (c5 : Int32) : ∀ (n : Nat) (M : zM) (v6 : Int32), zG p l e R s m args below meth c E zNM A 7 zvI zoT 141 [(0, .ref (zad E 40 0)), (3, .int c3), (4, .int c4), (5, .int c5), (6, .int v6)] [] M (qM_shift_L141 c3 c4 c5 n M v6) := by
  intro n
  induction n with
  | zero =>
    intro M v6
    exact zg_none
  | succ n ih =>
    intro M v6
    rw [qM_shift_L141]
    refine zg_iload C 4 143 rfl dX8_shift_141 rfl ?_
    refine zg_iload C 3 145 rfl dX8_shift_143 rfl ?_
    refine zg_icmp_ge C 176 148 rfl dX8_shift_145 (by decide) ?_ ?_
    · refine zg_iload C 3 178 rfl dX8_shift_176 rfl ?_
      exact zg_iret C dX8_shift_178 trivial
    · refine zg_aload_n C 0 149 rfl dX8_shift_148 rfl ?_
      refine fgX8_202 C zn40 152 rfl dX8_shift_149 ?_
      refine zg_bipush C (60 : Int32) 154 rfl dX8_shift_152 (by decide) ?_
      refine zg_iload_n C 1 155 rfl dX8_shift_154 rfl ?_
      refine zg_imul C 156 rfl dX8_shift_155 ?_
      refine zg_iload C 2 158 rfl dX8_shift_156 rfl ?_
      refine zg_iadd C 159 rfl dX8_shift_158 ?_
      refine zg_iload C 4 161 rfl dX8_shift_159 rfl ?_
      refine zg_iadd C 162 rfl dX8_shift_161 ?_
      refine zg_aload_n C 0 163 rfl dX8_shift_162 rfl ?_
      refine fgX8_206 C zn40 166 rfl dX8_shift_163 ?_
      refine zg_iload C 4 168 rfl dX8_shift_166 rfl ?_
      refine zg_lald C 169 rfl dX8_shift_168 zn85 rfl ?_
      refine zg_last C 170 rfl dX8_shift_169 zn84 (fun _ _ => rfl) (fun M9 => ?_)
      refine zg_iinc C 4 (v6 + (1 : Int32)) [(6, .int (v6 + (1 : Int32))), (0, .ref (zad E 40 0)), (3, .int c3), (4, .int c4), (5, .int c5)] 173 rfl dX8_shift_170 rfl (congrArg (fun z : Int32 => v6 + z) (by decide : Int32.ofInt (1) = (1 : Int32))) (by decide) rfl ?_
      refine zg_goto C 141 dX8_shift_173 (by decide) ?_
      refine zg_sub [1, 2, 3, 4, 0] [(0, .ref (zad E 40 0)), (3, .int c3), (4, .int c4), (5, .int c5), (6, .int (v6 + (1 : Int32)))] rfl ?_
      exact ih M9 (v6 + (1 : Int32))
set_option maxHeartbeats 4000000 in
set_option maxRecDepth 100000 in
theorem tM_shift {l : Launch} {E : zE} {A : Nat → Prop} (hD : zD E zNM A) (M : zM) (a0 : Int32) (a1 : Int32) (a2 : Int32) (a3 : Int32) (a4 : Int32) : zCT l yX8_shift cX8_shift 7 (some .int) 4 E zNM A [.ref (zad E 40 0), .int a0, .int a1, .int a2, .int a3, .int a4] M zvI zoT (qM_shift  M a0 a1 a2 a3 a4) := by
  refine zCT_of (by decide) hD (by first | decide | exact Nat.le_of_ble_eq_true rfl) (fun p e R s m args below meth c C => ?_)
  have C : zCx p R s m args meth c cX8_shift "TwoTrueModel" E zNM A 7 (some .int) 4 := C
  unfold qM_shift
  refine zg_sub [0, 1, 2, 3, 4, 5] [(0, .ref (zad E 40 0)), (1, .int a0), (2, .int a1), (3, .int a2), (4, .int a3), (5, .int a4)] rfl ?_
  refine zg_aload_n C 0 1 rfl dX8_shift_0 rfl ?_
  refine zg_iload_n C 1 2 rfl dX8_shift_1 rfl ?_
  refine zg_callVI C [.int a0] 5 rfl dX8_shift_2 (tM_isTape hD M a0) rfl (fun _ _ hP _ => zrecv C.2.2.2.2.2.1 hP zn40 rfl rfl) zw1218 zw1215 zw1217 zv55 zw9 oM_isTape (by decide) (Nat.le_of_ble_eq_true rfl) (fun x2 M1 h3 => ?_)
  refine zg_if_eq C 16 8 rfl dX8_shift_5 (by decide) ?_ ?_
  · refine zg_iconst C (-1 : Int32) 17 rfl dX8_shift_16 (by decide) ?_
    exact zg_iret C dX8_shift_17 trivial
  · refine zg_aload_n C 0 9 rfl dX8_shift_8 rfl ?_
    refine zg_iload_n C 3 10 rfl dX8_shift_9 rfl ?_
    refine zg_callVI C [.int a2] 13 rfl dX8_shift_10 (tM_isTape hD M1 a2) rfl (fun _ _ hP _ => zrecv C.2.2.2.2.2.1 hP zn40 rfl rfl) zw1218 zw1215 zw1217 zv55 zw9 oM_isTape (by decide) (Nat.le_of_ble_eq_true rfl) (fun x5 M4 h6 => ?_)
    refine zg_if_ne C 18 16 rfl dX8_shift_13 (by decide) ?_ ?_
    · refine zg_iconst C (-1 : Int32) 17 rfl dX8_shift_16 (by decide) ?_
      exact zg_iret C dX8_shift_17 trivial
    · refine zg_aload_n C 0 19 rfl dX8_shift_18 rfl ?_
      refine fgX8_196 C zn40 22 rfl dX8_shift_19 ?_
      refine zg_iload_n C 1 23 rfl dX8_shift_22 rfl ?_
      refine zg_iald C 24 rfl dX8_shift_23 zn82 rfl ?_
      refine zg_if_lt C 36 27 rfl dX8_shift_24 (by decide) ?_ ?_
      · refine zg_bipush C (-11 : Int32) 38 rfl dX8_shift_36 (by decide) ?_
        exact zg_iret C dX8_shift_38 trivial
      · refine zg_aload_n C 0 28 rfl dX8_shift_27 rfl ?_
        refine fgX8_196 C zn40 31 rfl dX8_shift_28 ?_
        refine zg_iload_n C 3 32 rfl dX8_shift_31 rfl ?_
        refine zg_iald C 33 rfl dX8_shift_32 zn82 rfl ?_
        refine zg_if_ge C 39 36 rfl dX8_shift_33 (by decide) ?_ ?_
        · refine zg_aload_n C 0 40 rfl dX8_shift_39 rfl ?_
          refine fgX8_196 C zn40 43 rfl dX8_shift_40 ?_
          refine zg_iload_n C 1 44 rfl dX8_shift_43 rfl ?_
          refine zg_iald C 45 rfl dX8_shift_44 zn82 rfl ?_
          refine zg_aload_n C 0 46 rfl dX8_shift_45 rfl ?_
          refine fgX8_196 C zn40 49 rfl dX8_shift_46 ?_
          refine zg_iload_n C 3 50 rfl dX8_shift_49 rfl ?_
          refine zg_iald C 51 rfl dX8_shift_50 zn82 rfl ?_
          refine zg_icmp_eq C 57 54 rfl dX8_shift_51 (by decide) ?_ ?_
          · refine zg_iload C 5 59 rfl dX8_shift_57 rfl ?_
            refine zg_if_lt C 98 62 rfl dX8_shift_59 (by decide) ?_ ?_
            · refine zg_bipush C (-13 : Int32) 100 rfl dX8_shift_98 (by decide) ?_
              exact zg_iret C dX8_shift_100 trivial
            · refine zg_iload_n C 2 63 rfl dX8_shift_62 rfl ?_
              refine zg_if_lt C 98 66 rfl dX8_shift_63 (by decide) ?_ ?_
              · refine zg_bipush C (-13 : Int32) 100 rfl dX8_shift_98 (by decide) ?_
                exact zg_iret C dX8_shift_100 trivial
              · refine zg_iload C 4 68 rfl dX8_shift_66 rfl ?_
                refine zg_if_lt C 98 71 rfl dX8_shift_68 (by decide) ?_ ?_
                · refine zg_bipush C (-13 : Int32) 100 rfl dX8_shift_98 (by decide) ?_
                  exact zg_iret C dX8_shift_100 trivial
                · refine zg_iload_n C 2 72 rfl dX8_shift_71 rfl ?_
                  refine zg_aload_n C 0 73 rfl dX8_shift_72 rfl ?_
                  refine fgX8_199 C zn40 76 rfl dX8_shift_73 ?_
                  refine zg_iload_n C 1 77 rfl dX8_shift_76 rfl ?_
                  refine zg_iald C 78 rfl dX8_shift_77 zn83 rfl ?_
                  refine zg_iload C 5 80 rfl dX8_shift_78 rfl ?_
                  refine zg_isub C 81 rfl dX8_shift_80 ?_
                  refine zg_icmp_gt C 98 84 rfl dX8_shift_81 (by decide) ?_ ?_
                  · refine zg_bipush C (-13 : Int32) 100 rfl dX8_shift_98 (by decide) ?_
                    exact zg_iret C dX8_shift_100 trivial
                  · refine zg_iload C 4 86 rfl dX8_shift_84 rfl ?_
                    refine zg_aload_n C 0 87 rfl dX8_shift_86 rfl ?_
                    refine fgX8_199 C zn40 90 rfl dX8_shift_87 ?_
                    refine zg_iload_n C 3 91 rfl dX8_shift_90 rfl ?_
                    refine zg_iald C 92 rfl dX8_shift_91 zn83 rfl ?_
                    refine zg_iload C 5 94 rfl dX8_shift_92 rfl ?_
                    refine zg_isub C 95 rfl dX8_shift_94 ?_
                    refine zg_icmp_le C 101 98 rfl dX8_shift_95 (by decide) ?_ ?_
                    · refine zg_iconst C (0 : Int32) 102 rfl dX8_shift_101 (by decide) ?_
                      refine zg_istore C 6 [(6, .int (0 : Int32)), (0, .ref (zad E 40 0)), (1, .int a0), (2, .int a1), (3, .int a2), (4, .int a3), (5, .int a4)] 104 rfl dX8_shift_102 (by decide) rfl ?_
                      refine zg_sub [1, 2, 3, 4, 5, 6, 0] [(0, .ref (zad E 40 0)), (1, .int a0), (2, .int a1), (3, .int a2), (4, .int a3), (5, .int a4), (6, .int (0 : Int32))] rfl ?_
                      refine tM_shift_L104 C hD a0 a1 a2 a3 a4 (fun M8 => ?_) 1000 M4 (0 : Int32)
                      · refine zg_iconst C (0 : Int32) 139 rfl dX8_shift_138 (by decide) ?_
                        refine zg_istore C 6 [(6, .int (0 : Int32)), (0, .ref (zad E 40 0)), (3, .int a2), (4, .int a3), (5, .int a4)] 141 rfl dX8_shift_139 (by decide) rfl ?_
                        refine zg_sub [1, 2, 3, 4, 0] [(0, .ref (zad E 40 0)), (3, .int a2), (4, .int a3), (5, .int a4), (6, .int (0 : Int32))] rfl ?_
                        refine tM_shift_L141 C hD a2 a3 a4  1000 M8 (0 : Int32)
                    · refine zg_bipush C (-13 : Int32) 100 rfl dX8_shift_98 (by decide) ?_
                      exact zg_iret C dX8_shift_100 trivial
          · refine zg_bipush C (-12 : Int32) 56 rfl dX8_shift_54 (by decide) ?_
            exact zg_iret C dX8_shift_56 trivial
        · refine zg_bipush C (-11 : Int32) 38 rfl dX8_shift_36 (by decide) ?_
          exact zg_iret C dX8_shift_38 trivial
set_option maxHeartbeats 4000000 in
set_option maxRecDepth 100000 in
theorem tM_takesHead {l : Launch} {E : zE} {A : Nat → Prop} (hD : zD E zNM A) (M : zM) (a0 : Int32) : zCT l yX8_takesHead cX8_takesHead 2 (some .boolean) 5 E zNM A [.ref (zad E 40 0), .int a0] M zvI zoB (qM_takesHead  M a0) := by
  refine zCT_of (by decide) hD (by first | decide | exact Nat.le_of_ble_eq_true rfl) (fun p e R s m args below meth c C => ?_)
  have C : zCx p R s m args meth c cX8_takesHead "TwoTrueModel" E zNM A 2 (some .boolean) 5 := C
  unfold qM_takesHead
  refine zg_sub [0, 1] [(0, .ref (zad E 40 0)), (1, .int a0)] rfl ?_
  refine zg_aload_n C 0 1 rfl dX8_takesHead_0 rfl ?_
  refine zg_callVI C [] 4 rfl dX8_takesHead_1 (tM_next hD M ) rfl (fun _ _ hP _ => zrecv C.2.2.2.2.2.1 hP zn40 rfl rfl) zw1021 zw1018 zw1020 zv25 zw9 oM_next (by decide) (Nat.le_of_ble_eq_true rfl) (fun x2 M1 h3 => ?_)
  refine zg_if (fun h4 => ?_) (fun h4 => ?_)
  · refine zg_look C (28) 32 dX8_takesHead_4 (by decide) (by rw [zxi h4 (by decide : (111 : Int32).toInt = 111)]; rfl) (by decide) ?_
    refine zg_aload_n C 0 33 rfl dX8_takesHead_32 rfl ?_
    refine fgX8_62 C zn40 36 rfl dX8_takesHead_33 ?_
    refine zg_iload_n C 1 37 rfl dX8_takesHead_36 rfl ?_
    refine zg_iconst C (0 : Int32) 38 rfl dX8_takesHead_37 (by decide) ?_
    refine zg_iast C 39 rfl dX8_takesHead_38 zn51 (fun _ _ => rfl) (fun M5 => ?_)
    refine zg_aload_n C 0 40 rfl dX8_takesHead_39 rfl ?_
    refine zg_iconst C (0 : Int32) 41 rfl dX8_takesHead_40 (by decide) ?_
    refine zg_iconst C (3 : Int32) 42 rfl dX8_takesHead_41 (by decide) ?_
    refine zg_callVI C [.int (0 : Int32), .int (3 : Int32)] 45 rfl dX8_takesHead_42 (tM_takesWord hD M5 (0 : Int32) (3 : Int32)) rfl (fun _ _ hP _ => zrecv C.2.2.2.2.2.1 hP zn40 rfl rfl) zw1025 zw1022 zw1024 zv26 zw9 oM_takesWord (by decide) (Nat.le_of_ble_eq_true rfl) (fun x7 M6 h8 => ?_)
    exact zg_zret C dX8_takesHead_45 h8 h8
  · refine zg_if (fun h9 => ?_) (fun h9 => ?_)
    · refine zg_look C (42) 46 dX8_takesHead_4 (by decide) (by rw [zxi h9 (by decide : (115 : Int32).toInt = 115)]; rfl) (by decide) ?_
      refine zg_aload_n C 0 47 rfl dX8_takesHead_46 rfl ?_
      refine fgX8_62 C zn40 50 rfl dX8_takesHead_47 ?_
      refine zg_iload_n C 1 51 rfl dX8_takesHead_50 rfl ?_
      refine zg_iconst C (1 : Int32) 52 rfl dX8_takesHead_51 (by decide) ?_
      refine zg_iast C 53 rfl dX8_takesHead_52 zn51 (fun _ _ => rfl) (fun M10 => ?_)
      refine zg_aload_n C 0 54 rfl dX8_takesHead_53 rfl ?_
      refine zg_iconst C (3 : Int32) 55 rfl dX8_takesHead_54 (by decide) ?_
      refine zg_iconst C (4 : Int32) 56 rfl dX8_takesHead_55 (by decide) ?_
      refine zg_callVI C [.int (3 : Int32), .int (4 : Int32)] 59 rfl dX8_takesHead_56 (tM_takesWord hD M10 (3 : Int32) (4 : Int32)) rfl (fun _ _ hP _ => zrecv C.2.2.2.2.2.1 hP zn40 rfl rfl) zw1025 zw1022 zw1024 zv26 zw9 oM_takesWord (by decide) (Nat.le_of_ble_eq_true rfl) (fun x12 M11 h13 => ?_)
      exact zg_zret C dX8_takesHead_59 h13 h13
    · refine zg_look C (56) 60 dX8_takesHead_4 (by decide) (by show Op.lookupswitch.offset [(111, 28), (115, 42)] (56) x2.toInt = 56; rw [lv_osw h4 (by decide : (111 : Int32).toInt = 111), lv_osw h9 (by decide : (115 : Int32).toInt = 115)]; rfl) (by decide) ?_
      refine zg_aload_n C 0 61 rfl dX8_takesHead_60 rfl ?_
      refine fgX8_62 C zn40 64 rfl dX8_takesHead_61 ?_
      refine zg_iload_n C 1 65 rfl dX8_takesHead_64 rfl ?_
      refine zg_iconst C (2 : Int32) 66 rfl dX8_takesHead_65 (by decide) ?_
      refine zg_iast C 67 rfl dX8_takesHead_66 zn51 (fun _ _ => rfl) (fun M14 => ?_)
      refine zg_aload_n C 0 68 rfl dX8_takesHead_67 rfl ?_
      refine zg_bipush C (7 : Int32) 70 rfl dX8_takesHead_68 (by decide) ?_
      refine zg_iconst C (5 : Int32) 71 rfl dX8_takesHead_70 (by decide) ?_
      refine zg_callVI C [.int (7 : Int32), .int (5 : Int32)] 74 rfl dX8_takesHead_71 (tM_takesWord hD M14 (7 : Int32) (5 : Int32)) rfl (fun _ _ hP _ => zrecv C.2.2.2.2.2.1 hP zn40 rfl rfl) zw1025 zw1022 zw1024 zv26 zw9 oM_takesWord (by decide) (Nat.le_of_ble_eq_true rfl) (fun x16 M15 h17 => ?_)
      exact zg_zret C dX8_takesHead_74 h17 h17
set_option maxHeartbeats 4000000 in
set_option maxRecDepth 100000 in
theorem tM_takesTest {l : Launch} {E : zE} {A : Nat → Prop} (hD : zD E zNM A) (M : zM) : zCT l yX8_takesTest cX8_takesTest 3 (some .boolean) 5 E zNM A [.ref (zad E 40 0)] M zvI zoB (qM_takesTest  M ) := by
  refine zCT_of (by decide) hD (by first | decide | exact Nat.le_of_ble_eq_true rfl) (fun p e R s m args below meth c C => ?_)
  have C : zCx p R s m args meth c cX8_takesTest "TwoTrueModel" E zNM A 3 (some .boolean) 5 := C
  unfold qM_takesTest
  refine zg_sub [0] [(0, .ref (zad E 40 0))] rfl ?_
  refine zg_aload_n C 0 1 rfl dX8_takesTest_0 rfl ?_
  refine zg_aload_n C 0 2 rfl dX8_takesTest_1 rfl ?_
  refine zg_callVI C [] 5 rfl dX8_takesTest_2 (tM_next hD M ) rfl (fun _ _ hP _ => zrecv C.2.2.2.2.2.1 hP zn40 rfl rfl) zw1021 zw1018 zw1020 zv25 zw9 oM_next (by decide) (Nat.le_of_ble_eq_true rfl) (fun x2 M1 h3 => ?_)
  refine zg_callVI C [.int x2] 8 rfl dX8_takesTest_5 (tM_place hD M1 x2) rfl (fun _ _ hP _ => zrecv C.2.2.2.2.2.1 hP zn40 rfl rfl) zw1049 zw1046 zw1048 zv32 zw9 oM_place (by decide) (Nat.le_of_ble_eq_true rfl) (fun x5 M4 h6 => ?_)
  refine zg_istore_n C 1 [(1, .int x5), (0, .ref (zad E 40 0))] 9 rfl dX8_takesTest_8 rfl (by decide) rfl ?_
  refine zg_iload_n C 0 10 rfl dX8_takesTest_9 rfl ?_
  refine zg_if_ge C 15 13 rfl dX8_takesTest_10 (by decide) ?_ ?_
  · refine zg_aload_n C 1 16 rfl dX8_takesTest_15 rfl ?_
    refine zg_dup C rfl 17 rfl dX8_takesTest_16 ?_
    refine fgX8_50 C zn40 20 rfl dX8_takesTest_17 ?_
    refine zg_iconst C (1 : Int32) 21 rfl dX8_takesTest_20 (by decide) ?_
    refine zg_iadd C 22 rfl dX8_takesTest_21 ?_
    refine fpX8_50 C zn40 25 rfl dX8_takesTest_22 (fun M7 => ?_)
    refine zg_aload_n C 1 26 rfl dX8_takesTest_25 rfl ?_
    refine zg_callVI C [] 29 rfl dX8_takesTest_26 (tM_next hD M7 ) rfl (fun _ _ hP _ => zrecv C.2.2.2.2.2.1 hP zn40 rfl rfl) zw1021 zw1018 zw1020 zv25 zw9 oM_next (by decide) (Nat.le_of_ble_eq_true rfl) (fun x9 M8 h10 => ?_)
    refine zg_istore_n C 2 [(2, .int x9), (1, .int x5), (0, .ref (zad E 40 0))] 30 rfl dX8_takesTest_29 rfl (by decide) rfl ?_
    refine zg_aload_n C 2 31 rfl dX8_takesTest_30 rfl ?_
    refine zg_iload_n C 0 32 rfl dX8_takesTest_31 rfl ?_
    refine zg_bipush C (60 : Int32) 34 rfl dX8_takesTest_32 (by decide) ?_
    refine zg_bipush C (62 : Int32) 36 rfl dX8_takesTest_34 (by decide) ?_
    refine zg_callVI C [.int x9, .int (60 : Int32), .int (62 : Int32)] 39 rfl dX8_takesTest_36 (tM_in hD M8 x9 (60 : Int32) (62 : Int32)) rfl (fun _ _ hP _ => zrecv C.2.2.2.2.2.1 hP zn40 rfl rfl) zw969 zw966 zw968 zv19 zw9 oM_in (by decide) (Nat.le_of_ble_eq_true rfl) (fun x12 M11 h13 => ?_)
    refine zg_if_ne C 44 42 rfl dX8_takesTest_39 (by decide) ?_ ?_
    · refine zg_iconst C (0 : Int32) 43 rfl dX8_takesTest_42 (by decide) ?_
      exact zg_zret C dX8_takesTest_43 rfl rfl
    · refine zg_aload_n C 2 45 rfl dX8_takesTest_44 rfl ?_
      refine zg_dup C rfl 46 rfl dX8_takesTest_45 ?_
      refine fgX8_50 C zn40 49 rfl dX8_takesTest_46 ?_
      refine zg_iconst C (1 : Int32) 50 rfl dX8_takesTest_49 (by decide) ?_
      refine zg_iadd C 51 rfl dX8_takesTest_50 ?_
      refine fpX8_50 C zn40 54 rfl dX8_takesTest_51 (fun M14 => ?_)
      refine zg_aload_n C 2 55 rfl dX8_takesTest_54 rfl ?_
      refine zg_callVI C [] 58 rfl dX8_takesTest_55 (tM_takesNumber hD M14 ) rfl (fun _ _ hP _ => zrecv C.2.2.2.2.2.1 hP zn40 rfl rfl) zw1033 zw1030 zw1032 zv28 zw9 oM_takesNumber (by decide) (Nat.le_of_ble_eq_true rfl) (fun x16 M15 h17 => ?_)
      refine zg_if_ne C 63 61 rfl dX8_takesTest_58 (by decide) ?_ ?_
      · refine zg_iconst C (0 : Int32) 62 rfl dX8_takesTest_61 (by decide) ?_
        exact zg_zret C dX8_takesTest_62 rfl rfl
      · refine zg_aload_n C 2 64 rfl dX8_takesTest_63 rfl ?_
        refine zg_sipush C (1000 : Int32) 67 rfl dX8_takesTest_64 (by decide) ?_
        refine zg_iload_n C 1 68 rfl dX8_takesTest_67 rfl ?_
        refine zg_imul C 69 rfl dX8_takesTest_68 ?_
        refine zg_bipush C (100 : Int32) 71 rfl dX8_takesTest_69 (by decide) ?_
        refine zg_iload_n C 0 72 rfl dX8_takesTest_71 rfl ?_
        refine zg_bipush C (60 : Int32) 74 rfl dX8_takesTest_72 (by decide) ?_
        refine zg_isub C 75 rfl dX8_takesTest_74 ?_
        refine zg_imul C 76 rfl dX8_takesTest_75 ?_
        refine zg_iadd C 77 rfl dX8_takesTest_76 ?_
        refine zg_aload_n C 2 78 rfl dX8_takesTest_77 rfl ?_
        refine fgX8_53 C zn40 81 rfl dX8_takesTest_78 ?_
        refine zg_iadd C 82 rfl dX8_takesTest_81 ?_
        refine zg_callVU C [.int ((((1000 : Int32) * x5) + ((100 : Int32) * (x9 - (60 : Int32)))) + (M15.1 40 0 14))] 85 rfl dX8_takesTest_82 (tM_emits hD M15 ((((1000 : Int32) * x5) + ((100 : Int32) * (x9 - (60 : Int32)))) + (M15.1 40 0 14))) rfl (fun _ _ hP _ => zrecv C.2.2.2.2.2.1 hP zn40 rfl rfl) zw1053 zw1050 zw1052 zv33 zw9 oM_emits (by decide) (Nat.le_of_ble_eq_true rfl) (fun _u M18 h19 => ?_)
        refine zg_aload_n C 2 86 rfl dX8_takesTest_85 rfl ?_
        refine zg_callVU C [] 89 rfl dX8_takesTest_86 (tM_whole hD M18 ) rfl (fun _ _ hP _ => zrecv C.2.2.2.2.2.1 hP zn40 rfl rfl) zw1057 zw1054 zw1056 zv34 zw9 oM_whole (by decide) (Nat.le_of_ble_eq_true rfl) (fun _u M20 h21 => ?_)
        refine zg_iconst C (1 : Int32) 90 rfl dX8_takesTest_89 (by decide) ?_
        exact zg_zret C dX8_takesTest_90 rfl rfl
  · refine zg_iconst C (0 : Int32) 14 rfl dX8_takesTest_13 (by decide) ?_
    exact zg_zret C dX8_takesTest_14 rfl rfl
set_option maxHeartbeats 4000000 in
set_option maxRecDepth 100000 in
theorem tM_doubt {l : Launch} {E : zE} {A : Nat → Prop} (hD : zD E zNM A) (M : zM) (a0 : Int32) (a1 : Int32) (a2 : Int32) : zCT l yX8_doubt cX8_doubt 4 (some .int) 5 E zNM A [.ref (zad E 40 0), .int a0, .int a1, .int a2] M zvI zoT (qM_doubt  M a0 a1 a2) := by
  refine zCT_of (by decide) hD (by first | decide | exact Nat.le_of_ble_eq_true rfl) (fun p e R s m args below meth c C => ?_)
  have C : zCx p R s m args meth c cX8_doubt "TwoTrueModel" E zNM A 4 (some .int) 5 := C
  unfold qM_doubt
  refine zg_sub [0, 1, 2, 3] [(0, .ref (zad E 40 0)), (1, .int a0), (2, .int a1), (3, .int a2)] rfl ?_
  refine zg_aload_n C 0 1 rfl dX8_doubt_0 rfl ?_
  refine zg_iload_n C 1 2 rfl dX8_doubt_1 rfl ?_
  refine zg_callVI C [.int a0] 5 rfl dX8_doubt_2 (tM_isPerson hD M a0) rfl (fun _ _ hP _ => zrecv C.2.2.2.2.2.1 hP zn40 rfl rfl) zw977 zw974 zw976 zv20 zw9 oM_isPerson (by decide) (Nat.le_of_ble_eq_true rfl) (fun x2 M1 h3 => ?_)
  refine zg_if_eq C 26 8 rfl dX8_doubt_5 (by decide) ?_ ?_
  · refine zg_sipush C (-1001 : Int32) 29 rfl dX8_doubt_26 (by decide) ?_
    exact zg_iret C dX8_doubt_29 trivial
  · refine zg_aload_n C 0 9 rfl dX8_doubt_8 rfl ?_
    refine zg_iload_n C 2 10 rfl dX8_doubt_9 rfl ?_
    refine zg_callVI C [.int a1] 13 rfl dX8_doubt_10 (tM_isPerson hD M1 a1) rfl (fun _ _ hP _ => zrecv C.2.2.2.2.2.1 hP zn40 rfl rfl) zw977 zw974 zw976 zv20 zw9 oM_isPerson (by decide) (Nat.le_of_ble_eq_true rfl) (fun x5 M4 h6 => ?_)
    refine zg_if_eq C 26 16 rfl dX8_doubt_13 (by decide) ?_ ?_
    · refine zg_sipush C (-1001 : Int32) 29 rfl dX8_doubt_26 (by decide) ?_
      exact zg_iret C dX8_doubt_29 trivial
    · refine zg_aload_n C 0 17 rfl dX8_doubt_16 rfl ?_
      refine zg_iload_n C 3 18 rfl dX8_doubt_17 rfl ?_
      refine zg_iconst C (0 : Int32) 19 rfl dX8_doubt_18 (by decide) ?_
      refine zg_iconst C (2 : Int32) 20 rfl dX8_doubt_19 (by decide) ?_
      refine zg_callVI C [.int a2, .int (0 : Int32), .int (2 : Int32)] 23 rfl dX8_doubt_20 (tM_in hD M4 a2 (0 : Int32) (2 : Int32)) rfl (fun _ _ hP _ => zrecv C.2.2.2.2.2.1 hP zn40 rfl rfl) zw969 zw966 zw968 zv19 zw9 oM_in (by decide) (Nat.le_of_ble_eq_true rfl) (fun x8 M7 h9 => ?_)
      refine zg_if_ne C 30 26 rfl dX8_doubt_23 (by decide) ?_ ?_
      · refine zg_sipush C (-1001 : Int32) 29 rfl dX8_doubt_26 (by decide) ?_
        exact zg_iret C dX8_doubt_29 trivial
      · refine zg_iload_n C 1 31 rfl dX8_doubt_30 rfl ?_
        refine zg_iload_n C 2 32 rfl dX8_doubt_31 rfl ?_
        refine zg_icmp_ne C 41 35 rfl dX8_doubt_32 (by decide) ?_ ?_
        · refine zg_sipush C (-1002 : Int32) 38 rfl dX8_doubt_35 (by decide) ?_
          refine zg_goto C 48 dX8_doubt_38 (by decide) ?_
          exact zg_iret C dX8_doubt_48 trivial
        · refine zg_aload_n C 0 42 rfl dX8_doubt_41 rfl ?_
          refine zg_iload_n C 1 43 rfl dX8_doubt_42 rfl ?_
          refine zg_iload_n C 2 44 rfl dX8_doubt_43 rfl ?_
          refine zg_iload_n C 3 45 rfl dX8_doubt_44 rfl ?_
          refine zg_callVI C [.int a0, .int a1, .int a2] 48 rfl dX8_doubt_45 (tM_doubtOf hD M7 a0 a1 a2) rfl (fun _ _ hP _ => zrecv C.2.2.2.2.2.1 hP zn40 rfl rfl) zw1085 zw1082 zw1084 zv39 zw9 oM_doubtOf (by decide) (Nat.le_of_ble_eq_true rfl) (fun x11 M10 h12 => ?_)
          exact zg_iret C dX8_doubt_48 trivial
set_option maxHeartbeats 4000000 in
set_option maxRecDepth 100000 in
theorem tM_weightOf {l : Launch} {E : zE} {A : Nat → Prop} (hD : zD E zNM A) (M : zM) (a0 : Int32) (a1 : Int32) (a2 : Int32) : zCT l yX8_weightOf cX8_weightOf 7 (some .int) 5 E zNM A [.ref (zad E 40 0), .int a0, .int a1, .int a2] M zvI zoT (qM_weightOf  M a0 a1 a2) := by
  refine zCT_of (by decide) hD (by first | decide | exact Nat.le_of_ble_eq_true rfl) (fun p e R s m args below meth c C => ?_)
  have C : zCx p R s m args meth c cX8_weightOf "TwoTrueModel" E zNM A 7 (some .int) 5 := C
  unfold qM_weightOf
  refine zg_sub [0, 1, 2, 3] [(0, .ref (zad E 40 0)), (1, .int a0), (2, .int a1), (3, .int a2)] rfl ?_
  refine zg_aload_n C 0 1 rfl dX8_weightOf_0 rfl ?_
  refine zg_iload_n C 1 2 rfl dX8_weightOf_1 rfl ?_
  refine zg_iload_n C 2 3 rfl dX8_weightOf_2 rfl ?_
  refine zg_iload_n C 3 4 rfl dX8_weightOf_3 rfl ?_
  refine zg_callVI C [.int a0, .int a1, .int a2] 7 rfl dX8_weightOf_4 (tM_doubtOf hD M a0 a1 a2) rfl (fun _ _ hP _ => zrecv C.2.2.2.2.2.1 hP zn40 rfl rfl) zw1085 zw1082 zw1084 zv39 zw9 oM_doubtOf (by decide) (Nat.le_of_ble_eq_true rfl) (fun x2 M1 h3 => ?_)
  refine zg_istore C 4 [(4, .int x2), (0, .ref (zad E 40 0)), (1, .int a0), (2, .int a1), (3, .int a2)] 9 rfl dX8_weightOf_7 (by decide) rfl ?_
  refine zg_iload_n C 2 10 rfl dX8_weightOf_9 rfl ?_
  refine zg_aload_n C 1 11 rfl dX8_weightOf_10 rfl ?_
  refine fgX8_102 C zn40 14 rfl dX8_weightOf_11 ?_
  refine zg_icmp_ne C 20 17 rfl dX8_weightOf_14 (by decide) ?_ ?_
  · refine zg_iload C 0 19 rfl dX8_weightOf_17 rfl ?_
    exact zg_iret C dX8_weightOf_19 trivial
  · refine zg_iconst C (2 : Int32) 21 rfl dX8_weightOf_20 (by decide) ?_
    refine zg_aload_n C 1 22 rfl dX8_weightOf_21 rfl ?_
    refine fgX8_32 C zn40 25 rfl dX8_weightOf_22 ?_
    refine zg_iconst C (3 : Int32) 26 rfl dX8_weightOf_25 (by decide) ?_
    refine zg_iload_n C 3 27 rfl dX8_weightOf_26 rfl ?_
    refine zg_imul C 28 rfl dX8_weightOf_27 ?_
    refine zg_aload_n C 1 29 rfl dX8_weightOf_28 rfl ?_
    refine fgX8_35 C zn40 32 rfl dX8_weightOf_29 ?_
    refine zg_iconst C (3 : Int32) 33 rfl dX8_weightOf_32 (by decide) ?_
    refine zg_iload_n C 3 34 rfl dX8_weightOf_33 rfl ?_
    refine zg_imul C 35 rfl dX8_weightOf_34 ?_
    refine zg_iload_n C 4 36 rfl dX8_weightOf_35 rfl ?_
    refine zg_iadd C 37 rfl dX8_weightOf_36 ?_
    refine zg_iald C 38 rfl dX8_weightOf_37 zn47 rfl ?_
    refine zg_iadd C 39 rfl dX8_weightOf_38 ?_
    refine zg_iald C 40 rfl dX8_weightOf_39 zn46 rfl ?_
    refine zg_imul C 41 rfl dX8_weightOf_40 ?_
    refine zg_nmI (fun x4 => ?_)
    refine zg_istore C 5 [(5, .int x4), (4, .int x2), (0, .ref (zad E 40 0)), (1, .int a0), (2, .int a1), (3, .int a2)] 43 rfl dX8_weightOf_41 (by decide) rfl ?_
    refine zg_aload_n C 2 44 rfl dX8_weightOf_43 rfl ?_
    refine zg_callVI C [] 47 rfl dX8_weightOf_44 (tM_handsNow hD M1 ) rfl (fun _ _ hP _ => zrecv C.2.2.2.2.2.1 hP zn40 rfl rfl) zw1069 zw1066 zw1068 zv36 zw9 oM_handsNow (by decide) (Nat.le_of_ble_eq_true rfl) (fun x6 M5 h7 => ?_)
    refine zg_aload_n C 2 48 rfl dX8_weightOf_47 rfl ?_
    refine fgX8_96 C zn40 51 rfl dX8_weightOf_48 ?_
    refine zg_iload_n C 5 52 rfl dX8_weightOf_51 rfl ?_
    refine zg_iald C 53 rfl dX8_weightOf_52 zn59 rfl ?_
    refine zg_imul C 54 rfl dX8_weightOf_53 ?_
    refine zg_nmI (fun x8 => ?_)
    refine zg_istore C 6 [(6, .int x8), (5, .int x4), (4, .int x2), (0, .ref (zad E 40 0)), (1, .int a0), (2, .int a1), (3, .int a2)] 56 rfl dX8_weightOf_54 (by decide) rfl ?_
    refine zg_aload_n C 3 57 rfl dX8_weightOf_56 rfl ?_
    refine fgX8_16 C zn40 60 rfl dX8_weightOf_57 ?_
    refine zg_iload_n C 4 61 rfl dX8_weightOf_60 rfl ?_
    refine zg_iald C 62 rfl dX8_weightOf_61 zn41 rfl ?_
    refine zg_nmI (fun x9 => ?_)
    refine zg_if (fun h10 => ?_) (fun h10 => ?_)
    · refine zg_tabIn C 1 (38) 100 dX8_weightOf_62 (zxi h10 (by decide)) (by decide) (by decide) rfl (by decide) ?_
      refine zg_iload C 2 102 rfl dX8_weightOf_100 rfl ?_
      refine zg_iload C 1 104 rfl dX8_weightOf_102 rfl ?_
      refine zg_iadd C 105 rfl dX8_weightOf_104 ?_
      exact zg_iret C dX8_weightOf_105 trivial
    · refine zg_if (fun h11 => ?_) (fun h11 => ?_)
      · refine zg_tabIn C 2 (44) 106 dX8_weightOf_62 (zxi h11 (by decide)) (by decide) (by decide) rfl (by decide) ?_
        refine zg_iload C 2 108 rfl dX8_weightOf_106 rfl ?_
        refine zg_iload C 0 110 rfl dX8_weightOf_108 rfl ?_
        refine zg_iadd C 111 rfl dX8_weightOf_110 ?_
        exact zg_iret C dX8_weightOf_111 trivial
      · refine zg_if (fun h12 => ?_) (fun h12 => ?_)
        · refine zg_tabIn C 3 (50) 112 dX8_weightOf_62 (zxi h12 (by decide)) (by decide) (by decide) rfl (by decide) ?_
          refine zg_iload C 2 114 rfl dX8_weightOf_112 rfl ?_
          refine zg_aload_n C 3 115 rfl dX8_weightOf_114 rfl ?_
          refine zg_iload_n C 4 116 rfl dX8_weightOf_115 rfl ?_
          refine zg_iload_n C 5 117 rfl dX8_weightOf_116 rfl ?_
          refine zg_iload_n C 6 118 rfl dX8_weightOf_117 rfl ?_
          refine zg_callVI C [.int a0, .int a1, .int a2] 121 rfl dX8_weightOf_118 (tM_friendly hD M5 a0 a1 a2) rfl (fun _ _ hP _ => zrecv C.2.2.2.2.2.1 hP zn40 rfl rfl) zw1125 zw1122 zw1124 zv48 zw9 oM_friendly (by decide) (Nat.le_of_ble_eq_true rfl) (fun x14 M13 h15 => ?_)
          refine zg_iadd C 122 rfl dX8_weightOf_121 ?_
          exact zg_iret C dX8_weightOf_122 trivial
        · refine zg_if (fun h16 => ?_) (fun h16 => ?_)
          · refine zg_tabIn C 4 (61) 123 dX8_weightOf_62 (zxi h16 (by decide)) (by decide) (by decide) rfl (by decide) ?_
            refine zg_iload C 2 125 rfl dX8_weightOf_123 rfl ?_
            refine zg_iload C 1 127 rfl dX8_weightOf_125 rfl ?_
            refine zg_iadd C 128 rfl dX8_weightOf_127 ?_
            refine zg_iload_n C 6 129 rfl dX8_weightOf_128 rfl ?_
            refine zg_iconst C (2 : Int32) 130 rfl dX8_weightOf_129 (by decide) ?_
            refine zg_icmp_ne C 138 133 rfl dX8_weightOf_130 (by decide) ?_ ?_
            · refine zg_bipush C (30 : Int32) 135 rfl dX8_weightOf_133 (by decide) ?_
              refine zg_goto C 139 dX8_weightOf_135 (by decide) ?_
              refine zg_iadd C 140 rfl dX8_weightOf_139 ?_
              exact zg_iret C dX8_weightOf_140 trivial
            · refine zg_iconst C (0 : Int32) 139 rfl dX8_weightOf_138 (by decide) ?_
              refine zg_iadd C 140 rfl dX8_weightOf_139 ?_
              exact zg_iret C dX8_weightOf_140 trivial
          · refine zg_if (fun h17 => ?_) (fun h17 => ?_)
            · refine zg_tabIn C 5 (79) 141 dX8_weightOf_62 (zxi h17 (by decide)) (by decide) (by decide) rfl (by decide) ?_
              refine zg_aload_n C 3 142 rfl dX8_weightOf_141 rfl ?_
              refine fgX8_96 C zn40 145 rfl dX8_weightOf_142 ?_
              refine zg_iconst C (0 : Int32) 146 rfl dX8_weightOf_145 (by decide) ?_
              refine zg_iald C 147 rfl dX8_weightOf_146 zn59 rfl ?_
              refine zg_aload_n C 3 148 rfl dX8_weightOf_147 rfl ?_
              refine fgX8_96 C zn40 151 rfl dX8_weightOf_148 ?_
              refine zg_iconst C (1 : Int32) 152 rfl dX8_weightOf_151 (by decide) ?_
              refine zg_iald C 153 rfl dX8_weightOf_152 zn59 rfl ?_
              refine zg_iadd C 154 rfl dX8_weightOf_153 ?_
              refine zg_aload_n C 3 155 rfl dX8_weightOf_154 rfl ?_
              refine fgX8_96 C zn40 158 rfl dX8_weightOf_155 ?_
              refine zg_iconst C (2 : Int32) 159 rfl dX8_weightOf_158 (by decide) ?_
              refine zg_iald C 160 rfl dX8_weightOf_159 zn59 rfl ?_
              refine zg_iadd C 161 rfl dX8_weightOf_160 ?_
              refine zg_if_le C 169 164 rfl dX8_weightOf_161 (by decide) ?_ ?_
              · refine zg_iload C 2 171 rfl dX8_weightOf_169 rfl ?_
                exact zg_iret C dX8_weightOf_171 trivial
              · refine zg_iload C 0 166 rfl dX8_weightOf_164 rfl ?_
                refine zg_goto C 171 dX8_weightOf_166 (by decide) ?_
                exact zg_iret C dX8_weightOf_171 trivial
            · refine zg_if (fun h18 => ?_) (fun h18 => ?_)
              · refine zg_tabIn C 6 (110) 172 dX8_weightOf_62 (zxi h18 (by decide)) (by decide) (by decide) rfl (by decide) ?_
                refine zg_iload C 2 174 rfl dX8_weightOf_172 rfl ?_
                refine zg_aload_n C 3 175 rfl dX8_weightOf_174 rfl ?_
                refine zg_iload_n C 4 176 rfl dX8_weightOf_175 rfl ?_
                refine zg_iload_n C 5 177 rfl dX8_weightOf_176 rfl ?_
                refine zg_iload_n C 6 178 rfl dX8_weightOf_177 rfl ?_
                refine zg_callVI C [.int a0, .int a1, .int a2] 181 rfl dX8_weightOf_178 (tM_friendly hD M5 a0 a1 a2) rfl (fun _ _ hP _ => zrecv C.2.2.2.2.2.1 hP zn40 rfl rfl) zw1125 zw1122 zw1124 zv48 zw9 oM_friendly (by decide) (Nat.le_of_ble_eq_true rfl) (fun x20 M19 h21 => ?_)
                refine zg_iadd C 182 rfl dX8_weightOf_181 ?_
                refine zg_iload_n C 6 183 rfl dX8_weightOf_182 rfl ?_
                refine zg_aload_n C 3 184 rfl dX8_weightOf_183 rfl ?_
                refine fgX8_38 C zn40 187 rfl dX8_weightOf_184 ?_
                refine zg_iconst C (4 : Int32) 188 rfl dX8_weightOf_187 (by decide) ?_
                refine zg_iload_n C 4 189 rfl dX8_weightOf_188 rfl ?_
                refine zg_imul C 190 rfl dX8_weightOf_189 ?_
                refine zg_aload_n C 3 191 rfl dX8_weightOf_190 rfl ?_
                refine fgX8_13 C zn40 194 rfl dX8_weightOf_191 ?_
                refine zg_iconst C (4 : Int32) 195 rfl dX8_weightOf_194 (by decide) ?_
                refine zg_iremK C 196 rfl dX8_weightOf_195 (by decide) ?_
                refine zg_iadd C 197 rfl dX8_weightOf_196 ?_
                refine zg_iald C 198 rfl dX8_weightOf_197 zn48 rfl ?_
                refine zg_icmp_ne C 206 201 rfl dX8_weightOf_198 (by decide) ?_ ?_
                · refine zg_bipush C (40 : Int32) 203 rfl dX8_weightOf_201 (by decide) ?_
                  refine zg_goto C 207 dX8_weightOf_203 (by decide) ?_
                  refine zg_iadd C 208 rfl dX8_weightOf_207 ?_
                  exact zg_iret C dX8_weightOf_208 trivial
                · refine zg_iconst C (0 : Int32) 207 rfl dX8_weightOf_206 (by decide) ?_
                  refine zg_iadd C 208 rfl dX8_weightOf_207 ?_
                  exact zg_iret C dX8_weightOf_208 trivial
              · refine zg_tabOut C 209 dX8_weightOf_62 (by have gh10 := zxn h10 (by decide : (1 : Int32).toInt = 1); have gh11 := zxn h11 (by decide : (2 : Int32).toInt = 2); have gh12 := zxn h12 (by decide : (3 : Int32).toInt = 3); have gh16 := zxn h16 (by decide : (4 : Int32).toInt = 4); have gh17 := zxn h17 (by decide : (5 : Int32).toInt = 5); have gh18 := zxn h18 (by decide : (6 : Int32).toInt = 6); omega) (by decide) ?_
                refine zg_iload C 2 211 rfl dX8_weightOf_209 rfl ?_
                exact zg_iret C dX8_weightOf_211 trivial
set_option maxHeartbeats 4000000 in
set_option maxRecDepth 100000 in
theorem tM_guestGuesses {l : Launch} {E : zE} {A : Nat → Prop} (hD : zD E zNM A) (M : zM) (a0 : Int32) (a1 : Int32) : zCT l yX8_guestGuesses cX8_guestGuesses 3 (some .int) 5 E zNM A [.ref (zad E 40 0), .int a0, .int a1] M zvI zoT (qM_guestGuesses  M a0 a1) := by
  refine zCT_of (by decide) hD (by first | decide | exact Nat.le_of_ble_eq_true rfl) (fun p e R s m args below meth c C => ?_)
  have C : zCx p R s m args meth c cX8_guestGuesses "TwoTrueModel" E zNM A 3 (some .int) 5 := C
  unfold qM_guestGuesses
  refine zg_sub [0, 1, 2] [(0, .ref (zad E 40 0)), (1, .int a0), (2, .int a1)] rfl ?_
  refine zg_aload_n C 0 1 rfl dX8_guestGuesses_0 rfl ?_
  refine zg_bipush C (11 : Int32) 3 rfl dX8_guestGuesses_1 (by decide) ?_
  refine zg_callVU C [.int (11 : Int32)] 6 rfl dX8_guestGuesses_3 (tM_body hD M (11 : Int32)) rfl (fun _ _ hP _ => zrecv C.2.2.2.2.2.1 hP zn40 rfl rfl) zw1238 zw1235 zw1237 zv57 zw9 oM_body (by decide) (Nat.le_of_ble_eq_true rfl) (fun _u M1 h2 => ?_)
  refine zg_aload_n C 0 7 rfl dX8_guestGuesses_6 rfl ?_
  refine zg_iload_n C 1 8 rfl dX8_guestGuesses_7 rfl ?_
  refine zg_iload_n C 2 9 rfl dX8_guestGuesses_8 rfl ?_
  refine zg_callVI C [.int a0, .int a1] 12 rfl dX8_guestGuesses_9 (tM_doubtsAct hD M1 a0 a1) rfl (fun _ _ hP _ => zrecv C.2.2.2.2.2.1 hP zn40 rfl rfl) zw1234 zw1231 zw1233 zv56 zw9 oM_doubtsAct (by decide) (Nat.le_of_ble_eq_true rfl) (fun x4 M3 h5 => ?_)
  refine zg_aload_n C 0 13 rfl dX8_guestGuesses_12 rfl ?_
  refine fgX8_20 C zn40 16 rfl dX8_guestGuesses_13 ?_
  refine zg_iload_n C 1 17 rfl dX8_guestGuesses_16 rfl ?_
  refine zg_iald C 18 rfl dX8_guestGuesses_17 zn42 rfl ?_
  refine zg_isub C 19 rfl dX8_guestGuesses_18 ?_
  exact zg_iret C dX8_guestGuesses_19 trivial
set_option maxHeartbeats 4000000 in
set_option maxRecDepth 100000 in
theorem tM_takesE_L22 {p : Program} {l : Launch} {e : Env} {R : Room} {s : State} {m : MethodId} {args : Array Value} {below : List Frame} {meth : Method} {c : Code} {E : zE} {A : Nat → Prop} (C : zCx p R s m args meth c cX8_takesE "TwoTrueModel" E zNM A 4 (some .boolean) 6) (hD : zD E zNM A) (c1 : Int32) : ∀ (n : Nat) (M : zM) (v2 : Int32), zG p l e R s m args below meth c E zNM A 4 zvI zoB 22 [(0, .ref (zad E 40 0)), (1, .int c1), (2, .int v2)] [] M (qM_takesE_L22 c1 n M v2) := by
  intro n
  induction n with
  | zero =>
    intro M v2
    exact zg_none
  | succ n ih =>
    intro M v2
    rw [qM_takesE_L22]
    refine zg_aload_n C 0 23 rfl dX8_takesE_22 rfl ?_
    refine zg_callVI C [] 26 rfl dX8_takesE_23 (tM_next hD M ) rfl (fun _ _ hP _ => zrecv C.2.2.2.2.2.1 hP zn40 rfl rfl) zw1021 zw1018 zw1020 zv25 zw9 oM_next (by decide) (Nat.le_of_ble_eq_true rfl) (fun x5 M4 h6 => ?_)
    refine zg_istore_n C 3 [(3, .int x5), (0, .ref (zad E 40 0)), (1, .int c1), (2, .int v2)] 27 rfl dX8_takesE_26 rfl (by decide) rfl ?_
    refine zg_iload_n C 3 28 rfl dX8_takesE_27 rfl ?_
    refine zg_if_eq C 110 31 rfl dX8_takesE_28 (by decide) ?_ ?_
    · refine zg_iload_n C 0 111 rfl dX8_takesE_110 rfl ?_
      refine zg_bipush C (38 : Int32) 113 rfl dX8_takesE_111 (by decide) ?_
      refine zg_jn (fun j8 => ∀ (M7 : zM), zG p l e R s m args below meth c E zNM A 4 zvI zoB 122 [(0, .ref (zad E 40 0)), (1, .int c1), (3, .int x5)] [] M7 (j8 M7 )) (fun M7 => ?_) (fun j8 hj8 => ?_)
      · refine zg_aload_n C 0 123 rfl dX8_takesE_122 rfl ?_
        refine zg_iload_n C 2 124 rfl dX8_takesE_123 rfl ?_
        refine zg_callVU C [.int x5] 127 rfl dX8_takesE_124 (tM_settle hD M7 x5) rfl (fun _ _ hP _ => zrecv C.2.2.2.2.2.1 hP zn40 rfl rfl) zw1061 zw1058 zw1060 zv35 zw9 oM_settle (by decide) (Nat.le_of_ble_eq_true rfl) (fun _u M9 h10 => ?_)
        refine zg_aload_n C 0 128 rfl dX8_takesE_127 rfl ?_
        refine fgX8_77 C zn40 131 rfl dX8_takesE_128 ?_
        refine zg_aload_n C 0 132 rfl dX8_takesE_131 rfl ?_
        refine fgX8_83 C zn40 135 rfl dX8_takesE_132 ?_
        refine zg_iload_n C 2 136 rfl dX8_takesE_135 rfl ?_
        refine zg_iast C 137 rfl dX8_takesE_136 zn56 (fun _ _ => rfl) (fun M11 => ?_)
        refine zg_aload_n C 0 138 rfl dX8_takesE_137 rfl ?_
        refine zg_dup C rfl 139 rfl dX8_takesE_138 ?_
        refine fgX8_83 C zn40 142 rfl dX8_takesE_139 ?_
        refine zg_iconst C (1 : Int32) 143 rfl dX8_takesE_142 (by decide) ?_
        refine zg_iadd C 144 rfl dX8_takesE_143 ?_
        refine fpX8_83 C zn40 147 rfl dX8_takesE_144 (fun M12 => ?_)
        refine zg_iconst C (1 : Int32) 148 rfl dX8_takesE_147 (by decide) ?_
        refine zg_istore_n C 2 [(2, .int (1 : Int32)), (0, .ref (zad E 40 0)), (1, .int c1), (3, .int x5)] 149 rfl dX8_takesE_148 rfl (by decide) rfl ?_
        refine zg_aload_n C 1 150 rfl dX8_takesE_149 rfl ?_
        refine zg_dup C rfl 151 rfl dX8_takesE_150 ?_
        refine fgX8_50 C zn40 154 rfl dX8_takesE_151 ?_
        refine zg_iconst C (1 : Int32) 155 rfl dX8_takesE_154 (by decide) ?_
        refine zg_iadd C 156 rfl dX8_takesE_155 ?_
        refine fpX8_50 C zn40 159 rfl dX8_takesE_156 (fun M13 => ?_)
        refine zg_goto C 22 dX8_takesE_159 (by decide) ?_
        refine zg_sub [1, 2, 0] [(0, .ref (zad E 40 0)), (1, .int c1), (2, .int (1 : Int32))] rfl ?_
        exact ih M13 (1 : Int32)
      · refine zg_icmp_eq C 122 116 rfl dX8_takesE_113 (by decide) ?_ ?_
        · refine zg_sub [1, 2, 0] [(0, .ref (zad E 40 0)), (1, .int c1), (3, .int x5)] rfl ?_
          exact hj8 M4 
        · refine zg_iload_n C 0 117 rfl dX8_takesE_116 rfl ?_
          refine zg_bipush C (124 : Int32) 119 rfl dX8_takesE_117 (by decide) ?_
          refine zg_icmp_ne C 162 122 rfl dX8_takesE_119 (by decide) ?_ ?_
          · refine zg_sub [1, 2, 0] [(0, .ref (zad E 40 0)), (1, .int c1), (3, .int x5)] rfl ?_
            exact hj8 M4 
          · refine zg_aload_n C 1 163 rfl dX8_takesE_162 rfl ?_
            refine zg_bipush C (124 : Int32) 165 rfl dX8_takesE_163 (by decide) ?_
            refine zg_callVU C [.int (124 : Int32)] 168 rfl dX8_takesE_165 (tM_settle hD M4 (124 : Int32)) rfl (fun _ _ hP _ => zrecv C.2.2.2.2.2.1 hP zn40 rfl rfl) zw1061 zw1058 zw1060 zv35 zw9 oM_settle (by decide) (Nat.le_of_ble_eq_true rfl) (fun _u M14 h15 => ?_)
            refine zg_aload_n C 1 169 rfl dX8_takesE_168 rfl ?_
            refine fgX8_71 C zn40 172 rfl dX8_takesE_169 ?_
            refine zg_iload_n C 2 173 rfl dX8_takesE_172 rfl ?_
            refine zg_aload_n C 1 174 rfl dX8_takesE_173 rfl ?_
            refine fgX8_80 C zn40 177 rfl dX8_takesE_174 ?_
            refine zg_iast C 178 rfl dX8_takesE_177 zn54 (fun _ _ => rfl) (fun M16 => ?_)
            refine zg_aload_n C 1 179 rfl dX8_takesE_178 rfl ?_
            refine fgX8_83 C zn40 182 rfl dX8_takesE_179 ?_
            refine zg_if_ne C 187 185 rfl dX8_takesE_182 (by decide) ?_ ?_
            · refine zg_iconst C (1 : Int32) 186 rfl dX8_takesE_185 (by decide) ?_
              exact zg_zret C dX8_takesE_186 rfl rfl
            · refine zg_iload_n C 0 188 rfl dX8_takesE_187 rfl ?_
              refine zg_bipush C (41 : Int32) 190 rfl dX8_takesE_188 (by decide) ?_
              refine zg_icmp_eq C 195 193 rfl dX8_takesE_190 (by decide) ?_ ?_
              · refine zg_aload_n C 1 196 rfl dX8_takesE_195 rfl ?_
                refine zg_dup C rfl 197 rfl dX8_takesE_196 ?_
                refine fgX8_83 C zn40 200 rfl dX8_takesE_197 ?_
                refine zg_iconst C (1 : Int32) 201 rfl dX8_takesE_200 (by decide) ?_
                refine zg_isub C 202 rfl dX8_takesE_201 ?_
                refine fpX8_83 C zn40 205 rfl dX8_takesE_202 (fun M17 => ?_)
                refine zg_aload_n C 1 206 rfl dX8_takesE_205 rfl ?_
                refine zg_dup C rfl 207 rfl dX8_takesE_206 ?_
                refine fgX8_86 C zn40 210 rfl dX8_takesE_207 ?_
                refine zg_iconst C (1 : Int32) 211 rfl dX8_takesE_210 (by decide) ?_
                refine zg_isub C 212 rfl dX8_takesE_211 ?_
                refine fpX8_86 C zn40 215 rfl dX8_takesE_212 (fun M18 => ?_)
                refine zg_aload_n C 1 216 rfl dX8_takesE_215 rfl ?_
                refine zg_dup C rfl 217 rfl dX8_takesE_216 ?_
                refine fgX8_50 C zn40 220 rfl dX8_takesE_217 ?_
                refine zg_iconst C (1 : Int32) 221 rfl dX8_takesE_220 (by decide) ?_
                refine zg_iadd C 222 rfl dX8_takesE_221 ?_
                refine fpX8_50 C zn40 225 rfl dX8_takesE_222 (fun M19 => ?_)
                refine zg_aload_n C 1 226 rfl dX8_takesE_225 rfl ?_
                refine zg_callVU C [] 229 rfl dX8_takesE_226 (tM_whole hD M19 ) rfl (fun _ _ hP _ => zrecv C.2.2.2.2.2.1 hP zn40 rfl rfl) zw1057 zw1054 zw1056 zv34 zw9 oM_whole (by decide) (Nat.le_of_ble_eq_true rfl) (fun _u M20 h21 => ?_)
                refine zg_goto C 22 dX8_takesE_229 (by decide) ?_
                refine zg_sub [1, 2, 3] [(0, .ref (zad E 40 0)), (1, .int c1), (2, .int v2)] rfl ?_
                exact ih M20 v2
              · refine zg_iconst C (0 : Int32) 194 rfl dX8_takesE_193 (by decide) ?_
                exact zg_zret C dX8_takesE_194 rfl rfl
    · refine zg_iload_n C 0 32 rfl dX8_takesE_31 rfl ?_
      refine zg_bipush C (33 : Int32) 34 rfl dX8_takesE_32 (by decide) ?_
      refine zg_jn (fun j23 => ∀ (M22 : zM), zG p l e R s m args below meth c E zNM A 4 zvI zoB 43 [(0, .ref (zad E 40 0)), (1, .int c1), (2, .int v2), (3, .int x5)] [] M22 (j23 M22 )) (fun M22 => ?_) (fun j23 hj23 => ?_)
      · refine zg_aload_n C 0 44 rfl dX8_takesE_43 rfl ?_
        refine fgX8_86 C zn40 47 rfl dX8_takesE_44 ?_
        refine zg_iconst C (4 : Int32) 48 rfl dX8_takesE_47 (by decide) ?_
        refine zg_icmp_ne C 53 51 rfl dX8_takesE_48 (by decide) ?_ ?_
        · refine zg_iconst C (0 : Int32) 52 rfl dX8_takesE_51 (by decide) ?_
          exact zg_zret C dX8_takesE_52 rfl rfl
        · refine zg_aload_n C 0 54 rfl dX8_takesE_53 rfl ?_
          refine zg_dup C rfl 55 rfl dX8_takesE_54 ?_
          refine fgX8_86 C zn40 58 rfl dX8_takesE_55 ?_
          refine zg_iconst C (1 : Int32) 59 rfl dX8_takesE_58 (by decide) ?_
          refine zg_iadd C 60 rfl dX8_takesE_59 ?_
          refine fpX8_86 C zn40 63 rfl dX8_takesE_60 (fun M24 => ?_)
          refine zg_aload_n C 0 64 rfl dX8_takesE_63 rfl ?_
          refine fgX8_77 C zn40 67 rfl dX8_takesE_64 ?_
          refine zg_aload_n C 0 68 rfl dX8_takesE_67 rfl ?_
          refine fgX8_83 C zn40 71 rfl dX8_takesE_68 ?_
          refine zg_iload_n C 3 72 rfl dX8_takesE_71 rfl ?_
          refine zg_iast C 73 rfl dX8_takesE_72 zn56 (fun _ _ => rfl) (fun M25 => ?_)
          refine zg_aload_n C 0 74 rfl dX8_takesE_73 rfl ?_
          refine zg_dup C rfl 75 rfl dX8_takesE_74 ?_
          refine fgX8_83 C zn40 78 rfl dX8_takesE_75 ?_
          refine zg_iconst C (1 : Int32) 79 rfl dX8_takesE_78 (by decide) ?_
          refine zg_iadd C 80 rfl dX8_takesE_79 ?_
          refine fpX8_83 C zn40 83 rfl dX8_takesE_80 (fun M26 => ?_)
          refine zg_aload_n C 0 84 rfl dX8_takesE_83 rfl ?_
          refine zg_dup C rfl 85 rfl dX8_takesE_84 ?_
          refine fgX8_50 C zn40 88 rfl dX8_takesE_85 ?_
          refine zg_iconst C (1 : Int32) 89 rfl dX8_takesE_88 (by decide) ?_
          refine zg_iadd C 90 rfl dX8_takesE_89 ?_
          refine fpX8_50 C zn40 93 rfl dX8_takesE_90 (fun M27 => ?_)
          refine zg_goto C 22 dX8_takesE_93 (by decide) ?_
          refine zg_sub [0, 1, 2] [(0, .ref (zad E 40 0)), (1, .int c1), (2, .int v2)] rfl ?_
          exact ih M27 v2
      · refine zg_icmp_eq C 43 37 rfl dX8_takesE_34 (by decide) ?_ ?_
        · refine zg_sub [1, 2, 3, 0] [(0, .ref (zad E 40 0)), (1, .int c1), (2, .int v2), (3, .int x5)] rfl ?_
          exact hj23 M4 
        · refine zg_iload_n C 0 38 rfl dX8_takesE_37 rfl ?_
          refine zg_bipush C (40 : Int32) 40 rfl dX8_takesE_38 (by decide) ?_
          refine zg_icmp_ne C 96 43 rfl dX8_takesE_40 (by decide) ?_ ?_
          · refine zg_sub [1, 2, 3, 0] [(0, .ref (zad E 40 0)), (1, .int c1), (2, .int v2), (3, .int x5)] rfl ?_
            exact hj23 M4 
          · refine zg_aload_n C 1 97 rfl dX8_takesE_96 rfl ?_
            refine zg_callVI C [] 100 rfl dX8_takesE_97 (tM_takesTest hD M4 ) rfl (fun _ _ hP _ => zrecv C.2.2.2.2.2.1 hP zn40 rfl rfl) zw1045 zw1042 zw1044 zv31 zw9 oM_takesTest (by decide) (Nat.le_of_ble_eq_true rfl) (fun x29 M28 h30 => ?_)
            refine zg_if_eq C 108 103 rfl dX8_takesE_100 (by decide) ?_ ?_
            · refine zg_iconst C (0 : Int32) 109 rfl dX8_takesE_108 (by decide) ?_
              exact zg_zret C dX8_takesE_109 rfl rfl
            · refine zg_iconst C (0 : Int32) 104 rfl dX8_takesE_103 (by decide) ?_
              refine zg_istore_n C 2 [(2, .int (0 : Int32)), (3, .int x5), (0, .ref (zad E 40 0)), (1, .int c1)] 105 rfl dX8_takesE_104 rfl (by decide) rfl ?_
              refine zg_goto C 22 dX8_takesE_105 (by decide) ?_
              refine zg_sub [2, 3, 0] [(0, .ref (zad E 40 0)), (1, .int c1), (2, .int (0 : Int32))] rfl ?_
              exact ih M28 (0 : Int32)
set_option maxHeartbeats 4000000 in
set_option maxRecDepth 100000 in
theorem tM_takesE {l : Launch} {E : zE} {A : Nat → Prop} (hD : zD E zNM A) (M : zM) (a0 : Int32) : zCT l yX8_takesE cX8_takesE 4 (some .boolean) 6 E zNM A [.ref (zad E 40 0), .int a0] M zvI zoB (qM_takesE  M a0) := by
  refine zCT_of (by decide) hD (by first | decide | exact Nat.le_of_ble_eq_true rfl) (fun p e R s m args below meth c C => ?_)
  have C : zCx p R s m args meth c cX8_takesE "TwoTrueModel" E zNM A 4 (some .boolean) 6 := C
  unfold qM_takesE
  refine zg_sub [0, 1] [(0, .ref (zad E 40 0)), (1, .int a0)] rfl ?_
  refine zg_aload_n C 0 1 rfl dX8_takesE_0 rfl ?_
  refine zg_iconst C (0 : Int32) 2 rfl dX8_takesE_1 (by decide) ?_
  refine fpX8_83 C zn40 5 rfl dX8_takesE_2 (fun M1 => ?_)
  refine zg_aload_n C 0 6 rfl dX8_takesE_5 rfl ?_
  refine zg_iconst C (0 : Int32) 7 rfl dX8_takesE_6 (by decide) ?_
  refine fpX8_86 C zn40 10 rfl dX8_takesE_7 (fun M2 => ?_)
  refine zg_aload_n C 0 11 rfl dX8_takesE_10 rfl ?_
  refine fgX8_68 C zn40 14 rfl dX8_takesE_11 ?_
  refine zg_iload_n C 1 15 rfl dX8_takesE_14 rfl ?_
  refine zg_aload_n C 0 16 rfl dX8_takesE_15 rfl ?_
  refine fgX8_80 C zn40 19 rfl dX8_takesE_16 ?_
  refine zg_iast C 20 rfl dX8_takesE_19 zn53 (fun _ _ => rfl) (fun M3 => ?_)
  refine zg_iconst C (1 : Int32) 21 rfl dX8_takesE_20 (by decide) ?_
  refine zg_istore_n C 2 [(2, .int (1 : Int32)), (0, .ref (zad E 40 0)), (1, .int a0)] 22 rfl dX8_takesE_21 rfl (by decide) rfl ?_
  refine zg_sub [1, 2, 0] [(0, .ref (zad E 40 0)), (1, .int a0), (2, .int (1 : Int32))] rfl ?_
  refine tM_takesE_L22 C hD a0  1000 M3 (1 : Int32)
set_option maxHeartbeats 4000000 in
set_option maxRecDepth 100000 in
theorem tM_choice_L14 {p : Program} {l : Launch} {e : Env} {R : Room} {s : State} {m : MethodId} {args : Array Value} {below : List Frame} {meth : Method} {c : Code} {E : zE} {A : Nat → Prop} (C : zCx p R s m args meth c cX8_choice "TwoTrueModel" E zNM A 7 (some .int) 6) (hD : zD E zNM A) (c1 : Int32) (c2 : Int32) : ∀ (n : Nat) (M : zM) (v3 : Int32) (v4 : Int32) (v5 : Int32), zG p l e R s m args below meth c E zNM A 7 zvI zoT 14 [(0, .ref (zad E 40 0)), (1, .int c1), (2, .int c2), (3, .int v3), (4, .int v4), (5, .int v5)] [] M (qM_choice_L14 c1 c2 n M v3 v4 v5) := by
  intro n
  induction n with
  | zero =>
    intro M v3 v4 v5
    exact zg_none
  | succ n ih =>
    intro M v3 v4 v5
    rw [qM_choice_L14]
    refine zg_iload C 5 16 rfl dX8_choice_14 rfl ?_
    refine zg_iconst C (3 : Int32) 17 rfl dX8_choice_16 (by decide) ?_
    refine zg_icmp_ge C 53 20 rfl dX8_choice_17 (by decide) ?_ ?_
    · refine zg_iload_n C 3 54 rfl dX8_choice_53 rfl ?_
      exact zg_iret C dX8_choice_54 trivial
    · refine zg_aload_n C 0 21 rfl dX8_choice_20 rfl ?_
      refine zg_iload_n C 1 22 rfl dX8_choice_21 rfl ?_
      refine zg_iload_n C 2 23 rfl dX8_choice_22 rfl ?_
      refine zg_iload C 5 25 rfl dX8_choice_23 rfl ?_
      refine zg_callVI C [.int c1, .int c2, .int v5] 28 rfl dX8_choice_25 (tM_weightOf hD M c1 c2 v5) rfl (fun _ _ hP _ => zrecv C.2.2.2.2.2.1 hP zn40 rfl rfl) zw1121 zw1118 zw1120 zv47 zw9 oM_weightOf (by decide) (Nat.le_of_ble_eq_true rfl) (fun x5 M4 h6 => ?_)
      refine zg_istore C 6 [(6, .int x5), (0, .ref (zad E 40 0)), (1, .int c1), (2, .int c2), (3, .int v3), (4, .int v4), (5, .int v5)] 30 rfl dX8_choice_28 (by decide) rfl ?_
      refine zg_iload C 0 32 rfl dX8_choice_30 rfl ?_
      refine zg_iload C 5 34 rfl dX8_choice_32 rfl ?_
      refine zg_jn (fun j10 => ∀ (M9 : zM) (x7 : Int32) (x8 : Int32), zG p l e R s m args below meth c E zNM A 7 zvI zoT 47 [(0, .ref (zad E 40 0)), (1, .int c1), (2, .int c2), (3, .int x7), (4, .int x8), (5, .int v5)] [] M9 (j10 M9 x7 x8)) (fun M9 x7 x8 => ?_) (fun j10 hj10 => ?_)
      · refine zg_iinc C 5 (v5 + (1 : Int32)) [(5, .int (v5 + (1 : Int32))), (0, .ref (zad E 40 0)), (1, .int c1), (2, .int c2), (3, .int x7), (4, .int x8)] 50 rfl dX8_choice_47 rfl (congrArg (fun z : Int32 => v5 + z) (by decide : Int32.ofInt (1) = (1 : Int32))) (by decide) rfl ?_
        refine zg_goto C 14 dX8_choice_50 (by decide) ?_
        refine zg_sub [1, 2, 3, 4, 5, 0] [(0, .ref (zad E 40 0)), (1, .int c1), (2, .int c2), (3, .int x7), (4, .int x8), (5, .int (v5 + (1 : Int32)))] rfl ?_
        exact ih M9 x7 x8 (v5 + (1 : Int32))
      · refine zg_icmp_gt C 40 37 rfl dX8_choice_34 (by decide) ?_ ?_
        · refine zg_iload C 6 42 rfl dX8_choice_40 rfl ?_
          refine zg_istore_n C 3 [(3, .int v5), (6, .int x5), (0, .ref (zad E 40 0)), (1, .int c1), (2, .int c2), (4, .int v4), (5, .int v5)] 43 rfl dX8_choice_42 rfl (by decide) rfl ?_
          refine zg_iload C 1 45 rfl dX8_choice_43 rfl ?_
          refine zg_istore C 4 [(4, .int x5), (3, .int v5), (6, .int x5), (0, .ref (zad E 40 0)), (1, .int c1), (2, .int c2), (5, .int v5)] 47 rfl dX8_choice_45 (by decide) rfl ?_
          refine zg_sub [3, 4, 5, 1, 0, 6] [(0, .ref (zad E 40 0)), (1, .int c1), (2, .int c2), (3, .int v5), (4, .int x5), (5, .int v5)] rfl ?_
          exact hj10 M4 v5 x5
        · refine zg_goto C 47 dX8_choice_37 (by decide) ?_
          refine zg_sub [1, 2, 3, 4, 5, 6] [(0, .ref (zad E 40 0)), (1, .int c1), (2, .int c2), (3, .int v3), (4, .int v4), (5, .int v5)] rfl ?_
          exact hj10 M4 v3 v4
set_option maxHeartbeats 4000000 in
set_option maxRecDepth 100000 in
theorem tM_choice {l : Launch} {E : zE} {A : Nat → Prop} (hD : zD E zNM A) (M : zM) (a0 : Int32) (a1 : Int32) : zCT l yX8_choice cX8_choice 7 (some .int) 6 E zNM A [.ref (zad E 40 0), .int a0, .int a1] M zvI zoT (qM_choice  M a0 a1) := by
  refine zCT_of (by decide) hD (by first | decide | exact Nat.le_of_ble_eq_true rfl) (fun p e R s m args below meth c C => ?_)
  have C : zCx p R s m args meth c cX8_choice "TwoTrueModel" E zNM A 7 (some .int) 6 := C
  unfold qM_choice
  refine zg_sub [0, 1, 2] [(0, .ref (zad E 40 0)), (1, .int a0), (2, .int a1)] rfl ?_
  refine zg_iconst C (0 : Int32) 1 rfl dX8_choice_0 (by decide) ?_
  refine zg_istore_n C 3 [(3, .int (0 : Int32)), (0, .ref (zad E 40 0)), (1, .int a0), (2, .int a1)] 2 rfl dX8_choice_1 rfl (by decide) rfl ?_
  refine zg_aload_n C 1 3 rfl dX8_choice_2 rfl ?_
  refine zg_iload_n C 2 4 rfl dX8_choice_3 rfl ?_
  refine zg_iload_n C 3 5 rfl dX8_choice_4 rfl ?_
  refine zg_iconst C (0 : Int32) 6 rfl dX8_choice_5 (by decide) ?_
  refine zg_callVI C [.int a0, .int a1, .int (0 : Int32)] 9 rfl dX8_choice_6 (tM_weightOf hD M a0 a1 (0 : Int32)) rfl (fun _ _ hP _ => zrecv C.2.2.2.2.2.1 hP zn40 rfl rfl) zw1121 zw1118 zw1120 zv47 zw9 oM_weightOf (by decide) (Nat.le_of_ble_eq_true rfl) (fun x2 M1 h3 => ?_)
  refine zg_istore C 4 [(4, .int x2), (3, .int (0 : Int32)), (0, .ref (zad E 40 0)), (1, .int a0), (2, .int a1)] 11 rfl dX8_choice_9 (by decide) rfl ?_
  refine zg_iconst C (1 : Int32) 12 rfl dX8_choice_11 (by decide) ?_
  refine zg_istore C 5 [(5, .int (1 : Int32)), (4, .int x2), (3, .int (0 : Int32)), (0, .ref (zad E 40 0)), (1, .int a0), (2, .int a1)] 14 rfl dX8_choice_12 (by decide) rfl ?_
  refine zg_sub [3, 4, 5, 2, 1, 0] [(0, .ref (zad E 40 0)), (1, .int a0), (2, .int a1), (3, .int (0 : Int32)), (4, .int x2), (5, .int (1 : Int32))] rfl ?_
  refine tM_choice_L14 C hD a0 a1  1000 M1 (0 : Int32) x2 (1 : Int32)
set_option maxHeartbeats 4000000 in
set_option maxRecDepth 100000 in
theorem tM_readerGuesses {l : Launch} {E : zE} {A : Nat → Prop} (hD : zD E zNM A) (M : zM) (a0 : Int32) (a1 : Int32) : zCT l yX8_readerGuesses cX8_readerGuesses 3 (some .int) 6 E zNM A [.ref (zad E 40 0), .int a0, .int a1] M zvI zoT (qM_readerGuesses  M a0 a1) := by
  refine zCT_of (by decide) hD (by first | decide | exact Nat.le_of_ble_eq_true rfl) (fun p e R s m args below meth c C => ?_)
  have C : zCx p R s m args meth c cX8_readerGuesses "TwoTrueModel" E zNM A 3 (some .int) 6 := C
  unfold qM_readerGuesses
  refine zg_sub [0, 1, 2] [(0, .ref (zad E 40 0)), (1, .int a0), (2, .int a1)] rfl ?_
  refine zg_aload_n C 0 1 rfl dX8_readerGuesses_0 rfl ?_
  refine zg_bipush C (20 : Int32) 3 rfl dX8_readerGuesses_1 (by decide) ?_
  refine zg_callVU C [.int (20 : Int32)] 6 rfl dX8_readerGuesses_3 (tM_body hD M (20 : Int32)) rfl (fun _ _ hP _ => zrecv C.2.2.2.2.2.1 hP zn40 rfl rfl) zw1238 zw1235 zw1237 zv57 zw9 oM_body (by decide) (Nat.le_of_ble_eq_true rfl) (fun _u M1 h2 => ?_)
  refine zg_aload_n C 0 7 rfl dX8_readerGuesses_6 rfl ?_
  refine zg_iload_n C 1 8 rfl dX8_readerGuesses_7 rfl ?_
  refine zg_iload_n C 2 9 rfl dX8_readerGuesses_8 rfl ?_
  refine zg_callVI C [.int a0, .int a1] 12 rfl dX8_readerGuesses_9 (tM_guestGuesses hD M1 a0 a1) rfl (fun _ _ hP _ => zrecv C.2.2.2.2.2.1 hP zn40 rfl rfl) zw1254 zw1251 zw1253 zv61 zw9 oM_guestGuesses (by decide) (Nat.le_of_ble_eq_true rfl) (fun x4 M3 h5 => ?_)
  refine zg_bipush C (6 : Int32) 14 rfl dX8_readerGuesses_12 (by decide) ?_
  refine zg_ixor C 15 rfl dX8_readerGuesses_14 ?_
  exact zg_iret C dX8_readerGuesses_15 trivial
