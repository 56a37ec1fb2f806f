set_option maxHeartbeats 4000000 in
set_option maxRecDepth 100000 in
theorem tM_takesClause {l : Launch} {E : zE} {A : Nat → Prop} (hD : zD E zNM A) (M : zM) (a0 : Int32) : zCT l yX8_takesClause cX8_takesClause 2 (some .boolean) 7 E zNM A [.ref (zad E 40 0), .int a0] M zvI zoB (qM_takesClause  M a0) := by
  refine zCT_of (by decide) hD (by first | decide | exact Nat.le_of_ble_eq_true rfl) (fun p e R s m args below meth c C => ?_)
  have C : zCx p R s m args meth c cX8_takesClause "TwoTrueModel" E zNM A 2 (some .boolean) 7 := C
  unfold qM_takesClause
  refine zg_sub [0, 1] [(0, .ref (zad E 40 0)), (1, .int a0)] rfl ?_
  refine zg_aload_n C 0 1 rfl dX8_takesClause_0 rfl ?_
  refine zg_iload_n C 1 2 rfl dX8_takesClause_1 rfl ?_
  refine zg_callVI C [.int a0] 5 rfl dX8_takesClause_2 (tM_takesHead hD M a0) rfl (fun _ _ hP _ => zrecv C.2.2.2.2.2.1 hP zn40 rfl rfl) zw1017 zw1014 zw1016 zv24 zw9 oM_takesHead (by decide) (Nat.le_of_ble_eq_true rfl) (fun x2 M1 h3 => ?_)
  refine zg_if_eq C 15 8 rfl dX8_takesClause_5 (by decide) ?_ ?_
  · refine zg_iconst C (0 : Int32) 16 rfl dX8_takesClause_15 (by decide) ?_
    exact zg_zret C dX8_takesClause_16 rfl rfl
  · refine zg_aload_n C 0 9 rfl dX8_takesClause_8 rfl ?_
    refine zg_callVI C [] 12 rfl dX8_takesClause_9 (tM_takesNumber hD M1 ) rfl (fun _ _ hP _ => zrecv C.2.2.2.2.2.1 hP zn40 rfl rfl) zw1033 zw1030 zw1032 zv28 zw9 oM_takesNumber (by decide) (Nat.le_of_ble_eq_true rfl) (fun x5 M4 h6 => ?_)
    refine zg_if_ne C 17 15 rfl dX8_takesClause_12 (by decide) ?_ ?_
    · refine zg_iconst C (0 : Int32) 16 rfl dX8_takesClause_15 (by decide) ?_
      exact zg_zret C dX8_takesClause_16 rfl rfl
    · refine zg_aload_n C 0 18 rfl dX8_takesClause_17 rfl ?_
      refine fgX8_65 C zn40 21 rfl dX8_takesClause_18 ?_
      refine zg_iload_n C 1 22 rfl dX8_takesClause_21 rfl ?_
      refine zg_aload_n C 0 23 rfl dX8_takesClause_22 rfl ?_
      refine fgX8_53 C zn40 26 rfl dX8_takesClause_23 ?_
      refine zg_iast C 27 rfl dX8_takesClause_26 zn52 (fun _ _ => rfl) (fun M7 => ?_)
      refine zg_aload_n C 0 28 rfl dX8_takesClause_27 rfl ?_
      refine fgX8_62 C zn40 31 rfl dX8_takesClause_28 ?_
      refine zg_iload_n C 1 32 rfl dX8_takesClause_31 rfl ?_
      refine zg_iald C 33 rfl dX8_takesClause_32 zn51 rfl ?_
      refine zg_iconst C (2 : Int32) 34 rfl dX8_takesClause_33 (by decide) ?_
      refine zg_icmp_eq C 54 37 rfl dX8_takesClause_34 (by decide) ?_ ?_
      · refine zg_iconst C (1 : Int32) 55 rfl dX8_takesClause_54 (by decide) ?_
        refine zg_goto C 59 dX8_takesClause_55 (by decide) ?_
        exact zg_zret C dX8_takesClause_59 rfl rfl
      · refine zg_aload_n C 0 38 rfl dX8_takesClause_37 rfl ?_
        refine zg_bipush C (32 : Int32) 40 rfl dX8_takesClause_38 (by decide) ?_
        refine zg_callVI C [.int (32 : Int32)] 43 rfl dX8_takesClause_40 (tM_takes hD M7 (32 : Int32)) rfl (fun _ _ hP _ => zrecv C.2.2.2.2.2.1 hP zn40 rfl rfl) zw1029 zw1026 zw1028 zv27 zw9 oM_takes (by decide) (Nat.le_of_ble_eq_true rfl) (fun x9 M8 h10 => ?_)
        refine zg_if_eq C 58 46 rfl dX8_takesClause_43 (by decide) ?_ ?_
        · refine zg_iconst C (0 : Int32) 59 rfl dX8_takesClause_58 (by decide) ?_
          exact zg_zret C dX8_takesClause_59 rfl rfl
        · refine zg_aload_n C 0 47 rfl dX8_takesClause_46 rfl ?_
          refine zg_iload_n C 1 48 rfl dX8_takesClause_47 rfl ?_
          refine zg_callVI C [.int a0] 51 rfl dX8_takesClause_48 (tM_takesE hD M8 a0) rfl (fun _ _ hP _ => zrecv C.2.2.2.2.2.1 hP zn40 rfl rfl) zw1041 zw1038 zw1040 zv30 zw9 oM_takesE (by decide) (Nat.le_of_ble_eq_true rfl) (fun x12 M11 h13 => ?_)
          refine zg_if_eq C 58 54 rfl dX8_takesClause_51 (by decide) ?_ ?_
          · refine zg_iconst C (0 : Int32) 59 rfl dX8_takesClause_58 (by decide) ?_
            exact zg_zret C dX8_takesClause_59 rfl rfl
          · refine zg_iconst C (1 : Int32) 55 rfl dX8_takesClause_54 (by decide) ?_
            refine zg_goto C 59 dX8_takesClause_55 (by decide) ?_
            exact zg_zret C dX8_takesClause_59 rfl rfl
set_option maxHeartbeats 4000000 in
set_option maxRecDepth 100000 in
theorem tM_guesses {l : Launch} {E : zE} {A : Nat → Prop} (hD : zD E zNM A) (M : zM) (a0 : Int32) (a1 : Int32) : zCT l yX8_guesses cX8_guesses 3 none 7 E zNM A [.ref (zad E 40 0), .int a0, .int a1] M zvU zoT (qM_guesses  M a0 a1) := by
  refine zCT_of (by decide) hD (by first | decide | exact Nat.le_of_ble_eq_true rfl) (fun p e R s m args below meth c C => ?_)
  have C : zCx p R s m args meth c cX8_guesses "TwoTrueModel" E zNM A 3 none 7 := C
  unfold qM_guesses
  refine zg_sub [0, 1, 2] [(0, .ref (zad E 40 0)), (1, .int a0), (2, .int a1)] rfl ?_
  refine zg_aload_n C 0 1 rfl dX8_guesses_0 rfl ?_
  refine fgX8_99 C zn40 4 rfl dX8_guesses_1 ?_
  refine zg_iload_n C 1 5 rfl dX8_guesses_4 rfl ?_
  refine zg_aload_n C 0 6 rfl dX8_guesses_5 rfl ?_
  refine zg_iload_n C 1 7 rfl dX8_guesses_6 rfl ?_
  refine zg_iload_n C 2 8 rfl dX8_guesses_7 rfl ?_
  refine zg_callVI C [.int a0, .int a1] 11 rfl dX8_guesses_8 (tM_choice hD M a0 a1) rfl (fun _ _ hP _ => zrecv C.2.2.2.2.2.1 hP zn40 rfl rfl) zw1117 zw1114 zw1116 zv46 zw9 oM_choice (by decide) (Nat.le_of_ble_eq_true rfl) (fun x2 M1 h3 => ?_)
  refine zg_iast C 12 rfl dX8_guesses_11 zn60 (fun _ _ => rfl) (fun M4 => ?_)
  refine zg_aload_n C 0 13 rfl dX8_guesses_12 rfl ?_
  refine fgX8_96 C zn40 16 rfl dX8_guesses_13 ?_
  refine zg_aload_n C 0 17 rfl dX8_guesses_16 rfl ?_
  refine fgX8_99 C zn40 20 rfl dX8_guesses_17 ?_
  refine zg_iload_n C 1 21 rfl dX8_guesses_20 rfl ?_
  refine zg_iald C 22 rfl dX8_guesses_21 zn60 rfl ?_
  refine zg_nmI (fun x5 => ?_)
  refine zg_dup2 C rfl rfl 23 rfl dX8_guesses_22 ?_
  refine zg_iald C 24 rfl dX8_guesses_23 zn59 rfl ?_
  refine zg_iconst C (1 : Int32) 25 rfl dX8_guesses_24 (by decide) ?_
  refine zg_iadd C 26 rfl dX8_guesses_25 ?_
  refine zg_iast C 27 rfl dX8_guesses_26 zn59 (fun _ _ => rfl) (fun M6 => ?_)
  exact zg_vret C dX8_guesses_27 trivial
set_option maxHeartbeats 4000000 in
set_option maxRecDepth 100000 in
theorem tM_guessesAct {l : Launch} {E : zE} {A : Nat → Prop} (hD : zD E zNM A) (M : zM) (a0 : Int32) (a1 : Int32) : zCT l yX8_guessesAct cX8_guessesAct 4 (some .int) 7 E zNM A [.ref (zad E 40 0), .int a0, .int a1] M zvI zoT (qM_guessesAct  M a0 a1) := by
  refine zCT_of (by decide) hD (by first | decide | exact Nat.le_of_ble_eq_true rfl) (fun p e R s m args below meth c C => ?_)
  have C : zCx p R s m args meth c cX8_guessesAct "TwoTrueModel" E zNM A 4 (some .int) 7 := C
  unfold qM_guessesAct
  refine zg_sub [0, 1, 2] [(0, .ref (zad E 40 0)), (1, .int a0), (2, .int a1)] rfl ?_
  refine zg_aload_n C 0 1 rfl dX8_guessesAct_0 rfl ?_
  refine fgX8_16 C zn40 4 rfl dX8_guessesAct_1 ?_
  refine zg_iload_n C 1 5 rfl dX8_guessesAct_4 rfl ?_
  refine zg_iald C 6 rfl dX8_guessesAct_5 zn41 rfl ?_
  refine zg_nmI (fun x1 => ?_)
  refine zg_if (fun h2 => ?_) (fun h2 => ?_)
  · refine zg_look C (34) 40 dX8_guessesAct_6 (by decide) (by rw [zxi h2 (by decide : (1 : Int32).toInt = 1)]; rfl) (by decide) ?_
    refine zg_aload_n C 0 41 rfl dX8_guessesAct_40 rfl ?_
    refine zg_iload_n C 1 42 rfl dX8_guessesAct_41 rfl ?_
    refine zg_iload_n C 2 43 rfl dX8_guessesAct_42 rfl ?_
    refine zg_callVI C [.int a0, .int a1] 46 rfl dX8_guessesAct_43 (tM_readerGuesses hD M a0 a1) rfl (fun _ _ hP _ => zrecv C.2.2.2.2.2.1 hP zn40 rfl rfl) zw1250 zw1247 zw1249 zv60 zw9 oM_readerGuesses (by decide) (Nat.le_of_ble_eq_true rfl) (fun x4 M3 h5 => ?_)
    exact zg_iret C dX8_guessesAct_46 trivial
  · refine zg_if (fun h6 => ?_) (fun h6 => ?_)
    · refine zg_look C (41) 47 dX8_guessesAct_6 (by decide) (by rw [zxi h6 (by decide : (4 : Int32).toInt = 4)]; rfl) (by decide) ?_
      refine zg_aload_n C 0 48 rfl dX8_guessesAct_47 rfl ?_
      refine zg_bipush C (51 : Int32) 50 rfl dX8_guessesAct_48 (by decide) ?_
      refine zg_callVU C [.int (51 : Int32)] 53 rfl dX8_guessesAct_50 (tM_body hD M (51 : Int32)) rfl (fun _ _ hP _ => zrecv C.2.2.2.2.2.1 hP zn40 rfl rfl) zw1238 zw1235 zw1237 zv57 zw9 oM_body (by decide) (Nat.le_of_ble_eq_true rfl) (fun _u M7 h8 => ?_)
      refine zg_aload_n C 0 54 rfl dX8_guessesAct_53 rfl ?_
      refine zg_iload_n C 1 55 rfl dX8_guessesAct_54 rfl ?_
      refine zg_iload_n C 2 56 rfl dX8_guessesAct_55 rfl ?_
      refine zg_iconst C (1 : Int32) 57 rfl dX8_guessesAct_56 (by decide) ?_
      refine zg_iadd C 58 rfl dX8_guessesAct_57 ?_
      refine zg_callVI C [.int a0, .int (a1 + (1 : Int32))] 61 rfl dX8_guessesAct_58 (tM_readerGuesses hD M7 a0 (a1 + (1 : Int32))) rfl (fun _ _ hP _ => zrecv C.2.2.2.2.2.1 hP zn40 rfl rfl) zw1250 zw1247 zw1249 zv60 zw9 oM_readerGuesses (by decide) (Nat.le_of_ble_eq_true rfl) (fun x10 M9 h11 => ?_)
      exact zg_iret C dX8_guessesAct_61 trivial
    · refine zg_if (fun h12 => ?_) (fun h12 => ?_)
      · refine zg_look C (56) 62 dX8_guessesAct_6 (by decide) (by rw [zxi h12 (by decide : (6 : Int32).toInt = 6)]; rfl) (by decide) ?_
        refine zg_aload_n C 0 63 rfl dX8_guessesAct_62 rfl ?_
        refine zg_bipush C (70 : Int32) 65 rfl dX8_guessesAct_63 (by decide) ?_
        refine zg_callVU C [.int (70 : Int32)] 68 rfl dX8_guessesAct_65 (tM_body hD M (70 : Int32)) rfl (fun _ _ hP _ => zrecv C.2.2.2.2.2.1 hP zn40 rfl rfl) zw1238 zw1235 zw1237 zv57 zw9 oM_body (by decide) (Nat.le_of_ble_eq_true rfl) (fun _u M13 h14 => ?_)
        refine zg_aload_n C 0 69 rfl dX8_guessesAct_68 rfl ?_
        refine zg_iload_n C 1 70 rfl dX8_guessesAct_69 rfl ?_
        refine zg_iload_n C 2 71 rfl dX8_guessesAct_70 rfl ?_
        refine zg_callVI C [.int a0, .int a1] 74 rfl dX8_guessesAct_71 (tM_guestGuesses hD M13 a0 a1) rfl (fun _ _ hP _ => zrecv C.2.2.2.2.2.1 hP zn40 rfl rfl) zw1254 zw1251 zw1253 zv61 zw9 oM_guestGuesses (by decide) (Nat.le_of_ble_eq_true rfl) (fun x16 M15 h17 => ?_)
        refine zg_istore_n C 3 [(3, .int x16), (0, .ref (zad E 40 0)), (1, .int a0), (2, .int a1)] 75 rfl dX8_guessesAct_74 rfl (by decide) rfl ?_
        refine zg_iload_n C 0 76 rfl dX8_guessesAct_75 rfl ?_
        refine zg_aload_n C 1 77 rfl dX8_guessesAct_76 rfl ?_
        refine zg_iload_n C 2 78 rfl dX8_guessesAct_77 rfl ?_
        refine zg_iconst C (2 : Int32) 79 rfl dX8_guessesAct_78 (by decide) ?_
        refine zg_callVI C [.int a0, .int (2 : Int32)] 82 rfl dX8_guessesAct_79 (tM_guestDoubts hD M15 a0 (2 : Int32)) rfl (fun _ _ hP _ => zrecv C.2.2.2.2.2.1 hP zn40 rfl rfl) zw1242 zw1239 zw1241 zv58 zw9 oM_guestDoubts (by decide) (Nat.le_of_ble_eq_true rfl) (fun x19 M18 h20 => ?_)
        refine zg_iadd C 83 rfl dX8_guessesAct_82 ?_
        exact zg_iret C dX8_guessesAct_83 trivial
      · refine zg_look C (78) 84 dX8_guessesAct_6 (by decide) (by show Op.lookupswitch.offset [(1, 34), (4, 41), (6, 56)] (78) x1.toInt = 78; rw [lv_osw h2 (by decide : (1 : Int32).toInt = 1), lv_osw h6 (by decide : (4 : Int32).toInt = 4), lv_osw h12 (by decide : (6 : Int32).toInt = 6)]; rfl) (by decide) ?_
        refine zg_aload_n C 0 85 rfl dX8_guessesAct_84 rfl ?_
        refine zg_iload_n C 1 86 rfl dX8_guessesAct_85 rfl ?_
        refine zg_iload_n C 2 87 rfl dX8_guessesAct_86 rfl ?_
        refine zg_callVI C [.int a0, .int a1] 90 rfl dX8_guessesAct_87 (tM_guestGuesses hD M a0 a1) rfl (fun _ _ hP _ => zrecv C.2.2.2.2.2.1 hP zn40 rfl rfl) zw1254 zw1251 zw1253 zv61 zw9 oM_guestGuesses (by decide) (Nat.le_of_ble_eq_true rfl) (fun x22 M21 h23 => ?_)
        exact zg_iret C dX8_guessesAct_90 trivial
set_option maxHeartbeats 4000000 in
set_option maxRecDepth 100000 in
theorem tM_goesText_L15 {p : Program} {l : Launch} {e : Env} {R : Room} {s : State} {m : MethodId} {args : Array Value} {below : List Frame} {meth : Method} {c : Code} {E : zE} {A : Nat → Prop} (C : zCx p R s m args meth c cX8_goesText "TwoTrueModel" E zNM A 3 (some .boolean) 8) (hD : zD E zNM A) (c1 : Int32) : ∀ (n : Nat) (M : zM) (v2 : Int32), zG p l e R s m args below meth c E zNM A 3 zvI zoB 15 [(0, .ref (zad E 40 0)), (1, .int c1), (2, .int v2)] [] M (qM_goesText_L15 c1 n M v2) := by
  intro n
  induction n with
  | zero =>
    intro M v2
    exact zg_none
  | succ n ih =>
    intro M v2
    rw [qM_goesText_L15]
    refine zg_aload_n C 0 16 rfl dX8_goesText_15 rfl ?_
    refine zg_bipush C (10 : Int32) 18 rfl dX8_goesText_16 (by decide) ?_
    refine zg_iload_n C 1 19 rfl dX8_goesText_18 rfl ?_
    refine zg_imul C 20 rfl dX8_goesText_19 ?_
    refine zg_iload_n C 2 21 rfl dX8_goesText_20 rfl ?_
    refine zg_iadd C 22 rfl dX8_goesText_21 ?_
    refine zg_callVI C [.int (((10 : Int32) * c1) + v2)] 25 rfl dX8_goesText_22 (tM_takesClause hD M (((10 : Int32) * c1) + v2)) rfl (fun _ _ hP _ => zrecv C.2.2.2.2.2.1 hP zn40 rfl rfl) zw1013 zw1010 zw1012 zv23 zw9 oM_takesClause (by decide) (Nat.le_of_ble_eq_true rfl) (fun x4 M3 h5 => ?_)
    refine zg_if_ne C 30 28 rfl dX8_goesText_25 (by decide) ?_ ?_
    · refine zg_iconst C (0 : Int32) 29 rfl dX8_goesText_28 (by decide) ?_
      exact zg_zret C dX8_goesText_29 rfl rfl
    · refine zg_iinc C 2 (v2 + (1 : Int32)) [(2, .int (v2 + (1 : Int32))), (0, .ref (zad E 40 0)), (1, .int c1)] 33 rfl dX8_goesText_30 rfl (congrArg (fun z : Int32 => v2 + z) (by decide : Int32.ofInt (1) = (1 : Int32))) (by decide) rfl ?_
      refine zg_aload_n C 1 34 rfl dX8_goesText_33 rfl ?_
      refine fgX8_59 C zn40 37 rfl dX8_goesText_34 ?_
      refine zg_iload_n C 2 38 rfl dX8_goesText_37 rfl ?_
      refine zg_iload_n C 0 39 rfl dX8_goesText_38 rfl ?_
      refine zg_iast C 40 rfl dX8_goesText_39 zn50 (fun _ _ => rfl) (fun M6 => ?_)
      refine zg_aload_n C 1 41 rfl dX8_goesText_40 rfl ?_
      refine fgX8_50 C zn40 44 rfl dX8_goesText_41 ?_
      refine zg_aload_n C 1 45 rfl dX8_goesText_44 rfl ?_
      refine fgX8_47 C zn40 48 rfl dX8_goesText_45 ?_
      refine zg_icmp_ne C 53 51 rfl dX8_goesText_48 (by decide) ?_ ?_
      · refine zg_iconst C (1 : Int32) 52 rfl dX8_goesText_51 (by decide) ?_
        exact zg_zret C dX8_goesText_52 rfl rfl
      · refine zg_iload_n C 0 54 rfl dX8_goesText_53 rfl ?_
        refine zg_bipush C (10 : Int32) 56 rfl dX8_goesText_54 (by decide) ?_
        refine zg_icmp_eq C 68 59 rfl dX8_goesText_56 (by decide) ?_ ?_
        · refine zg_iconst C (0 : Int32) 69 rfl dX8_goesText_68 (by decide) ?_
          exact zg_zret C dX8_goesText_69 rfl rfl
        · refine zg_aload_n C 1 60 rfl dX8_goesText_59 rfl ?_
          refine zg_bipush C (59 : Int32) 62 rfl dX8_goesText_60 (by decide) ?_
          refine zg_callVI C [.int (59 : Int32)] 65 rfl dX8_goesText_62 (tM_takes hD M6 (59 : Int32)) rfl (fun _ _ hP _ => zrecv C.2.2.2.2.2.1 hP zn40 rfl rfl) zw1029 zw1026 zw1028 zv27 zw9 oM_takes (by decide) (Nat.le_of_ble_eq_true rfl) (fun x8 M7 h9 => ?_)
          refine zg_if_ne C 15 68 rfl dX8_goesText_65 (by decide) ?_ ?_
          · refine zg_iconst C (0 : Int32) 69 rfl dX8_goesText_68 (by decide) ?_
            exact zg_zret C dX8_goesText_69 rfl rfl
          · refine zg_sub [1, 2, 0] [(0, .ref (zad E 40 0)), (1, .int c1), (2, .int (v2 + (1 : Int32)))] rfl ?_
            exact ih M7 (v2 + (1 : Int32))
set_option maxHeartbeats 4000000 in
set_option maxRecDepth 100000 in
theorem tM_goesText {l : Launch} {E : zE} {A : Nat → Prop} (hD : zD E zNM A) (M : zM) (a0 : Int32) : zCT l yX8_goesText cX8_goesText 3 (some .boolean) 8 E zNM A [.ref (zad E 40 0), .int a0] M zvI zoB (qM_goesText  M a0) := by
  refine zCT_of (by decide) hD (by first | decide | exact Nat.le_of_ble_eq_true rfl) (fun p e R s m args below meth c C => ?_)
  have C : zCx p R s m args meth c cX8_goesText "TwoTrueModel" E zNM A 3 (some .boolean) 8 := C
  unfold qM_goesText
  refine zg_sub [0, 1] [(0, .ref (zad E 40 0)), (1, .int a0)] rfl ?_
  refine zg_aload_n C 0 1 rfl dX8_goesText_0 rfl ?_
  refine zg_iconst C (0 : Int32) 2 rfl dX8_goesText_1 (by decide) ?_
  refine fpX8_50 C zn40 5 rfl dX8_goesText_2 (fun M1 => ?_)
  refine zg_aload_n C 0 6 rfl dX8_goesText_5 rfl ?_
  refine zg_bipush C (100 : Int32) 8 rfl dX8_goesText_6 (by decide) ?_
  refine zg_iload_n C 1 9 rfl dX8_goesText_8 rfl ?_
  refine zg_imul C 10 rfl dX8_goesText_9 ?_
  refine fpX8_80 C zn40 13 rfl dX8_goesText_10 (fun M2 => ?_)
  refine zg_iconst C (0 : Int32) 14 rfl dX8_goesText_13 (by decide) ?_
  refine zg_istore_n C 2 [(2, .int (0 : Int32)), (0, .ref (zad E 40 0)), (1, .int a0)] 15 rfl dX8_goesText_14 rfl (by decide) rfl ?_
  refine zg_sub [1, 2, 0] [(0, .ref (zad E 40 0)), (1, .int a0), (2, .int (0 : Int32))] rfl ?_
  refine tM_goesText_L15 C hD a0  1000 M2 (0 : Int32)
set_option maxHeartbeats 4000000 in
set_option maxRecDepth 100000 in
theorem tM_goes_L6 {p : Program} {l : Launch} {e : Env} {R : Room} {s : State} {m : MethodId} {args : Array Value} {below : List Frame} {meth : Method} {c : Code} {E : zE} {A : Nat → Prop} (C : zCx p R s m args meth c cX8_goes "TwoTrueModel" E zNM A 3 (some .int) 8) (hD : zD E zNM A) (c1 : Int32) {e31 : zM → Option (Int32 × zM)} (he31 : ∀ (M : zM), zG p l e R s m args below meth c E zNM A 3 zvI zoT 31 [(0, .ref (zad E 40 0)), (1, .int c1)] [] M (e31 M )) : ∀ (n : Nat) (M : zM) (v2 : Int32), zG p l e R s m args below meth c E zNM A 3 zvI zoT 6 [(0, .ref (zad E 40 0)), (1, .int c1), (2, .int v2)] [] M (qM_goes_L6 c1 e31 n M v2) := by
  intro n
  induction n with
  | zero =>
    intro M v2
    exact zg_none
  | succ n ih =>
    intro M v2
    rw [qM_goes_L6]
    refine zg_iload_n C 2 7 rfl dX8_goes_6 rfl ?_
    refine zg_aload_n C 0 8 rfl dX8_goes_7 rfl ?_
    refine fgX8_7 C zn40 11 rfl dX8_goes_8 ?_
    refine zg_icmp_ge C 31 14 rfl dX8_goes_11 (by decide) ?_ ?_
    · refine zg_sub [0, 1] [(0, .ref (zad E 40 0)), (1, .int c1)] rfl ?_
      exact he31 M 
    · refine zg_iload_n C 2 15 rfl dX8_goes_14 rfl ?_
      refine zg_iload_n C 1 16 rfl dX8_goes_15 rfl ?_
      refine zg_jn (fun j4 => ∀ (M3 : zM), zG p l e R s m args below meth c E zNM A 3 zvI zoT 25 [(0, .ref (zad E 40 0)), (1, .int c1), (2, .int v2)] [] M3 (j4 M3 )) (fun M3 => ?_) (fun j4 hj4 => ?_)
      · refine zg_iinc C 2 (v2 + (1 : Int32)) [(2, .int (v2 + (1 : Int32))), (0, .ref (zad E 40 0)), (1, .int c1)] 28 rfl dX8_goes_25 rfl (congrArg (fun z : Int32 => v2 + z) (by decide : Int32.ofInt (1) = (1 : Int32))) (by decide) rfl ?_
        refine zg_goto C 6 dX8_goes_28 (by decide) ?_
        refine zg_sub [1, 2, 0] [(0, .ref (zad E 40 0)), (1, .int c1), (2, .int (v2 + (1 : Int32)))] rfl ?_
        exact ih M3 (v2 + (1 : Int32))
      · refine zg_icmp_eq C 25 19 rfl dX8_goes_16 (by decide) ?_ ?_
        · exact hj4 M 
        · refine zg_aload_n C 0 20 rfl dX8_goes_19 rfl ?_
          refine zg_iload_n C 2 21 rfl dX8_goes_20 rfl ?_
          refine zg_iload_n C 1 22 rfl dX8_goes_21 rfl ?_
          refine zg_callVU C [.int v2, .int c1] 25 rfl dX8_goes_22 (tM_guesses hD M v2 c1) rfl (fun _ _ hP _ => zrecv C.2.2.2.2.2.1 hP zn40 rfl rfl) zw1113 zw1110 zw1112 zv45 zw9 oM_guesses (by decide) (Nat.le_of_ble_eq_true rfl) (fun _u M5 h6 => ?_)
          exact hj4 M5 
set_option maxHeartbeats 4000000 in
set_option maxRecDepth 100000 in
theorem tM_goes {l : Launch} {E : zE} {A : Nat → Prop} (hD : zD E zNM A) (M : zM) (a0 : Int32) : zCT l yX8_goes cX8_goes 3 (some .int) 8 E zNM A [.ref (zad E 40 0), .int a0] M zvI zoT (qM_goes  M a0) := by
  refine zCT_of (by decide) hD (by first | decide | exact Nat.le_of_ble_eq_true rfl) (fun p e R s m args below meth c C => ?_)
  have C : zCx p R s m args meth c cX8_goes "TwoTrueModel" E zNM A 3 (some .int) 8 := C
  unfold qM_goes
  refine zg_sub [0, 1] [(0, .ref (zad E 40 0)), (1, .int a0)] rfl ?_
  refine zg_aload_n C 0 1 rfl dX8_goes_0 rfl ?_
  refine zg_callVU C [] 4 rfl dX8_goes_1 (tM_clearHands hD M ) rfl (fun _ _ hP _ => zrecv C.2.2.2.2.2.1 hP zn40 rfl rfl) zw1109 zw1106 zw1108 zv44 zw9 oM_clearHands (by decide) (Nat.le_of_ble_eq_true rfl) (fun _u M1 h2 => ?_)
  refine zg_iconst C (0 : Int32) 5 rfl dX8_goes_4 (by decide) ?_
  refine zg_istore_n C 2 [(2, .int (0 : Int32)), (0, .ref (zad E 40 0)), (1, .int a0)] 6 rfl dX8_goes_5 rfl (by decide) rfl ?_
  refine zg_sub [1, 2, 0] [(0, .ref (zad E 40 0)), (1, .int a0), (2, .int (0 : Int32))] rfl ?_
  refine tM_goes_L6 C hD a0 (fun M7 => ?_) 1000 M1 (0 : Int32)
  · refine zg_aload_n C 0 32 rfl dX8_goes_31 rfl ?_
    refine fgX8_7 C zn40 35 rfl dX8_goes_32 ?_
    refine zg_iconst C (1 : Int32) 36 rfl dX8_goes_35 (by decide) ?_
    refine zg_isub C 37 rfl dX8_goes_36 ?_
    refine zg_aload_n C 0 38 rfl dX8_goes_37 rfl ?_
    refine fgX8_96 C zn40 41 rfl dX8_goes_38 ?_
    refine zg_aload_n C 0 42 rfl dX8_goes_41 rfl ?_
    refine zg_iload_n C 1 43 rfl dX8_goes_42 rfl ?_
    refine zg_callVI C [.int a0] 46 rfl dX8_goes_43 (tM_liePlace hD M7 a0) rfl (fun _ _ hP _ => zrecv C.2.2.2.2.2.1 hP zn40 rfl rfl) zw1129 zw1126 zw1128 zv49 zw9 oM_liePlace (by decide) (Nat.le_of_ble_eq_true rfl) (fun x9 M8 h10 => ?_)
    refine zg_iald C 47 rfl dX8_goes_46 zn59 rfl ?_
    refine zg_isub C 48 rfl dX8_goes_47 ?_
    exact zg_iret C dX8_goes_48 trivial
set_option maxHeartbeats 4000000 in
set_option maxRecDepth 100000 in
theorem tM_line_L80 {p : Program} {l : Launch} {e : Env} {R : Room} {s : State} {m : MethodId} {args : Array Value} {below : List Frame} {meth : Method} {c : Code} {E : zE} {A : Nat → Prop} (C : zCx p R s m args meth c cX8_line "TwoTrueModel" E zNM A 9 (some .int) 8) (hD : zD E zNM A) (c1 : Int32) (c2 : Int32) (c3 : Int32) (c4 : Int32) (c5 : Int32) (c6 : Int32) {e104 : zM → Option (Int32 × zM)} (he104 : ∀ (M : zM), zG p l e R s m args below meth c E zNM A 9 zvI zoT 104 [(0, .ref (zad E 40 0)), (1, .int c1), (2, .int c2), (3, .int c3), (4, .int c4), (5, .int c5), (6, .int c6)] [] M (e104 M )) : ∀ (n : Nat) (M : zM) (v7 : Int32), zG p l e R s m args below meth c E zNM A 9 zvI zoT 80 [(0, .ref (zad E 40 0)), (1, .int c1), (2, .int c2), (3, .int c3), (4, .int c4), (5, .int c5), (6, .int c6), (7, .int v7)] [] M (qM_line_L80 c1 c2 c3 c4 c5 c6 e104 n M v7) := by
  intro n
  induction n with
  | zero =>
    intro M v7
    exact zg_none
  | succ n ih =>
    intro M v7
    rw [qM_line_L80]
    refine zg_iload C 7 82 rfl dX8_line_80 rfl ?_
    refine zg_iload_n C 3 83 rfl dX8_line_82 rfl ?_
    refine zg_icmp_ge C 104 86 rfl dX8_line_83 (by decide) ?_ ?_
    · refine zg_sub [0, 1, 2, 3, 4, 5, 6] [(0, .ref (zad E 40 0)), (1, .int c1), (2, .int c2), (3, .int c3), (4, .int c4), (5, .int c5), (6, .int c6)] rfl ?_
      exact he104 M 
    · refine zg_aload_n C 0 87 rfl dX8_line_86 rfl ?_
      refine zg_aload_n C 0 88 rfl dX8_line_87 rfl ?_
      refine fgX8_114 C zn40 91 rfl dX8_line_88 ?_
      refine zg_iload C 7 93 rfl dX8_line_91 rfl ?_
      refine zg_iald C 94 rfl dX8_line_93 zn62 rfl ?_
      refine zg_iload_n C 1 95 rfl dX8_line_94 rfl ?_
      refine zg_callVU C [.int (M.1 62 0 v7.toNatClampNeg), .int c1] 98 rfl dX8_line_95 (tM_guesses hD M (M.1 62 0 v7.toNatClampNeg) c1) rfl (fun _ _ hP _ => zrecv C.2.2.2.2.2.1 hP zn40 rfl rfl) zw1113 zw1110 zw1112 zv45 zw9 oM_guesses (by decide) (Nat.le_of_ble_eq_true rfl) (fun _u M14 h15 => ?_)
      refine zg_iinc C 7 (v7 + (1 : Int32)) [(7, .int (v7 + (1 : Int32))), (0, .ref (zad E 40 0)), (1, .int c1), (2, .int c2), (3, .int c3), (4, .int c4), (5, .int c5), (6, .int c6)] 101 rfl dX8_line_98 rfl (congrArg (fun z : Int32 => v7 + z) (by decide : Int32.ofInt (1) = (1 : Int32))) (by decide) rfl ?_
      refine zg_goto C 80 dX8_line_101 (by decide) ?_
      refine zg_sub [1, 2, 3, 4, 5, 6, 7, 0] [(0, .ref (zad E 40 0)), (1, .int c1), (2, .int c2), (3, .int c3), (4, .int c4), (5, .int c5), (6, .int c6), (7, .int (v7 + (1 : Int32)))] rfl ?_
      exact ih M14 (v7 + (1 : Int32))
set_option maxHeartbeats 4000000 in
set_option maxRecDepth 100000 in
theorem tM_line_L135 {p : Program} {l : Launch} {e : Env} {R : Room} {s : State} {m : MethodId} {args : Array Value} {below : List Frame} {meth : Method} {c : Code} {E : zE} {A : Nat → Prop} (C : zCx p R s m args meth c cX8_line "TwoTrueModel" E zNM A 9 (some .int) 8) (hD : zD E zNM A) (c1 : Int32) (c2 : Int32) (c3 : Int32) (c4 : Int32) (c5 : Int32) (c6 : Int32) {e161 : zM → Option (Int32 × zM)} (he161 : ∀ (M : zM), zG p l e R s m args below meth c E zNM A 9 zvI zoT 161 [(0, .ref (zad E 40 0)), (1, .int c1), (2, .int c2), (3, .int c3), (4, .int c4), (5, .int c5), (6, .int c6)] [] M (e161 M )) : ∀ (n : Nat) (M : zM) (v8 : Int32), zG p l e R s m args below meth c E zNM A 9 zvI zoT 135 [(0, .ref (zad E 40 0)), (1, .int c1), (2, .int c2), (3, .int c3), (4, .int c4), (5, .int c5), (6, .int c6), (8, .int v8)] [] M (qM_line_L135 c1 c2 c3 c4 c5 c6 e161 n M v8) := by
  intro n
  induction n with
  | zero =>
    intro M v8
    exact zg_none
  | succ n ih =>
    intro M v8
    rw [qM_line_L135]
    refine zg_iload C 7 137 rfl dX8_line_135 rfl ?_
    refine zg_iconst C (4 : Int32) 138 rfl dX8_line_137 (by decide) ?_
    refine zg_icmp_ge C 161 141 rfl dX8_line_138 (by decide) ?_ ?_
    · refine zg_sub [0, 1, 2, 3, 4, 5, 6] [(0, .ref (zad E 40 0)), (1, .int c1), (2, .int c2), (3, .int c3), (4, .int c4), (5, .int c5), (6, .int c6)] rfl ?_
      exact he161 M 
    · refine zg_aload_n C 0 142 rfl dX8_line_141 rfl ?_
      refine fgX8_117 C zn40 145 rfl dX8_line_142 ?_
      refine zg_iload C 7 147 rfl dX8_line_145 rfl ?_
      refine zg_aload_n C 0 148 rfl dX8_line_147 rfl ?_
      refine fgX8_114 C zn40 151 rfl dX8_line_148 ?_
      refine zg_iload C 7 153 rfl dX8_line_151 rfl ?_
      refine zg_iald C 154 rfl dX8_line_153 zn62 rfl ?_
      refine zg_iast C 155 rfl dX8_line_154 zn63 (fun _ _ => rfl) (fun M24 => ?_)
      refine zg_iinc C 7 (v8 + (1 : Int32)) [(8, .int (v8 + (1 : Int32))), (0, .ref (zad E 40 0)), (1, .int c1), (2, .int c2), (3, .int c3), (4, .int c4), (5, .int c5), (6, .int c6)] 158 rfl dX8_line_155 rfl (congrArg (fun z : Int32 => v8 + z) (by decide : Int32.ofInt (1) = (1 : Int32))) (by decide) rfl ?_
      refine zg_goto C 135 dX8_line_158 (by decide) ?_
      refine zg_sub [1, 2, 3, 4, 5, 6, 7, 0] [(0, .ref (zad E 40 0)), (1, .int c1), (2, .int c2), (3, .int c3), (4, .int c4), (5, .int c5), (6, .int c6), (8, .int (v8 + (1 : Int32)))] rfl ?_
      exact ih M24 (v8 + (1 : Int32))
set_option maxHeartbeats 4000000 in
set_option maxRecDepth 100000 in
theorem tM_line_L61 {p : Program} {l : Launch} {e : Env} {R : Room} {s : State} {m : MethodId} {args : Array Value} {below : List Frame} {meth : Method} {c : Code} {E : zE} {A : Nat → Prop} (C : zCx p R s m args meth c cX8_line "TwoTrueModel" E zNM A 9 (some .int) 8) (hD : zD E zNM A) (c1 : Int32) (c2 : Int32) (c3 : Int32) (c4 : Int32) {e167 : zM → Int32 → Option (Int32 × zM)} (he167 : ∀ (M : zM) (u5 : Int32), zG p l e R s m args below meth c E zNM A 9 zvI zoT 167 [(0, .ref (zad E 40 0)), (2, .int c2), (3, .int c3), (5, .int u5)] [] M (e167 M u5)) : ∀ (n : Nat) (M : zM) (v5 : Int32) (v6 : Int32), zG p l e R s m args below meth c E zNM A 9 zvI zoT 61 [(0, .ref (zad E 40 0)), (1, .int c1), (2, .int c2), (3, .int c3), (4, .int c4), (5, .int v5), (6, .int v6)] [] M (qM_line_L61 c1 c2 c3 c4 e167 n M v5 v6) := by
  intro n
  induction n with
  | zero =>
    intro M v5 v6
    exact zg_none
  | succ n ih =>
    intro M v5 v6
    rw [qM_line_L61]
    refine zg_aload_n C 0 62 rfl dX8_line_61 rfl ?_
    refine zg_iload C 4 64 rfl dX8_line_62 rfl ?_
    refine zg_iload_n C 3 65 rfl dX8_line_64 rfl ?_
    refine zg_iload C 6 67 rfl dX8_line_65 rfl ?_
    refine zg_callVI C [.int c4, .int c3, .int v6] 70 rfl dX8_line_67 (tM_layLine hD M c4 c3 v6) rfl (fun _ _ hP _ => zrecv C.2.2.2.2.2.1 hP zn40 rfl rfl) zw1161 zw1158 zw1160 zv50 zw9 oM_layLine (by decide) (Nat.le_of_ble_eq_true rfl) (fun x10 M9 h11 => ?_)
    refine zg_if_eq C 167 73 rfl dX8_line_70 (by decide) ?_ ?_
    · refine zg_sub [0, 2, 3, 5] [(0, .ref (zad E 40 0)), (2, .int c2), (3, .int c3), (5, .int v5)] rfl ?_
      exact he167 M9 v5
    · refine zg_aload_n C 0 74 rfl dX8_line_73 rfl ?_
      refine zg_callVU C [] 77 rfl dX8_line_74 (tM_clearHands hD M9 ) rfl (fun _ _ hP _ => zrecv C.2.2.2.2.2.1 hP zn40 rfl rfl) zw1109 zw1106 zw1108 zv44 zw9 oM_clearHands (by decide) (Nat.le_of_ble_eq_true rfl) (fun _u M12 h13 => ?_)
      refine zg_iconst C (0 : Int32) 78 rfl dX8_line_77 (by decide) ?_
      refine zg_istore C 7 [(7, .int (0 : Int32)), (0, .ref (zad E 40 0)), (1, .int c1), (2, .int c2), (3, .int c3), (4, .int c4), (5, .int v5), (6, .int v6)] 80 rfl dX8_line_78 (by decide) rfl ?_
      refine zg_sub [1, 2, 3, 4, 5, 6, 7, 0] [(0, .ref (zad E 40 0)), (1, .int c1), (2, .int c2), (3, .int c3), (4, .int c4), (5, .int v5), (6, .int v6), (7, .int (0 : Int32))] rfl ?_
      refine tM_line_L80 C hD c1 c2 c3 c4 v5 v6 (fun M16 => ?_) 1000 M12 (0 : Int32)
      · refine zg_iload_n C 3 105 rfl dX8_line_104 rfl ?_
        refine zg_aload_n C 0 106 rfl dX8_line_105 rfl ?_
        refine fgX8_96 C zn40 109 rfl dX8_line_106 ?_
        refine zg_aload_n C 0 110 rfl dX8_line_109 rfl ?_
        refine zg_iload_n C 1 111 rfl dX8_line_110 rfl ?_
        refine zg_callVI C [.int c1] 114 rfl dX8_line_111 (tM_liePlace hD M16 c1) rfl (fun _ _ hP _ => zrecv C.2.2.2.2.2.1 hP zn40 rfl rfl) zw1129 zw1126 zw1128 zv49 zw9 oM_liePlace (by decide) (Nat.le_of_ble_eq_true rfl) (fun x18 M17 h19 => ?_)
        refine zg_iald C 115 rfl dX8_line_114 zn59 rfl ?_
        refine zg_isub C 116 rfl dX8_line_115 ?_
        refine zg_nmI (fun x20 => ?_)
        refine zg_istore C 7 [(7, .int x20), (0, .ref (zad E 40 0)), (1, .int c1), (2, .int c2), (3, .int c3), (4, .int c4), (5, .int v5), (6, .int v6)] 118 rfl dX8_line_116 (by decide) rfl ?_
        refine zg_iload C 0 120 rfl dX8_line_118 rfl ?_
        refine zg_iload C 6 122 rfl dX8_line_120 rfl ?_
        refine zg_jn (fun j23 => ∀ (M22 : zM) (x21 : Int32), zG p l e R s m args below meth c E zNM A 9 zvI zoT 161 [(0, .ref (zad E 40 0)), (1, .int c1), (2, .int c2), (3, .int c3), (4, .int c4), (5, .int x21), (6, .int v6)] [] M22 (j23 M22 x21)) (fun M22 x21 => ?_) (fun j23 hj23 => ?_)
        · refine zg_iinc C 6 (v6 + (1 : Int32)) [(6, .int (v6 + (1 : Int32))), (0, .ref (zad E 40 0)), (1, .int c1), (2, .int c2), (3, .int c3), (4, .int c4), (5, .int x21)] 164 rfl dX8_line_161 rfl (congrArg (fun z : Int32 => v6 + z) (by decide : Int32.ofInt (1) = (1 : Int32))) (by decide) rfl ?_
          refine zg_goto C 61 dX8_line_164 (by decide) ?_
          refine zg_sub [1, 2, 3, 4, 5, 6, 0] [(0, .ref (zad E 40 0)), (1, .int c1), (2, .int c2), (3, .int c3), (4, .int c4), (5, .int x21), (6, .int (v6 + (1 : Int32)))] rfl ?_
          exact ih M22 x21 (v6 + (1 : Int32))
        · refine zg_icmp_lt C 128 125 rfl dX8_line_122 (by decide) ?_ ?_
          · refine zg_iload C 0 130 rfl dX8_line_128 rfl ?_
            refine zg_istore C 5 [(5, .int x20), (7, .int x20), (0, .ref (zad E 40 0)), (1, .int c1), (2, .int c2), (3, .int c3), (4, .int c4), (6, .int v6)] 132 rfl dX8_line_130 (by decide) rfl ?_
            refine zg_iconst C (0 : Int32) 133 rfl dX8_line_132 (by decide) ?_
            refine zg_istore C 8 [(8, .int (0 : Int32)), (5, .int x20), (7, .int x20), (0, .ref (zad E 40 0)), (1, .int c1), (2, .int c2), (3, .int c3), (4, .int c4), (6, .int v6)] 135 rfl dX8_line_133 (by decide) rfl ?_
            refine zg_sub [3, 4, 5, 6, 7, 1, 8, 0] [(0, .ref (zad E 40 0)), (1, .int c1), (2, .int c2), (3, .int c3), (4, .int c4), (5, .int x20), (6, .int v6), (8, .int (0 : Int32))] rfl ?_
            refine tM_line_L135 C hD c1 c2 c3 c4 x20 v6 (fun M25 => ?_) 1000 M17 (0 : Int32)
            · exact hj23 M25 x20
          · refine zg_goto C 161 dX8_line_125 (by decide) ?_
            refine zg_sub [1, 2, 3, 4, 5, 6, 7] [(0, .ref (zad E 40 0)), (1, .int c1), (2, .int c2), (3, .int c3), (4, .int c4), (5, .int v5), (6, .int v6)] rfl ?_
            exact hj23 M17 v5
set_option maxHeartbeats 4000000 in
set_option maxRecDepth 100000 in
theorem tM_line {l : Launch} {E : zE} {A : Nat → Prop} (hD : zD E zNM A) (M : zM) (a0 : Int32) (a1 : Int32) : zCT l yX8_line cX8_line 9 (some .int) 8 E zNM A [.ref (zad E 40 0), .int a0, .int a1] M zvI zoT (qM_line  M a0 a1) := by
  refine zCT_of (by decide) hD (by first | decide | exact Nat.le_of_ble_eq_true rfl) (fun p e R s m args below meth c C => ?_)
  have C : zCx p R s m args meth c cX8_line "TwoTrueModel" E zNM A 9 (some .int) 8 := C
  unfold qM_line
  refine zg_sub [0, 1, 2] [(0, .ref (zad E 40 0)), (1, .int a0), (2, .int a1)] rfl ?_
  refine zg_aload_n C 0 1 rfl dX8_line_0 rfl ?_
  refine zg_iload_n C 1 2 rfl dX8_line_1 rfl ?_
  refine zg_callVI C [.int a0] 5 rfl dX8_line_2 (tM_isPerson hD M a0) rfl (fun _ _ hP _ => zrecv C.2.2.2.2.2.1 hP zn40 rfl rfl) zw977 zw974 zw976 zv20 zw9 oM_isPerson (by decide) (Nat.le_of_ble_eq_true rfl) (fun x2 M1 h3 => ?_)
  refine zg_if_eq C 18 8 rfl dX8_line_5 (by decide) ?_ ?_
  · refine zg_iconst C (-1 : Int32) 19 rfl dX8_line_18 (by decide) ?_
    exact zg_iret C dX8_line_19 trivial
  · refine zg_aload_n C 0 9 rfl dX8_line_8 rfl ?_
    refine zg_iload_n C 2 10 rfl dX8_line_9 rfl ?_
    refine zg_iconst C (-1 : Int32) 11 rfl dX8_line_10 (by decide) ?_
    refine zg_iconst C (3 : Int32) 12 rfl dX8_line_11 (by decide) ?_
    refine zg_callVI C [.int a1, .int (-1 : Int32), .int (3 : Int32)] 15 rfl dX8_line_12 (tM_in hD M1 a1 (-1 : Int32) (3 : Int32)) rfl (fun _ _ hP _ => zrecv C.2.2.2.2.2.1 hP zn40 rfl rfl) zw969 zw966 zw968 zv19 zw9 oM_in (by decide) (Nat.le_of_ble_eq_true rfl) (fun x5 M4 h6 => ?_)
    refine zg_if_ne C 20 18 rfl dX8_line_15 (by decide) ?_ ?_
    · refine zg_iconst C (-1 : Int32) 19 rfl dX8_line_18 (by decide) ?_
      exact zg_iret C dX8_line_19 trivial
    · refine zg_aload_n C 0 21 rfl dX8_line_20 rfl ?_
      refine fgX8_7 C zn40 24 rfl dX8_line_21 ?_
      refine zg_iconst C (5 : Int32) 25 rfl dX8_line_24 (by decide) ?_
      refine zg_icmp_le C 31 28 rfl dX8_line_25 (by decide) ?_ ?_
      · refine zg_aload_n C 0 32 rfl dX8_line_31 rfl ?_
        refine fgX8_7 C zn40 35 rfl dX8_line_32 ?_
        refine zg_iconst C (1 : Int32) 36 rfl dX8_line_35 (by decide) ?_
        refine zg_isub C 37 rfl dX8_line_36 ?_
        refine zg_nmI (fun x7 => ?_)
        refine zg_istore_n C 3 [(3, .int x7), (0, .ref (zad E 40 0)), (1, .int a0), (2, .int a1)] 38 rfl dX8_line_37 rfl (by decide) rfl ?_
        refine zg_iconst C (1 : Int32) 39 rfl dX8_line_38 (by decide) ?_
        refine zg_aload_n C 1 40 rfl dX8_line_39 rfl ?_
        refine fgX8_7 C zn40 43 rfl dX8_line_40 ?_
        refine zg_ishl C 44 rfl dX8_line_43 ?_
        refine zg_iconst C (1 : Int32) 45 rfl dX8_line_44 (by decide) ?_
        refine zg_isub C 46 rfl dX8_line_45 ?_
        refine zg_iconst C (1 : Int32) 47 rfl dX8_line_46 (by decide) ?_
        refine zg_iload_n C 2 48 rfl dX8_line_47 rfl ?_
        refine zg_ishl C 49 rfl dX8_line_48 ?_
        refine zg_iconst C (-1 : Int32) 50 rfl dX8_line_49 (by decide) ?_
        refine zg_ixor C 51 rfl dX8_line_50 ?_
        refine zg_iand C 52 rfl dX8_line_51 ?_
        refine zg_nmI (fun x8 => ?_)
        refine zg_istore C 4 [(4, .int x8), (3, .int x7), (0, .ref (zad E 40 0)), (1, .int a0), (2, .int a1)] 54 rfl dX8_line_52 (by decide) rfl ?_
        refine zg_bipush C (99 : Int32) 56 rfl dX8_line_54 (by decide) ?_
        refine zg_istore C 5 [(5, .int (99 : Int32)), (4, .int x8), (3, .int x7), (0, .ref (zad E 40 0)), (1, .int a0), (2, .int a1)] 58 rfl dX8_line_56 (by decide) rfl ?_
        refine zg_iconst C (0 : Int32) 59 rfl dX8_line_58 (by decide) ?_
        refine zg_istore C 6 [(6, .int (0 : Int32)), (5, .int (99 : Int32)), (4, .int x8), (3, .int x7), (0, .ref (zad E 40 0)), (1, .int a0), (2, .int a1)] 61 rfl dX8_line_59 (by decide) rfl ?_
        refine zg_sub [4, 5, 6, 3, 2, 1, 0] [(0, .ref (zad E 40 0)), (1, .int a0), (2, .int a1), (3, .int x7), (4, .int x8), (5, .int (99 : Int32)), (6, .int (0 : Int32))] rfl ?_
        refine tM_line_L61 C hD a0 a1 x7 x8 (fun M26 x27 => ?_) 1000 M4 (99 : Int32) (0 : Int32)
        · refine zg_iload_n C 1 168 rfl dX8_line_167 rfl ?_
          refine zg_if_ge C 176 171 rfl dX8_line_168 (by decide) ?_ ?_
          · refine zg_iload_n C 1 177 rfl dX8_line_176 rfl ?_
            refine zg_iload_n C 2 178 rfl dX8_line_177 rfl ?_
            refine zg_icmp_ge C 190 181 rfl dX8_line_178 (by decide) ?_ ?_
            · refine zg_bipush C (-5 : Int32) 192 rfl dX8_line_190 (by decide) ?_
              exact zg_iret C dX8_line_192 trivial
            · refine zg_aload_n C 0 182 rfl dX8_line_181 rfl ?_
              refine fgX8_117 C zn40 185 rfl dX8_line_182 ?_
              refine zg_iload_n C 1 186 rfl dX8_line_185 rfl ?_
              refine zg_iald C 187 rfl dX8_line_186 zn63 rfl ?_
              refine zg_goto C 192 dX8_line_187 (by decide) ?_
              exact zg_iret C dX8_line_192 trivial
          · refine zg_iload C 3 173 rfl dX8_line_171 rfl ?_
            refine zg_goto C 192 dX8_line_173 (by decide) ?_
            exact zg_iret C dX8_line_192 trivial
      · refine zg_bipush C (-9 : Int32) 30 rfl dX8_line_28 (by decide) ?_
        exact zg_iret C dX8_line_30 trivial
set_option maxHeartbeats 4000000 in
set_option maxRecDepth 100000 in
theorem tM_guestTells {l : Launch} {E : zE} {A : Nat → Prop} (hD : zD E zNM A) (M : zM) (a0 : Int32) (a1 : Int32) : zCT l yX8_guestTells cX8_guestTells 3 (some .int) 8 E zNM A [.ref (zad E 40 0), .int a0, .int a1] M zvI zoT (qM_guestTells  M a0 a1) := by
  refine zCT_of (by decide) hD (by first | decide | exact Nat.le_of_ble_eq_true rfl) (fun p e R s m args below meth c C => ?_)
  have C : zCx p R s m args meth c cX8_guestTells "TwoTrueModel" E zNM A 3 (some .int) 8 := C
  unfold qM_guestTells
  refine zg_sub [0, 1, 2] [(0, .ref (zad E 40 0)), (1, .int a0), (2, .int a1)] rfl ?_
  refine zg_aload_n C 0 1 rfl dX8_guestTells_0 rfl ?_
  refine zg_bipush C (12 : Int32) 3 rfl dX8_guestTells_1 (by decide) ?_
  refine zg_callVU C [.int (12 : Int32)] 6 rfl dX8_guestTells_3 (tM_body hD M (12 : Int32)) rfl (fun _ _ hP _ => zrecv C.2.2.2.2.2.1 hP zn40 rfl rfl) zw1238 zw1235 zw1237 zv57 zw9 oM_body (by decide) (Nat.le_of_ble_eq_true rfl) (fun _u M1 h2 => ?_)
  refine zg_aload_n C 0 7 rfl dX8_guestTells_6 rfl ?_
  refine zg_iload_n C 1 8 rfl dX8_guestTells_7 rfl ?_
  refine zg_iload_n C 2 9 rfl dX8_guestTells_8 rfl ?_
  refine zg_callVI C [.int a0, .int a1] 12 rfl dX8_guestTells_9 (tM_guessesAct hD M1 a0 a1) rfl (fun _ _ hP _ => zrecv C.2.2.2.2.2.1 hP zn40 rfl rfl) zw1246 zw1243 zw1245 zv59 zw9 oM_guessesAct (by decide) (Nat.le_of_ble_eq_true rfl) (fun x4 M3 h5 => ?_)
  refine zg_iconst C (2 : Int32) 13 rfl dX8_guestTells_12 (by decide) ?_
  refine zg_imul C 14 rfl dX8_guestTells_13 ?_
  exact zg_iret C dX8_guestTells_14 trivial
set_option maxHeartbeats 4000000 in
set_option maxRecDepth 100000 in
theorem tM_evening {l : Launch} {E : zE} {A : Nat → Prop} (hD : zD E zNM A) (M : zM) : zCT l yX8_evening cX8_evening 2 (some .int) 9 E zNM A [.ref (zad E 40 0)] M zvI zoT (qM_evening  M ) := by
  refine zCT_of (by decide) hD (by first | decide | exact Nat.le_of_ble_eq_true rfl) (fun p e R s m args below meth c C => ?_)
  have C : zCx p R s m args meth c cX8_evening "TwoTrueModel" E zNM A 2 (some .int) 9 := C
  unfold qM_evening
  refine zg_sub [0] [(0, .ref (zad E 40 0))] rfl ?_
  refine zg_aload_n C 0 1 rfl dX8_evening_0 rfl ?_
  refine fgX8_41 C zn40 4 rfl dX8_evening_1 ?_
  refine zg_bipush C (6 : Int32) 6 rfl dX8_evening_4 (by decide) ?_
  refine zg_icmp_ne C 12 9 rfl dX8_evening_6 (by decide) ?_ ?_
  · refine zg_bipush C (-4 : Int32) 11 rfl dX8_evening_9 (by decide) ?_
    exact zg_iret C dX8_evening_11 trivial
  · refine zg_aload_n C 0 13 rfl dX8_evening_12 rfl ?_
    refine zg_aload_n C 0 14 rfl dX8_evening_13 rfl ?_
    refine fgX8_41 C zn40 17 rfl dX8_evening_14 ?_
    refine zg_callVI C [.int (M.1 40 0 10)] 20 rfl dX8_evening_17 (tM_goesText hD M (M.1 40 0 10)) rfl (fun _ _ hP _ => zrecv C.2.2.2.2.2.1 hP zn40 rfl rfl) zw1009 zw1006 zw1008 zv22 zw9 oM_goesText (by decide) (Nat.le_of_ble_eq_true rfl) (fun x2 M1 h3 => ?_)
    refine zg_istore_n C 1 [(1, .int x2), (0, .ref (zad E 40 0))] 21 rfl dX8_evening_20 rfl (by decide) rfl ?_
    refine zg_aload_n C 1 22 rfl dX8_evening_21 rfl ?_
    refine zg_iconst C (0 : Int32) 23 rfl dX8_evening_22 (by decide) ?_
    refine fpX8_47 C zn40 26 rfl dX8_evening_23 (fun M4 => ?_)
    refine zg_iload_n C 0 27 rfl dX8_evening_26 rfl ?_
    refine zg_if_ne C 38 30 rfl dX8_evening_27 (by decide) ?_ ?_
    · refine zg_bipush C (-10 : Int32) 32 rfl dX8_evening_30 (by decide) ?_
      refine zg_aload_n C 1 33 rfl dX8_evening_32 rfl ?_
      refine fgX8_50 C zn40 36 rfl dX8_evening_33 ?_
      refine zg_isub C 37 rfl dX8_evening_36 ?_
      exact zg_iret C dX8_evening_37 trivial
    · refine zg_aload_n C 1 39 rfl dX8_evening_38 rfl ?_
      refine zg_aload_n C 1 40 rfl dX8_evening_39 rfl ?_
      refine fgX8_41 C zn40 43 rfl dX8_evening_40 ?_
      refine fpX8_44 C zn40 46 rfl dX8_evening_43 (fun M5 => ?_)
      refine zg_aload_n C 1 47 rfl dX8_evening_46 rfl ?_
      refine zg_dup C rfl 48 rfl dX8_evening_47 ?_
      refine fgX8_41 C zn40 51 rfl dX8_evening_48 ?_
      refine zg_iconst C (1 : Int32) 52 rfl dX8_evening_51 (by decide) ?_
      refine zg_iadd C 53 rfl dX8_evening_52 ?_
      refine fpX8_41 C zn40 56 rfl dX8_evening_53 (fun M6 => ?_)
      refine zg_aload_n C 1 57 rfl dX8_evening_56 rfl ?_
      refine fgX8_44 C zn40 60 rfl dX8_evening_57 ?_
      exact zg_iret C dX8_evening_60 trivial
set_option maxHeartbeats 4000000 in
set_option maxRecDepth 100000 in
theorem tM_goRound_L15 {p : Program} {l : Launch} {e : Env} {R : Room} {s : State} {m : MethodId} {args : Array Value} {below : List Frame} {meth : Method} {c : Code} {E : zE} {A : Nat → Prop} (C : zCx p R s m args meth c cX8_goRound "TwoTrueModel" E zNM A 5 (some .int) 9) (hD : zD E zNM A) (c1 : Int32) (c2 : Int32) (c3 : Int32) {e58 : zM → Option (Int32 × zM)} (he58 : ∀ (M : zM), zG p l e R s m args below meth c E zNM A 5 zvI zoT 58 [(0, .ref (zad E 40 0)), (1, .int c1), (2, .int c2)] [] M (e58 M )) : ∀ (n : Nat) (M : zM) (v4 : Int32), zG p l e R s m args below meth c E zNM A 5 zvI zoT 15 [(0, .ref (zad E 40 0)), (1, .int c1), (2, .int c2), (3, .int c3), (4, .int v4)] [] M (qM_goRound_L15 c1 c2 c3 e58 n M v4) := by
  intro n
  induction n with
  | zero =>
    intro M v4
    exact zg_none
  | succ n ih =>
    intro M v4
    rw [qM_goRound_L15]
    refine zg_iload C 4 17 rfl dX8_goRound_15 rfl ?_
    refine zg_aload_n C 0 18 rfl dX8_goRound_17 rfl ?_
    refine fgX8_7 C zn40 21 rfl dX8_goRound_18 ?_
    refine zg_icmp_ge C 58 24 rfl dX8_goRound_21 (by decide) ?_ ?_
    · refine zg_sub [0, 1, 2] [(0, .ref (zad E 40 0)), (1, .int c1), (2, .int c2)] rfl ?_
      exact he58 M 
    · refine zg_iload C 4 26 rfl dX8_goRound_24 rfl ?_
      refine zg_iload_n C 1 27 rfl dX8_goRound_26 rfl ?_
      refine zg_jn (fun j8 => ∀ (M7 : zM), zG p l e R s m args below meth c E zNM A 5 zvI zoT 52 [(0, .ref (zad E 40 0)), (1, .int c1), (2, .int c2), (3, .int c3), (4, .int v4)] [] M7 (j8 M7 )) (fun M7 => ?_) (fun j8 hj8 => ?_)
      · refine zg_iinc C 4 (v4 + (1 : Int32)) [(4, .int (v4 + (1 : Int32))), (0, .ref (zad E 40 0)), (1, .int c1), (2, .int c2), (3, .int c3)] 55 rfl dX8_goRound_52 rfl (congrArg (fun z : Int32 => v4 + z) (by decide : Int32.ofInt (1) = (1 : Int32))) (by decide) rfl ?_
        refine zg_goto C 15 dX8_goRound_55 (by decide) ?_
        refine zg_sub [1, 2, 3, 4, 0] [(0, .ref (zad E 40 0)), (1, .int c1), (2, .int c2), (3, .int c3), (4, .int (v4 + (1 : Int32)))] rfl ?_
        exact ih M7 (v4 + (1 : Int32))
      · refine zg_icmp_eq C 52 30 rfl dX8_goRound_27 (by decide) ?_ ?_
        · exact hj8 M 
        · refine zg_aload_n C 0 31 rfl dX8_goRound_30 rfl ?_
          refine fgX8_99 C zn40 34 rfl dX8_goRound_31 ?_
          refine zg_iload C 4 36 rfl dX8_goRound_34 rfl ?_
          refine zg_iald C 37 rfl dX8_goRound_36 zn60 rfl ?_
          refine zg_iload_n C 3 38 rfl dX8_goRound_37 rfl ?_
          refine zg_icmp_ne C 52 41 rfl dX8_goRound_38 (by decide) ?_ ?_
          · refine zg_aload_n C 0 42 rfl dX8_goRound_41 rfl ?_
            refine fgX8_23 C zn40 45 rfl dX8_goRound_42 ?_
            refine zg_iload C 4 47 rfl dX8_goRound_45 rfl ?_
            refine zg_dup2 C rfl rfl 48 rfl dX8_goRound_47 ?_
            refine zg_iald C 49 rfl dX8_goRound_48 zn43 rfl ?_
            refine zg_iconst C (1 : Int32) 50 rfl dX8_goRound_49 (by decide) ?_
            refine zg_iadd C 51 rfl dX8_goRound_50 ?_
            refine zg_iast C 52 rfl dX8_goRound_51 zn43 (fun _ _ => rfl) (fun M9 => ?_)
            exact hj8 M9 
          · exact hj8 M 
set_option maxHeartbeats 4000000 in
set_option maxRecDepth 100000 in
theorem tM_goRound {l : Launch} {E : zE} {A : Nat → Prop} (hD : zD E zNM A) (M : zM) (a0 : Int32) : zCT l yX8_goRound cX8_goRound 5 (some .int) 9 E zNM A [.ref (zad E 40 0), .int a0] M zvI zoT (qM_goRound  M a0) := by
  refine zCT_of (by decide) hD (by first | decide | exact Nat.le_of_ble_eq_true rfl) (fun p e R s m args below meth c C => ?_)
  have C : zCx p R s m args meth c cX8_goRound "TwoTrueModel" E zNM A 5 (some .int) 9 := C
  unfold qM_goRound
  refine zg_sub [0, 1] [(0, .ref (zad E 40 0)), (1, .int a0)] rfl ?_
  refine zg_aload_n C 0 1 rfl dX8_goRound_0 rfl ?_
  refine zg_iload_n C 1 2 rfl dX8_goRound_1 rfl ?_
  refine zg_callVI C [.int a0] 5 rfl dX8_goRound_2 (tM_goes hD M a0) rfl (fun _ _ hP _ => zrecv C.2.2.2.2.2.1 hP zn40 rfl rfl) zw1105 zw1102 zw1104 zv43 zw9 oM_goes (by decide) (Nat.le_of_ble_eq_true rfl) (fun x2 M1 h3 => ?_)
  refine zg_istore_n C 2 [(2, .int x2), (0, .ref (zad E 40 0)), (1, .int a0)] 6 rfl dX8_goRound_5 rfl (by decide) rfl ?_
  refine zg_aload_n C 1 7 rfl dX8_goRound_6 rfl ?_
  refine zg_iload_n C 2 8 rfl dX8_goRound_7 rfl ?_
  refine zg_callVI C [.int a0] 11 rfl dX8_goRound_8 (tM_liePlace hD M1 a0) rfl (fun _ _ hP _ => zrecv C.2.2.2.2.2.1 hP zn40 rfl rfl) zw1129 zw1126 zw1128 zv49 zw9 oM_liePlace (by decide) (Nat.le_of_ble_eq_true rfl) (fun x5 M4 h6 => ?_)
  refine zg_istore_n C 3 [(3, .int x5), (2, .int x2), (0, .ref (zad E 40 0)), (1, .int a0)] 12 rfl dX8_goRound_11 rfl (by decide) rfl ?_
  refine zg_iconst C (0 : Int32) 13 rfl dX8_goRound_12 (by decide) ?_
  refine zg_istore C 4 [(4, .int (0 : Int32)), (3, .int x5), (2, .int x2), (0, .ref (zad E 40 0)), (1, .int a0)] 15 rfl dX8_goRound_13 (by decide) rfl ?_
  refine zg_sub [3, 4, 2, 1, 0] [(0, .ref (zad E 40 0)), (1, .int a0), (2, .int x2), (3, .int x5), (4, .int (0 : Int32))] rfl ?_
  refine tM_goRound_L15 C hD a0 x2 x5 (fun M10 => ?_) 1000 M4 (0 : Int32)
  · refine zg_aload_n C 0 59 rfl dX8_goRound_58 rfl ?_
    refine fgX8_23 C zn40 62 rfl dX8_goRound_59 ?_
    refine zg_iload_n C 1 63 rfl dX8_goRound_62 rfl ?_
    refine zg_dup2 C rfl rfl 64 rfl dX8_goRound_63 ?_
    refine zg_iald C 65 rfl dX8_goRound_64 zn43 rfl ?_
    refine zg_iload_n C 2 66 rfl dX8_goRound_65 rfl ?_
    refine zg_iadd C 67 rfl dX8_goRound_66 ?_
    refine zg_iast C 68 rfl dX8_goRound_67 zn43 (fun _ _ => rfl) (fun M11 => ?_)
    refine zg_aload_n C 0 69 rfl dX8_goRound_68 rfl ?_
    refine zg_dup C rfl 70 rfl dX8_goRound_69 ?_
    refine fgX8_13 C zn40 73 rfl dX8_goRound_70 ?_
    refine zg_iconst C (1 : Int32) 74 rfl dX8_goRound_73 (by decide) ?_
    refine zg_iadd C 75 rfl dX8_goRound_74 ?_
    refine fpX8_13 C zn40 78 rfl dX8_goRound_75 (fun M12 => ?_)
    refine zg_iload_n C 2 79 rfl dX8_goRound_78 rfl ?_
    exact zg_iret C dX8_goRound_79 trivial
set_option maxHeartbeats 4000000 in
set_option maxRecDepth 100000 in
theorem tM_guess {l : Launch} {E : zE} {A : Nat → Prop} (hD : zD E zNM A) (M : zM) (a0 : Int32) (a1 : Int32) : zCT l yX8_guess cX8_guess 4 (some .int) 9 E zNM A [.ref (zad E 40 0), .int a0, .int a1] M zvI zoT (qM_guess  M a0 a1) := by
  refine zCT_of (by decide) hD (by first | decide | exact Nat.le_of_ble_eq_true rfl) (fun p e R s m args below meth c C => ?_)
  have C : zCx p R s m args meth c cX8_guess "TwoTrueModel" E zNM A 4 (some .int) 9 := C
  unfold qM_guess
  refine zg_sub [0, 1, 2] [(0, .ref (zad E 40 0)), (1, .int a0), (2, .int a1)] rfl ?_
  refine zg_aload_n C 0 1 rfl dX8_guess_0 rfl ?_
  refine zg_iload_n C 1 2 rfl dX8_guess_1 rfl ?_
  refine zg_callVI C [.int a0] 5 rfl dX8_guess_2 (tM_isPerson hD M a0) rfl (fun _ _ hP _ => zrecv C.2.2.2.2.2.1 hP zn40 rfl rfl) zw977 zw974 zw976 zv20 zw9 oM_isPerson (by decide) (Nat.le_of_ble_eq_true rfl) (fun x2 M1 h3 => ?_)
  refine zg_if_eq C 16 8 rfl dX8_guess_5 (by decide) ?_ ?_
  · refine zg_iconst C (-1 : Int32) 17 rfl dX8_guess_16 (by decide) ?_
    exact zg_iret C dX8_guess_17 trivial
  · refine zg_aload_n C 0 9 rfl dX8_guess_8 rfl ?_
    refine zg_iload_n C 2 10 rfl dX8_guess_9 rfl ?_
    refine zg_callVI C [.int a1] 13 rfl dX8_guess_10 (tM_isPerson hD M1 a1) rfl (fun _ _ hP _ => zrecv C.2.2.2.2.2.1 hP zn40 rfl rfl) zw977 zw974 zw976 zv20 zw9 oM_isPerson (by decide) (Nat.le_of_ble_eq_true rfl) (fun x5 M4 h6 => ?_)
    refine zg_if_ne C 18 16 rfl dX8_guess_13 (by decide) ?_ ?_
    · refine zg_iconst C (-1 : Int32) 17 rfl dX8_guess_16 (by decide) ?_
      exact zg_iret C dX8_guess_17 trivial
    · refine zg_iload_n C 1 19 rfl dX8_guess_18 rfl ?_
      refine zg_iload_n C 2 20 rfl dX8_guess_19 rfl ?_
      refine zg_icmp_ne C 26 23 rfl dX8_guess_20 (by decide) ?_ ?_
      · refine zg_bipush C (-2 : Int32) 25 rfl dX8_guess_23 (by decide) ?_
        exact zg_iret C dX8_guess_25 trivial
      · refine zg_aload_n C 0 27 rfl dX8_guess_26 rfl ?_
        refine zg_iload_n C 2 28 rfl dX8_guess_27 rfl ?_
        refine zg_callVI C [.int a1] 31 rfl dX8_guess_28 (tM_goes hD M4 a1) rfl (fun _ _ hP _ => zrecv C.2.2.2.2.2.1 hP zn40 rfl rfl) zw1105 zw1102 zw1104 zv43 zw9 oM_goes (by decide) (Nat.le_of_ble_eq_true rfl) (fun x8 M7 h9 => ?_)
        refine zg_istore_n C 3 [(3, .int x8), (0, .ref (zad E 40 0)), (1, .int a0), (2, .int a1)] 32 rfl dX8_guess_31 rfl (by decide) rfl ?_
        refine zg_aload_n C 1 33 rfl dX8_guess_32 rfl ?_
        refine fgX8_99 C zn40 36 rfl dX8_guess_33 ?_
        refine zg_iload_n C 2 37 rfl dX8_guess_36 rfl ?_
        refine zg_iald C 38 rfl dX8_guess_37 zn60 rfl ?_
        exact zg_iret C dX8_guess_38 trivial
set_option maxHeartbeats 4000000 in
set_option maxRecDepth 100000 in
theorem tM_hands {l : Launch} {E : zE} {A : Nat → Prop} (hD : zD E zNM A) (M : zM) (a0 : Int32) (a1 : Int32) : zCT l yX8_hands cX8_hands 4 (some .int) 9 E zNM A [.ref (zad E 40 0), .int a0, .int a1] M zvI zoT (qM_hands  M a0 a1) := by
  refine zCT_of (by decide) hD (by first | decide | exact Nat.le_of_ble_eq_true rfl) (fun p e R s m args below meth c C => ?_)
  have C : zCx p R s m args meth c cX8_hands "TwoTrueModel" E zNM A 4 (some .int) 9 := C
  unfold qM_hands
  refine zg_sub [0, 1, 2] [(0, .ref (zad E 40 0)), (1, .int a0), (2, .int a1)] rfl ?_
  refine zg_aload_n C 0 1 rfl dX8_hands_0 rfl ?_
  refine zg_iload_n C 1 2 rfl dX8_hands_1 rfl ?_
  refine zg_callVI C [.int a0] 5 rfl dX8_hands_2 (tM_isPerson hD M a0) rfl (fun _ _ hP _ => zrecv C.2.2.2.2.2.1 hP zn40 rfl rfl) zw977 zw974 zw976 zv20 zw9 oM_isPerson (by decide) (Nat.le_of_ble_eq_true rfl) (fun x2 M1 h3 => ?_)
  refine zg_if_eq C 18 8 rfl dX8_hands_5 (by decide) ?_ ?_
  · refine zg_iconst C (-1 : Int32) 19 rfl dX8_hands_18 (by decide) ?_
    exact zg_iret C dX8_hands_19 trivial
  · refine zg_aload_n C 0 9 rfl dX8_hands_8 rfl ?_
    refine zg_iload_n C 2 10 rfl dX8_hands_9 rfl ?_
    refine zg_iconst C (0 : Int32) 11 rfl dX8_hands_10 (by decide) ?_
    refine zg_iconst C (3 : Int32) 12 rfl dX8_hands_11 (by decide) ?_
    refine zg_callVI C [.int a1, .int (0 : Int32), .int (3 : Int32)] 15 rfl dX8_hands_12 (tM_in hD M1 a1 (0 : Int32) (3 : Int32)) rfl (fun _ _ hP _ => zrecv C.2.2.2.2.2.1 hP zn40 rfl rfl) zw969 zw966 zw968 zv19 zw9 oM_in (by decide) (Nat.le_of_ble_eq_true rfl) (fun x5 M4 h6 => ?_)
    refine zg_if_ne C 20 18 rfl dX8_hands_15 (by decide) ?_ ?_
    · refine zg_iconst C (-1 : Int32) 19 rfl dX8_hands_18 (by decide) ?_
      exact zg_iret C dX8_hands_19 trivial
    · refine zg_aload_n C 0 21 rfl dX8_hands_20 rfl ?_
      refine zg_iload_n C 1 22 rfl dX8_hands_21 rfl ?_
      refine zg_callVI C [.int a0] 25 rfl dX8_hands_22 (tM_goes hD M4 a0) rfl (fun _ _ hP _ => zrecv C.2.2.2.2.2.1 hP zn40 rfl rfl) zw1105 zw1102 zw1104 zv43 zw9 oM_goes (by decide) (Nat.le_of_ble_eq_true rfl) (fun x8 M7 h9 => ?_)
      refine zg_istore_n C 3 [(3, .int x8), (0, .ref (zad E 40 0)), (1, .int a0), (2, .int a1)] 26 rfl dX8_hands_25 rfl (by decide) rfl ?_
      refine zg_iload_n C 3 27 rfl dX8_hands_26 rfl ?_
      refine zg_iconst C (3 : Int32) 28 rfl dX8_hands_27 (by decide) ?_
      refine zg_icmp_ge C 40 31 rfl dX8_hands_28 (by decide) ?_ ?_
      · refine zg_iload_n C 0 41 rfl dX8_hands_40 rfl ?_
        exact zg_iret C dX8_hands_41 trivial
      · refine zg_aload_n C 1 32 rfl dX8_hands_31 rfl ?_
        refine fgX8_96 C zn40 35 rfl dX8_hands_32 ?_
        refine zg_iload_n C 3 36 rfl dX8_hands_35 rfl ?_
        refine zg_iald C 37 rfl dX8_hands_36 zn59 rfl ?_
        refine zg_goto C 41 dX8_hands_37 (by decide) ?_
        exact zg_iret C dX8_hands_41 trivial
set_option maxHeartbeats 4000000 in
set_option maxRecDepth 100000 in
theorem tM_order_L49 {p : Program} {l : Launch} {e : Env} {R : Room} {s : State} {m : MethodId} {args : Array Value} {below : List Frame} {meth : Method} {c : Code} {E : zE} {A : Nat → Prop} (C : zCx p R s m args meth c cX8_order "TwoTrueModel" E zNM A 7 (some .int) 9) (hD : zD E zNM A) (c1 : Int32) (c2 : Int32) (c3 : Int32) (c4 : Int32) {e120 : zM → Option (Int32 × zM)} (he120 : ∀ (M : zM), zG p l e R s m args below meth c E zNM A 7 zvI zoT 120 [(0, .ref (zad E 40 0)), (1, .int c1), (2, .int c2), (3, .int c3), (4, .int c4)] [] M (e120 M )) : ∀ (n : Nat) (M : zM) (v5 : Int32), zG p l e R s m args below meth c E zNM A 7 zvI zoT 49 [(0, .ref (zad E 40 0)), (1, .int c1), (2, .int c2), (3, .int c3), (4, .int c4), (5, .int v5)] [] M (qM_order_L49 c1 c2 c3 c4 e120 n M v5) := by
  intro n
  induction n with
  | zero =>
    intro M v5
    exact zg_none
  | succ n ih =>
    intro M v5
    rw [qM_order_L49]
    refine zg_iload C 5 51 rfl dX8_order_49 rfl ?_
    refine zg_bipush C (9 : Int32) 53 rfl dX8_order_51 (by decide) ?_
    refine zg_icmp_ge C 120 56 rfl dX8_order_53 (by decide) ?_ ?_
    · refine zg_sub [0, 1, 2, 3, 4] [(0, .ref (zad E 40 0)), (1, .int c1), (2, .int c2), (3, .int c3), (4, .int c4)] rfl ?_
      exact he120 M 
    · refine zg_iload C 5 58 rfl dX8_order_56 rfl ?_
      refine zg_iconst C (3 : Int32) 59 rfl dX8_order_58 (by decide) ?_
      refine zg_idivK C 60 rfl dX8_order_59 (by decide) ?_
      refine zg_iload C 5 62 rfl dX8_order_60 rfl ?_
      refine zg_iconst C (3 : Int32) 63 rfl dX8_order_62 (by decide) ?_
      refine zg_iremK C 64 rfl dX8_order_63 (by decide) ?_
      refine zg_jn (fun j11 => ∀ (M10 : zM), zG p l e R s m args below meth c E zNM A 7 zvI zoT 114 [(0, .ref (zad E 40 0)), (1, .int c1), (2, .int c2), (3, .int c3), (4, .int c4), (5, .int v5)] [] M10 (j11 M10 )) (fun M10 => ?_) (fun j11 hj11 => ?_)
      · refine zg_iinc C 5 (v5 + (1 : Int32)) [(5, .int (v5 + (1 : Int32))), (0, .ref (zad E 40 0)), (1, .int c1), (2, .int c2), (3, .int c3), (4, .int c4)] 117 rfl dX8_order_114 rfl (congrArg (fun z : Int32 => v5 + z) (by decide : Int32.ofInt (1) = (1 : Int32))) (by decide) rfl ?_
        refine zg_goto C 49 dX8_order_117 (by decide) ?_
        refine zg_sub [1, 2, 3, 4, 5, 0] [(0, .ref (zad E 40 0)), (1, .int c1), (2, .int c2), (3, .int c3), (4, .int c4), (5, .int (v5 + (1 : Int32)))] rfl ?_
        exact ih M10 (v5 + (1 : Int32))
      · refine zg_icmp_ne C 70 67 rfl dX8_order_64 (by decide) ?_ ?_
        · refine zg_goto C 114 dX8_order_67 (by decide) ?_
          exact hj11 M 
        · refine zg_aload_n C 0 71 rfl dX8_order_70 rfl ?_
          refine zg_iload_n C 1 72 rfl dX8_order_71 rfl ?_
          refine zg_iload C 5 74 rfl dX8_order_72 rfl ?_
          refine zg_iconst C (3 : Int32) 75 rfl dX8_order_74 (by decide) ?_
          refine zg_idivK C 76 rfl dX8_order_75 (by decide) ?_
          refine zg_iload C 5 78 rfl dX8_order_76 rfl ?_
          refine zg_iconst C (3 : Int32) 79 rfl dX8_order_78 (by decide) ?_
          refine zg_iremK C 80 rfl dX8_order_79 (by decide) ?_
          refine zg_callVU C [.int c1, .int (v5 / (3 : Int32)), .int (zrem v5 (3 : Int32))] 83 rfl dX8_order_80 (tM_layTale hD M c1 (v5 / (3 : Int32)) (zrem v5 (3 : Int32))) rfl (fun _ _ hP _ => zrecv C.2.2.2.2.2.1 hP zn40 rfl rfl) zw989 zw986 zw988 zv21 zw9 oM_layTale (by decide) (Nat.le_of_ble_eq_true rfl) (fun _u M12 h13 => ?_)
          refine zg_aload_n C 0 84 rfl dX8_order_83 rfl ?_
          refine zg_iload_n C 1 85 rfl dX8_order_84 rfl ?_
          refine zg_callVI C [.int c1] 88 rfl dX8_order_85 (tM_goes hD M12 c1) rfl (fun _ _ hP _ => zrecv C.2.2.2.2.2.1 hP zn40 rfl rfl) zw1105 zw1102 zw1104 zv43 zw9 oM_goes (by decide) (Nat.le_of_ble_eq_true rfl) (fun x15 M14 h16 => ?_)
          refine zg_istore C 6 [(6, .int x15), (0, .ref (zad E 40 0)), (1, .int c1), (2, .int c2), (3, .int c3), (4, .int c4), (5, .int v5)] 90 rfl dX8_order_88 (by decide) rfl ?_
          refine zg_iload C 0 92 rfl dX8_order_90 rfl ?_
          refine zg_aload_n C 1 93 rfl dX8_order_92 rfl ?_
          refine fgX8_108 C zn40 96 rfl dX8_order_93 ?_
          refine zg_icmp_gt C 102 99 rfl dX8_order_96 (by decide) ?_ ?_
          · refine zg_aload_n C 1 103 rfl dX8_order_102 rfl ?_
            refine zg_iload C 0 105 rfl dX8_order_103 rfl ?_
            refine fpX8_108 C zn40 108 rfl dX8_order_105 (fun M17 => ?_)
            refine zg_aload_n C 1 109 rfl dX8_order_108 rfl ?_
            refine zg_iload C 6 111 rfl dX8_order_109 rfl ?_
            refine fpX8_105 C zn40 114 rfl dX8_order_111 (fun M18 => ?_)
            refine zg_sub [1, 2, 3, 4, 5, 6] [(0, .ref (zad E 40 0)), (1, .int c1), (2, .int c2), (3, .int c3), (4, .int c4), (5, .int v5)] rfl ?_
            exact hj11 M18 
          · refine zg_goto C 114 dX8_order_99 (by decide) ?_
            refine zg_sub [1, 2, 3, 4, 5, 6] [(0, .ref (zad E 40 0)), (1, .int c1), (2, .int c2), (3, .int c3), (4, .int c4), (5, .int v5)] rfl ?_
            exact hj11 M14 
set_option maxHeartbeats 4000000 in
set_option maxRecDepth 100000 in
theorem tM_order {l : Launch} {E : zE} {A : Nat → Prop} (hD : zD E zNM A) (M : zM) (a0 : Int32) (a1 : Int32) : zCT l yX8_order cX8_order 7 (some .int) 9 E zNM A [.ref (zad E 40 0), .int a0, .int a1] M zvI zoT (qM_order  M a0 a1) := by
  refine zCT_of (by decide) hD (by first | decide | exact Nat.le_of_ble_eq_true rfl) (fun p e R s m args below meth c C => ?_)
  have C : zCx p R s m args meth c cX8_order "TwoTrueModel" E zNM A 7 (some .int) 9 := C
  unfold qM_order
  refine zg_sub [0, 1, 2] [(0, .ref (zad E 40 0)), (1, .int a0), (2, .int a1)] rfl ?_
  refine zg_aload_n C 0 1 rfl dX8_order_0 rfl ?_
  refine zg_iload_n C 1 2 rfl dX8_order_1 rfl ?_
  refine zg_callVI C [.int a0] 5 rfl dX8_order_2 (tM_isPerson hD M a0) rfl (fun _ _ hP _ => zrecv C.2.2.2.2.2.1 hP zn40 rfl rfl) zw977 zw974 zw976 zv20 zw9 oM_isPerson (by decide) (Nat.le_of_ble_eq_true rfl) (fun x2 M1 h3 => ?_)
  refine zg_if_eq C 18 8 rfl dX8_order_5 (by decide) ?_ ?_
  · refine zg_iconst C (-1 : Int32) 19 rfl dX8_order_18 (by decide) ?_
    exact zg_iret C dX8_order_19 trivial
  · refine zg_aload_n C 0 9 rfl dX8_order_8 rfl ?_
    refine zg_iload_n C 2 10 rfl dX8_order_9 rfl ?_
    refine zg_iconst C (0 : Int32) 11 rfl dX8_order_10 (by decide) ?_
    refine zg_iconst C (3 : Int32) 12 rfl dX8_order_11 (by decide) ?_
    refine zg_callVI C [.int a1, .int (0 : Int32), .int (3 : Int32)] 15 rfl dX8_order_12 (tM_in hD M1 a1 (0 : Int32) (3 : Int32)) rfl (fun _ _ hP _ => zrecv C.2.2.2.2.2.1 hP zn40 rfl rfl) zw969 zw966 zw968 zv19 zw9 oM_in (by decide) (Nat.le_of_ble_eq_true rfl) (fun x5 M4 h6 => ?_)
    refine zg_if_ne C 20 18 rfl dX8_order_15 (by decide) ?_ ?_
    · refine zg_iconst C (-1 : Int32) 19 rfl dX8_order_18 (by decide) ?_
      exact zg_iret C dX8_order_19 trivial
    · refine zg_aload_n C 0 21 rfl dX8_order_20 rfl ?_
      refine fgX8_35 C zn40 24 rfl dX8_order_21 ?_
      refine zg_iconst C (3 : Int32) 25 rfl dX8_order_24 (by decide) ?_
      refine zg_iload_n C 1 26 rfl dX8_order_25 rfl ?_
      refine zg_imul C 27 rfl dX8_order_26 ?_
      refine zg_iald C 28 rfl dX8_order_27 zn47 rfl ?_
      refine zg_nmI (fun x7 => ?_)
      refine zg_istore_n C 3 [(3, .int x7), (0, .ref (zad E 40 0)), (1, .int a0), (2, .int a1)] 29 rfl dX8_order_28 rfl (by decide) rfl ?_
      refine zg_aload_n C 1 30 rfl dX8_order_29 rfl ?_
      refine fgX8_35 C zn40 33 rfl dX8_order_30 ?_
      refine zg_iconst C (3 : Int32) 34 rfl dX8_order_33 (by decide) ?_
      refine zg_iload_n C 2 35 rfl dX8_order_34 rfl ?_
      refine zg_imul C 36 rfl dX8_order_35 ?_
      refine zg_iconst C (1 : Int32) 37 rfl dX8_order_36 (by decide) ?_
      refine zg_iadd C 38 rfl dX8_order_37 ?_
      refine zg_iald C 39 rfl dX8_order_38 zn47 rfl ?_
      refine zg_nmI (fun x8 => ?_)
      refine zg_istore C 4 [(4, .int x8), (3, .int x7), (0, .ref (zad E 40 0)), (1, .int a0), (2, .int a1)] 41 rfl dX8_order_39 (by decide) rfl ?_
      refine zg_aload_n C 2 42 rfl dX8_order_41 rfl ?_
      refine zg_iconst C (-1 : Int32) 43 rfl dX8_order_42 (by decide) ?_
      refine fpX8_108 C zn40 46 rfl dX8_order_43 (fun M9 => ?_)
      refine zg_iconst C (0 : Int32) 47 rfl dX8_order_46 (by decide) ?_
      refine zg_istore C 5 [(5, .int (0 : Int32)), (4, .int x8), (3, .int x7), (0, .ref (zad E 40 0)), (1, .int a0), (2, .int a1)] 49 rfl dX8_order_47 (by decide) rfl ?_
      refine zg_sub [3, 4, 5, 2, 1, 0] [(0, .ref (zad E 40 0)), (1, .int a0), (2, .int a1), (3, .int x7), (4, .int x8), (5, .int (0 : Int32))] rfl ?_
      refine tM_order_L49 C hD a0 a1 x7 x8 (fun M19 => ?_) 1000 M9 (0 : Int32)
      · refine zg_aload_n C 0 121 rfl dX8_order_120 rfl ?_
        refine zg_iload_n C 1 122 rfl dX8_order_121 rfl ?_
        refine zg_iload_n C 3 123 rfl dX8_order_122 rfl ?_
        refine zg_iload C 4 125 rfl dX8_order_123 rfl ?_
        refine zg_callVU C [.int a0, .int x7, .int x8] 128 rfl dX8_order_125 (tM_layTale hD M19 a0 x7 x8) rfl (fun _ _ hP _ => zrecv C.2.2.2.2.2.1 hP zn40 rfl rfl) zw989 zw986 zw988 zv21 zw9 oM_layTale (by decide) (Nat.le_of_ble_eq_true rfl) (fun _u M20 h21 => ?_)
        refine zg_aload_n C 0 129 rfl dX8_order_128 rfl ?_
        refine fgX8_105 C zn40 132 rfl dX8_order_129 ?_
        refine zg_iconst C (3 : Int32) 133 rfl dX8_order_132 (by decide) ?_
        refine zg_idivK C 134 rfl dX8_order_133 (by decide) ?_
        refine zg_nmI (fun x22 => ?_)
        refine zg_istore C 5 [(5, .int x22), (0, .ref (zad E 40 0)), (1, .int a0), (2, .int a1), (3, .int x7), (4, .int x8)] 136 rfl dX8_order_134 (by decide) rfl ?_
        refine zg_aload_n C 1 137 rfl dX8_order_136 rfl ?_
        refine fgX8_105 C zn40 140 rfl dX8_order_137 ?_
        refine zg_iconst C (3 : Int32) 141 rfl dX8_order_140 (by decide) ?_
        refine zg_iremK C 142 rfl dX8_order_141 (by decide) ?_
        refine zg_nmI (fun x23 => ?_)
        refine zg_istore C 6 [(6, .int x23), (5, .int x22), (0, .ref (zad E 40 0)), (1, .int a0), (2, .int a1), (3, .int x7), (4, .int x8)] 144 rfl dX8_order_142 (by decide) rfl ?_
        refine zg_iload_n C 4 145 rfl dX8_order_144 rfl ?_
        refine zg_if_ne C 155 148 rfl dX8_order_145 (by decide) ?_ ?_
        · refine zg_aload_n C 2 149 rfl dX8_order_148 rfl ?_
          refine fgX8_108 C zn40 152 rfl dX8_order_149 ?_
          refine zg_goto C 182 dX8_order_152 (by decide) ?_
          exact zg_iret C dX8_order_182 trivial
        · refine zg_iload_n C 4 156 rfl dX8_order_155 rfl ?_
          refine zg_iconst C (1 : Int32) 157 rfl dX8_order_156 (by decide) ?_
          refine zg_icmp_ne C 165 160 rfl dX8_order_157 (by decide) ?_ ?_
          · refine zg_iload C 1 162 rfl dX8_order_160 rfl ?_
            refine zg_goto C 182 dX8_order_162 (by decide) ?_
            exact zg_iret C dX8_order_182 trivial
          · refine zg_iload_n C 4 166 rfl dX8_order_165 rfl ?_
            refine zg_iconst C (2 : Int32) 167 rfl dX8_order_166 (by decide) ?_
            refine zg_icmp_ne C 175 170 rfl dX8_order_167 (by decide) ?_ ?_
            · refine zg_iload C 0 172 rfl dX8_order_170 rfl ?_
              refine zg_goto C 182 dX8_order_172 (by decide) ?_
              exact zg_iret C dX8_order_182 trivial
            · refine zg_iconst C (3 : Int32) 176 rfl dX8_order_175 (by decide) ?_
              refine zg_iload C 1 178 rfl dX8_order_176 rfl ?_
              refine zg_isub C 179 rfl dX8_order_178 ?_
              refine zg_iload C 0 181 rfl dX8_order_179 rfl ?_
              refine zg_isub C 182 rfl dX8_order_181 ?_
              exact zg_iret C dX8_order_182 trivial
set_option maxHeartbeats 4000000 in
set_option maxRecDepth 100000 in
theorem tM_likely_L47 {p : Program} {l : Launch} {e : Env} {R : Room} {s : State} {m : MethodId} {args : Array Value} {below : List Frame} {meth : Method} {c : Code} {E : zE} {A : Nat → Prop} (C : zCx p R s m args meth c cX8_likely "TwoTrueModel" E zNM A 7 (some .int) 9) (hD : zD E zNM A) (c1 : Int32) (c2 : Int32) (c3 : Int32) (c4 : Int32) {e99 : zM → Option (Int32 × zM)} (he99 : ∀ (M : zM), zG p l e R s m args below meth c E zNM A 7 zvI zoT 99 [(0, .ref (zad E 40 0)), (2, .int c2), (3, .int c3), (4, .int c4)] [] M (e99 M )) : ∀ (n : Nat) (M : zM) (v5 : Int32), zG p l e R s m args below meth c E zNM A 7 zvI zoT 47 [(0, .ref (zad E 40 0)), (1, .int c1), (2, .int c2), (3, .int c3), (4, .int c4), (5, .int v5)] [] M (qM_likely_L47 c1 c2 c3 c4 e99 n M v5) := by
  intro n
  induction n with
  | zero =>
    intro M v5
    exact zg_none
  | succ n ih =>
    intro M v5
    rw [qM_likely_L47]
    refine zg_iload C 5 49 rfl dX8_likely_47 rfl ?_
    refine zg_bipush C (100 : Int32) 51 rfl dX8_likely_49 (by decide) ?_
    refine zg_icmp_ge C 99 54 rfl dX8_likely_51 (by decide) ?_ ?_
    · refine zg_sub [0, 2, 3, 4] [(0, .ref (zad E 40 0)), (2, .int c2), (3, .int c3), (4, .int c4)] rfl ?_
      exact he99 M 
    · refine zg_aload_n C 0 55 rfl dX8_likely_54 rfl ?_
      refine fgX8_29 C zn40 58 rfl dX8_likely_55 ?_
      refine zg_iload_n C 3 59 rfl dX8_likely_58 rfl ?_
      refine zg_iload C 5 61 rfl dX8_likely_59 rfl ?_
      refine zg_iast C 62 rfl dX8_likely_61 zn45 (fun _ _ => rfl) (fun M10 => ?_)
      refine zg_aload_n C 0 63 rfl dX8_likely_62 rfl ?_
      refine zg_iload_n C 1 64 rfl dX8_likely_63 rfl ?_
      refine zg_callVI C [.int c1] 67 rfl dX8_likely_64 (tM_goes hD M10 c1) rfl (fun _ _ hP _ => zrecv C.2.2.2.2.2.1 hP zn40 rfl rfl) zw1105 zw1102 zw1104 zv43 zw9 oM_goes (by decide) (Nat.le_of_ble_eq_true rfl) (fun x12 M11 h13 => ?_)
      refine zg_istore C 6 [(6, .int x12), (0, .ref (zad E 40 0)), (1, .int c1), (2, .int c2), (3, .int c3), (4, .int c4), (5, .int v5)] 69 rfl dX8_likely_67 (by decide) rfl ?_
      refine zg_iload C 0 71 rfl dX8_likely_69 rfl ?_
      refine zg_aload_n C 1 72 rfl dX8_likely_71 rfl ?_
      refine fgX8_108 C zn40 75 rfl dX8_likely_72 ?_
      refine zg_jn (fun j15 => ∀ (M14 : zM), zG p l e R s m args below meth c E zNM A 7 zvI zoT 93 [(0, .ref (zad E 40 0)), (1, .int c1), (2, .int c2), (3, .int c3), (4, .int c4), (5, .int v5)] [] M14 (j15 M14 )) (fun M14 => ?_) (fun j15 hj15 => ?_)
      · refine zg_iinc C 5 (v5 + (9 : Int32)) [(5, .int (v5 + (9 : Int32))), (0, .ref (zad E 40 0)), (1, .int c1), (2, .int c2), (3, .int c3), (4, .int c4)] 96 rfl dX8_likely_93 rfl (congrArg (fun z : Int32 => v5 + z) (by decide : Int32.ofInt (9) = (9 : Int32))) (by decide) rfl ?_
        refine zg_goto C 47 dX8_likely_96 (by decide) ?_
        refine zg_sub [1, 2, 3, 4, 5, 0] [(0, .ref (zad E 40 0)), (1, .int c1), (2, .int c2), (3, .int c3), (4, .int c4), (5, .int (v5 + (9 : Int32)))] rfl ?_
        exact ih M14 (v5 + (9 : Int32))
      · refine zg_icmp_gt C 81 78 rfl dX8_likely_75 (by decide) ?_ ?_
        · refine zg_aload_n C 1 82 rfl dX8_likely_81 rfl ?_
          refine zg_iload C 0 84 rfl dX8_likely_82 rfl ?_
          refine fpX8_108 C zn40 87 rfl dX8_likely_84 (fun M16 => ?_)
          refine zg_aload_n C 1 88 rfl dX8_likely_87 rfl ?_
          refine zg_iload C 6 90 rfl dX8_likely_88 rfl ?_
          refine fpX8_105 C zn40 93 rfl dX8_likely_90 (fun M17 => ?_)
          refine zg_sub [1, 2, 3, 4, 5, 6] [(0, .ref (zad E 40 0)), (1, .int c1), (2, .int c2), (3, .int c3), (4, .int c4), (5, .int v5)] rfl ?_
          exact hj15 M17 
        · refine zg_goto C 93 dX8_likely_78 (by decide) ?_
          refine zg_sub [1, 2, 3, 4, 5, 6] [(0, .ref (zad E 40 0)), (1, .int c1), (2, .int c2), (3, .int c3), (4, .int c4), (5, .int v5)] rfl ?_
          exact hj15 M11 
set_option maxHeartbeats 4000000 in
set_option maxRecDepth 100000 in
theorem tM_likely {l : Launch} {E : zE} {A : Nat → Prop} (hD : zD E zNM A) (M : zM) (a0 : Int32) (a1 : Int32) : zCT l yX8_likely cX8_likely 7 (some .int) 9 E zNM A [.ref (zad E 40 0), .int a0, .int a1] M zvI zoT (qM_likely  M a0 a1) := by
  refine zCT_of (by decide) hD (by first | decide | exact Nat.le_of_ble_eq_true rfl) (fun p e R s m args below meth c C => ?_)
  have C : zCx p R s m args meth c cX8_likely "TwoTrueModel" E zNM A 7 (some .int) 9 := C
  unfold qM_likely
  refine zg_sub [0, 1, 2] [(0, .ref (zad E 40 0)), (1, .int a0), (2, .int a1)] rfl ?_
  refine zg_aload_n C 0 1 rfl dX8_likely_0 rfl ?_
  refine zg_iload_n C 1 2 rfl dX8_likely_1 rfl ?_
  refine zg_callVI C [.int a0] 5 rfl dX8_likely_2 (tM_isPerson hD M a0) rfl (fun _ _ hP _ => zrecv C.2.2.2.2.2.1 hP zn40 rfl rfl) zw977 zw974 zw976 zv20 zw9 oM_isPerson (by decide) (Nat.le_of_ble_eq_true rfl) (fun x2 M1 h3 => ?_)
  refine zg_if_eq C 18 8 rfl dX8_likely_5 (by decide) ?_ ?_
  · refine zg_iconst C (-1 : Int32) 19 rfl dX8_likely_18 (by decide) ?_
    exact zg_iret C dX8_likely_19 trivial
  · refine zg_aload_n C 0 9 rfl dX8_likely_8 rfl ?_
    refine zg_iload_n C 2 10 rfl dX8_likely_9 rfl ?_
    refine zg_iconst C (0 : Int32) 11 rfl dX8_likely_10 (by decide) ?_
    refine zg_iconst C (1 : Int32) 12 rfl dX8_likely_11 (by decide) ?_
    refine zg_callVI C [.int a1, .int (0 : Int32), .int (1 : Int32)] 15 rfl dX8_likely_12 (tM_in hD M1 a1 (0 : Int32) (1 : Int32)) rfl (fun _ _ hP _ => zrecv C.2.2.2.2.2.1 hP zn40 rfl rfl) zw969 zw966 zw968 zv19 zw9 oM_in (by decide) (Nat.le_of_ble_eq_true rfl) (fun x5 M4 h6 => ?_)
    refine zg_if_ne C 20 18 rfl dX8_likely_15 (by decide) ?_ ?_
    · refine zg_iconst C (-1 : Int32) 19 rfl dX8_likely_18 (by decide) ?_
      exact zg_iret C dX8_likely_19 trivial
    · refine zg_iconst C (3 : Int32) 21 rfl dX8_likely_20 (by decide) ?_
      refine zg_iload_n C 1 22 rfl dX8_likely_21 rfl ?_
      refine zg_imul C 23 rfl dX8_likely_22 ?_
      refine zg_aload_n C 0 24 rfl dX8_likely_23 rfl ?_
      refine fgX8_26 C zn40 27 rfl dX8_likely_24 ?_
      refine zg_iload_n C 1 28 rfl dX8_likely_27 rfl ?_
      refine zg_iald C 29 rfl dX8_likely_28 zn44 rfl ?_
      refine zg_iadd C 30 rfl dX8_likely_29 ?_
      refine zg_nmI (fun x7 => ?_)
      refine zg_istore_n C 3 [(3, .int x7), (0, .ref (zad E 40 0)), (1, .int a0), (2, .int a1)] 31 rfl dX8_likely_30 rfl (by decide) rfl ?_
      refine zg_aload_n C 1 32 rfl dX8_likely_31 rfl ?_
      refine fgX8_29 C zn40 35 rfl dX8_likely_32 ?_
      refine zg_iload_n C 0 36 rfl dX8_likely_35 rfl ?_
      refine zg_iald C 37 rfl dX8_likely_36 zn45 rfl ?_
      refine zg_nmI (fun x8 => ?_)
      refine zg_istore C 4 [(4, .int x8), (3, .int x7), (0, .ref (zad E 40 0)), (1, .int a0), (2, .int a1)] 39 rfl dX8_likely_37 (by decide) rfl ?_
      refine zg_aload_n C 2 40 rfl dX8_likely_39 rfl ?_
      refine zg_iconst C (-1 : Int32) 41 rfl dX8_likely_40 (by decide) ?_
      refine fpX8_108 C zn40 44 rfl dX8_likely_41 (fun M9 => ?_)
      refine zg_iconst C (0 : Int32) 45 rfl dX8_likely_44 (by decide) ?_
      refine zg_istore C 5 [(5, .int (0 : Int32)), (4, .int x8), (3, .int x7), (0, .ref (zad E 40 0)), (1, .int a0), (2, .int a1)] 47 rfl dX8_likely_45 (by decide) rfl ?_
      refine zg_sub [3, 4, 5, 2, 1, 0] [(0, .ref (zad E 40 0)), (1, .int a0), (2, .int a1), (3, .int x7), (4, .int x8), (5, .int (0 : Int32))] rfl ?_
      refine tM_likely_L47 C hD a0 a1 x7 x8 (fun M18 => ?_) 1000 M9 (0 : Int32)
      · refine zg_aload_n C 0 100 rfl dX8_likely_99 rfl ?_
        refine fgX8_29 C zn40 103 rfl dX8_likely_100 ?_
        refine zg_iload_n C 2 104 rfl dX8_likely_103 rfl ?_
        refine zg_iload C 3 106 rfl dX8_likely_104 rfl ?_
        refine zg_iast C 107 rfl dX8_likely_106 zn45 (fun _ _ => rfl) (fun M19 => ?_)
        refine zg_iload_n C 1 108 rfl dX8_likely_107 rfl ?_
        refine zg_if_ne C 118 111 rfl dX8_likely_108 (by decide) ?_ ?_
        · refine zg_aload_n C 0 112 rfl dX8_likely_111 rfl ?_
          refine fgX8_105 C zn40 115 rfl dX8_likely_112 ?_
          refine zg_goto C 122 dX8_likely_115 (by decide) ?_
          exact zg_iret C dX8_likely_122 trivial
        · refine zg_aload_n C 0 119 rfl dX8_likely_118 rfl ?_
          refine fgX8_108 C zn40 122 rfl dX8_likely_119 ?_
          exact zg_iret C dX8_likely_122 trivial
set_option maxHeartbeats 4000000 in
set_option maxRecDepth 100000 in
theorem tM_best_L35 {p : Program} {l : Launch} {e : Env} {R : Room} {s : State} {m : MethodId} {args : Array Value} {below : List Frame} {meth : Method} {c : Code} {E : zE} {A : Nat → Prop} (C : zCx p R s m args meth c cX8_best "TwoTrueModel" E zNM A 6 (some .int) 9) (hD : zD E zNM A) (c1 : Int32) (c2 : Int32) (c3 : Int32) {e86 : zM → Option (Int32 × zM)} (he86 : ∀ (M : zM), zG p l e R s m args below meth c E zNM A 6 zvI zoT 86 [(0, .ref (zad E 40 0)), (1, .int c1), (2, .int c2), (3, .int c3)] [] M (e86 M )) : ∀ (n : Nat) (M : zM) (v4 : Int32), zG p l e R s m args below meth c E zNM A 6 zvI zoT 35 [(0, .ref (zad E 40 0)), (1, .int c1), (2, .int c2), (3, .int c3), (4, .int v4)] [] M (qM_best_L35 c1 c2 c3 e86 n M v4) := by
  intro n
  induction n with
  | zero =>
    intro M v4
    exact zg_none
  | succ n ih =>
    intro M v4
    rw [qM_best_L35]
    refine zg_iload C 4 37 rfl dX8_best_35 rfl ?_
    refine zg_iconst C (3 : Int32) 38 rfl dX8_best_37 (by decide) ?_
    refine zg_icmp_ge C 86 41 rfl dX8_best_38 (by decide) ?_ ?_
    · refine zg_sub [0, 1, 2, 3] [(0, .ref (zad E 40 0)), (1, .int c1), (2, .int c2), (3, .int c3)] rfl ?_
      exact he86 M 
    · refine zg_aload_n C 0 42 rfl dX8_best_41 rfl ?_
      refine fgX8_26 C zn40 45 rfl dX8_best_42 ?_
      refine zg_iload_n C 1 46 rfl dX8_best_45 rfl ?_
      refine zg_iload C 4 48 rfl dX8_best_46 rfl ?_
      refine zg_iast C 49 rfl dX8_best_48 zn44 (fun _ _ => rfl) (fun M9 => ?_)
      refine zg_aload_n C 0 50 rfl dX8_best_49 rfl ?_
      refine zg_iload_n C 1 51 rfl dX8_best_50 rfl ?_
      refine zg_callVI C [.int c1] 54 rfl dX8_best_51 (tM_goes hD M9 c1) rfl (fun _ _ hP _ => zrecv C.2.2.2.2.2.1 hP zn40 rfl rfl) zw1105 zw1102 zw1104 zv43 zw9 oM_goes (by decide) (Nat.le_of_ble_eq_true rfl) (fun x11 M10 h12 => ?_)
      refine zg_istore C 5 [(5, .int x11), (0, .ref (zad E 40 0)), (1, .int c1), (2, .int c2), (3, .int c3), (4, .int v4)] 56 rfl dX8_best_54 (by decide) rfl ?_
      refine zg_iload C 0 58 rfl dX8_best_56 rfl ?_
      refine zg_aload_n C 1 59 rfl dX8_best_58 rfl ?_
      refine fgX8_108 C zn40 62 rfl dX8_best_59 ?_
      refine zg_jn (fun j14 => ∀ (M13 : zM), zG p l e R s m args below meth c E zNM A 6 zvI zoT 80 [(0, .ref (zad E 40 0)), (1, .int c1), (2, .int c2), (3, .int c3), (4, .int v4)] [] M13 (j14 M13 )) (fun M13 => ?_) (fun j14 hj14 => ?_)
      · refine zg_iinc C 4 (v4 + (1 : Int32)) [(4, .int (v4 + (1 : Int32))), (0, .ref (zad E 40 0)), (1, .int c1), (2, .int c2), (3, .int c3)] 83 rfl dX8_best_80 rfl (congrArg (fun z : Int32 => v4 + z) (by decide : Int32.ofInt (1) = (1 : Int32))) (by decide) rfl ?_
        refine zg_goto C 35 dX8_best_83 (by decide) ?_
        refine zg_sub [1, 2, 3, 4, 0] [(0, .ref (zad E 40 0)), (1, .int c1), (2, .int c2), (3, .int c3), (4, .int (v4 + (1 : Int32)))] rfl ?_
        exact ih M13 (v4 + (1 : Int32))
      · refine zg_icmp_gt C 68 65 rfl dX8_best_62 (by decide) ?_ ?_
        · refine zg_aload_n C 1 69 rfl dX8_best_68 rfl ?_
          refine zg_iload C 0 71 rfl dX8_best_69 rfl ?_
          refine fpX8_108 C zn40 74 rfl dX8_best_71 (fun M15 => ?_)
          refine zg_aload_n C 1 75 rfl dX8_best_74 rfl ?_
          refine zg_iload C 5 77 rfl dX8_best_75 rfl ?_
          refine fpX8_105 C zn40 80 rfl dX8_best_77 (fun M16 => ?_)
          refine zg_sub [1, 2, 3, 4, 5] [(0, .ref (zad E 40 0)), (1, .int c1), (2, .int c2), (3, .int c3), (4, .int v4)] rfl ?_
          exact hj14 M16 
        · refine zg_goto C 80 dX8_best_65 (by decide) ?_
          refine zg_sub [1, 2, 3, 4, 5] [(0, .ref (zad E 40 0)), (1, .int c1), (2, .int c2), (3, .int c3), (4, .int v4)] rfl ?_
          exact hj14 M10 
set_option maxHeartbeats 4000000 in
set_option maxRecDepth 100000 in
theorem tM_best {l : Launch} {E : zE} {A : Nat → Prop} (hD : zD E zNM A) (M : zM) (a0 : Int32) (a1 : Int32) : zCT l yX8_best cX8_best 6 (some .int) 9 E zNM A [.ref (zad E 40 0), .int a0, .int a1] M zvI zoT (qM_best  M a0 a1) := by
  refine zCT_of (by decide) hD (by first | decide | exact Nat.le_of_ble_eq_true rfl) (fun p e R s m args below meth c C => ?_)
  have C : zCx p R s m args meth c cX8_best "TwoTrueModel" E zNM A 6 (some .int) 9 := C
  unfold qM_best
  refine zg_sub [0, 1, 2] [(0, .ref (zad E 40 0)), (1, .int a0), (2, .int a1)] rfl ?_
  refine zg_aload_n C 0 1 rfl dX8_best_0 rfl ?_
  refine zg_iload_n C 1 2 rfl dX8_best_1 rfl ?_
  refine zg_callVI C [.int a0] 5 rfl dX8_best_2 (tM_isPerson hD M a0) rfl (fun _ _ hP _ => zrecv C.2.2.2.2.2.1 hP zn40 rfl rfl) zw977 zw974 zw976 zv20 zw9 oM_isPerson (by decide) (Nat.le_of_ble_eq_true rfl) (fun x2 M1 h3 => ?_)
  refine zg_if_eq C 18 8 rfl dX8_best_5 (by decide) ?_ ?_
  · refine zg_iconst C (-1 : Int32) 19 rfl dX8_best_18 (by decide) ?_
    exact zg_iret C dX8_best_19 trivial
  · refine zg_aload_n C 0 9 rfl dX8_best_8 rfl ?_
    refine zg_iload_n C 2 10 rfl dX8_best_9 rfl ?_
    refine zg_iconst C (0 : Int32) 11 rfl dX8_best_10 (by decide) ?_
    refine zg_iconst C (1 : Int32) 12 rfl dX8_best_11 (by decide) ?_
    refine zg_callVI C [.int a1, .int (0 : Int32), .int (1 : Int32)] 15 rfl dX8_best_12 (tM_in hD M1 a1 (0 : Int32) (1 : Int32)) rfl (fun _ _ hP _ => zrecv C.2.2.2.2.2.1 hP zn40 rfl rfl) zw969 zw966 zw968 zv19 zw9 oM_in (by decide) (Nat.le_of_ble_eq_true rfl) (fun x5 M4 h6 => ?_)
    refine zg_if_ne C 20 18 rfl dX8_best_15 (by decide) ?_ ?_
    · refine zg_iconst C (-1 : Int32) 19 rfl dX8_best_18 (by decide) ?_
      exact zg_iret C dX8_best_19 trivial
    · refine zg_aload_n C 0 21 rfl dX8_best_20 rfl ?_
      refine fgX8_26 C zn40 24 rfl dX8_best_21 ?_
      refine zg_iload_n C 1 25 rfl dX8_best_24 rfl ?_
      refine zg_iald C 26 rfl dX8_best_25 zn44 rfl ?_
      refine zg_nmI (fun x7 => ?_)
      refine zg_istore_n C 3 [(3, .int x7), (0, .ref (zad E 40 0)), (1, .int a0), (2, .int a1)] 27 rfl dX8_best_26 rfl (by decide) rfl ?_
      refine zg_aload_n C 1 28 rfl dX8_best_27 rfl ?_
      refine zg_iconst C (-1 : Int32) 29 rfl dX8_best_28 (by decide) ?_
      refine fpX8_108 C zn40 32 rfl dX8_best_29 (fun M8 => ?_)
      refine zg_iconst C (0 : Int32) 33 rfl dX8_best_32 (by decide) ?_
      refine zg_istore C 4 [(4, .int (0 : Int32)), (3, .int x7), (0, .ref (zad E 40 0)), (1, .int a0), (2, .int a1)] 35 rfl dX8_best_33 (by decide) rfl ?_
      refine zg_sub [2, 3, 4, 1, 0] [(0, .ref (zad E 40 0)), (1, .int a0), (2, .int a1), (3, .int x7), (4, .int (0 : Int32))] rfl ?_
      refine tM_best_L35 C hD a0 a1 x7 (fun M17 => ?_) 1000 M8 (0 : Int32)
      · refine zg_aload_n C 0 87 rfl dX8_best_86 rfl ?_
        refine fgX8_26 C zn40 90 rfl dX8_best_87 ?_
        refine zg_iload_n C 1 91 rfl dX8_best_90 rfl ?_
        refine zg_iload_n C 3 92 rfl dX8_best_91 rfl ?_
        refine zg_iast C 93 rfl dX8_best_92 zn44 (fun _ _ => rfl) (fun M18 => ?_)
        refine zg_iload_n C 2 94 rfl dX8_best_93 rfl ?_
        refine zg_if_ne C 104 97 rfl dX8_best_94 (by decide) ?_ ?_
        · refine zg_aload_n C 0 98 rfl dX8_best_97 rfl ?_
          refine fgX8_105 C zn40 101 rfl dX8_best_98 ?_
          refine zg_goto C 108 dX8_best_101 (by decide) ?_
          exact zg_iret C dX8_best_108 trivial
        · refine zg_aload_n C 0 105 rfl dX8_best_104 rfl ?_
          refine fgX8_108 C zn40 108 rfl dX8_best_105 ?_
          exact zg_iret C dX8_best_108 trivial
set_option maxHeartbeats 4000000 in
set_option maxRecDepth 100000 in
theorem tM_first_L46 {p : Program} {l : Launch} {e : Env} {R : Room} {s : State} {m : MethodId} {args : Array Value} {below : List Frame} {meth : Method} {c : Code} {E : zE} {A : Nat → Prop} (C : zCx p R s m args meth c cX8_first "TwoTrueModel" E zNM A 7 (some .int) 9) (hD : zD E zNM A) (c1 : Int32) (c2 : Int32) (c3 : Int32) {e73 : zM → Option (Int32 × zM)} (he73 : ∀ (M : zM), zG p l e R s m args below meth c E zNM A 7 zvI zoT 73 [(0, .ref (zad E 40 0)), (1, .int c1), (2, .int c2), (3, .int c3)] [] M (e73 M )) : ∀ (n : Nat) (M : zM) (v5 : Int32), zG p l e R s m args below meth c E zNM A 7 zvI zoT 46 [(0, .ref (zad E 40 0)), (1, .int c1), (2, .int c2), (3, .int c3), (5, .int v5)] [] M (qM_first_L46 c1 c2 c3 e73 n M v5) := by
  intro n
  induction n with
  | zero =>
    intro M v5
    exact zg_none
  | succ n ih =>
    intro M v5
    rw [qM_first_L46]
    refine zg_iload C 4 48 rfl dX8_first_46 rfl ?_
    refine zg_bipush C (6 : Int32) 50 rfl dX8_first_48 (by decide) ?_
    refine zg_icmp_ge C 73 53 rfl dX8_first_50 (by decide) ?_ ?_
    · refine zg_sub [0, 1, 2, 3] [(0, .ref (zad E 40 0)), (1, .int c1), (2, .int c2), (3, .int c3)] rfl ?_
      exact he73 M 
    · refine zg_aload_n C 0 54 rfl dX8_first_53 rfl ?_
      refine fgX8_111 C zn40 57 rfl dX8_first_54 ?_
      refine zg_iload C 4 59 rfl dX8_first_57 rfl ?_
      refine zg_aload_n C 0 60 rfl dX8_first_59 rfl ?_
      refine fgX8_99 C zn40 63 rfl dX8_first_60 ?_
      refine zg_iload C 4 65 rfl dX8_first_63 rfl ?_
      refine zg_iald C 66 rfl dX8_first_65 zn60 rfl ?_
      refine zg_iast C 67 rfl dX8_first_66 zn61 (fun _ _ => rfl) (fun M13 => ?_)
      refine zg_iinc C 4 (v5 + (1 : Int32)) [(5, .int (v5 + (1 : Int32))), (0, .ref (zad E 40 0)), (1, .int c1), (2, .int c2), (3, .int c3)] 70 rfl dX8_first_67 rfl (congrArg (fun z : Int32 => v5 + z) (by decide : Int32.ofInt (1) = (1 : Int32))) (by decide) rfl ?_
      refine zg_goto C 46 dX8_first_70 (by decide) ?_
      refine zg_sub [1, 2, 3, 4, 0] [(0, .ref (zad E 40 0)), (1, .int c1), (2, .int c2), (3, .int c3), (5, .int (v5 + (1 : Int32)))] rfl ?_
      exact ih M13 (v5 + (1 : Int32))
set_option maxHeartbeats 4000000 in
set_option maxRecDepth 100000 in
theorem tM_first_L90 {p : Program} {l : Launch} {e : Env} {R : Room} {s : State} {m : MethodId} {args : Array Value} {below : List Frame} {meth : Method} {c : Code} {E : zE} {A : Nat → Prop} (C : zCx p R s m args meth c cX8_first "TwoTrueModel" E zNM A 7 (some .int) 9) (hD : zD E zNM A) (c1 : Int32) (c2 : Int32) : ∀ (n : Nat) (M : zM) (v5 : Int32) (v6 : Int32), zG p l e R s m args below meth c E zNM A 7 zvI zoT 90 [(0, .ref (zad E 40 0)), (1, .int c1), (2, .int c2), (5, .int v5), (6, .int v6)] [] M (qM_first_L90 c1 c2 n M v5 v6) := by
  intro n
  induction n with
  | zero =>
    intro M v5 v6
    exact zg_none
  | succ n ih =>
    intro M v5 v6
    rw [qM_first_L90]
    refine zg_iload C 4 92 rfl dX8_first_90 rfl ?_
    refine zg_aload_n C 0 93 rfl dX8_first_92 rfl ?_
    refine fgX8_7 C zn40 96 rfl dX8_first_93 ?_
    refine zg_icmp_ge C 154 99 rfl dX8_first_96 (by decide) ?_ ?_
    · refine zg_iload C 3 156 rfl dX8_first_154 rfl ?_
      exact zg_iret C dX8_first_156 trivial
    · refine zg_iload C 4 101 rfl dX8_first_99 rfl ?_
      refine zg_iload_n C 2 102 rfl dX8_first_101 rfl ?_
      refine zg_jn (fun j20 => ∀ (M19 : zM) (x18 : Int32), zG p l e R s m args below meth c E zNM A 7 zvI zoT 148 [(0, .ref (zad E 40 0)), (1, .int c1), (2, .int c2), (5, .int x18), (6, .int v6)] [] M19 (j20 M19 x18)) (fun M19 x18 => ?_) (fun j20 hj20 => ?_)
      · refine zg_iinc C 4 (v6 + (1 : Int32)) [(6, .int (v6 + (1 : Int32))), (0, .ref (zad E 40 0)), (1, .int c1), (2, .int c2), (5, .int x18)] 151 rfl dX8_first_148 rfl (congrArg (fun z : Int32 => v6 + z) (by decide : Int32.ofInt (1) = (1 : Int32))) (by decide) rfl ?_
        refine zg_goto C 90 dX8_first_151 (by decide) ?_
        refine zg_sub [1, 2, 3, 4, 0] [(0, .ref (zad E 40 0)), (1, .int c1), (2, .int c2), (5, .int x18), (6, .int (v6 + (1 : Int32)))] rfl ?_
        exact ih M19 x18 (v6 + (1 : Int32))
      · refine zg_icmp_eq C 148 105 rfl dX8_first_102 (by decide) ?_ ?_
        · exact hj20 M v5
        · refine zg_iload C 4 107 rfl dX8_first_105 rfl ?_
          refine zg_iload_n C 1 108 rfl dX8_first_107 rfl ?_
          refine zg_icmp_ne C 114 111 rfl dX8_first_108 (by decide) ?_ ?_
          · refine zg_goto C 148 dX8_first_111 (by decide) ?_
            exact hj20 M v5
          · refine zg_aload_n C 0 115 rfl dX8_first_114 rfl ?_
            refine zg_iload C 4 117 rfl dX8_first_115 rfl ?_
            refine zg_iload_n C 2 118 rfl dX8_first_117 rfl ?_
            refine zg_callVU C [.int v6, .int c2] 121 rfl dX8_first_118 (tM_guesses hD M v6 c2) rfl (fun _ _ hP _ => zrecv C.2.2.2.2.2.1 hP zn40 rfl rfl) zw1113 zw1110 zw1112 zv45 zw9 oM_guesses (by decide) (Nat.le_of_ble_eq_true rfl) (fun _u M21 h22 => ?_)
            refine zg_iload C 3 123 rfl dX8_first_121 rfl ?_
            refine zg_aload_n C 0 124 rfl dX8_first_123 rfl ?_
            refine fgX8_99 C zn40 127 rfl dX8_first_124 ?_
            refine zg_iload C 4 129 rfl dX8_first_127 rfl ?_
            refine zg_iald C 130 rfl dX8_first_129 zn60 rfl ?_
            refine zg_aload_n C 0 131 rfl dX8_first_130 rfl ?_
            refine fgX8_111 C zn40 134 rfl dX8_first_131 ?_
            refine zg_iload C 4 136 rfl dX8_first_134 rfl ?_
            refine zg_iald C 137 rfl dX8_first_136 zn61 rfl ?_
            refine zg_jn (fun j25 => ∀ (M24 : zM) (x23 : Int32), zG p l e R s m args below meth c E zNM A 7 zvI zoT 145 [(0, .ref (zad E 40 0)), (1, .int c1), (2, .int c2), (6, .int v6)] [.int x23, .int v5] M24 (j25 M24 x23)) (fun M24 x23 => ?_) (fun j25 hj25 => ?_)
            · refine zg_iadd C 146 rfl dX8_first_145 ?_
              refine zg_nmI (fun x26 => ?_)
              refine zg_istore C 5 [(5, .int x26), (0, .ref (zad E 40 0)), (1, .int c1), (2, .int c2), (6, .int v6)] 148 rfl dX8_first_146 (by decide) rfl ?_
              refine zg_sub [1, 2, 3, 0, 4] [(0, .ref (zad E 40 0)), (1, .int c1), (2, .int c2), (5, .int x26), (6, .int v6)] rfl ?_
              exact hj20 M24 x26
            · refine zg_icmp_ne C 144 140 rfl dX8_first_137 (by decide) ?_ ?_
              · refine zg_iconst C (0 : Int32) 141 rfl dX8_first_140 (by decide) ?_
                refine zg_goto C 145 dX8_first_141 (by decide) ?_
                refine zg_sub [0, 1, 2, 4] [(0, .ref (zad E 40 0)), (1, .int c1), (2, .int c2), (6, .int v6)] rfl ?_
                exact hj25 M21 (0 : Int32)
              · refine zg_iconst C (1 : Int32) 145 rfl dX8_first_144 (by decide) ?_
                refine zg_sub [0, 1, 2, 4] [(0, .ref (zad E 40 0)), (1, .int c1), (2, .int c2), (6, .int v6)] rfl ?_
                exact hj25 M21 (1 : Int32)
set_option maxHeartbeats 4000000 in
set_option maxRecDepth 100000 in
theorem tM_first {l : Launch} {E : zE} {A : Nat → Prop} (hD : zD E zNM A) (M : zM) (a0 : Int32) (a1 : Int32) (a2 : Int32) : zCT l yX8_first cX8_first 7 (some .int) 9 E zNM A [.ref (zad E 40 0), .int a0, .int a1, .int a2] M zvI zoT (qM_first  M a0 a1 a2) := by
  refine zCT_of (by decide) hD (by first | decide | exact Nat.le_of_ble_eq_true rfl) (fun p e R s m args below meth c C => ?_)
  have C : zCx p R s m args meth c cX8_first "TwoTrueModel" E zNM A 7 (some .int) 9 := C
  unfold qM_first
  refine zg_sub [0, 1, 2, 3] [(0, .ref (zad E 40 0)), (1, .int a0), (2, .int a1), (3, .int a2)] rfl ?_
  refine zg_aload_n C 0 1 rfl dX8_first_0 rfl ?_
  refine zg_iload_n C 1 2 rfl dX8_first_1 rfl ?_
  refine zg_callVI C [.int a0] 5 rfl dX8_first_2 (tM_isPerson hD M a0) rfl (fun _ _ hP _ => zrecv C.2.2.2.2.2.1 hP zn40 rfl rfl) zw977 zw974 zw976 zv20 zw9 oM_isPerson (by decide) (Nat.le_of_ble_eq_true rfl) (fun x2 M1 h3 => ?_)
  refine zg_if_eq C 26 8 rfl dX8_first_5 (by decide) ?_ ?_
  · refine zg_iconst C (-1 : Int32) 27 rfl dX8_first_26 (by decide) ?_
    exact zg_iret C dX8_first_27 trivial
  · refine zg_aload_n C 0 9 rfl dX8_first_8 rfl ?_
    refine zg_iload_n C 2 10 rfl dX8_first_9 rfl ?_
    refine zg_callVI C [.int a1] 13 rfl dX8_first_10 (tM_isPerson hD M1 a1) rfl (fun _ _ hP _ => zrecv C.2.2.2.2.2.1 hP zn40 rfl rfl) zw977 zw974 zw976 zv20 zw9 oM_isPerson (by decide) (Nat.le_of_ble_eq_true rfl) (fun x5 M4 h6 => ?_)
    refine zg_if_eq C 26 16 rfl dX8_first_13 (by decide) ?_ ?_
    · refine zg_iconst C (-1 : Int32) 27 rfl dX8_first_26 (by decide) ?_
      exact zg_iret C dX8_first_27 trivial
    · refine zg_aload_n C 0 17 rfl dX8_first_16 rfl ?_
      refine zg_iload_n C 3 18 rfl dX8_first_17 rfl ?_
      refine zg_iconst C (0 : Int32) 19 rfl dX8_first_18 (by decide) ?_
      refine zg_iconst C (2 : Int32) 20 rfl dX8_first_19 (by decide) ?_
      refine zg_callVI C [.int a2, .int (0 : Int32), .int (2 : Int32)] 23 rfl dX8_first_20 (tM_in hD M4 a2 (0 : Int32) (2 : Int32)) rfl (fun _ _ hP _ => zrecv C.2.2.2.2.2.1 hP zn40 rfl rfl) zw969 zw966 zw968 zv19 zw9 oM_in (by decide) (Nat.le_of_ble_eq_true rfl) (fun x8 M7 h9 => ?_)
      refine zg_if_ne C 28 26 rfl dX8_first_23 (by decide) ?_ ?_
      · refine zg_iconst C (-1 : Int32) 27 rfl dX8_first_26 (by decide) ?_
        exact zg_iret C dX8_first_27 trivial
      · refine zg_iload_n C 1 29 rfl dX8_first_28 rfl ?_
        refine zg_iload_n C 2 30 rfl dX8_first_29 rfl ?_
        refine zg_icmp_ne C 36 33 rfl dX8_first_30 (by decide) ?_ ?_
        · refine zg_bipush C (-2 : Int32) 35 rfl dX8_first_33 (by decide) ?_
          exact zg_iret C dX8_first_35 trivial
        · refine zg_aload_n C 0 37 rfl dX8_first_36 rfl ?_
          refine zg_iload_n C 2 38 rfl dX8_first_37 rfl ?_
          refine zg_callVI C [.int a1] 41 rfl dX8_first_38 (tM_goes hD M7 a1) rfl (fun _ _ hP _ => zrecv C.2.2.2.2.2.1 hP zn40 rfl rfl) zw1105 zw1102 zw1104 zv43 zw9 oM_goes (by decide) (Nat.le_of_ble_eq_true rfl) (fun x11 M10 h12 => ?_)
          refine zg_istore C 4 [(4, .int x11), (0, .ref (zad E 40 0)), (1, .int a0), (2, .int a1), (3, .int a2)] 43 rfl dX8_first_41 (by decide) rfl ?_
          refine zg_iconst C (0 : Int32) 44 rfl dX8_first_43 (by decide) ?_
          refine zg_istore C 5 [(5, .int (0 : Int32)), (4, .int x11), (0, .ref (zad E 40 0)), (1, .int a0), (2, .int a1), (3, .int a2)] 46 rfl dX8_first_44 (by decide) rfl ?_
          refine zg_sub [2, 3, 4, 5, 0] [(0, .ref (zad E 40 0)), (1, .int a0), (2, .int a1), (3, .int a2), (5, .int (0 : Int32))] rfl ?_
          refine tM_first_L46 C hD a0 a1 a2 (fun M14 => ?_) 1000 M10 (0 : Int32)
          · refine zg_aload_n C 0 74 rfl dX8_first_73 rfl ?_
            refine zg_callVU C [] 77 rfl dX8_first_74 (tM_clearHands hD M14 ) rfl (fun _ _ hP _ => zrecv C.2.2.2.2.2.1 hP zn40 rfl rfl) zw1109 zw1106 zw1108 zv44 zw9 oM_clearHands (by decide) (Nat.le_of_ble_eq_true rfl) (fun _u M15 h16 => ?_)
            refine zg_aload_n C 0 78 rfl dX8_first_77 rfl ?_
            refine fgX8_96 C zn40 81 rfl dX8_first_78 ?_
            refine zg_iload_n C 3 82 rfl dX8_first_81 rfl ?_
            refine zg_iconst C (1 : Int32) 83 rfl dX8_first_82 (by decide) ?_
            refine zg_iast C 84 rfl dX8_first_83 zn59 (fun _ _ => rfl) (fun M17 => ?_)
            refine zg_iconst C (0 : Int32) 85 rfl dX8_first_84 (by decide) ?_
            refine zg_istore C 5 [(5, .int (0 : Int32)), (0, .ref (zad E 40 0)), (1, .int a0), (2, .int a1), (3, .int a2)] 87 rfl dX8_first_85 (by decide) rfl ?_
            refine zg_iconst C (0 : Int32) 88 rfl dX8_first_87 (by decide) ?_
            refine zg_istore C 6 [(6, .int (0 : Int32)), (5, .int (0 : Int32)), (0, .ref (zad E 40 0)), (1, .int a0), (2, .int a1), (3, .int a2)] 90 rfl dX8_first_88 (by decide) rfl ?_
            refine zg_sub [2, 3, 4, 1, 0] [(0, .ref (zad E 40 0)), (1, .int a0), (2, .int a1), (5, .int (0 : Int32)), (6, .int (0 : Int32))] rfl ?_
            refine tM_first_L90 C hD a0 a1  1000 M17 (0 : Int32) (0 : Int32)
set_option maxHeartbeats 4000000 in
set_option maxRecDepth 100000 in
theorem tM_rightsOf_L4 {p : Program} {l : Launch} {e : Env} {R : Room} {s : State} {m : MethodId} {args : Array Value} {below : List Frame} {meth : Method} {c : Code} {E : zE} {A : Nat → Prop} (C : zCx p R s m args meth c cX8_rightsOf "TwoTrueModel" E zNM A 5 (some .int) 9) (hD : zD E zNM A) (c1 : Int32) : ∀ (n : Nat) (M : zM) (v2 : Int32) (v3 : Int32), zG p l e R s m args below meth c E zNM A 5 zvI zoT 4 [(0, .ref (zad E 40 0)), (1, .int c1), (2, .int v2), (3, .int v3)] [] M (qM_rightsOf_L4 c1 n M v2 v3) := by
  intro n
  induction n with
  | zero =>
    intro M v2 v3
    exact zg_none
  | succ n ih =>
    intro M v2 v3
    rw [qM_rightsOf_L4]
    refine zg_iload_n C 3 5 rfl dX8_rightsOf_4 rfl ?_
    refine zg_aload_n C 0 6 rfl dX8_rightsOf_5 rfl ?_
    refine fgX8_7 C zn40 9 rfl dX8_rightsOf_6 ?_
    refine zg_icmp_ge C 55 12 rfl dX8_rightsOf_9 (by decide) ?_ ?_
    · refine zg_iload_n C 2 56 rfl dX8_rightsOf_55 rfl ?_
      exact zg_iret C dX8_rightsOf_56 trivial
    · refine zg_iload_n C 3 13 rfl dX8_rightsOf_12 rfl ?_
      refine zg_iload_n C 1 14 rfl dX8_rightsOf_13 rfl ?_
      refine zg_jn (fun j3 => ∀ (M2 : zM) (x1 : Int32), zG p l e R s m args below meth c E zNM A 5 zvI zoT 49 [(0, .ref (zad E 40 0)), (1, .int c1), (2, .int x1), (3, .int v3)] [] M2 (j3 M2 x1)) (fun M2 x1 => ?_) (fun j3 hj3 => ?_)
      · refine zg_iinc C 3 (v3 + (1 : Int32)) [(3, .int (v3 + (1 : Int32))), (0, .ref (zad E 40 0)), (1, .int c1), (2, .int x1)] 52 rfl dX8_rightsOf_49 rfl (congrArg (fun z : Int32 => v3 + z) (by decide : Int32.ofInt (1) = (1 : Int32))) (by decide) rfl ?_
        refine zg_goto C 4 dX8_rightsOf_52 (by decide) ?_
        refine zg_sub [1, 2, 3, 0] [(0, .ref (zad E 40 0)), (1, .int c1), (2, .int x1), (3, .int (v3 + (1 : Int32)))] rfl ?_
        exact ih M2 x1 (v3 + (1 : Int32))
      · refine zg_icmp_ne C 20 17 rfl dX8_rightsOf_14 (by decide) ?_ ?_
        · refine zg_goto C 49 dX8_rightsOf_17 (by decide) ?_
          exact hj3 M v2
        · refine zg_aload_n C 0 21 rfl dX8_rightsOf_20 rfl ?_
          refine zg_iload_n C 3 22 rfl dX8_rightsOf_21 rfl ?_
          refine zg_callVI C [.int v3] 25 rfl dX8_rightsOf_22 (tM_goes hD M v3) rfl (fun _ _ hP _ => zrecv C.2.2.2.2.2.1 hP zn40 rfl rfl) zw1105 zw1102 zw1104 zv43 zw9 oM_goes (by decide) (Nat.le_of_ble_eq_true rfl) (fun x5 M4 h6 => ?_)
          refine zg_istore C 4 [(4, .int x5), (0, .ref (zad E 40 0)), (1, .int c1), (2, .int v2), (3, .int v3)] 27 rfl dX8_rightsOf_25 (by decide) rfl ?_
          refine zg_iload_n C 3 28 rfl dX8_rightsOf_27 rfl ?_
          refine zg_aload_n C 1 29 rfl dX8_rightsOf_28 rfl ?_
          refine fgX8_99 C zn40 32 rfl dX8_rightsOf_29 ?_
          refine zg_iload_n C 2 33 rfl dX8_rightsOf_32 rfl ?_
          refine zg_iald C 34 rfl dX8_rightsOf_33 zn60 rfl ?_
          refine zg_aload_n C 1 35 rfl dX8_rightsOf_34 rfl ?_
          refine zg_iload_n C 4 36 rfl dX8_rightsOf_35 rfl ?_
          refine zg_callVI C [.int v3] 39 rfl dX8_rightsOf_36 (tM_liePlace hD M4 v3) rfl (fun _ _ hP _ => zrecv C.2.2.2.2.2.1 hP zn40 rfl rfl) zw1129 zw1126 zw1128 zv49 zw9 oM_liePlace (by decide) (Nat.le_of_ble_eq_true rfl) (fun x8 M7 h9 => ?_)
          refine zg_jn (fun j12 => ∀ (M11 : zM) (x10 : Int32), zG p l e R s m args below meth c E zNM A 5 zvI zoT 47 [(0, .ref (zad E 40 0)), (1, .int c1), (3, .int v3)] [.int x10, .int v2] M11 (j12 M11 x10)) (fun M11 x10 => ?_) (fun j12 hj12 => ?_)
          · refine zg_iadd C 48 rfl dX8_rightsOf_47 ?_
            refine zg_nmI (fun x13 => ?_)
            refine zg_istore_n C 2 [(2, .int x13), (0, .ref (zad E 40 0)), (1, .int c1), (3, .int v3)] 49 rfl dX8_rightsOf_48 rfl (by decide) rfl ?_
            refine zg_sub [1, 2, 0, 3] [(0, .ref (zad E 40 0)), (1, .int c1), (2, .int x13), (3, .int v3)] rfl ?_
            exact hj3 M11 x13
          · refine zg_icmp_ne C 46 42 rfl dX8_rightsOf_39 (by decide) ?_ ?_
            · refine zg_iconst C (1 : Int32) 43 rfl dX8_rightsOf_42 (by decide) ?_
              refine zg_goto C 47 dX8_rightsOf_43 (by decide) ?_
              refine zg_sub [1, 2, 4] [(0, .ref (zad E 40 0)), (1, .int c1), (3, .int v3)] rfl ?_
              exact hj12 M7 (1 : Int32)
            · refine zg_iconst C (0 : Int32) 47 rfl dX8_rightsOf_46 (by decide) ?_
              refine zg_sub [1, 2, 4] [(0, .ref (zad E 40 0)), (1, .int c1), (3, .int v3)] rfl ?_
              exact hj12 M7 (0 : Int32)
set_option maxHeartbeats 4000000 in
set_option maxRecDepth 100000 in
theorem tM_rightsOf {l : Launch} {E : zE} {A : Nat → Prop} (hD : zD E zNM A) (M : zM) (a0 : Int32) : zCT l yX8_rightsOf cX8_rightsOf 5 (some .int) 9 E zNM A [.ref (zad E 40 0), .int a0] M zvI zoT (qM_rightsOf  M a0) := by
  refine zCT_of (by decide) hD (by first | decide | exact Nat.le_of_ble_eq_true rfl) (fun p e R s m args below meth c C => ?_)
  have C : zCx p R s m args meth c cX8_rightsOf "TwoTrueModel" E zNM A 5 (some .int) 9 := C
  unfold qM_rightsOf
  refine zg_sub [0, 1] [(0, .ref (zad E 40 0)), (1, .int a0)] rfl ?_
  refine zg_iconst C (0 : Int32) 1 rfl dX8_rightsOf_0 (by decide) ?_
  refine zg_istore_n C 2 [(2, .int (0 : Int32)), (0, .ref (zad E 40 0)), (1, .int a0)] 2 rfl dX8_rightsOf_1 rfl (by decide) rfl ?_
  refine zg_iconst C (0 : Int32) 3 rfl dX8_rightsOf_2 (by decide) ?_
  refine zg_istore_n C 3 [(3, .int (0 : Int32)), (2, .int (0 : Int32)), (0, .ref (zad E 40 0)), (1, .int a0)] 4 rfl dX8_rightsOf_3 rfl (by decide) rfl ?_
  refine zg_sub [2, 3, 1, 0] [(0, .ref (zad E 40 0)), (1, .int a0), (2, .int (0 : Int32)), (3, .int (0 : Int32))] rfl ?_
  refine tM_rightsOf_L4 C hD a0  1000 M (0 : Int32) (0 : Int32)
set_option maxHeartbeats 4000000 in
set_option maxRecDepth 100000 in
theorem tM_lies_L22 {p : Program} {l : Launch} {e : Env} {R : Room} {s : State} {m : MethodId} {args : Array Value} {below : List Frame} {meth : Method} {c : Code} {E : zE} {A : Nat → Prop} (C : zCx p R s m args meth c cX8_lies "TwoTrueModel" E zNM A 6 (some .int) 9) (hD : zD E zNM A) (c1 : Int32) (c2 : Int32) {e105 : zM → Int32 → Option (Int32 × zM)} (he105 : ∀ (M : zM) (u3 : Int32), zG p l e R s m args below meth c E zNM A 6 zvI zoT 105 [(0, .ref (zad E 40 0)), (1, .int c1), (2, .int c2), (3, .int u3)] [] M (e105 M u3)) : ∀ (n : Nat) (M : zM) (v3 : Int32) (v4 : Int32), zG p l e R s m args below meth c E zNM A 6 zvI zoT 22 [(0, .ref (zad E 40 0)), (1, .int c1), (2, .int c2), (3, .int v3), (4, .int v4)] [] M (qM_lies_L22 c1 c2 e105 n M v3 v4) := by
  intro n
  induction n with
  | zero =>
    intro M v3 v4
    exact zg_none
  | succ n ih =>
    intro M v3 v4
    rw [qM_lies_L22]
    refine zg_iload C 4 24 rfl dX8_lies_22 rfl ?_
    refine zg_iconst C (3 : Int32) 25 rfl dX8_lies_24 (by decide) ?_
    refine zg_icmp_ge C 105 28 rfl dX8_lies_25 (by decide) ?_ ?_
    · refine zg_sub [0, 1, 2, 3] [(0, .ref (zad E 40 0)), (1, .int c1), (2, .int c2), (3, .int v3)] rfl ?_
      exact he105 M v3
    · refine zg_aload_n C 0 29 rfl dX8_lies_28 rfl ?_
      refine fgX8_26 C zn40 32 rfl dX8_lies_29 ?_
      refine zg_iload_n C 1 33 rfl dX8_lies_32 rfl ?_
      refine zg_iload C 4 35 rfl dX8_lies_33 rfl ?_
      refine zg_iast C 36 rfl dX8_lies_35 zn44 (fun _ _ => rfl) (fun M5 => ?_)
      refine zg_aload_n C 0 37 rfl dX8_lies_36 rfl ?_
      refine zg_iload_n C 1 38 rfl dX8_lies_37 rfl ?_
      refine zg_callVI C [.int c1] 41 rfl dX8_lies_38 (tM_goes hD M5 c1) rfl (fun _ _ hP _ => zrecv C.2.2.2.2.2.1 hP zn40 rfl rfl) zw1105 zw1102 zw1104 zv43 zw9 oM_goes (by decide) (Nat.le_of_ble_eq_true rfl) (fun x7 M6 h8 => ?_)
      refine zg_istore C 5 [(5, .int x7), (0, .ref (zad E 40 0)), (1, .int c1), (2, .int c2), (3, .int v3), (4, .int v4)] 43 rfl dX8_lies_41 (by decide) rfl ?_
      refine zg_iload_n C 4 44 rfl dX8_lies_43 rfl ?_
      refine zg_aload_n C 1 45 rfl dX8_lies_44 rfl ?_
      refine fgX8_96 C zn40 48 rfl dX8_lies_45 ?_
      refine zg_iconst C (0 : Int32) 49 rfl dX8_lies_48 (by decide) ?_
      refine zg_iald C 50 rfl dX8_lies_49 zn59 rfl ?_
      refine zg_aload_n C 1 51 rfl dX8_lies_50 rfl ?_
      refine fgX8_120 C zn40 54 rfl dX8_lies_51 ?_
      refine zg_iconst C (0 : Int32) 55 rfl dX8_lies_54 (by decide) ?_
      refine zg_iald C 56 rfl dX8_lies_55 zn64 rfl ?_
      refine zg_jn (fun j11 => ∀ (M10 : zM) (x9 : Int32), zG p l e R s m args below meth c E zNM A 6 zvI zoT 97 [(0, .ref (zad E 40 0)), (1, .int c1), (2, .int c2), (4, .int v4)] [.int x9, .int v3] M10 (j11 M10 x9)) (fun M10 x9 => ?_) (fun j11 hj11 => ?_)
      · refine zg_ior C 98 rfl dX8_lies_97 ?_
        refine zg_nmI (fun x12 => ?_)
        refine zg_istore_n C 3 [(3, .int x12), (0, .ref (zad E 40 0)), (1, .int c1), (2, .int c2), (4, .int v4)] 99 rfl dX8_lies_98 rfl (by decide) rfl ?_
        refine zg_iinc C 4 (v4 + (1 : Int32)) [(4, .int (v4 + (1 : Int32))), (3, .int x12), (0, .ref (zad E 40 0)), (1, .int c1), (2, .int c2)] 102 rfl dX8_lies_99 rfl (congrArg (fun z : Int32 => v4 + z) (by decide : Int32.ofInt (1) = (1 : Int32))) (by decide) rfl ?_
        refine zg_goto C 22 dX8_lies_102 (by decide) ?_
        refine zg_sub [2, 3, 4, 1, 0] [(0, .ref (zad E 40 0)), (1, .int c1), (2, .int c2), (3, .int x12), (4, .int (v4 + (1 : Int32)))] rfl ?_
        exact ih M10 x12 (v4 + (1 : Int32))
      · refine zg_jn (fun j14 => ∀ (M13 : zM), zG p l e R s m args below meth c E zNM A 6 zvI zoT 96 [(0, .ref (zad E 40 0)), (1, .int c1), (2, .int c2), (4, .int v4)] [.int v3] M13 (j14 M13 )) (fun M13 => ?_) (fun j14 hj14 => ?_)
        · refine zg_iconst C (0 : Int32) 97 rfl dX8_lies_96 (by decide) ?_
          exact hj11 M13 (0 : Int32)
        · refine zg_icmp_ne C 96 59 rfl dX8_lies_56 (by decide) ?_ ?_
          · refine zg_aload_n C 1 60 rfl dX8_lies_59 rfl ?_
            refine fgX8_96 C zn40 63 rfl dX8_lies_60 ?_
            refine zg_iconst C (1 : Int32) 64 rfl dX8_lies_63 (by decide) ?_
            refine zg_iald C 65 rfl dX8_lies_64 zn59 rfl ?_
            refine zg_aload_n C 1 66 rfl dX8_lies_65 rfl ?_
            refine fgX8_120 C zn40 69 rfl dX8_lies_66 ?_
            refine zg_iconst C (1 : Int32) 70 rfl dX8_lies_69 (by decide) ?_
            refine zg_iald C 71 rfl dX8_lies_70 zn64 rfl ?_
            refine zg_icmp_ne C 96 74 rfl dX8_lies_71 (by decide) ?_ ?_
            · refine zg_aload_n C 1 75 rfl dX8_lies_74 rfl ?_
              refine fgX8_96 C zn40 78 rfl dX8_lies_75 ?_
              refine zg_iconst C (2 : Int32) 79 rfl dX8_lies_78 (by decide) ?_
              refine zg_iald C 80 rfl dX8_lies_79 zn59 rfl ?_
              refine zg_aload_n C 1 81 rfl dX8_lies_80 rfl ?_
              refine fgX8_120 C zn40 84 rfl dX8_lies_81 ?_
              refine zg_iconst C (2 : Int32) 85 rfl dX8_lies_84 (by decide) ?_
              refine zg_iald C 86 rfl dX8_lies_85 zn64 rfl ?_
              refine zg_icmp_ne C 96 89 rfl dX8_lies_86 (by decide) ?_ ?_
              · refine zg_iconst C (1 : Int32) 90 rfl dX8_lies_89 (by decide) ?_
                refine zg_iload C 5 92 rfl dX8_lies_90 rfl ?_
                refine zg_ishl C 93 rfl dX8_lies_92 ?_
                refine zg_goto C 97 dX8_lies_93 (by decide) ?_
                refine zg_sub [1, 2, 3, 5] [(0, .ref (zad E 40 0)), (1, .int c1), (2, .int c2), (4, .int v4)] rfl ?_
                exact hj11 M6 ((1 : Int32) <<< (v4 &&& 31))
              · refine zg_sub [1, 2, 3, 5] [(0, .ref (zad E 40 0)), (1, .int c1), (2, .int c2), (4, .int v4)] rfl ?_
                exact hj14 M6 
            · refine zg_sub [1, 2, 3, 5] [(0, .ref (zad E 40 0)), (1, .int c1), (2, .int c2), (4, .int v4)] rfl ?_
              exact hj14 M6 
          · refine zg_sub [1, 2, 3, 5] [(0, .ref (zad E 40 0)), (1, .int c1), (2, .int c2), (4, .int v4)] rfl ?_
            exact hj14 M6 
set_option maxHeartbeats 4000000 in
set_option maxRecDepth 100000 in
theorem tM_lies {l : Launch} {E : zE} {A : Nat → Prop} (hD : zD E zNM A) (M : zM) (a0 : Int32) : zCT l yX8_lies cX8_lies 6 (some .int) 9 E zNM A [.ref (zad E 40 0), .int a0] M zvI zoT (qM_lies  M a0) := by
  refine zCT_of (by decide) hD (by first | decide | exact Nat.le_of_ble_eq_true rfl) (fun p e R s m args below meth c C => ?_)
  have C : zCx p R s m args meth c cX8_lies "TwoTrueModel" E zNM A 6 (some .int) 9 := C
  unfold qM_lies
  refine zg_sub [0, 1] [(0, .ref (zad E 40 0)), (1, .int a0)] rfl ?_
  refine zg_aload_n C 0 1 rfl dX8_lies_0 rfl ?_
  refine zg_iload_n C 1 2 rfl dX8_lies_1 rfl ?_
  refine zg_callVI C [.int a0] 5 rfl dX8_lies_2 (tM_isPerson hD M a0) rfl (fun _ _ hP _ => zrecv C.2.2.2.2.2.1 hP zn40 rfl rfl) zw977 zw974 zw976 zv20 zw9 oM_isPerson (by decide) (Nat.le_of_ble_eq_true rfl) (fun x2 M1 h3 => ?_)
  refine zg_if_ne C 10 8 rfl dX8_lies_5 (by decide) ?_ ?_
  · refine zg_iconst C (-1 : Int32) 9 rfl dX8_lies_8 (by decide) ?_
    exact zg_iret C dX8_lies_9 trivial
  · refine zg_aload_n C 0 11 rfl dX8_lies_10 rfl ?_
    refine fgX8_26 C zn40 14 rfl dX8_lies_11 ?_
    refine zg_iload_n C 1 15 rfl dX8_lies_14 rfl ?_
    refine zg_iald C 16 rfl dX8_lies_15 zn44 rfl ?_
    refine zg_nmI (fun x4 => ?_)
    refine zg_istore_n C 2 [(2, .int x4), (0, .ref (zad E 40 0)), (1, .int a0)] 17 rfl dX8_lies_16 rfl (by decide) rfl ?_
    refine zg_iconst C (0 : Int32) 18 rfl dX8_lies_17 (by decide) ?_
    refine zg_istore_n C 3 [(3, .int (0 : Int32)), (2, .int x4), (0, .ref (zad E 40 0)), (1, .int a0)] 19 rfl dX8_lies_18 rfl (by decide) rfl ?_
    refine zg_iconst C (0 : Int32) 20 rfl dX8_lies_19 (by decide) ?_
    refine zg_istore C 4 [(4, .int (0 : Int32)), (3, .int (0 : Int32)), (2, .int x4), (0, .ref (zad E 40 0)), (1, .int a0)] 22 rfl dX8_lies_20 (by decide) rfl ?_
    refine zg_sub [3, 4, 2, 1, 0] [(0, .ref (zad E 40 0)), (1, .int a0), (2, .int x4), (3, .int (0 : Int32)), (4, .int (0 : Int32))] rfl ?_
    refine tM_lies_L22 C hD a0 x4 (fun M15 x16 => ?_) 1000 M1 (0 : Int32) (0 : Int32)
    · refine zg_aload_n C 0 106 rfl dX8_lies_105 rfl ?_
      refine fgX8_26 C zn40 109 rfl dX8_lies_106 ?_
      refine zg_iload_n C 1 110 rfl dX8_lies_109 rfl ?_
      refine zg_iload_n C 2 111 rfl dX8_lies_110 rfl ?_
      refine zg_iast C 112 rfl dX8_lies_111 zn44 (fun _ _ => rfl) (fun M17 => ?_)
      refine zg_iload_n C 3 113 rfl dX8_lies_112 rfl ?_
      exact zg_iret C dX8_lies_113 trivial
