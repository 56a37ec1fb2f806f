set_option maxHeartbeats 4000000 in
set_option maxRecDepth 100000 in
theorem tM_isDigit {l : Launch} {E : zE} {A : Nat → Prop} (hD : zD E zNM A) (M : zM) : zCT l yX8_isDigit cX8_isDigit 1 (some .boolean) 3 E zNM A [.ref (zad E 40 0)] M zvI zoB (qM_isDigit  M ) := by
  refine zCT_of (by decide) hD (by first | decide | exact Nat.le_of_ble_eq_true rfl) (fun p e R s m args below meth c C => ?_)
  have C : zCx p R s m args meth c cX8_isDigit "TwoTrueModel" E zNM A 1 (some .boolean) 3 := C
  unfold qM_isDigit
  refine zg_sub [0] [(0, .ref (zad E 40 0))] rfl ?_
  refine zg_aload_n C 0 1 rfl dX8_isDigit_0 rfl ?_
  refine zg_aload_n C 0 2 rfl dX8_isDigit_1 rfl ?_
  refine zg_callVI C [] 5 rfl dX8_isDigit_2 (tM_next hD M ) rfl (fun _ _ hP _ => zrecv C.2.2.2.2.2.1 hP zn40 rfl rfl) zw1021 zw1018 zw1020 zv25 zw9 oM_next (by decide) (Nat.le_of_ble_eq_true rfl) (fun x2 M1 h3 => ?_)
  refine zg_bipush C (48 : Int32) 7 rfl dX8_isDigit_5 (by decide) ?_
  refine zg_bipush C (57 : Int32) 9 rfl dX8_isDigit_7 (by decide) ?_
  refine zg_callVI C [.int x2, .int (48 : Int32), .int (57 : Int32)] 12 rfl dX8_isDigit_9 (tM_in hD M1 x2 (48 : Int32) (57 : Int32)) rfl (fun _ _ hP _ => zrecv C.2.2.2.2.2.1 hP zn40 rfl rfl) zw969 zw966 zw968 zv19 zw9 oM_in (by decide) (Nat.le_of_ble_eq_true rfl) (fun x5 M4 h6 => ?_)
  exact zg_zret C dX8_isDigit_12 h6 h6
set_option maxHeartbeats 4000000 in
set_option maxRecDepth 100000 in
theorem tM_whole_L0 {p : Program} {l : Launch} {e : Env} {R : Room} {s : State} {m : MethodId} {args : Array Value} {below : List Frame} {meth : Method} {c : Code} {E : zE} {A : Nat → Prop} (C : zCx p R s m args meth c cX8_whole "TwoTrueModel" E zNM A 1 none 3) (hD : zD E zNM A) : ∀ (n : Nat) (M : zM), zG p l e R s m args below meth c E zNM A 1 zvU zoT 0 [(0, .ref (zad E 40 0))] [] M (qM_whole_L0 n M) := by
  intro n
  induction n with
  | zero =>
    intro M 
    exact zg_none
  | succ n ih =>
    intro M 
    rw [qM_whole_L0]
    refine zg_aload_n C 0 1 rfl dX8_whole_0 rfl ?_
    refine fgX8_83 C zn40 4 rfl dX8_whole_1 ?_
    refine zg_if_le C 52 7 rfl dX8_whole_4 (by decide) ?_ ?_
    · exact zg_vret C dX8_whole_52 trivial
    · refine zg_aload_n C 0 8 rfl dX8_whole_7 rfl ?_
      refine fgX8_77 C zn40 11 rfl dX8_whole_8 ?_
      refine zg_aload_n C 0 12 rfl dX8_whole_11 rfl ?_
      refine fgX8_83 C zn40 15 rfl dX8_whole_12 ?_
      refine zg_iconst C (1 : Int32) 16 rfl dX8_whole_15 (by decide) ?_
      refine zg_isub C 17 rfl dX8_whole_16 ?_
      refine zg_iald C 18 rfl dX8_whole_17 zn56 rfl ?_
      refine zg_bipush C (33 : Int32) 20 rfl dX8_whole_18 (by decide) ?_
      refine zg_icmp_ne C 52 23 rfl dX8_whole_20 (by decide) ?_ ?_
      · refine zg_aload_n C 0 24 rfl dX8_whole_23 rfl ?_
        refine zg_bipush C (-33 : Int32) 26 rfl dX8_whole_24 (by decide) ?_
        refine zg_callVU C [.int (-33 : Int32)] 29 rfl dX8_whole_26 (tM_emits hD M (-33 : Int32)) rfl (fun _ _ hP _ => zrecv C.2.2.2.2.2.1 hP zn40 rfl rfl) zw1053 zw1050 zw1052 zv33 zw9 oM_emits (by decide) (Nat.le_of_ble_eq_true rfl) (fun _u M1 h2 => ?_)
        refine zg_aload_n C 0 30 rfl dX8_whole_29 rfl ?_
        refine zg_dup C rfl 31 rfl dX8_whole_30 ?_
        refine fgX8_83 C zn40 34 rfl dX8_whole_31 ?_
        refine zg_iconst C (1 : Int32) 35 rfl dX8_whole_34 (by decide) ?_
        refine zg_isub C 36 rfl dX8_whole_35 ?_
        refine fpX8_83 C zn40 39 rfl dX8_whole_36 (fun M3 => ?_)
        refine zg_aload_n C 0 40 rfl dX8_whole_39 rfl ?_
        refine zg_dup C rfl 41 rfl dX8_whole_40 ?_
        refine fgX8_86 C zn40 44 rfl dX8_whole_41 ?_
        refine zg_iconst C (1 : Int32) 45 rfl dX8_whole_44 (by decide) ?_
        refine zg_isub C 46 rfl dX8_whole_45 ?_
        refine fpX8_86 C zn40 49 rfl dX8_whole_46 (fun M4 => ?_)
        refine zg_goto C 0 dX8_whole_49 (by decide) ?_
        exact ih M4 
      · exact zg_vret C dX8_whole_52 trivial
set_option maxHeartbeats 4000000 in
set_option maxRecDepth 100000 in
theorem tM_whole {l : Launch} {E : zE} {A : Nat → Prop} (hD : zD E zNM A) (M : zM) : zCT l yX8_whole cX8_whole 1 none 3 E zNM A [.ref (zad E 40 0)] M zvU zoT (qM_whole  M ) := by
  refine zCT_of (by decide) hD (by first | decide | exact Nat.le_of_ble_eq_true rfl) (fun p e R s m args below meth c C => ?_)
  have C : zCx p R s m args meth c cX8_whole "TwoTrueModel" E zNM A 1 none 3 := C
  unfold qM_whole
  refine zg_sub [0] [(0, .ref (zad E 40 0))] rfl ?_
  refine tM_whole_L0 C hD   1000 M 
set_option maxHeartbeats 4000000 in
set_option maxRecDepth 100000 in
theorem tM_settle_L0 {p : Program} {l : Launch} {e : Env} {R : Room} {s : State} {m : MethodId} {args : Array Value} {below : List Frame} {meth : Method} {c : Code} {E : zE} {A : Nat → Prop} (C : zCx p R s m args meth c cX8_settle "TwoTrueModel" E zNM A 2 none 3) (hD : zD E zNM A) (c1 : Int32) : ∀ (n : Nat) (M : zM), zG p l e R s m args below meth c E zNM A 2 zvU zoT 0 [(0, .ref (zad E 40 0)), (1, .int c1)] [] M (qM_settle_L0 c1 n M) := by
  intro n
  induction n with
  | zero =>
    intro M 
    exact zg_none
  | succ n ih =>
    intro M 
    rw [qM_settle_L0]
    refine zg_aload_n C 0 1 rfl dX8_settle_0 rfl ?_
    refine fgX8_83 C zn40 4 rfl dX8_settle_1 ?_
    refine zg_if_le C 72 7 rfl dX8_settle_4 (by decide) ?_ ?_
    · exact zg_vret C dX8_settle_72 trivial
    · refine zg_aload_n C 0 8 rfl dX8_settle_7 rfl ?_
      refine fgX8_77 C zn40 11 rfl dX8_settle_8 ?_
      refine zg_aload_n C 0 12 rfl dX8_settle_11 rfl ?_
      refine fgX8_83 C zn40 15 rfl dX8_settle_12 ?_
      refine zg_iconst C (1 : Int32) 16 rfl dX8_settle_15 (by decide) ?_
      refine zg_isub C 17 rfl dX8_settle_16 ?_
      refine zg_iald C 18 rfl dX8_settle_17 zn56 rfl ?_
      refine zg_bipush C (38 : Int32) 20 rfl dX8_settle_18 (by decide) ?_
      refine zg_jn (fun j2 => ∀ (M1 : zM), zG p l e R s m args below meth c E zNM A 2 zvU zoT 45 [(0, .ref (zad E 40 0)), (1, .int c1)] [] M1 (j2 M1 )) (fun M1 => ?_) (fun j2 hj2 => ?_)
      · refine zg_aload_n C 0 46 rfl dX8_settle_45 rfl ?_
        refine zg_dup C rfl 47 rfl dX8_settle_46 ?_
        refine fgX8_83 C zn40 50 rfl dX8_settle_47 ?_
        refine zg_iconst C (1 : Int32) 51 rfl dX8_settle_50 (by decide) ?_
        refine zg_isub C 52 rfl dX8_settle_51 ?_
        refine fpX8_83 C zn40 55 rfl dX8_settle_52 (fun M3 => ?_)
        refine zg_aload_n C 0 56 rfl dX8_settle_55 rfl ?_
        refine zg_aload_n C 0 57 rfl dX8_settle_56 rfl ?_
        refine fgX8_77 C zn40 60 rfl dX8_settle_57 ?_
        refine zg_aload_n C 0 61 rfl dX8_settle_60 rfl ?_
        refine fgX8_83 C zn40 64 rfl dX8_settle_61 ?_
        refine zg_iald C 65 rfl dX8_settle_64 zn56 rfl ?_
        refine zg_ineg C 66 rfl dX8_settle_65 ?_
        refine zg_callVU C [.int (-(M3.1 56 0 (M3.1 40 0 24).toNatClampNeg))] 69 rfl dX8_settle_66 (tM_emits hD M3 (-(M3.1 56 0 (M3.1 40 0 24).toNatClampNeg))) rfl (fun _ _ hP _ => zrecv C.2.2.2.2.2.1 hP zn40 rfl rfl) zw1053 zw1050 zw1052 zv33 zw9 oM_emits (by decide) (Nat.le_of_ble_eq_true rfl) (fun _u M4 h5 => ?_)
        refine zg_goto C 0 dX8_settle_69 (by decide) ?_
        exact ih M4 
      · refine zg_icmp_eq C 45 23 rfl dX8_settle_20 (by decide) ?_ ?_
        · exact hj2 M 
        · refine zg_aload_n C 0 24 rfl dX8_settle_23 rfl ?_
          refine fgX8_77 C zn40 27 rfl dX8_settle_24 ?_
          refine zg_aload_n C 0 28 rfl dX8_settle_27 rfl ?_
          refine fgX8_83 C zn40 31 rfl dX8_settle_28 ?_
          refine zg_iconst C (1 : Int32) 32 rfl dX8_settle_31 (by decide) ?_
          refine zg_isub C 33 rfl dX8_settle_32 ?_
          refine zg_iald C 34 rfl dX8_settle_33 zn56 rfl ?_
          refine zg_bipush C (124 : Int32) 36 rfl dX8_settle_34 (by decide) ?_
          refine zg_icmp_ne C 72 39 rfl dX8_settle_36 (by decide) ?_ ?_
          · refine zg_iload_n C 1 40 rfl dX8_settle_39 rfl ?_
            refine zg_bipush C (38 : Int32) 42 rfl dX8_settle_40 (by decide) ?_
            refine zg_icmp_eq C 72 45 rfl dX8_settle_42 (by decide) ?_ ?_
            · exact zg_vret C dX8_settle_72 trivial
            · exact hj2 M 
          · exact zg_vret C dX8_settle_72 trivial
set_option maxHeartbeats 4000000 in
set_option maxRecDepth 100000 in
theorem tM_settle {l : Launch} {E : zE} {A : Nat → Prop} (hD : zD E zNM A) (M : zM) (a0 : Int32) : zCT l yX8_settle cX8_settle 2 none 3 E zNM A [.ref (zad E 40 0), .int a0] M zvU zoT (qM_settle  M a0) := by
  refine zCT_of (by decide) hD (by first | decide | exact Nat.le_of_ble_eq_true rfl) (fun p e R s m args below meth c C => ?_)
  have C : zCx p R s m args meth c cX8_settle "TwoTrueModel" E zNM A 2 none 3 := C
  unfold qM_settle
  refine zg_sub [0, 1] [(0, .ref (zad E 40 0)), (1, .int a0)] rfl ?_
  refine tM_settle_L0 C hD a0  1000 M 
set_option maxHeartbeats 4000000 in
set_option maxRecDepth 100000 in
theorem tM_handsNow_L8 {p : Program} {l : Launch} {e : Env} {R : Room} {s : State} {m : MethodId} {args : Array Value} {below : List Frame} {meth : Method} {c : Code} {E : zE} {A : Nat → Prop} (C : zCx p R s m args meth c cX8_handsNow "TwoTrueModel" E zNM A 3 (some .int) 3) (hD : zD E zNM A) : ∀ (n : Nat) (M : zM) (v1 : Int32) (v2 : Int32), zG p l e R s m args below meth c E zNM A 3 zvI zoT 8 [(0, .ref (zad E 40 0)), (1, .int v1), (2, .int v2)] [] M (qM_handsNow_L8 n M v1 v2) := by
  intro n
  induction n with
  | zero =>
    intro M v1 v2
    exact zg_none
  | succ n ih =>
    intro M v1 v2
    rw [qM_handsNow_L8]
    refine zg_iload_n C 2 9 rfl dX8_handsNow_8 rfl ?_
    refine zg_aload_n C 0 10 rfl dX8_handsNow_9 rfl ?_
    refine zg_callVI C [] 13 rfl dX8_handsNow_10 (tM_behind hD M ) rfl (fun _ _ hP _ => zrecv C.2.2.2.2.2.1 hP zn40 rfl rfl) zw1077 zw1074 zw1076 zv38 zw9 oM_behind (by decide) (Nat.le_of_ble_eq_true rfl) (fun x5 M4 h6 => ?_)
    refine zg_icmp_ge C 43 16 rfl dX8_handsNow_13 (by decide) ?_ ?_
    · refine zg_iload_n C 1 44 rfl dX8_handsNow_43 rfl ?_
      exact zg_iret C dX8_handsNow_44 trivial
    · refine zg_aload_n C 0 17 rfl dX8_handsNow_16 rfl ?_
      refine fgX8_62 C zn40 20 rfl dX8_handsNow_17 ?_
      refine zg_iload_n C 2 21 rfl dX8_handsNow_20 rfl ?_
      refine zg_iald C 22 rfl dX8_handsNow_21 zn51 rfl ?_
      refine zg_iconst C (2 : Int32) 23 rfl dX8_handsNow_22 (by decide) ?_
      refine zg_jn (fun j9 => ∀ (M8 : zM) (x7 : Int32), zG p l e R s m args below meth c E zNM A 3 zvI zoT 36 [(0, .ref (zad E 40 0)), (2, .int v2)] [.int x7] M8 (j9 M8 x7)) (fun M8 x7 => ?_) (fun j9 hj9 => ?_)
      · refine zg_istore_n C 1 [(1, .int x7), (0, .ref (zad E 40 0)), (2, .int v2)] 37 rfl dX8_handsNow_36 rfl (by decide) rfl ?_
        refine zg_iinc C 2 (v2 + (1 : Int32)) [(2, .int (v2 + (1 : Int32))), (1, .int x7), (0, .ref (zad E 40 0))] 40 rfl dX8_handsNow_37 rfl (congrArg (fun z : Int32 => v2 + z) (by decide : Int32.ofInt (1) = (1 : Int32))) (by decide) rfl ?_
        refine zg_goto C 8 dX8_handsNow_40 (by decide) ?_
        refine zg_sub [2, 1, 0] [(0, .ref (zad E 40 0)), (1, .int x7), (2, .int (v2 + (1 : Int32)))] rfl ?_
        exact ih M8 x7 (v2 + (1 : Int32))
      · refine zg_icmp_ne C 35 26 rfl dX8_handsNow_23 (by decide) ?_ ?_
        · refine zg_aload_n C 0 27 rfl dX8_handsNow_26 rfl ?_
          refine fgX8_65 C zn40 30 rfl dX8_handsNow_27 ?_
          refine zg_iload_n C 2 31 rfl dX8_handsNow_30 rfl ?_
          refine zg_iald C 32 rfl dX8_handsNow_31 zn52 rfl ?_
          refine zg_goto C 36 dX8_handsNow_32 (by decide) ?_
          refine zg_sub [0, 2] [(0, .ref (zad E 40 0)), (2, .int v2)] rfl ?_
          exact hj9 M4 (M4.1 52 0 v2.toNatClampNeg)
        · refine zg_iload_n C 1 36 rfl dX8_handsNow_35 rfl ?_
          refine zg_sub [0, 2] [(0, .ref (zad E 40 0)), (2, .int v2)] rfl ?_
          exact hj9 M4 v1
set_option maxHeartbeats 4000000 in
set_option maxRecDepth 100000 in
theorem tM_handsNow {l : Launch} {E : zE} {A : Nat → Prop} (hD : zD E zNM A) (M : zM) : zCT l yX8_handsNow cX8_handsNow 3 (some .int) 3 E zNM A [.ref (zad E 40 0)] M zvI zoT (qM_handsNow  M ) := by
  refine zCT_of (by decide) hD (by first | decide | exact Nat.le_of_ble_eq_true rfl) (fun p e R s m args below meth c C => ?_)
  have C : zCx p R s m args meth c cX8_handsNow "TwoTrueModel" E zNM A 3 (some .int) 3 := C
  unfold qM_handsNow
  refine zg_sub [0] [(0, .ref (zad E 40 0))] rfl ?_
  refine zg_bipush C (10 : Int32) 2 rfl dX8_handsNow_0 (by decide) ?_
  refine zg_istore_n C 1 [(1, .int (10 : Int32)), (0, .ref (zad E 40 0))] 3 rfl dX8_handsNow_2 rfl (by decide) rfl ?_
  refine zg_aload_n C 1 4 rfl dX8_handsNow_3 rfl ?_
  refine zg_callVI C [] 7 rfl dX8_handsNow_4 (tM_begin hD M ) rfl (fun _ _ hP _ => zrecv C.2.2.2.2.2.1 hP zn40 rfl rfl) zw1073 zw1070 zw1072 zv37 zw9 oM_begin (by decide) (Nat.le_of_ble_eq_true rfl) (fun x2 M1 h3 => ?_)
  refine zg_istore_n C 2 [(2, .int x2), (1, .int (10 : Int32)), (0, .ref (zad E 40 0))] 8 rfl dX8_handsNow_7 rfl (by decide) rfl ?_
  refine zg_sub [2, 1, 0] [(0, .ref (zad E 40 0)), (1, .int (10 : Int32)), (2, .int x2)] rfl ?_
  refine tM_handsNow_L8 C hD   1000 M1 (10 : Int32) x2
set_option maxHeartbeats 4000000 in
set_option maxRecDepth 100000 in
theorem tM_holds_L11 {p : Program} {l : Launch} {e : Env} {R : Room} {s : State} {m : MethodId} {args : Array Value} {below : List Frame} {meth : Method} {c : Code} {E : zE} {A : Nat → Prop} (C : zCx p R s m args meth c cX8_holds "TwoTrueModel" E zNM A 10 (some .boolean) 3) (hD : zD E zNM A) (c1 : Int32) (c2 : Int32) (c3 : Int32) (c4 : Int32) {e255 : zM → Option (Int32 × zM)} (he255 : ∀ (M : zM), zG p l e R s m args below meth c E zNM A 10 zvI zoB 255 [(0, .ref (zad E 40 0))] [] M (e255 M )) : ∀ (n : Nat) (M : zM) (v5 : Int32) (v6 : Int32), zG p l e R s m args below meth c E zNM A 10 zvI zoB 11 [(0, .ref (zad E 40 0)), (1, .int c1), (2, .int c2), (3, .int c3), (4, .int c4), (5, .int v5), (6, .int v6)] [] M (qM_holds_L11 c1 c2 c3 c4 e255 n M v5 v6) := by
  intro n
  induction n with
  | zero =>
    intro M v5 v6
    exact zg_none
  | succ n ih =>
    intro M v5 v6
    rw [qM_holds_L11]
    refine zg_iload C 6 13 rfl dX8_holds_11 rfl ?_
    refine zg_aload_n C 0 14 rfl dX8_holds_13 rfl ?_
    refine fgX8_71 C zn40 17 rfl dX8_holds_14 ?_
    refine zg_iload_n C 1 18 rfl dX8_holds_17 rfl ?_
    refine zg_iald C 19 rfl dX8_holds_18 zn54 rfl ?_
    refine zg_icmp_ge C 255 22 rfl dX8_holds_19 (by decide) ?_ ?_
    · refine zg_sub [0] [(0, .ref (zad E 40 0))] rfl ?_
      exact he255 M 
    · refine zg_aload_n C 0 23 rfl dX8_holds_22 rfl ?_
      refine fgX8_74 C zn40 26 rfl dX8_holds_23 ?_
      refine zg_iload C 6 28 rfl dX8_holds_26 rfl ?_
      refine zg_iald C 29 rfl dX8_holds_28 zn55 rfl ?_
      refine zg_nmI (fun x2 => ?_)
      refine zg_istore C 7 [(7, .int x2), (0, .ref (zad E 40 0)), (1, .int c1), (2, .int c2), (3, .int c3), (4, .int c4), (5, .int v5), (6, .int v6)] 31 rfl dX8_holds_29 (by decide) rfl ?_
      refine zg_iload C 0 33 rfl dX8_holds_31 rfl ?_
      refine zg_bipush C (-33 : Int32) 35 rfl dX8_holds_33 (by decide) ?_
      refine zg_jn (fun j5 => ∀ (M4 : zM) (x3 : Int32), zG p l e R s m args below meth c E zNM A 10 zvI zoB 249 [(0, .ref (zad E 40 0)), (1, .int c1), (2, .int c2), (3, .int c3), (4, .int c4), (5, .int x3), (6, .int v6)] [] M4 (j5 M4 x3)) (fun M4 x3 => ?_) (fun j5 hj5 => ?_)
      · refine zg_iinc C 6 (v6 + (1 : Int32)) [(6, .int (v6 + (1 : Int32))), (0, .ref (zad E 40 0)), (1, .int c1), (2, .int c2), (3, .int c3), (4, .int c4), (5, .int x3)] 252 rfl dX8_holds_249 rfl (congrArg (fun z : Int32 => v6 + z) (by decide : Int32.ofInt (1) = (1 : Int32))) (by decide) rfl ?_
        refine zg_goto C 11 dX8_holds_252 (by decide) ?_
        refine zg_sub [1, 2, 3, 4, 5, 6, 0] [(0, .ref (zad E 40 0)), (1, .int c1), (2, .int c2), (3, .int c3), (4, .int c4), (5, .int x3), (6, .int (v6 + (1 : Int32)))] rfl ?_
        exact ih M4 x3 (v6 + (1 : Int32))
      · refine zg_icmp_ne C 67 38 rfl dX8_holds_35 (by decide) ?_ ?_
        · refine zg_aload_n C 1 39 rfl dX8_holds_38 rfl ?_
          refine fgX8_92 C zn40 42 rfl dX8_holds_39 ?_
          refine zg_iload C 6 44 rfl dX8_holds_42 rfl ?_
          refine zg_iconst C (1 : Int32) 45 rfl dX8_holds_44 (by decide) ?_
          refine zg_isub C 46 rfl dX8_holds_45 ?_
          refine zg_aload_n C 1 47 rfl dX8_holds_46 rfl ?_
          refine fgX8_92 C zn40 50 rfl dX8_holds_47 ?_
          refine zg_iload C 6 52 rfl dX8_holds_50 rfl ?_
          refine zg_iconst C (1 : Int32) 53 rfl dX8_holds_52 (by decide) ?_
          refine zg_isub C 54 rfl dX8_holds_53 ?_
          refine zg_zald C 55 rfl dX8_holds_54 zn58 rfl ?_
          refine zg_jn (fun j8 => ∀ (M7 : zM) (x6 : Int32), zG p l e R s m args below meth c E zNM A 10 zvI zoB 63 [(0, .ref (zad E 40 0)), (1, .int c1), (2, .int c2), (3, .int c3), (4, .int c4), (5, .int v5), (6, .int v6)] [.int x6, .int (v5 - (1 : Int32)), .ref (zad E 58 0)] M7 (j8 M7 x6)) (fun M7 x6 => ?_) (fun j8 hj8 => ?_)
          · refine zg_zast C 64 rfl dX8_holds_63 zn58 (fun _ _ => rfl) (fun M9 => ?_)
            refine zg_goto C 249 dX8_holds_64 (by decide) ?_
            exact hj5 M9 v5
          · refine zg_if_ne C 62 58 rfl dX8_holds_55 (by decide) ?_ ?_
            · refine zg_iconst C (1 : Int32) 59 rfl dX8_holds_58 (by decide) ?_
              refine zg_goto C 63 dX8_holds_59 (by decide) ?_
              refine zg_sub [1, 2, 3, 4, 5, 6, 7] [(0, .ref (zad E 40 0)), (1, .int c1), (2, .int c2), (3, .int c3), (4, .int c4), (5, .int v5), (6, .int v6)] rfl ?_
              exact hj8 M (1 : Int32)
            · refine zg_iconst C (0 : Int32) 63 rfl dX8_holds_62 (by decide) ?_
              refine zg_sub [1, 2, 3, 4, 5, 6, 7] [(0, .ref (zad E 40 0)), (1, .int c1), (2, .int c2), (3, .int c3), (4, .int c4), (5, .int v5), (6, .int v6)] rfl ?_
              exact hj8 M (0 : Int32)
        · refine zg_iload C 0 69 rfl dX8_holds_67 rfl ?_
          refine zg_if_ge C 151 72 rfl dX8_holds_69 (by decide) ?_ ?_
          · refine zg_aload_n C 1 152 rfl dX8_holds_151 rfl ?_
            refine zg_iload C 0 154 rfl dX8_holds_152 rfl ?_
            refine zg_sipush C (1000 : Int32) 157 rfl dX8_holds_154 (by decide) ?_
            refine zg_idivK C 158 rfl dX8_holds_157 (by decide) ?_
            refine zg_iload_n C 3 159 rfl dX8_holds_158 rfl ?_
            refine zg_iload_n C 4 160 rfl dX8_holds_159 rfl ?_
            refine zg_iload C 5 162 rfl dX8_holds_160 rfl ?_
            refine zg_callVI C [.int (x2 / (1000 : Int32)), .int c2, .int c3, .int c4] 165 rfl dX8_holds_162 (tM_factOf hD M (x2 / (1000 : Int32)) c2 c3 c4) rfl (fun _ _ hP _ => zrecv C.2.2.2.2.2.1 hP zn40 rfl rfl) zw1093 zw1090 zw1092 zv41 zw9 oM_factOf (by decide) (Nat.le_of_ble_eq_true rfl) (fun x11 M10 h12 => ?_)
            refine zg_istore C 8 [(8, .int x11), (7, .int x2), (0, .ref (zad E 40 0)), (1, .int c1), (2, .int c2), (3, .int c3), (4, .int c4), (5, .int v5), (6, .int v6)] 167 rfl dX8_holds_165 (by decide) rfl ?_
            refine zg_iload C 1 169 rfl dX8_holds_167 rfl ?_
            refine zg_bipush C (100 : Int32) 171 rfl dX8_holds_169 (by decide) ?_
            refine zg_idivK C 172 rfl dX8_holds_171 (by decide) ?_
            refine zg_bipush C (10 : Int32) 174 rfl dX8_holds_172 (by decide) ?_
            refine zg_iremK C 175 rfl dX8_holds_174 (by decide) ?_
            refine zg_nmI (fun x13 => ?_)
            refine zg_istore C 9 [(9, .int x13), (8, .int x11), (7, .int x2), (0, .ref (zad E 40 0)), (1, .int c1), (2, .int c2), (3, .int c3), (4, .int c4), (5, .int v5), (6, .int v6)] 177 rfl dX8_holds_175 (by decide) rfl ?_
            refine zg_aload_n C 3 178 rfl dX8_holds_177 rfl ?_
            refine fgX8_92 C zn40 181 rfl dX8_holds_178 ?_
            refine zg_iload C 8 183 rfl dX8_holds_181 rfl ?_
            refine zg_iload C 0 185 rfl dX8_holds_183 rfl ?_
            refine zg_jn (fun j16 => ∀ (M15 : zM) (x14 : Int32), zG p l e R s m args below meth c E zNM A 10 zvI zoB 245 [(0, .ref (zad E 40 0)), (1, .int c1), (2, .int c2), (3, .int c3), (4, .int c4), (5, .int v5), (6, .int v6)] [.int x14, .int v5, .ref (zad E 58 0)] M15 (j16 M15 x14)) (fun M15 x14 => ?_) (fun j16 hj16 => ?_)
            · refine zg_zast C 246 rfl dX8_holds_245 zn58 (fun _ _ => rfl) (fun M17 => ?_)
              refine zg_iinc C 5 (v5 + (1 : Int32)) [(5, .int (v5 + (1 : Int32))), (0, .ref (zad E 40 0)), (1, .int c1), (2, .int c2), (3, .int c3), (4, .int c4), (6, .int v6)] 249 rfl dX8_holds_246 rfl (congrArg (fun z : Int32 => v5 + z) (by decide : Int32.ofInt (1) = (1 : Int32))) (by decide) rfl ?_
              refine zg_sub [1, 2, 3, 4, 5, 0, 6] [(0, .ref (zad E 40 0)), (1, .int c1), (2, .int c2), (3, .int c3), (4, .int c4), (5, .int (v5 + (1 : Int32))), (6, .int v6)] rfl ?_
              exact hj5 M17 (v5 + (1 : Int32))
            · refine zg_if_ne C 206 188 rfl dX8_holds_185 (by decide) ?_ ?_
              · refine zg_iload C 1 190 rfl dX8_holds_188 rfl ?_
                refine zg_iload C 2 192 rfl dX8_holds_190 rfl ?_
                refine zg_bipush C (100 : Int32) 194 rfl dX8_holds_192 (by decide) ?_
                refine zg_iremK C 195 rfl dX8_holds_194 (by decide) ?_
                refine zg_icmp_ge C 202 198 rfl dX8_holds_195 (by decide) ?_ ?_
                · refine zg_iconst C (0 : Int32) 203 rfl dX8_holds_202 (by decide) ?_
                  refine zg_goto C 245 dX8_holds_203 (by decide) ?_
                  refine zg_sub [3, 4, 5, 6, 7, 8, 9] [(0, .ref (zad E 40 0)), (1, .int c1), (2, .int c2), (3, .int c3), (4, .int c4), (5, .int v5), (6, .int v6)] rfl ?_
                  exact hj16 M10 (0 : Int32)
                · refine zg_iconst C (1 : Int32) 199 rfl dX8_holds_198 (by decide) ?_
                  refine zg_goto C 245 dX8_holds_199 (by decide) ?_
                  refine zg_sub [3, 4, 5, 6, 7, 8, 9] [(0, .ref (zad E 40 0)), (1, .int c1), (2, .int c2), (3, .int c3), (4, .int c4), (5, .int v5), (6, .int v6)] rfl ?_
                  exact hj16 M10 (1 : Int32)
              · refine zg_iload C 0 208 rfl dX8_holds_206 rfl ?_
                refine zg_iconst C (1 : Int32) 209 rfl dX8_holds_208 (by decide) ?_
                refine zg_icmp_ne C 230 212 rfl dX8_holds_209 (by decide) ?_ ?_
                · refine zg_iload C 1 214 rfl dX8_holds_212 rfl ?_
                  refine zg_iload C 2 216 rfl dX8_holds_214 rfl ?_
                  refine zg_bipush C (100 : Int32) 218 rfl dX8_holds_216 (by decide) ?_
                  refine zg_iremK C 219 rfl dX8_holds_218 (by decide) ?_
                  refine zg_icmp_ne C 226 222 rfl dX8_holds_219 (by decide) ?_ ?_
                  · refine zg_iconst C (1 : Int32) 223 rfl dX8_holds_222 (by decide) ?_
                    refine zg_goto C 245 dX8_holds_223 (by decide) ?_
                    refine zg_sub [3, 4, 5, 6, 7, 8, 9] [(0, .ref (zad E 40 0)), (1, .int c1), (2, .int c2), (3, .int c3), (4, .int c4), (5, .int v5), (6, .int v6)] rfl ?_
                    exact hj16 M10 (1 : Int32)
                  · refine zg_iconst C (0 : Int32) 227 rfl dX8_holds_226 (by decide) ?_
                    refine zg_goto C 245 dX8_holds_227 (by decide) ?_
                    refine zg_sub [3, 4, 5, 6, 7, 8, 9] [(0, .ref (zad E 40 0)), (1, .int c1), (2, .int c2), (3, .int c3), (4, .int c4), (5, .int v5), (6, .int v6)] rfl ?_
                    exact hj16 M10 (0 : Int32)
                · refine zg_iload C 1 232 rfl dX8_holds_230 rfl ?_
                  refine zg_iload C 2 234 rfl dX8_holds_232 rfl ?_
                  refine zg_bipush C (100 : Int32) 236 rfl dX8_holds_234 (by decide) ?_
                  refine zg_iremK C 237 rfl dX8_holds_236 (by decide) ?_
                  refine zg_icmp_le C 244 240 rfl dX8_holds_237 (by decide) ?_ ?_
                  · refine zg_iconst C (0 : Int32) 245 rfl dX8_holds_244 (by decide) ?_
                    refine zg_sub [3, 4, 5, 6, 7, 8, 9] [(0, .ref (zad E 40 0)), (1, .int c1), (2, .int c2), (3, .int c3), (4, .int c4), (5, .int v5), (6, .int v6)] rfl ?_
                    exact hj16 M10 (0 : Int32)
                  · refine zg_iconst C (1 : Int32) 241 rfl dX8_holds_240 (by decide) ?_
                    refine zg_goto C 245 dX8_holds_241 (by decide) ?_
                    refine zg_sub [3, 4, 5, 6, 7, 8, 9] [(0, .ref (zad E 40 0)), (1, .int c1), (2, .int c2), (3, .int c3), (4, .int c4), (5, .int v5), (6, .int v6)] rfl ?_
                    exact hj16 M10 (1 : Int32)
          · refine zg_iinc C 6 (v5 + (-1 : Int32)) [(5, .int (v5 + (-1 : Int32))), (7, .int x2), (0, .ref (zad E 40 0)), (1, .int c1), (2, .int c2), (3, .int c3), (4, .int c4), (6, .int v6)] 75 rfl dX8_holds_72 rfl (congrArg (fun z : Int32 => v5 + z) (by decide : Int32.ofInt (-1) = (-1 : Int32))) (by decide) rfl ?_
            refine zg_aload_n C 2 76 rfl dX8_holds_75 rfl ?_
            refine fgX8_92 C zn40 79 rfl dX8_holds_76 ?_
            refine zg_iload C 0 81 rfl dX8_holds_79 rfl ?_
            refine zg_iconst C (1 : Int32) 82 rfl dX8_holds_81 (by decide) ?_
            refine zg_isub C 83 rfl dX8_holds_82 ?_
            refine zg_iload C 1 85 rfl dX8_holds_83 rfl ?_
            refine zg_bipush C (-38 : Int32) 87 rfl dX8_holds_85 (by decide) ?_
            refine zg_jn (fun j20 => ∀ (M19 : zM) (x18 : Int32), zG p l e R s m args below meth c E zNM A 10 zvI zoB 147 [(0, .ref (zad E 40 0)), (1, .int c1), (2, .int c2), (3, .int c3), (4, .int c4), (5, .int (v5 + (-1 : Int32))), (6, .int v6)] [.int x18, .int ((v5 + (-1 : Int32)) - (1 : Int32)), .ref (zad E 58 0)] M19 (j20 M19 x18)) (fun M19 x18 => ?_) (fun j20 hj20 => ?_)
            · refine zg_zast C 148 rfl dX8_holds_147 zn58 (fun _ _ => rfl) (fun M21 => ?_)
              refine zg_goto C 249 dX8_holds_148 (by decide) ?_
              exact hj5 M21 (v5 + (-1 : Int32))
            · refine zg_icmp_ne C 120 90 rfl dX8_holds_87 (by decide) ?_ ?_
              · refine zg_aload_n C 2 91 rfl dX8_holds_90 rfl ?_
                refine fgX8_92 C zn40 94 rfl dX8_holds_91 ?_
                refine zg_iload C 0 96 rfl dX8_holds_94 rfl ?_
                refine zg_iconst C (1 : Int32) 97 rfl dX8_holds_96 (by decide) ?_
                refine zg_isub C 98 rfl dX8_holds_97 ?_
                refine zg_zald C 99 rfl dX8_holds_98 zn58 rfl ?_
                refine zg_jn (fun j23 => ∀ (M22 : zM), zG p l e R s m args below meth c E zNM A 10 zvI zoB 116 [(0, .ref (zad E 40 0)), (1, .int c1), (2, .int c2), (3, .int c3), (4, .int c4), (5, .int (v5 + (-1 : Int32))), (6, .int v6)] [.int ((v5 + (-1 : Int32)) - (1 : Int32)), .ref (zad E 58 0)] M22 (j23 M22 )) (fun M22 => ?_) (fun j23 hj23 => ?_)
                · refine zg_iconst C (0 : Int32) 117 rfl dX8_holds_116 (by decide) ?_
                  refine zg_goto C 147 dX8_holds_117 (by decide) ?_
                  exact hj20 M22 (0 : Int32)
                · refine zg_if_eq C 116 102 rfl dX8_holds_99 (by decide) ?_ ?_
                  · refine zg_sub [2, 3, 4, 5, 6, 0, 7] [(0, .ref (zad E 40 0)), (1, .int c1), (2, .int c2), (3, .int c3), (4, .int c4), (5, .int (v5 + (-1 : Int32))), (6, .int v6)] rfl ?_
                    exact hj23 M 
                  · refine zg_aload_n C 2 103 rfl dX8_holds_102 rfl ?_
                    refine fgX8_92 C zn40 106 rfl dX8_holds_103 ?_
                    refine zg_iload C 0 108 rfl dX8_holds_106 rfl ?_
                    refine zg_zald C 109 rfl dX8_holds_108 zn58 rfl ?_
                    refine zg_if_eq C 116 112 rfl dX8_holds_109 (by decide) ?_ ?_
                    · refine zg_sub [2, 3, 4, 5, 6, 0, 7] [(0, .ref (zad E 40 0)), (1, .int c1), (2, .int c2), (3, .int c3), (4, .int c4), (5, .int (v5 + (-1 : Int32))), (6, .int v6)] rfl ?_
                      exact hj23 M 
                    · refine zg_iconst C (1 : Int32) 113 rfl dX8_holds_112 (by decide) ?_
                      refine zg_goto C 147 dX8_holds_113 (by decide) ?_
                      refine zg_sub [2, 3, 4, 5, 6, 0, 7] [(0, .ref (zad E 40 0)), (1, .int c1), (2, .int c2), (3, .int c3), (4, .int c4), (5, .int (v5 + (-1 : Int32))), (6, .int v6)] rfl ?_
                      exact hj20 M (1 : Int32)
              · refine zg_aload_n C 2 121 rfl dX8_holds_120 rfl ?_
                refine fgX8_92 C zn40 124 rfl dX8_holds_121 ?_
                refine zg_iload C 0 126 rfl dX8_holds_124 rfl ?_
                refine zg_iconst C (1 : Int32) 127 rfl dX8_holds_126 (by decide) ?_
                refine zg_isub C 128 rfl dX8_holds_127 ?_
                refine zg_zald C 129 rfl dX8_holds_128 zn58 rfl ?_
                refine zg_jn (fun j25 => ∀ (M24 : zM), zG p l e R s m args below meth c E zNM A 10 zvI zoB 142 [(0, .ref (zad E 40 0)), (1, .int c1), (2, .int c2), (3, .int c3), (4, .int c4), (5, .int (v5 + (-1 : Int32))), (6, .int v6)] [.int ((v5 + (-1 : Int32)) - (1 : Int32)), .ref (zad E 58 0)] M24 (j25 M24 )) (fun M24 => ?_) (fun j25 hj25 => ?_)
                · refine zg_iconst C (1 : Int32) 143 rfl dX8_holds_142 (by decide) ?_
                  refine zg_goto C 147 dX8_holds_143 (by decide) ?_
                  exact hj20 M24 (1 : Int32)
                · refine zg_if_ne C 142 132 rfl dX8_holds_129 (by decide) ?_ ?_
                  · refine zg_aload_n C 2 133 rfl dX8_holds_132 rfl ?_
                    refine fgX8_92 C zn40 136 rfl dX8_holds_133 ?_
                    refine zg_iload C 0 138 rfl dX8_holds_136 rfl ?_
                    refine zg_zald C 139 rfl dX8_holds_138 zn58 rfl ?_
                    refine zg_if_eq C 146 142 rfl dX8_holds_139 (by decide) ?_ ?_
                    · refine zg_iconst C (0 : Int32) 147 rfl dX8_holds_146 (by decide) ?_
                      refine zg_sub [2, 3, 4, 5, 6, 0, 7] [(0, .ref (zad E 40 0)), (1, .int c1), (2, .int c2), (3, .int c3), (4, .int c4), (5, .int (v5 + (-1 : Int32))), (6, .int v6)] rfl ?_
                      exact hj20 M (0 : Int32)
                    · refine zg_sub [2, 3, 4, 5, 6, 0, 7] [(0, .ref (zad E 40 0)), (1, .int c1), (2, .int c2), (3, .int c3), (4, .int c4), (5, .int (v5 + (-1 : Int32))), (6, .int v6)] rfl ?_
                      exact hj25 M 
                  · refine zg_sub [2, 3, 4, 5, 6, 0, 7] [(0, .ref (zad E 40 0)), (1, .int c1), (2, .int c2), (3, .int c3), (4, .int c4), (5, .int (v5 + (-1 : Int32))), (6, .int v6)] rfl ?_
                    exact hj25 M 
set_option maxHeartbeats 4000000 in
set_option maxRecDepth 100000 in
theorem tM_holds {l : Launch} {E : zE} {A : Nat → Prop} (hD : zD E zNM A) (M : zM) (a0 : Int32) (a1 : Int32) (a2 : Int32) (a3 : Int32) : zCT l yX8_holds cX8_holds 10 (some .boolean) 3 E zNM A [.ref (zad E 40 0), .int a0, .int a1, .int a2, .int a3] M zvI zoB (qM_holds  M a0 a1 a2 a3) := by
  refine zCT_of (by decide) hD (by first | decide | exact Nat.le_of_ble_eq_true rfl) (fun p e R s m args below meth c C => ?_)
  have C : zCx p R s m args meth c cX8_holds "TwoTrueModel" E zNM A 10 (some .boolean) 3 := C
  unfold qM_holds
  refine zg_sub [0, 1, 2, 3, 4] [(0, .ref (zad E 40 0)), (1, .int a0), (2, .int a1), (3, .int a2), (4, .int a3)] rfl ?_
  refine zg_iconst C (0 : Int32) 1 rfl dX8_holds_0 (by decide) ?_
  refine zg_istore C 5 [(5, .int (0 : Int32)), (0, .ref (zad E 40 0)), (1, .int a0), (2, .int a1), (3, .int a2), (4, .int a3)] 3 rfl dX8_holds_1 (by decide) rfl ?_
  refine zg_aload_n C 1 4 rfl dX8_holds_3 rfl ?_
  refine fgX8_68 C zn40 7 rfl dX8_holds_4 ?_
  refine zg_iload_n C 2 8 rfl dX8_holds_7 rfl ?_
  refine zg_iald C 9 rfl dX8_holds_8 zn53 rfl ?_
  refine zg_nmI (fun x1 => ?_)
  refine zg_istore C 6 [(6, .int x1), (5, .int (0 : Int32)), (0, .ref (zad E 40 0)), (1, .int a0), (2, .int a1), (3, .int a2), (4, .int a3)] 11 rfl dX8_holds_9 (by decide) rfl ?_
  refine zg_sub [2, 3, 4, 5, 6, 1, 0] [(0, .ref (zad E 40 0)), (1, .int a0), (2, .int a1), (3, .int a2), (4, .int a3), (5, .int (0 : Int32)), (6, .int x1)] rfl ?_
  refine tM_holds_L11 C hD a0 a1 a2 a3 (fun M26 => ?_) 1000 M (0 : Int32) x1
  · refine zg_aload_n C 0 256 rfl dX8_holds_255 rfl ?_
    refine fgX8_92 C zn40 259 rfl dX8_holds_256 ?_
    refine zg_iconst C (0 : Int32) 260 rfl dX8_holds_259 (by decide) ?_
    refine zg_zald C 261 rfl dX8_holds_260 zn58 rfl ?_
    exact zg_zretB C dX8_holds_261
set_option maxHeartbeats 4000000 in
set_option maxRecDepth 100000 in
theorem tM_friendly {l : Launch} {E : zE} {A : Nat → Prop} (hD : zD E zNM A) (M : zM) (a0 : Int32) (a1 : Int32) (a2 : Int32) : zCT l yX8_friendly cX8_friendly 4 (some .int) 3 E zNM A [.ref (zad E 40 0), .int a0, .int a1, .int a2] M zvI zoT (qM_friendly  M a0 a1 a2) := by
  refine zCT_of (by decide) hD (by first | decide | exact Nat.le_of_ble_eq_true rfl) (fun p e R s m args below meth c C => ?_)
  have C : zCx p R s m args meth c cX8_friendly "TwoTrueModel" E zNM A 4 (some .int) 3 := C
  unfold qM_friendly
  refine zg_sub [0, 1, 2, 3] [(0, .ref (zad E 40 0)), (1, .int a0), (2, .int a1), (3, .int a2)] rfl ?_
  refine zg_iload_n C 2 1 rfl dX8_friendly_0 rfl ?_
  refine zg_aload_n C 0 2 rfl dX8_friendly_1 rfl ?_
  refine fgX8_20 C zn40 5 rfl dX8_friendly_2 ?_
  refine zg_iload_n C 1 6 rfl dX8_friendly_5 rfl ?_
  refine zg_iald C 7 rfl dX8_friendly_6 zn42 rfl ?_
  refine zg_aload_n C 0 8 rfl dX8_friendly_7 rfl ?_
  refine fgX8_7 C zn40 11 rfl dX8_friendly_8 ?_
  refine zg_irem C 12 rfl dX8_friendly_11 ?_
  refine zg_icmp_ne C 35 15 rfl dX8_friendly_12 (by decide) ?_ ?_
  · refine zg_iload_n C 3 16 rfl dX8_friendly_15 rfl ?_
    refine zg_aload_n C 0 17 rfl dX8_friendly_16 rfl ?_
    refine zg_iload_n C 2 18 rfl dX8_friendly_17 rfl ?_
    refine zg_callVI C [.int a1] 21 rfl dX8_friendly_18 (tM_liePlace hD M a1) rfl (fun _ _ hP _ => zrecv C.2.2.2.2.2.1 hP zn40 rfl rfl) zw1129 zw1126 zw1128 zv49 zw9 oM_liePlace (by decide) (Nat.le_of_ble_eq_true rfl) (fun x2 M1 h3 => ?_)
    refine zg_icmp_ne C 35 24 rfl dX8_friendly_21 (by decide) ?_ ?_
    · refine zg_iconst C (5 : Int32) 25 rfl dX8_friendly_24 (by decide) ?_
      refine zg_aload_n C 0 26 rfl dX8_friendly_25 rfl ?_
      refine fgX8_20 C zn40 29 rfl dX8_friendly_26 ?_
      refine zg_iload_n C 1 30 rfl dX8_friendly_29 rfl ?_
      refine zg_iald C 31 rfl dX8_friendly_30 zn42 rfl ?_
      refine zg_imul C 32 rfl dX8_friendly_31 ?_
      refine zg_goto C 36 dX8_friendly_32 (by decide) ?_
      exact zg_iret C dX8_friendly_36 trivial
    · refine zg_iconst C (0 : Int32) 36 rfl dX8_friendly_35 (by decide) ?_
      exact zg_iret C dX8_friendly_36 trivial
  · refine zg_iconst C (0 : Int32) 36 rfl dX8_friendly_35 (by decide) ?_
    exact zg_iret C dX8_friendly_36 trivial
set_option maxHeartbeats 4000000 in
set_option maxRecDepth 100000 in
theorem tM_layLine_L6 {p : Program} {l : Launch} {e : Env} {R : Room} {s : State} {m : MethodId} {args : Array Value} {below : List Frame} {meth : Method} {c : Code} {E : zE} {A : Nat → Prop} (C : zCx p R s m args meth c cX8_layLine "TwoTrueModel" E zNM A 10 (some .boolean) 3) (hD : zD E zNM A) (c1 : Int32) (c2 : Int32) (c3 : Int32) {e25 : zM → Int32 → Option (Int32 × zM)} (he25 : ∀ (M : zM) (u4 : Int32), zG p l e R s m args below meth c E zNM A 10 zvI zoB 25 [(0, .ref (zad E 40 0)), (1, .int c1), (2, .int c2), (3, .int c3), (4, .int u4)] [] M (e25 M u4)) : ∀ (n : Nat) (M : zM) (v4 : Int32) (v5 : Int32), zG p l e R s m args below meth c E zNM A 10 zvI zoB 6 [(0, .ref (zad E 40 0)), (1, .int c1), (2, .int c2), (3, .int c3), (4, .int v4), (5, .int v5)] [] M (qM_layLine_L6 c1 c2 c3 e25 n M v4 v5) := by
  intro n
  induction n with
  | zero =>
    intro M v4 v5
    exact zg_none
  | succ n ih =>
    intro M v4 v5
    rw [qM_layLine_L6]
    refine zg_iload C 5 8 rfl dX8_layLine_6 rfl ?_
    refine zg_iload_n C 2 9 rfl dX8_layLine_8 rfl ?_
    refine zg_icmp_gt C 25 12 rfl dX8_layLine_9 (by decide) ?_ ?_
    · refine zg_sub [0, 1, 2, 3, 4] [(0, .ref (zad E 40 0)), (1, .int c1), (2, .int c2), (3, .int c3), (4, .int v4)] rfl ?_
      exact he25 M v4
    · refine zg_iload C 4 14 rfl dX8_layLine_12 rfl ?_
      refine zg_iload C 5 16 rfl dX8_layLine_14 rfl ?_
      refine zg_imul C 17 rfl dX8_layLine_16 ?_
      refine zg_nmI (fun x1 => ?_)
      refine zg_istore C 4 [(4, .int x1), (0, .ref (zad E 40 0)), (1, .int c1), (2, .int c2), (3, .int c3), (5, .int v5)] 19 rfl dX8_layLine_17 (by decide) rfl ?_
      refine zg_iinc C 5 (v5 + (1 : Int32)) [(5, .int (v5 + (1 : Int32))), (4, .int x1), (0, .ref (zad E 40 0)), (1, .int c1), (2, .int c2), (3, .int c3)] 22 rfl dX8_layLine_19 rfl (congrArg (fun z : Int32 => v5 + z) (by decide : Int32.ofInt (1) = (1 : Int32))) (by decide) rfl ?_
      refine zg_goto C 6 dX8_layLine_22 (by decide) ?_
      refine zg_sub [2, 3, 4, 5, 1, 0] [(0, .ref (zad E 40 0)), (1, .int c1), (2, .int c2), (3, .int c3), (4, .int x1), (5, .int (v5 + (1 : Int32)))] rfl ?_
      exact ih M x1 (v5 + (1 : Int32))
set_option maxHeartbeats 4000000 in
set_option maxRecDepth 100000 in
theorem tM_layLine_L74 {p : Program} {l : Launch} {e : Env} {R : Room} {s : State} {m : MethodId} {args : Array Value} {below : List Frame} {meth : Method} {c : Code} {E : zE} {A : Nat → Prop} (C : zCx p R s m args meth c cX8_layLine "TwoTrueModel" E zNM A 10 (some .boolean) 3) (hD : zD E zNM A) (c2 : Int32) (c4 : Int32) (c5 : Int32) (c6 : Int32) (c7 : Int32) {e117 : zM → Int32 → Option (Int32 × zM)} (he117 : ∀ (M : zM) (u9 : Int32), zG p l e R s m args below meth c E zNM A 10 zvI zoB 117 [(0, .ref (zad E 40 0)), (2, .int c2), (4, .int c4), (5, .int c5), (6, .int c6), (7, .int c7), (9, .int u9)] [] M (e117 M u9)) : ∀ (n : Nat) (M : zM) (v8 : Int32) (v9 : Int32), zG p l e R s m args below meth c E zNM A 10 zvI zoB 74 [(0, .ref (zad E 40 0)), (2, .int c2), (4, .int c4), (5, .int c5), (6, .int c6), (7, .int c7), (8, .int v8), (9, .int v9)] [] M (qM_layLine_L74 c2 c4 c5 c6 c7 e117 n M v8 v9) := by
  intro n
  induction n with
  | zero =>
    intro M v8 v9
    exact zg_none
  | succ n ih =>
    intro M v8 v9
    rw [qM_layLine_L74]
    refine zg_aload_n C 0 75 rfl dX8_layLine_74 rfl ?_
    refine zg_iload C 3 77 rfl dX8_layLine_75 rfl ?_
    refine zg_iload C 7 79 rfl dX8_layLine_77 rfl ?_
    refine zg_callVI C [.int c5, .int v9] 82 rfl dX8_layLine_79 (tM_has hD M c5 v9) rfl (fun _ _ hP _ => zrecv C.2.2.2.2.2.1 hP zn40 rfl rfl) zw1165 zw1162 zw1164 zv51 zw9 oM_has (by decide) (Nat.le_of_ble_eq_true rfl) (fun x8 M7 h9 => ?_)
    refine zg_jn (fun j11 => ∀ (M10 : zM), zG p l e R s m args below meth c E zNM A 10 zvI zoB 90 [(0, .ref (zad E 40 0)), (2, .int c2), (4, .int c4), (5, .int c5), (6, .int c6), (7, .int c7), (8, .int v8), (9, .int v9)] [] M10 (j11 M10 )) (fun M10 => ?_) (fun j11 hj11 => ?_)
    · refine zg_iload C 6 92 rfl dX8_layLine_90 rfl ?_
      refine zg_aload_n C 0 93 rfl dX8_layLine_92 rfl ?_
      refine zg_iload C 3 95 rfl dX8_layLine_93 rfl ?_
      refine zg_iload C 7 97 rfl dX8_layLine_95 rfl ?_
      refine zg_callVI C [.int c5, .int v9] 100 rfl dX8_layLine_97 (tM_has hD M10 c5 v9) rfl (fun _ _ hP _ => zrecv C.2.2.2.2.2.1 hP zn40 rfl rfl) zw1165 zw1162 zw1164 zv51 zw9 oM_has (by decide) (Nat.le_of_ble_eq_true rfl) (fun x13 M12 h14 => ?_)
      refine zg_jn (fun j17 => ∀ (M16 : zM) (x15 : Int32), zG p l e R s m args below meth c E zNM A 10 zvI zoB 108 [(0, .ref (zad E 40 0)), (2, .int c2), (4, .int c4), (5, .int c5), (6, .int c6), (7, .int c7), (9, .int v9)] [.int x15, .int v8] M16 (j17 M16 x15)) (fun M16 x15 => ?_) (fun j17 hj17 => ?_)
      · refine zg_isub C 109 rfl dX8_layLine_108 ?_
        refine zg_nmI (fun x18 => ?_)
        refine zg_istore C 8 [(8, .int x18), (0, .ref (zad E 40 0)), (2, .int c2), (4, .int c4), (5, .int c5), (6, .int c6), (7, .int c7), (9, .int v9)] 111 rfl dX8_layLine_109 (by decide) rfl ?_
        refine zg_iinc C 7 (v9 + (1 : Int32)) [(9, .int (v9 + (1 : Int32))), (8, .int x18), (0, .ref (zad E 40 0)), (2, .int c2), (4, .int c4), (5, .int c5), (6, .int c6), (7, .int c7)] 114 rfl dX8_layLine_111 rfl (congrArg (fun z : Int32 => v9 + z) (by decide : Int32.ofInt (1) = (1 : Int32))) (by decide) rfl ?_
        refine zg_goto C 74 dX8_layLine_114 (by decide) ?_
        refine zg_sub [2, 3, 4, 5, 6, 7, 1, 0] [(0, .ref (zad E 40 0)), (2, .int c2), (4, .int c4), (5, .int c5), (6, .int c6), (7, .int c7), (8, .int x18), (9, .int (v9 + (1 : Int32)))] rfl ?_
        exact ih M16 x18 (v9 + (1 : Int32))
      · refine zg_if_eq C 107 103 rfl dX8_layLine_100 (by decide) ?_ ?_
        · refine zg_iconst C (0 : Int32) 108 rfl dX8_layLine_107 (by decide) ?_
          refine zg_sub [0, 1, 2, 3, 4, 5, 7] [(0, .ref (zad E 40 0)), (2, .int c2), (4, .int c4), (5, .int c5), (6, .int c6), (7, .int c7), (9, .int v9)] rfl ?_
          exact hj17 M12 (0 : Int32)
        · refine zg_iconst C (1 : Int32) 104 rfl dX8_layLine_103 (by decide) ?_
          refine zg_goto C 108 dX8_layLine_104 (by decide) ?_
          refine zg_sub [0, 1, 2, 3, 4, 5, 7] [(0, .ref (zad E 40 0)), (2, .int c2), (4, .int c4), (5, .int c5), (6, .int c6), (7, .int c7), (9, .int v9)] rfl ?_
          exact hj17 M12 (1 : Int32)
    · refine zg_if_eq C 90 85 rfl dX8_layLine_82 (by decide) ?_ ?_
      · exact hj11 M7 
      · refine zg_iload C 6 87 rfl dX8_layLine_85 rfl ?_
        refine zg_if_le C 117 90 rfl dX8_layLine_87 (by decide) ?_ ?_
        · refine zg_sub [0, 1, 2, 3, 4, 5, 7] [(0, .ref (zad E 40 0)), (2, .int c2), (4, .int c4), (5, .int c5), (6, .int c6), (7, .int c7), (9, .int v9)] rfl ?_
          exact he117 M7 v9
        · exact hj11 M7 
set_option maxHeartbeats 4000000 in
set_option maxRecDepth 100000 in
theorem tM_layLine_L42 {p : Program} {l : Launch} {e : Env} {R : Room} {s : State} {m : MethodId} {args : Array Value} {below : List Frame} {meth : Method} {c : Code} {E : zE} {A : Nat → Prop} (C : zCx p R s m args meth c cX8_layLine "TwoTrueModel" E zNM A 10 (some .boolean) 3) (hD : zD E zNM A) (c2 : Int32) : ∀ (n : Nat) (M : zM) (v4 : Int32) (v5 : Int32) (v6 : Int32) (v7 : Int32), zG p l e R s m args below meth c E zNM A 10 zvI zoB 42 [(0, .ref (zad E 40 0)), (2, .int c2), (4, .int v4), (5, .int v5), (6, .int v6), (7, .int v7)] [] M (qM_layLine_L42 c2 n M v4 v5 v6 v7) := by
  intro n
  induction n with
  | zero =>
    intro M v4 v5 v6 v7
    exact zg_none
  | succ n ih =>
    intro M v4 v5 v6 v7
    rw [qM_layLine_L42]
    refine zg_iload C 5 44 rfl dX8_layLine_42 rfl ?_
    refine zg_iload_n C 1 45 rfl dX8_layLine_44 rfl ?_
    refine zg_icmp_ge C 143 48 rfl dX8_layLine_45 (by decide) ?_ ?_
    · refine zg_iconst C (1 : Int32) 144 rfl dX8_layLine_143 (by decide) ?_
      exact zg_zret C dX8_layLine_144 rfl rfl
    · refine zg_iload C 2 50 rfl dX8_layLine_48 rfl ?_
      refine zg_iload_n C 1 51 rfl dX8_layLine_50 rfl ?_
      refine zg_iload C 5 53 rfl dX8_layLine_51 rfl ?_
      refine zg_isub C 54 rfl dX8_layLine_53 ?_
      refine zg_idiv C 55 rfl dX8_layLine_54 ?_
      refine zg_nmI (fun x4 => ?_)
      refine zg_istore C 4 [(4, .int x4), (0, .ref (zad E 40 0)), (2, .int c2), (5, .int v5), (6, .int v6), (7, .int v7)] 57 rfl dX8_layLine_55 (by decide) rfl ?_
      refine zg_iload C 4 59 rfl dX8_layLine_57 rfl ?_
      refine zg_iload C 0 61 rfl dX8_layLine_59 rfl ?_
      refine zg_idiv C 62 rfl dX8_layLine_61 ?_
      refine zg_nmI (fun x5 => ?_)
      refine zg_istore C 8 [(8, .int x5), (4, .int x4), (0, .ref (zad E 40 0)), (2, .int c2), (5, .int v5), (6, .int v6), (7, .int v7)] 64 rfl dX8_layLine_62 (by decide) rfl ?_
      refine zg_iload C 5 66 rfl dX8_layLine_64 rfl ?_
      refine zg_iload C 1 68 rfl dX8_layLine_66 rfl ?_
      refine zg_irem C 69 rfl dX8_layLine_68 ?_
      refine zg_nmI (fun x6 => ?_)
      refine zg_istore C 6 [(6, .int x6), (8, .int x5), (4, .int x4), (0, .ref (zad E 40 0)), (2, .int c2), (5, .int v5), (7, .int v7)] 71 rfl dX8_layLine_69 (by decide) rfl ?_
      refine zg_iconst C (0 : Int32) 72 rfl dX8_layLine_71 (by decide) ?_
      refine zg_istore C 9 [(9, .int (0 : Int32)), (6, .int x6), (8, .int x5), (4, .int x4), (0, .ref (zad E 40 0)), (2, .int c2), (5, .int v5), (7, .int v7)] 74 rfl dX8_layLine_72 (by decide) rfl ?_
      refine zg_sub [4, 5, 3, 6, 1, 7, 2, 0] [(0, .ref (zad E 40 0)), (2, .int c2), (4, .int x4), (5, .int v5), (6, .int x6), (7, .int v7), (8, .int x5), (9, .int (0 : Int32))] rfl ?_
      refine tM_layLine_L74 C hD c2 x4 v5 x6 v7 (fun M19 x20 => ?_) 1000 M x5 (0 : Int32)
      · refine zg_aload_n C 0 118 rfl dX8_layLine_117 rfl ?_
        refine fgX8_114 C zn40 121 rfl dX8_layLine_118 ?_
        refine zg_iload C 5 123 rfl dX8_layLine_121 rfl ?_
        refine zg_iload C 6 125 rfl dX8_layLine_123 rfl ?_
        refine zg_iast C 126 rfl dX8_layLine_125 zn62 (fun _ _ => rfl) (fun M21 => ?_)
        refine zg_iload C 3 128 rfl dX8_layLine_126 rfl ?_
        refine zg_iconst C (1 : Int32) 129 rfl dX8_layLine_128 (by decide) ?_
        refine zg_iload C 6 131 rfl dX8_layLine_129 rfl ?_
        refine zg_ishl C 132 rfl dX8_layLine_131 ?_
        refine zg_iconst C (-1 : Int32) 133 rfl dX8_layLine_132 (by decide) ?_
        refine zg_ixor C 134 rfl dX8_layLine_133 ?_
        refine zg_iand C 135 rfl dX8_layLine_134 ?_
        refine zg_nmI (fun x22 => ?_)
        refine zg_istore C 5 [(5, .int x22), (0, .ref (zad E 40 0)), (2, .int c2), (4, .int x4), (6, .int x6), (7, .int v7), (9, .int x20)] 137 rfl dX8_layLine_135 (by decide) rfl ?_
        refine zg_iinc C 5 (v7 + (1 : Int32)) [(7, .int (v7 + (1 : Int32))), (5, .int x22), (0, .ref (zad E 40 0)), (2, .int c2), (4, .int x4), (6, .int x6), (9, .int x20)] 140 rfl dX8_layLine_137 rfl (congrArg (fun z : Int32 => v7 + z) (by decide : Int32.ofInt (1) = (1 : Int32))) (by decide) rfl ?_
        refine zg_goto C 42 dX8_layLine_140 (by decide) ?_
        refine zg_sub [2, 3, 4, 1, 5, 0] [(0, .ref (zad E 40 0)), (2, .int c2), (4, .int x4), (5, .int x22), (6, .int x6), (7, .int (v7 + (1 : Int32)))] rfl ?_
        exact ih M21 x4 x22 x6 (v7 + (1 : Int32))
set_option maxHeartbeats 4000000 in
set_option maxRecDepth 100000 in
theorem tM_layLine {l : Launch} {E : zE} {A : Nat → Prop} (hD : zD E zNM A) (M : zM) (a0 : Int32) (a1 : Int32) (a2 : Int32) : zCT l yX8_layLine cX8_layLine 10 (some .boolean) 3 E zNM A [.ref (zad E 40 0), .int a0, .int a1, .int a2] M zvI zoB (qM_layLine  M a0 a1 a2) := by
  refine zCT_of (by decide) hD (by first | decide | exact Nat.le_of_ble_eq_true rfl) (fun p e R s m args below meth c C => ?_)
  have C : zCx p R s m args meth c cX8_layLine "TwoTrueModel" E zNM A 10 (some .boolean) 3 := C
  unfold qM_layLine
  refine zg_sub [0, 1, 2, 3] [(0, .ref (zad E 40 0)), (1, .int a0), (2, .int a1), (3, .int a2)] rfl ?_
  refine zg_iconst C (1 : Int32) 1 rfl dX8_layLine_0 (by decide) ?_
  refine zg_istore C 4 [(4, .int (1 : Int32)), (0, .ref (zad E 40 0)), (1, .int a0), (2, .int a1), (3, .int a2)] 3 rfl dX8_layLine_1 (by decide) rfl ?_
  refine zg_iconst C (2 : Int32) 4 rfl dX8_layLine_3 (by decide) ?_
  refine zg_istore C 5 [(5, .int (2 : Int32)), (4, .int (1 : Int32)), (0, .ref (zad E 40 0)), (1, .int a0), (2, .int a1), (3, .int a2)] 6 rfl dX8_layLine_4 (by decide) rfl ?_
  refine zg_sub [2, 3, 4, 5, 1, 0] [(0, .ref (zad E 40 0)), (1, .int a0), (2, .int a1), (3, .int a2), (4, .int (1 : Int32)), (5, .int (2 : Int32))] rfl ?_
  refine tM_layLine_L6 C hD a0 a1 a2 (fun M2 x3 => ?_) 1000 M (1 : Int32) (2 : Int32)
  · refine zg_iload_n C 3 26 rfl dX8_layLine_25 rfl ?_
    refine zg_iload C 4 28 rfl dX8_layLine_26 rfl ?_
    refine zg_icmp_lt C 33 31 rfl dX8_layLine_28 (by decide) ?_ ?_
    · refine zg_iload_n C 1 34 rfl dX8_layLine_33 rfl ?_
      refine zg_istore C 5 [(5, .int a0), (0, .ref (zad E 40 0)), (1, .int a0), (2, .int a1), (3, .int a2), (4, .int x3)] 36 rfl dX8_layLine_34 (by decide) rfl ?_
      refine zg_iload_n C 4 37 rfl dX8_layLine_36 rfl ?_
      refine zg_istore C 6 [(6, .int a2), (5, .int a0), (0, .ref (zad E 40 0)), (1, .int a0), (2, .int a1), (3, .int a2), (4, .int x3)] 39 rfl dX8_layLine_37 (by decide) rfl ?_
      refine zg_iconst C (0 : Int32) 40 rfl dX8_layLine_39 (by decide) ?_
      refine zg_istore C 7 [(7, .int (0 : Int32)), (6, .int a2), (5, .int a0), (0, .ref (zad E 40 0)), (1, .int a0), (2, .int a1), (3, .int a2), (4, .int x3)] 42 rfl dX8_layLine_40 (by decide) rfl ?_
      refine zg_sub [3, 5, 7, 2, 1, 0] [(0, .ref (zad E 40 0)), (2, .int a1), (4, .int x3), (5, .int a0), (6, .int a2), (7, .int (0 : Int32))] rfl ?_
      refine tM_layLine_L42 C hD a1  1000 M2 x3 a0 a2 (0 : Int32)
    · refine zg_iconst C (0 : Int32) 32 rfl dX8_layLine_31 (by decide) ?_
      exact zg_zret C dX8_layLine_32 rfl rfl
set_option maxHeartbeats 4000000 in
set_option maxRecDepth 100000 in
theorem tM_see {l : Launch} {E : zE} {A : Nat → Prop} (hD : zD E zNM A) (M : zM) (a0 : Int32) (a1 : Int32) : zCT l yX8_see cX8_see 4 (some .int) 3 E zNM A [.ref (zad E 40 0), .int a0, .int a1] M zvI zoT (qM_see  M a0 a1) := by
  refine zCT_of (by decide) hD (by first | decide | exact Nat.le_of_ble_eq_true rfl) (fun p e R s m args below meth c C => ?_)
  have C : zCx p R s m args meth c cX8_see "TwoTrueModel" E zNM A 4 (some .int) 3 := C
  unfold qM_see
  refine zg_sub [0, 1, 2] [(0, .ref (zad E 40 0)), (1, .int a0), (2, .int a1)] rfl ?_
  refine zg_aload_n C 0 1 rfl dX8_see_0 rfl ?_
  refine zg_iload_n C 1 2 rfl dX8_see_1 rfl ?_
  refine zg_iconst C (0 : Int32) 3 rfl dX8_see_2 (by decide) ?_
  refine zg_iconst C (2 : Int32) 4 rfl dX8_see_3 (by decide) ?_
  refine zg_callVI C [.int a0, .int (0 : Int32), .int (2 : Int32)] 7 rfl dX8_see_4 (tM_in hD M a0 (0 : Int32) (2 : Int32)) rfl (fun _ _ hP _ => zrecv C.2.2.2.2.2.1 hP zn40 rfl rfl) zw969 zw966 zw968 zv19 zw9 oM_in (by decide) (Nat.le_of_ble_eq_true rfl) (fun x2 M1 h3 => ?_)
  refine zg_if_ne C 12 10 rfl dX8_see_7 (by decide) ?_ ?_
  · refine zg_iconst C (-1 : Int32) 11 rfl dX8_see_10 (by decide) ?_
    exact zg_iret C dX8_see_11 trivial
  · refine zg_aload_n C 0 13 rfl dX8_see_12 rfl ?_
    refine zg_iload_n C 2 14 rfl dX8_see_13 rfl ?_
    refine zg_iconst C (0 : Int32) 15 rfl dX8_see_14 (by decide) ?_
    refine zg_iconst C (5 : Int32) 16 rfl dX8_see_15 (by decide) ?_
    refine zg_callVI C [.int a1, .int (0 : Int32), .int (5 : Int32)] 19 rfl dX8_see_16 (tM_in hD M1 a1 (0 : Int32) (5 : Int32)) rfl (fun _ _ hP _ => zrecv C.2.2.2.2.2.1 hP zn40 rfl rfl) zw969 zw966 zw968 zv19 zw9 oM_in (by decide) (Nat.le_of_ble_eq_true rfl) (fun x5 M4 h6 => ?_)
    refine zg_if_ne C 25 22 rfl dX8_see_19 (by decide) ?_ ?_
    · refine zg_bipush C (-2 : Int32) 24 rfl dX8_see_22 (by decide) ?_
      exact zg_iret C dX8_see_24 trivial
    · refine zg_aload_n C 0 26 rfl dX8_see_25 rfl ?_
      refine fgX8_120 C zn40 29 rfl dX8_see_26 ?_
      refine zg_iload_n C 1 30 rfl dX8_see_29 rfl ?_
      refine zg_iald C 31 rfl dX8_see_30 zn64 rfl ?_
      refine zg_nmI (fun x7 => ?_)
      refine zg_istore_n C 3 [(3, .int x7), (0, .ref (zad E 40 0)), (1, .int a0), (2, .int a1)] 32 rfl dX8_see_31 rfl (by decide) rfl ?_
      refine zg_aload_n C 1 33 rfl dX8_see_32 rfl ?_
      refine fgX8_120 C zn40 36 rfl dX8_see_33 ?_
      refine zg_iload_n C 2 37 rfl dX8_see_36 rfl ?_
      refine zg_iload_n C 3 38 rfl dX8_see_37 rfl ?_
      refine zg_iast C 39 rfl dX8_see_38 zn64 (fun _ _ => rfl) (fun M8 => ?_)
      refine zg_iload_n C 0 40 rfl dX8_see_39 rfl ?_
      exact zg_iret C dX8_see_40 trivial
set_option maxHeartbeats 4000000 in
set_option maxRecDepth 100000 in
theorem tM_lowest {l : Launch} {E : zE} {A : Nat → Prop} (hD : zD E zNM A) (M : zM) (a0 : Int32) (a1 : Int32) (a2 : Int32) : zCT l yX8_lowest cX8_lowest 5 (some .long) 3 E zNM A [.ref (zad E 40 0), .int a0, .int a1, .int a2] M zvL zoT (qM_lowest  M a0 a1 a2) := by
  refine zCT_of (by decide) hD (by first | decide | exact Nat.le_of_ble_eq_true rfl) (fun p e R s m args below meth c C => ?_)
  have C : zCx p R s m args meth c cX8_lowest "TwoTrueModel" E zNM A 5 (some .long) 3 := C
  unfold qM_lowest
  refine zg_sub [0, 1, 2, 3] [(0, .ref (zad E 40 0)), (1, .int a0), (2, .int a1), (3, .int a2)] rfl ?_
  refine zg_aload_n C 0 1 rfl dX8_lowest_0 rfl ?_
  refine zg_iload_n C 1 2 rfl dX8_lowest_1 rfl ?_
  refine zg_iload_n C 2 3 rfl dX8_lowest_2 rfl ?_
  refine zg_callVI C [.int a0, .int a1] 6 rfl dX8_lowest_3 (tM_divisor hD M a0 a1) rfl (fun _ _ hP _ => zrecv C.2.2.2.2.2.1 hP zn40 rfl rfl) zw1198 zw1195 zw1197 zv54 zw9 oM_divisor (by decide) (Nat.le_of_ble_eq_true rfl) (fun x2 M1 h3 => ?_)
  refine zg_istore C 4 [(4, .int x2), (0, .ref (zad E 40 0)), (1, .int a0), (2, .int a1), (3, .int a2)] 8 rfl dX8_lowest_6 (by decide) rfl ?_
  refine zg_iload_n C 4 9 rfl dX8_lowest_8 rfl ?_
  refine zg_if_ne C 20 12 rfl dX8_lowest_9 (by decide) ?_ ?_
  · refine zg_iload_n C 2 13 rfl dX8_lowest_12 rfl ?_
    refine zg_iload C 0 15 rfl dX8_lowest_13 rfl ?_
    refine zg_idiv C 16 rfl dX8_lowest_15 ?_
    refine zg_i2l C 17 rfl dX8_lowest_16 ?_
    refine zg_goto C 25 dX8_lowest_17 (by decide) ?_
    exact zg_lret C dX8_lowest_25 trivial
  · refine zg_iload_n C 3 21 rfl dX8_lowest_20 rfl ?_
    refine zg_iload C 0 23 rfl dX8_lowest_21 rfl ?_
    refine zg_idiv C 24 rfl dX8_lowest_23 ?_
    refine zg_i2l C 25 rfl dX8_lowest_24 ?_
    exact zg_lret C dX8_lowest_25 trivial
set_option maxHeartbeats 4000000 in
set_option maxRecDepth 100000 in
theorem tM_isTape {l : Launch} {E : zE} {A : Nat → Prop} (hD : zD E zNM A) (M : zM) (a0 : Int32) : zCT l yX8_isTape cX8_isTape 2 (some .boolean) 3 E zNM A [.ref (zad E 40 0), .int a0] M zvI zoB (qM_isTape  M a0) := by
  refine zCT_of (by decide) hD (by first | decide | exact Nat.le_of_ble_eq_true rfl) (fun p e R s m args below meth c C => ?_)
  have C : zCx p R s m args meth c cX8_isTape "TwoTrueModel" E zNM A 2 (some .boolean) 3 := C
  unfold qM_isTape
  refine zg_sub [0, 1] [(0, .ref (zad E 40 0)), (1, .int a0)] rfl ?_
  refine zg_aload_n C 0 1 rfl dX8_isTape_0 rfl ?_
  refine zg_iload_n C 1 2 rfl dX8_isTape_1 rfl ?_
  refine zg_iconst C (0 : Int32) 3 rfl dX8_isTape_2 (by decide) ?_
  refine zg_iconst C (5 : Int32) 4 rfl dX8_isTape_3 (by decide) ?_
  refine zg_callVI C [.int a0, .int (0 : Int32), .int (5 : Int32)] 7 rfl dX8_isTape_4 (tM_in hD M a0 (0 : Int32) (5 : Int32)) rfl (fun _ _ hP _ => zrecv C.2.2.2.2.2.1 hP zn40 rfl rfl) zw969 zw966 zw968 zv19 zw9 oM_in (by decide) (Nat.le_of_ble_eq_true rfl) (fun x2 M1 h3 => ?_)
  exact zg_zret C dX8_isTape_7 h3 h3
set_option maxHeartbeats 4000000 in
set_option maxRecDepth 100000 in
theorem tM_guestDoubts {l : Launch} {E : zE} {A : Nat → Prop} (hD : zD E zNM A) (M : zM) (a0 : Int32) (a1 : Int32) : zCT l yX8_guestDoubts cX8_guestDoubts 3 (some .int) 3 E zNM A [.ref (zad E 40 0), .int a0, .int a1] M zvI zoT (qM_guestDoubts  M a0 a1) := by
  refine zCT_of (by decide) hD (by first | decide | exact Nat.le_of_ble_eq_true rfl) (fun p e R s m args below meth c C => ?_)
  have C : zCx p R s m args meth c cX8_guestDoubts "TwoTrueModel" E zNM A 3 (some .int) 3 := C
  unfold qM_guestDoubts
  refine zg_sub [0, 1, 2] [(0, .ref (zad E 40 0)), (1, .int a0), (2, .int a1)] rfl ?_
  refine zg_aload_n C 0 1 rfl dX8_guestDoubts_0 rfl ?_
  refine zg_bipush C (10 : Int32) 3 rfl dX8_guestDoubts_1 (by decide) ?_
  refine zg_callVU C [.int (10 : Int32)] 6 rfl dX8_guestDoubts_3 (tM_body hD M (10 : Int32)) rfl (fun _ _ hP _ => zrecv C.2.2.2.2.2.1 hP zn40 rfl rfl) zw1238 zw1235 zw1237 zv57 zw9 oM_body (by decide) (Nat.le_of_ble_eq_true rfl) (fun _u M1 h2 => ?_)
  refine zg_iload_n C 2 7 rfl dX8_guestDoubts_6 rfl ?_
  refine zg_iload_n C 1 8 rfl dX8_guestDoubts_7 rfl ?_
  refine zg_iadd C 9 rfl dX8_guestDoubts_8 ?_
  exact zg_iret C dX8_guestDoubts_9 trivial
set_option maxHeartbeats 4000000 in
set_option maxRecDepth 100000 in
theorem tM_trace {l : Launch} {E : zE} {A : Nat → Prop} (hD : zD E zNM A) (M : zM) (a0 : Int32) : zCT l yX8_trace cX8_trace 2 (some .int) 3 E zNM A [.ref (zad E 40 0), .int a0] M zvI zoT (qM_trace  M a0) := by
  refine zCT_of (by decide) hD (by first | decide | exact Nat.le_of_ble_eq_true rfl) (fun p e R s m args below meth c C => ?_)
  have C : zCx p R s m args meth c cX8_trace "TwoTrueModel" E zNM A 2 (some .int) 3 := C
  unfold qM_trace
  refine zg_sub [0, 1] [(0, .ref (zad E 40 0)), (1, .int a0)] rfl ?_
  refine zg_aload_n C 0 1 rfl dX8_trace_0 rfl ?_
  refine zg_iload_n C 1 2 rfl dX8_trace_1 rfl ?_
  refine zg_iconst C (0 : Int32) 3 rfl dX8_trace_2 (by decide) ?_
  refine zg_bipush C (19 : Int32) 5 rfl dX8_trace_3 (by decide) ?_
  refine zg_callVI C [.int a0, .int (0 : Int32), .int (19 : Int32)] 8 rfl dX8_trace_5 (tM_in hD M a0 (0 : Int32) (19 : Int32)) rfl (fun _ _ hP _ => zrecv C.2.2.2.2.2.1 hP zn40 rfl rfl) zw969 zw966 zw968 zv19 zw9 oM_in (by decide) (Nat.le_of_ble_eq_true rfl) (fun x2 M1 h3 => ?_)
  refine zg_if_eq C 28 11 rfl dX8_trace_8 (by decide) ?_ ?_
  · refine zg_iconst C (-1 : Int32) 29 rfl dX8_trace_28 (by decide) ?_
    exact zg_iret C dX8_trace_29 trivial
  · refine zg_iload_n C 1 12 rfl dX8_trace_11 rfl ?_
    refine zg_aload_n C 0 13 rfl dX8_trace_12 rfl ?_
    refine fgX8_190 C zn40 16 rfl dX8_trace_13 ?_
    refine zg_icmp_ge C 28 19 rfl dX8_trace_16 (by decide) ?_ ?_
    · refine zg_iconst C (-1 : Int32) 29 rfl dX8_trace_28 (by decide) ?_
      exact zg_iret C dX8_trace_29 trivial
    · refine zg_aload_n C 0 20 rfl dX8_trace_19 rfl ?_
      refine fgX8_193 C zn40 23 rfl dX8_trace_20 ?_
      refine zg_iload_n C 1 24 rfl dX8_trace_23 rfl ?_
      refine zg_iald C 25 rfl dX8_trace_24 zn81 rfl ?_
      refine zg_goto C 29 dX8_trace_25 (by decide) ?_
      exact zg_iret C dX8_trace_29 trivial
set_option maxHeartbeats 4000000 in
set_option maxRecDepth 100000 in
theorem tM_thing {l : Launch} {E : zE} {A : Nat → Prop} (hD : zD E zNM A) (M : zM) (a0 : Int32) (a1 : Int32) (a2 : Int32) (a3 : Int32) : zCT l yX8_thing cX8_thing 6 (some .int) 4 E zNM A [.ref (zad E 40 0), .int a0, .int a1, .int a2, .int a3] M zvI zoT (qM_thing  M a0 a1 a2 a3) := by
  refine zCT_of (by decide) hD (by first | decide | exact Nat.le_of_ble_eq_true rfl) (fun p e R s m args below meth c C => ?_)
  have C : zCx p R s m args meth c cX8_thing "TwoTrueModel" E zNM A 6 (some .int) 4 := C
  unfold qM_thing
  refine zg_sub [0, 1, 2, 3, 4] [(0, .ref (zad E 40 0)), (1, .int a0), (2, .int a1), (3, .int a2), (4, .int a3)] rfl ?_
  refine zg_aload_n C 0 1 rfl dX8_thing_0 rfl ?_
  refine zg_iload_n C 1 2 rfl dX8_thing_1 rfl ?_
  refine zg_callVI C [.int a0] 5 rfl dX8_thing_2 (tM_isPerson hD M a0) rfl (fun _ _ hP _ => zrecv C.2.2.2.2.2.1 hP zn40 rfl rfl) zw977 zw974 zw976 zv20 zw9 oM_isPerson (by decide) (Nat.le_of_ble_eq_true rfl) (fun x2 M1 h3 => ?_)
  refine zg_if_eq C 28 8 rfl dX8_thing_5 (by decide) ?_ ?_
  · refine zg_iconst C (-1 : Int32) 29 rfl dX8_thing_28 (by decide) ?_
    exact zg_iret C dX8_thing_29 trivial
  · refine zg_aload_n C 0 9 rfl dX8_thing_8 rfl ?_
    refine zg_iload_n C 2 10 rfl dX8_thing_9 rfl ?_
    refine zg_iconst C (0 : Int32) 11 rfl dX8_thing_10 (by decide) ?_
    refine zg_iconst C (2 : Int32) 12 rfl dX8_thing_11 (by decide) ?_
    refine zg_callVI C [.int a1, .int (0 : Int32), .int (2 : Int32)] 15 rfl dX8_thing_12 (tM_in hD M1 a1 (0 : Int32) (2 : Int32)) rfl (fun _ _ hP _ => zrecv C.2.2.2.2.2.1 hP zn40 rfl rfl) zw969 zw966 zw968 zv19 zw9 oM_in (by decide) (Nat.le_of_ble_eq_true rfl) (fun x5 M4 h6 => ?_)
    refine zg_if_eq C 28 18 rfl dX8_thing_15 (by decide) ?_ ?_
    · refine zg_iconst C (-1 : Int32) 29 rfl dX8_thing_28 (by decide) ?_
      exact zg_iret C dX8_thing_29 trivial
    · refine zg_aload_n C 0 19 rfl dX8_thing_18 rfl ?_
      refine zg_iload_n C 3 20 rfl dX8_thing_19 rfl ?_
      refine zg_iconst C (0 : Int32) 21 rfl dX8_thing_20 (by decide) ?_
      refine zg_iconst C (1 : Int32) 22 rfl dX8_thing_21 (by decide) ?_
      refine zg_callVI C [.int a2, .int (0 : Int32), .int (1 : Int32)] 25 rfl dX8_thing_22 (tM_in hD M4 a2 (0 : Int32) (1 : Int32)) rfl (fun _ _ hP _ => zrecv C.2.2.2.2.2.1 hP zn40 rfl rfl) zw969 zw966 zw968 zv19 zw9 oM_in (by decide) (Nat.le_of_ble_eq_true rfl) (fun x8 M7 h9 => ?_)
      refine zg_if_ne C 30 28 rfl dX8_thing_25 (by decide) ?_ ?_
      · refine zg_iconst C (-1 : Int32) 29 rfl dX8_thing_28 (by decide) ?_
        exact zg_iret C dX8_thing_29 trivial
      · refine zg_aload_n C 0 31 rfl dX8_thing_30 rfl ?_
        refine zg_iload C 4 33 rfl dX8_thing_31 rfl ?_
        refine zg_iconst C (0 : Int32) 34 rfl dX8_thing_33 (by decide) ?_
        refine zg_iload_n C 3 35 rfl dX8_thing_34 rfl ?_
        refine zg_jn (fun j12 => ∀ (M11 : zM) (x10 : Int32), zG p l e R s m args below meth c E zNM A 6 zvI zoT 45 [(0, .ref (zad E 40 0)), (1, .int a0), (2, .int a1), (3, .int a2), (4, .int a3)] [.int x10, .int (0 : Int32), .int a3, .ref (zad E 40 0)] M11 (j12 M11 x10)) (fun M11 x10 => ?_) (fun j12 hj12 => ?_)
        · refine zg_callVI C [.int a3, .int (0 : Int32), .int x10] 48 rfl dX8_thing_45 (tM_in hD M11 a3 (0 : Int32) x10) rfl (fun _ _ hP _ => zrecv C.2.2.2.2.2.1 hP zn40 rfl rfl) zw969 zw966 zw968 zv19 zw9 oM_in (by decide) (Nat.le_of_ble_eq_true rfl) (fun x14 M13 h15 => ?_)
          refine zg_if_ne C 54 51 rfl dX8_thing_48 (by decide) ?_ ?_
          · refine zg_bipush C (-2 : Int32) 53 rfl dX8_thing_51 (by decide) ?_
            exact zg_iret C dX8_thing_53 trivial
          · refine zg_iload_n C 3 55 rfl dX8_thing_54 rfl ?_
            refine zg_jn (fun j18 => ∀ (M17 : zM) (x16 : Int32), zG p l e R s m args below meth c E zNM A 6 zvI zoT 81 [(0, .ref (zad E 40 0)), (1, .int a0), (2, .int a1), (3, .int a2), (4, .int a3)] [.int x16] M17 (j18 M17 x16)) (fun M17 x16 => ?_) (fun j18 hj18 => ?_)
            · refine zg_istore C 5 [(5, .int x16), (0, .ref (zad E 40 0)), (1, .int a0), (2, .int a1), (3, .int a2), (4, .int a3)] 83 rfl dX8_thing_81 (by decide) rfl ?_
              refine zg_iload_n C 4 84 rfl dX8_thing_83 rfl ?_
              refine zg_if_ne C 102 87 rfl dX8_thing_84 (by decide) ?_ ?_
              · refine zg_aload_n C 1 88 rfl dX8_thing_87 rfl ?_
                refine fgX8_29 C zn40 91 rfl dX8_thing_88 ?_
                refine zg_iconst C (3 : Int32) 92 rfl dX8_thing_91 (by decide) ?_
                refine zg_iload_n C 2 93 rfl dX8_thing_92 rfl ?_
                refine zg_imul C 94 rfl dX8_thing_93 ?_
                refine zg_iload_n C 3 95 rfl dX8_thing_94 rfl ?_
                refine zg_iadd C 96 rfl dX8_thing_95 ?_
                refine zg_iload C 5 98 rfl dX8_thing_96 rfl ?_
                refine zg_iast C 99 rfl dX8_thing_98 zn45 (fun _ _ => rfl) (fun M19 => ?_)
                refine zg_goto C 114 dX8_thing_99 (by decide) ?_
                refine zg_iload C 0 116 rfl dX8_thing_114 rfl ?_
                exact zg_iret C dX8_thing_116 trivial
              · refine zg_aload_n C 1 103 rfl dX8_thing_102 rfl ?_
                refine fgX8_32 C zn40 106 rfl dX8_thing_103 ?_
                refine zg_iconst C (3 : Int32) 107 rfl dX8_thing_106 (by decide) ?_
                refine zg_iload_n C 2 108 rfl dX8_thing_107 rfl ?_
                refine zg_imul C 109 rfl dX8_thing_108 ?_
                refine zg_iload_n C 3 110 rfl dX8_thing_109 rfl ?_
                refine zg_iadd C 111 rfl dX8_thing_110 ?_
                refine zg_iload C 5 113 rfl dX8_thing_111 rfl ?_
                refine zg_iast C 114 rfl dX8_thing_113 zn46 (fun _ _ => rfl) (fun M20 => ?_)
                refine zg_iload C 0 116 rfl dX8_thing_114 rfl ?_
                exact zg_iret C dX8_thing_116 trivial
            · refine zg_if_ne C 71 58 rfl dX8_thing_55 (by decide) ?_ ?_
              · refine zg_aload_n C 0 59 rfl dX8_thing_58 rfl ?_
                refine fgX8_29 C zn40 62 rfl dX8_thing_59 ?_
                refine zg_iconst C (3 : Int32) 63 rfl dX8_thing_62 (by decide) ?_
                refine zg_iload_n C 1 64 rfl dX8_thing_63 rfl ?_
                refine zg_imul C 65 rfl dX8_thing_64 ?_
                refine zg_iload_n C 2 66 rfl dX8_thing_65 rfl ?_
                refine zg_iadd C 67 rfl dX8_thing_66 ?_
                refine zg_iald C 68 rfl dX8_thing_67 zn45 rfl ?_
                refine zg_goto C 81 dX8_thing_68 (by decide) ?_
                exact hj18 M13 (M13.1 45 0 (((3 : Int32) * a0) + a1).toNatClampNeg)
              · refine zg_aload_n C 0 72 rfl dX8_thing_71 rfl ?_
                refine fgX8_32 C zn40 75 rfl dX8_thing_72 ?_
                refine zg_iconst C (3 : Int32) 76 rfl dX8_thing_75 (by decide) ?_
                refine zg_iload_n C 1 77 rfl dX8_thing_76 rfl ?_
                refine zg_imul C 78 rfl dX8_thing_77 ?_
                refine zg_iload_n C 2 79 rfl dX8_thing_78 rfl ?_
                refine zg_iadd C 80 rfl dX8_thing_79 ?_
                refine zg_iald C 81 rfl dX8_thing_80 zn46 rfl ?_
                exact hj18 M13 (M13.1 46 0 (((3 : Int32) * a0) + a1).toNatClampNeg)
        · refine zg_if_ne C 43 38 rfl dX8_thing_35 (by decide) ?_ ?_
          · refine zg_bipush C (99 : Int32) 40 rfl dX8_thing_38 (by decide) ?_
            refine zg_goto C 45 dX8_thing_40 (by decide) ?_
            exact hj12 M7 (99 : Int32)
          · refine zg_bipush C (9 : Int32) 45 rfl dX8_thing_43 (by decide) ?_
            exact hj12 M7 (9 : Int32)
set_option maxHeartbeats 4000000 in
set_option maxRecDepth 100000 in
theorem tM_lie {l : Launch} {E : zE} {A : Nat → Prop} (hD : zD E zNM A) (M : zM) (a0 : Int32) (a1 : Int32) : zCT l yX8_lie cX8_lie 4 (some .int) 4 E zNM A [.ref (zad E 40 0), .int a0, .int a1] M zvI zoT (qM_lie  M a0 a1) := by
  refine zCT_of (by decide) hD (by first | decide | exact Nat.le_of_ble_eq_true rfl) (fun p e R s m args below meth c C => ?_)
  have C : zCx p R s m args meth c cX8_lie "TwoTrueModel" E zNM A 4 (some .int) 4 := C
  unfold qM_lie
  refine zg_sub [0, 1, 2] [(0, .ref (zad E 40 0)), (1, .int a0), (2, .int a1)] rfl ?_
  refine zg_aload_n C 0 1 rfl dX8_lie_0 rfl ?_
  refine zg_iload_n C 1 2 rfl dX8_lie_1 rfl ?_
  refine zg_callVI C [.int a0] 5 rfl dX8_lie_2 (tM_isPerson hD M a0) rfl (fun _ _ hP _ => zrecv C.2.2.2.2.2.1 hP zn40 rfl rfl) zw977 zw974 zw976 zv20 zw9 oM_isPerson (by decide) (Nat.le_of_ble_eq_true rfl) (fun x2 M1 h3 => ?_)
  refine zg_if_eq C 18 8 rfl dX8_lie_5 (by decide) ?_ ?_
  · refine zg_iconst C (-1 : Int32) 19 rfl dX8_lie_18 (by decide) ?_
    exact zg_iret C dX8_lie_19 trivial
  · refine zg_aload_n C 0 9 rfl dX8_lie_8 rfl ?_
    refine zg_iload_n C 2 10 rfl dX8_lie_9 rfl ?_
    refine zg_iconst C (0 : Int32) 11 rfl dX8_lie_10 (by decide) ?_
    refine zg_iconst C (2 : Int32) 12 rfl dX8_lie_11 (by decide) ?_
    refine zg_callVI C [.int a1, .int (0 : Int32), .int (2 : Int32)] 15 rfl dX8_lie_12 (tM_in hD M1 a1 (0 : Int32) (2 : Int32)) rfl (fun _ _ hP _ => zrecv C.2.2.2.2.2.1 hP zn40 rfl rfl) zw969 zw966 zw968 zv19 zw9 oM_in (by decide) (Nat.le_of_ble_eq_true rfl) (fun x5 M4 h6 => ?_)
    refine zg_if_ne C 20 18 rfl dX8_lie_15 (by decide) ?_ ?_
    · refine zg_iconst C (-1 : Int32) 19 rfl dX8_lie_18 (by decide) ?_
      exact zg_iret C dX8_lie_19 trivial
    · refine zg_aload_n C 0 21 rfl dX8_lie_20 rfl ?_
      refine fgX8_26 C zn40 24 rfl dX8_lie_21 ?_
      refine zg_iload_n C 1 25 rfl dX8_lie_24 rfl ?_
      refine zg_iald C 26 rfl dX8_lie_25 zn44 rfl ?_
      refine zg_nmI (fun x7 => ?_)
      refine zg_istore_n C 3 [(3, .int x7), (0, .ref (zad E 40 0)), (1, .int a0), (2, .int a1)] 27 rfl dX8_lie_26 rfl (by decide) rfl ?_
      refine zg_aload_n C 1 28 rfl dX8_lie_27 rfl ?_
      refine fgX8_26 C zn40 31 rfl dX8_lie_28 ?_
      refine zg_iload_n C 2 32 rfl dX8_lie_31 rfl ?_
      refine zg_iload_n C 3 33 rfl dX8_lie_32 rfl ?_
      refine zg_iast C 34 rfl dX8_lie_33 zn44 (fun _ _ => rfl) (fun M8 => ?_)
      refine zg_iload_n C 0 35 rfl dX8_lie_34 rfl ?_
      exact zg_iret C dX8_lie_35 trivial
set_option maxHeartbeats 4000000 in
set_option maxRecDepth 100000 in
theorem tM_tells {l : Launch} {E : zE} {A : Nat → Prop} (hD : zD E zNM A) (M : zM) (a0 : Int32) (a1 : Int32) (a2 : Int32) : zCT l yX8_tells cX8_tells 4 (some .int) 4 E zNM A [.ref (zad E 40 0), .int a0, .int a1, .int a2] M zvI zoT (qM_tells  M a0 a1 a2) := by
  refine zCT_of (by decide) hD (by first | decide | exact Nat.le_of_ble_eq_true rfl) (fun p e R s m args below meth c C => ?_)
  have C : zCx p R s m args meth c cX8_tells "TwoTrueModel" E zNM A 4 (some .int) 4 := C
  unfold qM_tells
  refine zg_sub [0, 1, 2, 3] [(0, .ref (zad E 40 0)), (1, .int a0), (2, .int a1), (3, .int a2)] rfl ?_
  refine zg_aload_n C 0 1 rfl dX8_tells_0 rfl ?_
  refine zg_iload_n C 1 2 rfl dX8_tells_1 rfl ?_
  refine zg_callVI C [.int a0] 5 rfl dX8_tells_2 (tM_isPerson hD M a0) rfl (fun _ _ hP _ => zrecv C.2.2.2.2.2.1 hP zn40 rfl rfl) zw977 zw974 zw976 zv20 zw9 oM_isPerson (by decide) (Nat.le_of_ble_eq_true rfl) (fun x2 M1 h3 => ?_)
  refine zg_if_eq C 28 8 rfl dX8_tells_5 (by decide) ?_ ?_
  · refine zg_iconst C (-1 : Int32) 29 rfl dX8_tells_28 (by decide) ?_
    exact zg_iret C dX8_tells_29 trivial
  · refine zg_aload_n C 0 9 rfl dX8_tells_8 rfl ?_
    refine zg_iload_n C 2 10 rfl dX8_tells_9 rfl ?_
    refine zg_iconst C (0 : Int32) 11 rfl dX8_tells_10 (by decide) ?_
    refine zg_iconst C (2 : Int32) 12 rfl dX8_tells_11 (by decide) ?_
    refine zg_callVI C [.int a1, .int (0 : Int32), .int (2 : Int32)] 15 rfl dX8_tells_12 (tM_in hD M1 a1 (0 : Int32) (2 : Int32)) rfl (fun _ _ hP _ => zrecv C.2.2.2.2.2.1 hP zn40 rfl rfl) zw969 zw966 zw968 zv19 zw9 oM_in (by decide) (Nat.le_of_ble_eq_true rfl) (fun x5 M4 h6 => ?_)
    refine zg_if_eq C 28 18 rfl dX8_tells_15 (by decide) ?_ ?_
    · refine zg_iconst C (-1 : Int32) 29 rfl dX8_tells_28 (by decide) ?_
      exact zg_iret C dX8_tells_29 trivial
    · refine zg_aload_n C 0 19 rfl dX8_tells_18 rfl ?_
      refine zg_iload_n C 3 20 rfl dX8_tells_19 rfl ?_
      refine zg_iconst C (0 : Int32) 21 rfl dX8_tells_20 (by decide) ?_
      refine zg_iconst C (2 : Int32) 22 rfl dX8_tells_21 (by decide) ?_
      refine zg_callVI C [.int a2, .int (0 : Int32), .int (2 : Int32)] 25 rfl dX8_tells_22 (tM_in hD M4 a2 (0 : Int32) (2 : Int32)) rfl (fun _ _ hP _ => zrecv C.2.2.2.2.2.1 hP zn40 rfl rfl) zw969 zw966 zw968 zv19 zw9 oM_in (by decide) (Nat.le_of_ble_eq_true rfl) (fun x8 M7 h9 => ?_)
      refine zg_if_ne C 30 28 rfl dX8_tells_25 (by decide) ?_ ?_
      · refine zg_iconst C (-1 : Int32) 29 rfl dX8_tells_28 (by decide) ?_
        exact zg_iret C dX8_tells_29 trivial
      · refine zg_iload_n C 2 31 rfl dX8_tells_30 rfl ?_
        refine zg_iload_n C 3 32 rfl dX8_tells_31 rfl ?_
        refine zg_icmp_ne C 38 35 rfl dX8_tells_32 (by decide) ?_ ?_
        · refine zg_bipush C (-2 : Int32) 37 rfl dX8_tells_35 (by decide) ?_
          exact zg_iret C dX8_tells_37 trivial
        · refine zg_aload_n C 0 39 rfl dX8_tells_38 rfl ?_
          refine zg_iload_n C 1 40 rfl dX8_tells_39 rfl ?_
          refine zg_iload_n C 2 41 rfl dX8_tells_40 rfl ?_
          refine zg_iload_n C 3 42 rfl dX8_tells_41 rfl ?_
          refine zg_callVU C [.int a0, .int a1, .int a2] 45 rfl dX8_tells_42 (tM_layTale hD M7 a0 a1 a2) rfl (fun _ _ hP _ => zrecv C.2.2.2.2.2.1 hP zn40 rfl rfl) zw989 zw986 zw988 zv21 zw9 oM_layTale (by decide) (Nat.le_of_ble_eq_true rfl) (fun _u M10 h11 => ?_)
          refine zg_iconst C (1 : Int32) 46 rfl dX8_tells_45 (by decide) ?_
          exact zg_iret C dX8_tells_46 trivial
set_option maxHeartbeats 4000000 in
set_option maxRecDepth 100000 in
theorem tM_of {l : Launch} {E : zE} {A : Nat → Prop} (hD : zD E zNM A) (M : zM) (a0 : Int32) (a1 : Int32) : zCT l yX8_of cX8_of 3 (some .int) 4 E zNM A [.ref (zad E 40 0), .int a0, .int a1] M zvI zoT (qM_of  M a0 a1) := by
  refine zCT_of (by decide) hD (by first | decide | exact Nat.le_of_ble_eq_true rfl) (fun p e R s m args below meth c C => ?_)
  have C : zCx p R s m args meth c cX8_of "TwoTrueModel" E zNM A 3 (some .int) 4 := C
  unfold qM_of
  refine zg_sub [0, 1, 2] [(0, .ref (zad E 40 0)), (1, .int a0), (2, .int a1)] rfl ?_
  refine zg_aload_n C 0 1 rfl dX8_of_0 rfl ?_
  refine zg_iload_n C 1 2 rfl dX8_of_1 rfl ?_
  refine zg_callVI C [.int a0] 5 rfl dX8_of_2 (tM_isPerson hD M a0) rfl (fun _ _ hP _ => zrecv C.2.2.2.2.2.1 hP zn40 rfl rfl) zw977 zw974 zw976 zv20 zw9 oM_isPerson (by decide) (Nat.le_of_ble_eq_true rfl) (fun x2 M1 h3 => ?_)
  refine zg_if_ne C 10 8 rfl dX8_of_5 (by decide) ?_ ?_
  · refine zg_iconst C (-1 : Int32) 9 rfl dX8_of_8 (by decide) ?_
    exact zg_iret C dX8_of_9 trivial
  · refine zg_aload_n C 0 11 rfl dX8_of_10 rfl ?_
    refine zg_iload_n C 2 12 rfl dX8_of_11 rfl ?_
    refine zg_bipush C (10 : Int32) 14 rfl dX8_of_12 (by decide) ?_
    refine zg_bipush C (12 : Int32) 16 rfl dX8_of_14 (by decide) ?_
    refine zg_callVI C [.int a1, .int (10 : Int32), .int (12 : Int32)] 19 rfl dX8_of_16 (tM_in hD M1 a1 (10 : Int32) (12 : Int32)) rfl (fun _ _ hP _ => zrecv C.2.2.2.2.2.1 hP zn40 rfl rfl) zw969 zw966 zw968 zv19 zw9 oM_in (by decide) (Nat.le_of_ble_eq_true rfl) (fun x5 M4 h6 => ?_)
    refine zg_if_eq C 36 22 rfl dX8_of_19 (by decide) ?_ ?_
    · refine zg_aload_n C 0 37 rfl dX8_of_36 rfl ?_
      refine zg_iload_n C 2 38 rfl dX8_of_37 rfl ?_
      refine zg_bipush C (20 : Int32) 40 rfl dX8_of_38 (by decide) ?_
      refine zg_bipush C (22 : Int32) 42 rfl dX8_of_40 (by decide) ?_
      refine zg_callVI C [.int a1, .int (20 : Int32), .int (22 : Int32)] 45 rfl dX8_of_42 (tM_in hD M4 a1 (20 : Int32) (22 : Int32)) rfl (fun _ _ hP _ => zrecv C.2.2.2.2.2.1 hP zn40 rfl rfl) zw969 zw966 zw968 zv19 zw9 oM_in (by decide) (Nat.le_of_ble_eq_true rfl) (fun x8 M7 h9 => ?_)
      refine zg_if_eq C 62 48 rfl dX8_of_45 (by decide) ?_ ?_
      · refine zg_aload_n C 0 63 rfl dX8_of_62 rfl ?_
        refine zg_iload_n C 2 64 rfl dX8_of_63 rfl ?_
        refine zg_bipush C (30 : Int32) 66 rfl dX8_of_64 (by decide) ?_
        refine zg_bipush C (32 : Int32) 68 rfl dX8_of_66 (by decide) ?_
        refine zg_callVI C [.int a1, .int (30 : Int32), .int (32 : Int32)] 71 rfl dX8_of_68 (tM_in hD M7 a1 (30 : Int32) (32 : Int32)) rfl (fun _ _ hP _ => zrecv C.2.2.2.2.2.1 hP zn40 rfl rfl) zw969 zw966 zw968 zv19 zw9 oM_in (by decide) (Nat.le_of_ble_eq_true rfl) (fun x11 M10 h12 => ?_)
        refine zg_if_eq C 88 74 rfl dX8_of_71 (by decide) ?_ ?_
        · refine zg_iload_n C 2 89 rfl dX8_of_88 rfl ?_
          refine zg_if_ne C 101 92 rfl dX8_of_89 (by decide) ?_ ?_
          · refine zg_aload_n C 0 93 rfl dX8_of_92 rfl ?_
            refine fgX8_16 C zn40 96 rfl dX8_of_93 ?_
            refine zg_iload_n C 1 97 rfl dX8_of_96 rfl ?_
            refine zg_iald C 98 rfl dX8_of_97 zn41 rfl ?_
            refine zg_goto C 144 dX8_of_98 (by decide) ?_
            exact zg_iret C dX8_of_144 trivial
          · refine zg_iload_n C 2 102 rfl dX8_of_101 rfl ?_
            refine zg_iconst C (1 : Int32) 103 rfl dX8_of_102 (by decide) ?_
            refine zg_icmp_ne C 115 106 rfl dX8_of_103 (by decide) ?_ ?_
            · refine zg_aload_n C 0 107 rfl dX8_of_106 rfl ?_
              refine fgX8_20 C zn40 110 rfl dX8_of_107 ?_
              refine zg_iload_n C 1 111 rfl dX8_of_110 rfl ?_
              refine zg_iald C 112 rfl dX8_of_111 zn42 rfl ?_
              refine zg_goto C 144 dX8_of_112 (by decide) ?_
              exact zg_iret C dX8_of_144 trivial
            · refine zg_iload_n C 2 116 rfl dX8_of_115 rfl ?_
              refine zg_iconst C (2 : Int32) 117 rfl dX8_of_116 (by decide) ?_
              refine zg_icmp_ne C 129 120 rfl dX8_of_117 (by decide) ?_ ?_
              · refine zg_aload_n C 0 121 rfl dX8_of_120 rfl ?_
                refine fgX8_23 C zn40 124 rfl dX8_of_121 ?_
                refine zg_iload_n C 1 125 rfl dX8_of_124 rfl ?_
                refine zg_iald C 126 rfl dX8_of_125 zn43 rfl ?_
                refine zg_goto C 144 dX8_of_126 (by decide) ?_
                exact zg_iret C dX8_of_144 trivial
              · refine zg_iload_n C 2 130 rfl dX8_of_129 rfl ?_
                refine zg_iconst C (3 : Int32) 131 rfl dX8_of_130 (by decide) ?_
                refine zg_icmp_ne C 143 134 rfl dX8_of_131 (by decide) ?_ ?_
                · refine zg_aload_n C 0 135 rfl dX8_of_134 rfl ?_
                  refine fgX8_26 C zn40 138 rfl dX8_of_135 ?_
                  refine zg_iload_n C 1 139 rfl dX8_of_138 rfl ?_
                  refine zg_iald C 140 rfl dX8_of_139 zn44 rfl ?_
                  refine zg_goto C 144 dX8_of_140 (by decide) ?_
                  exact zg_iret C dX8_of_144 trivial
                · refine zg_iconst C (-1 : Int32) 144 rfl dX8_of_143 (by decide) ?_
                  exact zg_iret C dX8_of_144 trivial
        · refine zg_aload_n C 0 75 rfl dX8_of_74 rfl ?_
          refine fgX8_32 C zn40 78 rfl dX8_of_75 ?_
          refine zg_iconst C (3 : Int32) 79 rfl dX8_of_78 (by decide) ?_
          refine zg_iload_n C 1 80 rfl dX8_of_79 rfl ?_
          refine zg_imul C 81 rfl dX8_of_80 ?_
          refine zg_iload_n C 2 82 rfl dX8_of_81 rfl ?_
          refine zg_iadd C 83 rfl dX8_of_82 ?_
          refine zg_bipush C (30 : Int32) 85 rfl dX8_of_83 (by decide) ?_
          refine zg_isub C 86 rfl dX8_of_85 ?_
          refine zg_iald C 87 rfl dX8_of_86 zn46 rfl ?_
          exact zg_iret C dX8_of_87 trivial
      · refine zg_aload_n C 0 49 rfl dX8_of_48 rfl ?_
        refine fgX8_29 C zn40 52 rfl dX8_of_49 ?_
        refine zg_iconst C (3 : Int32) 53 rfl dX8_of_52 (by decide) ?_
        refine zg_iload_n C 1 54 rfl dX8_of_53 rfl ?_
        refine zg_imul C 55 rfl dX8_of_54 ?_
        refine zg_iload_n C 2 56 rfl dX8_of_55 rfl ?_
        refine zg_iadd C 57 rfl dX8_of_56 ?_
        refine zg_bipush C (20 : Int32) 59 rfl dX8_of_57 (by decide) ?_
        refine zg_isub C 60 rfl dX8_of_59 ?_
        refine zg_iald C 61 rfl dX8_of_60 zn45 rfl ?_
        exact zg_iret C dX8_of_61 trivial
    · refine zg_aload_n C 0 23 rfl dX8_of_22 rfl ?_
      refine fgX8_35 C zn40 26 rfl dX8_of_23 ?_
      refine zg_iconst C (3 : Int32) 27 rfl dX8_of_26 (by decide) ?_
      refine zg_iload_n C 1 28 rfl dX8_of_27 rfl ?_
      refine zg_imul C 29 rfl dX8_of_28 ?_
      refine zg_iload_n C 2 30 rfl dX8_of_29 rfl ?_
      refine zg_iadd C 31 rfl dX8_of_30 ?_
      refine zg_bipush C (10 : Int32) 33 rfl dX8_of_31 (by decide) ?_
      refine zg_isub C 34 rfl dX8_of_33 ?_
      refine zg_iald C 35 rfl dX8_of_34 zn47 rfl ?_
      exact zg_iret C dX8_of_35 trivial
set_option maxHeartbeats 4000000 in
set_option maxRecDepth 100000 in
theorem tM_row {l : Launch} {E : zE} {A : Nat → Prop} (hD : zD E zNM A) (M : zM) (a0 : Int32) (a1 : Int32) (a2 : Int32) : zCT l yX8_row cX8_row 5 (some .int) 4 E zNM A [.ref (zad E 40 0), .int a0, .int a1, .int a2] M zvI zoT (qM_row  M a0 a1 a2) := by
  refine zCT_of (by decide) hD (by first | decide | exact Nat.le_of_ble_eq_true rfl) (fun p e R s m args below meth c C => ?_)
  have C : zCx p R s m args meth c cX8_row "TwoTrueModel" E zNM A 5 (some .int) 4 := C
  unfold qM_row
  refine zg_sub [0, 1, 2, 3] [(0, .ref (zad E 40 0)), (1, .int a0), (2, .int a1), (3, .int a2)] rfl ?_
  refine zg_aload_n C 0 1 rfl dX8_row_0 rfl ?_
  refine zg_iload_n C 1 2 rfl dX8_row_1 rfl ?_
  refine zg_callVI C [.int a0] 5 rfl dX8_row_2 (tM_isPerson hD M a0) rfl (fun _ _ hP _ => zrecv C.2.2.2.2.2.1 hP zn40 rfl rfl) zw977 zw974 zw976 zv20 zw9 oM_isPerson (by decide) (Nat.le_of_ble_eq_true rfl) (fun x2 M1 h3 => ?_)
  refine zg_if_eq C 18 8 rfl dX8_row_5 (by decide) ?_ ?_
  · refine zg_iconst C (-1 : Int32) 19 rfl dX8_row_18 (by decide) ?_
    exact zg_iret C dX8_row_19 trivial
  · refine zg_aload_n C 0 9 rfl dX8_row_8 rfl ?_
    refine zg_iload_n C 2 10 rfl dX8_row_9 rfl ?_
    refine zg_iconst C (0 : Int32) 11 rfl dX8_row_10 (by decide) ?_
    refine zg_iconst C (3 : Int32) 12 rfl dX8_row_11 (by decide) ?_
    refine zg_callVI C [.int a1, .int (0 : Int32), .int (3 : Int32)] 15 rfl dX8_row_12 (tM_in hD M1 a1 (0 : Int32) (3 : Int32)) rfl (fun _ _ hP _ => zrecv C.2.2.2.2.2.1 hP zn40 rfl rfl) zw969 zw966 zw968 zv19 zw9 oM_in (by decide) (Nat.le_of_ble_eq_true rfl) (fun x5 M4 h6 => ?_)
    refine zg_if_ne C 20 18 rfl dX8_row_15 (by decide) ?_ ?_
    · refine zg_iconst C (-1 : Int32) 19 rfl dX8_row_18 (by decide) ?_
      exact zg_iret C dX8_row_19 trivial
    · refine zg_aload_n C 0 21 rfl dX8_row_20 rfl ?_
      refine zg_iload_n C 3 22 rfl dX8_row_21 rfl ?_
      refine zg_iconst C (0 : Int32) 23 rfl dX8_row_22 (by decide) ?_
      refine zg_iconst C (2 : Int32) 24 rfl dX8_row_23 (by decide) ?_
      refine zg_callVI C [.int a2, .int (0 : Int32), .int (2 : Int32)] 27 rfl dX8_row_24 (tM_in hD M4 a2 (0 : Int32) (2 : Int32)) rfl (fun _ _ hP _ => zrecv C.2.2.2.2.2.1 hP zn40 rfl rfl) zw969 zw966 zw968 zv19 zw9 oM_in (by decide) (Nat.le_of_ble_eq_true rfl) (fun x8 M7 h9 => ?_)
      refine zg_if_ne C 33 30 rfl dX8_row_27 (by decide) ?_ ?_
      · refine zg_bipush C (-2 : Int32) 32 rfl dX8_row_30 (by decide) ?_
        exact zg_iret C dX8_row_32 trivial
      · refine zg_aload_n C 0 34 rfl dX8_row_33 rfl ?_
        refine fgX8_16 C zn40 37 rfl dX8_row_34 ?_
        refine zg_iload_n C 1 38 rfl dX8_row_37 rfl ?_
        refine zg_iald C 39 rfl dX8_row_38 zn41 rfl ?_
        refine zg_bipush C (6 : Int32) 41 rfl dX8_row_39 (by decide) ?_
        refine zg_icmp_eq C 47 44 rfl dX8_row_41 (by decide) ?_ ?_
        · refine zg_aload_n C 0 48 rfl dX8_row_47 rfl ?_
          refine fgX8_38 C zn40 51 rfl dX8_row_48 ?_
          refine zg_iconst C (4 : Int32) 52 rfl dX8_row_51 (by decide) ?_
          refine zg_iload_n C 1 53 rfl dX8_row_52 rfl ?_
          refine zg_imul C 54 rfl dX8_row_53 ?_
          refine zg_iload_n C 2 55 rfl dX8_row_54 rfl ?_
          refine zg_iadd C 56 rfl dX8_row_55 ?_
          refine zg_iald C 57 rfl dX8_row_56 zn48 rfl ?_
          refine zg_nmI (fun x10 => ?_)
          refine zg_istore C 4 [(4, .int x10), (0, .ref (zad E 40 0)), (1, .int a0), (2, .int a1), (3, .int a2)] 59 rfl dX8_row_57 (by decide) rfl ?_
          refine zg_aload_n C 1 60 rfl dX8_row_59 rfl ?_
          refine fgX8_38 C zn40 63 rfl dX8_row_60 ?_
          refine zg_iconst C (4 : Int32) 64 rfl dX8_row_63 (by decide) ?_
          refine zg_iload_n C 2 65 rfl dX8_row_64 rfl ?_
          refine zg_imul C 66 rfl dX8_row_65 ?_
          refine zg_iload_n C 3 67 rfl dX8_row_66 rfl ?_
          refine zg_iadd C 68 rfl dX8_row_67 ?_
          refine zg_iload_n C 4 69 rfl dX8_row_68 rfl ?_
          refine zg_iast C 70 rfl dX8_row_69 zn48 (fun _ _ => rfl) (fun M11 => ?_)
          refine zg_iload C 0 72 rfl dX8_row_70 rfl ?_
          exact zg_iret C dX8_row_72 trivial
        · refine zg_bipush C (-3 : Int32) 46 rfl dX8_row_44 (by decide) ?_
          exact zg_iret C dX8_row_46 trivial
set_option maxHeartbeats 4000000 in
set_option maxRecDepth 100000 in
theorem tM_takesWord_L2 {p : Program} {l : Launch} {e : Env} {R : Room} {s : State} {m : MethodId} {args : Array Value} {below : List Frame} {meth : Method} {c : Code} {E : zE} {A : Nat → Prop} (C : zCx p R s m args meth c cX8_takesWord "TwoTrueModel" E zNM A 4 (some .boolean) 4) (hD : zD E zNM A) (c1 : Int32) (c2 : Int32) {e30 : zM → Option (Int32 × zM)} (he30 : ∀ (M : zM), zG p l e R s m args below meth c E zNM A 4 zvI zoB 30 [(0, .ref (zad E 40 0))] [] M (e30 M )) : ∀ (n : Nat) (M : zM) (v3 : Int32), zG p l e R s m args below meth c E zNM A 4 zvI zoB 2 [(0, .ref (zad E 40 0)), (1, .int c1), (2, .int c2), (3, .int v3)] [] M (qM_takesWord_L2 c1 c2 e30 n M v3) := by
  intro n
  induction n with
  | zero =>
    intro M v3
    exact zg_none
  | succ n ih =>
    intro M v3
    rw [qM_takesWord_L2]
    refine zg_iload_n C 3 3 rfl dX8_takesWord_2 rfl ?_
    refine zg_iload_n C 2 4 rfl dX8_takesWord_3 rfl ?_
    refine zg_icmp_ge C 30 7 rfl dX8_takesWord_4 (by decide) ?_ ?_
    · refine zg_sub [0] [(0, .ref (zad E 40 0))] rfl ?_
      exact he30 M 
    · refine zg_aload_n C 0 8 rfl dX8_takesWord_7 rfl ?_
      refine zg_aload_n C 0 9 rfl dX8_takesWord_8 rfl ?_
      refine fgX8_89 C zn40 12 rfl dX8_takesWord_9 ?_
      refine zg_iload_n C 1 13 rfl dX8_takesWord_12 rfl ?_
      refine zg_iload_n C 3 14 rfl dX8_takesWord_13 rfl ?_
      refine zg_iadd C 15 rfl dX8_takesWord_14 ?_
      refine zg_iald C 16 rfl dX8_takesWord_15 zn57 rfl ?_
      refine zg_callVI C [.int (M.1 57 0 (c1 + v3).toNatClampNeg)] 19 rfl dX8_takesWord_16 (tM_takes hD M (M.1 57 0 (c1 + v3).toNatClampNeg)) rfl (fun _ _ hP _ => zrecv C.2.2.2.2.2.1 hP zn40 rfl rfl) zw1029 zw1026 zw1028 zv27 zw9 oM_takes (by decide) (Nat.le_of_ble_eq_true rfl) (fun x2 M1 h3 => ?_)
      refine zg_if_ne C 24 22 rfl dX8_takesWord_19 (by decide) ?_ ?_
      · refine zg_iconst C (0 : Int32) 23 rfl dX8_takesWord_22 (by decide) ?_
        exact zg_zret C dX8_takesWord_23 rfl rfl
      · refine zg_iinc C 3 (v3 + (1 : Int32)) [(3, .int (v3 + (1 : Int32))), (0, .ref (zad E 40 0)), (1, .int c1), (2, .int c2)] 27 rfl dX8_takesWord_24 rfl (congrArg (fun z : Int32 => v3 + z) (by decide : Int32.ofInt (1) = (1 : Int32))) (by decide) rfl ?_
        refine zg_goto C 2 dX8_takesWord_27 (by decide) ?_
        refine zg_sub [1, 2, 3, 0] [(0, .ref (zad E 40 0)), (1, .int c1), (2, .int c2), (3, .int (v3 + (1 : Int32)))] rfl ?_
        exact ih M1 (v3 + (1 : Int32))
set_option maxHeartbeats 4000000 in
set_option maxRecDepth 100000 in
theorem tM_takesWord {l : Launch} {E : zE} {A : Nat → Prop} (hD : zD E zNM A) (M : zM) (a0 : Int32) (a1 : Int32) : zCT l yX8_takesWord cX8_takesWord 4 (some .boolean) 4 E zNM A [.ref (zad E 40 0), .int a0, .int a1] M zvI zoB (qM_takesWord  M a0 a1) := by
  refine zCT_of (by decide) hD (by first | decide | exact Nat.le_of_ble_eq_true rfl) (fun p e R s m args below meth c C => ?_)
  have C : zCx p R s m args meth c cX8_takesWord "TwoTrueModel" E zNM A 4 (some .boolean) 4 := C
  unfold qM_takesWord
  refine zg_sub [0, 1, 2] [(0, .ref (zad E 40 0)), (1, .int a0), (2, .int a1)] rfl ?_
  refine zg_iconst C (0 : Int32) 1 rfl dX8_takesWord_0 (by decide) ?_
  refine zg_istore_n C 3 [(3, .int (0 : Int32)), (0, .ref (zad E 40 0)), (1, .int a0), (2, .int a1)] 2 rfl dX8_takesWord_1 rfl (by decide) rfl ?_
  refine zg_sub [1, 2, 3, 0] [(0, .ref (zad E 40 0)), (1, .int a0), (2, .int a1), (3, .int (0 : Int32))] rfl ?_
  refine tM_takesWord_L2 C hD a0 a1 (fun M4 => ?_) 1000 M (0 : Int32)
  · refine zg_aload_n C 0 31 rfl dX8_takesWord_30 rfl ?_
    refine zg_bipush C (32 : Int32) 33 rfl dX8_takesWord_31 (by decide) ?_
    refine zg_callVI C [.int (32 : Int32)] 36 rfl dX8_takesWord_33 (tM_takes hD M4 (32 : Int32)) rfl (fun _ _ hP _ => zrecv C.2.2.2.2.2.1 hP zn40 rfl rfl) zw1029 zw1026 zw1028 zv27 zw9 oM_takes (by decide) (Nat.le_of_ble_eq_true rfl) (fun x6 M5 h7 => ?_)
    exact zg_zret C dX8_takesWord_36 h7 h7
set_option maxHeartbeats 4000000 in
set_option maxRecDepth 100000 in
theorem tM_takesNumber_L16 {p : Program} {l : Launch} {e : Env} {R : Room} {s : State} {m : MethodId} {args : Array Value} {below : List Frame} {meth : Method} {c : Code} {E : zE} {A : Nat → Prop} (C : zCx p R s m args meth c cX8_takesNumber "TwoTrueModel" E zNM A 2 (some .boolean) 4) (hD : zD E zNM A) : ∀ (n : Nat) (M : zM) (v1 : Int32), zG p l e R s m args below meth c E zNM A 2 zvI zoB 16 [(0, .ref (zad E 40 0)), (1, .int v1)] [] M (qM_takesNumber_L16 n M v1) := by
  intro n
  induction n with
  | zero =>
    intro M v1
    exact zg_none
  | succ n ih =>
    intro M v1
    rw [qM_takesNumber_L16]
    refine zg_iload_n C 1 17 rfl dX8_takesNumber_16 rfl ?_
    refine zg_iconst C (2 : Int32) 18 rfl dX8_takesNumber_17 (by decide) ?_
    refine zg_icmp_ge C 63 21 rfl dX8_takesNumber_18 (by decide) ?_ ?_
    · refine zg_iconst C (1 : Int32) 64 rfl dX8_takesNumber_63 (by decide) ?_
      exact zg_zret C dX8_takesNumber_64 rfl rfl
    · refine zg_aload_n C 0 22 rfl dX8_takesNumber_21 rfl ?_
      refine zg_callVI C [] 25 rfl dX8_takesNumber_22 (tM_isDigit hD M ) rfl (fun _ _ hP _ => zrecv C.2.2.2.2.2.1 hP zn40 rfl rfl) zw1037 zw1034 zw1036 zv29 zw9 oM_isDigit (by decide) (Nat.le_of_ble_eq_true rfl) (fun x6 M5 h7 => ?_)
      refine zg_if_eq C 63 28 rfl dX8_takesNumber_25 (by decide) ?_ ?_
      · refine zg_iconst C (1 : Int32) 64 rfl dX8_takesNumber_63 (by decide) ?_
        exact zg_zret C dX8_takesNumber_64 rfl rfl
      · refine zg_aload_n C 0 29 rfl dX8_takesNumber_28 rfl ?_
        refine zg_bipush C (10 : Int32) 31 rfl dX8_takesNumber_29 (by decide) ?_
        refine zg_aload_n C 0 32 rfl dX8_takesNumber_31 rfl ?_
        refine fgX8_53 C zn40 35 rfl dX8_takesNumber_32 ?_
        refine zg_imul C 36 rfl dX8_takesNumber_35 ?_
        refine zg_aload_n C 0 37 rfl dX8_takesNumber_36 rfl ?_
        refine zg_callVI C [] 40 rfl dX8_takesNumber_37 (tM_next hD M5 ) rfl (fun _ _ hP _ => zrecv C.2.2.2.2.2.1 hP zn40 rfl rfl) zw1021 zw1018 zw1020 zv25 zw9 oM_next (by decide) (Nat.le_of_ble_eq_true rfl) (fun x9 M8 h10 => ?_)
        refine zg_iadd C 41 rfl dX8_takesNumber_40 ?_
        refine zg_bipush C (48 : Int32) 43 rfl dX8_takesNumber_41 (by decide) ?_
        refine zg_isub C 44 rfl dX8_takesNumber_43 ?_
        refine fpX8_53 C zn40 47 rfl dX8_takesNumber_44 (fun M11 => ?_)
        refine zg_aload_n C 0 48 rfl dX8_takesNumber_47 rfl ?_
        refine zg_dup C rfl 49 rfl dX8_takesNumber_48 ?_
        refine fgX8_50 C zn40 52 rfl dX8_takesNumber_49 ?_
        refine zg_iconst C (1 : Int32) 53 rfl dX8_takesNumber_52 (by decide) ?_
        refine zg_iadd C 54 rfl dX8_takesNumber_53 ?_
        refine fpX8_50 C zn40 57 rfl dX8_takesNumber_54 (fun M12 => ?_)
        refine zg_iinc C 1 (v1 + (1 : Int32)) [(1, .int (v1 + (1 : Int32))), (0, .ref (zad E 40 0))] 60 rfl dX8_takesNumber_57 rfl (congrArg (fun z : Int32 => v1 + z) (by decide : Int32.ofInt (1) = (1 : Int32))) (by decide) rfl ?_
        refine zg_goto C 16 dX8_takesNumber_60 (by decide) ?_
        refine zg_sub [1, 0] [(0, .ref (zad E 40 0)), (1, .int (v1 + (1 : Int32)))] rfl ?_
        exact ih M12 (v1 + (1 : Int32))
set_option maxHeartbeats 4000000 in
set_option maxRecDepth 100000 in
theorem tM_takesNumber {l : Launch} {E : zE} {A : Nat → Prop} (hD : zD E zNM A) (M : zM) : zCT l yX8_takesNumber cX8_takesNumber 2 (some .boolean) 4 E zNM A [.ref (zad E 40 0)] M zvI zoB (qM_takesNumber  M ) := by
  refine zCT_of (by decide) hD (by first | decide | exact Nat.le_of_ble_eq_true rfl) (fun p e R s m args below meth c C => ?_)
  have C : zCx p R s m args meth c cX8_takesNumber "TwoTrueModel" E zNM A 2 (some .boolean) 4 := C
  unfold qM_takesNumber
  refine zg_sub [0] [(0, .ref (zad E 40 0))] rfl ?_
  refine zg_aload_n C 0 1 rfl dX8_takesNumber_0 rfl ?_
  refine zg_callVI C [] 4 rfl dX8_takesNumber_1 (tM_isDigit hD M ) rfl (fun _ _ hP _ => zrecv C.2.2.2.2.2.1 hP zn40 rfl rfl) zw1037 zw1034 zw1036 zv29 zw9 oM_isDigit (by decide) (Nat.le_of_ble_eq_true rfl) (fun x2 M1 h3 => ?_)
  refine zg_if_ne C 9 7 rfl dX8_takesNumber_4 (by decide) ?_ ?_
  · refine zg_iconst C (0 : Int32) 8 rfl dX8_takesNumber_7 (by decide) ?_
    exact zg_zret C dX8_takesNumber_8 rfl rfl
  · refine zg_aload_n C 0 10 rfl dX8_takesNumber_9 rfl ?_
    refine zg_iconst C (0 : Int32) 11 rfl dX8_takesNumber_10 (by decide) ?_
    refine fpX8_53 C zn40 14 rfl dX8_takesNumber_11 (fun M4 => ?_)
    refine zg_iconst C (0 : Int32) 15 rfl dX8_takesNumber_14 (by decide) ?_
    refine zg_istore_n C 1 [(1, .int (0 : Int32)), (0, .ref (zad E 40 0))] 16 rfl dX8_takesNumber_15 rfl (by decide) rfl ?_
    refine zg_sub [1, 0] [(0, .ref (zad E 40 0)), (1, .int (0 : Int32))] rfl ?_
    refine tM_takesNumber_L16 C hD   1000 M4 (0 : Int32)
set_option maxHeartbeats 4000000 in
set_option maxRecDepth 100000 in
theorem tM_told {l : Launch} {E : zE} {A : Nat → Prop} (hD : zD E zNM A) (M : zM) (a0 : Int32) : zCT l yX8_told cX8_told 2 (some .int) 4 E zNM A [.ref (zad E 40 0), .int a0] M zvI zoT (qM_told  M a0) := by
  refine zCT_of (by decide) hD (by first | decide | exact Nat.le_of_ble_eq_true rfl) (fun p e R s m args below meth c C => ?_)
  have C : zCx p R s m args meth c cX8_told "TwoTrueModel" E zNM A 2 (some .int) 4 := C
  unfold qM_told
  refine zg_sub [0, 1] [(0, .ref (zad E 40 0)), (1, .int a0)] rfl ?_
  refine zg_iload_n C 1 1 rfl dX8_told_0 rfl ?_
  refine zg_if_ne C 11 4 rfl dX8_told_1 (by decide) ?_ ?_
  · refine zg_aload_n C 0 5 rfl dX8_told_4 rfl ?_
    refine fgX8_13 C zn40 8 rfl dX8_told_5 ?_
    refine zg_goto C 24 dX8_told_8 (by decide) ?_
    exact zg_iret C dX8_told_24 trivial
  · refine zg_iload_n C 1 12 rfl dX8_told_11 rfl ?_
    refine zg_iconst C (1 : Int32) 13 rfl dX8_told_12 (by decide) ?_
    refine zg_icmp_ne C 23 16 rfl dX8_told_13 (by decide) ?_ ?_
    · refine zg_aload_n C 0 17 rfl dX8_told_16 rfl ?_
      refine zg_callVI C [] 20 rfl dX8_told_17 (tM_handsNow hD M ) rfl (fun _ _ hP _ => zrecv C.2.2.2.2.2.1 hP zn40 rfl rfl) zw1069 zw1066 zw1068 zv36 zw9 oM_handsNow (by decide) (Nat.le_of_ble_eq_true rfl) (fun x2 M1 h3 => ?_)
      refine zg_goto C 24 dX8_told_20 (by decide) ?_
      exact zg_iret C dX8_told_24 trivial
    · refine zg_iconst C (-1 : Int32) 24 rfl dX8_told_23 (by decide) ?_
      exact zg_iret C dX8_told_24 trivial
set_option maxHeartbeats 4000000 in
set_option maxRecDepth 100000 in
theorem tM_doubtOf_L30 {p : Program} {l : Launch} {e : Env} {R : Room} {s : State} {m : MethodId} {args : Array Value} {below : List Frame} {meth : Method} {c : Code} {E : zE} {A : Nat → Prop} (C : zCx p R s m args meth c cX8_doubtOf "TwoTrueModel" E zNM A 6 (some .int) 4) (hD : zD E zNM A) (c1 : Int32) (c2 : Int32) (c3 : Int32) : ∀ (n : Nat) (M : zM) (v4 : Int32) (v5 : Int32), zG p l e R s m args below meth c E zNM A 6 zvI zoT 30 [(0, .ref (zad E 40 0)), (1, .int c1), (2, .int c2), (3, .int c3), (4, .int v4), (5, .int v5)] [] M (qM_doubtOf_L30 c1 c2 c3 n M v4 v5) := by
  intro n
  induction n with
  | zero =>
    intro M v4 v5
    exact zg_none
  | succ n ih =>
    intro M v4 v5
    rw [qM_doubtOf_L30]
    refine zg_iload C 5 32 rfl dX8_doubtOf_30 rfl ?_
    refine zg_aload_n C 0 33 rfl dX8_doubtOf_32 rfl ?_
    refine zg_callVI C [] 36 rfl dX8_doubtOf_33 (tM_behind hD M ) rfl (fun _ _ hP _ => zrecv C.2.2.2.2.2.1 hP zn40 rfl rfl) zw1077 zw1074 zw1076 zv38 zw9 oM_behind (by decide) (Nat.le_of_ble_eq_true rfl) (fun x6 M5 h7 => ?_)
    refine zg_icmp_ge C 104 39 rfl dX8_doubtOf_36 (by decide) ?_ ?_
    · refine zg_iload C 4 106 rfl dX8_doubtOf_104 rfl ?_
      exact zg_iret C dX8_doubtOf_106 trivial
    · refine zg_aload_n C 0 40 rfl dX8_doubtOf_39 rfl ?_
      refine fgX8_62 C zn40 43 rfl dX8_doubtOf_40 ?_
      refine zg_iload C 5 45 rfl dX8_doubtOf_43 rfl ?_
      refine zg_iald C 46 rfl dX8_doubtOf_45 zn51 rfl ?_
      refine zg_iconst C (2 : Int32) 47 rfl dX8_doubtOf_46 (by decide) ?_
      refine zg_jn (fun j10 => ∀ (M9 : zM) (x8 : Int32), zG p l e R s m args below meth c E zNM A 6 zvI zoT 98 [(0, .ref (zad E 40 0)), (1, .int c1), (2, .int c2), (3, .int c3), (4, .int x8), (5, .int v5)] [] M9 (j10 M9 x8)) (fun M9 x8 => ?_) (fun j10 hj10 => ?_)
      · refine zg_iinc C 5 (v5 + (1 : Int32)) [(5, .int (v5 + (1 : Int32))), (0, .ref (zad E 40 0)), (1, .int c1), (2, .int c2), (3, .int c3), (4, .int x8)] 101 rfl dX8_doubtOf_98 rfl (congrArg (fun z : Int32 => v5 + z) (by decide : Int32.ofInt (1) = (1 : Int32))) (by decide) rfl ?_
        refine zg_goto C 30 dX8_doubtOf_101 (by decide) ?_
        refine zg_sub [1, 2, 3, 4, 5, 0] [(0, .ref (zad E 40 0)), (1, .int c1), (2, .int c2), (3, .int c3), (4, .int x8), (5, .int (v5 + (1 : Int32)))] rfl ?_
        exact ih M9 x8 (v5 + (1 : Int32))
      · refine zg_icmp_eq C 98 50 rfl dX8_doubtOf_47 (by decide) ?_ ?_
        · exact hj10 M5 v4
        · refine zg_aload_n C 0 51 rfl dX8_doubtOf_50 rfl ?_
          refine zg_iload C 5 53 rfl dX8_doubtOf_51 rfl ?_
          refine zg_iload_n C 1 54 rfl dX8_doubtOf_53 rfl ?_
          refine zg_iload_n C 2 55 rfl dX8_doubtOf_54 rfl ?_
          refine zg_iload_n C 3 56 rfl dX8_doubtOf_55 rfl ?_
          refine zg_callVI C [.int v5, .int c1, .int c2, .int c3] 59 rfl dX8_doubtOf_56 (tM_holds hD M5 v5 c1 c2 c3) rfl (fun _ _ hP _ => zrecv C.2.2.2.2.2.1 hP zn40 rfl rfl) zw1089 zw1086 zw1088 zv40 zw9 oM_holds (by decide) (Nat.le_of_ble_eq_true rfl) (fun x12 M11 h13 => ?_)
          refine zg_if_ne C 65 62 rfl dX8_doubtOf_59 (by decide) ?_ ?_
          · refine zg_goto C 98 dX8_doubtOf_62 (by decide) ?_
            exact hj10 M11 v4
          · refine zg_iload C 4 67 rfl dX8_doubtOf_65 rfl ?_
            refine zg_aload_n C 0 68 rfl dX8_doubtOf_67 rfl ?_
            refine fgX8_62 C zn40 71 rfl dX8_doubtOf_68 ?_
            refine zg_iload C 5 73 rfl dX8_doubtOf_71 rfl ?_
            refine zg_iald C 74 rfl dX8_doubtOf_73 zn51 rfl ?_
            refine zg_jn (fun j16 => ∀ (M15 : zM) (x14 : Int32), zG p l e R s m args below meth c E zNM A 6 zvI zoT 95 [(0, .ref (zad E 40 0)), (1, .int c1), (2, .int c2), (3, .int c3), (5, .int v5)] [.int x14, .int v4] M15 (j16 M15 x14)) (fun M15 x14 => ?_) (fun j16 hj16 => ?_)
            · refine zg_iadd C 96 rfl dX8_doubtOf_95 ?_
              refine zg_nmI (fun x17 => ?_)
              refine zg_istore C 4 [(4, .int x17), (0, .ref (zad E 40 0)), (1, .int c1), (2, .int c2), (3, .int c3), (5, .int v5)] 98 rfl dX8_doubtOf_96 (by decide) rfl ?_
              refine zg_sub [1, 2, 3, 4, 0, 5] [(0, .ref (zad E 40 0)), (1, .int c1), (2, .int c2), (3, .int c3), (4, .int x17), (5, .int v5)] rfl ?_
              exact hj10 M15 x17
            · refine zg_if_ne C 87 77 rfl dX8_doubtOf_74 (by decide) ?_ ?_
              · refine zg_aload_n C 0 78 rfl dX8_doubtOf_77 rfl ?_
                refine fgX8_65 C zn40 81 rfl dX8_doubtOf_78 ?_
                refine zg_iload C 5 83 rfl dX8_doubtOf_81 rfl ?_
                refine zg_iald C 84 rfl dX8_doubtOf_83 zn52 rfl ?_
                refine zg_goto C 95 dX8_doubtOf_84 (by decide) ?_
                refine zg_sub [0, 1, 2, 3, 5] [(0, .ref (zad E 40 0)), (1, .int c1), (2, .int c2), (3, .int c3), (5, .int v5)] rfl ?_
                exact hj16 M11 (M11.1 52 0 v5.toNatClampNeg)
              · refine zg_aload_n C 0 88 rfl dX8_doubtOf_87 rfl ?_
                refine fgX8_65 C zn40 91 rfl dX8_doubtOf_88 ?_
                refine zg_iload C 5 93 rfl dX8_doubtOf_91 rfl ?_
                refine zg_iald C 94 rfl dX8_doubtOf_93 zn52 rfl ?_
                refine zg_ineg C 95 rfl dX8_doubtOf_94 ?_
                refine zg_sub [0, 1, 2, 3, 5] [(0, .ref (zad E 40 0)), (1, .int c1), (2, .int c2), (3, .int c3), (5, .int v5)] rfl ?_
                exact hj16 M11 (-(M11.1 52 0 v5.toNatClampNeg))
set_option maxHeartbeats 4000000 in
set_option maxRecDepth 100000 in
theorem tM_doubtOf {l : Launch} {E : zE} {A : Nat → Prop} (hD : zD E zNM A) (M : zM) (a0 : Int32) (a1 : Int32) (a2 : Int32) : zCT l yX8_doubtOf cX8_doubtOf 6 (some .int) 4 E zNM A [.ref (zad E 40 0), .int a0, .int a1, .int a2] M zvI zoT (qM_doubtOf  M a0 a1 a2) := by
  refine zCT_of (by decide) hD (by first | decide | exact Nat.le_of_ble_eq_true rfl) (fun p e R s m args below meth c C => ?_)
  have C : zCx p R s m args meth c cX8_doubtOf "TwoTrueModel" E zNM A 6 (some .int) 4 := C
  unfold qM_doubtOf
  refine zg_sub [0, 1, 2, 3] [(0, .ref (zad E 40 0)), (1, .int a0), (2, .int a1), (3, .int a2)] rfl ?_
  refine zg_bipush C (99 : Int32) 2 rfl dX8_doubtOf_0 (by decide) ?_
  refine zg_aload_n C 0 3 rfl dX8_doubtOf_2 rfl ?_
  refine fgX8_29 C zn40 6 rfl dX8_doubtOf_3 ?_
  refine zg_iconst C (3 : Int32) 7 rfl dX8_doubtOf_6 (by decide) ?_
  refine zg_iload_n C 2 8 rfl dX8_doubtOf_7 rfl ?_
  refine zg_imul C 9 rfl dX8_doubtOf_8 ?_
  refine zg_aload_n C 0 10 rfl dX8_doubtOf_9 rfl ?_
  refine fgX8_35 C zn40 13 rfl dX8_doubtOf_10 ?_
  refine zg_iconst C (3 : Int32) 14 rfl dX8_doubtOf_13 (by decide) ?_
  refine zg_iload_n C 2 15 rfl dX8_doubtOf_14 rfl ?_
  refine zg_imul C 16 rfl dX8_doubtOf_15 ?_
  refine zg_iload_n C 3 17 rfl dX8_doubtOf_16 rfl ?_
  refine zg_iadd C 18 rfl dX8_doubtOf_17 ?_
  refine zg_iald C 19 rfl dX8_doubtOf_18 zn47 rfl ?_
  refine zg_iadd C 20 rfl dX8_doubtOf_19 ?_
  refine zg_iald C 21 rfl dX8_doubtOf_20 zn45 rfl ?_
  refine zg_isub C 22 rfl dX8_doubtOf_21 ?_
  refine zg_nmI (fun x1 => ?_)
  refine zg_istore C 4 [(4, .int x1), (0, .ref (zad E 40 0)), (1, .int a0), (2, .int a1), (3, .int a2)] 24 rfl dX8_doubtOf_22 (by decide) rfl ?_
  refine zg_aload_n C 1 25 rfl dX8_doubtOf_24 rfl ?_
  refine zg_callVI C [] 28 rfl dX8_doubtOf_25 (tM_begin hD M ) rfl (fun _ _ hP _ => zrecv C.2.2.2.2.2.1 hP zn40 rfl rfl) zw1073 zw1070 zw1072 zv37 zw9 oM_begin (by decide) (Nat.le_of_ble_eq_true rfl) (fun x3 M2 h4 => ?_)
  refine zg_istore C 5 [(5, .int x3), (4, .int x1), (0, .ref (zad E 40 0)), (1, .int a0), (2, .int a1), (3, .int a2)] 30 rfl dX8_doubtOf_28 (by decide) rfl ?_
  refine zg_sub [2, 3, 4, 5, 1, 0] [(0, .ref (zad E 40 0)), (1, .int a0), (2, .int a1), (3, .int a2), (4, .int x1), (5, .int x3)] rfl ?_
  refine tM_doubtOf_L30 C hD a0 a1 a2  1000 M2 x1 x3
