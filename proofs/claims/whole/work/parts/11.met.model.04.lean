set_option maxHeartbeats 4000000 in
set_option maxRecDepth 100000 in
theorem tM_odds_L27 {p : Program} {l : Launch} {e : Env} {R : Room} {s : State} {m : MethodId} {args : Array Value} {below : List Frame} {meth : Method} {c : Code} {E : zE} {A : Nat → Prop} (C : zCx p R s m args meth c cX8_odds "TwoTrueModel" E zNM A 6 (some .long) 9) (hD : zD E zNM A) (c1 : Int32) (c2 : Int32) {e102 : zM → Int32 → Option (Int64 × zM)} (he102 : ∀ (M : zM) (u3 : Int32), zG p l e R s m args below meth c E zNM A 6 zvL zoT 102 [(0, .ref (zad E 40 0)), (2, .int c2), (3, .int u3)] [] M (e102 M u3)) : ∀ (n : Nat) (M : zM) (v3 : Int32) (v4 : Int32), zG p l e R s m args below meth c E zNM A 6 zvL zoT 27 [(0, .ref (zad E 40 0)), (1, .int c1), (2, .int c2), (3, .int v3), (4, .int v4)] [] M (qM_odds_L27 c1 c2 e102 n M v3 v4) := by
  intro n
  induction n with
  | zero =>
    intro M v3 v4
    exact zg_none
  | succ n ih =>
    intro M v3 v4
    rw [qM_odds_L27]
    refine zg_iload C 4 29 rfl dX8_odds_27 rfl ?_
    refine zg_iconst C (3 : Int32) 30 rfl dX8_odds_29 (by decide) ?_
    refine zg_icmp_ge C 102 33 rfl dX8_odds_30 (by decide) ?_ ?_
    · refine zg_sub [0, 2, 3] [(0, .ref (zad E 40 0)), (2, .int c2), (3, .int v3)] rfl ?_
      exact he102 M v3
    · refine zg_aload_n C 0 34 rfl dX8_odds_33 rfl ?_
      refine fgX8_29 C zn40 37 rfl dX8_odds_34 ?_
      refine zg_iconst C (3 : Int32) 38 rfl dX8_odds_37 (by decide) ?_
      refine zg_iload_n C 1 39 rfl dX8_odds_38 rfl ?_
      refine zg_imul C 40 rfl dX8_odds_39 ?_
      refine zg_iload C 4 42 rfl dX8_odds_40 rfl ?_
      refine zg_iadd C 43 rfl dX8_odds_42 ?_
      refine zg_iald C 44 rfl dX8_odds_43 zn45 rfl ?_
      refine zg_nmI (fun x7 => ?_)
      refine zg_istore C 5 [(5, .int x7), (0, .ref (zad E 40 0)), (1, .int c1), (2, .int c2), (3, .int v3), (4, .int v4)] 46 rfl dX8_odds_44 (by decide) rfl ?_
      refine zg_aload_n C 1 47 rfl dX8_odds_46 rfl ?_
      refine fgX8_29 C zn40 50 rfl dX8_odds_47 ?_
      refine zg_iconst C (3 : Int32) 51 rfl dX8_odds_50 (by decide) ?_
      refine zg_iload_n C 2 52 rfl dX8_odds_51 rfl ?_
      refine zg_imul C 53 rfl dX8_odds_52 ?_
      refine zg_iload C 5 55 rfl dX8_odds_53 rfl ?_
      refine zg_iadd C 56 rfl dX8_odds_55 ?_
      refine zg_bipush C (50 : Int32) 58 rfl dX8_odds_56 (by decide) ?_
      refine zg_iast C 59 rfl dX8_odds_58 zn45 (fun _ _ => rfl) (fun M8 => ?_)
      refine zg_iload_n C 4 60 rfl dX8_odds_59 rfl ?_
      refine zg_iconst C (2 : Int32) 61 rfl dX8_odds_60 (by decide) ?_
      refine zg_aload_n C 1 62 rfl dX8_odds_61 rfl ?_
      refine zg_iload_n C 2 63 rfl dX8_odds_62 rfl ?_
      refine zg_callVI C [.int c1] 66 rfl dX8_odds_63 (tM_goes hD M8 c1) rfl (fun _ _ hP _ => zrecv C.2.2.2.2.2.1 hP zn40 rfl rfl) zw1105 zw1102 zw1104 zv43 zw9 oM_goes (by decide) (Nat.le_of_ble_eq_true rfl) (fun x10 M9 h11 => ?_)
      refine zg_imul C 67 rfl dX8_odds_66 ?_
      refine zg_aload_n C 1 68 rfl dX8_odds_67 rfl ?_
      refine fgX8_7 C zn40 71 rfl dX8_odds_68 ?_
      refine zg_iconst C (1 : Int32) 72 rfl dX8_odds_71 (by decide) ?_
      refine zg_isub C 73 rfl dX8_odds_72 ?_
      refine zg_jn (fun j14 => ∀ (M13 : zM) (x12 : Int32), zG p l e R s m args below meth c E zNM A 6 zvL zoT 81 [(0, .ref (zad E 40 0)), (1, .int c1), (2, .int c2), (4, .int v4), (5, .int x7)] [.int x12, .int v3] M13 (j14 M13 x12)) (fun M13 x12 => ?_) (fun j14 hj14 => ?_)
      · refine zg_iadd C 82 rfl dX8_odds_81 ?_
        refine zg_nmI (fun x15 => ?_)
        refine zg_istore_n C 3 [(3, .int x15), (0, .ref (zad E 40 0)), (1, .int c1), (2, .int c2), (4, .int v4), (5, .int x7)] 83 rfl dX8_odds_82 rfl (by decide) rfl ?_
        refine zg_aload_n C 1 84 rfl dX8_odds_83 rfl ?_
        refine fgX8_29 C zn40 87 rfl dX8_odds_84 ?_
        refine zg_iconst C (3 : Int32) 88 rfl dX8_odds_87 (by decide) ?_
        refine zg_iload_n C 2 89 rfl dX8_odds_88 rfl ?_
        refine zg_imul C 90 rfl dX8_odds_89 ?_
        refine zg_iload C 4 92 rfl dX8_odds_90 rfl ?_
        refine zg_iadd C 93 rfl dX8_odds_92 ?_
        refine zg_iload C 5 95 rfl dX8_odds_93 rfl ?_
        refine zg_iast C 96 rfl dX8_odds_95 zn45 (fun _ _ => rfl) (fun M16 => ?_)
        refine zg_iinc C 4 (v4 + (1 : Int32)) [(4, .int (v4 + (1 : Int32))), (3, .int x15), (0, .ref (zad E 40 0)), (1, .int c1), (2, .int c2), (5, .int x7)] 99 rfl dX8_odds_96 rfl (congrArg (fun z : Int32 => v4 + z) (by decide : Int32.ofInt (1) = (1 : Int32))) (by decide) rfl ?_
        refine zg_goto C 27 dX8_odds_99 (by decide) ?_
        refine zg_sub [2, 3, 4, 1, 0] [(0, .ref (zad E 40 0)), (1, .int c1), (2, .int c2), (3, .int x15), (4, .int (v4 + (1 : Int32)))] rfl ?_
        exact ih M16 x15 (v4 + (1 : Int32))
      · refine zg_icmp_le C 80 76 rfl dX8_odds_73 (by decide) ?_ ?_
        · refine zg_iconst C (0 : Int32) 81 rfl dX8_odds_80 (by decide) ?_
          refine zg_sub [1, 2, 3, 5, 0] [(0, .ref (zad E 40 0)), (1, .int c1), (2, .int c2), (4, .int v4), (5, .int x7)] rfl ?_
          exact hj14 M9 (0 : Int32)
        · refine zg_iconst C (1 : Int32) 77 rfl dX8_odds_76 (by decide) ?_
          refine zg_goto C 81 dX8_odds_77 (by decide) ?_
          refine zg_sub [1, 2, 3, 5, 0] [(0, .ref (zad E 40 0)), (1, .int c1), (2, .int c2), (4, .int v4), (5, .int x7)] rfl ?_
          exact hj14 M9 (1 : Int32)
set_option maxHeartbeats 4000000 in
set_option maxRecDepth 100000 in
theorem tM_odds {l : Launch} {E : zE} {A : Nat → Prop} (hD : zD E zNM A) (M : zM) (a0 : Int32) (a1 : Int32) : zCT l yX8_odds cX8_odds 6 (some .long) 9 E zNM A [.ref (zad E 40 0), .int a0, .int a1] M zvL zoT (qM_odds  M a0 a1) := by
  refine zCT_of (by decide) hD (by first | decide | exact Nat.le_of_ble_eq_true rfl) (fun p e R s m args below meth c C => ?_)
  have C : zCx p R s m args meth c cX8_odds "TwoTrueModel" E zNM A 6 (some .long) 9 := C
  unfold qM_odds
  refine zg_sub [0, 1, 2] [(0, .ref (zad E 40 0)), (1, .int a0), (2, .int a1)] rfl ?_
  refine zg_aload_n C 0 1 rfl dX8_odds_0 rfl ?_
  refine zg_iload_n C 1 2 rfl dX8_odds_1 rfl ?_
  refine zg_callVI C [.int a0] 5 rfl dX8_odds_2 (tM_isPerson hD M a0) rfl (fun _ _ hP _ => zrecv C.2.2.2.2.2.1 hP zn40 rfl rfl) zw977 zw974 zw976 zv20 zw9 oM_isPerson (by decide) (Nat.le_of_ble_eq_true rfl) (fun x2 M1 h3 => ?_)
  refine zg_if_eq C 18 8 rfl dX8_odds_5 (by decide) ?_ ?_
  · refine zg_ldc2 C (-9223372036854775808 : Int64) 21 rfl dX8_odds_18 zw1190 ?_
    exact zg_lret C dX8_odds_21 trivial
  · refine zg_aload_n C 0 9 rfl dX8_odds_8 rfl ?_
    refine zg_iload_n C 2 10 rfl dX8_odds_9 rfl ?_
    refine zg_iconst C (0 : Int32) 11 rfl dX8_odds_10 (by decide) ?_
    refine zg_iconst C (1 : Int32) 12 rfl dX8_odds_11 (by decide) ?_
    refine zg_callVI C [.int a1, .int (0 : Int32), .int (1 : Int32)] 15 rfl dX8_odds_12 (tM_in hD M1 a1 (0 : Int32) (1 : Int32)) rfl (fun _ _ hP _ => zrecv C.2.2.2.2.2.1 hP zn40 rfl rfl) zw969 zw966 zw968 zv19 zw9 oM_in (by decide) (Nat.le_of_ble_eq_true rfl) (fun x5 M4 h6 => ?_)
    refine zg_if_ne C 22 18 rfl dX8_odds_15 (by decide) ?_ ?_
    · refine zg_ldc2 C (-9223372036854775808 : Int64) 21 rfl dX8_odds_18 zw1190 ?_
      exact zg_lret C dX8_odds_21 trivial
    · refine zg_iconst C (0 : Int32) 23 rfl dX8_odds_22 (by decide) ?_
      refine zg_istore_n C 3 [(3, .int (0 : Int32)), (0, .ref (zad E 40 0)), (1, .int a0), (2, .int a1)] 24 rfl dX8_odds_23 rfl (by decide) rfl ?_
      refine zg_iconst C (0 : Int32) 25 rfl dX8_odds_24 (by decide) ?_
      refine zg_istore C 4 [(4, .int (0 : Int32)), (3, .int (0 : Int32)), (0, .ref (zad E 40 0)), (1, .int a0), (2, .int a1)] 27 rfl dX8_odds_25 (by decide) rfl ?_
      refine zg_sub [2, 3, 4, 1, 0] [(0, .ref (zad E 40 0)), (1, .int a0), (2, .int a1), (3, .int (0 : Int32)), (4, .int (0 : Int32))] rfl ?_
      refine tM_odds_L27 C hD a0 a1 (fun M17 x18 => ?_) 1000 M4 (0 : Int32) (0 : Int32)
      · refine zg_aload_n C 0 103 rfl dX8_odds_102 rfl ?_
        refine zg_iload_n C 2 104 rfl dX8_odds_103 rfl ?_
        refine zg_iconst C (3 : Int32) 105 rfl dX8_odds_104 (by decide) ?_
        refine zg_iload_n C 1 106 rfl dX8_odds_105 rfl ?_
        refine zg_callVL C [.int x18, .int (3 : Int32), .int a1] 109 rfl dX8_odds_106 (tM_lowest hD M17 x18 (3 : Int32) a1) rfl (fun _ _ hP _ => zrecv C.2.2.2.2.2.1 hP zn40 rfl rfl) zw1194 zw1191 zw1193 zv53 zw9 oM_lowest (by decide) (Nat.le_of_ble_eq_true rfl) (fun x20 M19 h21 => ?_)
        exact zg_lret C dX8_odds_109 trivial
set_option maxHeartbeats 4000000 in
set_option maxRecDepth 100000 in
theorem tM_mean_L25 {p : Program} {l : Launch} {e : Env} {R : Room} {s : State} {m : MethodId} {args : Array Value} {below : List Frame} {meth : Method} {c : Code} {E : zE} {A : Nat → Prop} (C : zCx p R s m args meth c cX8_mean "TwoTrueModel" E zNM A 4 (some .long) 9) (hD : zD E zNM A) (c1 : Int32) {e47 : zM → Int32 → Option (Int64 × zM)} (he47 : ∀ (M : zM) (u2 : Int32), zG p l e R s m args below meth c E zNM A 4 zvL zoT 47 [(0, .ref (zad E 40 0)), (1, .int c1), (2, .int u2)] [] M (e47 M u2)) : ∀ (n : Nat) (M : zM) (v2 : Int32) (v3 : Int32), zG p l e R s m args below meth c E zNM A 4 zvL zoT 25 [(0, .ref (zad E 40 0)), (1, .int c1), (2, .int v2), (3, .int v3)] [] M (qM_mean_L25 c1 e47 n M v2 v3) := by
  intro n
  induction n with
  | zero =>
    intro M v2 v3
    exact zg_none
  | succ n ih =>
    intro M v2 v3
    rw [qM_mean_L25]
    refine zg_iload_n C 3 26 rfl dX8_mean_25 rfl ?_
    refine zg_aload_n C 0 27 rfl dX8_mean_26 rfl ?_
    refine fgX8_7 C zn40 30 rfl dX8_mean_27 ?_
    refine zg_icmp_ge C 47 33 rfl dX8_mean_30 (by decide) ?_ ?_
    · refine zg_sub [0, 1, 2] [(0, .ref (zad E 40 0)), (1, .int c1), (2, .int v2)] rfl ?_
      exact he47 M v2
    · refine zg_iload_n C 2 34 rfl dX8_mean_33 rfl ?_
      refine zg_aload_n C 0 35 rfl dX8_mean_34 rfl ?_
      refine zg_iload_n C 3 36 rfl dX8_mean_35 rfl ?_
      refine zg_callVI C [.int v3] 39 rfl dX8_mean_36 (tM_goes hD M v3) rfl (fun _ _ hP _ => zrecv C.2.2.2.2.2.1 hP zn40 rfl rfl) zw1105 zw1102 zw1104 zv43 zw9 oM_goes (by decide) (Nat.le_of_ble_eq_true rfl) (fun x5 M4 h6 => ?_)
      refine zg_iadd C 40 rfl dX8_mean_39 ?_
      refine zg_nmI (fun x7 => ?_)
      refine zg_istore_n C 2 [(2, .int x7), (0, .ref (zad E 40 0)), (1, .int c1), (3, .int v3)] 41 rfl dX8_mean_40 rfl (by decide) rfl ?_
      refine zg_iinc C 3 (v3 + (1 : Int32)) [(3, .int (v3 + (1 : Int32))), (2, .int x7), (0, .ref (zad E 40 0)), (1, .int c1)] 44 rfl dX8_mean_41 rfl (congrArg (fun z : Int32 => v3 + z) (by decide : Int32.ofInt (1) = (1 : Int32))) (by decide) rfl ?_
      refine zg_goto C 25 dX8_mean_44 (by decide) ?_
      refine zg_sub [2, 3, 1, 0] [(0, .ref (zad E 40 0)), (1, .int c1), (2, .int x7), (3, .int (v3 + (1 : Int32)))] rfl ?_
      exact ih M4 x7 (v3 + (1 : Int32))
set_option maxHeartbeats 4000000 in
set_option maxRecDepth 100000 in
theorem tM_mean {l : Launch} {E : zE} {A : Nat → Prop} (hD : zD E zNM A) (M : zM) (a0 : Int32) : zCT l yX8_mean cX8_mean 4 (some .long) 9 E zNM A [.ref (zad E 40 0), .int a0] M zvL zoT (qM_mean  M a0) := by
  refine zCT_of (by decide) hD (by first | decide | exact Nat.le_of_ble_eq_true rfl) (fun p e R s m args below meth c C => ?_)
  have C : zCx p R s m args meth c cX8_mean "TwoTrueModel" E zNM A 4 (some .long) 9 := C
  unfold qM_mean
  refine zg_sub [0, 1] [(0, .ref (zad E 40 0)), (1, .int a0)] rfl ?_
  refine zg_aload_n C 0 1 rfl dX8_mean_0 rfl ?_
  refine zg_iload_n C 1 2 rfl dX8_mean_1 rfl ?_
  refine zg_iconst C (0 : Int32) 3 rfl dX8_mean_2 (by decide) ?_
  refine zg_iconst C (1 : Int32) 4 rfl dX8_mean_3 (by decide) ?_
  refine zg_callVI C [.int a0, .int (0 : Int32), .int (1 : Int32)] 7 rfl dX8_mean_4 (tM_in hD M a0 (0 : Int32) (1 : Int32)) rfl (fun _ _ hP _ => zrecv C.2.2.2.2.2.1 hP zn40 rfl rfl) zw969 zw966 zw968 zv19 zw9 oM_in (by decide) (Nat.le_of_ble_eq_true rfl) (fun x2 M1 h3 => ?_)
  refine zg_if_eq C 17 10 rfl dX8_mean_7 (by decide) ?_ ?_
  · refine zg_ldc2 C (-9223372036854775808 : Int64) 20 rfl dX8_mean_17 zw1190 ?_
    exact zg_lret C dX8_mean_20 trivial
  · refine zg_aload_n C 0 11 rfl dX8_mean_10 rfl ?_
    refine fgX8_7 C zn40 14 rfl dX8_mean_11 ?_
    refine zg_if_ne C 21 17 rfl dX8_mean_14 (by decide) ?_ ?_
    · refine zg_ldc2 C (-9223372036854775808 : Int64) 20 rfl dX8_mean_17 zw1190 ?_
      exact zg_lret C dX8_mean_20 trivial
    · refine zg_iconst C (0 : Int32) 22 rfl dX8_mean_21 (by decide) ?_
      refine zg_istore_n C 2 [(2, .int (0 : Int32)), (0, .ref (zad E 40 0)), (1, .int a0)] 23 rfl dX8_mean_22 rfl (by decide) rfl ?_
      refine zg_iconst C (0 : Int32) 24 rfl dX8_mean_23 (by decide) ?_
      refine zg_istore_n C 3 [(3, .int (0 : Int32)), (2, .int (0 : Int32)), (0, .ref (zad E 40 0)), (1, .int a0)] 25 rfl dX8_mean_24 rfl (by decide) rfl ?_
      refine zg_sub [2, 3, 1, 0] [(0, .ref (zad E 40 0)), (1, .int a0), (2, .int (0 : Int32)), (3, .int (0 : Int32))] rfl ?_
      refine tM_mean_L25 C hD a0 (fun M8 x9 => ?_) 1000 M1 (0 : Int32) (0 : Int32)
      · refine zg_aload_n C 0 48 rfl dX8_mean_47 rfl ?_
        refine zg_iload_n C 2 49 rfl dX8_mean_48 rfl ?_
        refine zg_aload_n C 0 50 rfl dX8_mean_49 rfl ?_
        refine fgX8_7 C zn40 53 rfl dX8_mean_50 ?_
        refine zg_iload_n C 1 54 rfl dX8_mean_53 rfl ?_
        refine zg_callVL C [.int x9, .int (M8.1 40 0 0), .int a0] 57 rfl dX8_mean_54 (tM_lowest hD M8 x9 (M8.1 40 0 0) a0) rfl (fun _ _ hP _ => zrecv C.2.2.2.2.2.1 hP zn40 rfl rfl) zw1194 zw1191 zw1193 zv53 zw9 oM_lowest (by decide) (Nat.le_of_ble_eq_true rfl) (fun x11 M10 h12 => ?_)
        exact zg_lret C dX8_mean_57 trivial
set_option maxHeartbeats 4000000 in
set_option maxRecDepth 100000 in
theorem tM_looked_L2 {p : Program} {l : Launch} {e : Env} {R : Room} {s : State} {m : MethodId} {args : Array Value} {below : List Frame} {meth : Method} {c : Code} {E : zE} {A : Nat → Prop} (C : zCx p R s m args meth c cX8_looked "TwoTrueModel" E zNM A 3 (some .int) 9) (hD : zD E zNM A) : ∀ (n : Nat) (M : zM) (v1 : Int32), zG p l e R s m args below meth c E zNM A 3 zvI zoT 2 [(0, .ref (zad E 40 0)), (1, .int v1)] [] M (qM_looked_L2 n M v1) := by
  intro n
  induction n with
  | zero =>
    intro M v1
    exact zg_none
  | succ n ih =>
    intro M v1
    rw [qM_looked_L2]
    refine zg_iload_n C 1 3 rfl dX8_looked_2 rfl ?_
    refine zg_aload_n C 0 4 rfl dX8_looked_3 rfl ?_
    refine fgX8_126 C zn40 7 rfl dX8_looked_4 ?_
    refine zg_icmp_ge C 49 10 rfl dX8_looked_7 (by decide) ?_ ?_
    · refine zg_bipush C (-5 : Int32) 51 rfl dX8_looked_49 (by decide) ?_
      exact zg_iret C dX8_looked_51 trivial
    · refine zg_aload_n C 0 11 rfl dX8_looked_10 rfl ?_
      refine zg_aload_n C 0 12 rfl dX8_looked_11 rfl ?_
      refine fgX8_129 C zn40 15 rfl dX8_looked_12 ?_
      refine zg_iload_n C 1 16 rfl dX8_looked_15 rfl ?_
      refine zg_iald C 17 rfl dX8_looked_16 zn66 rfl ?_
      refine zg_callVI C [.int (M.1 66 0 v1.toNatClampNeg)] 20 rfl dX8_looked_17 (tM_goes hD M (M.1 66 0 v1.toNatClampNeg)) rfl (fun _ _ hP _ => zrecv C.2.2.2.2.2.1 hP zn40 rfl rfl) zw1105 zw1102 zw1104 zv43 zw9 oM_goes (by decide) (Nat.le_of_ble_eq_true rfl) (fun x2 M1 h3 => ?_)
      refine zg_istore_n C 2 [(2, .int x2), (0, .ref (zad E 40 0)), (1, .int v1)] 21 rfl dX8_looked_20 rfl (by decide) rfl ?_
      refine zg_aload_n C 1 22 rfl dX8_looked_21 rfl ?_
      refine fgX8_99 C zn40 25 rfl dX8_looked_22 ?_
      refine zg_aload_n C 1 26 rfl dX8_looked_25 rfl ?_
      refine fgX8_132 C zn40 29 rfl dX8_looked_26 ?_
      refine zg_iload_n C 2 30 rfl dX8_looked_29 rfl ?_
      refine zg_iald C 31 rfl dX8_looked_30 zn67 rfl ?_
      refine zg_iald C 32 rfl dX8_looked_31 zn60 rfl ?_
      refine zg_aload_n C 1 33 rfl dX8_looked_32 rfl ?_
      refine fgX8_135 C zn40 36 rfl dX8_looked_33 ?_
      refine zg_iload_n C 2 37 rfl dX8_looked_36 rfl ?_
      refine zg_iald C 38 rfl dX8_looked_37 zn68 rfl ?_
      refine zg_icmp_eq C 43 41 rfl dX8_looked_38 (by decide) ?_ ?_
      · refine zg_iinc C 2 (v1 + (1 : Int32)) [(1, .int (v1 + (1 : Int32))), (2, .int x2), (0, .ref (zad E 40 0))] 46 rfl dX8_looked_43 rfl (congrArg (fun z : Int32 => v1 + z) (by decide : Int32.ofInt (1) = (1 : Int32))) (by decide) rfl ?_
        refine zg_goto C 2 dX8_looked_46 (by decide) ?_
        refine zg_sub [2, 0] [(0, .ref (zad E 40 0)), (1, .int (v1 + (1 : Int32)))] rfl ?_
        exact ih M1 (v1 + (1 : Int32))
      · refine zg_iload_n C 2 42 rfl dX8_looked_41 rfl ?_
        exact zg_iret C dX8_looked_42 trivial
set_option maxHeartbeats 4000000 in
set_option maxRecDepth 100000 in
theorem tM_looked {l : Launch} {E : zE} {A : Nat → Prop} (hD : zD E zNM A) (M : zM) : zCT l yX8_looked cX8_looked 3 (some .int) 9 E zNM A [.ref (zad E 40 0)] M zvI zoT (qM_looked  M ) := by
  refine zCT_of (by decide) hD (by first | decide | exact Nat.le_of_ble_eq_true rfl) (fun p e R s m args below meth c C => ?_)
  have C : zCx p R s m args meth c cX8_looked "TwoTrueModel" E zNM A 3 (some .int) 9 := C
  unfold qM_looked
  refine zg_sub [0] [(0, .ref (zad E 40 0))] rfl ?_
  refine zg_iconst C (0 : Int32) 1 rfl dX8_looked_0 (by decide) ?_
  refine zg_istore_n C 1 [(1, .int (0 : Int32)), (0, .ref (zad E 40 0))] 2 rfl dX8_looked_1 rfl (by decide) rfl ?_
  refine zg_sub [1, 0] [(0, .ref (zad E 40 0)), (1, .int (0 : Int32))] rfl ?_
  refine tM_looked_L2 C hD   1000 M (0 : Int32)
set_option maxHeartbeats 4000000 in
set_option maxRecDepth 100000 in
theorem tM_tellsAct {l : Launch} {E : zE} {A : Nat → Prop} (hD : zD E zNM A) (M : zM) (a0 : Int32) (a1 : Int32) : zCT l yX8_tellsAct cX8_tellsAct 4 (some .int) 9 E zNM A [.ref (zad E 40 0), .int a0, .int a1] M zvI zoT (qM_tellsAct  M a0 a1) := by
  refine zCT_of (by decide) hD (by first | decide | exact Nat.le_of_ble_eq_true rfl) (fun p e R s m args below meth c C => ?_)
  have C : zCx p R s m args meth c cX8_tellsAct "TwoTrueModel" E zNM A 4 (some .int) 9 := C
  unfold qM_tellsAct
  refine zg_sub [0, 1, 2] [(0, .ref (zad E 40 0)), (1, .int a0), (2, .int a1)] rfl ?_
  refine zg_aload_n C 0 1 rfl dX8_tellsAct_0 rfl ?_
  refine fgX8_16 C zn40 4 rfl dX8_tellsAct_1 ?_
  refine zg_iload_n C 1 5 rfl dX8_tellsAct_4 rfl ?_
  refine zg_iald C 6 rfl dX8_tellsAct_5 zn41 rfl ?_
  refine zg_nmI (fun x1 => ?_)
  refine zg_if (fun h2 => ?_) (fun h2 => ?_)
  · refine zg_tabIn C 3 (30) 36 dX8_tellsAct_6 (zxi h2 (by decide)) (by decide) (by decide) rfl (by decide) ?_
    refine zg_aload_n C 0 37 rfl dX8_tellsAct_36 rfl ?_
    refine zg_bipush C (40 : Int32) 39 rfl dX8_tellsAct_37 (by decide) ?_
    refine zg_callVU C [.int (40 : Int32)] 42 rfl dX8_tellsAct_39 (tM_body hD M (40 : Int32)) rfl (fun _ _ hP _ => zrecv C.2.2.2.2.2.1 hP zn40 rfl rfl) zw1238 zw1235 zw1237 zv57 zw9 oM_body (by decide) (Nat.le_of_ble_eq_true rfl) (fun _u M3 h4 => ?_)
    refine zg_aload_n C 0 43 rfl dX8_tellsAct_42 rfl ?_
    refine zg_iload_n C 1 44 rfl dX8_tellsAct_43 rfl ?_
    refine zg_iload_n C 2 45 rfl dX8_tellsAct_44 rfl ?_
    refine zg_callVI C [.int a0, .int a1] 48 rfl dX8_tellsAct_45 (tM_guestTells hD M3 a0 a1) rfl (fun _ _ hP _ => zrecv C.2.2.2.2.2.1 hP zn40 rfl rfl) zw1262 zw1259 zw1261 zv63 zw9 oM_guestTells (by decide) (Nat.le_of_ble_eq_true rfl) (fun x6 M5 h7 => ?_)
    refine zg_istore_n C 3 [(3, .int x6), (0, .ref (zad E 40 0)), (1, .int a0), (2, .int a1)] 49 rfl dX8_tellsAct_48 rfl (by decide) rfl ?_
    refine zg_iload_n C 0 50 rfl dX8_tellsAct_49 rfl ?_
    refine zg_aload_n C 1 51 rfl dX8_tellsAct_50 rfl ?_
    refine zg_iload_n C 2 52 rfl dX8_tellsAct_51 rfl ?_
    refine zg_iconst C (1 : Int32) 53 rfl dX8_tellsAct_52 (by decide) ?_
    refine zg_callVI C [.int a0, .int (1 : Int32)] 56 rfl dX8_tellsAct_53 (tM_guessesAct hD M5 a0 (1 : Int32)) rfl (fun _ _ hP _ => zrecv C.2.2.2.2.2.1 hP zn40 rfl rfl) zw1246 zw1243 zw1245 zv59 zw9 oM_guessesAct (by decide) (Nat.le_of_ble_eq_true rfl) (fun x9 M8 h10 => ?_)
    refine zg_iadd C 57 rfl dX8_tellsAct_56 ?_
    exact zg_iret C dX8_tellsAct_57 trivial
  · refine zg_if (fun h11 => ?_) (fun h11 => ?_)
    · refine zg_tabIn C 4 (67) 73 dX8_tellsAct_6 (zxi h11 (by decide)) (by decide) (by decide) rfl (by decide) ?_
      refine zg_aload_n C 0 74 rfl dX8_tellsAct_73 rfl ?_
      refine zg_iload_n C 1 75 rfl dX8_tellsAct_74 rfl ?_
      refine zg_iload_n C 2 76 rfl dX8_tellsAct_75 rfl ?_
      refine zg_callVI C [.int a0, .int a1] 79 rfl dX8_tellsAct_76 (tM_guestTells hD M a0 a1) rfl (fun _ _ hP _ => zrecv C.2.2.2.2.2.1 hP zn40 rfl rfl) zw1262 zw1259 zw1261 zv63 zw9 oM_guestTells (by decide) (Nat.le_of_ble_eq_true rfl) (fun x13 M12 h14 => ?_)
      exact zg_iret C dX8_tellsAct_79 trivial
    · refine zg_if (fun h15 => ?_) (fun h15 => ?_)
      · refine zg_tabIn C 5 (52) 58 dX8_tellsAct_6 (zxi h15 (by decide)) (by decide) (by decide) rfl (by decide) ?_
        refine zg_aload_n C 0 59 rfl dX8_tellsAct_58 rfl ?_
        refine zg_bipush C (60 : Int32) 61 rfl dX8_tellsAct_59 (by decide) ?_
        refine zg_callVU C [.int (60 : Int32)] 64 rfl dX8_tellsAct_61 (tM_body hD M (60 : Int32)) rfl (fun _ _ hP _ => zrecv C.2.2.2.2.2.1 hP zn40 rfl rfl) zw1238 zw1235 zw1237 zv57 zw9 oM_body (by decide) (Nat.le_of_ble_eq_true rfl) (fun _u M16 h17 => ?_)
        refine zg_aload_n C 0 65 rfl dX8_tellsAct_64 rfl ?_
        refine zg_iload_n C 1 66 rfl dX8_tellsAct_65 rfl ?_
        refine zg_iload_n C 2 67 rfl dX8_tellsAct_66 rfl ?_
        refine zg_iload_n C 1 68 rfl dX8_tellsAct_67 rfl ?_
        refine zg_isub C 69 rfl dX8_tellsAct_68 ?_
        refine zg_callVI C [.int a0, .int (a1 - a0)] 72 rfl dX8_tellsAct_69 (tM_guestTells hD M16 a0 (a1 - a0)) rfl (fun _ _ hP _ => zrecv C.2.2.2.2.2.1 hP zn40 rfl rfl) zw1262 zw1259 zw1261 zv63 zw9 oM_guestTells (by decide) (Nat.le_of_ble_eq_true rfl) (fun x19 M18 h20 => ?_)
        exact zg_iret C dX8_tellsAct_72 trivial
      · refine zg_if (fun h21 => ?_) (fun h21 => ?_)
        · refine zg_tabIn C 6 (30) 36 dX8_tellsAct_6 (zxi h21 (by decide)) (by decide) (by decide) rfl (by decide) ?_
          refine zg_aload_n C 0 37 rfl dX8_tellsAct_36 rfl ?_
          refine zg_bipush C (40 : Int32) 39 rfl dX8_tellsAct_37 (by decide) ?_
          refine zg_callVU C [.int (40 : Int32)] 42 rfl dX8_tellsAct_39 (tM_body hD M (40 : Int32)) rfl (fun _ _ hP _ => zrecv C.2.2.2.2.2.1 hP zn40 rfl rfl) zw1238 zw1235 zw1237 zv57 zw9 oM_body (by decide) (Nat.le_of_ble_eq_true rfl) (fun _u M22 h23 => ?_)
          refine zg_aload_n C 0 43 rfl dX8_tellsAct_42 rfl ?_
          refine zg_iload_n C 1 44 rfl dX8_tellsAct_43 rfl ?_
          refine zg_iload_n C 2 45 rfl dX8_tellsAct_44 rfl ?_
          refine zg_callVI C [.int a0, .int a1] 48 rfl dX8_tellsAct_45 (tM_guestTells hD M22 a0 a1) rfl (fun _ _ hP _ => zrecv C.2.2.2.2.2.1 hP zn40 rfl rfl) zw1262 zw1259 zw1261 zv63 zw9 oM_guestTells (by decide) (Nat.le_of_ble_eq_true rfl) (fun x25 M24 h26 => ?_)
          refine zg_istore_n C 3 [(3, .int x25), (0, .ref (zad E 40 0)), (1, .int a0), (2, .int a1)] 49 rfl dX8_tellsAct_48 rfl (by decide) rfl ?_
          refine zg_iload_n C 0 50 rfl dX8_tellsAct_49 rfl ?_
          refine zg_aload_n C 1 51 rfl dX8_tellsAct_50 rfl ?_
          refine zg_iload_n C 2 52 rfl dX8_tellsAct_51 rfl ?_
          refine zg_iconst C (1 : Int32) 53 rfl dX8_tellsAct_52 (by decide) ?_
          refine zg_callVI C [.int a0, .int (1 : Int32)] 56 rfl dX8_tellsAct_53 (tM_guessesAct hD M24 a0 (1 : Int32)) rfl (fun _ _ hP _ => zrecv C.2.2.2.2.2.1 hP zn40 rfl rfl) zw1246 zw1243 zw1245 zv59 zw9 oM_guessesAct (by decide) (Nat.le_of_ble_eq_true rfl) (fun x28 M27 h29 => ?_)
          refine zg_iadd C 57 rfl dX8_tellsAct_56 ?_
          exact zg_iret C dX8_tellsAct_57 trivial
        · refine zg_tabOut C 73 dX8_tellsAct_6 (by have gh2 := zxn h2 (by decide : (3 : Int32).toInt = 3); have gh11 := zxn h11 (by decide : (4 : Int32).toInt = 4); have gh15 := zxn h15 (by decide : (5 : Int32).toInt = 5); have gh21 := zxn h21 (by decide : (6 : Int32).toInt = 6); omega) (by decide) ?_
          refine zg_aload_n C 0 74 rfl dX8_tellsAct_73 rfl ?_
          refine zg_iload_n C 1 75 rfl dX8_tellsAct_74 rfl ?_
          refine zg_iload_n C 2 76 rfl dX8_tellsAct_75 rfl ?_
          refine zg_callVI C [.int a0, .int a1] 79 rfl dX8_tellsAct_76 (tM_guestTells hD M a0 a1) rfl (fun _ _ hP _ => zrecv C.2.2.2.2.2.1 hP zn40 rfl rfl) zw1262 zw1259 zw1261 zv63 zw9 oM_guestTells (by decide) (Nat.le_of_ble_eq_true rfl) (fun x31 M30 h32 => ?_)
          exact zg_iret C dX8_tellsAct_79 trivial
set_option maxHeartbeats 4000000 in
set_option maxRecDepth 100000 in
theorem tM_round {l : Launch} {E : zE} {A : Nat → Prop} (hD : zD E zNM A) (M : zM) (a0 : Int32) : zCT l yX8_round cX8_round 2 (some .int) 10 E zNM A [.ref (zad E 40 0), .int a0] M zvI zoT (qM_round  M a0) := by
  refine zCT_of (by decide) hD (by first | decide | exact Nat.le_of_ble_eq_true rfl) (fun p e R s m args below meth c C => ?_)
  have C : zCx p R s m args meth c cX8_round "TwoTrueModel" E zNM A 2 (some .int) 10 := C
  unfold qM_round
  refine zg_sub [0, 1] [(0, .ref (zad E 40 0)), (1, .int a0)] rfl ?_
  refine zg_aload_n C 0 1 rfl dX8_round_0 rfl ?_
  refine zg_iload_n C 1 2 rfl dX8_round_1 rfl ?_
  refine zg_callVI C [.int a0] 5 rfl dX8_round_2 (tM_isPerson hD M a0) rfl (fun _ _ hP _ => zrecv C.2.2.2.2.2.1 hP zn40 rfl rfl) zw977 zw974 zw976 zv20 zw9 oM_isPerson (by decide) (Nat.le_of_ble_eq_true rfl) (fun x2 M1 h3 => ?_)
  refine zg_if_ne C 10 8 rfl dX8_round_5 (by decide) ?_ ?_
  · refine zg_iconst C (-1 : Int32) 9 rfl dX8_round_8 (by decide) ?_
    exact zg_iret C dX8_round_9 trivial
  · refine zg_aload_n C 0 11 rfl dX8_round_10 rfl ?_
    refine fgX8_13 C zn40 14 rfl dX8_round_11 ?_
    refine zg_sipush C (999 : Int32) 17 rfl dX8_round_14 (by decide) ?_
    refine zg_icmp_ne C 25 20 rfl dX8_round_17 (by decide) ?_ ?_
    · refine zg_bipush C (-3 : Int32) 22 rfl dX8_round_20 (by decide) ?_
      refine zg_goto C 30 dX8_round_22 (by decide) ?_
      exact zg_iret C dX8_round_30 trivial
    · refine zg_aload_n C 0 26 rfl dX8_round_25 rfl ?_
      refine zg_iload_n C 1 27 rfl dX8_round_26 rfl ?_
      refine zg_callVI C [.int a0] 30 rfl dX8_round_27 (tM_goRound hD M1 a0) rfl (fun _ _ hP _ => zrecv C.2.2.2.2.2.1 hP zn40 rfl rfl) zw1101 zw1098 zw1100 zv42 zw9 oM_goRound (by decide) (Nat.le_of_ble_eq_true rfl) (fun x5 M4 h6 => ?_)
      exact zg_iret C dX8_round_30 trivial
set_option maxHeartbeats 4000000 in
set_option maxRecDepth 100000 in
theorem tM_worth {l : Launch} {E : zE} {A : Nat → Prop} (hD : zD E zNM A) (M : zM) (a0 : Int32) : zCT l yX8_worth cX8_worth 4 (some .int) 10 E zNM A [.ref (zad E 40 0), .int a0] M zvI zoT (qM_worth  M a0) := by
  refine zCT_of (by decide) hD (by first | decide | exact Nat.le_of_ble_eq_true rfl) (fun p e R s m args below meth c C => ?_)
  have C : zCx p R s m args meth c cX8_worth "TwoTrueModel" E zNM A 4 (some .int) 10 := C
  unfold qM_worth
  refine zg_sub [0, 1] [(0, .ref (zad E 40 0)), (1, .int a0)] rfl ?_
  refine zg_aload_n C 0 1 rfl dX8_worth_0 rfl ?_
  refine zg_iload_n C 1 2 rfl dX8_worth_1 rfl ?_
  refine zg_callVI C [.int a0] 5 rfl dX8_worth_2 (tM_isPerson hD M a0) rfl (fun _ _ hP _ => zrecv C.2.2.2.2.2.1 hP zn40 rfl rfl) zw977 zw974 zw976 zv20 zw9 oM_isPerson (by decide) (Nat.le_of_ble_eq_true rfl) (fun x2 M1 h3 => ?_)
  refine zg_if_ne C 12 8 rfl dX8_worth_5 (by decide) ?_ ?_
  · refine zg_sipush C (-1001 : Int32) 11 rfl dX8_worth_8 (by decide) ?_
    exact zg_iret C dX8_worth_11 trivial
  · refine zg_aload_n C 0 13 rfl dX8_worth_12 rfl ?_
    refine fgX8_16 C zn40 16 rfl dX8_worth_13 ?_
    refine zg_iload_n C 1 17 rfl dX8_worth_16 rfl ?_
    refine zg_iald C 18 rfl dX8_worth_17 zn41 rfl ?_
    refine zg_iconst C (3 : Int32) 19 rfl dX8_worth_18 (by decide) ?_
    refine zg_jn (fun j5 => ∀ (M4 : zM), zG p l e R s m args below meth c E zNM A 4 zvI zoT 37 [(0, .ref (zad E 40 0)), (1, .int a0)] [] M4 (j5 M4 )) (fun M4 => ?_) (fun j5 hj5 => ?_)
    · refine zg_aload_n C 0 38 rfl dX8_worth_37 rfl ?_
      refine zg_iload_n C 1 39 rfl dX8_worth_38 rfl ?_
      refine zg_callVI C [.int a0] 42 rfl dX8_worth_39 (tM_rightsOf hD M4 a0) rfl (fun _ _ hP _ => zrecv C.2.2.2.2.2.1 hP zn40 rfl rfl) zw1173 zw1170 zw1172 zv52 zw9 oM_rightsOf (by decide) (Nat.le_of_ble_eq_true rfl) (fun x7 M6 h8 => ?_)
      refine zg_istore_n C 2 [(2, .int x7), (0, .ref (zad E 40 0)), (1, .int a0)] 43 rfl dX8_worth_42 rfl (by decide) rfl ?_
      refine zg_aload_n C 1 44 rfl dX8_worth_43 rfl ?_
      refine zg_iload_n C 2 45 rfl dX8_worth_44 rfl ?_
      refine fpX8_102 C zn40 48 rfl dX8_worth_45 (fun M9 => ?_)
      refine zg_aload_n C 1 49 rfl dX8_worth_48 rfl ?_
      refine zg_iload_n C 2 50 rfl dX8_worth_49 rfl ?_
      refine zg_callVI C [.int a0] 53 rfl dX8_worth_50 (tM_rightsOf hD M9 a0) rfl (fun _ _ hP _ => zrecv C.2.2.2.2.2.1 hP zn40 rfl rfl) zw1173 zw1170 zw1172 zv52 zw9 oM_rightsOf (by decide) (Nat.le_of_ble_eq_true rfl) (fun x11 M10 h12 => ?_)
      refine zg_istore_n C 3 [(3, .int x11), (2, .int x7), (0, .ref (zad E 40 0)), (1, .int a0)] 54 rfl dX8_worth_53 rfl (by decide) rfl ?_
      refine zg_aload_n C 2 55 rfl dX8_worth_54 rfl ?_
      refine zg_iconst C (-1 : Int32) 56 rfl dX8_worth_55 (by decide) ?_
      refine fpX8_102 C zn40 59 rfl dX8_worth_56 (fun M13 => ?_)
      refine zg_iload_n C 1 60 rfl dX8_worth_59 rfl ?_
      refine zg_iload_n C 0 61 rfl dX8_worth_60 rfl ?_
      refine zg_isub C 62 rfl dX8_worth_61 ?_
      exact zg_iret C dX8_worth_62 trivial
    · refine zg_icmp_eq C 37 22 rfl dX8_worth_19 (by decide) ?_ ?_
      · exact hj5 M1 
      · refine zg_aload_n C 0 23 rfl dX8_worth_22 rfl ?_
        refine fgX8_16 C zn40 26 rfl dX8_worth_23 ?_
        refine zg_iload_n C 1 27 rfl dX8_worth_26 rfl ?_
        refine zg_iald C 28 rfl dX8_worth_27 zn41 rfl ?_
        refine zg_bipush C (6 : Int32) 30 rfl dX8_worth_28 (by decide) ?_
        refine zg_icmp_eq C 37 33 rfl dX8_worth_30 (by decide) ?_ ?_
        · exact hj5 M1 
        · refine zg_sipush C (-1003 : Int32) 36 rfl dX8_worth_33 (by decide) ?_
          exact zg_iret C dX8_worth_36 trivial
set_option maxHeartbeats 4000000 in
set_option maxRecDepth 100000 in
theorem tM_ends_L43 {p : Program} {l : Launch} {e : Env} {R : Room} {s : State} {m : MethodId} {args : Array Value} {below : List Frame} {meth : Method} {c : Code} {E : zE} {A : Nat → Prop} (C : zCx p R s m args meth c cX8_ends "TwoTrueModel" E zNM A 8 (some .int) 10) (hD : zD E zNM A) (c1 : Int32) (c2 : Int32) (c3 : Int32) (c4 : Int32) {e70 : zM → Option (Int32 × zM)} (he70 : ∀ (M : zM), zG p l e R s m args below meth c E zNM A 8 zvI zoT 70 [(0, .ref (zad E 40 0)), (1, .int c1), (2, .int c2), (3, .int c3), (4, .int c4)] [] M (e70 M )) : ∀ (n : Nat) (M : zM) (v5 : Int32), zG p l e R s m args below meth c E zNM A 8 zvI zoT 43 [(0, .ref (zad E 40 0)), (1, .int c1), (2, .int c2), (3, .int c3), (4, .int c4), (5, .int v5)] [] M (qM_ends_L43 c1 c2 c3 c4 e70 n M v5) := by
  intro n
  induction n with
  | zero =>
    intro M v5
    exact zg_none
  | succ n ih =>
    intro M v5
    rw [qM_ends_L43]
    refine zg_iload C 5 45 rfl dX8_ends_43 rfl ?_
    refine zg_bipush C (6 : Int32) 47 rfl dX8_ends_45 (by decide) ?_
    refine zg_icmp_ge C 70 50 rfl dX8_ends_47 (by decide) ?_ ?_
    · refine zg_sub [0, 1, 2, 3, 4] [(0, .ref (zad E 40 0)), (1, .int c1), (2, .int c2), (3, .int c3), (4, .int c4)] rfl ?_
      exact he70 M 
    · refine zg_aload_n C 0 51 rfl dX8_ends_50 rfl ?_
      refine fgX8_123 C zn40 54 rfl dX8_ends_51 ?_
      refine zg_iload C 5 56 rfl dX8_ends_54 rfl ?_
      refine zg_aload_n C 0 57 rfl dX8_ends_56 rfl ?_
      refine fgX8_23 C zn40 60 rfl dX8_ends_57 ?_
      refine zg_iload C 5 62 rfl dX8_ends_60 rfl ?_
      refine zg_iald C 63 rfl dX8_ends_62 zn43 rfl ?_
      refine zg_iast C 64 rfl dX8_ends_63 zn65 (fun _ _ => rfl) (fun M11 => ?_)
      refine zg_iinc C 5 (v5 + (1 : Int32)) [(5, .int (v5 + (1 : Int32))), (0, .ref (zad E 40 0)), (1, .int c1), (2, .int c2), (3, .int c3), (4, .int c4)] 67 rfl dX8_ends_64 rfl (congrArg (fun z : Int32 => v5 + z) (by decide : Int32.ofInt (1) = (1 : Int32))) (by decide) rfl ?_
      refine zg_goto C 43 dX8_ends_67 (by decide) ?_
      refine zg_sub [1, 2, 3, 4, 5, 0] [(0, .ref (zad E 40 0)), (1, .int c1), (2, .int c2), (3, .int c3), (4, .int c4), (5, .int (v5 + (1 : Int32)))] rfl ?_
      exact ih M11 (v5 + (1 : Int32))
set_option maxHeartbeats 4000000 in
set_option maxRecDepth 100000 in
theorem tM_ends_L73 {p : Program} {l : Launch} {e : Env} {R : Room} {s : State} {m : MethodId} {args : Array Value} {below : List Frame} {meth : Method} {c : Code} {E : zE} {A : Nat → Prop} (C : zCx p R s m args meth c cX8_ends "TwoTrueModel" E zNM A 8 (some .int) 10) (hD : zD E zNM A) (c1 : Int32) (c2 : Int32) (c3 : Int32) (c4 : Int32) {e100 : zM → Option (Int32 × zM)} (he100 : ∀ (M : zM), zG p l e R s m args below meth c E zNM A 8 zvI zoT 100 [(0, .ref (zad E 40 0)), (1, .int c1), (3, .int c3), (4, .int c4)] [] M (e100 M )) : ∀ (n : Nat) (M : zM) (v5 : Int32), zG p l e R s m args below meth c E zNM A 8 zvI zoT 73 [(0, .ref (zad E 40 0)), (1, .int c1), (2, .int c2), (3, .int c3), (4, .int c4), (5, .int v5)] [] M (qM_ends_L73 c1 c2 c3 c4 e100 n M v5) := by
  intro n
  induction n with
  | zero =>
    intro M v5
    exact zg_none
  | succ n ih =>
    intro M v5
    rw [qM_ends_L73]
    refine zg_iload C 5 75 rfl dX8_ends_73 rfl ?_
    refine zg_iload_n C 2 76 rfl dX8_ends_75 rfl ?_
    refine zg_icmp_ge C 100 79 rfl dX8_ends_76 (by decide) ?_ ?_
    · refine zg_sub [0, 1, 3, 4] [(0, .ref (zad E 40 0)), (1, .int c1), (3, .int c3), (4, .int c4)] rfl ?_
      exact he100 M 
    · refine zg_aload_n C 0 80 rfl dX8_ends_79 rfl ?_
      refine zg_aload_n C 0 81 rfl dX8_ends_80 rfl ?_
      refine fgX8_13 C zn40 84 rfl dX8_ends_81 ?_
      refine zg_aload_n C 0 85 rfl dX8_ends_84 rfl ?_
      refine fgX8_7 C zn40 88 rfl dX8_ends_85 ?_
      refine zg_irem C 89 rfl dX8_ends_88 ?_
      refine zg_callVI C [.int (zrem (M.1 40 0 1) (M.1 40 0 0))] 92 rfl dX8_ends_89 (tM_goRound hD M (zrem (M.1 40 0 1) (M.1 40 0 0))) rfl (fun _ _ hP _ => zrecv C.2.2.2.2.2.1 hP zn40 rfl rfl) zw1101 zw1098 zw1100 zv42 zw9 oM_goRound (by decide) (Nat.le_of_ble_eq_true rfl) (fun x14 M13 h15 => ?_)
      refine zg_istore C 6 [(6, .int x14), (0, .ref (zad E 40 0)), (1, .int c1), (2, .int c2), (3, .int c3), (4, .int c4), (5, .int v5)] 94 rfl dX8_ends_92 (by decide) rfl ?_
      refine zg_iinc C 6 (v5 + (1 : Int32)) [(5, .int (v5 + (1 : Int32))), (6, .int x14), (0, .ref (zad E 40 0)), (1, .int c1), (2, .int c2), (3, .int c3), (4, .int c4)] 97 rfl dX8_ends_94 rfl (congrArg (fun z : Int32 => v5 + z) (by decide : Int32.ofInt (1) = (1 : Int32))) (by decide) rfl ?_
      refine zg_goto C 73 dX8_ends_97 (by decide) ?_
      refine zg_sub [2, 3, 4, 5, 6, 0] [(0, .ref (zad E 40 0)), (1, .int c1), (2, .int c2), (3, .int c3), (4, .int c4), (5, .int (v5 + (1 : Int32)))] rfl ?_
      exact ih M13 (v5 + (1 : Int32))
set_option maxHeartbeats 4000000 in
set_option maxRecDepth 100000 in
theorem tM_ends_L106 {p : Program} {l : Launch} {e : Env} {R : Room} {s : State} {m : MethodId} {args : Array Value} {below : List Frame} {meth : Method} {c : Code} {E : zE} {A : Nat → Prop} (C : zCx p R s m args meth c cX8_ends "TwoTrueModel" E zNM A 8 (some .int) 10) (hD : zD E zNM A) (c1 : Int32) (c3 : Int32) (c4 : Int32) {e147 : zM → Int32 → Option (Int32 × zM)} (he147 : ∀ (M : zM) (u5 : Int32), zG p l e R s m args below meth c E zNM A 8 zvI zoT 147 [(0, .ref (zad E 40 0)), (1, .int c1), (3, .int c3), (4, .int c4), (5, .int u5)] [] M (e147 M u5)) : ∀ (n : Nat) (M : zM) (v5 : Int32) (v6 : Int32), zG p l e R s m args below meth c E zNM A 8 zvI zoT 106 [(0, .ref (zad E 40 0)), (1, .int c1), (3, .int c3), (4, .int c4), (5, .int v5), (6, .int v6)] [] M (qM_ends_L106 c1 c3 c4 e147 n M v5 v6) := by
  intro n
  induction n with
  | zero =>
    intro M v5 v6
    exact zg_none
  | succ n ih =>
    intro M v5 v6
    rw [qM_ends_L106]
    refine zg_iload C 5 108 rfl dX8_ends_106 rfl ?_
    refine zg_aload_n C 0 109 rfl dX8_ends_108 rfl ?_
    refine fgX8_7 C zn40 112 rfl dX8_ends_109 ?_
    refine zg_icmp_ge C 147 115 rfl dX8_ends_112 (by decide) ?_ ?_
    · refine zg_sub [0, 1, 2, 3, 4] [(0, .ref (zad E 40 0)), (1, .int c1), (3, .int c3), (4, .int c4), (5, .int v5)] rfl ?_
      exact he147 M v5
    · refine zg_aload_n C 0 116 rfl dX8_ends_115 rfl ?_
      refine fgX8_23 C zn40 119 rfl dX8_ends_116 ?_
      refine zg_iload C 5 121 rfl dX8_ends_119 rfl ?_
      refine zg_iald C 122 rfl dX8_ends_121 zn43 rfl ?_
      refine zg_aload_n C 0 123 rfl dX8_ends_122 rfl ?_
      refine fgX8_23 C zn40 126 rfl dX8_ends_123 ?_
      refine zg_iload C 4 128 rfl dX8_ends_126 rfl ?_
      refine zg_iald C 129 rfl dX8_ends_128 zn43 rfl ?_
      refine zg_jn (fun j19 => ∀ (M18 : zM) (x17 : Int32), zG p l e R s m args below meth c E zNM A 8 zvI zoT 139 [(0, .ref (zad E 40 0)), (1, .int c1), (3, .int c3), (4, .int c4), (6, .int v6)] [.int x17] M18 (j19 M18 x17)) (fun M18 x17 => ?_) (fun j19 hj19 => ?_)
      · refine zg_istore C 5 [(5, .int x17), (0, .ref (zad E 40 0)), (1, .int c1), (3, .int c3), (4, .int c4), (6, .int v6)] 141 rfl dX8_ends_139 (by decide) rfl ?_
        refine zg_iinc C 5 (v6 + (1 : Int32)) [(6, .int (v6 + (1 : Int32))), (5, .int x17), (0, .ref (zad E 40 0)), (1, .int c1), (3, .int c3), (4, .int c4)] 144 rfl dX8_ends_141 rfl (congrArg (fun z : Int32 => v6 + z) (by decide : Int32.ofInt (1) = (1 : Int32))) (by decide) rfl ?_
        refine zg_goto C 106 dX8_ends_144 (by decide) ?_
        refine zg_sub [2, 3, 4, 5, 1, 0] [(0, .ref (zad E 40 0)), (1, .int c1), (3, .int c3), (4, .int c4), (5, .int x17), (6, .int (v6 + (1 : Int32)))] rfl ?_
        exact ih M18 x17 (v6 + (1 : Int32))
      · refine zg_icmp_le C 137 132 rfl dX8_ends_129 (by decide) ?_ ?_
        · refine zg_iload C 4 139 rfl dX8_ends_137 rfl ?_
          refine zg_sub [0, 1, 2, 3, 5] [(0, .ref (zad E 40 0)), (1, .int c1), (3, .int c3), (4, .int c4), (6, .int v6)] rfl ?_
          exact hj19 M v5
        · refine zg_iload C 5 134 rfl dX8_ends_132 rfl ?_
          refine zg_goto C 139 dX8_ends_134 (by decide) ?_
          refine zg_sub [0, 1, 2, 3, 5] [(0, .ref (zad E 40 0)), (1, .int c1), (3, .int c3), (4, .int c4), (6, .int v6)] rfl ?_
          exact hj19 M v6
set_option maxHeartbeats 4000000 in
set_option maxRecDepth 100000 in
theorem tM_ends_L167 {p : Program} {l : Launch} {e : Env} {R : Room} {s : State} {m : MethodId} {args : Array Value} {below : List Frame} {meth : Method} {c : Code} {E : zE} {A : Nat → Prop} (C : zCx p R s m args meth c cX8_ends "TwoTrueModel" E zNM A 8 (some .int) 10) (hD : zD E zNM A) (c4 : Int32) (c6 : Int32) {e194 : zM → Option (Int32 × zM)} (he194 : ∀ (M : zM), zG p l e R s m args below meth c E zNM A 8 zvI zoT 194 [(0, .ref (zad E 40 0)), (4, .int c4), (6, .int c6)] [] M (e194 M )) : ∀ (n : Nat) (M : zM) (v7 : Int32), zG p l e R s m args below meth c E zNM A 8 zvI zoT 167 [(0, .ref (zad E 40 0)), (4, .int c4), (6, .int c6), (7, .int v7)] [] M (qM_ends_L167 c4 c6 e194 n M v7) := by
  intro n
  induction n with
  | zero =>
    intro M v7
    exact zg_none
  | succ n ih =>
    intro M v7
    rw [qM_ends_L167]
    refine zg_iload C 3 169 rfl dX8_ends_167 rfl ?_
    refine zg_bipush C (6 : Int32) 171 rfl dX8_ends_169 (by decide) ?_
    refine zg_icmp_ge C 194 174 rfl dX8_ends_171 (by decide) ?_ ?_
    · refine zg_sub [0, 1, 2] [(0, .ref (zad E 40 0)), (4, .int c4), (6, .int c6)] rfl ?_
      exact he194 M 
    · refine zg_aload_n C 0 175 rfl dX8_ends_174 rfl ?_
      refine fgX8_23 C zn40 178 rfl dX8_ends_175 ?_
      refine zg_iload C 3 180 rfl dX8_ends_178 rfl ?_
      refine zg_aload_n C 0 181 rfl dX8_ends_180 rfl ?_
      refine fgX8_123 C zn40 184 rfl dX8_ends_181 ?_
      refine zg_iload C 3 186 rfl dX8_ends_184 rfl ?_
      refine zg_iald C 187 rfl dX8_ends_186 zn65 rfl ?_
      refine zg_iast C 188 rfl dX8_ends_187 zn43 (fun _ _ => rfl) (fun M25 => ?_)
      refine zg_iinc C 3 (v7 + (1 : Int32)) [(7, .int (v7 + (1 : Int32))), (0, .ref (zad E 40 0)), (4, .int c4), (6, .int c6)] 191 rfl dX8_ends_188 rfl (congrArg (fun z : Int32 => v7 + z) (by decide : Int32.ofInt (1) = (1 : Int32))) (by decide) rfl ?_
      refine zg_goto C 167 dX8_ends_191 (by decide) ?_
      refine zg_sub [1, 2, 3, 0] [(0, .ref (zad E 40 0)), (4, .int c4), (6, .int c6), (7, .int (v7 + (1 : Int32)))] rfl ?_
      exact ih M25 (v7 + (1 : Int32))
set_option maxHeartbeats 4000000 in
set_option maxRecDepth 100000 in
theorem tM_ends {l : Launch} {E : zE} {A : Nat → Prop} (hD : zD E zNM A) (M : zM) (a0 : Int32) (a1 : Int32) (a2 : Int32) : zCT l yX8_ends cX8_ends 8 (some .int) 10 E zNM A [.ref (zad E 40 0), .int a0, .int a1, .int a2] M zvI zoT (qM_ends  M a0 a1 a2) := by
  refine zCT_of (by decide) hD (by first | decide | exact Nat.le_of_ble_eq_true rfl) (fun p e R s m args below meth c C => ?_)
  have C : zCx p R s m args meth c cX8_ends "TwoTrueModel" E zNM A 8 (some .int) 10 := C
  unfold qM_ends
  refine zg_sub [0, 1, 2, 3] [(0, .ref (zad E 40 0)), (1, .int a0), (2, .int a1), (3, .int a2)] rfl ?_
  refine zg_aload_n C 0 1 rfl dX8_ends_0 rfl ?_
  refine zg_iload_n C 1 2 rfl dX8_ends_1 rfl ?_
  refine zg_callVI C [.int a0] 5 rfl dX8_ends_2 (tM_isPerson hD M a0) rfl (fun _ _ hP _ => zrecv C.2.2.2.2.2.1 hP zn40 rfl rfl) zw977 zw974 zw976 zv20 zw9 oM_isPerson (by decide) (Nat.le_of_ble_eq_true rfl) (fun x2 M1 h3 => ?_)
  refine zg_if_eq C 18 8 rfl dX8_ends_5 (by decide) ?_ ?_
  · refine zg_iconst C (-1 : Int32) 19 rfl dX8_ends_18 (by decide) ?_
    exact zg_iret C dX8_ends_19 trivial
  · refine zg_aload_n C 0 9 rfl dX8_ends_8 rfl ?_
    refine zg_iload_n C 3 10 rfl dX8_ends_9 rfl ?_
    refine zg_iconst C (0 : Int32) 11 rfl dX8_ends_10 (by decide) ?_
    refine zg_iconst C (1 : Int32) 12 rfl dX8_ends_11 (by decide) ?_
    refine zg_callVI C [.int a2, .int (0 : Int32), .int (1 : Int32)] 15 rfl dX8_ends_12 (tM_in hD M1 a2 (0 : Int32) (1 : Int32)) rfl (fun _ _ hP _ => zrecv C.2.2.2.2.2.1 hP zn40 rfl rfl) zw969 zw966 zw968 zv19 zw9 oM_in (by decide) (Nat.le_of_ble_eq_true rfl) (fun x5 M4 h6 => ?_)
    refine zg_if_ne C 20 18 rfl dX8_ends_15 (by decide) ?_ ?_
    · refine zg_iconst C (-1 : Int32) 19 rfl dX8_ends_18 (by decide) ?_
      exact zg_iret C dX8_ends_19 trivial
    · refine zg_aload_n C 0 21 rfl dX8_ends_20 rfl ?_
      refine zg_iload_n C 2 22 rfl dX8_ends_21 rfl ?_
      refine zg_iconst C (0 : Int32) 23 rfl dX8_ends_22 (by decide) ?_
      refine zg_bipush C (30 : Int32) 25 rfl dX8_ends_23 (by decide) ?_
      refine zg_callVI C [.int a1, .int (0 : Int32), .int (30 : Int32)] 28 rfl dX8_ends_25 (tM_in hD M4 a1 (0 : Int32) (30 : Int32)) rfl (fun _ _ hP _ => zrecv C.2.2.2.2.2.1 hP zn40 rfl rfl) zw969 zw966 zw968 zv19 zw9 oM_in (by decide) (Nat.le_of_ble_eq_true rfl) (fun x8 M7 h9 => ?_)
      refine zg_if_ne C 34 31 rfl dX8_ends_28 (by decide) ?_ ?_
      · refine zg_bipush C (-2 : Int32) 33 rfl dX8_ends_31 (by decide) ?_
        exact zg_iret C dX8_ends_33 trivial
      · refine zg_aload_n C 0 35 rfl dX8_ends_34 rfl ?_
        refine fgX8_13 C zn40 38 rfl dX8_ends_35 ?_
        refine zg_nmI (fun x10 => ?_)
        refine zg_istore C 4 [(4, .int x10), (0, .ref (zad E 40 0)), (1, .int a0), (2, .int a1), (3, .int a2)] 40 rfl dX8_ends_38 (by decide) rfl ?_
        refine zg_iconst C (0 : Int32) 41 rfl dX8_ends_40 (by decide) ?_
        refine zg_istore C 5 [(5, .int (0 : Int32)), (4, .int x10), (0, .ref (zad E 40 0)), (1, .int a0), (2, .int a1), (3, .int a2)] 43 rfl dX8_ends_41 (by decide) rfl ?_
        refine zg_sub [2, 3, 4, 5, 1, 0] [(0, .ref (zad E 40 0)), (1, .int a0), (2, .int a1), (3, .int a2), (4, .int x10), (5, .int (0 : Int32))] rfl ?_
        refine tM_ends_L43 C hD a0 a1 a2 x10 (fun M12 => ?_) 1000 M7 (0 : Int32)
        · refine zg_iconst C (0 : Int32) 71 rfl dX8_ends_70 (by decide) ?_
          refine zg_istore C 5 [(5, .int (0 : Int32)), (0, .ref (zad E 40 0)), (1, .int a0), (2, .int a1), (3, .int a2), (4, .int x10)] 73 rfl dX8_ends_71 (by decide) rfl ?_
          refine zg_sub [1, 2, 3, 4, 5, 0] [(0, .ref (zad E 40 0)), (1, .int a0), (2, .int a1), (3, .int a2), (4, .int x10), (5, .int (0 : Int32))] rfl ?_
          refine tM_ends_L73 C hD a0 a1 a2 x10 (fun M16 => ?_) 1000 M12 (0 : Int32)
          · refine zg_iconst C (0 : Int32) 101 rfl dX8_ends_100 (by decide) ?_
            refine zg_istore C 5 [(5, .int (0 : Int32)), (0, .ref (zad E 40 0)), (1, .int a0), (3, .int a2), (4, .int x10)] 103 rfl dX8_ends_101 (by decide) rfl ?_
            refine zg_iconst C (1 : Int32) 104 rfl dX8_ends_103 (by decide) ?_
            refine zg_istore C 6 [(6, .int (1 : Int32)), (5, .int (0 : Int32)), (0, .ref (zad E 40 0)), (1, .int a0), (3, .int a2), (4, .int x10)] 106 rfl dX8_ends_104 (by decide) rfl ?_
            refine zg_sub [2, 3, 4, 5, 1, 0] [(0, .ref (zad E 40 0)), (1, .int a0), (3, .int a2), (4, .int x10), (5, .int (0 : Int32)), (6, .int (1 : Int32))] rfl ?_
            refine tM_ends_L106 C hD a0 a2 x10 (fun M20 x21 => ?_) 1000 M16 (0 : Int32) (1 : Int32)
            · refine zg_iload_n C 2 148 rfl dX8_ends_147 rfl ?_
              refine zg_jn (fun j24 => ∀ (M23 : zM) (x22 : Int32), zG p l e R s m args below meth c E zNM A 8 zvI zoT 162 [(0, .ref (zad E 40 0)), (4, .int x10)] [.int x22] M23 (j24 M23 x22)) (fun M23 x22 => ?_) (fun j24 hj24 => ?_)
              · refine zg_istore C 6 [(6, .int x22), (0, .ref (zad E 40 0)), (4, .int x10)] 164 rfl dX8_ends_162 (by decide) rfl ?_
                refine zg_iconst C (0 : Int32) 165 rfl dX8_ends_164 (by decide) ?_
                refine zg_istore C 7 [(7, .int (0 : Int32)), (6, .int x22), (0, .ref (zad E 40 0)), (4, .int x10)] 167 rfl dX8_ends_165 (by decide) rfl ?_
                refine zg_sub [2, 3, 1, 0] [(0, .ref (zad E 40 0)), (4, .int x10), (6, .int x22), (7, .int (0 : Int32))] rfl ?_
                refine tM_ends_L167 C hD x10 x22 (fun M26 => ?_) 1000 M23 (0 : Int32)
                · refine zg_aload_n C 0 195 rfl dX8_ends_194 rfl ?_
                  refine zg_iload C 1 197 rfl dX8_ends_195 rfl ?_
                  refine fpX8_13 C zn40 200 rfl dX8_ends_197 (fun M27 => ?_)
                  refine zg_iload C 2 202 rfl dX8_ends_200 rfl ?_
                  exact zg_iret C dX8_ends_202 trivial
              · refine zg_if_ne C 160 151 rfl dX8_ends_148 (by decide) ?_ ?_
                · refine zg_aload_n C 0 152 rfl dX8_ends_151 rfl ?_
                  refine fgX8_23 C zn40 155 rfl dX8_ends_152 ?_
                  refine zg_iload_n C 1 156 rfl dX8_ends_155 rfl ?_
                  refine zg_iald C 157 rfl dX8_ends_156 zn43 rfl ?_
                  refine zg_goto C 162 dX8_ends_157 (by decide) ?_
                  refine zg_sub [0, 3] [(0, .ref (zad E 40 0)), (4, .int x10)] rfl ?_
                  exact hj24 M20 (M20.1 43 0 a0.toNatClampNeg)
                · refine zg_iload C 4 162 rfl dX8_ends_160 rfl ?_
                  refine zg_sub [0, 3] [(0, .ref (zad E 40 0)), (4, .int x10)] rfl ?_
                  exact hj24 M20 x21
set_option maxHeartbeats 4000000 in
set_option maxRecDepth 100000 in
theorem tM_act {l : Launch} {E : zE} {A : Nat → Prop} (hD : zD E zNM A) (M : zM) (a0 : Int32) (a1 : Int32) (a2 : Int32) : zCT l yX8_act cX8_act 4 (some .int) 10 E zNM A [.ref (zad E 40 0), .int a0, .int a1, .int a2] M zvI zoT (qM_act  M a0 a1 a2) := by
  refine zCT_of (by decide) hD (by first | decide | exact Nat.le_of_ble_eq_true rfl) (fun p e R s m args below meth c C => ?_)
  have C : zCx p R s m args meth c cX8_act "TwoTrueModel" E zNM A 4 (some .int) 10 := C
  unfold qM_act
  refine zg_sub [0, 1, 2, 3] [(0, .ref (zad E 40 0)), (1, .int a0), (2, .int a1), (3, .int a2)] rfl ?_
  refine zg_aload_n C 0 1 rfl dX8_act_0 rfl ?_
  refine zg_iconst C (0 : Int32) 2 rfl dX8_act_1 (by decide) ?_
  refine fpX8_190 C zn40 5 rfl dX8_act_2 (fun M1 => ?_)
  refine zg_aload_n C 0 6 rfl dX8_act_5 rfl ?_
  refine zg_iload_n C 1 7 rfl dX8_act_6 rfl ?_
  refine zg_callVI C [.int a0] 10 rfl dX8_act_7 (tM_isPerson hD M1 a0) rfl (fun _ _ hP _ => zrecv C.2.2.2.2.2.1 hP zn40 rfl rfl) zw977 zw974 zw976 zv20 zw9 oM_isPerson (by decide) (Nat.le_of_ble_eq_true rfl) (fun x3 M2 h4 => ?_)
  refine zg_if_eq C 23 13 rfl dX8_act_10 (by decide) ?_ ?_
  · refine zg_iconst C (0 : Int32) 24 rfl dX8_act_23 (by decide) ?_
    exact zg_iret C dX8_act_24 trivial
  · refine zg_aload_n C 0 14 rfl dX8_act_13 rfl ?_
    refine zg_iload_n C 2 15 rfl dX8_act_14 rfl ?_
    refine zg_iconst C (0 : Int32) 16 rfl dX8_act_15 (by decide) ?_
    refine zg_iconst C (2 : Int32) 17 rfl dX8_act_16 (by decide) ?_
    refine zg_callVI C [.int a1, .int (0 : Int32), .int (2 : Int32)] 20 rfl dX8_act_17 (tM_in hD M2 a1 (0 : Int32) (2 : Int32)) rfl (fun _ _ hP _ => zrecv C.2.2.2.2.2.1 hP zn40 rfl rfl) zw969 zw966 zw968 zv19 zw9 oM_in (by decide) (Nat.le_of_ble_eq_true rfl) (fun x6 M5 h7 => ?_)
    refine zg_if_ne C 25 23 rfl dX8_act_20 (by decide) ?_ ?_
    · refine zg_iconst C (0 : Int32) 24 rfl dX8_act_23 (by decide) ?_
      exact zg_iret C dX8_act_24 trivial
    · refine zg_iload_n C 2 26 rfl dX8_act_25 rfl ?_
      refine zg_if_ne C 38 29 rfl dX8_act_26 (by decide) ?_ ?_
      · refine zg_aload_n C 0 30 rfl dX8_act_29 rfl ?_
        refine zg_iload_n C 1 31 rfl dX8_act_30 rfl ?_
        refine zg_iload_n C 3 32 rfl dX8_act_31 rfl ?_
        refine zg_callVI C [.int a0, .int a2] 35 rfl dX8_act_32 (tM_doubtsAct hD M5 a0 a2) rfl (fun _ _ hP _ => zrecv C.2.2.2.2.2.1 hP zn40 rfl rfl) zw1234 zw1231 zw1233 zv56 zw9 oM_doubtsAct (by decide) (Nat.le_of_ble_eq_true rfl) (fun x9 M8 h10 => ?_)
        refine zg_goto C 58 dX8_act_35 (by decide) ?_
        exact zg_iret C dX8_act_58 trivial
      · refine zg_iload_n C 2 39 rfl dX8_act_38 rfl ?_
        refine zg_iconst C (1 : Int32) 40 rfl dX8_act_39 (by decide) ?_
        refine zg_icmp_ne C 52 43 rfl dX8_act_40 (by decide) ?_ ?_
        · refine zg_aload_n C 0 44 rfl dX8_act_43 rfl ?_
          refine zg_iload_n C 1 45 rfl dX8_act_44 rfl ?_
          refine zg_iload_n C 3 46 rfl dX8_act_45 rfl ?_
          refine zg_callVI C [.int a0, .int a2] 49 rfl dX8_act_46 (tM_guessesAct hD M5 a0 a2) rfl (fun _ _ hP _ => zrecv C.2.2.2.2.2.1 hP zn40 rfl rfl) zw1246 zw1243 zw1245 zv59 zw9 oM_guessesAct (by decide) (Nat.le_of_ble_eq_true rfl) (fun x12 M11 h13 => ?_)
          refine zg_goto C 58 dX8_act_49 (by decide) ?_
          exact zg_iret C dX8_act_58 trivial
        · refine zg_aload_n C 0 53 rfl dX8_act_52 rfl ?_
          refine zg_iload_n C 1 54 rfl dX8_act_53 rfl ?_
          refine zg_iload_n C 3 55 rfl dX8_act_54 rfl ?_
          refine zg_callVI C [.int a0, .int a2] 58 rfl dX8_act_55 (tM_tellsAct hD M5 a0 a2) rfl (fun _ _ hP _ => zrecv C.2.2.2.2.2.1 hP zn40 rfl rfl) zw1258 zw1255 zw1257 zv62 zw9 oM_tellsAct (by decide) (Nat.le_of_ble_eq_true rfl) (fun x15 M14 h16 => ?_)
          exact zg_iret C dX8_act_58 trivial
