set_option maxHeartbeats 4000000 in
set_option maxRecDepth 100000 in
theorem tG_order_L41 {p : Program} {l : Launch} {e : Env} {R : Room} {s : State} {m : MethodId} {args : Array Value} {below : List Frame} {meth : Method} {c : Code} {E : zE} {A : Nat → Prop} (C : zCx p R s m args meth c cX7_order "TwoTrue" E zNC A 7 (some .int) 7) (hD : zD E zNC A) (c1 : Int32) (c2 : Int32) {e108 : zM → Int32 → Int32 → Option (Int32 × zM)} (he108 : ∀ (M : zM) (u3 : Int32) (u4 : Int32), zG p l e R s m args below meth c E zNC A 7 zvI zoT 108 [(2, .int c2), (3, .int u3), (4, .int u4)] [] M (e108 M u3 u4)) : ∀ (n : Nat) (M : zM) (v3 : Int32) (v4 : Int32) (v5 : Int32), zG p l e R s m args below meth c E zNC A 7 zvI zoT 41 [(0, .ref (zad E 0 0)), (1, .int c1), (2, .int c2), (3, .int v3), (4, .int v4), (5, .int v5)] [] M (qG_order_L41 c1 c2 e108 n M v3 v4 v5) := by
  intro n
  induction n with
  | zero =>
    intro M v3 v4 v5
    exact zg_none
  | succ n ih =>
    intro M v3 v4 v5
    rw [qG_order_L41]
    refine zg_iload C 5 43 rfl dX7_order_41 rfl ?_
    refine zg_bipush C (6 : Int32) 45 rfl dX7_order_43 (by decide) ?_
    refine zg_icmp_ge C 108 48 rfl dX7_order_45 (by decide) ?_ ?_
    · refine zg_sub [2, 3, 4] [(2, .int c2), (3, .int v3), (4, .int v4)] rfl ?_
      exact he108 M v3 v4
    · refine zg_aload_n C 0 49 rfl dX7_order_48 rfl ?_
      refine fgX7_21 C zn0 52 rfl dX7_order_49 ?_
      refine fgX7_88 C (zn1 (by decide : 2 < 3)) 55 rfl dX7_order_52 ?_
      refine zg_iload_n C 1 56 rfl dX7_order_55 rfl ?_
      refine zg_aald (k2 := 2) (b := 12) (t0 := 3) C 57 rfl dX7_order_56 (zn7 (by decide : 2 < 3)) rfl rfl (fun i6 hbi6 hei6 => ?_)
      have hi6 : i6 < 18 := by omega
      refine zg_gets C 1 (by decide) 60 rfl dX7_order_57 zw582 ?_
      refine zg_iload C 5 62 rfl dX7_order_60 rfl ?_
      refine zg_iconst C (3 : Int32) 63 rfl dX7_order_62 (by decide) ?_
      refine zg_imul C 64 rfl dX7_order_63 ?_
      refine zg_ti C (by decide) 65 rfl dX7_order_64 ?_
      refine zg_gets C 1 (by decide) 68 rfl dX7_order_65 zw582 ?_
      refine zg_iload C 5 70 rfl dX7_order_68 rfl ?_
      refine zg_iconst C (3 : Int32) 71 rfl dX7_order_70 (by decide) ?_
      refine zg_imul C 72 rfl dX7_order_71 ?_
      refine zg_iconst C (1 : Int32) 73 rfl dX7_order_72 (by decide) ?_
      refine zg_iadd C 74 rfl dX7_order_73 ?_
      refine zg_ti C (by decide) 75 rfl dX7_order_74 ?_
      refine zg_callVU C [.int (zst 1 (v5 * (3 : Int32)).toNatClampNeg), .int (zst 1 ((v5 * (3 : Int32)) + (1 : Int32)).toNatClampNeg)] 78 rfl dX7_order_75 (tN_setOrder hD M i6 hi6 (zst 1 (v5 * (3 : Int32)).toNatClampNeg) (zst 1 ((v5 * (3 : Int32)) + (1 : Int32)).toNatClampNeg)) rfl (fun _ _ hP _ => zrecv C.2.2.2.2.2.1 hP (zn2 hi6) rfl rfl) zw307 zw304 zw305 zw306 zw3 oN_setOrder (by decide) (Nat.le_of_ble_eq_true rfl) (fun _u M7 h8 => ?_)
      refine zg_aload_n C 0 79 rfl dX7_order_78 rfl ?_
      refine zg_aload_n C 0 80 rfl dX7_order_79 rfl ?_
      refine fgX7_21 C zn0 83 rfl dX7_order_80 ?_
      refine zg_iload_n C 1 84 rfl dX7_order_83 rfl ?_
      refine zg_callVI C [.ref (zad E 1 2), .int c1] 87 rfl dX7_order_84 (tG_playAsEver hD M7 2 (by decide) c1) rfl (fun _ _ hP _ => zrecv C.2.2.2.2.2.1 hP zn0 rfl rfl) zw528 zw525 zw527 zv13 zw1 oG_playAsEver (by decide) (Nat.le_of_ble_eq_true rfl) (fun x10 M9 h11 => ?_)
      refine zg_istore C 6 [(6, .int x10), (0, .ref (zad E 0 0)), (1, .int c1), (2, .int c2), (3, .int v3), (4, .int v4), (5, .int v5)] 89 rfl dX7_order_87 (by decide) rfl ?_
      refine zg_iload C 0 91 rfl dX7_order_89 rfl ?_
      refine zg_iload_n C 4 92 rfl dX7_order_91 rfl ?_
      refine zg_jn (fun j15 => ∀ (M14 : zM) (x12 : Int32) (x13 : Int32), zG p l e R s m args below meth c E zNC A 7 zvI zoT 102 [(0, .ref (zad E 0 0)), (1, .int c1), (2, .int c2), (3, .int x12), (4, .int x13), (5, .int v5)] [] M14 (j15 M14 x12 x13)) (fun M14 x12 x13 => ?_) (fun j15 hj15 => ?_)
      · refine zg_iinc C 5 (v5 + (1 : Int32)) [(5, .int (v5 + (1 : Int32))), (0, .ref (zad E 0 0)), (1, .int c1), (2, .int c2), (3, .int x12), (4, .int x13)] 105 rfl dX7_order_102 rfl (congrArg (fun z : Int32 => v5 + z) (by decide : Int32.ofInt (1) = (1 : Int32))) (by decide) rfl ?_
        refine zg_goto C 41 dX7_order_105 (by decide) ?_
        refine zg_sub [1, 2, 3, 4, 5, 0] [(0, .ref (zad E 0 0)), (1, .int c1), (2, .int c2), (3, .int x12), (4, .int x13), (5, .int (v5 + (1 : Int32)))] rfl ?_
        exact ih M14 x12 x13 (v5 + (1 : Int32))
      · refine zg_icmp_le C 102 95 rfl dX7_order_92 (by decide) ?_ ?_
        · refine zg_sub [1, 2, 3, 4, 5, 6] [(0, .ref (zad E 0 0)), (1, .int c1), (2, .int c2), (3, .int v3), (4, .int v4), (5, .int v5)] rfl ?_
          exact hj15 M9 v3 v4
        · refine zg_iload C 0 97 rfl dX7_order_95 rfl ?_
          refine zg_istore_n C 3 [(3, .int x10), (6, .int x10), (0, .ref (zad E 0 0)), (1, .int c1), (2, .int c2), (4, .int v4), (5, .int v5)] 98 rfl dX7_order_97 rfl (by decide) rfl ?_
          refine zg_iload C 6 100 rfl dX7_order_98 rfl ?_
          refine zg_istore C 4 [(4, .int v5), (3, .int x10), (6, .int x10), (0, .ref (zad E 0 0)), (1, .int c1), (2, .int c2), (5, .int v5)] 102 rfl dX7_order_100 (by decide) rfl ?_
          refine zg_sub [3, 4, 5, 1, 0, 6] [(0, .ref (zad E 0 0)), (1, .int c1), (2, .int c2), (3, .int x10), (4, .int v5), (5, .int v5)] rfl ?_
          exact hj15 M9 x10 v5
set_option maxHeartbeats 4000000 in
set_option maxRecDepth 100000 in
theorem tG_order {l : Launch} {E : zE} {A : Nat → Prop} (hD : zD E zNC A) (M : zM) (a0 : Int32) (a1 : Int32) : zCT l yX7_order cX7_order 7 (some .int) 7 E zNC A [.ref (zad E 0 0), .int a0, .int a1] M zvI zoT (qG_order  M a0 a1) := by
  refine zCT_of (by decide) hD (by first | decide | exact Nat.le_of_ble_eq_true rfl) (fun p e R s m args below meth c C => ?_)
  have C : zCx p R s m args meth c cX7_order "TwoTrue" E zNC A 7 (some .int) 7 := C
  unfold qG_order
  refine zg_sub [0, 1, 2] [(0, .ref (zad E 0 0)), (1, .int a0), (2, .int a1)] rfl ?_
  refine zg_aload_n C 0 1 rfl dX7_order_0 rfl ?_
  refine fgX7_12 C zn0 4 rfl dX7_order_1 ?_
  refine zg_iload_n C 1 5 rfl dX7_order_4 rfl ?_
  refine zg_callVI C [.int a0] 8 rfl dX7_order_5 (tP_has hD M 0 (by decide) a0) rfl (fun _ _ hP _ => zrecv C.2.2.2.2.2.1 hP (zn1 (by decide : 0 < 3)) rfl rfl) zw292 zw289 zw290 zw291 zw2 oP_has (by decide) (Nat.le_of_ble_eq_true rfl) (fun x2 M1 h3 => ?_)
  refine zg_if_eq C 20 11 rfl dX7_order_8 (by decide) ?_ ?_
  · refine zg_iconst C (-1 : Int32) 21 rfl dX7_order_20 (by decide) ?_
    exact zg_iret C dX7_order_21 trivial
  · refine zg_iload_n C 2 12 rfl dX7_order_11 rfl ?_
    refine zg_if_lt C 20 15 rfl dX7_order_12 (by decide) ?_ ?_
    · refine zg_iconst C (-1 : Int32) 21 rfl dX7_order_20 (by decide) ?_
      exact zg_iret C dX7_order_21 trivial
    · refine zg_iload_n C 2 16 rfl dX7_order_15 rfl ?_
      refine zg_iconst C (3 : Int32) 17 rfl dX7_order_16 (by decide) ?_
      refine zg_icmp_le C 22 20 rfl dX7_order_17 (by decide) ?_ ?_
      · refine zg_aload_n C 0 23 rfl dX7_order_22 rfl ?_
        refine fgX7_21 C zn0 26 rfl dX7_order_23 ?_
        refine zg_aload_n C 0 27 rfl dX7_order_26 rfl ?_
        refine fgX7_12 C zn0 30 rfl dX7_order_27 ?_
        refine zg_callVU C [.ref (zad E 1 0)] 33 rfl dX7_order_30 (tP_become hD M1 2 (by decide) 0 (by decide)) rfl (fun _ _ hP _ => zrecv C.2.2.2.2.2.1 hP (zn1 (by decide : 2 < 3)) rfl rfl) zw573 zw570 zw571 zw572 zw2 oP_become (by decide) (Nat.le_of_ble_eq_true rfl) (fun _u M4 h5 => ?_)
        refine zg_iconst C (-1 : Int32) 34 rfl dX7_order_33 (by decide) ?_
        refine zg_istore_n C 3 [(3, .int (-1 : Int32)), (0, .ref (zad E 0 0)), (1, .int a0), (2, .int a1)] 35 rfl dX7_order_34 rfl (by decide) rfl ?_
        refine zg_iconst C (0 : Int32) 36 rfl dX7_order_35 (by decide) ?_
        refine zg_istore C 4 [(4, .int (0 : Int32)), (3, .int (-1 : Int32)), (0, .ref (zad E 0 0)), (1, .int a0), (2, .int a1)] 38 rfl dX7_order_36 (by decide) rfl ?_
        refine zg_iconst C (0 : Int32) 39 rfl dX7_order_38 (by decide) ?_
        refine zg_istore C 5 [(5, .int (0 : Int32)), (4, .int (0 : Int32)), (3, .int (-1 : Int32)), (0, .ref (zad E 0 0)), (1, .int a0), (2, .int a1)] 41 rfl dX7_order_39 (by decide) rfl ?_
        refine zg_sub [3, 4, 5, 2, 1, 0] [(0, .ref (zad E 0 0)), (1, .int a0), (2, .int a1), (3, .int (-1 : Int32)), (4, .int (0 : Int32)), (5, .int (0 : Int32))] rfl ?_
        refine tG_order_L41 C hD a0 a1 (fun M16 x17 x18 => ?_) 1000 M4 (-1 : Int32) (0 : Int32) (0 : Int32)
        · refine zg_iload_n C 0 109 rfl dX7_order_108 rfl ?_
          refine zg_if_ne C 116 112 rfl dX7_order_109 (by decide) ?_ ?_
          · refine zg_iload_n C 1 113 rfl dX7_order_112 rfl ?_
            refine zg_goto C 128 dX7_order_113 (by decide) ?_
            exact zg_iret C dX7_order_128 trivial
          · refine zg_gets C 1 (by decide) 119 rfl dX7_order_116 zw582 ?_
            refine zg_iload C 2 121 rfl dX7_order_119 rfl ?_
            refine zg_iconst C (3 : Int32) 122 rfl dX7_order_121 (by decide) ?_
            refine zg_imul C 123 rfl dX7_order_122 ?_
            refine zg_iload_n C 0 124 rfl dX7_order_123 rfl ?_
            refine zg_iadd C 125 rfl dX7_order_124 ?_
            refine zg_iconst C (1 : Int32) 126 rfl dX7_order_125 (by decide) ?_
            refine zg_isub C 127 rfl dX7_order_126 ?_
            refine zg_ti C (by decide) 128 rfl dX7_order_127 ?_
            exact zg_iret C dX7_order_128 trivial
      · refine zg_iconst C (-1 : Int32) 21 rfl dX7_order_20 (by decide) ?_
        exact zg_iret C dX7_order_21 trivial
set_option maxHeartbeats 4000000 in
set_option maxRecDepth 100000 in
theorem tG_likely_L52 {p : Program} {l : Launch} {e : Env} {R : Room} {s : State} {m : MethodId} {args : Array Value} {below : List Frame} {meth : Method} {c : Code} {E : zE} {A : Nat → Prop} (C : zCx p R s m args meth c cX7_likely "TwoTrue" E zNC A 8 (some .int) 7) (hD : zD E zNC A) (c1 : Int32) (c2 : Int32) (k3 : Nat) (hk3 : k3 < 18) {e102 : zM → Int32 → Int32 → Option (Int32 × zM)} (he102 : ∀ (M : zM) (u4 : Int32) (u5 : Int32), zG p l e R s m args below meth c E zNC A 8 zvI zoT 102 [(2, .int c2), (4, .int u4), (5, .int u5)] [] M (e102 M u4 u5)) : ∀ (n : Nat) (M : zM) (v4 : Int32) (v5 : Int32) (v6 : Int32), zG p l e R s m args below meth c E zNC A 8 zvI zoT 52 [(0, .ref (zad E 0 0)), (1, .int c1), (2, .int c2), (3, .ref (zad E 2 k3)), (4, .int v4), (5, .int v5), (6, .int v6)] [] M (qG_likely_L52 c1 c2 k3 e102 n M v4 v5 v6) := by
  intro n
  induction n with
  | zero =>
    intro M v4 v5 v6
    exact zg_none
  | succ n ih =>
    intro M v4 v5 v6
    rw [qG_likely_L52]
    refine zg_iload C 6 54 rfl dX7_likely_52 rfl ?_
    refine zg_bipush C (99 : Int32) 56 rfl dX7_likely_54 (by decide) ?_
    refine zg_icmp_gt C 102 59 rfl dX7_likely_56 (by decide) ?_ ?_
    · refine zg_sub [2, 4, 5] [(2, .int c2), (4, .int v4), (5, .int v5)] rfl ?_
      exact he102 M v4 v5
    · refine zg_aload_n C 3 60 rfl dX7_likely_59 rfl ?_
      refine fgX7_92 C (zn2 hk3) 63 rfl dX7_likely_60 ?_
      refine zg_aload_n C 3 64 rfl dX7_likely_63 rfl ?_
      refine fgX7_100 C (zn2 hk3) 67 rfl dX7_likely_64 ?_
      refine zg_iload C 6 69 rfl dX7_likely_67 rfl ?_
      refine zg_iast C 70 rfl dX7_likely_69 (zn3 hk3) (fun _ _ => rfl) (fun M7 => ?_)
      refine zg_aload_n C 0 71 rfl dX7_likely_70 rfl ?_
      refine zg_aload_n C 0 72 rfl dX7_likely_71 rfl ?_
      refine fgX7_21 C zn0 75 rfl dX7_likely_72 ?_
      refine zg_iload_n C 1 76 rfl dX7_likely_75 rfl ?_
      refine zg_callVI C [.ref (zad E 1 2), .int c1] 79 rfl dX7_likely_76 (tG_playAsEver hD M7 2 (by decide) c1) rfl (fun _ _ hP _ => zrecv C.2.2.2.2.2.1 hP zn0 rfl rfl) zw528 zw525 zw527 zv13 zw1 oG_playAsEver (by decide) (Nat.le_of_ble_eq_true rfl) (fun x9 M8 h10 => ?_)
      refine zg_istore C 7 [(7, .int x9), (0, .ref (zad E 0 0)), (1, .int c1), (2, .int c2), (3, .ref (zad E 2 k3)), (4, .int v4), (5, .int v5), (6, .int v6)] 81 rfl dX7_likely_79 (by decide) rfl ?_
      refine zg_iload C 0 83 rfl dX7_likely_81 rfl ?_
      refine zg_iload C 5 85 rfl dX7_likely_83 rfl ?_
      refine zg_jn (fun j14 => ∀ (M13 : zM) (x11 : Int32) (x12 : Int32), zG p l e R s m args below meth c E zNC A 8 zvI zoT 96 [(0, .ref (zad E 0 0)), (1, .int c1), (2, .int c2), (3, .ref (zad E 2 k3)), (4, .int x11), (5, .int x12), (6, .int v6)] [] M13 (j14 M13 x11 x12)) (fun M13 x11 x12 => ?_) (fun j14 hj14 => ?_)
      · refine zg_iinc C 6 (v6 + (9 : Int32)) [(6, .int (v6 + (9 : Int32))), (0, .ref (zad E 0 0)), (1, .int c1), (2, .int c2), (3, .ref (zad E 2 k3)), (4, .int x11), (5, .int x12)] 99 rfl dX7_likely_96 rfl (congrArg (fun z : Int32 => v6 + z) (by decide : Int32.ofInt (9) = (9 : Int32))) (by decide) rfl ?_
        refine zg_goto C 52 dX7_likely_99 (by decide) ?_
        refine zg_sub [1, 2, 3, 4, 5, 6, 0] [(0, .ref (zad E 0 0)), (1, .int c1), (2, .int c2), (3, .ref (zad E 2 k3)), (4, .int x11), (5, .int x12), (6, .int (v6 + (9 : Int32)))] rfl ?_
        exact ih M13 x11 x12 (v6 + (9 : Int32))
      · refine zg_icmp_le C 96 88 rfl dX7_likely_85 (by decide) ?_ ?_
        · refine zg_sub [1, 2, 3, 4, 5, 6, 7] [(0, .ref (zad E 0 0)), (1, .int c1), (2, .int c2), (3, .ref (zad E 2 k3)), (4, .int v4), (5, .int v5), (6, .int v6)] rfl ?_
          exact hj14 M8 v4 v5
        · refine zg_iload C 0 90 rfl dX7_likely_88 rfl ?_
          refine zg_istore C 4 [(4, .int x9), (7, .int x9), (0, .ref (zad E 0 0)), (1, .int c1), (2, .int c2), (3, .ref (zad E 2 k3)), (5, .int v5), (6, .int v6)] 92 rfl dX7_likely_90 (by decide) rfl ?_
          refine zg_iload C 7 94 rfl dX7_likely_92 rfl ?_
          refine zg_istore C 5 [(5, .int v6), (4, .int x9), (7, .int x9), (0, .ref (zad E 0 0)), (1, .int c1), (2, .int c2), (3, .ref (zad E 2 k3)), (6, .int v6)] 96 rfl dX7_likely_94 (by decide) rfl ?_
          refine zg_sub [3, 4, 5, 6, 1, 0, 7] [(0, .ref (zad E 0 0)), (1, .int c1), (2, .int c2), (3, .ref (zad E 2 k3)), (4, .int x9), (5, .int v6), (6, .int v6)] rfl ?_
          exact hj14 M8 x9 v6
set_option maxHeartbeats 4000000 in
set_option maxRecDepth 100000 in
theorem tG_likely {l : Launch} {E : zE} {A : Nat → Prop} (hD : zD E zNC A) (M : zM) (a0 : Int32) (a1 : Int32) : zCT l yX7_likely cX7_likely 8 (some .int) 7 E zNC A [.ref (zad E 0 0), .int a0, .int a1] M zvI zoT (qG_likely  M a0 a1) := by
  refine zCT_of (by decide) hD (by first | decide | exact Nat.le_of_ble_eq_true rfl) (fun p e R s m args below meth c C => ?_)
  have C : zCx p R s m args meth c cX7_likely "TwoTrue" E zNC A 8 (some .int) 7 := C
  unfold qG_likely
  refine zg_sub [0, 1, 2] [(0, .ref (zad E 0 0)), (1, .int a0), (2, .int a1)] rfl ?_
  refine zg_aload_n C 0 1 rfl dX7_likely_0 rfl ?_
  refine fgX7_12 C zn0 4 rfl dX7_likely_1 ?_
  refine zg_iload_n C 1 5 rfl dX7_likely_4 rfl ?_
  refine zg_callVI C [.int a0] 8 rfl dX7_likely_5 (tP_has hD M 0 (by decide) a0) rfl (fun _ _ hP _ => zrecv C.2.2.2.2.2.1 hP (zn1 (by decide : 0 < 3)) rfl rfl) zw292 zw289 zw290 zw291 zw2 oP_has (by decide) (Nat.le_of_ble_eq_true rfl) (fun x2 M1 h3 => ?_)
  refine zg_if_eq C 20 11 rfl dX7_likely_8 (by decide) ?_ ?_
  · refine zg_iconst C (-1 : Int32) 21 rfl dX7_likely_20 (by decide) ?_
    exact zg_iret C dX7_likely_21 trivial
  · refine zg_iload_n C 2 12 rfl dX7_likely_11 rfl ?_
    refine zg_if_lt C 20 15 rfl dX7_likely_12 (by decide) ?_ ?_
    · refine zg_iconst C (-1 : Int32) 21 rfl dX7_likely_20 (by decide) ?_
      exact zg_iret C dX7_likely_21 trivial
    · refine zg_iload_n C 2 16 rfl dX7_likely_15 rfl ?_
      refine zg_iconst C (1 : Int32) 17 rfl dX7_likely_16 (by decide) ?_
      refine zg_icmp_le C 22 20 rfl dX7_likely_17 (by decide) ?_ ?_
      · refine zg_aload_n C 0 23 rfl dX7_likely_22 rfl ?_
        refine fgX7_21 C zn0 26 rfl dX7_likely_23 ?_
        refine zg_aload_n C 0 27 rfl dX7_likely_26 rfl ?_
        refine fgX7_12 C zn0 30 rfl dX7_likely_27 ?_
        refine zg_callVU C [.ref (zad E 1 0)] 33 rfl dX7_likely_30 (tP_become hD M1 2 (by decide) 0 (by decide)) rfl (fun _ _ hP _ => zrecv C.2.2.2.2.2.1 hP (zn1 (by decide : 2 < 3)) rfl rfl) zw573 zw570 zw571 zw572 zw2 oP_become (by decide) (Nat.le_of_ble_eq_true rfl) (fun _u M4 h5 => ?_)
        refine zg_aload_n C 0 34 rfl dX7_likely_33 rfl ?_
        refine fgX7_21 C zn0 37 rfl dX7_likely_34 ?_
        refine fgX7_88 C (zn1 (by decide : 2 < 3)) 40 rfl dX7_likely_37 ?_
        refine zg_iload_n C 1 41 rfl dX7_likely_40 rfl ?_
        refine zg_aald (k2 := 2) (b := 12) (t0 := 3) C 42 rfl dX7_likely_41 (zn7 (by decide : 2 < 3)) rfl rfl (fun i6 hbi6 hei6 => ?_)
        have hi6 : i6 < 18 := by omega
        refine zg_astore_n C 3 [(3, .ref (zad E 2 i6)), (0, .ref (zad E 0 0)), (1, .int a0), (2, .int a1)] 43 rfl dX7_likely_42 rfl (by decide) rfl ?_
        refine zg_iconst C (-1 : Int32) 44 rfl dX7_likely_43 (by decide) ?_
        refine zg_istore C 4 [(4, .int (-1 : Int32)), (3, .ref (zad E 2 i6)), (0, .ref (zad E 0 0)), (1, .int a0), (2, .int a1)] 46 rfl dX7_likely_44 (by decide) rfl ?_
        refine zg_iconst C (0 : Int32) 47 rfl dX7_likely_46 (by decide) ?_
        refine zg_istore C 5 [(5, .int (0 : Int32)), (4, .int (-1 : Int32)), (3, .ref (zad E 2 i6)), (0, .ref (zad E 0 0)), (1, .int a0), (2, .int a1)] 49 rfl dX7_likely_47 (by decide) rfl ?_
        refine zg_iconst C (0 : Int32) 50 rfl dX7_likely_49 (by decide) ?_
        refine zg_istore C 6 [(6, .int (0 : Int32)), (5, .int (0 : Int32)), (4, .int (-1 : Int32)), (3, .ref (zad E 2 i6)), (0, .ref (zad E 0 0)), (1, .int a0), (2, .int a1)] 52 rfl dX7_likely_50 (by decide) rfl ?_
        refine zg_sub [4, 5, 6, 3, 2, 1, 0] [(0, .ref (zad E 0 0)), (1, .int a0), (2, .int a1), (3, .ref (zad E 2 i6)), (4, .int (-1 : Int32)), (5, .int (0 : Int32)), (6, .int (0 : Int32))] rfl ?_
        refine tG_likely_L52 C hD a0 a1 i6 hi6 (fun M15 x16 x17 => ?_) 1000 M4 (-1 : Int32) (0 : Int32) (0 : Int32)
        · refine zg_iload_n C 0 103 rfl dX7_likely_102 rfl ?_
          refine zg_if_ne C 111 106 rfl dX7_likely_103 (by decide) ?_ ?_
          · refine zg_iload C 2 108 rfl dX7_likely_106 rfl ?_
            refine zg_goto C 113 dX7_likely_108 (by decide) ?_
            exact zg_iret C dX7_likely_113 trivial
          · refine zg_iload C 1 113 rfl dX7_likely_111 rfl ?_
            exact zg_iret C dX7_likely_113 trivial
      · refine zg_iconst C (-1 : Int32) 21 rfl dX7_likely_20 (by decide) ?_
        exact zg_iret C dX7_likely_21 trivial
set_option maxHeartbeats 4000000 in
set_option maxRecDepth 100000 in
theorem tG_best_L41 {p : Program} {l : Launch} {e : Env} {R : Room} {s : State} {m : MethodId} {args : Array Value} {below : List Frame} {meth : Method} {c : Code} {E : zE} {A : Nat → Prop} (C : zCx p R s m args meth c cX7_best "TwoTrue" E zNC A 7 (some .int) 7) (hD : zD E zNC A) (c1 : Int32) (c2 : Int32) {e91 : zM → Int32 → Int32 → Option (Int32 × zM)} (he91 : ∀ (M : zM) (u3 : Int32) (u4 : Int32), zG p l e R s m args below meth c E zNC A 7 zvI zoT 91 [(2, .int c2), (3, .int u3), (4, .int u4)] [] M (e91 M u3 u4)) : ∀ (n : Nat) (M : zM) (v3 : Int32) (v4 : Int32) (v5 : Int32), zG p l e R s m args below meth c E zNC A 7 zvI zoT 41 [(0, .ref (zad E 0 0)), (1, .int c1), (2, .int c2), (3, .int v3), (4, .int v4), (5, .int v5)] [] M (qG_best_L41 c1 c2 e91 n M v3 v4 v5) := by
  intro n
  induction n with
  | zero =>
    intro M v3 v4 v5
    exact zg_none
  | succ n ih =>
    intro M v3 v4 v5
    rw [qG_best_L41]
    refine zg_iload C 5 43 rfl dX7_best_41 rfl ?_
    refine zg_iconst C (3 : Int32) 44 rfl dX7_best_43 (by decide) ?_
    refine zg_icmp_ge C 91 47 rfl dX7_best_44 (by decide) ?_ ?_
    · refine zg_sub [2, 3, 4] [(2, .int c2), (3, .int v3), (4, .int v4)] rfl ?_
      exact he91 M v3 v4
    · refine zg_aload_n C 0 48 rfl dX7_best_47 rfl ?_
      refine fgX7_21 C zn0 51 rfl dX7_best_48 ?_
      refine fgX7_88 C (zn1 (by decide : 2 < 3)) 54 rfl dX7_best_51 ?_
      refine zg_iload_n C 1 55 rfl dX7_best_54 rfl ?_
      refine zg_aald (k2 := 2) (b := 12) (t0 := 3) C 56 rfl dX7_best_55 (zn7 (by decide : 2 < 3)) rfl rfl (fun i6 hbi6 hei6 => ?_)
      have hi6 : i6 < 18 := by omega
      refine zg_iload C 5 58 rfl dX7_best_56 rfl ?_
      refine fpX7_100 C (zn2 hi6) 61 rfl dX7_best_58 (fun M7 => ?_)
      refine zg_aload_n C 0 62 rfl dX7_best_61 rfl ?_
      refine zg_aload_n C 0 63 rfl dX7_best_62 rfl ?_
      refine fgX7_21 C zn0 66 rfl dX7_best_63 ?_
      refine zg_iload_n C 1 67 rfl dX7_best_66 rfl ?_
      refine zg_callVI C [.ref (zad E 1 2), .int c1] 70 rfl dX7_best_67 (tG_playAsEver hD M7 2 (by decide) c1) rfl (fun _ _ hP _ => zrecv C.2.2.2.2.2.1 hP zn0 rfl rfl) zw528 zw525 zw527 zv13 zw1 oG_playAsEver (by decide) (Nat.le_of_ble_eq_true rfl) (fun x9 M8 h10 => ?_)
      refine zg_istore C 6 [(6, .int x9), (0, .ref (zad E 0 0)), (1, .int c1), (2, .int c2), (3, .int v3), (4, .int v4), (5, .int v5)] 72 rfl dX7_best_70 (by decide) rfl ?_
      refine zg_iload C 0 74 rfl dX7_best_72 rfl ?_
      refine zg_iload_n C 4 75 rfl dX7_best_74 rfl ?_
      refine zg_jn (fun j14 => ∀ (M13 : zM) (x11 : Int32) (x12 : Int32), zG p l e R s m args below meth c E zNC A 7 zvI zoT 85 [(0, .ref (zad E 0 0)), (1, .int c1), (2, .int c2), (3, .int x11), (4, .int x12), (5, .int v5)] [] M13 (j14 M13 x11 x12)) (fun M13 x11 x12 => ?_) (fun j14 hj14 => ?_)
      · refine zg_iinc C 5 (v5 + (1 : Int32)) [(5, .int (v5 + (1 : Int32))), (0, .ref (zad E 0 0)), (1, .int c1), (2, .int c2), (3, .int x11), (4, .int x12)] 88 rfl dX7_best_85 rfl (congrArg (fun z : Int32 => v5 + z) (by decide : Int32.ofInt (1) = (1 : Int32))) (by decide) rfl ?_
        refine zg_goto C 41 dX7_best_88 (by decide) ?_
        refine zg_sub [1, 2, 3, 4, 5, 0] [(0, .ref (zad E 0 0)), (1, .int c1), (2, .int c2), (3, .int x11), (4, .int x12), (5, .int (v5 + (1 : Int32)))] rfl ?_
        exact ih M13 x11 x12 (v5 + (1 : Int32))
      · refine zg_icmp_le C 85 78 rfl dX7_best_75 (by decide) ?_ ?_
        · refine zg_sub [1, 2, 3, 4, 5, 6] [(0, .ref (zad E 0 0)), (1, .int c1), (2, .int c2), (3, .int v3), (4, .int v4), (5, .int v5)] rfl ?_
          exact hj14 M8 v3 v4
        · refine zg_iload C 0 80 rfl dX7_best_78 rfl ?_
          refine zg_istore_n C 3 [(3, .int x9), (6, .int x9), (0, .ref (zad E 0 0)), (1, .int c1), (2, .int c2), (4, .int v4), (5, .int v5)] 81 rfl dX7_best_80 rfl (by decide) rfl ?_
          refine zg_iload C 6 83 rfl dX7_best_81 rfl ?_
          refine zg_istore C 4 [(4, .int v5), (3, .int x9), (6, .int x9), (0, .ref (zad E 0 0)), (1, .int c1), (2, .int c2), (5, .int v5)] 85 rfl dX7_best_83 (by decide) rfl ?_
          refine zg_sub [3, 4, 5, 1, 0, 6] [(0, .ref (zad E 0 0)), (1, .int c1), (2, .int c2), (3, .int x9), (4, .int v5), (5, .int v5)] rfl ?_
          exact hj14 M8 x9 v5
set_option maxHeartbeats 4000000 in
set_option maxRecDepth 100000 in
theorem tG_best {l : Launch} {E : zE} {A : Nat → Prop} (hD : zD E zNC A) (M : zM) (a0 : Int32) (a1 : Int32) : zCT l yX7_best cX7_best 7 (some .int) 7 E zNC A [.ref (zad E 0 0), .int a0, .int a1] M zvI zoT (qG_best  M a0 a1) := by
  refine zCT_of (by decide) hD (by first | decide | exact Nat.le_of_ble_eq_true rfl) (fun p e R s m args below meth c C => ?_)
  have C : zCx p R s m args meth c cX7_best "TwoTrue" E zNC A 7 (some .int) 7 := C
  unfold qG_best
  refine zg_sub [0, 1, 2] [(0, .ref (zad E 0 0)), (1, .int a0), (2, .int a1)] rfl ?_
  refine zg_aload_n C 0 1 rfl dX7_best_0 rfl ?_
  refine fgX7_12 C zn0 4 rfl dX7_best_1 ?_
  refine zg_iload_n C 1 5 rfl dX7_best_4 rfl ?_
  refine zg_callVI C [.int a0] 8 rfl dX7_best_5 (tP_has hD M 0 (by decide) a0) rfl (fun _ _ hP _ => zrecv C.2.2.2.2.2.1 hP (zn1 (by decide : 0 < 3)) rfl rfl) zw292 zw289 zw290 zw291 zw2 oP_has (by decide) (Nat.le_of_ble_eq_true rfl) (fun x2 M1 h3 => ?_)
  refine zg_if_eq C 20 11 rfl dX7_best_8 (by decide) ?_ ?_
  · refine zg_iconst C (-1 : Int32) 21 rfl dX7_best_20 (by decide) ?_
    exact zg_iret C dX7_best_21 trivial
  · refine zg_iload_n C 2 12 rfl dX7_best_11 rfl ?_
    refine zg_if_lt C 20 15 rfl dX7_best_12 (by decide) ?_ ?_
    · refine zg_iconst C (-1 : Int32) 21 rfl dX7_best_20 (by decide) ?_
      exact zg_iret C dX7_best_21 trivial
    · refine zg_iload_n C 2 16 rfl dX7_best_15 rfl ?_
      refine zg_iconst C (1 : Int32) 17 rfl dX7_best_16 (by decide) ?_
      refine zg_icmp_le C 22 20 rfl dX7_best_17 (by decide) ?_ ?_
      · refine zg_aload_n C 0 23 rfl dX7_best_22 rfl ?_
        refine fgX7_21 C zn0 26 rfl dX7_best_23 ?_
        refine zg_aload_n C 0 27 rfl dX7_best_26 rfl ?_
        refine fgX7_12 C zn0 30 rfl dX7_best_27 ?_
        refine zg_callVU C [.ref (zad E 1 0)] 33 rfl dX7_best_30 (tP_become hD M1 2 (by decide) 0 (by decide)) rfl (fun _ _ hP _ => zrecv C.2.2.2.2.2.1 hP (zn1 (by decide : 2 < 3)) rfl rfl) zw573 zw570 zw571 zw572 zw2 oP_become (by decide) (Nat.le_of_ble_eq_true rfl) (fun _u M4 h5 => ?_)
        refine zg_iconst C (-1 : Int32) 34 rfl dX7_best_33 (by decide) ?_
        refine zg_istore_n C 3 [(3, .int (-1 : Int32)), (0, .ref (zad E 0 0)), (1, .int a0), (2, .int a1)] 35 rfl dX7_best_34 rfl (by decide) rfl ?_
        refine zg_iconst C (0 : Int32) 36 rfl dX7_best_35 (by decide) ?_
        refine zg_istore C 4 [(4, .int (0 : Int32)), (3, .int (-1 : Int32)), (0, .ref (zad E 0 0)), (1, .int a0), (2, .int a1)] 38 rfl dX7_best_36 (by decide) rfl ?_
        refine zg_iconst C (0 : Int32) 39 rfl dX7_best_38 (by decide) ?_
        refine zg_istore C 5 [(5, .int (0 : Int32)), (4, .int (0 : Int32)), (3, .int (-1 : Int32)), (0, .ref (zad E 0 0)), (1, .int a0), (2, .int a1)] 41 rfl dX7_best_39 (by decide) rfl ?_
        refine zg_sub [3, 4, 5, 2, 1, 0] [(0, .ref (zad E 0 0)), (1, .int a0), (2, .int a1), (3, .int (-1 : Int32)), (4, .int (0 : Int32)), (5, .int (0 : Int32))] rfl ?_
        refine tG_best_L41 C hD a0 a1 (fun M15 x16 x17 => ?_) 1000 M4 (-1 : Int32) (0 : Int32) (0 : Int32)
        · refine zg_iload_n C 0 92 rfl dX7_best_91 rfl ?_
          refine zg_if_ne C 100 95 rfl dX7_best_92 (by decide) ?_ ?_
          · refine zg_iload C 2 97 rfl dX7_best_95 rfl ?_
            refine zg_goto C 101 dX7_best_97 (by decide) ?_
            exact zg_iret C dX7_best_101 trivial
          · refine zg_iload_n C 1 101 rfl dX7_best_100 rfl ?_
            exact zg_iret C dX7_best_101 trivial
      · refine zg_iconst C (-1 : Int32) 21 rfl dX7_best_20 (by decide) ?_
        exact zg_iret C dX7_best_21 trivial
set_option maxHeartbeats 4000000 in
set_option maxRecDepth 100000 in
theorem tG_first_L93 {p : Program} {l : Launch} {e : Env} {R : Room} {s : State} {m : MethodId} {args : Array Value} {below : List Frame} {meth : Method} {c : Code} {E : zE} {A : Nat → Prop} (C : zCx p R s m args meth c cX7_first "TwoTrue" E zNC A 6 (some .int) 7) (hD : zD E zNC A) (c1 : Int32) (c2 : Int32) : ∀ (n : Nat) (M : zM) (v4 : Int32) (v5 : Int32), zG p l e R s m args below meth c E zNC A 6 zvI zoT 93 [(0, .ref (zad E 0 0)), (1, .int c1), (2, .int c2), (4, .int v4), (5, .int v5)] [] M (qG_first_L93 c1 c2 n M v4 v5) := by
  intro n
  induction n with
  | zero =>
    intro M v4 v5
    exact zg_none
  | succ n ih =>
    intro M v4 v5
    rw [qG_first_L93]
    refine zg_iload C 4 95 rfl dX7_first_93 rfl ?_
    refine zg_aload_n C 0 96 rfl dX7_first_95 rfl ?_
    refine fgX7_12 C zn0 99 rfl dX7_first_96 ?_
    refine fgX7_73 C (zn1 (by decide : 0 < 3)) 102 rfl dX7_first_99 ?_
    refine zg_icmp_ge C 145 105 rfl dX7_first_102 (by decide) ?_ ?_
    · refine zg_iload C 3 147 rfl dX7_first_145 rfl ?_
      exact zg_iret C dX7_first_147 trivial
    · refine zg_iload C 4 107 rfl dX7_first_105 rfl ?_
      refine zg_iload_n C 2 108 rfl dX7_first_107 rfl ?_
      refine zg_jn (fun j19 => ∀ (M18 : zM) (x17 : Int32), zG p l e R s m args below meth c E zNC A 6 zvI zoT 139 [(0, .ref (zad E 0 0)), (1, .int c1), (2, .int c2), (4, .int x17), (5, .int v5)] [] M18 (j19 M18 x17)) (fun M18 x17 => ?_) (fun j19 hj19 => ?_)
      · refine zg_iinc C 4 (v5 + (1 : Int32)) [(5, .int (v5 + (1 : Int32))), (0, .ref (zad E 0 0)), (1, .int c1), (2, .int c2), (4, .int x17)] 142 rfl dX7_first_139 rfl (congrArg (fun z : Int32 => v5 + z) (by decide : Int32.ofInt (1) = (1 : Int32))) (by decide) rfl ?_
        refine zg_goto C 93 dX7_first_142 (by decide) ?_
        refine zg_sub [1, 2, 3, 4, 0] [(0, .ref (zad E 0 0)), (1, .int c1), (2, .int c2), (4, .int x17), (5, .int (v5 + (1 : Int32)))] rfl ?_
        exact ih M18 x17 (v5 + (1 : Int32))
      · refine zg_icmp_eq C 139 111 rfl dX7_first_108 (by decide) ?_ ?_
        · exact hj19 M v4
        · refine zg_iload C 4 113 rfl dX7_first_111 rfl ?_
          refine zg_iload_n C 1 114 rfl dX7_first_113 rfl ?_
          refine zg_icmp_eq C 139 117 rfl dX7_first_114 (by decide) ?_ ?_
          · exact hj19 M v4
          · refine zg_aload_n C 0 118 rfl dX7_first_117 rfl ?_
            refine fgX7_45 C zn0 121 rfl dX7_first_118 ?_
            refine zg_iload C 4 123 rfl dX7_first_121 rfl ?_
            refine zg_callVI C [.int v5] 126 rfl dX7_first_123 (tY_letGuess hD M v5) rfl (fun _ _ hP _ => zrecv C.2.2.2.2.2.1 hP zn16 rfl rfl) zw557 zw554 zw555 zw556 zw6 oY_letGuess (by decide) (Nat.le_of_ble_eq_true rfl) (fun x21 M20 h22 => ?_)
            refine zg_aload_n C 0 127 rfl dX7_first_126 rfl ?_
            refine fgX7_49 C zn0 130 rfl dX7_first_127 ?_
            refine zg_iload C 4 132 rfl dX7_first_130 rfl ?_
            refine zg_iald C 133 rfl dX7_first_132 zn22 rfl ?_
            refine zg_icmp_eq C 139 136 rfl dX7_first_133 (by decide) ?_ ?_
            · exact hj19 M20 v4
            · refine zg_iinc C 3 (v4 + (1 : Int32)) [(4, .int (v4 + (1 : Int32))), (0, .ref (zad E 0 0)), (1, .int c1), (2, .int c2), (5, .int v5)] 139 rfl dX7_first_136 rfl (congrArg (fun z : Int32 => v4 + z) (by decide : Int32.ofInt (1) = (1 : Int32))) (by decide) rfl ?_
              refine zg_sub [1, 2, 3, 0, 4] [(0, .ref (zad E 0 0)), (1, .int c1), (2, .int c2), (4, .int (v4 + (1 : Int32))), (5, .int v5)] rfl ?_
              exact hj19 M20 (v4 + (1 : Int32))
set_option maxHeartbeats 4000000 in
set_option maxRecDepth 100000 in
theorem tG_first {l : Launch} {E : zE} {A : Nat → Prop} (hD : zD E zNC A) (M : zM) (a0 : Int32) (a1 : Int32) (a2 : Int32) : zCT l yX7_first cX7_first 6 (some .int) 7 E zNC A [.ref (zad E 0 0), .int a0, .int a1, .int a2] M zvI zoT (qG_first  M a0 a1 a2) := by
  refine zCT_of (by decide) hD (by first | decide | exact Nat.le_of_ble_eq_true rfl) (fun p e R s m args below meth c C => ?_)
  have C : zCx p R s m args meth c cX7_first "TwoTrue" E zNC A 6 (some .int) 7 := C
  unfold qG_first
  refine zg_sub [0, 1, 2, 3] [(0, .ref (zad E 0 0)), (1, .int a0), (2, .int a1), (3, .int a2)] rfl ?_
  refine zg_aload_n C 0 1 rfl dX7_first_0 rfl ?_
  refine fgX7_12 C zn0 4 rfl dX7_first_1 ?_
  refine zg_iload_n C 1 5 rfl dX7_first_4 rfl ?_
  refine zg_callVI C [.int a0] 8 rfl dX7_first_5 (tP_has hD M 0 (by decide) a0) rfl (fun _ _ hP _ => zrecv C.2.2.2.2.2.1 hP (zn1 (by decide : 0 < 3)) rfl rfl) zw292 zw289 zw290 zw291 zw2 oP_has (by decide) (Nat.le_of_ble_eq_true rfl) (fun x2 M1 h3 => ?_)
  refine zg_if_eq C 29 11 rfl dX7_first_8 (by decide) ?_ ?_
  · refine zg_iconst C (-1 : Int32) 30 rfl dX7_first_29 (by decide) ?_
    exact zg_iret C dX7_first_30 trivial
  · refine zg_aload_n C 0 12 rfl dX7_first_11 rfl ?_
    refine fgX7_12 C zn0 15 rfl dX7_first_12 ?_
    refine zg_iload_n C 2 16 rfl dX7_first_15 rfl ?_
    refine zg_callVI C [.int a1] 19 rfl dX7_first_16 (tP_has hD M1 0 (by decide) a1) rfl (fun _ _ hP _ => zrecv C.2.2.2.2.2.1 hP (zn1 (by decide : 0 < 3)) rfl rfl) zw292 zw289 zw290 zw291 zw2 oP_has (by decide) (Nat.le_of_ble_eq_true rfl) (fun x5 M4 h6 => ?_)
    refine zg_if_eq C 29 22 rfl dX7_first_19 (by decide) ?_ ?_
    · refine zg_iconst C (-1 : Int32) 30 rfl dX7_first_29 (by decide) ?_
      exact zg_iret C dX7_first_30 trivial
    · refine zg_iload_n C 3 23 rfl dX7_first_22 rfl ?_
      refine zg_callSI C [.int a2] 26 rfl dX7_first_23 (tG_isOfThree hD M4 a2) rfl  zw295 zw293 zw294 zw1 oG_isOfThree (by decide) (Nat.le_of_ble_eq_true rfl) (fun x8 M7 h9 => ?_)
      refine zg_if_ne C 31 29 rfl dX7_first_26 (by decide) ?_ ?_
      · refine zg_iconst C (-1 : Int32) 30 rfl dX7_first_29 (by decide) ?_
        exact zg_iret C dX7_first_30 trivial
      · refine zg_iload_n C 1 32 rfl dX7_first_31 rfl ?_
        refine zg_iload_n C 2 33 rfl dX7_first_32 rfl ?_
        refine zg_icmp_ne C 39 36 rfl dX7_first_33 (by decide) ?_ ?_
        · refine zg_bipush C (-2 : Int32) 38 rfl dX7_first_36 (by decide) ?_
          exact zg_iret C dX7_first_38 trivial
        · refine zg_aload_n C 0 40 rfl dX7_first_39 rfl ?_
          refine zg_aload_n C 0 41 rfl dX7_first_40 rfl ?_
          refine fgX7_12 C zn0 44 rfl dX7_first_41 ?_
          refine zg_iload_n C 2 45 rfl dX7_first_44 rfl ?_
          refine zg_callVI C [.ref (zad E 1 0), .int a1] 48 rfl dX7_first_45 (tG_playAsEver hD M7 0 (by decide) a1) rfl (fun _ _ hP _ => zrecv C.2.2.2.2.2.1 hP zn0 rfl rfl) zw528 zw525 zw527 zv13 zw1 oG_playAsEver (by decide) (Nat.le_of_ble_eq_true rfl) (fun x11 M10 h12 => ?_)
          refine zg_pop C rfl 49 rfl dX7_first_48 ?_
          refine zg_aload_n C 0 50 rfl dX7_first_49 rfl ?_
          refine fgX7_45 C zn0 53 rfl dX7_first_50 ?_
          refine fgX7_154 C zn16 56 rfl dX7_first_53 ?_
          refine zg_iconst C (0 : Int32) 57 rfl dX7_first_56 (by decide) ?_
          refine zg_aload_n C 0 58 rfl dX7_first_57 rfl ?_
          refine fgX7_49 C zn0 61 rfl dX7_first_58 ?_
          refine zg_iconst C (0 : Int32) 62 rfl dX7_first_61 (by decide) ?_
          refine zg_bipush C (6 : Int32) 64 rfl dX7_first_62 (by decide) ?_
          refine zg_copyi C 67 rfl dX7_first_64 zn21 zn22 (fun _ _ => rfl) (fun _ _ => rfl) zw596 zw576 zw575 zw16 (by decide) (Nat.le_of_ble_eq_true rfl) (fun M13 => ?_)
          refine zg_aload_n C 0 68 rfl dX7_first_67 rfl ?_
          refine fgX7_45 C zn0 71 rfl dX7_first_68 ?_
          refine zg_callVU C [] 74 rfl dX7_first_71 (tY_lowerHands hD M13 ) rfl (fun _ _ hP _ => zrecv C.2.2.2.2.2.1 hP zn16 rfl rfl) zw553 zw597 zw551 zw552 zw6 oY_lowerHands (by decide) (Nat.le_of_ble_eq_true rfl) (fun _u M14 h15 => ?_)
          refine zg_aload_n C 0 75 rfl dX7_first_74 rfl ?_
          refine fgX7_45 C zn0 78 rfl dX7_first_75 ?_
          refine fgX7_157 C zn16 81 rfl dX7_first_78 ?_
          refine zg_iload_n C 3 82 rfl dX7_first_81 rfl ?_
          refine zg_dup2 C rfl rfl 83 rfl dX7_first_82 ?_
          refine zg_iald C 84 rfl dX7_first_83 zn20 rfl ?_
          refine zg_iconst C (1 : Int32) 85 rfl dX7_first_84 (by decide) ?_
          refine zg_iadd C 86 rfl dX7_first_85 ?_
          refine zg_iast C 87 rfl dX7_first_86 zn20 (fun _ _ => rfl) (fun M16 => ?_)
          refine zg_iconst C (0 : Int32) 88 rfl dX7_first_87 (by decide) ?_
          refine zg_istore C 4 [(4, .int (0 : Int32)), (0, .ref (zad E 0 0)), (1, .int a0), (2, .int a1), (3, .int a2)] 90 rfl dX7_first_88 (by decide) rfl ?_
          refine zg_iconst C (0 : Int32) 91 rfl dX7_first_90 (by decide) ?_
          refine zg_istore C 5 [(5, .int (0 : Int32)), (4, .int (0 : Int32)), (0, .ref (zad E 0 0)), (1, .int a0), (2, .int a1), (3, .int a2)] 93 rfl dX7_first_91 (by decide) rfl ?_
          refine zg_sub [2, 3, 4, 1, 0] [(0, .ref (zad E 0 0)), (1, .int a0), (2, .int a1), (4, .int (0 : Int32)), (5, .int (0 : Int32))] rfl ?_
          refine tG_first_L93 C hD a0 a1  1000 M16 (0 : Int32) (0 : Int32)
set_option maxHeartbeats 4000000 in
set_option maxRecDepth 100000 in
theorem tG_line {l : Launch} {E : zE} {A : Nat → Prop} (hD : zD E zNC A) (M : zM) (a0 : Int32) (a1 : Int32) : zCT l yX7_line cX7_line 4 (some .int) 7 E zNC A [.ref (zad E 0 0), .int a0, .int a1] M zvI zoT (qG_line  M a0 a1) := by
  refine zCT_of (by decide) hD (by first | decide | exact Nat.le_of_ble_eq_true rfl) (fun p e R s m args below meth c C => ?_)
  have C : zCx p R s m args meth c cX7_line "TwoTrue" E zNC A 4 (some .int) 7 := C
  unfold qG_line
  refine zg_sub [0, 1, 2] [(0, .ref (zad E 0 0)), (1, .int a0), (2, .int a1)] rfl ?_
  refine zg_aload_n C 0 1 rfl dX7_line_0 rfl ?_
  refine fgX7_12 C zn0 4 rfl dX7_line_1 ?_
  refine zg_iload_n C 1 5 rfl dX7_line_4 rfl ?_
  refine zg_callVI C [.int a0] 8 rfl dX7_line_5 (tP_has hD M 0 (by decide) a0) rfl (fun _ _ hP _ => zrecv C.2.2.2.2.2.1 hP (zn1 (by decide : 0 < 3)) rfl rfl) zw292 zw289 zw290 zw291 zw2 oP_has (by decide) (Nat.le_of_ble_eq_true rfl) (fun x2 M1 h3 => ?_)
  refine zg_if_eq C 21 11 rfl dX7_line_8 (by decide) ?_ ?_
  · refine zg_iconst C (-1 : Int32) 22 rfl dX7_line_21 (by decide) ?_
    exact zg_iret C dX7_line_22 trivial
  · refine zg_iload_n C 2 12 rfl dX7_line_11 rfl ?_
    refine zg_iconst C (-1 : Int32) 13 rfl dX7_line_12 (by decide) ?_
    refine zg_icmp_lt C 21 16 rfl dX7_line_13 (by decide) ?_ ?_
    · refine zg_iconst C (-1 : Int32) 22 rfl dX7_line_21 (by decide) ?_
      exact zg_iret C dX7_line_22 trivial
    · refine zg_iload_n C 2 17 rfl dX7_line_16 rfl ?_
      refine zg_iconst C (4 : Int32) 18 rfl dX7_line_17 (by decide) ?_
      refine zg_icmp_lt C 23 21 rfl dX7_line_18 (by decide) ?_ ?_
      · refine zg_aload_n C 0 24 rfl dX7_line_23 rfl ?_
        refine fgX7_12 C zn0 27 rfl dX7_line_24 ?_
        refine fgX7_73 C (zn1 (by decide : 0 < 3)) 30 rfl dX7_line_27 ?_
        refine zg_iconst C (5 : Int32) 31 rfl dX7_line_30 (by decide) ?_
        refine zg_icmp_le C 37 34 rfl dX7_line_31 (by decide) ?_ ?_
        · refine zg_iload_n C 2 38 rfl dX7_line_37 rfl ?_
          refine zg_aload_n C 0 39 rfl dX7_line_38 rfl ?_
          refine fgX7_12 C zn0 42 rfl dX7_line_39 ?_
          refine fgX7_73 C (zn1 (by decide : 0 < 3)) 45 rfl dX7_line_42 ?_
          refine zg_iconst C (1 : Int32) 46 rfl dX7_line_45 (by decide) ?_
          refine zg_isub C 47 rfl dX7_line_46 ?_
          refine zg_icmp_lt C 53 50 rfl dX7_line_47 (by decide) ?_ ?_
          · refine zg_aload_n C 0 54 rfl dX7_line_53 rfl ?_
            refine zg_iload_n C 1 55 rfl dX7_line_54 rfl ?_
            refine zg_callVI C [.int a0] 58 rfl dX7_line_55 (tG_seekLine hD M1 a0) rfl (fun _ _ hP _ => zrecv C.2.2.2.2.2.1 hP zn0 rfl rfl) zw605 zw602 zw604 zv15 zw1 oG_seekLine (by decide) (Nat.le_of_ble_eq_true rfl) (fun x5 M4 h6 => ?_)
            refine zg_istore_n C 3 [(3, .int x5), (0, .ref (zad E 0 0)), (1, .int a0), (2, .int a1)] 59 rfl dX7_line_58 rfl (by decide) rfl ?_
            refine zg_iload_n C 3 60 rfl dX7_line_59 rfl ?_
            refine zg_if_ge C 67 63 rfl dX7_line_60 (by decide) ?_ ?_
            · refine zg_aload_n C 1 68 rfl dX7_line_67 rfl ?_
              refine fgX7_56 C zn0 71 rfl dX7_line_68 ?_
              refine zg_iload_n C 3 72 rfl dX7_line_71 rfl ?_
              refine zg_iald C 73 rfl dX7_line_72 zn24 rfl ?_
              exact zg_iret C dX7_line_73 trivial
            · refine zg_iload_n C 0 64 rfl dX7_line_63 rfl ?_
              refine zg_goto C 73 dX7_line_64 (by decide) ?_
              exact zg_iret C dX7_line_73 trivial
          · refine zg_bipush C (-5 : Int32) 52 rfl dX7_line_50 (by decide) ?_
            exact zg_iret C dX7_line_52 trivial
        · refine zg_bipush C (-9 : Int32) 36 rfl dX7_line_34 (by decide) ?_
          exact zg_iret C dX7_line_36 trivial
      · refine zg_iconst C (-1 : Int32) 22 rfl dX7_line_21 (by decide) ?_
        exact zg_iret C dX7_line_22 trivial
set_option maxHeartbeats 4000000 in
set_option maxRecDepth 100000 in
theorem tG_worth_L45 {p : Program} {l : Launch} {e : Env} {R : Room} {s : State} {m : MethodId} {args : Array Value} {below : List Frame} {meth : Method} {c : Code} {E : zE} {A : Nat → Prop} (C : zCx p R s m args meth c cX7_worth "TwoTrue" E zNC A 5 (some .int) 7) (hD : zD E zNC A) (c1 : Int32) (k2 : Nat) (hk2 : k2 < 18) : ∀ (n : Nat) (M : zM) (v3 : Int32) (v4 : Int32), zG p l e R s m args below meth c E zNC A 5 zvI zoT 45 [(0, .ref (zad E 0 0)), (1, .int c1), (2, .ref (zad E 2 k2)), (3, .int v3), (4, .int v4)] [] M (qG_worth_L45 c1 k2 n M v3 v4) := by
  intro n
  induction n with
  | zero =>
    intro M v3 v4
    exact zg_none
  | succ n ih =>
    intro M v3 v4
    rw [qG_worth_L45]
    refine zg_iload C 4 47 rfl dX7_worth_45 rfl ?_
    refine zg_aload_n C 0 48 rfl dX7_worth_47 rfl ?_
    refine fgX7_12 C zn0 51 rfl dX7_worth_48 ?_
    refine fgX7_73 C (zn1 (by decide : 0 < 3)) 54 rfl dX7_worth_51 ?_
    refine zg_icmp_ge C 133 57 rfl dX7_worth_54 (by decide) ?_ ?_
    · refine zg_iload_n C 3 134 rfl dX7_worth_133 rfl ?_
      exact zg_iret C dX7_worth_134 trivial
    · refine zg_iload C 4 59 rfl dX7_worth_57 rfl ?_
      refine zg_iload_n C 1 60 rfl dX7_worth_59 rfl ?_
      refine zg_jn (fun j10 => ∀ (M9 : zM) (x8 : Int32), zG p l e R s m args below meth c E zNC A 5 zvI zoT 127 [(0, .ref (zad E 0 0)), (1, .int c1), (2, .ref (zad E 2 k2)), (3, .int x8), (4, .int v4)] [] M9 (j10 M9 x8)) (fun M9 x8 => ?_) (fun j10 hj10 => ?_)
      · refine zg_iinc C 4 (v4 + (1 : Int32)) [(4, .int (v4 + (1 : Int32))), (0, .ref (zad E 0 0)), (1, .int c1), (2, .ref (zad E 2 k2)), (3, .int x8)] 130 rfl dX7_worth_127 rfl (congrArg (fun z : Int32 => v4 + z) (by decide : Int32.ofInt (1) = (1 : Int32))) (by decide) rfl ?_
        refine zg_goto C 45 dX7_worth_130 (by decide) ?_
        refine zg_sub [1, 2, 3, 4, 0] [(0, .ref (zad E 0 0)), (1, .int c1), (2, .ref (zad E 2 k2)), (3, .int x8), (4, .int (v4 + (1 : Int32)))] rfl ?_
        exact ih M9 x8 (v4 + (1 : Int32))
      · refine zg_icmp_ne C 66 63 rfl dX7_worth_60 (by decide) ?_ ?_
        · refine zg_goto C 127 dX7_worth_63 (by decide) ?_
          exact hj10 M v3
        · refine zg_aload_n C 0 67 rfl dX7_worth_66 rfl ?_
          refine zg_aload_n C 0 68 rfl dX7_worth_67 rfl ?_
          refine fgX7_12 C zn0 71 rfl dX7_worth_68 ?_
          refine zg_iload C 4 73 rfl dX7_worth_71 rfl ?_
          refine zg_callVI C [.ref (zad E 1 0), .int v4] 76 rfl dX7_worth_73 (tG_playAsEver hD M 0 (by decide) v4) rfl (fun _ _ hP _ => zrecv C.2.2.2.2.2.1 hP zn0 rfl rfl) zw528 zw525 zw527 zv13 zw1 oG_playAsEver (by decide) (Nat.le_of_ble_eq_true rfl) (fun x12 M11 h13 => ?_)
          refine zg_pop C rfl 77 rfl dX7_worth_76 ?_
          refine zg_aload_n C 0 78 rfl dX7_worth_77 rfl ?_
          refine fgX7_45 C zn0 81 rfl dX7_worth_78 ?_
          refine fgX7_154 C zn16 84 rfl dX7_worth_81 ?_
          refine zg_iload_n C 1 85 rfl dX7_worth_84 rfl ?_
          refine zg_iald C 86 rfl dX7_worth_85 zn21 rfl ?_
          refine zg_aload_n C 0 87 rfl dX7_worth_86 rfl ?_
          refine fgX7_45 C zn0 90 rfl dX7_worth_87 ?_
          refine fgX7_186 C zn16 93 rfl dX7_worth_90 ?_
          refine zg_jn (fun j16 => ∀ (M15 : zM) (x14 : Int32), zG p l e R s m args below meth c E zNC A 5 zvI zoT 99 [(0, .ref (zad E 0 0)), (1, .int c1), (2, .ref (zad E 2 k2)), (3, .int x14), (4, .int v4)] [] M15 (j16 M15 x14)) (fun M15 x14 => ?_) (fun j16 hj16 => ?_)
          · refine zg_aload_n C 0 100 rfl dX7_worth_99 rfl ?_
            refine zg_aload_n C 2 101 rfl dX7_worth_100 rfl ?_
            refine zg_aload_n C 0 102 rfl dX7_worth_101 rfl ?_
            refine fgX7_12 C zn0 105 rfl dX7_worth_102 ?_
            refine fgX7_88 C (zn1 (by decide : 0 < 3)) 108 rfl dX7_worth_105 ?_
            refine zg_iload C 4 110 rfl dX7_worth_108 rfl ?_
            refine zg_aald (k2 := 2) (b := 0) (t0 := 3) C 111 rfl dX7_worth_110 (zn7 (by decide : 0 < 3)) rfl rfl (fun i17 hbi17 hei17 => ?_)
            have hi17 : i17 < 18 := by omega
            refine zg_callVI C [.ref (zad E 2 k2), .ref (zad E 2 i17)] 114 rfl dX7_worth_111 (tG_guessOfGuest hD M15 k2 hk2 i17 hi17) rfl (fun _ _ hP _ => zrecv C.2.2.2.2.2.1 hP zn0 rfl rfl) zw620 zw617 zw619 zv16 zw1 oG_guessOfGuest (by decide) (Nat.le_of_ble_eq_true rfl) (fun x19 M18 h20 => ?_)
            refine zg_aload_n C 0 115 rfl dX7_worth_114 rfl ?_
            refine fgX7_45 C zn0 118 rfl dX7_worth_115 ?_
            refine fgX7_186 C zn16 121 rfl dX7_worth_118 ?_
            refine zg_icmp_ne C 127 124 rfl dX7_worth_121 (by decide) ?_ ?_
            · refine zg_iinc C 3 (x14 + (-1 : Int32)) [(3, .int (x14 + (-1 : Int32))), (0, .ref (zad E 0 0)), (1, .int c1), (2, .ref (zad E 2 k2)), (4, .int v4)] 127 rfl dX7_worth_124 rfl (congrArg (fun z : Int32 => x14 + z) (by decide : Int32.ofInt (-1) = (-1 : Int32))) (by decide) rfl ?_
              refine zg_sub [1, 2, 3, 0, 4] [(0, .ref (zad E 0 0)), (1, .int c1), (2, .ref (zad E 2 k2)), (3, .int (x14 + (-1 : Int32))), (4, .int v4)] rfl ?_
              exact hj10 M18 (x14 + (-1 : Int32))
            · exact hj10 M18 x14
          · refine zg_icmp_ne C 99 96 rfl dX7_worth_93 (by decide) ?_ ?_
            · refine zg_iinc C 3 (v3 + (1 : Int32)) [(3, .int (v3 + (1 : Int32))), (0, .ref (zad E 0 0)), (1, .int c1), (2, .ref (zad E 2 k2)), (4, .int v4)] 99 rfl dX7_worth_96 rfl (congrArg (fun z : Int32 => v3 + z) (by decide : Int32.ofInt (1) = (1 : Int32))) (by decide) rfl ?_
              refine zg_sub [1, 2, 3, 0, 4] [(0, .ref (zad E 0 0)), (1, .int c1), (2, .ref (zad E 2 k2)), (3, .int (v3 + (1 : Int32))), (4, .int v4)] rfl ?_
              exact hj16 M11 (v3 + (1 : Int32))
            · exact hj16 M11 v3
set_option maxHeartbeats 4000000 in
set_option maxRecDepth 100000 in
theorem tG_worth {l : Launch} {E : zE} {A : Nat → Prop} (hD : zD E zNC A) (M : zM) (a0 : Int32) : zCT l yX7_worth cX7_worth 5 (some .int) 7 E zNC A [.ref (zad E 0 0), .int a0] M zvI zoT (qG_worth  M a0) := by
  refine zCT_of (by decide) hD (by first | decide | exact Nat.le_of_ble_eq_true rfl) (fun p e R s m args below meth c C => ?_)
  have C : zCx p R s m args meth c cX7_worth "TwoTrue" E zNC A 5 (some .int) 7 := C
  unfold qG_worth
  refine zg_sub [0, 1] [(0, .ref (zad E 0 0)), (1, .int a0)] rfl ?_
  refine zg_aload_n C 0 1 rfl dX7_worth_0 rfl ?_
  refine fgX7_12 C zn0 4 rfl dX7_worth_1 ?_
  refine zg_iload_n C 1 5 rfl dX7_worth_4 rfl ?_
  refine zg_callVI C [.int a0] 8 rfl dX7_worth_5 (tP_has hD M 0 (by decide) a0) rfl (fun _ _ hP _ => zrecv C.2.2.2.2.2.1 hP (zn1 (by decide : 0 < 3)) rfl rfl) zw292 zw289 zw290 zw291 zw2 oP_has (by decide) (Nat.le_of_ble_eq_true rfl) (fun x2 M1 h3 => ?_)
  refine zg_if_ne C 15 11 rfl dX7_worth_8 (by decide) ?_ ?_
  · refine zg_sipush C (-1001 : Int32) 14 rfl dX7_worth_11 (by decide) ?_
    exact zg_iret C dX7_worth_14 trivial
  · refine zg_aload_n C 0 16 rfl dX7_worth_15 rfl ?_
    refine fgX7_12 C zn0 19 rfl dX7_worth_16 ?_
    refine fgX7_88 C (zn1 (by decide : 0 < 3)) 22 rfl dX7_worth_19 ?_
    refine zg_iload_n C 1 23 rfl dX7_worth_22 rfl ?_
    refine zg_aald (k2 := 2) (b := 0) (t0 := 3) C 24 rfl dX7_worth_23 (zn7 (by decide : 0 < 3)) rfl rfl (fun i4 hbi4 hei4 => ?_)
    have hi4 : i4 < 18 := by omega
    refine zg_astore_n C 2 [(2, .ref (zad E 2 i4)), (0, .ref (zad E 0 0)), (1, .int a0)] 25 rfl dX7_worth_24 rfl (by decide) rfl ?_
    refine zg_aload_n C 0 26 rfl dX7_worth_25 rfl ?_
    refine fgX7_111 C (zn2 hi4) 29 rfl dX7_worth_26 ?_
    refine zg_iconst C (3 : Int32) 30 rfl dX7_worth_29 (by decide) ?_
    refine zg_callSI C [.int (M1.1 2 i4 1), .int (3 : Int32)] 33 rfl dX7_worth_30 (tG_isOfKind hD M1 (M1.1 2 i4 1) (3 : Int32)) rfl  zw539 zw616 zw538 zw1 oG_isOfKind (by decide) (Nat.le_of_ble_eq_true rfl) (fun x6 M5 h7 => ?_)
    refine zg_if_ne C 40 36 rfl dX7_worth_33 (by decide) ?_ ?_
    · refine zg_sipush C (-1003 : Int32) 39 rfl dX7_worth_36 (by decide) ?_
      exact zg_iret C dX7_worth_39 trivial
    · refine zg_iconst C (0 : Int32) 41 rfl dX7_worth_40 (by decide) ?_
      refine zg_istore_n C 3 [(3, .int (0 : Int32)), (2, .ref (zad E 2 i4)), (0, .ref (zad E 0 0)), (1, .int a0)] 42 rfl dX7_worth_41 rfl (by decide) rfl ?_
      refine zg_iconst C (0 : Int32) 43 rfl dX7_worth_42 (by decide) ?_
      refine zg_istore C 4 [(4, .int (0 : Int32)), (3, .int (0 : Int32)), (2, .ref (zad E 2 i4)), (0, .ref (zad E 0 0)), (1, .int a0)] 45 rfl dX7_worth_43 (by decide) rfl ?_
      refine zg_sub [3, 4, 2, 1, 0] [(0, .ref (zad E 0 0)), (1, .int a0), (2, .ref (zad E 2 i4)), (3, .int (0 : Int32)), (4, .int (0 : Int32))] rfl ?_
      refine tG_worth_L45 C hD a0 i4 hi4  1000 M5 (0 : Int32) (0 : Int32)
set_option maxHeartbeats 4000000 in
set_option maxRecDepth 100000 in
theorem tG_lies_L28 {p : Program} {l : Launch} {e : Env} {R : Room} {s : State} {m : MethodId} {args : Array Value} {below : List Frame} {meth : Method} {c : Code} {E : zE} {A : Nat → Prop} (C : zCx p R s m args meth c cX7_lies "TwoTrue" E zNC A 4 (some .int) 7) (hD : zD E zNC A) (c1 : Int32) : ∀ (n : Nat) (M : zM) (v2 : Int32) (v3 : Int32), zG p l e R s m args below meth c E zNC A 4 zvI zoT 28 [(0, .ref (zad E 0 0)), (1, .int c1), (2, .int v2), (3, .int v3)] [] M (qG_lies_L28 c1 n M v2 v3) := by
  intro n
  induction n with
  | zero =>
    intro M v2 v3
    exact zg_none
  | succ n ih =>
    intro M v2 v3
    rw [qG_lies_L28]
    refine zg_iload_n C 3 29 rfl dX7_lies_28 rfl ?_
    refine zg_iconst C (3 : Int32) 30 rfl dX7_lies_29 (by decide) ?_
    refine zg_icmp_ge C 85 33 rfl dX7_lies_30 (by decide) ?_ ?_
    · refine zg_iload_n C 2 86 rfl dX7_lies_85 rfl ?_
      exact zg_iret C dX7_lies_86 trivial
    · refine zg_aload_n C 0 34 rfl dX7_lies_33 rfl ?_
      refine fgX7_21 C zn0 37 rfl dX7_lies_34 ?_
      refine fgX7_88 C (zn1 (by decide : 2 < 3)) 40 rfl dX7_lies_37 ?_
      refine zg_iload_n C 1 41 rfl dX7_lies_40 rfl ?_
      refine zg_aald (k2 := 2) (b := 12) (t0 := 3) C 42 rfl dX7_lies_41 (zn7 (by decide : 2 < 3)) rfl rfl (fun i6 hbi6 hei6 => ?_)
      have hi6 : i6 < 18 := by omega
      refine zg_iload_n C 3 43 rfl dX7_lies_42 rfl ?_
      refine fpX7_100 C (zn2 hi6) 46 rfl dX7_lies_43 (fun M7 => ?_)
      refine zg_aload_n C 0 47 rfl dX7_lies_46 rfl ?_
      refine zg_aload_n C 0 48 rfl dX7_lies_47 rfl ?_
      refine fgX7_21 C zn0 51 rfl dX7_lies_48 ?_
      refine zg_iload_n C 1 52 rfl dX7_lies_51 rfl ?_
      refine zg_callVI C [.ref (zad E 1 2), .int c1] 55 rfl dX7_lies_52 (tG_playAsEver hD M7 2 (by decide) c1) rfl (fun _ _ hP _ => zrecv C.2.2.2.2.2.1 hP zn0 rfl rfl) zw528 zw525 zw527 zv13 zw1 oG_playAsEver (by decide) (Nat.le_of_ble_eq_true rfl) (fun x9 M8 h10 => ?_)
      refine zg_pop C rfl 56 rfl dX7_lies_55 ?_
      refine zg_aload_n C 0 57 rfl dX7_lies_56 rfl ?_
      refine fgX7_45 C zn0 60 rfl dX7_lies_57 ?_
      refine zg_aload_n C 0 61 rfl dX7_lies_60 rfl ?_
      refine fgX7_12 C zn0 64 rfl dX7_lies_61 ?_
      refine fgX7_193 C (zn1 (by decide : 0 < 3)) 67 rfl dX7_lies_64 ?_
      refine zg_callVI C [.ref (zad E 8 0)] 70 rfl dX7_lies_67 (tY_isRaised hD M8 ) rfl (fun _ _ hP _ => zrecv C.2.2.2.2.2.1 hP zn16 rfl rfl) zw632 zw629 zw630 zw631 zw6 oY_isRaised (by decide) (Nat.le_of_ble_eq_true rfl) (fun x12 M11 h13 => ?_)
      refine zg_jn (fun j16 => ∀ (M15 : zM) (x14 : Int32), zG p l e R s m args below meth c E zNC A 4 zvI zoT 79 [(0, .ref (zad E 0 0)), (1, .int c1), (2, .int x14), (3, .int v3)] [] M15 (j16 M15 x14)) (fun M15 x14 => ?_) (fun j16 hj16 => ?_)
      · refine zg_iinc C 3 (v3 + (1 : Int32)) [(3, .int (v3 + (1 : Int32))), (0, .ref (zad E 0 0)), (1, .int c1), (2, .int x14)] 82 rfl dX7_lies_79 rfl (congrArg (fun z : Int32 => v3 + z) (by decide : Int32.ofInt (1) = (1 : Int32))) (by decide) rfl ?_
        refine zg_goto C 28 dX7_lies_82 (by decide) ?_
        refine zg_sub [1, 2, 3, 0] [(0, .ref (zad E 0 0)), (1, .int c1), (2, .int x14), (3, .int (v3 + (1 : Int32)))] rfl ?_
        exact ih M15 x14 (v3 + (1 : Int32))
      · refine zg_if_eq C 79 73 rfl dX7_lies_70 (by decide) ?_ ?_
        · exact hj16 M11 v2
        · refine zg_iload_n C 2 74 rfl dX7_lies_73 rfl ?_
          refine zg_iconst C (1 : Int32) 75 rfl dX7_lies_74 (by decide) ?_
          refine zg_iload_n C 3 76 rfl dX7_lies_75 rfl ?_
          refine zg_ishl C 77 rfl dX7_lies_76 ?_
          refine zg_ior C 78 rfl dX7_lies_77 ?_
          refine zg_nmI (fun x17 => ?_)
          refine zg_istore_n C 2 [(2, .int x17), (0, .ref (zad E 0 0)), (1, .int c1), (3, .int v3)] 79 rfl dX7_lies_78 rfl (by decide) rfl ?_
          refine zg_sub [1, 2, 0, 3] [(0, .ref (zad E 0 0)), (1, .int c1), (2, .int x17), (3, .int v3)] rfl ?_
          exact hj16 M11 x17
set_option maxHeartbeats 4000000 in
set_option maxRecDepth 100000 in
theorem tG_lies {l : Launch} {E : zE} {A : Nat → Prop} (hD : zD E zNC A) (M : zM) (a0 : Int32) : zCT l yX7_lies cX7_lies 4 (some .int) 7 E zNC A [.ref (zad E 0 0), .int a0] M zvI zoT (qG_lies  M a0) := by
  refine zCT_of (by decide) hD (by first | decide | exact Nat.le_of_ble_eq_true rfl) (fun p e R s m args below meth c C => ?_)
  have C : zCx p R s m args meth c cX7_lies "TwoTrue" E zNC A 4 (some .int) 7 := C
  unfold qG_lies
  refine zg_sub [0, 1] [(0, .ref (zad E 0 0)), (1, .int a0)] rfl ?_
  refine zg_aload_n C 0 1 rfl dX7_lies_0 rfl ?_
  refine fgX7_12 C zn0 4 rfl dX7_lies_1 ?_
  refine zg_iload_n C 1 5 rfl dX7_lies_4 rfl ?_
  refine zg_callVI C [.int a0] 8 rfl dX7_lies_5 (tP_has hD M 0 (by decide) a0) rfl (fun _ _ hP _ => zrecv C.2.2.2.2.2.1 hP (zn1 (by decide : 0 < 3)) rfl rfl) zw292 zw289 zw290 zw291 zw2 oP_has (by decide) (Nat.le_of_ble_eq_true rfl) (fun x2 M1 h3 => ?_)
  refine zg_if_ne C 13 11 rfl dX7_lies_8 (by decide) ?_ ?_
  · refine zg_iconst C (-1 : Int32) 12 rfl dX7_lies_11 (by decide) ?_
    exact zg_iret C dX7_lies_12 trivial
  · refine zg_aload_n C 0 14 rfl dX7_lies_13 rfl ?_
    refine fgX7_21 C zn0 17 rfl dX7_lies_14 ?_
    refine zg_aload_n C 0 18 rfl dX7_lies_17 rfl ?_
    refine fgX7_12 C zn0 21 rfl dX7_lies_18 ?_
    refine zg_callVU C [.ref (zad E 1 0)] 24 rfl dX7_lies_21 (tP_become hD M1 2 (by decide) 0 (by decide)) rfl (fun _ _ hP _ => zrecv C.2.2.2.2.2.1 hP (zn1 (by decide : 2 < 3)) rfl rfl) zw573 zw570 zw571 zw572 zw2 oP_become (by decide) (Nat.le_of_ble_eq_true rfl) (fun _u M4 h5 => ?_)
    refine zg_iconst C (0 : Int32) 25 rfl dX7_lies_24 (by decide) ?_
    refine zg_istore_n C 2 [(2, .int (0 : Int32)), (0, .ref (zad E 0 0)), (1, .int a0)] 26 rfl dX7_lies_25 rfl (by decide) rfl ?_
    refine zg_iconst C (0 : Int32) 27 rfl dX7_lies_26 (by decide) ?_
    refine zg_istore_n C 3 [(3, .int (0 : Int32)), (2, .int (0 : Int32)), (0, .ref (zad E 0 0)), (1, .int a0)] 28 rfl dX7_lies_27 rfl (by decide) rfl ?_
    refine zg_sub [2, 3, 1, 0] [(0, .ref (zad E 0 0)), (1, .int a0), (2, .int (0 : Int32)), (3, .int (0 : Int32))] rfl ?_
    refine tG_lies_L28 C hD a0  1000 M4 (0 : Int32) (0 : Int32)
set_option maxHeartbeats 4000000 in
set_option maxRecDepth 100000 in
theorem tG_odds_L29 {p : Program} {l : Launch} {e : Env} {R : Room} {s : State} {m : MethodId} {args : Array Value} {below : List Frame} {meth : Method} {c : Code} {E : zE} {A : Nat → Prop} (C : zCx p R s m args meth c cX7_odds "TwoTrue" E zNC A 6 (some .long) 7) (hD : zD E zNC A) (c1 : Int32) (c2 : Int32) {e100 : zM → Int32 → Option (Int64 × zM)} (he100 : ∀ (M : zM) (u3 : Int32), zG p l e R s m args below meth c E zNC A 6 zvL zoT 100 [(2, .int c2), (3, .int u3)] [] M (e100 M u3)) : ∀ (n : Nat) (M : zM) (v3 : Int32) (v4 : Int32), zG p l e R s m args below meth c E zNC A 6 zvL zoT 29 [(0, .ref (zad E 0 0)), (1, .int c1), (2, .int c2), (3, .int v3), (4, .int v4)] [] M (qG_odds_L29 c1 c2 e100 n M v3 v4) := by
  intro n
  induction n with
  | zero =>
    intro M v3 v4
    exact zg_none
  | succ n ih =>
    intro M v3 v4
    rw [qG_odds_L29]
    refine zg_iload C 4 31 rfl dX7_odds_29 rfl ?_
    refine zg_iconst C (3 : Int32) 32 rfl dX7_odds_31 (by decide) ?_
    refine zg_icmp_ge C 100 35 rfl dX7_odds_32 (by decide) ?_ ?_
    · refine zg_sub [2, 3] [(2, .int c2), (3, .int v3)] rfl ?_
      exact he100 M v3
    · refine zg_aload_n C 0 36 rfl dX7_odds_35 rfl ?_
      refine fgX7_21 C zn0 39 rfl dX7_odds_36 ?_
      refine zg_aload_n C 0 40 rfl dX7_odds_39 rfl ?_
      refine fgX7_12 C zn0 43 rfl dX7_odds_40 ?_
      refine zg_callVU C [.ref (zad E 1 0)] 46 rfl dX7_odds_43 (tP_become hD M 2 (by decide) 0 (by decide)) rfl (fun _ _ hP _ => zrecv C.2.2.2.2.2.1 hP (zn1 (by decide : 2 < 3)) rfl rfl) zw573 zw570 zw571 zw572 zw2 oP_become (by decide) (Nat.le_of_ble_eq_true rfl) (fun _u M4 h5 => ?_)
      refine zg_aload_n C 0 47 rfl dX7_odds_46 rfl ?_
      refine fgX7_21 C zn0 50 rfl dX7_odds_47 ?_
      refine fgX7_88 C (zn1 (by decide : 2 < 3)) 53 rfl dX7_odds_50 ?_
      refine zg_iload_n C 1 54 rfl dX7_odds_53 rfl ?_
      refine zg_aald (k2 := 2) (b := 12) (t0 := 3) C 55 rfl dX7_odds_54 (zn7 (by decide : 2 < 3)) rfl rfl (fun i6 hbi6 hei6 => ?_)
      have hi6 : i6 < 18 := by omega
      refine fgX7_92 C (zn2 hi6) 58 rfl dX7_odds_55 ?_
      refine zg_iload C 4 60 rfl dX7_odds_58 rfl ?_
      refine zg_bipush C (50 : Int32) 62 rfl dX7_odds_60 (by decide) ?_
      refine zg_iast C 63 rfl dX7_odds_62 (zn3 hi6) (fun _ _ => rfl) (fun M7 => ?_)
      refine zg_aload_n C 0 64 rfl dX7_odds_63 rfl ?_
      refine zg_aload_n C 0 65 rfl dX7_odds_64 rfl ?_
      refine fgX7_21 C zn0 68 rfl dX7_odds_65 ?_
      refine zg_iload_n C 1 69 rfl dX7_odds_68 rfl ?_
      refine zg_callVI C [.ref (zad E 1 2), .int c1] 72 rfl dX7_odds_69 (tG_playAsEver hD M7 2 (by decide) c1) rfl (fun _ _ hP _ => zrecv C.2.2.2.2.2.1 hP zn0 rfl rfl) zw528 zw525 zw527 zv13 zw1 oG_playAsEver (by decide) (Nat.le_of_ble_eq_true rfl) (fun x9 M8 h10 => ?_)
      refine zg_istore C 5 [(5, .int x9), (0, .ref (zad E 0 0)), (1, .int c1), (2, .int c2), (3, .int v3), (4, .int v4)] 74 rfl dX7_odds_72 (by decide) rfl ?_
      refine zg_iload C 0 76 rfl dX7_odds_74 rfl ?_
      refine zg_aload_n C 1 77 rfl dX7_odds_76 rfl ?_
      refine fgX7_12 C zn0 80 rfl dX7_odds_77 ?_
      refine fgX7_73 C (zn1 (by decide : 0 < 3)) 83 rfl dX7_odds_80 ?_
      refine zg_iconst C (1 : Int32) 84 rfl dX7_odds_83 (by decide) ?_
      refine zg_isub C 85 rfl dX7_odds_84 ?_
      refine zg_iload C 0 87 rfl dX7_odds_85 rfl ?_
      refine zg_isub C 88 rfl dX7_odds_87 ?_
      refine zg_jn (fun j13 => ∀ (M12 : zM) (x11 : Int32), zG p l e R s m args below meth c E zNC A 6 zvL zoT 94 [(0, .ref (zad E 0 0)), (1, .int c1), (2, .int c2), (3, .int x11), (4, .int v4)] [] M12 (j13 M12 x11)) (fun M12 x11 => ?_) (fun j13 hj13 => ?_)
      · refine zg_iinc C 4 (v4 + (1 : Int32)) [(4, .int (v4 + (1 : Int32))), (0, .ref (zad E 0 0)), (1, .int c1), (2, .int c2), (3, .int x11)] 97 rfl dX7_odds_94 rfl (congrArg (fun z : Int32 => v4 + z) (by decide : Int32.ofInt (1) = (1 : Int32))) (by decide) rfl ?_
        refine zg_goto C 29 dX7_odds_97 (by decide) ?_
        refine zg_sub [1, 2, 3, 4, 0] [(0, .ref (zad E 0 0)), (1, .int c1), (2, .int c2), (3, .int x11), (4, .int (v4 + (1 : Int32)))] rfl ?_
        exact ih M12 x11 (v4 + (1 : Int32))
      · refine zg_icmp_le C 94 91 rfl dX7_odds_88 (by decide) ?_ ?_
        · refine zg_sub [1, 2, 3, 4, 5] [(0, .ref (zad E 0 0)), (1, .int c1), (2, .int c2), (3, .int v3), (4, .int v4)] rfl ?_
          exact hj13 M8 v3
        · refine zg_iinc C 4 (v3 + (1 : Int32)) [(3, .int (v3 + (1 : Int32))), (5, .int x9), (0, .ref (zad E 0 0)), (1, .int c1), (2, .int c2), (4, .int v4)] 94 rfl dX7_odds_91 rfl (congrArg (fun z : Int32 => v3 + z) (by decide : Int32.ofInt (1) = (1 : Int32))) (by decide) rfl ?_
          refine zg_sub [2, 3, 4, 0, 5] [(0, .ref (zad E 0 0)), (1, .int c1), (2, .int c2), (3, .int (v3 + (1 : Int32))), (4, .int v4)] rfl ?_
          exact hj13 M8 (v3 + (1 : Int32))
set_option maxHeartbeats 4000000 in
set_option maxRecDepth 100000 in
theorem tG_odds {l : Launch} {E : zE} {A : Nat → Prop} (hD : zD E zNC A) (M : zM) (a0 : Int32) (a1 : Int32) : zCT l yX7_odds cX7_odds 6 (some .long) 7 E zNC A [.ref (zad E 0 0), .int a0, .int a1] M zvL zoT (qG_odds  M a0 a1) := by
  refine zCT_of (by decide) hD (by first | decide | exact Nat.le_of_ble_eq_true rfl) (fun p e R s m args below meth c C => ?_)
  have C : zCx p R s m args meth c cX7_odds "TwoTrue" E zNC A 6 (some .long) 7 := C
  unfold qG_odds
  refine zg_sub [0, 1, 2] [(0, .ref (zad E 0 0)), (1, .int a0), (2, .int a1)] rfl ?_
  refine zg_aload_n C 0 1 rfl dX7_odds_0 rfl ?_
  refine fgX7_12 C zn0 4 rfl dX7_odds_1 ?_
  refine zg_iload_n C 1 5 rfl dX7_odds_4 rfl ?_
  refine zg_callVI C [.int a0] 8 rfl dX7_odds_5 (tP_has hD M 0 (by decide) a0) rfl (fun _ _ hP _ => zrecv C.2.2.2.2.2.1 hP (zn1 (by decide : 0 < 3)) rfl rfl) zw292 zw289 zw290 zw291 zw2 oP_has (by decide) (Nat.le_of_ble_eq_true rfl) (fun x2 M1 h3 => ?_)
  refine zg_if_eq C 20 11 rfl dX7_odds_8 (by decide) ?_ ?_
  · refine zg_ldc2 C (-9223372036854775808 : Int64) 23 rfl dX7_odds_20 zw645 ?_
    exact zg_lret C dX7_odds_23 trivial
  · refine zg_iload_n C 2 12 rfl dX7_odds_11 rfl ?_
    refine zg_if_lt C 20 15 rfl dX7_odds_12 (by decide) ?_ ?_
    · refine zg_ldc2 C (-9223372036854775808 : Int64) 23 rfl dX7_odds_20 zw645 ?_
      exact zg_lret C dX7_odds_23 trivial
    · refine zg_iload_n C 2 16 rfl dX7_odds_15 rfl ?_
      refine zg_iconst C (1 : Int32) 17 rfl dX7_odds_16 (by decide) ?_
      refine zg_icmp_le C 24 20 rfl dX7_odds_17 (by decide) ?_ ?_
      · refine zg_iconst C (0 : Int32) 25 rfl dX7_odds_24 (by decide) ?_
        refine zg_istore_n C 3 [(3, .int (0 : Int32)), (0, .ref (zad E 0 0)), (1, .int a0), (2, .int a1)] 26 rfl dX7_odds_25 rfl (by decide) rfl ?_
        refine zg_iconst C (0 : Int32) 27 rfl dX7_odds_26 (by decide) ?_
        refine zg_istore C 4 [(4, .int (0 : Int32)), (3, .int (0 : Int32)), (0, .ref (zad E 0 0)), (1, .int a0), (2, .int a1)] 29 rfl dX7_odds_27 (by decide) rfl ?_
        refine zg_sub [2, 3, 4, 1, 0] [(0, .ref (zad E 0 0)), (1, .int a0), (2, .int a1), (3, .int (0 : Int32)), (4, .int (0 : Int32))] rfl ?_
        refine tG_odds_L29 C hD a0 a1 (fun M14 x15 => ?_) 1000 M1 (0 : Int32) (0 : Int32)
        · refine zg_iload_n C 1 101 rfl dX7_odds_100 rfl ?_
          refine zg_iconst C (3 : Int32) 102 rfl dX7_odds_101 (by decide) ?_
          refine zg_iload_n C 0 103 rfl dX7_odds_102 rfl ?_
          refine zg_callSL C [.int x15, .int (3 : Int32), .int a1] 106 rfl dX7_odds_103 (tG_partOfFraction hD M14 x15 (3 : Int32) a1) rfl  zw648 zw646 zw647 zw1 oG_partOfFraction (by decide) (Nat.le_of_ble_eq_true rfl) (fun x17 M16 h18 => ?_)
          exact zg_lret C dX7_odds_106 trivial
      · refine zg_ldc2 C (-9223372036854775808 : Int64) 23 rfl dX7_odds_20 zw645 ?_
        exact zg_lret C dX7_odds_23 trivial
set_option maxHeartbeats 4000000 in
set_option maxRecDepth 100000 in
theorem tG_mean_L27 {p : Program} {l : Launch} {e : Env} {R : Room} {s : State} {m : MethodId} {args : Array Value} {below : List Frame} {meth : Method} {c : Code} {E : zE} {A : Nat → Prop} (C : zCx p R s m args meth c cX7_mean "TwoTrue" E zNC A 4 (some .long) 7) (hD : zD E zNC A) (c1 : Int32) {e56 : zM → Int32 → Option (Int64 × zM)} (he56 : ∀ (M : zM) (u2 : Int32), zG p l e R s m args below meth c E zNC A 4 zvL zoT 56 [(0, .ref (zad E 0 0)), (1, .int c1), (2, .int u2)] [] M (e56 M u2)) : ∀ (n : Nat) (M : zM) (v2 : Int32) (v3 : Int32), zG p l e R s m args below meth c E zNC A 4 zvL zoT 27 [(0, .ref (zad E 0 0)), (1, .int c1), (2, .int v2), (3, .int v3)] [] M (qG_mean_L27 c1 e56 n M v2 v3) := by
  intro n
  induction n with
  | zero =>
    intro M v2 v3
    exact zg_none
  | succ n ih =>
    intro M v2 v3
    rw [qG_mean_L27]
    refine zg_iload_n C 3 28 rfl dX7_mean_27 rfl ?_
    refine zg_aload_n C 0 29 rfl dX7_mean_28 rfl ?_
    refine fgX7_12 C zn0 32 rfl dX7_mean_29 ?_
    refine fgX7_73 C (zn1 (by decide : 0 < 3)) 35 rfl dX7_mean_32 ?_
    refine zg_icmp_ge C 56 38 rfl dX7_mean_35 (by decide) ?_ ?_
    · refine zg_sub [0, 1, 2] [(0, .ref (zad E 0 0)), (1, .int c1), (2, .int v2)] rfl ?_
      exact he56 M v2
    · refine zg_iload_n C 2 39 rfl dX7_mean_38 rfl ?_
      refine zg_aload_n C 0 40 rfl dX7_mean_39 rfl ?_
      refine zg_aload_n C 0 41 rfl dX7_mean_40 rfl ?_
      refine fgX7_12 C zn0 44 rfl dX7_mean_41 ?_
      refine zg_iload_n C 3 45 rfl dX7_mean_44 rfl ?_
      refine zg_callVI C [.ref (zad E 1 0), .int v3] 48 rfl dX7_mean_45 (tG_playAsEver hD M 0 (by decide) v3) rfl (fun _ _ hP _ => zrecv C.2.2.2.2.2.1 hP zn0 rfl rfl) zw528 zw525 zw527 zv13 zw1 oG_playAsEver (by decide) (Nat.le_of_ble_eq_true rfl) (fun x2 M1 h3 => ?_)
      refine zg_iadd C 49 rfl dX7_mean_48 ?_
      refine zg_nmI (fun x4 => ?_)
      refine zg_istore_n C 2 [(2, .int x4), (0, .ref (zad E 0 0)), (1, .int c1), (3, .int v3)] 50 rfl dX7_mean_49 rfl (by decide) rfl ?_
      refine zg_iinc C 3 (v3 + (1 : Int32)) [(3, .int (v3 + (1 : Int32))), (2, .int x4), (0, .ref (zad E 0 0)), (1, .int c1)] 53 rfl dX7_mean_50 rfl (congrArg (fun z : Int32 => v3 + z) (by decide : Int32.ofInt (1) = (1 : Int32))) (by decide) rfl ?_
      refine zg_goto C 27 dX7_mean_53 (by decide) ?_
      refine zg_sub [2, 3, 1, 0] [(0, .ref (zad E 0 0)), (1, .int c1), (2, .int x4), (3, .int (v3 + (1 : Int32)))] rfl ?_
      exact ih M1 x4 (v3 + (1 : Int32))
set_option maxHeartbeats 4000000 in
set_option maxRecDepth 100000 in
theorem tG_mean {l : Launch} {E : zE} {A : Nat → Prop} (hD : zD E zNC A) (M : zM) (a0 : Int32) : zCT l yX7_mean cX7_mean 4 (some .long) 7 E zNC A [.ref (zad E 0 0), .int a0] M zvL zoT (qG_mean  M a0) := by
  refine zCT_of (by decide) hD (by first | decide | exact Nat.le_of_ble_eq_true rfl) (fun p e R s m args below meth c C => ?_)
  have C : zCx p R s m args meth c cX7_mean "TwoTrue" E zNC A 4 (some .long) 7 := C
  unfold qG_mean
  refine zg_sub [0, 1] [(0, .ref (zad E 0 0)), (1, .int a0)] rfl ?_
  refine zg_aload_n C 0 1 rfl dX7_mean_0 rfl ?_
  refine fgX7_12 C zn0 4 rfl dX7_mean_1 ?_
  refine fgX7_73 C (zn1 (by decide : 0 < 3)) 7 rfl dX7_mean_4 ?_
  refine zg_if_eq C 19 10 rfl dX7_mean_7 (by decide) ?_ ?_
  · refine zg_ldc2 C (-9223372036854775808 : Int64) 22 rfl dX7_mean_19 zw645 ?_
    exact zg_lret C dX7_mean_22 trivial
  · refine zg_iload_n C 1 11 rfl dX7_mean_10 rfl ?_
    refine zg_if_lt C 19 14 rfl dX7_mean_11 (by decide) ?_ ?_
    · refine zg_ldc2 C (-9223372036854775808 : Int64) 22 rfl dX7_mean_19 zw645 ?_
      exact zg_lret C dX7_mean_22 trivial
    · refine zg_iload_n C 1 15 rfl dX7_mean_14 rfl ?_
      refine zg_iconst C (1 : Int32) 16 rfl dX7_mean_15 (by decide) ?_
      refine zg_icmp_le C 23 19 rfl dX7_mean_16 (by decide) ?_ ?_
      · refine zg_iconst C (0 : Int32) 24 rfl dX7_mean_23 (by decide) ?_
        refine zg_istore_n C 2 [(2, .int (0 : Int32)), (0, .ref (zad E 0 0)), (1, .int a0)] 25 rfl dX7_mean_24 rfl (by decide) rfl ?_
        refine zg_iconst C (0 : Int32) 26 rfl dX7_mean_25 (by decide) ?_
        refine zg_istore_n C 3 [(3, .int (0 : Int32)), (2, .int (0 : Int32)), (0, .ref (zad E 0 0)), (1, .int a0)] 27 rfl dX7_mean_26 rfl (by decide) rfl ?_
        refine zg_sub [2, 3, 1, 0] [(0, .ref (zad E 0 0)), (1, .int a0), (2, .int (0 : Int32)), (3, .int (0 : Int32))] rfl ?_
        refine tG_mean_L27 C hD a0 (fun M5 x6 => ?_) 1000 M (0 : Int32) (0 : Int32)
        · refine zg_iload_n C 2 57 rfl dX7_mean_56 rfl ?_
          refine zg_aload_n C 0 58 rfl dX7_mean_57 rfl ?_
          refine fgX7_12 C zn0 61 rfl dX7_mean_58 ?_
          refine fgX7_73 C (zn1 (by decide : 0 < 3)) 64 rfl dX7_mean_61 ?_
          refine zg_iload_n C 1 65 rfl dX7_mean_64 rfl ?_
          refine zg_callSL C [.int x6, .int (M5.1 1 0 1), .int a0] 68 rfl dX7_mean_65 (tG_partOfFraction hD M5 x6 (M5.1 1 0 1) a0) rfl  zw648 zw646 zw647 zw1 oG_partOfFraction (by decide) (Nat.le_of_ble_eq_true rfl) (fun x8 M7 h9 => ?_)
          exact zg_lret C dX7_mean_68 trivial
      · refine zg_ldc2 C (-9223372036854775808 : Int64) 22 rfl dX7_mean_19 zw645 ?_
        exact zg_lret C dX7_mean_22 trivial
set_option maxHeartbeats 4000000 in
set_option maxRecDepth 100000 in
theorem tG_looked_L2 {p : Program} {l : Launch} {e : Env} {R : Room} {s : State} {m : MethodId} {args : Array Value} {below : List Frame} {meth : Method} {c : Code} {E : zE} {A : Nat → Prop} (C : zCx p R s m args meth c cX7_looked "TwoTrue" E zNC A 2 (some .int) 7) (hD : zD E zNC A) : ∀ (n : Nat) (M : zM) (v1 : Int32), zG p l e R s m args below meth c E zNC A 2 zvI zoT 2 [(0, .ref (zad E 0 0)), (1, .int v1)] [] M (qG_looked_L2 n M v1) := by
  intro n
  induction n with
  | zero =>
    intro M v1
    exact zg_none
  | succ n ih =>
    intro M v1
    rw [qG_looked_L2]
    refine zg_iload_n C 1 3 rfl dX7_looked_2 rfl ?_
    refine zg_aload_n C 0 4 rfl dX7_looked_3 rfl ?_
    refine fgX7_12 C zn0 7 rfl dX7_looked_4 ?_
    refine fgX7_213 C (zn1 (by decide : 0 < 3)) 10 rfl dX7_looked_7 ?_
    refine zg_icmp_ge C 78 13 rfl dX7_looked_10 (by decide) ?_ ?_
    · refine zg_bipush C (-5 : Int32) 80 rfl dX7_looked_78 (by decide) ?_
      exact zg_iret C dX7_looked_80 trivial
    · refine zg_aload_n C 0 14 rfl dX7_looked_13 rfl ?_
      refine zg_aload_n C 0 15 rfl dX7_looked_14 rfl ?_
      refine fgX7_12 C zn0 18 rfl dX7_looked_15 ?_
      refine zg_aload_n C 0 19 rfl dX7_looked_18 rfl ?_
      refine fgX7_12 C zn0 22 rfl dX7_looked_19 ?_
      refine fgX7_220 C (zn1 (by decide : 0 < 3)) 25 rfl dX7_looked_22 ?_
      refine zg_iload_n C 1 26 rfl dX7_looked_25 rfl ?_
      refine zg_iconst C (3 : Int32) 27 rfl dX7_looked_26 (by decide) ?_
      refine zg_imul C 28 rfl dX7_looked_27 ?_
      refine zg_iald C 29 rfl dX7_looked_28 (zn9 (by decide : 0 < 3)) rfl ?_
      refine zg_callVI C [.ref (zad E 1 0), .int (M.1 9 0 (v1 * (3 : Int32)).toNatClampNeg)] 32 rfl dX7_looked_29 (tG_playAsEver hD M 0 (by decide) (M.1 9 0 (v1 * (3 : Int32)).toNatClampNeg)) rfl (fun _ _ hP _ => zrecv C.2.2.2.2.2.1 hP zn0 rfl rfl) zw528 zw525 zw527 zv13 zw1 oG_playAsEver (by decide) (Nat.le_of_ble_eq_true rfl) (fun x2 M1 h3 => ?_)
      refine zg_pop C rfl 33 rfl dX7_looked_32 ?_
      refine zg_aload_n C 0 34 rfl dX7_looked_33 rfl ?_
      refine fgX7_45 C zn0 37 rfl dX7_looked_34 ?_
      refine fgX7_154 C zn16 40 rfl dX7_looked_37 ?_
      refine zg_aload_n C 0 41 rfl dX7_looked_40 rfl ?_
      refine fgX7_12 C zn0 44 rfl dX7_looked_41 ?_
      refine fgX7_220 C (zn1 (by decide : 0 < 3)) 47 rfl dX7_looked_44 ?_
      refine zg_iload_n C 1 48 rfl dX7_looked_47 rfl ?_
      refine zg_iconst C (3 : Int32) 49 rfl dX7_looked_48 (by decide) ?_
      refine zg_imul C 50 rfl dX7_looked_49 ?_
      refine zg_iconst C (1 : Int32) 51 rfl dX7_looked_50 (by decide) ?_
      refine zg_iadd C 52 rfl dX7_looked_51 ?_
      refine zg_iald C 53 rfl dX7_looked_52 (zn9 (by decide : 0 < 3)) rfl ?_
      refine zg_iald C 54 rfl dX7_looked_53 zn21 rfl ?_
      refine zg_aload_n C 0 55 rfl dX7_looked_54 rfl ?_
      refine fgX7_12 C zn0 58 rfl dX7_looked_55 ?_
      refine fgX7_220 C (zn1 (by decide : 0 < 3)) 61 rfl dX7_looked_58 ?_
      refine zg_iload_n C 1 62 rfl dX7_looked_61 rfl ?_
      refine zg_iconst C (3 : Int32) 63 rfl dX7_looked_62 (by decide) ?_
      refine zg_imul C 64 rfl dX7_looked_63 ?_
      refine zg_iconst C (2 : Int32) 65 rfl dX7_looked_64 (by decide) ?_
      refine zg_iadd C 66 rfl dX7_looked_65 ?_
      refine zg_iald C 67 rfl dX7_looked_66 (zn9 (by decide : 0 < 3)) rfl ?_
      refine zg_icmp_eq C 72 70 rfl dX7_looked_67 (by decide) ?_ ?_
      · refine zg_iinc C 1 (v1 + (1 : Int32)) [(1, .int (v1 + (1 : Int32))), (0, .ref (zad E 0 0))] 75 rfl dX7_looked_72 rfl (congrArg (fun z : Int32 => v1 + z) (by decide : Int32.ofInt (1) = (1 : Int32))) (by decide) rfl ?_
        refine zg_goto C 2 dX7_looked_75 (by decide) ?_
        refine zg_sub [1, 0] [(0, .ref (zad E 0 0)), (1, .int (v1 + (1 : Int32)))] rfl ?_
        exact ih M1 (v1 + (1 : Int32))
      · refine zg_iload_n C 1 71 rfl dX7_looked_70 rfl ?_
        exact zg_iret C dX7_looked_71 trivial
set_option maxHeartbeats 4000000 in
set_option maxRecDepth 100000 in
theorem tG_looked {l : Launch} {E : zE} {A : Nat → Prop} (hD : zD E zNC A) (M : zM) : zCT l yX7_looked cX7_looked 2 (some .int) 7 E zNC A [.ref (zad E 0 0)] M zvI zoT (qG_looked  M ) := by
  refine zCT_of (by decide) hD (by first | decide | exact Nat.le_of_ble_eq_true rfl) (fun p e R s m args below meth c C => ?_)
  have C : zCx p R s m args meth c cX7_looked "TwoTrue" E zNC A 2 (some .int) 7 := C
  unfold qG_looked
  refine zg_sub [0] [(0, .ref (zad E 0 0))] rfl ?_
  refine zg_iconst C (0 : Int32) 1 rfl dX7_looked_0 (by decide) ?_
  refine zg_istore_n C 1 [(1, .int (0 : Int32)), (0, .ref (zad E 0 0))] 2 rfl dX7_looked_1 rfl (by decide) rfl ?_
  refine zg_sub [1, 0] [(0, .ref (zad E 0 0)), (1, .int (0 : Int32))] rfl ?_
  refine tG_looked_L2 C hD   1000 M (0 : Int32)
set_option maxHeartbeats 4000000 in
set_option maxRecDepth 100000 in
theorem tG_round {l : Launch} {E : zE} {A : Nat → Prop} (hD : zD E zNC A) (M : zM) (a0 : Int32) : zCT l yX7_round cX7_round 2 (some .int) 8 E zNC A [.ref (zad E 0 0), .int a0] M zvI zoT (qG_round  M a0) := by
  refine zCT_of (by decide) hD (by first | decide | exact Nat.le_of_ble_eq_true rfl) (fun p e R s m args below meth c C => ?_)
  have C : zCx p R s m args meth c cX7_round "TwoTrue" E zNC A 2 (some .int) 8 := C
  unfold qG_round
  refine zg_sub [0, 1] [(0, .ref (zad E 0 0)), (1, .int a0)] rfl ?_
  refine zg_aload_n C 0 1 rfl dX7_round_0 rfl ?_
  refine fgX7_12 C zn0 4 rfl dX7_round_1 ?_
  refine zg_iload_n C 1 5 rfl dX7_round_4 rfl ?_
  refine zg_callVI C [.int a0] 8 rfl dX7_round_5 (tP_has hD M 0 (by decide) a0) rfl (fun _ _ hP _ => zrecv C.2.2.2.2.2.1 hP (zn1 (by decide : 0 < 3)) rfl rfl) zw292 zw289 zw290 zw291 zw2 oP_has (by decide) (Nat.le_of_ble_eq_true rfl) (fun x2 M1 h3 => ?_)
  refine zg_if_ne C 13 11 rfl dX7_round_8 (by decide) ?_ ?_
  · refine zg_iconst C (-1 : Int32) 12 rfl dX7_round_11 (by decide) ?_
    exact zg_iret C dX7_round_12 trivial
  · refine zg_aload_n C 0 14 rfl dX7_round_13 rfl ?_
    refine fgX7_12 C zn0 17 rfl dX7_round_14 ?_
    refine fgX7_133 C (zn1 (by decide : 0 < 3)) 20 rfl dX7_round_17 ?_
    refine zg_sipush C (999 : Int32) 23 rfl dX7_round_20 (by decide) ?_
    refine zg_icmp_lt C 31 26 rfl dX7_round_23 (by decide) ?_ ?_
    · refine zg_aload_n C 0 32 rfl dX7_round_31 rfl ?_
      refine zg_aload_n C 0 33 rfl dX7_round_32 rfl ?_
      refine fgX7_12 C zn0 36 rfl dX7_round_33 ?_
      refine zg_iload_n C 1 37 rfl dX7_round_36 rfl ?_
      refine zg_callVI C [.ref (zad E 1 0), .int a0] 40 rfl dX7_round_37 (tG_playForPoints hD M1 0 (by decide) a0) rfl (fun _ _ hP _ => zrecv C.2.2.2.2.2.1 hP zn0 rfl rfl) zw524 zw521 zw523 zv12 zw1 oG_playForPoints (by decide) (Nat.le_of_ble_eq_true rfl) (fun x5 M4 h6 => ?_)
      exact zg_iret C dX7_round_40 trivial
    · refine zg_bipush C (-3 : Int32) 28 rfl dX7_round_26 (by decide) ?_
      refine zg_goto C 40 dX7_round_28 (by decide) ?_
      exact zg_iret C dX7_round_40 trivial
set_option maxHeartbeats 4000000 in
set_option maxRecDepth 100000 in
theorem tG_ends_L49 {p : Program} {l : Launch} {e : Env} {R : Room} {s : State} {m : MethodId} {args : Array Value} {below : List Frame} {meth : Method} {c : Code} {E : zE} {A : Nat → Prop} (C : zCx p R s m args meth c cX7_ends "TwoTrue" E zNC A 5 (some .int) 8) (hD : zD E zNC A) (c1 : Int32) (c2 : Int32) (c3 : Int32) {e95 : zM → Option (Int32 × zM)} (he95 : ∀ (M : zM), zG p l e R s m args below meth c E zNC A 5 zvI zoT 95 [(0, .ref (zad E 0 0)), (1, .int c1), (3, .int c3)] [] M (e95 M )) : ∀ (n : Nat) (M : zM) (v4 : Int32), zG p l e R s m args below meth c E zNC A 5 zvI zoT 49 [(0, .ref (zad E 0 0)), (1, .int c1), (2, .int c2), (3, .int c3), (4, .int v4)] [] M (qG_ends_L49 c1 c2 c3 e95 n M v4) := by
  intro n
  induction n with
  | zero =>
    intro M v4
    exact zg_none
  | succ n ih =>
    intro M v4
    rw [qG_ends_L49]
    refine zg_iload C 4 51 rfl dX7_ends_49 rfl ?_
    refine zg_iload_n C 2 52 rfl dX7_ends_51 rfl ?_
    refine zg_icmp_ge C 95 55 rfl dX7_ends_52 (by decide) ?_ ?_
    · refine zg_sub [0, 1, 3] [(0, .ref (zad E 0 0)), (1, .int c1), (3, .int c3)] rfl ?_
      exact he95 M 
    · refine zg_aload_n C 0 56 rfl dX7_ends_55 rfl ?_
      refine fgX7_21 C zn0 59 rfl dX7_ends_56 ?_
      refine fgX7_73 C (zn1 (by decide : 2 < 3)) 62 rfl dX7_ends_59 ?_
      refine zg_if_le C 95 65 rfl dX7_ends_62 (by decide) ?_ ?_
      · refine zg_sub [0, 1, 3] [(0, .ref (zad E 0 0)), (1, .int c1), (3, .int c3)] rfl ?_
        exact he95 M 
      · refine zg_aload_n C 0 66 rfl dX7_ends_65 rfl ?_
        refine zg_aload_n C 0 67 rfl dX7_ends_66 rfl ?_
        refine fgX7_21 C zn0 70 rfl dX7_ends_67 ?_
        refine zg_aload_n C 0 71 rfl dX7_ends_70 rfl ?_
        refine fgX7_21 C zn0 74 rfl dX7_ends_71 ?_
        refine fgX7_133 C (zn1 (by decide : 2 < 3)) 77 rfl dX7_ends_74 ?_
        refine zg_aload_n C 0 78 rfl dX7_ends_77 rfl ?_
        refine fgX7_21 C zn0 81 rfl dX7_ends_78 ?_
        refine fgX7_73 C (zn1 (by decide : 2 < 3)) 84 rfl dX7_ends_81 ?_
        refine zg_irem C 85 rfl dX7_ends_84 ?_
        refine zg_callVI C [.ref (zad E 1 2), .int (zrem (M.1 1 2 2) (M.1 1 2 1))] 88 rfl dX7_ends_85 (tG_playForPoints hD M 2 (by decide) (zrem (M.1 1 2 2) (M.1 1 2 1))) rfl (fun _ _ hP _ => zrecv C.2.2.2.2.2.1 hP zn0 rfl rfl) zw524 zw521 zw523 zv12 zw1 oG_playForPoints (by decide) (Nat.le_of_ble_eq_true rfl) (fun x7 M6 h8 => ?_)
        refine zg_pop C rfl 89 rfl dX7_ends_88 ?_
        refine zg_iinc C 4 (v4 + (1 : Int32)) [(4, .int (v4 + (1 : Int32))), (0, .ref (zad E 0 0)), (1, .int c1), (2, .int c2), (3, .int c3)] 92 rfl dX7_ends_89 rfl (congrArg (fun z : Int32 => v4 + z) (by decide : Int32.ofInt (1) = (1 : Int32))) (by decide) rfl ?_
        refine zg_goto C 49 dX7_ends_92 (by decide) ?_
        refine zg_sub [1, 2, 3, 4, 0] [(0, .ref (zad E 0 0)), (1, .int c1), (2, .int c2), (3, .int c3), (4, .int (v4 + (1 : Int32)))] rfl ?_
        exact ih M6 (v4 + (1 : Int32))
set_option maxHeartbeats 4000000 in
set_option maxRecDepth 100000 in
theorem tG_ends {l : Launch} {E : zE} {A : Nat → Prop} (hD : zD E zNC A) (M : zM) (a0 : Int32) (a1 : Int32) (a2 : Int32) : zCT l yX7_ends cX7_ends 5 (some .int) 8 E zNC A [.ref (zad E 0 0), .int a0, .int a1, .int a2] M zvI zoT (qG_ends  M a0 a1 a2) := by
  refine zCT_of (by decide) hD (by first | decide | exact Nat.le_of_ble_eq_true rfl) (fun p e R s m args below meth c C => ?_)
  have C : zCx p R s m args meth c cX7_ends "TwoTrue" E zNC A 5 (some .int) 8 := C
  unfold qG_ends
  refine zg_sub [0, 1, 2, 3] [(0, .ref (zad E 0 0)), (1, .int a0), (2, .int a1), (3, .int a2)] rfl ?_
  refine zg_aload_n C 0 1 rfl dX7_ends_0 rfl ?_
  refine fgX7_12 C zn0 4 rfl dX7_ends_1 ?_
  refine zg_iload_n C 1 5 rfl dX7_ends_4 rfl ?_
  refine zg_callVI C [.int a0] 8 rfl dX7_ends_5 (tP_has hD M 0 (by decide) a0) rfl (fun _ _ hP _ => zrecv C.2.2.2.2.2.1 hP (zn1 (by decide : 0 < 3)) rfl rfl) zw292 zw289 zw290 zw291 zw2 oP_has (by decide) (Nat.le_of_ble_eq_true rfl) (fun x2 M1 h3 => ?_)
  refine zg_if_eq C 20 11 rfl dX7_ends_8 (by decide) ?_ ?_
  · refine zg_iconst C (-1 : Int32) 21 rfl dX7_ends_20 (by decide) ?_
    exact zg_iret C dX7_ends_21 trivial
  · refine zg_iload_n C 3 12 rfl dX7_ends_11 rfl ?_
    refine zg_if_lt C 20 15 rfl dX7_ends_12 (by decide) ?_ ?_
    · refine zg_iconst C (-1 : Int32) 21 rfl dX7_ends_20 (by decide) ?_
      exact zg_iret C dX7_ends_21 trivial
    · refine zg_iload_n C 3 16 rfl dX7_ends_15 rfl ?_
      refine zg_iconst C (1 : Int32) 17 rfl dX7_ends_16 (by decide) ?_
      refine zg_icmp_le C 22 20 rfl dX7_ends_17 (by decide) ?_ ?_
      · refine zg_iload_n C 2 23 rfl dX7_ends_22 rfl ?_
        refine zg_if_lt C 32 26 rfl dX7_ends_23 (by decide) ?_ ?_
        · refine zg_bipush C (-2 : Int32) 34 rfl dX7_ends_32 (by decide) ?_
          exact zg_iret C dX7_ends_34 trivial
        · refine zg_iload_n C 2 27 rfl dX7_ends_26 rfl ?_
          refine zg_bipush C (30 : Int32) 29 rfl dX7_ends_27 (by decide) ?_
          refine zg_icmp_le C 35 32 rfl dX7_ends_29 (by decide) ?_ ?_
          · refine zg_aload_n C 0 36 rfl dX7_ends_35 rfl ?_
            refine fgX7_21 C zn0 39 rfl dX7_ends_36 ?_
            refine zg_aload_n C 0 40 rfl dX7_ends_39 rfl ?_
            refine fgX7_12 C zn0 43 rfl dX7_ends_40 ?_
            refine zg_callVU C [.ref (zad E 1 0)] 46 rfl dX7_ends_43 (tP_become hD M1 2 (by decide) 0 (by decide)) rfl (fun _ _ hP _ => zrecv C.2.2.2.2.2.1 hP (zn1 (by decide : 2 < 3)) rfl rfl) zw573 zw570 zw571 zw572 zw2 oP_become (by decide) (Nat.le_of_ble_eq_true rfl) (fun _u M4 h5 => ?_)
            refine zg_iconst C (0 : Int32) 47 rfl dX7_ends_46 (by decide) ?_
            refine zg_istore C 4 [(4, .int (0 : Int32)), (0, .ref (zad E 0 0)), (1, .int a0), (2, .int a1), (3, .int a2)] 49 rfl dX7_ends_47 (by decide) rfl ?_
            refine zg_sub [1, 2, 3, 4, 0] [(0, .ref (zad E 0 0)), (1, .int a0), (2, .int a1), (3, .int a2), (4, .int (0 : Int32))] rfl ?_
            refine tG_ends_L49 C hD a0 a1 a2 (fun M9 => ?_) 1000 M4 (0 : Int32)
            · refine zg_iload_n C 2 96 rfl dX7_ends_95 rfl ?_
              refine zg_if_ne C 114 99 rfl dX7_ends_96 (by decide) ?_ ?_
              · refine zg_aload_n C 0 100 rfl dX7_ends_99 rfl ?_
                refine fgX7_21 C zn0 103 rfl dX7_ends_100 ?_
                refine fgX7_88 C (zn1 (by decide : 2 < 3)) 106 rfl dX7_ends_103 ?_
                refine zg_iload_n C 1 107 rfl dX7_ends_106 rfl ?_
                refine zg_aald (k2 := 2) (b := 12) (t0 := 3) C 108 rfl dX7_ends_107 (zn7 (by decide : 2 < 3)) rfl rfl (fun i10 hbi10 hei10 => ?_)
                have hi10 : i10 < 18 := by omega
                refine fgX7_200 C (zn2 hi10) 111 rfl dX7_ends_108 ?_
                refine zg_goto C 121 dX7_ends_111 (by decide) ?_
                exact zg_iret C dX7_ends_121 trivial
              · refine zg_aload_n C 0 115 rfl dX7_ends_114 rfl ?_
                refine fgX7_21 C zn0 118 rfl dX7_ends_115 ?_
                refine zg_callVI C [] 121 rfl dX7_ends_118 (tP_leader hD M9 2 (by decide)) rfl (fun _ _ hP _ => zrecv C.2.2.2.2.2.1 hP (zn1 (by decide : 2 < 3)) rfl rfl) zw640 zw637 zw638 zw639 zw2 oP_leader (by decide) (Nat.le_of_ble_eq_true rfl) (fun x12 M11 h13 => ?_)
                exact zg_iret C dX7_ends_121 trivial
          · refine zg_bipush C (-2 : Int32) 34 rfl dX7_ends_32 (by decide) ?_
            exact zg_iret C dX7_ends_34 trivial
      · refine zg_iconst C (-1 : Int32) 21 rfl dX7_ends_20 (by decide) ?_
        exact zg_iret C dX7_ends_21 trivial
set_option maxHeartbeats 4000000 in
set_option maxRecDepth 100000 in
theorem tT_readE_L11 {dz : Nat} {p : Program} {l : Launch} {e : Env} {R : Room} {s : State} {m : MethodId} {args : Array Value} {below : List Frame} {meth : Method} {c : Code} {E : zE} {A : Nat → Prop} (C : zCx p R s m args meth c cX6_readE "TwoTrue$Text" E zNC A 5 (some .boolean) (dz + 10)) (hD : zD E zNC A) (freadE : zM → Nat → Int32 → Option (Int32 × zM)) (hreadE : ∀ (M : zM) (r1 : Nat) (hr1 : r1 < 7) (a1 : Int32), zCT l yX6_readE cX6_readE 5 (some .boolean) (dz + 9) E zNC A [.ref (zad E 10 0), .ref (zad E 13 r1), .int a1] M zvI zoB (freadE M r1 a1)) (freadF : zM → Nat → Int32 → Option (Int32 × zM)) (hreadF : ∀ (M : zM) (r1 : Nat) (hr1 : r1 < 7) (a1 : Int32), zCT l yX6_readF cX6_readF 3 (some .boolean) (dz + 9) E zNC A [.ref (zad E 10 0), .ref (zad E 13 r1), .int a1] M zvI zoB (freadF M r1 a1)) (k1 : Nat) (hk1 : k1 < 7) (c2 : Int32) (c3 : Int32) {e59 : zM → Option (Int32 × zM)} {e50 : zM → Option (Int32 × zM)} (he59 : ∀ (M : zM), zG p l e R s m args below meth c E zNC A 5 zvI zoB 59 [(0, .ref (zad E 10 0)), (1, .ref (zad E 13 k1)), (2, .int c2), (3, .int c3)] [] M (e59 M )) (he50 : ∀ (M : zM), zG p l e R s m args below meth c E zNC A 5 zvI zoB 50 [(0, .ref (zad E 10 0)), (1, .ref (zad E 13 k1)), (2, .int c2), (3, .int c3)] [] M (e50 M )) : ∀ (n : Nat) (M : zM) (v4 : Int32), zG p l e R s m args below meth c E zNC A 5 zvI zoB 11 [(0, .ref (zad E 10 0)), (1, .ref (zad E 13 k1)), (2, .int c2), (3, .int c3), (4, .int v4)] [] M (qT_readE_L11 freadE freadF k1 c2 c3 e59 e50 n M v4) := by
  intro n
  induction n with
  | zero =>
    intro M v4
    exact zg_none
  | succ n ih =>
    intro M v4
    rw [qT_readE_L11]
    refine zg_iload C 4 13 rfl dX6_readE_11 rfl ?_
    refine zg_bipush C (100 : Int32) 15 rfl dX6_readE_13 (by decide) ?_
    refine zg_icmp_ge C 59 18 rfl dX6_readE_15 (by decide) ?_ ?_
    · refine zg_sub [0, 1, 2, 3] [(0, .ref (zad E 10 0)), (1, .ref (zad E 13 k1)), (2, .int c2), (3, .int c3)] rfl ?_
      exact he59 M 
    · refine zg_aload_n C 0 19 rfl dX6_readE_18 rfl ?_
      refine zg_aload_n C 1 20 rfl dX6_readE_19 rfl ?_
      refine zg_iload_n C 2 21 rfl dX6_readE_20 rfl ?_
      refine zg_callVI C [.ref (zad E 13 k1), .int c2] 24 rfl dX6_readE_21 (hreadF M k1 hk1 c2) rfl (fun _ _ hP _ => zrecv C.2.2.2.2.2.1 hP zn10 rfl rfl) zw423 zw420 zw422 zv7 zw4 oT_readF (by omega) (Nat.le_of_ble_eq_true rfl) (fun x2 M1 h3 => ?_)
      refine zg_if_ne C 29 27 rfl dX6_readE_24 (by decide) ?_ ?_
      · refine zg_iconst C (0 : Int32) 28 rfl dX6_readE_27 (by decide) ?_
        exact zg_zret C dX6_readE_28 rfl rfl
      · refine zg_iload C 4 31 rfl dX6_readE_29 rfl ?_
        refine zg_jn (fun j5 => ∀ (M4 : zM), zG p l e R s m args below meth c E zNC A 5 zvI zoB 41 [(0, .ref (zad E 10 0)), (1, .ref (zad E 13 k1)), (2, .int c2), (3, .int c3), (4, .int v4)] [] M4 (j5 M4 )) (fun M4 => ?_) (fun j5 hj5 => ?_)
        · refine zg_aload_n C 0 42 rfl dX6_readE_41 rfl ?_
          refine zg_bipush C (38 : Int32) 44 rfl dX6_readE_42 (by decide) ?_
          refine zg_callVI C [.int (38 : Int32)] 47 rfl dX6_readE_44 (tT_passes hD M4 (38 : Int32)) rfl (fun _ _ hP _ => zrecv C.2.2.2.2.2.1 hP zn10 rfl rfl) zw405 zw402 zw404 zv3 zw4 oT_passes (by omega) (Nat.le_of_ble_eq_true rfl) (fun x7 M6 h8 => ?_)
          refine zg_if_ne C 53 50 rfl dX6_readE_47 (by decide) ?_ ?_
          · refine zg_sub [0, 1, 2, 3] [(0, .ref (zad E 10 0)), (1, .ref (zad E 13 k1)), (2, .int c2), (3, .int c3)] rfl ?_
            exact he50 M6 
          · refine zg_iinc C 4 (v4 + (1 : Int32)) [(4, .int (v4 + (1 : Int32))), (0, .ref (zad E 10 0)), (1, .ref (zad E 13 k1)), (2, .int c2), (3, .int c3)] 56 rfl dX6_readE_53 rfl (congrArg (fun z : Int32 => v4 + z) (by decide : Int32.ofInt (1) = (1 : Int32))) (by decide) rfl ?_
            refine zg_goto C 11 dX6_readE_56 (by decide) ?_
            refine zg_sub [1, 2, 3, 4, 0] [(0, .ref (zad E 10 0)), (1, .ref (zad E 13 k1)), (2, .int c2), (3, .int c3), (4, .int (v4 + (1 : Int32)))] rfl ?_
            exact ih M6 (v4 + (1 : Int32))
        · refine zg_if_le C 41 34 rfl dX6_readE_31 (by decide) ?_ ?_
          · exact hj5 M1 
          · refine zg_aload_n C 1 35 rfl dX6_readE_34 rfl ?_
            refine zg_iconst C (4 : Int32) 36 rfl dX6_readE_35 (by decide) ?_
            refine zg_iconst C (0 : Int32) 37 rfl dX6_readE_36 (by decide) ?_
            refine zg_iconst C (0 : Int32) 38 rfl dX6_readE_37 (by decide) ?_
            refine zg_callVU C [.int (4 : Int32), .int (0 : Int32), .int (0 : Int32)] 41 rfl dX6_readE_38 (tE_append hD M1 k1 hk1 (4 : Int32) (0 : Int32) (0 : Int32)) rfl (fun _ _ hP _ => zrecv C.2.2.2.2.2.1 hP (zn13 hk1) rfl rfl) zw427 zw424 zw425 zw426 zw5 oE_append (by omega) (Nat.le_of_ble_eq_true rfl) (fun _u M9 h10 => ?_)
            exact hj5 M9 
set_option maxHeartbeats 4000000 in
set_option maxRecDepth 100000 in
theorem tT_readE_L2 {dz : Nat} {p : Program} {l : Launch} {e : Env} {R : Room} {s : State} {m : MethodId} {args : Array Value} {below : List Frame} {meth : Method} {c : Code} {E : zE} {A : Nat → Prop} (C : zCx p R s m args meth c cX6_readE "TwoTrue$Text" E zNC A 5 (some .boolean) (dz + 10)) (hD : zD E zNC A) (freadE : zM → Nat → Int32 → Option (Int32 × zM)) (hreadE : ∀ (M : zM) (r1 : Nat) (hr1 : r1 < 7) (a1 : Int32), zCT l yX6_readE cX6_readE 5 (some .boolean) (dz + 9) E zNC A [.ref (zad E 10 0), .ref (zad E 13 r1), .int a1] M zvI zoB (freadE M r1 a1)) (freadF : zM → Nat → Int32 → Option (Int32 × zM)) (hreadF : ∀ (M : zM) (r1 : Nat) (hr1 : r1 < 7) (a1 : Int32), zCT l yX6_readF cX6_readF 3 (some .boolean) (dz + 9) E zNC A [.ref (zad E 10 0), .ref (zad E 13 r1), .int a1] M zvI zoB (freadF M r1 a1)) (k1 : Nat) (hk1 : k1 < 7) (c2 : Int32) : ∀ (n : Nat) (M : zM) (v3 : Int32), zG p l e R s m args below meth c E zNC A 5 zvI zoB 2 [(0, .ref (zad E 10 0)), (1, .ref (zad E 13 k1)), (2, .int c2), (3, .int v3)] [] M (qT_readE_L2 freadE freadF k1 c2 n M v3) := by
  intro n
  induction n with
  | zero =>
    intro M v3
    exact zg_none
  | succ n ih =>
    intro M v3
    rw [qT_readE_L2]
    refine zg_iload_n C 3 3 rfl dX6_readE_2 rfl ?_
    refine zg_bipush C (100 : Int32) 5 rfl dX6_readE_3 (by decide) ?_
    refine zg_icmp_ge C 87 8 rfl dX6_readE_5 (by decide) ?_ ?_
    · refine zg_iconst C (0 : Int32) 88 rfl dX6_readE_87 (by decide) ?_
      exact zg_zret C dX6_readE_88 rfl rfl
    · refine zg_iconst C (0 : Int32) 9 rfl dX6_readE_8 (by decide) ?_
      refine zg_istore C 4 [(4, .int (0 : Int32)), (0, .ref (zad E 10 0)), (1, .ref (zad E 13 k1)), (2, .int c2), (3, .int v3)] 11 rfl dX6_readE_9 (by decide) rfl ?_
      refine zg_sub [1, 2, 3, 4, 0] [(0, .ref (zad E 10 0)), (1, .ref (zad E 13 k1)), (2, .int c2), (3, .int v3), (4, .int (0 : Int32))] rfl ?_
      refine tT_readE_L11 C hD freadE hreadE freadF hreadF k1 hk1 c2 v3 (fun M11 => ?_) (fun M19 => ?_) 1000 M (0 : Int32)
      · refine zg_iload_n C 3 60 rfl dX6_readE_59 rfl ?_
        refine zg_jn (fun j13 => ∀ (M12 : zM), zG p l e R s m args below meth c E zNC A 5 zvI zoB 70 [(0, .ref (zad E 10 0)), (1, .ref (zad E 13 k1)), (2, .int c2), (3, .int v3)] [] M12 (j13 M12 )) (fun M12 => ?_) (fun j13 hj13 => ?_)
        · refine zg_aload_n C 0 71 rfl dX6_readE_70 rfl ?_
          refine zg_bipush C (124 : Int32) 73 rfl dX6_readE_71 (by decide) ?_
          refine zg_callVI C [.int (124 : Int32)] 76 rfl dX6_readE_73 (tT_passes hD M12 (124 : Int32)) rfl (fun _ _ hP _ => zrecv C.2.2.2.2.2.1 hP zn10 rfl rfl) zw405 zw402 zw404 zv3 zw4 oT_passes (by omega) (Nat.le_of_ble_eq_true rfl) (fun x15 M14 h16 => ?_)
          refine zg_if_ne C 81 79 rfl dX6_readE_76 (by decide) ?_ ?_
          · refine zg_iconst C (1 : Int32) 80 rfl dX6_readE_79 (by decide) ?_
            exact zg_zret C dX6_readE_80 rfl rfl
          · refine zg_iinc C 3 (v3 + (1 : Int32)) [(3, .int (v3 + (1 : Int32))), (0, .ref (zad E 10 0)), (1, .ref (zad E 13 k1)), (2, .int c2)] 84 rfl dX6_readE_81 rfl (congrArg (fun z : Int32 => v3 + z) (by decide : Int32.ofInt (1) = (1 : Int32))) (by decide) rfl ?_
            refine zg_goto C 2 dX6_readE_84 (by decide) ?_
            refine zg_sub [1, 2, 3, 0] [(0, .ref (zad E 10 0)), (1, .ref (zad E 13 k1)), (2, .int c2), (3, .int (v3 + (1 : Int32)))] rfl ?_
            exact ih M14 (v3 + (1 : Int32))
        · refine zg_if_le C 70 63 rfl dX6_readE_60 (by decide) ?_ ?_
          · exact hj13 M11 
          · refine zg_aload_n C 1 64 rfl dX6_readE_63 rfl ?_
            refine zg_iconst C (5 : Int32) 65 rfl dX6_readE_64 (by decide) ?_
            refine zg_iconst C (0 : Int32) 66 rfl dX6_readE_65 (by decide) ?_
            refine zg_iconst C (0 : Int32) 67 rfl dX6_readE_66 (by decide) ?_
            refine zg_callVU C [.int (5 : Int32), .int (0 : Int32), .int (0 : Int32)] 70 rfl dX6_readE_67 (tE_append hD M11 k1 hk1 (5 : Int32) (0 : Int32) (0 : Int32)) rfl (fun _ _ hP _ => zrecv C.2.2.2.2.2.1 hP (zn13 hk1) rfl rfl) zw427 zw424 zw425 zw426 zw5 oE_append (by omega) (Nat.le_of_ble_eq_true rfl) (fun _u M17 h18 => ?_)
            exact hj13 M17 
      · refine zg_goto C 59 dX6_readE_50 (by decide) ?_
        refine zg_iload_n C 3 60 rfl dX6_readE_59 rfl ?_
        refine zg_jn (fun j21 => ∀ (M20 : zM), zG p l e R s m args below meth c E zNC A 5 zvI zoB 70 [(0, .ref (zad E 10 0)), (1, .ref (zad E 13 k1)), (2, .int c2), (3, .int v3)] [] M20 (j21 M20 )) (fun M20 => ?_) (fun j21 hj21 => ?_)
        · refine zg_aload_n C 0 71 rfl dX6_readE_70 rfl ?_
          refine zg_bipush C (124 : Int32) 73 rfl dX6_readE_71 (by decide) ?_
          refine zg_callVI C [.int (124 : Int32)] 76 rfl dX6_readE_73 (tT_passes hD M20 (124 : Int32)) rfl (fun _ _ hP _ => zrecv C.2.2.2.2.2.1 hP zn10 rfl rfl) zw405 zw402 zw404 zv3 zw4 oT_passes (by omega) (Nat.le_of_ble_eq_true rfl) (fun x23 M22 h24 => ?_)
          refine zg_if_ne C 81 79 rfl dX6_readE_76 (by decide) ?_ ?_
          · refine zg_iconst C (1 : Int32) 80 rfl dX6_readE_79 (by decide) ?_
            exact zg_zret C dX6_readE_80 rfl rfl
          · refine zg_iinc C 3 (v3 + (1 : Int32)) [(3, .int (v3 + (1 : Int32))), (0, .ref (zad E 10 0)), (1, .ref (zad E 13 k1)), (2, .int c2)] 84 rfl dX6_readE_81 rfl (congrArg (fun z : Int32 => v3 + z) (by decide : Int32.ofInt (1) = (1 : Int32))) (by decide) rfl ?_
            refine zg_goto C 2 dX6_readE_84 (by decide) ?_
            refine zg_sub [1, 2, 3, 0] [(0, .ref (zad E 10 0)), (1, .ref (zad E 13 k1)), (2, .int c2), (3, .int (v3 + (1 : Int32)))] rfl ?_
            exact ih M22 (v3 + (1 : Int32))
        · refine zg_if_le C 70 63 rfl dX6_readE_60 (by decide) ?_ ?_
          · exact hj21 M19 
          · refine zg_aload_n C 1 64 rfl dX6_readE_63 rfl ?_
            refine zg_iconst C (5 : Int32) 65 rfl dX6_readE_64 (by decide) ?_
            refine zg_iconst C (0 : Int32) 66 rfl dX6_readE_65 (by decide) ?_
            refine zg_iconst C (0 : Int32) 67 rfl dX6_readE_66 (by decide) ?_
            refine zg_callVU C [.int (5 : Int32), .int (0 : Int32), .int (0 : Int32)] 70 rfl dX6_readE_67 (tE_append hD M19 k1 hk1 (5 : Int32) (0 : Int32) (0 : Int32)) rfl (fun _ _ hP _ => zrecv C.2.2.2.2.2.1 hP (zn13 hk1) rfl rfl) zw427 zw424 zw425 zw426 zw5 oE_append (by omega) (Nat.le_of_ble_eq_true rfl) (fun _u M25 h26 => ?_)
            exact hj21 M25 
set_option maxHeartbeats 4000000 in
set_option maxRecDepth 100000 in
theorem tT_readE_b {dz : Nat} {l : Launch} {E : zE} {A : Nat → Prop} (hD : zD E zNC A) (freadE : zM → Nat → Int32 → Option (Int32 × zM)) (hreadE : ∀ (M : zM) (r1 : Nat) (hr1 : r1 < 7) (a1 : Int32), zCT l yX6_readE cX6_readE 5 (some .boolean) (dz + 9) E zNC A [.ref (zad E 10 0), .ref (zad E 13 r1), .int a1] M zvI zoB (freadE M r1 a1)) (freadF : zM → Nat → Int32 → Option (Int32 × zM)) (hreadF : ∀ (M : zM) (r1 : Nat) (hr1 : r1 < 7) (a1 : Int32), zCT l yX6_readF cX6_readF 3 (some .boolean) (dz + 9) E zNC A [.ref (zad E 10 0), .ref (zad E 13 r1), .int a1] M zvI zoB (freadF M r1 a1)) (M : zM) (r1 : Nat) (hr1 : r1 < 7) (a1 : Int32) : zCT l yX6_readE cX6_readE 5 (some .boolean) (dz + 10) E zNC A [.ref (zad E 10 0), .ref (zad E 13 r1), .int a1] M zvI zoB (qT_readE_b freadE freadF M r1 a1) := by
  refine zCT_of (by decide) hD (by first | decide | exact Nat.le_of_ble_eq_true rfl) (fun p e R s m args below meth c C => ?_)
  have C : zCx p R s m args meth c cX6_readE "TwoTrue$Text" E zNC A 5 (some .boolean) (dz + 10) := C
  unfold qT_readE_b
  refine zg_sub [0, 1, 2] [(0, .ref (zad E 10 0)), (1, .ref (zad E 13 r1)), (2, .int a1)] rfl ?_
  refine zg_iconst C (0 : Int32) 1 rfl dX6_readE_0 (by decide) ?_
  refine zg_istore_n C 3 [(3, .int (0 : Int32)), (0, .ref (zad E 10 0)), (1, .ref (zad E 13 r1)), (2, .int a1)] 2 rfl dX6_readE_1 rfl (by decide) rfl ?_
  refine zg_sub [1, 2, 3, 0] [(0, .ref (zad E 10 0)), (1, .ref (zad E 13 r1)), (2, .int a1), (3, .int (0 : Int32))] rfl ?_
  refine tT_readE_L2 C hD freadE hreadE freadF hreadF r1 hr1 a1  1000 M (0 : Int32)
set_option maxHeartbeats 4000000 in
set_option maxRecDepth 100000 in
theorem tT_readF_b {dz : Nat} {l : Launch} {E : zE} {A : Nat → Prop} (hD : zD E zNC A) (freadE : zM → Nat → Int32 → Option (Int32 × zM)) (hreadE : ∀ (M : zM) (r1 : Nat) (hr1 : r1 < 7) (a1 : Int32), zCT l yX6_readE cX6_readE 5 (some .boolean) (dz + 9) E zNC A [.ref (zad E 10 0), .ref (zad E 13 r1), .int a1] M zvI zoB (freadE M r1 a1)) (freadF : zM → Nat → Int32 → Option (Int32 × zM)) (hreadF : ∀ (M : zM) (r1 : Nat) (hr1 : r1 < 7) (a1 : Int32), zCT l yX6_readF cX6_readF 3 (some .boolean) (dz + 9) E zNC A [.ref (zad E 10 0), .ref (zad E 13 r1), .int a1] M zvI zoB (freadF M r1 a1)) (M : zM) (r1 : Nat) (hr1 : r1 < 7) (a1 : Int32) : zCT l yX6_readF cX6_readF 3 (some .boolean) (dz + 10) E zNC A [.ref (zad E 10 0), .ref (zad E 13 r1), .int a1] M zvI zoB (qT_readF_b freadE freadF M r1 a1) := by
  refine zCT_of (by decide) hD (by first | decide | exact Nat.le_of_ble_eq_true rfl) (fun p e R s m args below meth c C => ?_)
  have C : zCx p R s m args meth c cX6_readF "TwoTrue$Text" E zNC A 3 (some .boolean) (dz + 10) := C
  unfold qT_readF_b
  refine zg_sub [0, 1, 2] [(0, .ref (zad E 10 0)), (1, .ref (zad E 13 r1)), (2, .int a1)] rfl ?_
  refine zg_iload_n C 2 1 rfl dX6_readF_0 rfl ?_
  refine zg_iconst C (4 : Int32) 2 rfl dX6_readF_1 (by decide) ?_
  refine zg_jn (fun j2 => ∀ (M1 : zM), zG p l e R s m args below meth c E zNC A 3 zvI zoB 36 [(0, .ref (zad E 10 0)), (1, .ref (zad E 13 r1)), (2, .int a1)] [] M1 (j2 M1 )) (fun M1 => ?_) (fun j2 hj2 => ?_)
  · refine zg_iload_n C 2 37 rfl dX6_readF_36 rfl ?_
    refine zg_iconst C (4 : Int32) 38 rfl dX6_readF_37 (by decide) ?_
    refine zg_jn (fun j4 => ∀ (M3 : zM), zG p l e R s m args below meth c E zNC A 3 zvI zoB 76 [(0, .ref (zad E 10 0)), (1, .ref (zad E 13 r1))] [] M3 (j4 M3 )) (fun M3 => ?_) (fun j4 hj4 => ?_)
    · refine zg_aload_n C 0 77 rfl dX6_readF_76 rfl ?_
      refine zg_aload_n C 1 78 rfl dX6_readF_77 rfl ?_
      refine zg_callVI C [.ref (zad E 13 r1)] 81 rfl dX6_readF_78 (tT_readTest hD M3 r1 hr1) rfl (fun _ _ hP _ => zrecv C.2.2.2.2.2.1 hP zn10 rfl rfl) zw431 zw428 zw430 zv8 zw4 oT_readTest (by omega) (Nat.le_of_ble_eq_true rfl) (fun x6 M5 h7 => ?_)
      exact zg_zret C dX6_readF_81 h7 h7
    · refine zg_icmp_ge C 76 41 rfl dX6_readF_38 (by decide) ?_ ?_
      · refine zg_sub [0, 1] [(0, .ref (zad E 10 0)), (1, .ref (zad E 13 r1))] rfl ?_
        exact hj4 M1 
      · refine zg_aload_n C 0 42 rfl dX6_readF_41 rfl ?_
        refine zg_bipush C (40 : Int32) 44 rfl dX6_readF_42 (by decide) ?_
        refine zg_callVI C [.int (40 : Int32)] 47 rfl dX6_readF_44 (tT_passes hD M1 (40 : Int32)) rfl (fun _ _ hP _ => zrecv C.2.2.2.2.2.1 hP zn10 rfl rfl) zw405 zw402 zw404 zv3 zw4 oT_passes (by omega) (Nat.le_of_ble_eq_true rfl) (fun x9 M8 h10 => ?_)
        refine zg_if_eq C 76 50 rfl dX6_readF_47 (by decide) ?_ ?_
        · refine zg_sub [0, 1] [(0, .ref (zad E 10 0)), (1, .ref (zad E 13 r1))] rfl ?_
          exact hj4 M8 
        · refine zg_aload_n C 0 51 rfl dX6_readF_50 rfl ?_
          refine zg_aload_n C 1 52 rfl dX6_readF_51 rfl ?_
          refine zg_iload_n C 2 53 rfl dX6_readF_52 rfl ?_
          refine zg_iconst C (1 : Int32) 54 rfl dX6_readF_53 (by decide) ?_
          refine zg_iadd C 55 rfl dX6_readF_54 ?_
          refine zg_callVI C [.ref (zad E 13 r1), .int (a1 + (1 : Int32))] 58 rfl dX6_readF_55 (hreadE M8 r1 hr1 (a1 + (1 : Int32))) rfl (fun _ _ hP _ => zrecv C.2.2.2.2.2.1 hP zn10 rfl rfl) zw419 zw416 zw418 zv6 zw4 oT_readE (by omega) (Nat.le_of_ble_eq_true rfl) (fun x12 M11 h13 => ?_)
          refine zg_if_eq C 74 61 rfl dX6_readF_58 (by decide) ?_ ?_
          · refine zg_iconst C (0 : Int32) 75 rfl dX6_readF_74 (by decide) ?_
            exact zg_zret C dX6_readF_75 rfl rfl
          · refine zg_aload_n C 0 62 rfl dX6_readF_61 rfl ?_
            refine zg_bipush C (41 : Int32) 64 rfl dX6_readF_62 (by decide) ?_
            refine zg_callVI C [.int (41 : Int32)] 67 rfl dX6_readF_64 (tT_passes hD M11 (41 : Int32)) rfl (fun _ _ hP _ => zrecv C.2.2.2.2.2.1 hP zn10 rfl rfl) zw405 zw402 zw404 zv3 zw4 oT_passes (by omega) (Nat.le_of_ble_eq_true rfl) (fun x15 M14 h16 => ?_)
            refine zg_if_eq C 74 70 rfl dX6_readF_67 (by decide) ?_ ?_
            · refine zg_iconst C (0 : Int32) 75 rfl dX6_readF_74 (by decide) ?_
              exact zg_zret C dX6_readF_75 rfl rfl
            · refine zg_iconst C (1 : Int32) 71 rfl dX6_readF_70 (by decide) ?_
              refine zg_goto C 75 dX6_readF_71 (by decide) ?_
              exact zg_zret C dX6_readF_75 rfl rfl
  · refine zg_icmp_ge C 36 5 rfl dX6_readF_2 (by decide) ?_ ?_
    · exact hj2 M 
    · refine zg_aload_n C 0 6 rfl dX6_readF_5 rfl ?_
      refine zg_bipush C (33 : Int32) 8 rfl dX6_readF_6 (by decide) ?_
      refine zg_callVI C [.int (33 : Int32)] 11 rfl dX6_readF_8 (tT_passes hD M (33 : Int32)) rfl (fun _ _ hP _ => zrecv C.2.2.2.2.2.1 hP zn10 rfl rfl) zw405 zw402 zw404 zv3 zw4 oT_passes (by omega) (Nat.le_of_ble_eq_true rfl) (fun x18 M17 h19 => ?_)
      refine zg_if_eq C 36 14 rfl dX6_readF_11 (by decide) ?_ ?_
      · exact hj2 M17 
      · refine zg_aload_n C 0 15 rfl dX6_readF_14 rfl ?_
        refine zg_aload_n C 1 16 rfl dX6_readF_15 rfl ?_
        refine zg_iload_n C 2 17 rfl dX6_readF_16 rfl ?_
        refine zg_iconst C (1 : Int32) 18 rfl dX6_readF_17 (by decide) ?_
        refine zg_iadd C 19 rfl dX6_readF_18 ?_
        refine zg_callVI C [.ref (zad E 13 r1), .int (a1 + (1 : Int32))] 22 rfl dX6_readF_19 (hreadF M17 r1 hr1 (a1 + (1 : Int32))) rfl (fun _ _ hP _ => zrecv C.2.2.2.2.2.1 hP zn10 rfl rfl) zw423 zw420 zw422 zv7 zw4 oT_readF (by omega) (Nat.le_of_ble_eq_true rfl) (fun x21 M20 h22 => ?_)
        refine zg_if_ne C 27 25 rfl dX6_readF_22 (by decide) ?_ ?_
        · refine zg_iconst C (0 : Int32) 26 rfl dX6_readF_25 (by decide) ?_
          exact zg_zret C dX6_readF_26 rfl rfl
        · refine zg_aload_n C 1 28 rfl dX6_readF_27 rfl ?_
          refine zg_iconst C (3 : Int32) 29 rfl dX6_readF_28 (by decide) ?_
          refine zg_iconst C (0 : Int32) 30 rfl dX6_readF_29 (by decide) ?_
          refine zg_iconst C (0 : Int32) 31 rfl dX6_readF_30 (by decide) ?_
          refine zg_callVU C [.int (3 : Int32), .int (0 : Int32), .int (0 : Int32)] 34 rfl dX6_readF_31 (tE_append hD M20 r1 hr1 (3 : Int32) (0 : Int32) (0 : Int32)) rfl (fun _ _ hP _ => zrecv C.2.2.2.2.2.1 hP (zn13 hr1) rfl rfl) zw427 zw424 zw425 zw426 zw5 oE_append (by omega) (Nat.le_of_ble_eq_true rfl) (fun _u M23 h24 => ?_)
          refine zg_iconst C (1 : Int32) 35 rfl dX6_readF_34 (by decide) ?_
          exact zg_zret C dX6_readF_35 rfl rfl
set_option maxHeartbeats 4000000 in
set_option maxRecDepth 100000 in
theorem tT_rec {l : Launch} {E : zE} {A : Nat → Prop} (hD : zD E zNC A) : ∀ n : Nat, (∀ (M : zM) (r1 : Nat) (hr1 : r1 < 7) (a1 : Int32), zCT l yX6_readE cX6_readE 5 (some .boolean) (n + 9) E zNC A [.ref (zad E 10 0), .ref (zad E 13 r1), .int a1] M zvI zoB ((qT_rec n).1 M r1 a1)) ∧ (∀ (M : zM) (r1 : Nat) (hr1 : r1 < 7) (a1 : Int32), zCT l yX6_readF cX6_readF 3 (some .boolean) (n + 9) E zNC A [.ref (zad E 10 0), .ref (zad E 13 r1), .int a1] M zvI zoB ((qT_rec n).2 M r1 a1)) := by
  intro n
  induction n with
  | zero => exact ⟨fun M r1 hr1 a1 => (by intro r M2 h; cases h), fun M r1 hr1 a1 => (by intro r M2 h; cases h)⟩
  | succ n ih => exact ⟨fun M r1 hr1 a1 => tT_readE_b (dz := n) hD _ ih.1 _ ih.2 M r1 hr1 a1, fun M r1 hr1 a1 => tT_readF_b (dz := n) hD _ ih.1 _ ih.2 M r1 hr1 a1⟩
set_option maxHeartbeats 4000000 in
set_option maxRecDepth 100000 in
theorem tT_readE {l : Launch} {E : zE} {A : Nat → Prop} (hD : zD E zNC A) (M : zM) (r1 : Nat) (hr1 : r1 < 7) (a1 : Int32) : zCT l yX6_readE cX6_readE 5 (some .boolean) 49 E zNC A [.ref (zad E 10 0), .ref (zad E 13 r1), .int a1] M zvI zoB (qT_readE M r1 a1) := (tT_rec hD 40).1 M r1 hr1 a1
set_option maxHeartbeats 4000000 in
set_option maxRecDepth 100000 in
theorem tT_readF {l : Launch} {E : zE} {A : Nat → Prop} (hD : zD E zNC A) (M : zM) (r1 : Nat) (hr1 : r1 < 7) (a1 : Int32) : zCT l yX6_readF cX6_readF 3 (some .boolean) 49 E zNC A [.ref (zad E 10 0), .ref (zad E 13 r1), .int a1] M zvI zoB (qT_readF M r1 a1) := (tT_rec hD 40).2 M r1 hr1 a1
set_option maxHeartbeats 4000000 in
set_option maxRecDepth 100000 in
theorem tT_readClause {l : Launch} {E : zE} {A : Nat → Prop} (hD : zD E zNC A) (M : zM) (r1 : Nat) (hr1 : r1 < 7) : zCT l yX6_readClause cX6_readClause 4 (some .boolean) 50 E zNC A [.ref (zad E 10 0), .ref (zad E 13 r1)] M zvI zoB (qT_readClause  M r1) := by
  refine zCT_of (by decide) hD (by first | decide | exact Nat.le_of_ble_eq_true rfl) (fun p e R s m args below meth c C => ?_)
  have C : zCx p R s m args meth c cX6_readClause "TwoTrue$Text" E zNC A 4 (some .boolean) 50 := C
  unfold qT_readClause
  refine zg_sub [0, 1] [(0, .ref (zad E 10 0)), (1, .ref (zad E 13 r1))] rfl ?_
  refine zg_aload_n C 0 1 rfl dX6_readClause_0 rfl ?_
  refine zg_bipush C (104 : Int32) 3 rfl dX6_readClause_1 (by decide) ?_
  refine zg_callVI C [.int (104 : Int32)] 6 rfl dX6_readClause_3 (tT_sees hD M (104 : Int32)) rfl (fun _ _ hP _ => zrecv C.2.2.2.2.2.1 hP zn10 rfl rfl) zw348 zw345 zw347 zv1 zw4 oT_sees (by decide) (Nat.le_of_ble_eq_true rfl) (fun x2 M1 h3 => ?_)
  refine zg_if_eq C 37 9 rfl dX6_readClause_6 (by decide) ?_ ?_
  · refine zg_aload_n C 0 38 rfl dX6_readClause_37 rfl ?_
    refine zg_bipush C (111 : Int32) 40 rfl dX6_readClause_38 (by decide) ?_
    refine zg_callVI C [.int (111 : Int32)] 43 rfl dX6_readClause_40 (tT_sees hD M1 (111 : Int32)) rfl (fun _ _ hP _ => zrecv C.2.2.2.2.2.1 hP zn10 rfl rfl) zw348 zw345 zw347 zv1 zw4 oT_sees (by decide) (Nat.le_of_ble_eq_true rfl) (fun x5 M4 h6 => ?_)
    refine zg_istore_n C 2 [(2, .int x5), (0, .ref (zad E 10 0)), (1, .ref (zad E 13 r1))] 44 rfl dX6_readClause_43 rfl (by decide) rfl ?_
    refine zg_aload_n C 1 45 rfl dX6_readClause_44 rfl ?_
    refine zg_iload_n C 0 46 rfl dX6_readClause_45 rfl ?_
    refine zg_jn (fun j9 => ∀ (M8 : zM) (k7 : Nat) (hk7 : k7 < 4), zG p l e R s m args below meth c E zNC A 4 zvI zoB 56 [(0, .ref (zad E 10 0)), (1, .ref (zad E 13 r1)), (2, .int x5)] [.ref (zsk E k7), .ref (zad E 10 0)] M8 (j9 M8 k7)) (fun M8 k7 hk7 => ?_) (fun j9 hj9 => ?_)
    · refine zg_callVI C [.ref (zsk E k7)] 59 rfl dX6_readClause_56 (tT_passesWord hD M8 k7 hk7) rfl (fun _ _ hP _ => zrecv C.2.2.2.2.2.1 hP zn10 rfl rfl) zw353 zw350 zw352 zv2 zw4 oT_passesWord (by decide) (Nat.le_of_ble_eq_true rfl) (fun x11 M10 h12 => ?_)
      refine zg_if_eq C 69 62 rfl dX6_readClause_59 (by decide) ?_ ?_
      · refine zg_iconst C (0 : Int32) 70 rfl dX6_readClause_69 (by decide) ?_
        exact zg_zret C dX6_readClause_70 rfl rfl
      · refine zg_aload_n C 0 63 rfl dX6_readClause_62 rfl ?_
        refine zg_callVI C [] 66 rfl dX6_readClause_63 (tT_readNumber hD M10 ) rfl (fun _ _ hP _ => zrecv C.2.2.2.2.2.1 hP zn10 rfl rfl) zw409 zw406 zw408 zv4 zw4 oT_readNumber (by decide) (Nat.le_of_ble_eq_true rfl) (fun x14 M13 h15 => ?_)
        refine zg_if_ne C 71 69 rfl dX6_readClause_66 (by decide) ?_ ?_
        · refine zg_iconst C (0 : Int32) 70 rfl dX6_readClause_69 (by decide) ?_
          exact zg_zret C dX6_readClause_70 rfl rfl
        · refine zg_aload_n C 0 72 rfl dX6_readClause_71 rfl ?_
          refine fgX6_48 C zn10 75 rfl dX6_readClause_72 ?_
          refine zg_nmI (fun x16 => ?_)
          refine zg_istore_n C 3 [(3, .int x16), (0, .ref (zad E 10 0)), (1, .ref (zad E 13 r1)), (2, .int x5)] 76 rfl dX6_readClause_75 rfl (by decide) rfl ?_
          refine zg_aload_n C 1 77 rfl dX6_readClause_76 rfl ?_
          refine zg_bipush C (32 : Int32) 79 rfl dX6_readClause_77 (by decide) ?_
          refine zg_callVI C [.int (32 : Int32)] 82 rfl dX6_readClause_79 (tT_passes hD M13 (32 : Int32)) rfl (fun _ _ hP _ => zrecv C.2.2.2.2.2.1 hP zn10 rfl rfl) zw405 zw402 zw404 zv3 zw4 oT_passes (by decide) (Nat.le_of_ble_eq_true rfl) (fun x18 M17 h19 => ?_)
          refine zg_if_eq C 94 85 rfl dX6_readClause_82 (by decide) ?_ ?_
          · refine zg_iconst C (0 : Int32) 95 rfl dX6_readClause_94 (by decide) ?_
            exact zg_zret C dX6_readClause_95 rfl rfl
          · refine zg_aload_n C 1 86 rfl dX6_readClause_85 rfl ?_
            refine zg_aload_n C 2 87 rfl dX6_readClause_86 rfl ?_
            refine zg_iconst C (0 : Int32) 88 rfl dX6_readClause_87 (by decide) ?_
            refine zg_callVI C [.ref (zad E 13 r1), .int (0 : Int32)] 91 rfl dX6_readClause_88 (tT_readE hD M17 r1 hr1 (0 : Int32)) rfl (fun _ _ hP _ => zrecv C.2.2.2.2.2.1 hP zn10 rfl rfl) zw419 zw416 zw418 zv6 zw4 oT_readE (by decide) (Nat.le_of_ble_eq_true rfl) (fun x21 M20 h22 => ?_)
            refine zg_if_ne C 96 94 rfl dX6_readClause_91 (by decide) ?_ ?_
            · refine zg_iconst C (0 : Int32) 95 rfl dX6_readClause_94 (by decide) ?_
              exact zg_zret C dX6_readClause_95 rfl rfl
            · refine zg_aload_n C 2 97 rfl dX6_readClause_96 rfl ?_
              refine zg_iload_n C 3 98 rfl dX6_readClause_97 rfl ?_
              refine zg_jn (fun j25 => ∀ (M24 : zM) (x23 : Int32), zG p l e R s m args below meth c E zNC A 4 zvI zoB 108 [(3, .int x16)] [.int x23, .ref (zad E 13 r1)] M24 (j25 M24 x23)) (fun M24 x23 => ?_) (fun j25 hj25 => ?_)
              · refine zg_iconst C (0 : Int32) 109 rfl dX6_readClause_108 (by decide) ?_
                refine zg_iload_n C 0 110 rfl dX6_readClause_109 rfl ?_
                refine zg_callVU C [.int x23, .int (0 : Int32), .int x16] 113 rfl dX6_readClause_110 (tE_append hD M24 r1 hr1 x23 (0 : Int32) x16) rfl (fun _ _ hP _ => zrecv C.2.2.2.2.2.1 hP (zn13 hr1) rfl rfl) zw427 zw424 zw425 zw426 zw5 oE_append (by decide) (Nat.le_of_ble_eq_true rfl) (fun _u M26 h27 => ?_)
                refine zg_iconst C (1 : Int32) 114 rfl dX6_readClause_113 (by decide) ?_
                exact zg_zret C dX6_readClause_114 rfl rfl
              · refine zg_if_eq C 106 101 rfl dX6_readClause_98 (by decide) ?_ ?_
                · refine zg_bipush C (7 : Int32) 108 rfl dX6_readClause_106 (by decide) ?_
                  refine zg_sub [0] [(3, .int x16)] rfl ?_
                  exact hj25 M20 (7 : Int32)
                · refine zg_bipush C (6 : Int32) 103 rfl dX6_readClause_101 (by decide) ?_
                  refine zg_goto C 108 dX6_readClause_103 (by decide) ?_
                  refine zg_sub [0] [(3, .int x16)] rfl ?_
                  exact hj25 M20 (6 : Int32)
    · refine zg_if_eq C 54 49 rfl dX6_readClause_46 (by decide) ?_ ?_
      · refine zg_ldcS C 2 (by decide) 56 rfl dX6_readClause_54 rfl ?_
        refine zg_sub [1, 2, 0] [(0, .ref (zad E 10 0)), (1, .ref (zad E 13 r1)), (2, .int x5)] rfl ?_
        exact hj9 M4 2 (by decide)
      · refine zg_ldcS C 1 (by decide) 51 rfl dX6_readClause_49 rfl ?_
        refine zg_goto C 56 dX6_readClause_51 (by decide) ?_
        refine zg_sub [1, 2, 0] [(0, .ref (zad E 10 0)), (1, .ref (zad E 13 r1)), (2, .int x5)] rfl ?_
        exact hj9 M4 1 (by decide)
  · refine zg_aload_n C 0 10 rfl dX6_readClause_9 rfl ?_
    refine zg_ldcS C 0 (by decide) 12 rfl dX6_readClause_10 rfl ?_
    refine zg_callVI C [.ref (zsk E 0)] 15 rfl dX6_readClause_12 (tT_passesWord hD M1 0 (by decide)) rfl (fun _ _ hP _ => zrecv C.2.2.2.2.2.1 hP zn10 rfl rfl) zw353 zw350 zw352 zv2 zw4 oT_passesWord (by decide) (Nat.le_of_ble_eq_true rfl) (fun x29 M28 h30 => ?_)
    refine zg_if_eq C 25 18 rfl dX6_readClause_15 (by decide) ?_ ?_
    · refine zg_iconst C (0 : Int32) 26 rfl dX6_readClause_25 (by decide) ?_
      exact zg_zret C dX6_readClause_26 rfl rfl
    · refine zg_aload_n C 0 19 rfl dX6_readClause_18 rfl ?_
      refine zg_callVI C [] 22 rfl dX6_readClause_19 (tT_readNumber hD M28 ) rfl (fun _ _ hP _ => zrecv C.2.2.2.2.2.1 hP zn10 rfl rfl) zw409 zw406 zw408 zv4 zw4 oT_readNumber (by decide) (Nat.le_of_ble_eq_true rfl) (fun x32 M31 h33 => ?_)
      refine zg_if_ne C 27 25 rfl dX6_readClause_22 (by decide) ?_ ?_
      · refine zg_iconst C (0 : Int32) 26 rfl dX6_readClause_25 (by decide) ?_
        exact zg_zret C dX6_readClause_26 rfl rfl
      · refine zg_aload_n C 1 28 rfl dX6_readClause_27 rfl ?_
        refine zg_aload_n C 0 29 rfl dX6_readClause_28 rfl ?_
        refine fgX6_48 C zn10 32 rfl dX6_readClause_29 ?_
        refine fpX6_51 C (zn13 hr1) 35 rfl dX6_readClause_32 (fun M34 => ?_)
        refine zg_iconst C (1 : Int32) 36 rfl dX6_readClause_35 (by decide) ?_
        exact zg_zret C dX6_readClause_36 rfl rfl
