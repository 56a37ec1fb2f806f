set_option maxHeartbeats 4000000 in
set_option maxRecDepth 100000 in
theorem tM_in {l : Launch} {E : zE} {A : Nat → Prop} (hD : zD E zNM A) (M : zM) (a0 : Int32) (a1 : Int32) (a2 : Int32) : zCT l yX8_in cX8_in 4 (some .boolean) 2 E zNM A [.ref (zad E 40 0), .int a0, .int a1, .int a2] M zvI zoB (qM_in  M a0 a1 a2) := by
  refine zCT_of (by decide) hD (by first | decide | exact Nat.le_of_ble_eq_true rfl) (fun p e R s m args below meth c C => ?_)
  have C : zCx p R s m args meth c cX8_in "TwoTrueModel" E zNM A 4 (some .boolean) 2 := C
  unfold qM_in
  refine zg_sub [1, 2, 3] [(1, .int a0), (2, .int a1), (3, .int a2)] rfl ?_
  refine zg_iload_n C 0 1 rfl dX8_in_0 rfl ?_
  refine zg_iload_n C 1 2 rfl dX8_in_1 rfl ?_
  refine zg_icmp_lt C 14 5 rfl dX8_in_2 (by decide) ?_ ?_
  · refine zg_iconst C (0 : Int32) 15 rfl dX8_in_14 (by decide) ?_
    exact zg_zret C dX8_in_15 rfl rfl
  · refine zg_iload_n C 0 6 rfl dX8_in_5 rfl ?_
    refine zg_iload_n C 2 7 rfl dX8_in_6 rfl ?_
    refine zg_icmp_gt C 14 10 rfl dX8_in_7 (by decide) ?_ ?_
    · refine zg_iconst C (0 : Int32) 15 rfl dX8_in_14 (by decide) ?_
      exact zg_zret C dX8_in_15 rfl rfl
    · refine zg_iconst C (1 : Int32) 11 rfl dX8_in_10 (by decide) ?_
      refine zg_goto C 15 dX8_in_11 (by decide) ?_
      exact zg_zret C dX8_in_15 rfl rfl
set_option maxHeartbeats 4000000 in
set_option maxRecDepth 100000 in
theorem tM_layTale {l : Launch} {E : zE} {A : Nat → Prop} (hD : zD E zNM A) (M : zM) (a0 : Int32) (a1 : Int32) (a2 : Int32) : zCT l yX8_layTale cX8_layTale 4 none 2 E zNM A [.ref (zad E 40 0), .int a0, .int a1, .int a2] M zvU zoT (qM_layTale  M a0 a1 a2) := by
  refine zCT_of (by decide) hD (by first | decide | exact Nat.le_of_ble_eq_true rfl) (fun p e R s m args below meth c C => ?_)
  have C : zCx p R s m args meth c cX8_layTale "TwoTrueModel" E zNM A 4 none 2 := C
  unfold qM_layTale
  refine zg_sub [0, 1, 2, 3] [(0, .ref (zad E 40 0)), (1, .int a0), (2, .int a1), (3, .int a2)] rfl ?_
  refine zg_aload_n C 0 1 rfl dX8_layTale_0 rfl ?_
  refine fgX8_35 C zn40 4 rfl dX8_layTale_1 ?_
  refine zg_iconst C (3 : Int32) 5 rfl dX8_layTale_4 (by decide) ?_
  refine zg_iload_n C 1 6 rfl dX8_layTale_5 rfl ?_
  refine zg_imul C 7 rfl dX8_layTale_6 ?_
  refine zg_iload_n C 2 8 rfl dX8_layTale_7 rfl ?_
  refine zg_iast C 9 rfl dX8_layTale_8 zn47 (fun _ _ => rfl) (fun M1 => ?_)
  refine zg_aload_n C 0 10 rfl dX8_layTale_9 rfl ?_
  refine fgX8_35 C zn40 13 rfl dX8_layTale_10 ?_
  refine zg_iconst C (3 : Int32) 14 rfl dX8_layTale_13 (by decide) ?_
  refine zg_iload_n C 1 15 rfl dX8_layTale_14 rfl ?_
  refine zg_imul C 16 rfl dX8_layTale_15 ?_
  refine zg_iconst C (1 : Int32) 17 rfl dX8_layTale_16 (by decide) ?_
  refine zg_iadd C 18 rfl dX8_layTale_17 ?_
  refine zg_iload_n C 3 19 rfl dX8_layTale_18 rfl ?_
  refine zg_iast C 20 rfl dX8_layTale_19 zn47 (fun _ _ => rfl) (fun M2 => ?_)
  refine zg_aload_n C 0 21 rfl dX8_layTale_20 rfl ?_
  refine fgX8_35 C zn40 24 rfl dX8_layTale_21 ?_
  refine zg_iconst C (3 : Int32) 25 rfl dX8_layTale_24 (by decide) ?_
  refine zg_iload_n C 1 26 rfl dX8_layTale_25 rfl ?_
  refine zg_imul C 27 rfl dX8_layTale_26 ?_
  refine zg_iconst C (2 : Int32) 28 rfl dX8_layTale_27 (by decide) ?_
  refine zg_iadd C 29 rfl dX8_layTale_28 ?_
  refine zg_iconst C (3 : Int32) 30 rfl dX8_layTale_29 (by decide) ?_
  refine zg_iload_n C 2 31 rfl dX8_layTale_30 rfl ?_
  refine zg_isub C 32 rfl dX8_layTale_31 ?_
  refine zg_iload_n C 3 33 rfl dX8_layTale_32 rfl ?_
  refine zg_isub C 34 rfl dX8_layTale_33 ?_
  refine zg_iast C 35 rfl dX8_layTale_34 zn47 (fun _ _ => rfl) (fun M3 => ?_)
  exact zg_vret C dX8_layTale_35 trivial
set_option maxHeartbeats 4000000 in
set_option maxRecDepth 100000 in
theorem tM_next {l : Launch} {E : zE} {A : Nat → Prop} (hD : zD E zNM A) (M : zM) : zCT l yX8_next cX8_next 1 (some .int) 2 E zNM A [.ref (zad E 40 0)] M zvI zoT (qM_next  M ) := by
  refine zCT_of (by decide) hD (by first | decide | exact Nat.le_of_ble_eq_true rfl) (fun p e R s m args below meth c C => ?_)
  have C : zCx p R s m args meth c cX8_next "TwoTrueModel" E zNM A 1 (some .int) 2 := C
  unfold qM_next
  refine zg_sub [0] [(0, .ref (zad E 40 0))] rfl ?_
  refine zg_aload_n C 0 1 rfl dX8_next_0 rfl ?_
  refine fgX8_50 C zn40 4 rfl dX8_next_1 ?_
  refine zg_aload_n C 0 5 rfl dX8_next_4 rfl ?_
  refine fgX8_47 C zn40 8 rfl dX8_next_5 ?_
  refine zg_icmp_ge C 23 11 rfl dX8_next_8 (by decide) ?_ ?_
  · refine zg_iconst C (-1 : Int32) 24 rfl dX8_next_23 (by decide) ?_
    exact zg_iret C dX8_next_24 trivial
  · refine zg_aload_n C 0 12 rfl dX8_next_11 rfl ?_
    refine fgX8_56 C zn40 15 rfl dX8_next_12 ?_
    refine zg_aload_n C 0 16 rfl dX8_next_15 rfl ?_
    refine fgX8_50 C zn40 19 rfl dX8_next_16 ?_
    refine zg_iald C 20 rfl dX8_next_19 zn49 rfl ?_
    refine zg_goto C 24 dX8_next_20 (by decide) ?_
    exact zg_iret C dX8_next_24 trivial
set_option maxHeartbeats 4000000 in
set_option maxRecDepth 100000 in
theorem tM_place {l : Launch} {E : zE} {A : Nat → Prop} (hD : zD E zNM A) (M : zM) (a0 : Int32) : zCT l yX8_place cX8_place 2 (some .int) 2 E zNM A [.ref (zad E 40 0), .int a0] M zvI zoT (qM_place  M a0) := by
  refine zCT_of (by decide) hD (by first | decide | exact Nat.le_of_ble_eq_true rfl) (fun p e R s m args below meth c C => ?_)
  have C : zCx p R s m args meth c cX8_place "TwoTrueModel" E zNM A 2 (some .int) 2 := C
  unfold qM_place
  refine zg_sub [1] [(1, .int a0)] rfl ?_
  refine zg_iload_n C 0 1 rfl dX8_place_0 rfl ?_
  refine zg_if (fun h1 => ?_) (fun h1 => ?_)
  · refine zg_tabIn C 103 (71) 72 dX8_place_1 (zxi h1 (by decide)) (by decide) (by decide) rfl (by decide) ?_
    refine zg_iconst C (0 : Int32) 73 rfl dX8_place_72 (by decide) ?_
    exact zg_iret C dX8_place_73 trivial
  · refine zg_if (fun h2 => ?_) (fun h2 => ?_)
    · refine zg_tabIn C 104 (83) 84 dX8_place_1 (zxi h2 (by decide)) (by decide) (by decide) rfl (by decide) ?_
      refine zg_iconst C (-1 : Int32) 85 rfl dX8_place_84 (by decide) ?_
      exact zg_iret C dX8_place_85 trivial
    · refine zg_if (fun h3 => ?_) (fun h3 => ?_)
      · refine zg_tabIn C 105 (83) 84 dX8_place_1 (zxi h3 (by decide)) (by decide) (by decide) rfl (by decide) ?_
        refine zg_iconst C (-1 : Int32) 85 rfl dX8_place_84 (by decide) ?_
        exact zg_iret C dX8_place_85 trivial
      · refine zg_if (fun h4 => ?_) (fun h4 => ?_)
        · refine zg_tabIn C 106 (83) 84 dX8_place_1 (zxi h4 (by decide)) (by decide) (by decide) rfl (by decide) ?_
          refine zg_iconst C (-1 : Int32) 85 rfl dX8_place_84 (by decide) ?_
          exact zg_iret C dX8_place_85 trivial
        · refine zg_if (fun h5 => ?_) (fun h5 => ?_)
          · refine zg_tabIn C 107 (73) 74 dX8_place_1 (zxi h5 (by decide)) (by decide) (by decide) rfl (by decide) ?_
            refine zg_iconst C (1 : Int32) 75 rfl dX8_place_74 (by decide) ?_
            exact zg_iret C dX8_place_75 trivial
          · refine zg_if (fun h6 => ?_) (fun h6 => ?_)
            · refine zg_tabIn C 108 (79) 80 dX8_place_1 (zxi h6 (by decide)) (by decide) (by decide) rfl (by decide) ?_
              refine zg_iconst C (4 : Int32) 81 rfl dX8_place_80 (by decide) ?_
              exact zg_iret C dX8_place_81 trivial
            · refine zg_if (fun h7 => ?_) (fun h7 => ?_)
              · refine zg_tabIn C 109 (83) 84 dX8_place_1 (zxi h7 (by decide)) (by decide) (by decide) rfl (by decide) ?_
                refine zg_iconst C (-1 : Int32) 85 rfl dX8_place_84 (by decide) ?_
                exact zg_iret C dX8_place_85 trivial
              · refine zg_if (fun h8 => ?_) (fun h8 => ?_)
                · refine zg_tabIn C 110 (81) 82 dX8_place_1 (zxi h8 (by decide)) (by decide) (by decide) rfl (by decide) ?_
                  refine zg_iconst C (5 : Int32) 83 rfl dX8_place_82 (by decide) ?_
                  exact zg_iret C dX8_place_83 trivial
                · refine zg_if (fun h9 => ?_) (fun h9 => ?_)
                  · refine zg_tabIn C 111 (83) 84 dX8_place_1 (zxi h9 (by decide)) (by decide) (by decide) rfl (by decide) ?_
                    refine zg_iconst C (-1 : Int32) 85 rfl dX8_place_84 (by decide) ?_
                    exact zg_iret C dX8_place_85 trivial
                  · refine zg_if (fun h10 => ?_) (fun h10 => ?_)
                    · refine zg_tabIn C 112 (77) 78 dX8_place_1 (zxi h10 (by decide)) (by decide) (by decide) rfl (by decide) ?_
                      refine zg_iconst C (3 : Int32) 79 rfl dX8_place_78 (by decide) ?_
                      exact zg_iret C dX8_place_79 trivial
                    · refine zg_if (fun h11 => ?_) (fun h11 => ?_)
                      · refine zg_tabIn C 113 (83) 84 dX8_place_1 (zxi h11 (by decide)) (by decide) (by decide) rfl (by decide) ?_
                        refine zg_iconst C (-1 : Int32) 85 rfl dX8_place_84 (by decide) ?_
                        exact zg_iret C dX8_place_85 trivial
                      · refine zg_if (fun h12 => ?_) (fun h12 => ?_)
                        · refine zg_tabIn C 114 (83) 84 dX8_place_1 (zxi h12 (by decide)) (by decide) (by decide) rfl (by decide) ?_
                          refine zg_iconst C (-1 : Int32) 85 rfl dX8_place_84 (by decide) ?_
                          exact zg_iret C dX8_place_85 trivial
                        · refine zg_if (fun h13 => ?_) (fun h13 => ?_)
                          · refine zg_tabIn C 115 (83) 84 dX8_place_1 (zxi h13 (by decide)) (by decide) (by decide) rfl (by decide) ?_
                            refine zg_iconst C (-1 : Int32) 85 rfl dX8_place_84 (by decide) ?_
                            exact zg_iret C dX8_place_85 trivial
                          · refine zg_if (fun h14 => ?_) (fun h14 => ?_)
                            · refine zg_tabIn C 116 (75) 76 dX8_place_1 (zxi h14 (by decide)) (by decide) (by decide) rfl (by decide) ?_
                              refine zg_iconst C (2 : Int32) 77 rfl dX8_place_76 (by decide) ?_
                              exact zg_iret C dX8_place_77 trivial
                            · refine zg_tabOut C 84 dX8_place_1 (by have gh1 := zxn h1 (by decide : (103 : Int32).toInt = 103); have gh2 := zxn h2 (by decide : (104 : Int32).toInt = 104); have gh3 := zxn h3 (by decide : (105 : Int32).toInt = 105); have gh4 := zxn h4 (by decide : (106 : Int32).toInt = 106); have gh5 := zxn h5 (by decide : (107 : Int32).toInt = 107); have gh6 := zxn h6 (by decide : (108 : Int32).toInt = 108); have gh7 := zxn h7 (by decide : (109 : Int32).toInt = 109); have gh8 := zxn h8 (by decide : (110 : Int32).toInt = 110); have gh9 := zxn h9 (by decide : (111 : Int32).toInt = 111); have gh10 := zxn h10 (by decide : (112 : Int32).toInt = 112); have gh11 := zxn h11 (by decide : (113 : Int32).toInt = 113); have gh12 := zxn h12 (by decide : (114 : Int32).toInt = 114); have gh13 := zxn h13 (by decide : (115 : Int32).toInt = 115); have gh14 := zxn h14 (by decide : (116 : Int32).toInt = 116); omega) (by decide) ?_
                              refine zg_iconst C (-1 : Int32) 85 rfl dX8_place_84 (by decide) ?_
                              exact zg_iret C dX8_place_85 trivial
set_option maxHeartbeats 4000000 in
set_option maxRecDepth 100000 in
theorem tM_emits {l : Launch} {E : zE} {A : Nat → Prop} (hD : zD E zNM A) (M : zM) (a0 : Int32) : zCT l yX8_emits cX8_emits 2 none 2 E zNM A [.ref (zad E 40 0), .int a0] M zvU zoT (qM_emits  M a0) := by
  refine zCT_of (by decide) hD (by first | decide | exact Nat.le_of_ble_eq_true rfl) (fun p e R s m args below meth c C => ?_)
  have C : zCx p R s m args meth c cX8_emits "TwoTrueModel" E zNM A 2 none 2 := C
  unfold qM_emits
  refine zg_sub [0, 1] [(0, .ref (zad E 40 0)), (1, .int a0)] rfl ?_
  refine zg_aload_n C 0 1 rfl dX8_emits_0 rfl ?_
  refine fgX8_74 C zn40 4 rfl dX8_emits_1 ?_
  refine zg_aload_n C 0 5 rfl dX8_emits_4 rfl ?_
  refine fgX8_80 C zn40 8 rfl dX8_emits_5 ?_
  refine zg_iload_n C 1 9 rfl dX8_emits_8 rfl ?_
  refine zg_iast C 10 rfl dX8_emits_9 zn55 (fun _ _ => rfl) (fun M1 => ?_)
  refine zg_aload_n C 0 11 rfl dX8_emits_10 rfl ?_
  refine zg_dup C rfl 12 rfl dX8_emits_11 ?_
  refine fgX8_80 C zn40 15 rfl dX8_emits_12 ?_
  refine zg_iconst C (1 : Int32) 16 rfl dX8_emits_15 (by decide) ?_
  refine zg_iadd C 17 rfl dX8_emits_16 ?_
  refine fpX8_80 C zn40 20 rfl dX8_emits_17 (fun M2 => ?_)
  exact zg_vret C dX8_emits_20 trivial
set_option maxHeartbeats 4000000 in
set_option maxRecDepth 100000 in
theorem tM_begin {l : Launch} {E : zE} {A : Nat → Prop} (hD : zD E zNM A) (M : zM) : zCT l yX8_begin cX8_begin 1 (some .int) 2 E zNM A [.ref (zad E 40 0)] M zvI zoT (qM_begin  M ) := by
  refine zCT_of (by decide) hD (by first | decide | exact Nat.le_of_ble_eq_true rfl) (fun p e R s m args below meth c C => ?_)
  have C : zCx p R s m args meth c cX8_begin "TwoTrueModel" E zNM A 1 (some .int) 2 := C
  unfold qM_begin
  refine zg_sub [0] [(0, .ref (zad E 40 0))] rfl ?_
  refine zg_aload_n C 0 1 rfl dX8_begin_0 rfl ?_
  refine fgX8_44 C zn40 4 rfl dX8_begin_1 ?_
  refine zg_if_ge C 11 7 rfl dX8_begin_4 (by decide) ?_ ?_
  · refine zg_bipush C (10 : Int32) 13 rfl dX8_begin_11 (by decide) ?_
    refine zg_aload_n C 0 14 rfl dX8_begin_13 rfl ?_
    refine fgX8_44 C zn40 17 rfl dX8_begin_14 ?_
    refine zg_imul C 18 rfl dX8_begin_17 ?_
    exact zg_iret C dX8_begin_18 trivial
  · refine zg_iconst C (0 : Int32) 8 rfl dX8_begin_7 (by decide) ?_
    refine zg_goto C 18 dX8_begin_8 (by decide) ?_
    exact zg_iret C dX8_begin_18 trivial
set_option maxHeartbeats 4000000 in
set_option maxRecDepth 100000 in
theorem tM_behind {l : Launch} {E : zE} {A : Nat → Prop} (hD : zD E zNM A) (M : zM) : zCT l yX8_behind cX8_behind 1 (some .int) 2 E zNM A [.ref (zad E 40 0)] M zvI zoT (qM_behind  M ) := by
  refine zCT_of (by decide) hD (by first | decide | exact Nat.le_of_ble_eq_true rfl) (fun p e R s m args below meth c C => ?_)
  have C : zCx p R s m args meth c cX8_behind "TwoTrueModel" E zNM A 1 (some .int) 2 := C
  unfold qM_behind
  refine zg_sub [0] [(0, .ref (zad E 40 0))] rfl ?_
  refine zg_aload_n C 0 1 rfl dX8_behind_0 rfl ?_
  refine fgX8_44 C zn40 4 rfl dX8_behind_1 ?_
  refine zg_if_ge C 11 7 rfl dX8_behind_4 (by decide) ?_ ?_
  · refine zg_bipush C (10 : Int32) 13 rfl dX8_behind_11 (by decide) ?_
    refine zg_aload_n C 0 14 rfl dX8_behind_13 rfl ?_
    refine fgX8_44 C zn40 17 rfl dX8_behind_14 ?_
    refine zg_imul C 18 rfl dX8_behind_17 ?_
    refine zg_aload_n C 0 19 rfl dX8_behind_18 rfl ?_
    refine fgX8_59 C zn40 22 rfl dX8_behind_19 ?_
    refine zg_aload_n C 0 23 rfl dX8_behind_22 rfl ?_
    refine fgX8_44 C zn40 26 rfl dX8_behind_23 ?_
    refine zg_iald C 27 rfl dX8_behind_26 zn50 rfl ?_
    refine zg_iadd C 28 rfl dX8_behind_27 ?_
    exact zg_iret C dX8_behind_28 trivial
  · refine zg_iconst C (0 : Int32) 8 rfl dX8_behind_7 (by decide) ?_
    refine zg_goto C 28 dX8_behind_8 (by decide) ?_
    exact zg_iret C dX8_behind_28 trivial
set_option maxHeartbeats 4000000 in
set_option maxRecDepth 100000 in
theorem tM_factOf {l : Launch} {E : zE} {A : Nat → Prop} (hD : zD E zNM A) (M : zM) (a0 : Int32) (a1 : Int32) (a2 : Int32) (a3 : Int32) : zCT l yX8_factOf cX8_factOf 6 (some .int) 2 E zNM A [.ref (zad E 40 0), .int a0, .int a1, .int a2, .int a3] M zvI zoT (qM_factOf  M a0 a1 a2 a3) := by
  refine zCT_of (by decide) hD (by first | decide | exact Nat.le_of_ble_eq_true rfl) (fun p e R s m args below meth c C => ?_)
  have C : zCx p R s m args meth c cX8_factOf "TwoTrueModel" E zNM A 6 (some .int) 2 := C
  unfold qM_factOf
  refine zg_sub [0, 1, 2, 3, 4] [(0, .ref (zad E 40 0)), (1, .int a0), (2, .int a1), (3, .int a2), (4, .int a3)] rfl ?_
  refine zg_iconst C (3 : Int32) 1 rfl dX8_factOf_0 (by decide) ?_
  refine zg_iload_n C 3 2 rfl dX8_factOf_1 rfl ?_
  refine zg_imul C 3 rfl dX8_factOf_2 ?_
  refine zg_aload_n C 0 4 rfl dX8_factOf_3 rfl ?_
  refine fgX8_35 C zn40 7 rfl dX8_factOf_4 ?_
  refine zg_iconst C (3 : Int32) 8 rfl dX8_factOf_7 (by decide) ?_
  refine zg_iload_n C 3 9 rfl dX8_factOf_8 rfl ?_
  refine zg_imul C 10 rfl dX8_factOf_9 ?_
  refine zg_iload C 4 12 rfl dX8_factOf_10 rfl ?_
  refine zg_iadd C 13 rfl dX8_factOf_12 ?_
  refine zg_iald C 14 rfl dX8_factOf_13 zn47 rfl ?_
  refine zg_iadd C 15 rfl dX8_factOf_14 ?_
  refine zg_nmI (fun x1 => ?_)
  refine zg_istore C 5 [(5, .int x1), (0, .ref (zad E 40 0)), (1, .int a0), (2, .int a1), (3, .int a2), (4, .int a3)] 17 rfl dX8_factOf_15 (by decide) rfl ?_
  refine zg_iload_n C 2 18 rfl dX8_factOf_17 rfl ?_
  refine zg_if (fun h2 => ?_) (fun h2 => ?_)
  · refine zg_tabIn C 0 (34) 52 dX8_factOf_18 (zxi h2 (by decide)) (by decide) (by decide) rfl (by decide) ?_
    refine zg_iload_n C 3 53 rfl dX8_factOf_52 rfl ?_
    exact zg_iret C dX8_factOf_53 trivial
  · refine zg_if (fun h3 => ?_) (fun h3 => ?_)
    · refine zg_tabIn C 1 (36) 54 dX8_factOf_18 (zxi h3 (by decide)) (by decide) (by decide) rfl (by decide) ?_
      refine zg_aload_n C 1 55 rfl dX8_factOf_54 rfl ?_
      refine fgX8_16 C zn40 58 rfl dX8_factOf_55 ?_
      refine zg_iload_n C 3 59 rfl dX8_factOf_58 rfl ?_
      refine zg_iald C 60 rfl dX8_factOf_59 zn41 rfl ?_
      exact zg_iret C dX8_factOf_60 trivial
    · refine zg_if (fun h4 => ?_) (fun h4 => ?_)
      · refine zg_tabIn C 2 (43) 61 dX8_factOf_18 (zxi h4 (by decide)) (by decide) (by decide) rfl (by decide) ?_
        refine zg_iload_n C 4 62 rfl dX8_factOf_61 rfl ?_
        exact zg_iret C dX8_factOf_62 trivial
      · refine zg_if (fun h5 => ?_) (fun h5 => ?_)
        · refine zg_tabIn C 3 (45) 63 dX8_factOf_18 (zxi h5 (by decide)) (by decide) (by decide) rfl (by decide) ?_
          refine zg_iload C 5 65 rfl dX8_factOf_63 rfl ?_
          exact zg_iret C dX8_factOf_65 trivial
        · refine zg_if (fun h6 => ?_) (fun h6 => ?_)
          · refine zg_tabIn C 4 (48) 66 dX8_factOf_18 (zxi h6 (by decide)) (by decide) (by decide) rfl (by decide) ?_
            refine zg_aload_n C 1 67 rfl dX8_factOf_66 rfl ?_
            refine fgX8_29 C zn40 70 rfl dX8_factOf_67 ?_
            refine zg_iload C 0 72 rfl dX8_factOf_70 rfl ?_
            refine zg_iald C 73 rfl dX8_factOf_72 zn45 rfl ?_
            refine zg_bipush C (10 : Int32) 75 rfl dX8_factOf_73 (by decide) ?_
            refine zg_idivK C 76 rfl dX8_factOf_75 (by decide) ?_
            exact zg_iret C dX8_factOf_76 trivial
          · refine zg_tabOut C 77 dX8_factOf_18 (by have gh2 := zxn h2 (by decide : (0 : Int32).toInt = 0); have gh3 := zxn h3 (by decide : (1 : Int32).toInt = 1); have gh4 := zxn h4 (by decide : (2 : Int32).toInt = 2); have gh5 := zxn h5 (by decide : (3 : Int32).toInt = 3); have gh6 := zxn h6 (by decide : (4 : Int32).toInt = 4); omega) (by decide) ?_
            refine zg_aload_n C 1 78 rfl dX8_factOf_77 rfl ?_
            refine fgX8_32 C zn40 81 rfl dX8_factOf_78 ?_
            refine zg_iload C 0 83 rfl dX8_factOf_81 rfl ?_
            refine zg_iald C 84 rfl dX8_factOf_83 zn46 rfl ?_
            exact zg_iret C dX8_factOf_84 trivial
set_option maxHeartbeats 4000000 in
set_option maxRecDepth 100000 in
theorem tM_clearHands_L2 {p : Program} {l : Launch} {e : Env} {R : Room} {s : State} {m : MethodId} {args : Array Value} {below : List Frame} {meth : Method} {c : Code} {E : zE} {A : Nat → Prop} (C : zCx p R s m args meth c cX8_clearHands "TwoTrueModel" E zNM A 2 none 2) (hD : zD E zNM A) : ∀ (n : Nat) (M : zM) (v1 : Int32), zG p l e R s m args below meth c E zNM A 2 zvU zoT 2 [(0, .ref (zad E 40 0)), (1, .int v1)] [] M (qM_clearHands_L2 n M v1) := by
  intro n
  induction n with
  | zero =>
    intro M v1
    exact zg_none
  | succ n ih =>
    intro M v1
    rw [qM_clearHands_L2]
    refine zg_iload_n C 1 3 rfl dX8_clearHands_2 rfl ?_
    refine zg_iconst C (3 : Int32) 4 rfl dX8_clearHands_3 (by decide) ?_
    refine zg_icmp_ge C 20 7 rfl dX8_clearHands_4 (by decide) ?_ ?_
    · exact zg_vret C dX8_clearHands_20 trivial
    · refine zg_aload_n C 0 8 rfl dX8_clearHands_7 rfl ?_
      refine fgX8_96 C zn40 11 rfl dX8_clearHands_8 ?_
      refine zg_iload_n C 1 12 rfl dX8_clearHands_11 rfl ?_
      refine zg_iconst C (0 : Int32) 13 rfl dX8_clearHands_12 (by decide) ?_
      refine zg_iast C 14 rfl dX8_clearHands_13 zn59 (fun _ _ => rfl) (fun M1 => ?_)
      refine zg_iinc C 1 (v1 + (1 : Int32)) [(1, .int (v1 + (1 : Int32))), (0, .ref (zad E 40 0))] 17 rfl dX8_clearHands_14 rfl (congrArg (fun z : Int32 => v1 + z) (by decide : Int32.ofInt (1) = (1 : Int32))) (by decide) rfl ?_
      refine zg_goto C 2 dX8_clearHands_17 (by decide) ?_
      refine zg_sub [1, 0] [(0, .ref (zad E 40 0)), (1, .int (v1 + (1 : Int32)))] rfl ?_
      exact ih M1 (v1 + (1 : Int32))
set_option maxHeartbeats 4000000 in
set_option maxRecDepth 100000 in
theorem tM_clearHands {l : Launch} {E : zE} {A : Nat → Prop} (hD : zD E zNM A) (M : zM) : zCT l yX8_clearHands cX8_clearHands 2 none 2 E zNM A [.ref (zad E 40 0)] M zvU zoT (qM_clearHands  M ) := by
  refine zCT_of (by decide) hD (by first | decide | exact Nat.le_of_ble_eq_true rfl) (fun p e R s m args below meth c C => ?_)
  have C : zCx p R s m args meth c cX8_clearHands "TwoTrueModel" E zNM A 2 none 2 := C
  unfold qM_clearHands
  refine zg_sub [0] [(0, .ref (zad E 40 0))] rfl ?_
  refine zg_iconst C (0 : Int32) 1 rfl dX8_clearHands_0 (by decide) ?_
  refine zg_istore_n C 1 [(1, .int (0 : Int32)), (0, .ref (zad E 40 0))] 2 rfl dX8_clearHands_1 rfl (by decide) rfl ?_
  refine zg_sub [1, 0] [(0, .ref (zad E 40 0)), (1, .int (0 : Int32))] rfl ?_
  refine tM_clearHands_L2 C hD   1000 M (0 : Int32)
set_option maxHeartbeats 4000000 in
set_option maxRecDepth 100000 in
theorem tM_liePlace_L2 {p : Program} {l : Launch} {e : Env} {R : Room} {s : State} {m : MethodId} {args : Array Value} {below : List Frame} {meth : Method} {c : Code} {E : zE} {A : Nat → Prop} (C : zCx p R s m args meth c cX8_liePlace "TwoTrueModel" E zNM A 3 (some .int) 2) (hD : zD E zNM A) (c1 : Int32) : ∀ (n : Nat) (M : zM) (v2 : Int32), zG p l e R s m args below meth c E zNM A 3 zvI zoT 2 [(0, .ref (zad E 40 0)), (1, .int c1), (2, .int v2)] [] M (qM_liePlace_L2 c1 n M v2) := by
  intro n
  induction n with
  | zero =>
    intro M v2
    exact zg_none
  | succ n ih =>
    intro M v2
    rw [qM_liePlace_L2]
    refine zg_aload_n C 0 3 rfl dX8_liePlace_2 rfl ?_
    refine fgX8_35 C zn40 6 rfl dX8_liePlace_3 ?_
    refine zg_iconst C (3 : Int32) 7 rfl dX8_liePlace_6 (by decide) ?_
    refine zg_iload_n C 1 8 rfl dX8_liePlace_7 rfl ?_
    refine zg_imul C 9 rfl dX8_liePlace_8 ?_
    refine zg_iload_n C 2 10 rfl dX8_liePlace_9 rfl ?_
    refine zg_iadd C 11 rfl dX8_liePlace_10 ?_
    refine zg_iald C 12 rfl dX8_liePlace_11 zn47 rfl ?_
    refine zg_aload_n C 0 13 rfl dX8_liePlace_12 rfl ?_
    refine fgX8_26 C zn40 16 rfl dX8_liePlace_13 ?_
    refine zg_iload_n C 1 17 rfl dX8_liePlace_16 rfl ?_
    refine zg_iald C 18 rfl dX8_liePlace_17 zn44 rfl ?_
    refine zg_icmp_eq C 27 21 rfl dX8_liePlace_18 (by decide) ?_ ?_
    · refine zg_iload_n C 2 28 rfl dX8_liePlace_27 rfl ?_
      exact zg_iret C dX8_liePlace_28 trivial
    · refine zg_iinc C 2 (v2 + (1 : Int32)) [(2, .int (v2 + (1 : Int32))), (0, .ref (zad E 40 0)), (1, .int c1)] 24 rfl dX8_liePlace_21 rfl (congrArg (fun z : Int32 => v2 + z) (by decide : Int32.ofInt (1) = (1 : Int32))) (by decide) rfl ?_
      refine zg_goto C 2 dX8_liePlace_24 (by decide) ?_
      refine zg_sub [1, 2, 0] [(0, .ref (zad E 40 0)), (1, .int c1), (2, .int (v2 + (1 : Int32)))] rfl ?_
      exact ih M (v2 + (1 : Int32))
set_option maxHeartbeats 4000000 in
set_option maxRecDepth 100000 in
theorem tM_liePlace {l : Launch} {E : zE} {A : Nat → Prop} (hD : zD E zNM A) (M : zM) (a0 : Int32) : zCT l yX8_liePlace cX8_liePlace 3 (some .int) 2 E zNM A [.ref (zad E 40 0), .int a0] M zvI zoT (qM_liePlace  M a0) := by
  refine zCT_of (by decide) hD (by first | decide | exact Nat.le_of_ble_eq_true rfl) (fun p e R s m args below meth c C => ?_)
  have C : zCx p R s m args meth c cX8_liePlace "TwoTrueModel" E zNM A 3 (some .int) 2 := C
  unfold qM_liePlace
  refine zg_sub [0, 1] [(0, .ref (zad E 40 0)), (1, .int a0)] rfl ?_
  refine zg_iconst C (0 : Int32) 1 rfl dX8_liePlace_0 (by decide) ?_
  refine zg_istore_n C 2 [(2, .int (0 : Int32)), (0, .ref (zad E 40 0)), (1, .int a0)] 2 rfl dX8_liePlace_1 rfl (by decide) rfl ?_
  refine zg_sub [1, 2, 0] [(0, .ref (zad E 40 0)), (1, .int a0), (2, .int (0 : Int32))] rfl ?_
  refine tM_liePlace_L2 C hD a0  1000 M (0 : Int32)
set_option maxHeartbeats 4000000 in
set_option maxRecDepth 100000 in
theorem tM_has {l : Launch} {E : zE} {A : Nat → Prop} (hD : zD E zNM A) (M : zM) (a0 : Int32) (a1 : Int32) : zCT l yX8_has cX8_has 3 (some .boolean) 2 E zNM A [.ref (zad E 40 0), .int a0, .int a1] M zvI zoB (qM_has  M a0 a1) := by
  refine zCT_of (by decide) hD (by first | decide | exact Nat.le_of_ble_eq_true rfl) (fun p e R s m args below meth c C => ?_)
  have C : zCx p R s m args meth c cX8_has "TwoTrueModel" E zNM A 3 (some .boolean) 2 := C
  unfold qM_has
  refine zg_sub [1, 2] [(1, .int a0), (2, .int a1)] rfl ?_
  refine zg_iload_n C 0 1 rfl dX8_has_0 rfl ?_
  refine zg_iload_n C 1 2 rfl dX8_has_1 rfl ?_
  refine zg_ishr C 3 rfl dX8_has_2 ?_
  refine zg_iconst C (1 : Int32) 4 rfl dX8_has_3 (by decide) ?_
  refine zg_iand C 5 rfl dX8_has_4 ?_
  refine zg_iconst C (1 : Int32) 6 rfl dX8_has_5 (by decide) ?_
  refine zg_icmp_ne C 13 9 rfl dX8_has_6 (by decide) ?_ ?_
  · refine zg_iconst C (1 : Int32) 10 rfl dX8_has_9 (by decide) ?_
    refine zg_goto C 14 dX8_has_10 (by decide) ?_
    exact zg_zret C dX8_has_14 rfl rfl
  · refine zg_iconst C (0 : Int32) 14 rfl dX8_has_13 (by decide) ?_
    exact zg_zret C dX8_has_14 rfl rfl
set_option maxHeartbeats 4000000 in
set_option maxRecDepth 100000 in
theorem tM_divisor_L5 {p : Program} {l : Launch} {e : Env} {R : Room} {s : State} {m : MethodId} {args : Array Value} {below : List Frame} {meth : Method} {c : Code} {E : zE} {A : Nat → Prop} (C : zCx p R s m args meth c cX8_divisor "TwoTrueModel" E zNM A 6 (some .int) 2) (hD : zD E zNM A) : ∀ (n : Nat) (M : zM) (v3 : Int32) (v4 : Int32), zG p l e R s m args below meth c E zNM A 6 zvI zoT 5 [(3, .int v3), (4, .int v4)] [] M (qM_divisor_L5 n M v3 v4) := by
  intro n
  induction n with
  | zero =>
    intro M v3 v4
    exact zg_none
  | succ n ih =>
    intro M v3 v4
    rw [qM_divisor_L5]
    refine zg_iload C 1 7 rfl dX8_divisor_5 rfl ?_
    refine zg_if_eq C 26 10 rfl dX8_divisor_7 (by decide) ?_ ?_
    · refine zg_iload_n C 0 27 rfl dX8_divisor_26 rfl ?_
      exact zg_iret C dX8_divisor_27 trivial
    · refine zg_iload_n C 0 11 rfl dX8_divisor_10 rfl ?_
      refine zg_iload C 1 13 rfl dX8_divisor_11 rfl ?_
      refine zg_irem C 14 rfl dX8_divisor_13 ?_
      refine zg_nmI (fun x1 => ?_)
      refine zg_istore C 5 [(5, .int x1), (3, .int v3), (4, .int v4)] 16 rfl dX8_divisor_14 (by decide) rfl ?_
      refine zg_iload C 2 18 rfl dX8_divisor_16 rfl ?_
      refine zg_istore_n C 3 [(3, .int v4), (5, .int x1), (4, .int v4)] 19 rfl dX8_divisor_18 rfl (by decide) rfl ?_
      refine zg_iload C 1 21 rfl dX8_divisor_19 rfl ?_
      refine zg_istore C 4 [(4, .int x1), (3, .int v4), (5, .int x1)] 23 rfl dX8_divisor_21 (by decide) rfl ?_
      refine zg_goto C 5 dX8_divisor_23 (by decide) ?_
      refine zg_sub [1, 0] [(3, .int v4), (4, .int x1)] rfl ?_
      exact ih M v4 x1
set_option maxHeartbeats 4000000 in
set_option maxRecDepth 100000 in
theorem tM_divisor {l : Launch} {E : zE} {A : Nat → Prop} (hD : zD E zNM A) (M : zM) (a0 : Int32) (a1 : Int32) : zCT l yX8_divisor cX8_divisor 6 (some .int) 2 E zNM A [.ref (zad E 40 0), .int a0, .int a1] M zvI zoT (qM_divisor  M a0 a1) := by
  refine zCT_of (by decide) hD (by first | decide | exact Nat.le_of_ble_eq_true rfl) (fun p e R s m args below meth c C => ?_)
  have C : zCx p R s m args meth c cX8_divisor "TwoTrueModel" E zNM A 6 (some .int) 2 := C
  unfold qM_divisor
  refine zg_sub [1, 2] [(1, .int a0), (2, .int a1)] rfl ?_
  refine zg_iload_n C 0 1 rfl dX8_divisor_0 rfl ?_
  refine zg_istore_n C 3 [(3, .int a0), (1, .int a0), (2, .int a1)] 2 rfl dX8_divisor_1 rfl (by decide) rfl ?_
  refine zg_iload_n C 2 3 rfl dX8_divisor_2 rfl ?_
  refine zg_istore C 4 [(4, .int a1), (3, .int a0), (1, .int a0), (2, .int a1)] 5 rfl dX8_divisor_3 (by decide) rfl ?_
  refine zg_sub [1, 0] [(3, .int a0), (4, .int a1)] rfl ?_
  refine tM_divisor_L5 C hD   1000 M a0 a1
set_option maxHeartbeats 4000000 in
set_option maxRecDepth 100000 in
theorem tM_image_L39 {p : Program} {l : Launch} {e : Env} {R : Room} {s : State} {m : MethodId} {args : Array Value} {below : List Frame} {meth : Method} {c : Code} {E : zE} {A : Nat → Prop} (C : zCx p R s m args meth c cX8_image "TwoTrueModel" E zNM A 2 (some .int) 2) (hD : zD E zNM A) {e99 : zM → Option (Int32 × zM)} (he99 : ∀ (M : zM), zG p l e R s m args below meth c E zNM A 2 zvI zoT 99 [(0, .ref (zad E 40 0))] [] M (e99 M )) : ∀ (n : Nat) (M : zM) (v1 : Int32), zG p l e R s m args below meth c E zNM A 2 zvI zoT 39 [(0, .ref (zad E 40 0)), (1, .int v1)] [] M (qM_image_L39 e99 n M v1) := by
  intro n
  induction n with
  | zero =>
    intro M v1
    exact zg_none
  | succ n ih =>
    intro M v1
    rw [qM_image_L39]
    refine zg_iload_n C 1 40 rfl dX8_image_39 rfl ?_
    refine zg_bipush C (6 : Int32) 42 rfl dX8_image_40 (by decide) ?_
    refine zg_icmp_ge C 99 45 rfl dX8_image_42 (by decide) ?_ ?_
    · refine zg_sub [0] [(0, .ref (zad E 40 0))] rfl ?_
      exact he99 M 
    · refine zg_aload_n C 0 46 rfl dX8_image_45 rfl ?_
      refine fgX8_154 C zn40 49 rfl dX8_image_46 ?_
      refine zg_iload_n C 1 50 rfl dX8_image_49 rfl ?_
      refine zg_aload_n C 0 51 rfl dX8_image_50 rfl ?_
      refine fgX8_16 C zn40 54 rfl dX8_image_51 ?_
      refine zg_iload_n C 1 55 rfl dX8_image_54 rfl ?_
      refine zg_iald C 56 rfl dX8_image_55 zn41 rfl ?_
      refine zg_iast C 57 rfl dX8_image_56 zn69 (fun _ _ => rfl) (fun M6 => ?_)
      refine zg_aload_n C 0 58 rfl dX8_image_57 rfl ?_
      refine fgX8_157 C zn40 61 rfl dX8_image_58 ?_
      refine zg_iload_n C 1 62 rfl dX8_image_61 rfl ?_
      refine zg_aload_n C 0 63 rfl dX8_image_62 rfl ?_
      refine fgX8_20 C zn40 66 rfl dX8_image_63 ?_
      refine zg_iload_n C 1 67 rfl dX8_image_66 rfl ?_
      refine zg_iald C 68 rfl dX8_image_67 zn42 rfl ?_
      refine zg_iast C 69 rfl dX8_image_68 zn70 (fun _ _ => rfl) (fun M7 => ?_)
      refine zg_aload_n C 0 70 rfl dX8_image_69 rfl ?_
      refine fgX8_160 C zn40 73 rfl dX8_image_70 ?_
      refine zg_iload_n C 1 74 rfl dX8_image_73 rfl ?_
      refine zg_aload_n C 0 75 rfl dX8_image_74 rfl ?_
      refine fgX8_23 C zn40 78 rfl dX8_image_75 ?_
      refine zg_iload_n C 1 79 rfl dX8_image_78 rfl ?_
      refine zg_iald C 80 rfl dX8_image_79 zn43 rfl ?_
      refine zg_iast C 81 rfl dX8_image_80 zn71 (fun _ _ => rfl) (fun M8 => ?_)
      refine zg_aload_n C 0 82 rfl dX8_image_81 rfl ?_
      refine fgX8_163 C zn40 85 rfl dX8_image_82 ?_
      refine zg_iload_n C 1 86 rfl dX8_image_85 rfl ?_
      refine zg_aload_n C 0 87 rfl dX8_image_86 rfl ?_
      refine fgX8_26 C zn40 90 rfl dX8_image_87 ?_
      refine zg_iload_n C 1 91 rfl dX8_image_90 rfl ?_
      refine zg_iald C 92 rfl dX8_image_91 zn44 rfl ?_
      refine zg_iast C 93 rfl dX8_image_92 zn72 (fun _ _ => rfl) (fun M9 => ?_)
      refine zg_iinc C 1 (v1 + (1 : Int32)) [(1, .int (v1 + (1 : Int32))), (0, .ref (zad E 40 0))] 96 rfl dX8_image_93 rfl (congrArg (fun z : Int32 => v1 + z) (by decide : Int32.ofInt (1) = (1 : Int32))) (by decide) rfl ?_
      refine zg_goto C 39 dX8_image_96 (by decide) ?_
      refine zg_sub [1, 0] [(0, .ref (zad E 40 0)), (1, .int (v1 + (1 : Int32)))] rfl ?_
      exact ih M9 (v1 + (1 : Int32))
set_option maxHeartbeats 4000000 in
set_option maxRecDepth 100000 in
theorem tM_image_L101 {p : Program} {l : Launch} {e : Env} {R : Room} {s : State} {m : MethodId} {args : Array Value} {below : List Frame} {meth : Method} {c : Code} {E : zE} {A : Nat → Prop} (C : zCx p R s m args meth c cX8_image "TwoTrueModel" E zNM A 2 (some .int) 2) (hD : zD E zNM A) {e149 : zM → Option (Int32 × zM)} (he149 : ∀ (M : zM), zG p l e R s m args below meth c E zNM A 2 zvI zoT 149 [(0, .ref (zad E 40 0))] [] M (e149 M )) : ∀ (n : Nat) (M : zM) (v1 : Int32), zG p l e R s m args below meth c E zNM A 2 zvI zoT 101 [(0, .ref (zad E 40 0)), (1, .int v1)] [] M (qM_image_L101 e149 n M v1) := by
  intro n
  induction n with
  | zero =>
    intro M v1
    exact zg_none
  | succ n ih =>
    intro M v1
    rw [qM_image_L101]
    refine zg_iload_n C 1 102 rfl dX8_image_101 rfl ?_
    refine zg_bipush C (18 : Int32) 104 rfl dX8_image_102 (by decide) ?_
    refine zg_icmp_ge C 149 107 rfl dX8_image_104 (by decide) ?_ ?_
    · refine zg_sub [0] [(0, .ref (zad E 40 0))] rfl ?_
      exact he149 M 
    · refine zg_aload_n C 0 108 rfl dX8_image_107 rfl ?_
      refine fgX8_166 C zn40 111 rfl dX8_image_108 ?_
      refine zg_iload_n C 1 112 rfl dX8_image_111 rfl ?_
      refine zg_aload_n C 0 113 rfl dX8_image_112 rfl ?_
      refine fgX8_29 C zn40 116 rfl dX8_image_113 ?_
      refine zg_iload_n C 1 117 rfl dX8_image_116 rfl ?_
      refine zg_iald C 118 rfl dX8_image_117 zn45 rfl ?_
      refine zg_iast C 119 rfl dX8_image_118 zn73 (fun _ _ => rfl) (fun M11 => ?_)
      refine zg_aload_n C 0 120 rfl dX8_image_119 rfl ?_
      refine fgX8_169 C zn40 123 rfl dX8_image_120 ?_
      refine zg_iload_n C 1 124 rfl dX8_image_123 rfl ?_
      refine zg_aload_n C 0 125 rfl dX8_image_124 rfl ?_
      refine fgX8_32 C zn40 128 rfl dX8_image_125 ?_
      refine zg_iload_n C 1 129 rfl dX8_image_128 rfl ?_
      refine zg_iald C 130 rfl dX8_image_129 zn46 rfl ?_
      refine zg_iast C 131 rfl dX8_image_130 zn74 (fun _ _ => rfl) (fun M12 => ?_)
      refine zg_aload_n C 0 132 rfl dX8_image_131 rfl ?_
      refine fgX8_172 C zn40 135 rfl dX8_image_132 ?_
      refine zg_iload_n C 1 136 rfl dX8_image_135 rfl ?_
      refine zg_aload_n C 0 137 rfl dX8_image_136 rfl ?_
      refine fgX8_35 C zn40 140 rfl dX8_image_137 ?_
      refine zg_iload_n C 1 141 rfl dX8_image_140 rfl ?_
      refine zg_iald C 142 rfl dX8_image_141 zn47 rfl ?_
      refine zg_iast C 143 rfl dX8_image_142 zn75 (fun _ _ => rfl) (fun M13 => ?_)
      refine zg_iinc C 1 (v1 + (1 : Int32)) [(1, .int (v1 + (1 : Int32))), (0, .ref (zad E 40 0))] 146 rfl dX8_image_143 rfl (congrArg (fun z : Int32 => v1 + z) (by decide : Int32.ofInt (1) = (1 : Int32))) (by decide) rfl ?_
      refine zg_goto C 101 dX8_image_146 (by decide) ?_
      refine zg_sub [1, 0] [(0, .ref (zad E 40 0)), (1, .int (v1 + (1 : Int32)))] rfl ?_
      exact ih M13 (v1 + (1 : Int32))
set_option maxHeartbeats 4000000 in
set_option maxRecDepth 100000 in
theorem tM_image_L151 {p : Program} {l : Launch} {e : Env} {R : Room} {s : State} {m : MethodId} {args : Array Value} {below : List Frame} {meth : Method} {c : Code} {E : zE} {A : Nat → Prop} (C : zCx p R s m args meth c cX8_image "TwoTrueModel" E zNM A 2 (some .int) 2) (hD : zD E zNM A) {e175 : zM → Option (Int32 × zM)} (he175 : ∀ (M : zM), zG p l e R s m args below meth c E zNM A 2 zvI zoT 175 [(0, .ref (zad E 40 0))] [] M (e175 M )) : ∀ (n : Nat) (M : zM) (v1 : Int32), zG p l e R s m args below meth c E zNM A 2 zvI zoT 151 [(0, .ref (zad E 40 0)), (1, .int v1)] [] M (qM_image_L151 e175 n M v1) := by
  intro n
  induction n with
  | zero =>
    intro M v1
    exact zg_none
  | succ n ih =>
    intro M v1
    rw [qM_image_L151]
    refine zg_iload_n C 1 152 rfl dX8_image_151 rfl ?_
    refine zg_bipush C (24 : Int32) 154 rfl dX8_image_152 (by decide) ?_
    refine zg_icmp_ge C 175 157 rfl dX8_image_154 (by decide) ?_ ?_
    · refine zg_sub [0] [(0, .ref (zad E 40 0))] rfl ?_
      exact he175 M 
    · refine zg_aload_n C 0 158 rfl dX8_image_157 rfl ?_
      refine fgX8_175 C zn40 161 rfl dX8_image_158 ?_
      refine zg_iload_n C 1 162 rfl dX8_image_161 rfl ?_
      refine zg_aload_n C 0 163 rfl dX8_image_162 rfl ?_
      refine fgX8_38 C zn40 166 rfl dX8_image_163 ?_
      refine zg_iload_n C 1 167 rfl dX8_image_166 rfl ?_
      refine zg_iald C 168 rfl dX8_image_167 zn48 rfl ?_
      refine zg_iast C 169 rfl dX8_image_168 zn76 (fun _ _ => rfl) (fun M15 => ?_)
      refine zg_iinc C 1 (v1 + (1 : Int32)) [(1, .int (v1 + (1 : Int32))), (0, .ref (zad E 40 0))] 172 rfl dX8_image_169 rfl (congrArg (fun z : Int32 => v1 + z) (by decide : Int32.ofInt (1) = (1 : Int32))) (by decide) rfl ?_
      refine zg_goto C 151 dX8_image_172 (by decide) ?_
      refine zg_sub [1, 0] [(0, .ref (zad E 40 0)), (1, .int (v1 + (1 : Int32)))] rfl ?_
      exact ih M15 (v1 + (1 : Int32))
set_option maxHeartbeats 4000000 in
set_option maxRecDepth 100000 in
theorem tM_image_L177 {p : Program} {l : Launch} {e : Env} {R : Room} {s : State} {m : MethodId} {args : Array Value} {below : List Frame} {meth : Method} {c : Code} {E : zE} {A : Nat → Prop} (C : zCx p R s m args meth c cX8_image "TwoTrueModel" E zNM A 2 (some .int) 2) (hD : zD E zNM A) {e200 : zM → Option (Int32 × zM)} (he200 : ∀ (M : zM), zG p l e R s m args below meth c E zNM A 2 zvI zoT 200 [(0, .ref (zad E 40 0))] [] M (e200 M )) : ∀ (n : Nat) (M : zM) (v1 : Int32), zG p l e R s m args below meth c E zNM A 2 zvI zoT 177 [(0, .ref (zad E 40 0)), (1, .int v1)] [] M (qM_image_L177 e200 n M v1) := by
  intro n
  induction n with
  | zero =>
    intro M v1
    exact zg_none
  | succ n ih =>
    intro M v1
    rw [qM_image_L177]
    refine zg_iload_n C 1 178 rfl dX8_image_177 rfl ?_
    refine zg_iconst C (3 : Int32) 179 rfl dX8_image_178 (by decide) ?_
    refine zg_icmp_ge C 200 182 rfl dX8_image_179 (by decide) ?_ ?_
    · refine zg_sub [0] [(0, .ref (zad E 40 0))] rfl ?_
      exact he200 M 
    · refine zg_aload_n C 0 183 rfl dX8_image_182 rfl ?_
      refine fgX8_178 C zn40 186 rfl dX8_image_183 ?_
      refine zg_iload_n C 1 187 rfl dX8_image_186 rfl ?_
      refine zg_aload_n C 0 188 rfl dX8_image_187 rfl ?_
      refine fgX8_120 C zn40 191 rfl dX8_image_188 ?_
      refine zg_iload_n C 1 192 rfl dX8_image_191 rfl ?_
      refine zg_iald C 193 rfl dX8_image_192 zn64 rfl ?_
      refine zg_iast C 194 rfl dX8_image_193 zn77 (fun _ _ => rfl) (fun M17 => ?_)
      refine zg_iinc C 1 (v1 + (1 : Int32)) [(1, .int (v1 + (1 : Int32))), (0, .ref (zad E 40 0))] 197 rfl dX8_image_194 rfl (congrArg (fun z : Int32 => v1 + z) (by decide : Int32.ofInt (1) = (1 : Int32))) (by decide) rfl ?_
      refine zg_goto C 177 dX8_image_197 (by decide) ?_
      refine zg_sub [1, 0] [(0, .ref (zad E 40 0)), (1, .int (v1 + (1 : Int32)))] rfl ?_
      exact ih M17 (v1 + (1 : Int32))
set_option maxHeartbeats 4000000 in
set_option maxRecDepth 100000 in
theorem tM_image_L202 {p : Program} {l : Launch} {e : Env} {R : Room} {s : State} {m : MethodId} {args : Array Value} {below : List Frame} {meth : Method} {c : Code} {E : zE} {A : Nat → Prop} (C : zCx p R s m args meth c cX8_image "TwoTrueModel" E zNM A 2 (some .int) 2) (hD : zD E zNM A) : ∀ (n : Nat) (M : zM) (v1 : Int32), zG p l e R s m args below meth c E zNM A 2 zvI zoT 202 [(0, .ref (zad E 40 0)), (1, .int v1)] [] M (qM_image_L202 n M v1) := by
  intro n
  induction n with
  | zero =>
    intro M v1
    exact zg_none
  | succ n ih =>
    intro M v1
    rw [qM_image_L202]
    refine zg_iload_n C 1 203 rfl dX8_image_202 rfl ?_
    refine zg_bipush C (12 : Int32) 205 rfl dX8_image_203 (by decide) ?_
    refine zg_icmp_ge C 250 208 rfl dX8_image_205 (by decide) ?_ ?_
    · refine zg_aload_n C 0 251 rfl dX8_image_250 rfl ?_
      refine fgX8_7 C zn40 254 rfl dX8_image_251 ?_
      exact zg_iret C dX8_image_254 trivial
    · refine zg_aload_n C 0 209 rfl dX8_image_208 rfl ?_
      refine fgX8_181 C zn40 212 rfl dX8_image_209 ?_
      refine zg_iload_n C 1 213 rfl dX8_image_212 rfl ?_
      refine zg_aload_n C 0 214 rfl dX8_image_213 rfl ?_
      refine fgX8_129 C zn40 217 rfl dX8_image_214 ?_
      refine zg_iload_n C 1 218 rfl dX8_image_217 rfl ?_
      refine zg_iald C 219 rfl dX8_image_218 zn66 rfl ?_
      refine zg_iast C 220 rfl dX8_image_219 zn78 (fun _ _ => rfl) (fun M19 => ?_)
      refine zg_aload_n C 0 221 rfl dX8_image_220 rfl ?_
      refine fgX8_184 C zn40 224 rfl dX8_image_221 ?_
      refine zg_iload_n C 1 225 rfl dX8_image_224 rfl ?_
      refine zg_aload_n C 0 226 rfl dX8_image_225 rfl ?_
      refine fgX8_132 C zn40 229 rfl dX8_image_226 ?_
      refine zg_iload_n C 1 230 rfl dX8_image_229 rfl ?_
      refine zg_iald C 231 rfl dX8_image_230 zn67 rfl ?_
      refine zg_iast C 232 rfl dX8_image_231 zn79 (fun _ _ => rfl) (fun M20 => ?_)
      refine zg_aload_n C 0 233 rfl dX8_image_232 rfl ?_
      refine fgX8_187 C zn40 236 rfl dX8_image_233 ?_
      refine zg_iload_n C 1 237 rfl dX8_image_236 rfl ?_
      refine zg_aload_n C 0 238 rfl dX8_image_237 rfl ?_
      refine fgX8_135 C zn40 241 rfl dX8_image_238 ?_
      refine zg_iload_n C 1 242 rfl dX8_image_241 rfl ?_
      refine zg_iald C 243 rfl dX8_image_242 zn68 rfl ?_
      refine zg_iast C 244 rfl dX8_image_243 zn80 (fun _ _ => rfl) (fun M21 => ?_)
      refine zg_iinc C 1 (v1 + (1 : Int32)) [(1, .int (v1 + (1 : Int32))), (0, .ref (zad E 40 0))] 247 rfl dX8_image_244 rfl (congrArg (fun z : Int32 => v1 + z) (by decide : Int32.ofInt (1) = (1 : Int32))) (by decide) rfl ?_
      refine zg_goto C 202 dX8_image_247 (by decide) ?_
      refine zg_sub [1, 0] [(0, .ref (zad E 40 0)), (1, .int (v1 + (1 : Int32)))] rfl ?_
      exact ih M21 (v1 + (1 : Int32))
set_option maxHeartbeats 4000000 in
set_option maxRecDepth 100000 in
theorem tM_image {l : Launch} {E : zE} {A : Nat → Prop} (hD : zD E zNM A) (M : zM) : zCT l yX8_image cX8_image 2 (some .int) 2 E zNM A [.ref (zad E 40 0)] M zvI zoT (qM_image  M ) := by
  refine zCT_of (by decide) hD (by first | decide | exact Nat.le_of_ble_eq_true rfl) (fun p e R s m args below meth c C => ?_)
  have C : zCx p R s m args meth c cX8_image "TwoTrueModel" E zNM A 2 (some .int) 2 := C
  unfold qM_image
  refine zg_sub [0] [(0, .ref (zad E 40 0))] rfl ?_
  refine zg_aload_n C 0 1 rfl dX8_image_0 rfl ?_
  refine zg_iconst C (1 : Int32) 2 rfl dX8_image_1 (by decide) ?_
  refine fpX8_138 C zn40 rfl rfl 5 rfl dX8_image_2 (fun M1 => ?_)
  refine zg_aload_n C 0 6 rfl dX8_image_5 rfl ?_
  refine zg_aload_n C 0 7 rfl dX8_image_6 rfl ?_
  refine fgX8_44 C zn40 10 rfl dX8_image_7 ?_
  refine fpX8_142 C zn40 13 rfl dX8_image_10 (fun M2 => ?_)
  refine zg_aload_n C 0 14 rfl dX8_image_13 rfl ?_
  refine zg_aload_n C 0 15 rfl dX8_image_14 rfl ?_
  refine fgX8_7 C zn40 18 rfl dX8_image_15 ?_
  refine fpX8_145 C zn40 21 rfl dX8_image_18 (fun M3 => ?_)
  refine zg_aload_n C 0 22 rfl dX8_image_21 rfl ?_
  refine zg_aload_n C 0 23 rfl dX8_image_22 rfl ?_
  refine fgX8_13 C zn40 26 rfl dX8_image_23 ?_
  refine fpX8_148 C zn40 29 rfl dX8_image_26 (fun M4 => ?_)
  refine zg_aload_n C 0 30 rfl dX8_image_29 rfl ?_
  refine zg_aload_n C 0 31 rfl dX8_image_30 rfl ?_
  refine fgX8_126 C zn40 34 rfl dX8_image_31 ?_
  refine fpX8_151 C zn40 37 rfl dX8_image_34 (fun M5 => ?_)
  refine zg_iconst C (0 : Int32) 38 rfl dX8_image_37 (by decide) ?_
  refine zg_istore_n C 1 [(1, .int (0 : Int32)), (0, .ref (zad E 40 0))] 39 rfl dX8_image_38 rfl (by decide) rfl ?_
  refine zg_sub [1, 0] [(0, .ref (zad E 40 0)), (1, .int (0 : Int32))] rfl ?_
  refine tM_image_L39 C hD  (fun M10 => ?_) 1000 M5 (0 : Int32)
  · refine zg_iconst C (0 : Int32) 100 rfl dX8_image_99 (by decide) ?_
    refine zg_istore_n C 1 [(1, .int (0 : Int32)), (0, .ref (zad E 40 0))] 101 rfl dX8_image_100 rfl (by decide) rfl ?_
    refine zg_sub [1, 0] [(0, .ref (zad E 40 0)), (1, .int (0 : Int32))] rfl ?_
    refine tM_image_L101 C hD  (fun M14 => ?_) 1000 M10 (0 : Int32)
    · refine zg_iconst C (0 : Int32) 150 rfl dX8_image_149 (by decide) ?_
      refine zg_istore_n C 1 [(1, .int (0 : Int32)), (0, .ref (zad E 40 0))] 151 rfl dX8_image_150 rfl (by decide) rfl ?_
      refine zg_sub [1, 0] [(0, .ref (zad E 40 0)), (1, .int (0 : Int32))] rfl ?_
      refine tM_image_L151 C hD  (fun M16 => ?_) 1000 M14 (0 : Int32)
      · refine zg_iconst C (0 : Int32) 176 rfl dX8_image_175 (by decide) ?_
        refine zg_istore_n C 1 [(1, .int (0 : Int32)), (0, .ref (zad E 40 0))] 177 rfl dX8_image_176 rfl (by decide) rfl ?_
        refine zg_sub [1, 0] [(0, .ref (zad E 40 0)), (1, .int (0 : Int32))] rfl ?_
        refine tM_image_L177 C hD  (fun M18 => ?_) 1000 M16 (0 : Int32)
        · refine zg_iconst C (0 : Int32) 201 rfl dX8_image_200 (by decide) ?_
          refine zg_istore_n C 1 [(1, .int (0 : Int32)), (0, .ref (zad E 40 0))] 202 rfl dX8_image_201 rfl (by decide) rfl ?_
          refine zg_sub [1, 0] [(0, .ref (zad E 40 0)), (1, .int (0 : Int32))] rfl ?_
          refine tM_image_L202 C hD   1000 M18 (0 : Int32)
set_option maxHeartbeats 4000000 in
set_option maxRecDepth 100000 in
theorem tM_undo_L44 {p : Program} {l : Launch} {e : Env} {R : Room} {s : State} {m : MethodId} {args : Array Value} {below : List Frame} {meth : Method} {c : Code} {E : zE} {A : Nat → Prop} (C : zCx p R s m args meth c cX8_undo "TwoTrueModel" E zNM A 2 (some .int) 2) (hD : zD E zNM A) {e104 : zM → Option (Int32 × zM)} (he104 : ∀ (M : zM), zG p l e R s m args below meth c E zNM A 2 zvI zoT 104 [(0, .ref (zad E 40 0))] [] M (e104 M )) : ∀ (n : Nat) (M : zM) (v1 : Int32), zG p l e R s m args below meth c E zNM A 2 zvI zoT 44 [(0, .ref (zad E 40 0)), (1, .int v1)] [] M (qM_undo_L44 e104 n M v1) := by
  intro n
  induction n with
  | zero =>
    intro M v1
    exact zg_none
  | succ n ih =>
    intro M v1
    rw [qM_undo_L44]
    refine zg_iload_n C 1 45 rfl dX8_undo_44 rfl ?_
    refine zg_bipush C (6 : Int32) 47 rfl dX8_undo_45 (by decide) ?_
    refine zg_icmp_ge C 104 50 rfl dX8_undo_47 (by decide) ?_ ?_
    · refine zg_sub [0] [(0, .ref (zad E 40 0))] rfl ?_
      exact he104 M 
    · refine zg_aload_n C 0 51 rfl dX8_undo_50 rfl ?_
      refine fgX8_16 C zn40 54 rfl dX8_undo_51 ?_
      refine zg_iload_n C 1 55 rfl dX8_undo_54 rfl ?_
      refine zg_aload_n C 0 56 rfl dX8_undo_55 rfl ?_
      refine fgX8_154 C zn40 59 rfl dX8_undo_56 ?_
      refine zg_iload_n C 1 60 rfl dX8_undo_59 rfl ?_
      refine zg_iald C 61 rfl dX8_undo_60 zn69 rfl ?_
      refine zg_iast C 62 rfl dX8_undo_61 zn41 (fun _ _ => rfl) (fun M5 => ?_)
      refine zg_aload_n C 0 63 rfl dX8_undo_62 rfl ?_
      refine fgX8_20 C zn40 66 rfl dX8_undo_63 ?_
      refine zg_iload_n C 1 67 rfl dX8_undo_66 rfl ?_
      refine zg_aload_n C 0 68 rfl dX8_undo_67 rfl ?_
      refine fgX8_157 C zn40 71 rfl dX8_undo_68 ?_
      refine zg_iload_n C 1 72 rfl dX8_undo_71 rfl ?_
      refine zg_iald C 73 rfl dX8_undo_72 zn70 rfl ?_
      refine zg_iast C 74 rfl dX8_undo_73 zn42 (fun _ _ => rfl) (fun M6 => ?_)
      refine zg_aload_n C 0 75 rfl dX8_undo_74 rfl ?_
      refine fgX8_23 C zn40 78 rfl dX8_undo_75 ?_
      refine zg_iload_n C 1 79 rfl dX8_undo_78 rfl ?_
      refine zg_aload_n C 0 80 rfl dX8_undo_79 rfl ?_
      refine fgX8_160 C zn40 83 rfl dX8_undo_80 ?_
      refine zg_iload_n C 1 84 rfl dX8_undo_83 rfl ?_
      refine zg_iald C 85 rfl dX8_undo_84 zn71 rfl ?_
      refine zg_iast C 86 rfl dX8_undo_85 zn43 (fun _ _ => rfl) (fun M7 => ?_)
      refine zg_aload_n C 0 87 rfl dX8_undo_86 rfl ?_
      refine fgX8_26 C zn40 90 rfl dX8_undo_87 ?_
      refine zg_iload_n C 1 91 rfl dX8_undo_90 rfl ?_
      refine zg_aload_n C 0 92 rfl dX8_undo_91 rfl ?_
      refine fgX8_163 C zn40 95 rfl dX8_undo_92 ?_
      refine zg_iload_n C 1 96 rfl dX8_undo_95 rfl ?_
      refine zg_iald C 97 rfl dX8_undo_96 zn72 rfl ?_
      refine zg_iast C 98 rfl dX8_undo_97 zn44 (fun _ _ => rfl) (fun M8 => ?_)
      refine zg_iinc C 1 (v1 + (1 : Int32)) [(1, .int (v1 + (1 : Int32))), (0, .ref (zad E 40 0))] 101 rfl dX8_undo_98 rfl (congrArg (fun z : Int32 => v1 + z) (by decide : Int32.ofInt (1) = (1 : Int32))) (by decide) rfl ?_
      refine zg_goto C 44 dX8_undo_101 (by decide) ?_
      refine zg_sub [1, 0] [(0, .ref (zad E 40 0)), (1, .int (v1 + (1 : Int32)))] rfl ?_
      exact ih M8 (v1 + (1 : Int32))
set_option maxHeartbeats 4000000 in
set_option maxRecDepth 100000 in
theorem tM_undo_L106 {p : Program} {l : Launch} {e : Env} {R : Room} {s : State} {m : MethodId} {args : Array Value} {below : List Frame} {meth : Method} {c : Code} {E : zE} {A : Nat → Prop} (C : zCx p R s m args meth c cX8_undo "TwoTrueModel" E zNM A 2 (some .int) 2) (hD : zD E zNM A) {e154 : zM → Option (Int32 × zM)} (he154 : ∀ (M : zM), zG p l e R s m args below meth c E zNM A 2 zvI zoT 154 [(0, .ref (zad E 40 0))] [] M (e154 M )) : ∀ (n : Nat) (M : zM) (v1 : Int32), zG p l e R s m args below meth c E zNM A 2 zvI zoT 106 [(0, .ref (zad E 40 0)), (1, .int v1)] [] M (qM_undo_L106 e154 n M v1) := by
  intro n
  induction n with
  | zero =>
    intro M v1
    exact zg_none
  | succ n ih =>
    intro M v1
    rw [qM_undo_L106]
    refine zg_iload_n C 1 107 rfl dX8_undo_106 rfl ?_
    refine zg_bipush C (18 : Int32) 109 rfl dX8_undo_107 (by decide) ?_
    refine zg_icmp_ge C 154 112 rfl dX8_undo_109 (by decide) ?_ ?_
    · refine zg_sub [0] [(0, .ref (zad E 40 0))] rfl ?_
      exact he154 M 
    · refine zg_aload_n C 0 113 rfl dX8_undo_112 rfl ?_
      refine fgX8_29 C zn40 116 rfl dX8_undo_113 ?_
      refine zg_iload_n C 1 117 rfl dX8_undo_116 rfl ?_
      refine zg_aload_n C 0 118 rfl dX8_undo_117 rfl ?_
      refine fgX8_166 C zn40 121 rfl dX8_undo_118 ?_
      refine zg_iload_n C 1 122 rfl dX8_undo_121 rfl ?_
      refine zg_iald C 123 rfl dX8_undo_122 zn73 rfl ?_
      refine zg_iast C 124 rfl dX8_undo_123 zn45 (fun _ _ => rfl) (fun M10 => ?_)
      refine zg_aload_n C 0 125 rfl dX8_undo_124 rfl ?_
      refine fgX8_32 C zn40 128 rfl dX8_undo_125 ?_
      refine zg_iload_n C 1 129 rfl dX8_undo_128 rfl ?_
      refine zg_aload_n C 0 130 rfl dX8_undo_129 rfl ?_
      refine fgX8_169 C zn40 133 rfl dX8_undo_130 ?_
      refine zg_iload_n C 1 134 rfl dX8_undo_133 rfl ?_
      refine zg_iald C 135 rfl dX8_undo_134 zn74 rfl ?_
      refine zg_iast C 136 rfl dX8_undo_135 zn46 (fun _ _ => rfl) (fun M11 => ?_)
      refine zg_aload_n C 0 137 rfl dX8_undo_136 rfl ?_
      refine fgX8_35 C zn40 140 rfl dX8_undo_137 ?_
      refine zg_iload_n C 1 141 rfl dX8_undo_140 rfl ?_
      refine zg_aload_n C 0 142 rfl dX8_undo_141 rfl ?_
      refine fgX8_172 C zn40 145 rfl dX8_undo_142 ?_
      refine zg_iload_n C 1 146 rfl dX8_undo_145 rfl ?_
      refine zg_iald C 147 rfl dX8_undo_146 zn75 rfl ?_
      refine zg_iast C 148 rfl dX8_undo_147 zn47 (fun _ _ => rfl) (fun M12 => ?_)
      refine zg_iinc C 1 (v1 + (1 : Int32)) [(1, .int (v1 + (1 : Int32))), (0, .ref (zad E 40 0))] 151 rfl dX8_undo_148 rfl (congrArg (fun z : Int32 => v1 + z) (by decide : Int32.ofInt (1) = (1 : Int32))) (by decide) rfl ?_
      refine zg_goto C 106 dX8_undo_151 (by decide) ?_
      refine zg_sub [1, 0] [(0, .ref (zad E 40 0)), (1, .int (v1 + (1 : Int32)))] rfl ?_
      exact ih M12 (v1 + (1 : Int32))
set_option maxHeartbeats 4000000 in
set_option maxRecDepth 100000 in
theorem tM_undo_L156 {p : Program} {l : Launch} {e : Env} {R : Room} {s : State} {m : MethodId} {args : Array Value} {below : List Frame} {meth : Method} {c : Code} {E : zE} {A : Nat → Prop} (C : zCx p R s m args meth c cX8_undo "TwoTrueModel" E zNM A 2 (some .int) 2) (hD : zD E zNM A) {e180 : zM → Option (Int32 × zM)} (he180 : ∀ (M : zM), zG p l e R s m args below meth c E zNM A 2 zvI zoT 180 [(0, .ref (zad E 40 0))] [] M (e180 M )) : ∀ (n : Nat) (M : zM) (v1 : Int32), zG p l e R s m args below meth c E zNM A 2 zvI zoT 156 [(0, .ref (zad E 40 0)), (1, .int v1)] [] M (qM_undo_L156 e180 n M v1) := by
  intro n
  induction n with
  | zero =>
    intro M v1
    exact zg_none
  | succ n ih =>
    intro M v1
    rw [qM_undo_L156]
    refine zg_iload_n C 1 157 rfl dX8_undo_156 rfl ?_
    refine zg_bipush C (24 : Int32) 159 rfl dX8_undo_157 (by decide) ?_
    refine zg_icmp_ge C 180 162 rfl dX8_undo_159 (by decide) ?_ ?_
    · refine zg_sub [0] [(0, .ref (zad E 40 0))] rfl ?_
      exact he180 M 
    · refine zg_aload_n C 0 163 rfl dX8_undo_162 rfl ?_
      refine fgX8_38 C zn40 166 rfl dX8_undo_163 ?_
      refine zg_iload_n C 1 167 rfl dX8_undo_166 rfl ?_
      refine zg_aload_n C 0 168 rfl dX8_undo_167 rfl ?_
      refine fgX8_175 C zn40 171 rfl dX8_undo_168 ?_
      refine zg_iload_n C 1 172 rfl dX8_undo_171 rfl ?_
      refine zg_iald C 173 rfl dX8_undo_172 zn76 rfl ?_
      refine zg_iast C 174 rfl dX8_undo_173 zn48 (fun _ _ => rfl) (fun M14 => ?_)
      refine zg_iinc C 1 (v1 + (1 : Int32)) [(1, .int (v1 + (1 : Int32))), (0, .ref (zad E 40 0))] 177 rfl dX8_undo_174 rfl (congrArg (fun z : Int32 => v1 + z) (by decide : Int32.ofInt (1) = (1 : Int32))) (by decide) rfl ?_
      refine zg_goto C 156 dX8_undo_177 (by decide) ?_
      refine zg_sub [1, 0] [(0, .ref (zad E 40 0)), (1, .int (v1 + (1 : Int32)))] rfl ?_
      exact ih M14 (v1 + (1 : Int32))
set_option maxHeartbeats 4000000 in
set_option maxRecDepth 100000 in
theorem tM_undo_L182 {p : Program} {l : Launch} {e : Env} {R : Room} {s : State} {m : MethodId} {args : Array Value} {below : List Frame} {meth : Method} {c : Code} {E : zE} {A : Nat → Prop} (C : zCx p R s m args meth c cX8_undo "TwoTrueModel" E zNM A 2 (some .int) 2) (hD : zD E zNM A) {e205 : zM → Option (Int32 × zM)} (he205 : ∀ (M : zM), zG p l e R s m args below meth c E zNM A 2 zvI zoT 205 [(0, .ref (zad E 40 0))] [] M (e205 M )) : ∀ (n : Nat) (M : zM) (v1 : Int32), zG p l e R s m args below meth c E zNM A 2 zvI zoT 182 [(0, .ref (zad E 40 0)), (1, .int v1)] [] M (qM_undo_L182 e205 n M v1) := by
  intro n
  induction n with
  | zero =>
    intro M v1
    exact zg_none
  | succ n ih =>
    intro M v1
    rw [qM_undo_L182]
    refine zg_iload_n C 1 183 rfl dX8_undo_182 rfl ?_
    refine zg_iconst C (3 : Int32) 184 rfl dX8_undo_183 (by decide) ?_
    refine zg_icmp_ge C 205 187 rfl dX8_undo_184 (by decide) ?_ ?_
    · refine zg_sub [0] [(0, .ref (zad E 40 0))] rfl ?_
      exact he205 M 
    · refine zg_aload_n C 0 188 rfl dX8_undo_187 rfl ?_
      refine fgX8_120 C zn40 191 rfl dX8_undo_188 ?_
      refine zg_iload_n C 1 192 rfl dX8_undo_191 rfl ?_
      refine zg_aload_n C 0 193 rfl dX8_undo_192 rfl ?_
      refine fgX8_178 C zn40 196 rfl dX8_undo_193 ?_
      refine zg_iload_n C 1 197 rfl dX8_undo_196 rfl ?_
      refine zg_iald C 198 rfl dX8_undo_197 zn77 rfl ?_
      refine zg_iast C 199 rfl dX8_undo_198 zn64 (fun _ _ => rfl) (fun M16 => ?_)
      refine zg_iinc C 1 (v1 + (1 : Int32)) [(1, .int (v1 + (1 : Int32))), (0, .ref (zad E 40 0))] 202 rfl dX8_undo_199 rfl (congrArg (fun z : Int32 => v1 + z) (by decide : Int32.ofInt (1) = (1 : Int32))) (by decide) rfl ?_
      refine zg_goto C 182 dX8_undo_202 (by decide) ?_
      refine zg_sub [1, 0] [(0, .ref (zad E 40 0)), (1, .int (v1 + (1 : Int32)))] rfl ?_
      exact ih M16 (v1 + (1 : Int32))
set_option maxHeartbeats 4000000 in
set_option maxRecDepth 100000 in
theorem tM_undo_L207 {p : Program} {l : Launch} {e : Env} {R : Room} {s : State} {m : MethodId} {args : Array Value} {below : List Frame} {meth : Method} {c : Code} {E : zE} {A : Nat → Prop} (C : zCx p R s m args meth c cX8_undo "TwoTrueModel" E zNM A 2 (some .int) 2) (hD : zD E zNM A) : ∀ (n : Nat) (M : zM) (v1 : Int32), zG p l e R s m args below meth c E zNM A 2 zvI zoT 207 [(0, .ref (zad E 40 0)), (1, .int v1)] [] M (qM_undo_L207 n M v1) := by
  intro n
  induction n with
  | zero =>
    intro M v1
    exact zg_none
  | succ n ih =>
    intro M v1
    rw [qM_undo_L207]
    refine zg_iload_n C 1 208 rfl dX8_undo_207 rfl ?_
    refine zg_bipush C (12 : Int32) 210 rfl dX8_undo_208 (by decide) ?_
    refine zg_icmp_ge C 255 213 rfl dX8_undo_210 (by decide) ?_ ?_
    · refine zg_aload_n C 0 256 rfl dX8_undo_255 rfl ?_
      refine fgX8_7 C zn40 259 rfl dX8_undo_256 ?_
      exact zg_iret C dX8_undo_259 trivial
    · refine zg_aload_n C 0 214 rfl dX8_undo_213 rfl ?_
      refine fgX8_129 C zn40 217 rfl dX8_undo_214 ?_
      refine zg_iload_n C 1 218 rfl dX8_undo_217 rfl ?_
      refine zg_aload_n C 0 219 rfl dX8_undo_218 rfl ?_
      refine fgX8_181 C zn40 222 rfl dX8_undo_219 ?_
      refine zg_iload_n C 1 223 rfl dX8_undo_222 rfl ?_
      refine zg_iald C 224 rfl dX8_undo_223 zn78 rfl ?_
      refine zg_iast C 225 rfl dX8_undo_224 zn66 (fun _ _ => rfl) (fun M18 => ?_)
      refine zg_aload_n C 0 226 rfl dX8_undo_225 rfl ?_
      refine fgX8_132 C zn40 229 rfl dX8_undo_226 ?_
      refine zg_iload_n C 1 230 rfl dX8_undo_229 rfl ?_
      refine zg_aload_n C 0 231 rfl dX8_undo_230 rfl ?_
      refine fgX8_184 C zn40 234 rfl dX8_undo_231 ?_
      refine zg_iload_n C 1 235 rfl dX8_undo_234 rfl ?_
      refine zg_iald C 236 rfl dX8_undo_235 zn79 rfl ?_
      refine zg_iast C 237 rfl dX8_undo_236 zn67 (fun _ _ => rfl) (fun M19 => ?_)
      refine zg_aload_n C 0 238 rfl dX8_undo_237 rfl ?_
      refine fgX8_135 C zn40 241 rfl dX8_undo_238 ?_
      refine zg_iload_n C 1 242 rfl dX8_undo_241 rfl ?_
      refine zg_aload_n C 0 243 rfl dX8_undo_242 rfl ?_
      refine fgX8_187 C zn40 246 rfl dX8_undo_243 ?_
      refine zg_iload_n C 1 247 rfl dX8_undo_246 rfl ?_
      refine zg_iald C 248 rfl dX8_undo_247 zn80 rfl ?_
      refine zg_iast C 249 rfl dX8_undo_248 zn68 (fun _ _ => rfl) (fun M20 => ?_)
      refine zg_iinc C 1 (v1 + (1 : Int32)) [(1, .int (v1 + (1 : Int32))), (0, .ref (zad E 40 0))] 252 rfl dX8_undo_249 rfl (congrArg (fun z : Int32 => v1 + z) (by decide : Int32.ofInt (1) = (1 : Int32))) (by decide) rfl ?_
      refine zg_goto C 207 dX8_undo_252 (by decide) ?_
      refine zg_sub [1, 0] [(0, .ref (zad E 40 0)), (1, .int (v1 + (1 : Int32)))] rfl ?_
      exact ih M20 (v1 + (1 : Int32))
set_option maxHeartbeats 4000000 in
set_option maxRecDepth 100000 in
theorem tM_undo {l : Launch} {E : zE} {A : Nat → Prop} (hD : zD E zNM A) (M : zM) : zCT l yX8_undo cX8_undo 2 (some .int) 2 E zNM A [.ref (zad E 40 0)] M zvI zoT (qM_undo  M ) := by
  refine zCT_of (by decide) hD (by first | decide | exact Nat.le_of_ble_eq_true rfl) (fun p e R s m args below meth c C => ?_)
  have C : zCx p R s m args meth c cX8_undo "TwoTrueModel" E zNM A 2 (some .int) 2 := C
  unfold qM_undo
  refine zg_sub [0] [(0, .ref (zad E 40 0))] rfl ?_
  refine zg_aload_n C 0 1 rfl dX8_undo_0 rfl ?_
  refine fgX8_138 C zn40 4 rfl dX8_undo_1 ?_
  refine zg_if_ne C 10 7 rfl dX8_undo_4 (by decide) ?_ ?_
  · refine zg_bipush C (-3 : Int32) 9 rfl dX8_undo_7 (by decide) ?_
    exact zg_iret C dX8_undo_9 trivial
  · refine zg_aload_n C 0 11 rfl dX8_undo_10 rfl ?_
    refine zg_aload_n C 0 12 rfl dX8_undo_11 rfl ?_
    refine fgX8_142 C zn40 15 rfl dX8_undo_12 ?_
    refine fpX8_44 C zn40 18 rfl dX8_undo_15 (fun M1 => ?_)
    refine zg_aload_n C 0 19 rfl dX8_undo_18 rfl ?_
    refine zg_aload_n C 0 20 rfl dX8_undo_19 rfl ?_
    refine fgX8_145 C zn40 23 rfl dX8_undo_20 ?_
    refine fpX8_7 C zn40 26 rfl dX8_undo_23 (fun M2 => ?_)
    refine zg_aload_n C 0 27 rfl dX8_undo_26 rfl ?_
    refine zg_aload_n C 0 28 rfl dX8_undo_27 rfl ?_
    refine fgX8_148 C zn40 31 rfl dX8_undo_28 ?_
    refine fpX8_13 C zn40 34 rfl dX8_undo_31 (fun M3 => ?_)
    refine zg_aload_n C 0 35 rfl dX8_undo_34 rfl ?_
    refine zg_aload_n C 0 36 rfl dX8_undo_35 rfl ?_
    refine fgX8_151 C zn40 39 rfl dX8_undo_36 ?_
    refine fpX8_126 C zn40 42 rfl dX8_undo_39 (fun M4 => ?_)
    refine zg_iconst C (0 : Int32) 43 rfl dX8_undo_42 (by decide) ?_
    refine zg_istore_n C 1 [(1, .int (0 : Int32)), (0, .ref (zad E 40 0))] 44 rfl dX8_undo_43 rfl (by decide) rfl ?_
    refine zg_sub [1, 0] [(0, .ref (zad E 40 0)), (1, .int (0 : Int32))] rfl ?_
    refine tM_undo_L44 C hD  (fun M9 => ?_) 1000 M4 (0 : Int32)
    · refine zg_iconst C (0 : Int32) 105 rfl dX8_undo_104 (by decide) ?_
      refine zg_istore_n C 1 [(1, .int (0 : Int32)), (0, .ref (zad E 40 0))] 106 rfl dX8_undo_105 rfl (by decide) rfl ?_
      refine zg_sub [1, 0] [(0, .ref (zad E 40 0)), (1, .int (0 : Int32))] rfl ?_
      refine tM_undo_L106 C hD  (fun M13 => ?_) 1000 M9 (0 : Int32)
      · refine zg_iconst C (0 : Int32) 155 rfl dX8_undo_154 (by decide) ?_
        refine zg_istore_n C 1 [(1, .int (0 : Int32)), (0, .ref (zad E 40 0))] 156 rfl dX8_undo_155 rfl (by decide) rfl ?_
        refine zg_sub [1, 0] [(0, .ref (zad E 40 0)), (1, .int (0 : Int32))] rfl ?_
        refine tM_undo_L156 C hD  (fun M15 => ?_) 1000 M13 (0 : Int32)
        · refine zg_iconst C (0 : Int32) 181 rfl dX8_undo_180 (by decide) ?_
          refine zg_istore_n C 1 [(1, .int (0 : Int32)), (0, .ref (zad E 40 0))] 182 rfl dX8_undo_181 rfl (by decide) rfl ?_
          refine zg_sub [1, 0] [(0, .ref (zad E 40 0)), (1, .int (0 : Int32))] rfl ?_
          refine tM_undo_L182 C hD  (fun M17 => ?_) 1000 M15 (0 : Int32)
          · refine zg_iconst C (0 : Int32) 206 rfl dX8_undo_205 (by decide) ?_
            refine zg_istore_n C 1 [(1, .int (0 : Int32)), (0, .ref (zad E 40 0))] 207 rfl dX8_undo_206 rfl (by decide) rfl ?_
            refine zg_sub [1, 0] [(0, .ref (zad E 40 0)), (1, .int (0 : Int32))] rfl ?_
            refine tM_undo_L207 C hD   1000 M17 (0 : Int32)
set_option maxHeartbeats 4000000 in
set_option maxRecDepth 100000 in
theorem tM_body {l : Launch} {E : zE} {A : Nat → Prop} (hD : zD E zNM A) (M : zM) (a0 : Int32) : zCT l yX8_body cX8_body 2 none 2 E zNM A [.ref (zad E 40 0), .int a0] M zvU zoT (qM_body  M a0) := by
  refine zCT_of (by decide) hD (by first | decide | exact Nat.le_of_ble_eq_true rfl) (fun p e R s m args below meth c C => ?_)
  have C : zCx p R s m args meth c cX8_body "TwoTrueModel" E zNM A 2 none 2 := C
  unfold qM_body
  refine zg_sub [0, 1] [(0, .ref (zad E 40 0)), (1, .int a0)] rfl ?_
  refine zg_aload_n C 0 1 rfl dX8_body_0 rfl ?_
  refine fgX8_190 C zn40 4 rfl dX8_body_1 ?_
  refine zg_bipush C (20 : Int32) 6 rfl dX8_body_4 (by decide) ?_
  refine zg_jn (fun j2 => ∀ (M1 : zM), zG p l e R s m args below meth c E zNM A 2 zvU zoT 19 [(0, .ref (zad E 40 0))] [] M1 (j2 M1 )) (fun M1 => ?_) (fun j2 hj2 => ?_)
  · refine zg_aload_n C 0 20 rfl dX8_body_19 rfl ?_
    refine zg_dup C rfl 21 rfl dX8_body_20 ?_
    refine fgX8_190 C zn40 24 rfl dX8_body_21 ?_
    refine zg_iconst C (1 : Int32) 25 rfl dX8_body_24 (by decide) ?_
    refine zg_iadd C 26 rfl dX8_body_25 ?_
    refine fpX8_190 C zn40 29 rfl dX8_body_26 (fun M3 => ?_)
    exact zg_vret C dX8_body_29 trivial
  · refine zg_icmp_ge C 19 9 rfl dX8_body_6 (by decide) ?_ ?_
    · refine zg_sub [0] [(0, .ref (zad E 40 0))] rfl ?_
      exact hj2 M 
    · refine zg_aload_n C 0 10 rfl dX8_body_9 rfl ?_
      refine fgX8_193 C zn40 13 rfl dX8_body_10 ?_
      refine zg_aload_n C 0 14 rfl dX8_body_13 rfl ?_
      refine fgX8_190 C zn40 17 rfl dX8_body_14 ?_
      refine zg_iload_n C 1 18 rfl dX8_body_17 rfl ?_
      refine zg_iast C 19 rfl dX8_body_18 zn81 (fun _ _ => rfl) (fun M4 => ?_)
      refine zg_sub [0] [(0, .ref (zad E 40 0))] rfl ?_
      exact hj2 M4 
set_option maxHeartbeats 4000000 in
set_option maxRecDepth 100000 in
theorem tM_count {l : Launch} {E : zE} {A : Nat → Prop} (hD : zD E zNM A) (M : zM) (a0 : Int32) : zCT l yX8_count cX8_count 2 (some .int) 2 E zNM A [.ref (zad E 40 0), .int a0] M zvI zoT (qM_count  M a0) := by
  refine zCT_of (by decide) hD (by first | decide | exact Nat.le_of_ble_eq_true rfl) (fun p e R s m args below meth c C => ?_)
  have C : zCx p R s m args meth c cX8_count "TwoTrueModel" E zNM A 2 (some .int) 2 := C
  unfold qM_count
  refine zg_sub [0, 1] [(0, .ref (zad E 40 0)), (1, .int a0)] rfl ?_
  refine zg_iload_n C 1 1 rfl dX8_count_0 rfl ?_
  refine zg_if (fun h1 => ?_) (fun h1 => ?_)
  · refine zg_tabIn C 0 (35) 36 dX8_count_1 (zxi h1 (by decide)) (by decide) (by decide) rfl (by decide) ?_
    refine zg_aload_n C 0 37 rfl dX8_count_36 rfl ?_
    refine fgX8_7 C zn40 40 rfl dX8_count_37 ?_
    exact zg_iret C dX8_count_40 trivial
  · refine zg_if (fun h2 => ?_) (fun h2 => ?_)
    · refine zg_tabIn C 1 (40) 41 dX8_count_1 (zxi h2 (by decide)) (by decide) (by decide) rfl (by decide) ?_
      refine zg_aload_n C 0 42 rfl dX8_count_41 rfl ?_
      refine fgX8_41 C zn40 45 rfl dX8_count_42 ?_
      exact zg_iret C dX8_count_45 trivial
    · refine zg_if (fun h3 => ?_) (fun h3 => ?_)
      · refine zg_tabIn C 2 (45) 46 dX8_count_1 (zxi h3 (by decide)) (by decide) (by decide) rfl (by decide) ?_
        refine zg_aload_n C 0 47 rfl dX8_count_46 rfl ?_
        refine fgX8_126 C zn40 50 rfl dX8_count_47 ?_
        exact zg_iret C dX8_count_50 trivial
      · refine zg_if (fun h4 => ?_) (fun h4 => ?_)
        · refine zg_tabIn C 3 (50) 51 dX8_count_1 (zxi h4 (by decide)) (by decide) (by decide) rfl (by decide) ?_
          refine zg_aload_n C 0 52 rfl dX8_count_51 rfl ?_
          refine fgX8_47 C zn40 55 rfl dX8_count_52 ?_
          exact zg_iret C dX8_count_55 trivial
        · refine zg_if (fun h5 => ?_) (fun h5 => ?_)
          · refine zg_tabIn C 4 (55) 56 dX8_count_1 (zxi h5 (by decide)) (by decide) (by decide) rfl (by decide) ?_
            refine zg_aload_n C 0 57 rfl dX8_count_56 rfl ?_
            refine fgX8_190 C zn40 60 rfl dX8_count_57 ?_
            exact zg_iret C dX8_count_60 trivial
          · refine zg_tabOut C 61 dX8_count_1 (by have gh1 := zxn h1 (by decide : (0 : Int32).toInt = 0); have gh2 := zxn h2 (by decide : (1 : Int32).toInt = 1); have gh3 := zxn h3 (by decide : (2 : Int32).toInt = 2); have gh4 := zxn h4 (by decide : (3 : Int32).toInt = 3); have gh5 := zxn h5 (by decide : (4 : Int32).toInt = 4); omega) (by decide) ?_
            refine zg_bipush C (-2 : Int32) 63 rfl dX8_count_61 (by decide) ?_
            exact zg_iret C dX8_count_63 trivial
set_option maxHeartbeats 4000000 in
set_option maxRecDepth 100000 in
theorem tM_narrow {l : Launch} {E : zE} {A : Nat → Prop} (hD : zD E zNM A) (M : zM) (a0 : Int32) (a1 : Int64) : zCT l yX8_narrow cX8_narrow 4 (some .long) 2 E zNM A [.ref (zad E 40 0), .int a0, .long a1] M zvL zoT (qM_narrow  M a0 a1) := by
  refine zCT_of (by decide) hD (by first | decide | exact Nat.le_of_ble_eq_true rfl) (fun p e R s m args below meth c C => ?_)
  have C : zCx p R s m args meth c cX8_narrow "TwoTrueModel" E zNM A 4 (some .long) 2 := C
  unfold qM_narrow
  refine zg_sub [1, 2] [(1, .int a0), (2, .long a1)] rfl ?_
  refine zg_iload_n C 0 1 rfl dX8_narrow_0 rfl ?_
  refine zg_if_ne C 11 4 rfl dX8_narrow_1 (by decide) ?_ ?_
  · refine zg_lload_n C 1 5 rfl dX8_narrow_4 rfl ?_
    refine zg_l2i C 6 rfl dX8_narrow_5 ?_
    refine zg_i2b C 7 rfl dX8_narrow_6 ?_
    refine zg_i2l C 8 rfl dX8_narrow_7 ?_
    refine zg_goto C 54 dX8_narrow_8 (by decide) ?_
    exact zg_lret C dX8_narrow_54 trivial
  · refine zg_iload_n C 0 12 rfl dX8_narrow_11 rfl ?_
    refine zg_iconst C (1 : Int32) 13 rfl dX8_narrow_12 (by decide) ?_
    refine zg_icmp_ne C 23 16 rfl dX8_narrow_13 (by decide) ?_ ?_
    · refine zg_lload_n C 1 17 rfl dX8_narrow_16 rfl ?_
      refine zg_l2i C 18 rfl dX8_narrow_17 ?_
      refine zg_i2s C 19 rfl dX8_narrow_18 ?_
      refine zg_i2l C 20 rfl dX8_narrow_19 ?_
      refine zg_goto C 54 dX8_narrow_20 (by decide) ?_
      exact zg_lret C dX8_narrow_54 trivial
    · refine zg_iload_n C 0 24 rfl dX8_narrow_23 rfl ?_
      refine zg_iconst C (2 : Int32) 25 rfl dX8_narrow_24 (by decide) ?_
      refine zg_icmp_ne C 34 28 rfl dX8_narrow_25 (by decide) ?_ ?_
      · refine zg_lload_n C 1 29 rfl dX8_narrow_28 rfl ?_
        refine zg_l2i C 30 rfl dX8_narrow_29 ?_
        refine zg_i2l C 31 rfl dX8_narrow_30 ?_
        refine zg_goto C 54 dX8_narrow_31 (by decide) ?_
        exact zg_lret C dX8_narrow_54 trivial
      · refine zg_iload_n C 0 35 rfl dX8_narrow_34 rfl ?_
        refine zg_iconst C (4 : Int32) 36 rfl dX8_narrow_35 (by decide) ?_
        refine zg_icmp_ne C 53 39 rfl dX8_narrow_36 (by decide) ?_ ?_
        · refine zg_lload_n C 1 40 rfl dX8_narrow_39 rfl ?_
          refine zg_lconst C (0 : Int64) 41 rfl dX8_narrow_40 (by decide) ?_
          refine zg_lcmp C 42 rfl dX8_narrow_41 ?_
          refine zg_if_eq C 49 45 rfl dX8_narrow_42 (by decide) ?_ ?_
          · refine zg_lconst C (0 : Int64) 50 rfl dX8_narrow_49 (by decide) ?_
            refine zg_goto C 54 dX8_narrow_50 (by decide) ?_
            exact zg_lret C dX8_narrow_54 trivial
          · refine zg_lconst C (1 : Int64) 46 rfl dX8_narrow_45 (by decide) ?_
            refine zg_goto C 54 dX8_narrow_46 (by decide) ?_
            exact zg_lret C dX8_narrow_54 trivial
        · refine zg_lload_n C 1 54 rfl dX8_narrow_53 rfl ?_
          exact zg_lret C dX8_narrow_54 trivial
set_option maxHeartbeats 4000000 in
set_option maxRecDepth 100000 in
theorem tM_person_L81 {p : Program} {l : Launch} {e : Env} {R : Room} {s : State} {m : MethodId} {args : Array Value} {below : List Frame} {meth : Method} {c : Code} {E : zE} {A : Nat → Prop} (C : zCx p R s m args meth c cX8_person "TwoTrueModel" E zNM A 4 (some .int) 3) (hD : zD E zNM A) {e135 : zM → Option (Int32 × zM)} (he135 : ∀ (M : zM), zG p l e R s m args below meth c E zNM A 4 zvI zoT 135 [(0, .ref (zad E 40 0))] [] M (e135 M )) : ∀ (n : Nat) (M : zM) (v3 : Int32), zG p l e R s m args below meth c E zNM A 4 zvI zoT 81 [(0, .ref (zad E 40 0)), (3, .int v3)] [] M (qM_person_L81 e135 n M v3) := by
  intro n
  induction n with
  | zero =>
    intro M v3
    exact zg_none
  | succ n ih =>
    intro M v3
    rw [qM_person_L81]
    refine zg_iload_n C 1 82 rfl dX8_person_81 rfl ?_
    refine zg_iconst C (3 : Int32) 83 rfl dX8_person_82 (by decide) ?_
    refine zg_icmp_ge C 135 86 rfl dX8_person_83 (by decide) ?_ ?_
    · refine zg_sub [0] [(0, .ref (zad E 40 0))] rfl ?_
      exact he135 M 
    · refine zg_aload_n C 0 87 rfl dX8_person_86 rfl ?_
      refine fgX8_29 C zn40 90 rfl dX8_person_87 ?_
      refine zg_iconst C (3 : Int32) 91 rfl dX8_person_90 (by decide) ?_
      refine zg_aload_n C 0 92 rfl dX8_person_91 rfl ?_
      refine fgX8_7 C zn40 95 rfl dX8_person_92 ?_
      refine zg_imul C 96 rfl dX8_person_95 ?_
      refine zg_iload_n C 1 97 rfl dX8_person_96 rfl ?_
      refine zg_iadd C 98 rfl dX8_person_97 ?_
      refine zg_bipush C (50 : Int32) 100 rfl dX8_person_98 (by decide) ?_
      refine zg_iast C 101 rfl dX8_person_100 zn45 (fun _ _ => rfl) (fun M11 => ?_)
      refine zg_aload_n C 0 102 rfl dX8_person_101 rfl ?_
      refine fgX8_32 C zn40 105 rfl dX8_person_102 ?_
      refine zg_iconst C (3 : Int32) 106 rfl dX8_person_105 (by decide) ?_
      refine zg_aload_n C 0 107 rfl dX8_person_106 rfl ?_
      refine fgX8_7 C zn40 110 rfl dX8_person_107 ?_
      refine zg_imul C 111 rfl dX8_person_110 ?_
      refine zg_iload_n C 1 112 rfl dX8_person_111 rfl ?_
      refine zg_iadd C 113 rfl dX8_person_112 ?_
      refine zg_iconst C (5 : Int32) 114 rfl dX8_person_113 (by decide) ?_
      refine zg_iast C 115 rfl dX8_person_114 zn46 (fun _ _ => rfl) (fun M12 => ?_)
      refine zg_aload_n C 0 116 rfl dX8_person_115 rfl ?_
      refine fgX8_35 C zn40 119 rfl dX8_person_116 ?_
      refine zg_iconst C (3 : Int32) 120 rfl dX8_person_119 (by decide) ?_
      refine zg_aload_n C 0 121 rfl dX8_person_120 rfl ?_
      refine fgX8_7 C zn40 124 rfl dX8_person_121 ?_
      refine zg_imul C 125 rfl dX8_person_124 ?_
      refine zg_iload_n C 1 126 rfl dX8_person_125 rfl ?_
      refine zg_iadd C 127 rfl dX8_person_126 ?_
      refine zg_iload_n C 1 128 rfl dX8_person_127 rfl ?_
      refine zg_iast C 129 rfl dX8_person_128 zn47 (fun _ _ => rfl) (fun M13 => ?_)
      refine zg_iinc C 1 (v3 + (1 : Int32)) [(3, .int (v3 + (1 : Int32))), (0, .ref (zad E 40 0))] 132 rfl dX8_person_129 rfl (congrArg (fun z : Int32 => v3 + z) (by decide : Int32.ofInt (1) = (1 : Int32))) (by decide) rfl ?_
      refine zg_goto C 81 dX8_person_132 (by decide) ?_
      refine zg_sub [1, 0] [(0, .ref (zad E 40 0)), (3, .int (v3 + (1 : Int32)))] rfl ?_
      exact ih M13 (v3 + (1 : Int32))
set_option maxHeartbeats 4000000 in
set_option maxRecDepth 100000 in
theorem tM_person_L137 {p : Program} {l : Launch} {e : Env} {R : Room} {s : State} {m : MethodId} {args : Array Value} {below : List Frame} {meth : Method} {c : Code} {E : zE} {A : Nat → Prop} (C : zCx p R s m args meth c cX8_person "TwoTrueModel" E zNM A 4 (some .int) 3) (hD : zD E zNM A) {e162 : zM → Option (Int32 × zM)} (he162 : ∀ (M : zM), zG p l e R s m args below meth c E zNM A 4 zvI zoT 162 [(0, .ref (zad E 40 0))] [] M (e162 M )) : ∀ (n : Nat) (M : zM) (v3 : Int32), zG p l e R s m args below meth c E zNM A 4 zvI zoT 137 [(0, .ref (zad E 40 0)), (3, .int v3)] [] M (qM_person_L137 e162 n M v3) := by
  intro n
  induction n with
  | zero =>
    intro M v3
    exact zg_none
  | succ n ih =>
    intro M v3
    rw [qM_person_L137]
    refine zg_iload_n C 1 138 rfl dX8_person_137 rfl ?_
    refine zg_iconst C (4 : Int32) 139 rfl dX8_person_138 (by decide) ?_
    refine zg_icmp_ge C 162 142 rfl dX8_person_139 (by decide) ?_ ?_
    · refine zg_sub [0] [(0, .ref (zad E 40 0))] rfl ?_
      exact he162 M 
    · refine zg_aload_n C 0 143 rfl dX8_person_142 rfl ?_
      refine fgX8_38 C zn40 146 rfl dX8_person_143 ?_
      refine zg_iconst C (4 : Int32) 147 rfl dX8_person_146 (by decide) ?_
      refine zg_aload_n C 0 148 rfl dX8_person_147 rfl ?_
      refine fgX8_7 C zn40 151 rfl dX8_person_148 ?_
      refine zg_imul C 152 rfl dX8_person_151 ?_
      refine zg_iload_n C 1 153 rfl dX8_person_152 rfl ?_
      refine zg_iadd C 154 rfl dX8_person_153 ?_
      refine zg_iconst C (0 : Int32) 155 rfl dX8_person_154 (by decide) ?_
      refine zg_iast C 156 rfl dX8_person_155 zn48 (fun _ _ => rfl) (fun M15 => ?_)
      refine zg_iinc C 1 (v3 + (1 : Int32)) [(3, .int (v3 + (1 : Int32))), (0, .ref (zad E 40 0))] 159 rfl dX8_person_156 rfl (congrArg (fun z : Int32 => v3 + z) (by decide : Int32.ofInt (1) = (1 : Int32))) (by decide) rfl ?_
      refine zg_goto C 137 dX8_person_159 (by decide) ?_
      refine zg_sub [1, 0] [(0, .ref (zad E 40 0)), (3, .int (v3 + (1 : Int32)))] rfl ?_
      exact ih M15 (v3 + (1 : Int32))
set_option maxHeartbeats 4000000 in
set_option maxRecDepth 100000 in
theorem tM_person {l : Launch} {E : zE} {A : Nat → Prop} (hD : zD E zNM A) (M : zM) (a0 : Int32) (a1 : Int32) : zCT l yX8_person cX8_person 4 (some .int) 3 E zNM A [.ref (zad E 40 0), .int a0, .int a1] M zvI zoT (qM_person  M a0 a1) := by
  refine zCT_of (by decide) hD (by first | decide | exact Nat.le_of_ble_eq_true rfl) (fun p e R s m args below meth c C => ?_)
  have C : zCx p R s m args meth c cX8_person "TwoTrueModel" E zNM A 4 (some .int) 3 := C
  unfold qM_person
  refine zg_sub [0, 1, 2] [(0, .ref (zad E 40 0)), (1, .int a0), (2, .int a1)] rfl ?_
  refine zg_aload_n C 0 1 rfl dX8_person_0 rfl ?_
  refine zg_iload_n C 1 2 rfl dX8_person_1 rfl ?_
  refine zg_iconst C (0 : Int32) 3 rfl dX8_person_2 (by decide) ?_
  refine zg_bipush C (6 : Int32) 5 rfl dX8_person_3 (by decide) ?_
  refine zg_callVI C [.int a0, .int (0 : Int32), .int (6 : Int32)] 8 rfl dX8_person_5 (tM_in hD M a0 (0 : Int32) (6 : Int32)) rfl (fun _ _ hP _ => zrecv C.2.2.2.2.2.1 hP zn40 rfl rfl) zw969 zw966 zw968 zv19 zw9 oM_in (by decide) (Nat.le_of_ble_eq_true rfl) (fun x2 M1 h3 => ?_)
  refine zg_if_ne C 13 11 rfl dX8_person_8 (by decide) ?_ ?_
  · refine zg_iconst C (-1 : Int32) 12 rfl dX8_person_11 (by decide) ?_
    exact zg_iret C dX8_person_12 trivial
  · refine zg_aload_n C 0 14 rfl dX8_person_13 rfl ?_
    refine zg_iload_n C 2 15 rfl dX8_person_14 rfl ?_
    refine zg_iconst C (0 : Int32) 16 rfl dX8_person_15 (by decide) ?_
    refine zg_bipush C (9 : Int32) 18 rfl dX8_person_16 (by decide) ?_
    refine zg_callVI C [.int a1, .int (0 : Int32), .int (9 : Int32)] 21 rfl dX8_person_18 (tM_in hD M1 a1 (0 : Int32) (9 : Int32)) rfl (fun _ _ hP _ => zrecv C.2.2.2.2.2.1 hP zn40 rfl rfl) zw969 zw966 zw968 zv19 zw9 oM_in (by decide) (Nat.le_of_ble_eq_true rfl) (fun x5 M4 h6 => ?_)
    refine zg_if_ne C 27 24 rfl dX8_person_21 (by decide) ?_ ?_
    · refine zg_bipush C (-2 : Int32) 26 rfl dX8_person_24 (by decide) ?_
      exact zg_iret C dX8_person_26 trivial
    · refine zg_aload_n C 0 28 rfl dX8_person_27 rfl ?_
      refine fgX8_7 C zn40 31 rfl dX8_person_28 ?_
      refine zg_bipush C (6 : Int32) 33 rfl dX8_person_31 (by decide) ?_
      refine zg_icmp_ne C 39 36 rfl dX8_person_33 (by decide) ?_ ?_
      · refine zg_bipush C (-4 : Int32) 38 rfl dX8_person_36 (by decide) ?_
        exact zg_iret C dX8_person_38 trivial
      · refine zg_aload_n C 0 40 rfl dX8_person_39 rfl ?_
        refine fgX8_16 C zn40 43 rfl dX8_person_40 ?_
        refine zg_aload_n C 0 44 rfl dX8_person_43 rfl ?_
        refine fgX8_7 C zn40 47 rfl dX8_person_44 ?_
        refine zg_iload_n C 1 48 rfl dX8_person_47 rfl ?_
        refine zg_iast C 49 rfl dX8_person_48 zn41 (fun _ _ => rfl) (fun M7 => ?_)
        refine zg_aload_n C 0 50 rfl dX8_person_49 rfl ?_
        refine fgX8_20 C zn40 53 rfl dX8_person_50 ?_
        refine zg_aload_n C 0 54 rfl dX8_person_53 rfl ?_
        refine fgX8_7 C zn40 57 rfl dX8_person_54 ?_
        refine zg_iload_n C 2 58 rfl dX8_person_57 rfl ?_
        refine zg_iast C 59 rfl dX8_person_58 zn42 (fun _ _ => rfl) (fun M8 => ?_)
        refine zg_aload_n C 0 60 rfl dX8_person_59 rfl ?_
        refine fgX8_23 C zn40 63 rfl dX8_person_60 ?_
        refine zg_aload_n C 0 64 rfl dX8_person_63 rfl ?_
        refine fgX8_7 C zn40 67 rfl dX8_person_64 ?_
        refine zg_iconst C (0 : Int32) 68 rfl dX8_person_67 (by decide) ?_
        refine zg_iast C 69 rfl dX8_person_68 zn43 (fun _ _ => rfl) (fun M9 => ?_)
        refine zg_aload_n C 0 70 rfl dX8_person_69 rfl ?_
        refine fgX8_26 C zn40 73 rfl dX8_person_70 ?_
        refine zg_aload_n C 0 74 rfl dX8_person_73 rfl ?_
        refine fgX8_7 C zn40 77 rfl dX8_person_74 ?_
        refine zg_iconst C (0 : Int32) 78 rfl dX8_person_77 (by decide) ?_
        refine zg_iast C 79 rfl dX8_person_78 zn44 (fun _ _ => rfl) (fun M10 => ?_)
        refine zg_iconst C (0 : Int32) 80 rfl dX8_person_79 (by decide) ?_
        refine zg_istore_n C 3 [(3, .int (0 : Int32)), (0, .ref (zad E 40 0)), (1, .int a0), (2, .int a1)] 81 rfl dX8_person_80 rfl (by decide) rfl ?_
        refine zg_sub [1, 0] [(0, .ref (zad E 40 0)), (3, .int (0 : Int32))] rfl ?_
        refine tM_person_L81 C hD  (fun M14 => ?_) 1000 M10 (0 : Int32)
        · refine zg_iconst C (0 : Int32) 136 rfl dX8_person_135 (by decide) ?_
          refine zg_istore_n C 3 [(3, .int (0 : Int32)), (0, .ref (zad E 40 0))] 137 rfl dX8_person_136 rfl (by decide) rfl ?_
          refine zg_sub [1, 0] [(0, .ref (zad E 40 0)), (3, .int (0 : Int32))] rfl ?_
          refine tM_person_L137 C hD  (fun M16 => ?_) 1000 M14 (0 : Int32)
          · refine zg_aload_n C 0 163 rfl dX8_person_162 rfl ?_
            refine zg_dup C rfl 164 rfl dX8_person_163 ?_
            refine fgX8_7 C zn40 167 rfl dX8_person_164 ?_
            refine zg_iconst C (1 : Int32) 168 rfl dX8_person_167 (by decide) ?_
            refine zg_iadd C 169 rfl dX8_person_168 ?_
            refine fpX8_7 C zn40 172 rfl dX8_person_169 (fun M17 => ?_)
            refine zg_aload_n C 0 173 rfl dX8_person_172 rfl ?_
            refine fgX8_7 C zn40 176 rfl dX8_person_173 ?_
            refine zg_iconst C (1 : Int32) 177 rfl dX8_person_176 (by decide) ?_
            refine zg_isub C 178 rfl dX8_person_177 ?_
            exact zg_iret C dX8_person_178 trivial
set_option maxHeartbeats 4000000 in
set_option maxRecDepth 100000 in
theorem tM_isPerson {l : Launch} {E : zE} {A : Nat → Prop} (hD : zD E zNM A) (M : zM) (a0 : Int32) : zCT l yX8_isPerson cX8_isPerson 2 (some .boolean) 3 E zNM A [.ref (zad E 40 0), .int a0] M zvI zoB (qM_isPerson  M a0) := by
  refine zCT_of (by decide) hD (by first | decide | exact Nat.le_of_ble_eq_true rfl) (fun p e R s m args below meth c C => ?_)
  have C : zCx p R s m args meth c cX8_isPerson "TwoTrueModel" E zNM A 2 (some .boolean) 3 := C
  unfold qM_isPerson
  refine zg_sub [0, 1] [(0, .ref (zad E 40 0)), (1, .int a0)] rfl ?_
  refine zg_aload_n C 0 1 rfl dX8_isPerson_0 rfl ?_
  refine zg_iload_n C 1 2 rfl dX8_isPerson_1 rfl ?_
  refine zg_iconst C (0 : Int32) 3 rfl dX8_isPerson_2 (by decide) ?_
  refine zg_aload_n C 0 4 rfl dX8_isPerson_3 rfl ?_
  refine fgX8_7 C zn40 7 rfl dX8_isPerson_4 ?_
  refine zg_iconst C (1 : Int32) 8 rfl dX8_isPerson_7 (by decide) ?_
  refine zg_isub C 9 rfl dX8_isPerson_8 ?_
  refine zg_callVI C [.int a0, .int (0 : Int32), .int ((M.1 40 0 0) - (1 : Int32))] 12 rfl dX8_isPerson_9 (tM_in hD M a0 (0 : Int32) ((M.1 40 0 0) - (1 : Int32))) rfl (fun _ _ hP _ => zrecv C.2.2.2.2.2.1 hP zn40 rfl rfl) zw969 zw966 zw968 zv19 zw9 oM_in (by decide) (Nat.le_of_ble_eq_true rfl) (fun x2 M1 h3 => ?_)
  exact zg_zret C dX8_isPerson_12 h3 h3
set_option maxHeartbeats 4000000 in
set_option maxRecDepth 100000 in
theorem tM_feed {l : Launch} {E : zE} {A : Nat → Prop} (hD : zD E zNM A) (M : zM) (a0 : Int32) : zCT l yX8_feed cX8_feed 2 (some .int) 3 E zNM A [.ref (zad E 40 0), .int a0] M zvI zoT (qM_feed  M a0) := by
  refine zCT_of (by decide) hD (by first | decide | exact Nat.le_of_ble_eq_true rfl) (fun p e R s m args below meth c C => ?_)
  have C : zCx p R s m args meth c cX8_feed "TwoTrueModel" E zNM A 2 (some .int) 3 := C
  unfold qM_feed
  refine zg_sub [0, 1] [(0, .ref (zad E 40 0)), (1, .int a0)] rfl ?_
  refine zg_aload_n C 0 1 rfl dX8_feed_0 rfl ?_
  refine zg_iload_n C 1 2 rfl dX8_feed_1 rfl ?_
  refine zg_iconst C (0 : Int32) 3 rfl dX8_feed_2 (by decide) ?_
  refine zg_bipush C (127 : Int32) 5 rfl dX8_feed_3 (by decide) ?_
  refine zg_callVI C [.int a0, .int (0 : Int32), .int (127 : Int32)] 8 rfl dX8_feed_5 (tM_in hD M a0 (0 : Int32) (127 : Int32)) rfl (fun _ _ hP _ => zrecv C.2.2.2.2.2.1 hP zn40 rfl rfl) zw969 zw966 zw968 zv19 zw9 oM_in (by decide) (Nat.le_of_ble_eq_true rfl) (fun x2 M1 h3 => ?_)
  refine zg_if_ne C 14 11 rfl dX8_feed_8 (by decide) ?_ ?_
  · refine zg_bipush C (-2 : Int32) 13 rfl dX8_feed_11 (by decide) ?_
    exact zg_iret C dX8_feed_13 trivial
  · refine zg_aload_n C 0 15 rfl dX8_feed_14 rfl ?_
    refine fgX8_47 C zn40 18 rfl dX8_feed_15 ?_
    refine zg_bipush C (100 : Int32) 20 rfl dX8_feed_18 (by decide) ?_
    refine zg_icmp_ne C 26 23 rfl dX8_feed_20 (by decide) ?_ ?_
    · refine zg_bipush C (-4 : Int32) 25 rfl dX8_feed_23 (by decide) ?_
      exact zg_iret C dX8_feed_25 trivial
    · refine zg_aload_n C 0 27 rfl dX8_feed_26 rfl ?_
      refine fgX8_56 C zn40 30 rfl dX8_feed_27 ?_
      refine zg_aload_n C 0 31 rfl dX8_feed_30 rfl ?_
      refine fgX8_47 C zn40 34 rfl dX8_feed_31 ?_
      refine zg_iload_n C 1 35 rfl dX8_feed_34 rfl ?_
      refine zg_iast C 36 rfl dX8_feed_35 zn49 (fun _ _ => rfl) (fun M4 => ?_)
      refine zg_aload_n C 0 37 rfl dX8_feed_36 rfl ?_
      refine zg_dup C rfl 38 rfl dX8_feed_37 ?_
      refine fgX8_47 C zn40 41 rfl dX8_feed_38 ?_
      refine zg_iconst C (1 : Int32) 42 rfl dX8_feed_41 (by decide) ?_
      refine zg_iadd C 43 rfl dX8_feed_42 ?_
      refine fpX8_47 C zn40 46 rfl dX8_feed_43 (fun M5 => ?_)
      refine zg_aload_n C 0 47 rfl dX8_feed_46 rfl ?_
      refine fgX8_47 C zn40 50 rfl dX8_feed_47 ?_
      exact zg_iret C dX8_feed_50 trivial
set_option maxHeartbeats 4000000 in
set_option maxRecDepth 100000 in
theorem tM_takes {l : Launch} {E : zE} {A : Nat → Prop} (hD : zD E zNM A) (M : zM) (a0 : Int32) : zCT l yX8_takes cX8_takes 2 (some .boolean) 3 E zNM A [.ref (zad E 40 0), .int a0] M zvI zoB (qM_takes  M a0) := by
  refine zCT_of (by decide) hD (by first | decide | exact Nat.le_of_ble_eq_true rfl) (fun p e R s m args below meth c C => ?_)
  have C : zCx p R s m args meth c cX8_takes "TwoTrueModel" E zNM A 2 (some .boolean) 3 := C
  unfold qM_takes
  refine zg_sub [0, 1] [(0, .ref (zad E 40 0)), (1, .int a0)] rfl ?_
  refine zg_aload_n C 0 1 rfl dX8_takes_0 rfl ?_
  refine zg_callVI C [] 4 rfl dX8_takes_1 (tM_next hD M ) rfl (fun _ _ hP _ => zrecv C.2.2.2.2.2.1 hP zn40 rfl rfl) zw1021 zw1018 zw1020 zv25 zw9 oM_next (by decide) (Nat.le_of_ble_eq_true rfl) (fun x2 M1 h3 => ?_)
  refine zg_iload_n C 1 5 rfl dX8_takes_4 rfl ?_
  refine zg_icmp_eq C 10 8 rfl dX8_takes_5 (by decide) ?_ ?_
  · refine zg_aload_n C 0 11 rfl dX8_takes_10 rfl ?_
    refine zg_dup C rfl 12 rfl dX8_takes_11 ?_
    refine fgX8_50 C zn40 15 rfl dX8_takes_12 ?_
    refine zg_iconst C (1 : Int32) 16 rfl dX8_takes_15 (by decide) ?_
    refine zg_iadd C 17 rfl dX8_takes_16 ?_
    refine fpX8_50 C zn40 20 rfl dX8_takes_17 (fun M4 => ?_)
    refine zg_iconst C (1 : Int32) 21 rfl dX8_takes_20 (by decide) ?_
    exact zg_zret C dX8_takes_21 rfl rfl
  · refine zg_iconst C (0 : Int32) 9 rfl dX8_takes_8 (by decide) ?_
    exact zg_zret C dX8_takes_9 rfl rfl
