theorem zw17 : (Jvm.Cond.classLink "TwoTrueLaw" (7 : Nat) "TwoTrue") ∈ zgw := zgm 82 (by decide +kernel) rfl
theorem zw18 : (Jvm.Cond.instantiable "TwoTrue" (14 : Nat)) ∈ zgw := zgm 83 (by decide +kernel) rfl
theorem zw19 : (Jvm.Cond.methodLink "TwoTrueLaw" (9 : Nat) ({ cls := "TwoTrue", name := "<init>", desc := "()V" } : Jvm.MethodName)) ∈ zgw := zgm 84 (by decide +kernel) rfl
theorem zw20 : (Jvm.Cond.instanceMethod ({ cls := "TwoTrue", name := "<init>", desc := "()V" } : Jvm.MethodName)) ∈ zgw := zgm 85 (by decide +kernel) rfl
theorem zw21 : (Jvm.Cond.code ({ cls := "TwoTrue", name := "<init>", desc := "()V" } : Jvm.MethodName) prog_1_method_1_code (2 : Nat) (Option.none : Option Jvm.ClassFile.FieldType)) ∈ zgw := zgm 86 (by decide +kernel) rfl
theorem zw760 : (Jvm.Cond.classLink "TwoTrueLaw" (10 : Nat) "TwoTrueModel") ∈ zgw := zgm 825 (by decide +kernel) rfl
theorem zw761 : (Jvm.Cond.instantiable "TwoTrueModel" (65 : Nat)) ∈ zgw := zgm 826 (by decide +kernel) rfl
theorem zw762 : (Jvm.Cond.methodLink "TwoTrueLaw" (12 : Nat) ({ cls := "TwoTrueModel", name := "<init>", desc := "()V" } : Jvm.MethodName)) ∈ zgw := zgm 827 (by decide +kernel) rfl
theorem zw763 : (Jvm.Cond.instanceMethod ({ cls := "TwoTrueModel", name := "<init>", desc := "()V" } : Jvm.MethodName)) ∈ zgw := zgm 828 (by decide +kernel) rfl
theorem zw764 : (Jvm.Cond.code ({ cls := "TwoTrueModel", name := "<init>", desc := "()V" } : Jvm.MethodName) prog_10_method_1_code (1 : Nat) (Option.none : Option Jvm.ClassFile.FieldType)) ∈ zgw := zgm 829 (by decide +kernel) rfl
set_option maxHeartbeats 4000000 in
set_option maxRecDepth 100000 in
theorem zdefM : ∀ j, j < 65 → defaultValue (tyX8 j) = vp_V [.int 0, .int 0, .null, .null, .null, .null, .null, .null, .null, .null, .int 0, .int 0, .int 0, .int 0, .int 0, .null, .null, .null, .null, .null, .null, .null, .null, .int 0, .int 0, .int 0, .null, .null, .null, .null, .int 0, .int 0, .int 0, .null, .null, .null, .null, .null, .int 0, .null, .null, .null, .int 0, .int 0, .int 0, .int 0, .int 0, .null, .null, .null, .null, .null, .null, .null, .null, .null, .null, .null, .null, .int 0, .null, .null, .null, .null, .null] j := by
  intro j hj
  rcases (show j = 0 ∨ j = 1 ∨ j = 2 ∨ j = 3 ∨ j = 4 ∨ j = 5 ∨ j = 6 ∨ j = 7 ∨ j = 8 ∨ j = 9 ∨ j = 10 ∨ j = 11 ∨ j = 12 ∨ j = 13 ∨ j = 14 ∨ j = 15 ∨ j = 16 ∨ j = 17 ∨ j = 18 ∨ j = 19 ∨ j = 20 ∨ j = 21 ∨ j = 22 ∨ j = 23 ∨ j = 24 ∨ j = 25 ∨ j = 26 ∨ j = 27 ∨ j = 28 ∨ j = 29 ∨ j = 30 ∨ j = 31 ∨ j = 32 ∨ j = 33 ∨ j = 34 ∨ j = 35 ∨ j = 36 ∨ j = 37 ∨ j = 38 ∨ j = 39 ∨ j = 40 ∨ j = 41 ∨ j = 42 ∨ j = 43 ∨ j = 44 ∨ j = 45 ∨ j = 46 ∨ j = 47 ∨ j = 48 ∨ j = 49 ∨ j = 50 ∨ j = 51 ∨ j = 52 ∨ j = 53 ∨ j = 54 ∨ j = 55 ∨ j = 56 ∨ j = 57 ∨ j = 58 ∨ j = 59 ∨ j = 60 ∨ j = 61 ∨ j = 62 ∨ j = 63 ∨ j = 64 by omega) with rfl | rfl | rfl | rfl | rfl | rfl | rfl | rfl | rfl | rfl | rfl | rfl | rfl | rfl | rfl | rfl | rfl | rfl | rfl | rfl | rfl | rfl | rfl | rfl | rfl | rfl | rfl | rfl | rfl | rfl | rfl | rfl | rfl | rfl | rfl | rfl | rfl | rfl | rfl | rfl | rfl | rfl | rfl | rfl | rfl | rfl | rfl | rfl | rfl | rfl | rfl | rfl | rfl | rfl | rfl | rfl | rfl | rfl | rfl | rfl | rfl | rfl | rfl | rfl | rfl <;> rfl
set_option maxHeartbeats 4000000 in
set_option maxRecDepth 100000 in
theorem whole_of (Rl : zM → zM → Prop) (h0 : Rl zc0 zm0) (hst : zStep Rl) {p : Program} {e : Env} {s : State} {m : MethodId} {below : List Frame} {meth : Method} {c : Code} (l : Launch) {b L : Nat} {xs : Nat → Int32} (hL : L ≤ 3072) (C0 : lw_At p s m meth c b L xs) : W p l e room_1 s m #[Value.ref b] below meth c s.heap [] 0 0 (lw_Z below #[Value.ref b] s) (entryFrame m ([Value.ref b] : List Value).toArray 4) := by
  obtain ⟨hx, hb, hr, hml, hown, hts, hX, hbl, hlocks, hgv⟩ := id C0
  obtain ⟨E, had, hK, hN, hE⟩ := zstart hts hgv
  have htg : ∀ w ∈ zgw, w.before #[Value.ref b] s = true := fun w hw => hts w (List.mem_filter.mp hw).1
  have hown : s.vm.findClass "TwoTrueLaw" = some m.cls := hown
  have hS : va_S (fun q : Nat => s.heap.size ≤ q) s.heap s.heap [] := va_S.rf
  have hl := lv_entry ([.ref b]) (n := 4) (Nat.le_of_ble_eq_true rfl)
  rw [lg_entry_eq]
  generalize (lg_sl ([.ref b]) ++ List.replicate (4 - (lg_sl ([.ref b])).length) Slot.unset).toArray = la at hl ⊢
  have hl : lv_has la 4 [(0, .ref b)] := hl
  have hA := zALC_of had
  have hA2 := zALM_of had
  have e0 : zad E 0 0 = s.heap.size := by rw [(hA.2 0 0 0 rfl).1, Nat.add_zero]
  -- the class's object
  refine W.newcK hx hb hown (htg (.classLink "TwoTrueLaw" 7 "TwoTrue") zw17) (htg (.instantiable "TwoTrue" 14) zw18) (htg (.initialized "TwoTrue") zw1) rfl dw_0 (Nat.le_of_ble_eq_true rfl) (Nat.le_of_ble_eq_true rfl) (hK.1 7 _ rfl).2.1 e0.symm fun H1 kC hkC e1 z1 o1 => ?_
  have hP1 : va_P E.1 vwCl (zwB E (zALC.take 1) (zclr zM0 0 0)) H1 := by
    have hp := zwB_push (E := E) (M := zM0) (n := 0) (k := 0) (i := 0) hA.1 rfl rfl
    rw [show zALC.take 1 = zALC.take (0 + 1) from rfl, ← hp]
    intro j q hj
    have hz1 : j < 1 := (List.getElem?_eq_some_iff.mp hj).1
    rw [show j = 0 by omega] at hj
    cases hj
    exact ⟨_, rfl, (u_born tyX7 htg iK7 (hK.1 7 _ rfl) hkC e1 tyX7_ok).to (fun j hj => by rcases (show j = 0 ∨ j = 1 ∨ j = 2 ∨ j = 3 ∨ j = 4 ∨ j = 5 ∨ j = 6 ∨ j = 7 ∨ j = 8 ∨ j = 9 ∨ j = 10 ∨ j = 11 ∨ j = 12 ∨ j = 13 by omega) with rfl | rfl | rfl | rfl | rfl | rfl | rfl | rfl | rfl | rfl | rfl | rfl | rfl | rfl <;> rfl)⟩
  have hS1 : va_S (fun q : Nat => s.heap.size ≤ q) s.heap H1 [] := ⟨by rw [z1, e0]; omega, fun q h1 _ => o1 q (by rw [e0]; exact h1), fun _ h => by cases h⟩
  refine lv_dup hx hb dw_3 rfl ?_
  have cw1 : CallB room_1 s #[Value.ref b] "TwoTrueLaw" 9 yX7_init cX7_init 2 none (.code yX7_init cX7_init 2 none :: zgw) (zrmB 3 141 1891) 141 1891 0 ∧ yX7_init.name = "<init>" ∧ (Cond.instanceMethod yX7_init).before #[Value.ref b] s = true := ⟨callB_of 0 htg (zgc zw21) rfl rfl rfl (htg _ zw1) (htg _ zw19) oX7_init ⟨Nat.le_of_ble_eq_true rfl, Nat.le_of_ble_eq_true rfl⟩, rfl, htg _ zw20⟩
  refine zcallB (E := E) (AL := zALC) (z := s.heap.size) (n2 := 142) (mc2 := 141) (ms2 := 1891) (M1 := bG_init (zclr zM0 0 0)) (va_runI (Ts := zgw) (As := []) (rest := [.ref (zad E 0 0)]) ⟨hx, hb, hml, hown, htg⟩ (tbG_init (l := l) hA (fun q h => by show s.heap.size ≤ q; omega) (zclr zM0 0 0)) cw1 ⟨zPreB.blind, fun U hU hW => ⟨rfl, by rw [hU, z1, e0], by rw [hU]; exact hP1, va_K.moved hW.alike hK, hN.go hW⟩⟩ rfl rfl hl.1 rfl (lv_room (Nat.le_of_ble_eq_true rfl)) dw_4 ⟨Nat.le_of_ble_eq_true rfl, Nat.le_of_ble_eq_true rfl⟩) hS1 (fun H2 locs2 hz2 hP2 hS2 => ?_)
  have hPc := zfinC hP2
  refine lv_astore_n (lv' := [(1, .ref (zad E 0 0)), (0, .ref b)]) hx hb dw_7 rfl hl (by decide) rfl (fun la hl => ?_)
  -- the reference's
  have e40 : zad E 40 0 = H2.size := by rw [(hA2.2 0 40 0 rfl).1, hz2]
  refine W.newcK hx hb hown (htg (.classLink "TwoTrueLaw" 10 "TwoTrueModel") zw760) (htg (.instantiable "TwoTrueModel" 65) zw761) (htg (.initialized "TwoTrueModel") zw9) rfl dw_8 (Nat.le_of_ble_eq_true rfl) (Nat.le_of_ble_eq_true rfl) (hK.1 8 _ rfl).2.1 e40.symm fun H3 kM hkM e3 z3 o3 => ?_
  have hP3 : va_P E.1 vwCl (zwB E (zALM.take 1) (zclr zM0 40 0)) H3 := by
    have hp := zwB_push (E := E) (M := zM0) (n := 0) (k := 40) (i := 0) hA2.1 rfl rfl
    rw [show zALM.take 1 = zALM.take (0 + 1) from rfl, ← hp]
    intro j q hj
    have hz1 : j < 1 := (List.getElem?_eq_some_iff.mp hj).1
    rw [show j = 0 by omega] at hj
    cases hj
    exact ⟨_, rfl, (u_born tyX8 htg iK8 (hK.1 8 _ rfl) hkM e3 tyX8_ok).to zdefM⟩
  have hPc3 : va_P E.1 vwCl (zw E zNC zc0) H3 := hPc.kept (fun j q hj => o3 q.1 (by rw [e40]; exact (hPc j q hj).lt))
  have hS3 : va_S (fun q : Nat => s.heap.size ≤ q) s.heap H3 locs2 := ⟨Nat.le_trans hS2.1 (by rw [z3, e40]; omega), fun q h1 h2 => (o3 q (by rw [e40]; exact Nat.lt_of_lt_of_le h1 hS2.1)).trans (hS2.2.1 q h1 h2), hS2.2.2⟩
  refine lv_dup hx hb dw_11 rfl ?_
  have cw2 : CallB room_1 s #[Value.ref b] "TwoTrueLaw" 12 yX8_init cX8_init 1 none (.code yX8_init cX8_init 1 none :: zgw) (zrmB 1 45 1922) 45 1922 0 ∧ yX8_init.name = "<init>" ∧ (Cond.instanceMethod yX8_init).before #[Value.ref b] s = true := ⟨callB_of 0 htg (zgc zw764) rfl rfl rfl (htg _ zw9) (htg _ zw762) oX8_init ⟨Nat.le_of_ble_eq_true rfl, Nat.le_of_ble_eq_true rfl⟩, rfl, htg _ zw763⟩
  have hrun := va_runI (l := l) (p := p) (e := e) (below := below) (meth := meth) (R := room_1) (s := s) (args := #[Value.ref b]) (H := H3) (locs := locs2) (cells := 143) (slots := 1970) (g := F0 m 12 la [.ref (zad E 40 0), .ref (zad E 40 0)]) (Ts := zgw) (As := []) (rest := [.ref (zad E 40 0)]) (m := m) ⟨hx, hb, hml, hown, htg⟩ (tbM_init (l := l) hA2 (fun q h => by show s.heap.size + 142 ≤ q; omega) (zclr zM0 40 0)) cw2 ⟨zPreB.blind, fun U hU hW => ⟨rfl, by rw [hU, z3, e40, hz2], by rw [hU]; exact hP3, va_K.moved hW.alike hK, hN.go hW⟩⟩ rfl rfl hl.1 rfl (lv_room (Nat.le_of_ble_eq_true rfl)) dw_12 ⟨Nat.le_of_ble_eq_true rfl, Nat.le_of_ble_eq_true rfl⟩
  intro T hT X
  obtain ⟨v, st₀, t, T', Lc, g0, X', hLc, f1, f2, ⟨hv, hszT, hPT, hz, hk⟩, stp⟩ := hrun T hT X
  cases hv
  rw [g0] at hz hk
  have hPm : va_P E.1 vwCl (zw E zNM zm0) T'.heap := by rw [f1]; exact zfinM hPT
  have hPc4 : va_P E.1 vwCl (zw E zNC zc0) T'.heap := by
    rw [f1]
    refine hPc3.kept (fun j q hj => hk q.1 ((hPc3 j q hj).lt) (fun hA => ?_))
    have h6 := (((zDC had).D zc0).2 j q hj).2
    have h7 : s.heap.size + 142 ≤ q.1 := hA
    omega
  have hS4 : va_S (fun q : Nat => s.heap.size ≤ q) s.heap T'.heap (locs2 ++ Lc) := ⟨Nat.le_trans hS3.1 (by rw [f1]; exact hz), fun q g1 g2 => by rw [f1, hk q (Nat.lt_of_lt_of_le g1 hS3.1) (fun h => g2 (by have h7 : s.heap.size + 142 ≤ q := h; omega))]; exact hS3.2.1 q g1 g2, fun q hq => by
      rcases List.mem_append.mp hq with h | h
      · exact hS3.2.2 q h
      · have h7 : s.heap.size + 142 ≤ q.base := hLc q h
        show s.heap.size ≤ q.base
        omega⟩
  have K : W p l e room_1 s m #[Value.ref b] below meth c T'.heap (locs2 ++ Lc) 188 3892 (lw_Z below #[Value.ref b] s) (F0 m 15 la [.ref (zad E 40 0)]) := by
    refine lv_astore_n (lv' := [(2, .ref (zad E 40 0)), (1, .ref (zad E 0 0)), (0, .ref b)]) hx hb dw_15 rfl hl (by decide) rfl (fun la hl => ?_)
    refine lv_iconst (v := 0) hx hb dw_16 (by decide) ?_
    refine lv_istore_n (lv' := [(3, .int 0), (2, .ref (zad E 40 0)), (1, .ref (zad E 0 0)), (0, .ref b)]) hx hb dw_17 rfl hl (by decide) rfl (fun la hl => ?_)
    have Cx : zLx p s m meth c b L xs E := ⟨hx, hb, hml, hown, htg, hX, hbl, hK, hE, had, hL⟩
    refine law_loop Rl hst Cx (fun la x m2 H locs hP hM hS => ?_) (L + 1) 0 zc0 zm0 la (by omega) (by omega) h0 (lv_sub hl [3, 2, 1, 0] rfl) T'.heap (locs2 ++ Lc) hPc4 hPm hS4
    refine lv_iconst (v := 1) hx hb dw_1436 (by decide) ?_
    refine va_forget (fun q hq => hS.2.2 q hq) ?_
    refine W.widen (k := 600000) (n := 7302250) (Nat.le_of_ble_eq_true rfl) (Nat.le_of_ble_eq_true rfl) ?_
    exact lw_ret hx hb hr hlocks dw_1437
  obtain ⟨t2, a1, b1⟩ := K T' rfl X'
  exact ⟨t2, stp t2 a1, b1⟩
