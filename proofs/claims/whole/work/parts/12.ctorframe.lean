/-! MAKING: the constructors. The cells are made in a fixed order AL, from the address z on. -/
def zmk (x : Int32) (a : Nat) : Value := if x = 0 then .null else .ref a
def zcellB (cy : Nat → ClassId) (ad : Nat → Nat → Nat) (k i : Nat) (f : Nat → Int32) (g : Nat → Int64) : va_E := match k with
  | 0 => .inr (7, [zmk (f 0) (ad 1 0), zmk (f 1) (ad 1 1), zmk (f 2) (ad 1 2), .int (f 3), zmk (f 4) (ad 10 0), zmk (f 5) (ad 12 0), zmk (f 6) (ad 13 6), .int (f 7), zmk (f 8) (ad 16 0), zmk (f 9) (ad 22 0), zmk (f 10) (ad 23 0), zmk (f 11) (ad 24 0), zmk (f 12) (ad 25 0), zmk (f 13) (ad 27 0)])
  | 1 => .inr (2, [zmk (f 0) (ad 7 i), .int (f 1), .int (f 2), .int (f 3), zmk (f 4) (ad 8 i), zmk (f 5) (ad 9 i), .int (f 6)])
  | 2 => .inr (3, [.int (f 0), .int (f 1), .int (f 2), .int (f 3), .int (f 4), zmk (f 5) (ad 3 i), zmk (f 6) (ad 4 i), zmk (f 7) (ad 5 i), zmk (f 8) (ad 6 i)])
  | 3 => .inl (cy 0, 3, .inl f)
  | 4 => .inl (cy 0, 3, .inl f)
  | 5 => .inl (cy 0, 3, .inl f)
  | 6 => .inl (cy 0, 4, .inl f)
  | 7 => .inl (cy 3, 6, .inr (.inr (.inr (.inr (fun j => if f j = 0 then none else some (ad 2 (6 * i + j)))))))
  | 8 => .inl (cy 0, 3, .inl f)
  | 9 => .inl (cy 0, 36, .inl f)
  | 10 => .inr (6, [zmk (f 0) (ad 11 0), .int (f 1), .int (f 2), .int (f 3)])
  | 11 => .inl (cy 0, 100, .inl f)
  | 12 => .inl (cy 4, 6, .inr (.inr (.inr (.inr (fun j => if f j = 0 then none else some (ad 13 (0 + j)))))))
  | 13 => .inr (1, [zmk (f 0) (ad 14 i), .int (f 1), zmk (f 2) (ad 15 i), .int (f 3)])
  | 14 => .inl (cy 0, 100, .inl f)
  | 15 => .inl (cy 0, 6, .inl f)
  | 16 => .inr (4, [zmk (f 0) (ad 17 0), zmk (f 1) (ad 18 0), zmk (f 2) (ad 19 0), zmk (f 3) (ad 20 0), zmk (f 4) (ad 21 0), .int (f 5), .int (f 6)])
  | 17 => .inl (cy 0, 18, .inl f)
  | 18 => .inl (cy 0, 6, .inl f)
  | 19 => .inl (cy 2, 6, .inl f)
  | 20 => .inl (cy 0, 3, .inl f)
  | 21 => .inl (cy 0, 6, .inl f)
  | 22 => .inl (cy 0, 6, .inl f)
  | 23 => .inl (cy 0, 5, .inl f)
  | 24 => .inl (cy 0, 5, .inl f)
  | 25 => .inr (0, [zmk (f 0) (ad 26 0), .int (f 1)])
  | 26 => .inl (cy 0, 20, .inl f)
  | 27 => .inr (5, [zmk (f 0) (ad 28 0), zmk (f 1) (ad 29 0), zmk (f 2) (ad 30 0)])
  | 28 => .inl (cy 0, 6, .inl f)
  | 29 => .inl (cy 0, 6, .inl f)
  | 30 => .inl (cy 1, 360, .inr (.inl g))
  | 40 => .inr (8, [.int (f 0), .int (f 1), zmk (f 2) (ad 41 0), zmk (f 3) (ad 42 0), zmk (f 4) (ad 43 0), zmk (f 5) (ad 44 0), zmk (f 6) (ad 45 0), zmk (f 7) (ad 46 0), zmk (f 8) (ad 47 0), zmk (f 9) (ad 48 0), .int (f 10), .int (f 11), .int (f 12), .int (f 13), .int (f 14), zmk (f 15) (ad 49 0), zmk (f 16) (ad 50 0), zmk (f 17) (ad 51 0), zmk (f 18) (ad 52 0), zmk (f 19) (ad 53 0), zmk (f 20) (ad 54 0), zmk (f 21) (ad 55 0), zmk (f 22) (ad 56 0), .int (f 23), .int (f 24), .int (f 25), zmk (f 26) (ad 57 0), zmk (f 27) (ad 58 0), zmk (f 28) (ad 59 0), zmk (f 29) (ad 60 0), .int (f 30), .int (f 31), .int (f 32), zmk (f 33) (ad 61 0), zmk (f 34) (ad 62 0), zmk (f 35) (ad 63 0), zmk (f 36) (ad 64 0), zmk (f 37) (ad 65 0), .int (f 38), zmk (f 39) (ad 66 0), zmk (f 40) (ad 67 0), zmk (f 41) (ad 68 0), .int (f 42), .int (f 43), .int (f 44), .int (f 45), .int (f 46), zmk (f 47) (ad 69 0), zmk (f 48) (ad 70 0), zmk (f 49) (ad 71 0), zmk (f 50) (ad 72 0), zmk (f 51) (ad 73 0), zmk (f 52) (ad 74 0), zmk (f 53) (ad 75 0), zmk (f 54) (ad 76 0), zmk (f 55) (ad 77 0), zmk (f 56) (ad 78 0), zmk (f 57) (ad 79 0), zmk (f 58) (ad 80 0), .int (f 59), zmk (f 60) (ad 81 0), zmk (f 61) (ad 82 0), zmk (f 62) (ad 83 0), zmk (f 63) (ad 84 0), zmk (f 64) (ad 85 0)])
  | 41 => .inl (cy 0, 6, .inl f)
  | 42 => .inl (cy 0, 6, .inl f)
  | 43 => .inl (cy 0, 6, .inl f)
  | 44 => .inl (cy 0, 6, .inl f)
  | 45 => .inl (cy 0, 18, .inl f)
  | 46 => .inl (cy 0, 18, .inl f)
  | 47 => .inl (cy 0, 18, .inl f)
  | 48 => .inl (cy 0, 24, .inl f)
  | 49 => .inl (cy 0, 100, .inl f)
  | 50 => .inl (cy 0, 6, .inl f)
  | 51 => .inl (cy 0, 60, .inl f)
  | 52 => .inl (cy 0, 60, .inl f)
  | 53 => .inl (cy 0, 60, .inl f)
  | 54 => .inl (cy 0, 60, .inl f)
  | 55 => .inl (cy 0, 600, .inl f)
  | 56 => .inl (cy 0, 101, .inl f)
  | 57 => .inl (cy 0, 12, .inl f)
  | 58 => .inl (cy 2, 100, .inl f)
  | 59 => .inl (cy 0, 3, .inl f)
  | 60 => .inl (cy 0, 6, .inl f)
  | 61 => .inl (cy 0, 6, .inl f)
  | 62 => .inl (cy 0, 4, .inl f)
  | 63 => .inl (cy 0, 4, .inl f)
  | 64 => .inl (cy 0, 3, .inl f)
  | 65 => .inl (cy 0, 6, .inl f)
  | 66 => .inl (cy 0, 12, .inl f)
  | 67 => .inl (cy 0, 12, .inl f)
  | 68 => .inl (cy 0, 12, .inl f)
  | 69 => .inl (cy 0, 6, .inl f)
  | 70 => .inl (cy 0, 6, .inl f)
  | 71 => .inl (cy 0, 6, .inl f)
  | 72 => .inl (cy 0, 6, .inl f)
  | 73 => .inl (cy 0, 18, .inl f)
  | 74 => .inl (cy 0, 18, .inl f)
  | 75 => .inl (cy 0, 18, .inl f)
  | 76 => .inl (cy 0, 24, .inl f)
  | 77 => .inl (cy 0, 3, .inl f)
  | 78 => .inl (cy 0, 12, .inl f)
  | 79 => .inl (cy 0, 12, .inl f)
  | 80 => .inl (cy 0, 12, .inl f)
  | 81 => .inl (cy 0, 20, .inl f)
  | 82 => .inl (cy 0, 6, .inl f)
  | 83 => .inl (cy 0, 6, .inl f)
  | 84 => .inl (cy 1, 360, .inr (.inl g))
  | 85 => .inl (cy 1, 60, .inr (.inl g))
  | _ => .inl (cy 0, 0, .inl f)
def zrowB (E : zE) (k i : Nat) (f : Nat → Int32) (g : Nat → Int64) : va_E := zcellB E.2.1 (zad E) k i f g
def zwB (E : zE) (NS : List (Nat × Nat)) (M : zM) : va_W := NS.map fun q => (zad E q.1 q.2, zrowB E q.1 q.2 (M.1 q.1 q.2) (M.2 q.1 q.2))
def zclr (M : zM) (k i : Nat) : zM := (fun a b c => if a = k ∧ b = i then 0 else M.1 a b c, fun a b c => if a = k ∧ b = i then 0 else M.2 a b c)
theorem zclr_at (M : zM) (k i : Nat) : (zclr M k i).1 k i = (fun _ => 0) ∧ (zclr M k i).2 k i = (fun _ => 0) := by
  constructor <;> (funext c; simp [zclr])
theorem zclr_ne (M : zM) (k i : Nat) (a b : Nat) (h : ¬ (a = k ∧ b = i)) : (zclr M k i).1 a b = M.1 a b ∧ (zclr M k i).2 a b = M.2 a b := by
  constructor <;> (funext c; simp only [zclr]; rw [if_neg h])
def zAL (E : zE) (AL : List (Nat × Nat)) (z : Nat) (A : Nat → Prop) : Prop := AL.Nodup ∧ ∀ j k i, AL[j]? = some (k, i) → zad E k i = z + j ∧ A (z + j)
theorem zwB_at {E : zE} {AL : List (Nat × Nat)} {M : zM} {j n k i : Nat} (h : AL[j]? = some (k, i)) (hn : j < n) : (zwB E (AL.take n) M)[j]? = some (zad E k i, zrowB E k i (M.1 k i) (M.2 k i)) := by
  unfold zwB
  rw [List.getElem?_map, List.getElem?_take, if_pos hn, h]
  rfl
theorem zwB_of {E : zE} {AL : List (Nat × Nat)} {M : zM} {q n : Nat} {x : Nat × va_E} (h : (zwB E (AL.take n) M)[q]? = some x) : ∃ k i : Nat, q < n ∧ AL[q]? = some (k, i) ∧ x = (zad E k i, zrowB E k i (M.1 k i) (M.2 k i)) := by
  unfold zwB at h
  rw [List.getElem?_map, List.getElem?_take] at h
  by_cases hq : q < n
  · rw [if_pos hq] at h
    cases hz : AL[q]? with
    | none => rw [hz] at h; cases h
    | some z => rw [hz] at h; exact ⟨z.1, z.2, hq, rfl, (Option.some.inj h).symm⟩
  · rw [if_neg hq] at h; cases h
theorem zAL.D {E : zE} {AL : List (Nat × Nat)} {z : Nat} {A : Nat → Prop} (h : zAL E AL z A) (n : Nat) (M : zM) : va_D A (zwB E (AL.take n) M) := by
  refine ⟨fun i j p q hi hj e => ?_, fun k q hk => ?_⟩
  · obtain ⟨k1, i1, -, hx, rfl⟩ := zwB_of hi
    obtain ⟨k2, i2, -, hy, rfl⟩ := zwB_of hj
    have e1 := (h.2 _ _ _ hx).1
    have e2 := (h.2 _ _ _ hy).1
    dsimp only at e
    omega
  · obtain ⟨k1, i1, -, hx, rfl⟩ := zwB_of hk
    have e1 := h.2 _ _ _ hx
    show A (zad E k1 i1)
    rw [e1.1]; exact e1.2
theorem zwB_set {E : zE} {AL : List (Nat × Nat)} {M M' : zM} {j n k i : Nat} {w : va_E} (hN : AL.Nodup) (hj : AL[j]? = some (k, i)) (hn : j < n) (he : w = zrowB E k i (M'.1 k i) (M'.2 k i)) (ho : ∀ a b, ¬ (a = k ∧ b = i) → M'.1 a b = M.1 a b ∧ M'.2 a b = M.2 a b) : (zwB E (AL.take n) M).set j (zad E k i, w) = zwB E (AL.take n) M' := by
  subst he
  apply List.ext_getElem?
  intro q
  rw [List.getElem?_set]
  by_cases hq : j = q
  · subst hq
    have hl : j < (zwB E (AL.take n) M).length := (List.getElem?_eq_some_iff.mp (zwB_at (M := M) (E := E) hj hn)).1
    rw [if_pos rfl, if_pos hl, zwB_at hj hn]
  · rw [if_neg hq]
    unfold zwB
    rw [List.getElem?_map, List.getElem?_map, List.getElem?_take]
    by_cases hqn : q < n
    · rw [if_pos hqn]
      cases hz : AL[q]? with
      | none => rfl
      | some x =>
        obtain ⟨a, b⟩ := x
        have h1 : ¬ (a = k ∧ b = i) := fun h => by
          obtain ⟨rfl, rfl⟩ := h
          exact hq (znd hN hj hz)
        obtain ⟨e1, e2⟩ := ho a b h1
        simp only [Option.map_some]
        rw [e1, e2]
    · rw [if_neg hqn]
      rfl
theorem zwB_push {E : zE} {AL : List (Nat × Nat)} {M : zM} {n k i : Nat} {w : va_E} (hN : AL.Nodup) (hj : AL[n]? = some (k, i)) (he : w = zrowB E k i (fun _ => 0) (fun _ => 0)) : zwB E (AL.take n) M ++ [(zad E k i, w)] = zwB E (AL.take (n + 1)) (zclr M k i) := by
  subst he
  have hl : n < AL.length := (List.getElem?_eq_some_iff.mp hj).1
  have hlen : (zwB E (AL.take n) M).length = n := by simp [zwB]; omega
  apply List.ext_getElem?
  intro q
  rcases Nat.lt_trichotomy q n with hq | hq | hq
  · rw [List.getElem?_append_left (by omega)]
    unfold zwB
    rw [List.getElem?_map, List.getElem?_map, List.getElem?_take, List.getElem?_take, if_pos hq, if_pos (by omega)]
    cases hz : AL[q]? with
    | none => rfl
    | some x =>
      obtain ⟨a, b⟩ := x
      have h1 : ¬ (a = k ∧ b = i) := fun h => by
        obtain ⟨rfl, rfl⟩ := h
        have := znd hN hj hz
        omega
      obtain ⟨e1, e2⟩ := zclr_ne M k i a b h1
      simp only [Option.map_some]
      rw [e1, e2]
  · subst hq
    rw [List.getElem?_append_right (by omega), hlen, Nat.sub_self, zwB_at hj (by omega), (zclr_at M k i).1, (zclr_at M k i).2]
    rfl
  · rw [List.getElem?_eq_none (by simp [hlen]; omega), List.getElem?_eq_none (by simp [zwB]; omega)]
def zNw (U : State) : Prop := (∀ q ∈ znM, va_Nw (.methodLinkNest q.1 q.2.1 q.2.2 "TwoTrue") U) ∧ va_AO "TwoTrue$Person" U ∧ va_AO "TwoTrue$Evening" U
theorem zNw.go {u U : State} (h : zNw u) (hW : u.WarmedH U.vm) : zNw U := ⟨fun q hq => va_Nw.warmM hW (h.1 q hq), va_AO.moved hW.alike h.2.1, va_AO.moved hW.alike h.2.2⟩
theorem zNw.call {U : State} (h : zNw U) (g : JFrame) (mk : MethodId) (a : Array Value) : zNw (U.calling g mk a) := ⟨fun q hq => va_Nw.same rfl (u := U) rfl (h.1 q hq), va_AO.moved (Vm.Alike.refl U.vm) h.2.1, va_AO.moved (Vm.Alike.refl U.vm) h.2.2⟩
def zPreB (E : zE) (AL : List (Nat × Nat)) (z : Nat) (As : List Value) (M : zM) (n : Nat) : Array Value → State → Prop := fun v U => v = As.toArray ∧ U.heap.size = z + n ∧ va_P E.1 vwCl (zwB E (AL.take n) M) U.heap ∧ va_K E.1 vwCl (zty E) U ∧ zNw U
theorem zPreB.blind {E : zE} {AL : List (Nat × Nat)} {z : Nat} {As : List Value} {M : zM} {n : Nat} : FrameBlind (zPreB E AL z As M n) := fun a U g mk q => ⟨q.1, q.2.1, q.2.2.1, va_K.moved (u := U) (U := U.calling g mk a) (Vm.Alike.refl U.vm) q.2.2.2.1, q.2.2.2.2.call g mk a⟩
def zQB (E : zE) (AL : List (Nat × Nat)) (z : Nat) (A : Nat → Prop) (M' : zM) (n' : Nat) : Array Value → State → Outcome → State → Prop := fun _ st oc t => oc = .returned none ∧ t.heap.size = z + n' ∧ va_P E.1 vwCl (zwB E (AL.take n') M') t.heap ∧ va_F A st t
def zrmB (d mc ms : Nat) : Room := { frames := d, cells := mc, slots := ms, locals := 64 * d }
/-- a constructor's contract: from n cells made to n', memory M to M' -/
def zCC (l : Launch) (y : MethodName) (cc : ByteArray) (nL d mc ms : Nat) (E : zE) (AL : List (Nat × Nat)) (z : Nat) (A : Nat → Prop) (As : List Value) (M : zM) (n : Nat) (M' : zM) (n' : Nat) : Prop :=
  Met l y (.code y cc nL none :: zgw) (zrmB d mc ms) (zPreB E AL z As M n) (zQB E AL z A M' n') mc ms A

section zSz
variable {p : Program} {l : Launch} {e : Env} {R : Room} {s : State} {m : MethodId} {args : Array Value} {below : List Frame} {meth : Method} {c : Code} {H : Heap} {locs : List Loc} {cells slots : Nat} {Q : State → Prop}
variable {cc : ByteArray} {pc : Nat} {ls : Array Slot} {rest : List Value} {D : va_G} {cl : List vw_C} {A : Nat → Prop} {a : Nat} {tys : List (ClassId × FieldType)} {ws : va_W} {H0 : Heap}
/-- stores that also tell that the heap's size stays -/
theorem zput_ (hexec : p.tables.exec = Jvm.exec) (hb : c.code = cc) {own ref C : String} {T : u_T} {N ci index : Nat} {Ts : List Cond} (hts : ∀ w ∈ Ts, w.before args s = true) (hin : ∀ w ∈ u_ws C T N, w ∈ Ts) (ty0 : Nat → FieldType) (hty : ∀ k, k < N → parseFieldDescriptor (T k).2.2.1 = some (ty0 k)) (hnm : ∀ a, a < N → ∀ b, b < N → a ≠ b → (T a).2.1 ≠ (T b).2.1) (hown : s.vm.findClass own = some m.cls) (hK : va_K D cl tys s) (hP : va_P D cl ws H) (hD : va_D A ws) (hS0 : va_S A H0 H locs) (q0 : Nat) {fs : List Value} (he : ws[q0]? = some (a, .inr (ci, fs))) (hc : cl[ci]? = some (C, T, N)) (k : Nat) (hk : k < N) (hlink : (Cond.fieldLink own index ref (T k).2.1 (T k).2.2.1).before args s = true) (hsame : ∀ x, s.fieldFound? (T k).1 (T k).2.1 (T k).2.2.1 = some x → s.fieldFound? ref (T k).2.1 (T k).2.2.1 = some x) (hfin : (T k).2.2.2 = false) {ty : FieldType} {v : Value} (hd : parseFieldDescriptor (T k).2.2.1 = some ty) (hn : narrow ty v = v) (hfit : fits ty v = true) (hl : k < fs.length)
    (hdg : decode cc pc = .ok (.putfield index, 3)) (kk : ∀ (H1 : Heap) (locs1 : List Loc), va_P D cl (ws.set q0 (a, .inr (ci, fs.set k v))) H1 → H1.size = H.size → va_S A H0 H1 locs1 → W p l e R s m args below meth c H1 locs1 cells slots Q (F0 m (pc + 3) ls rest)) : W p l e R s m args below meth c H locs cells slots Q (F0 m pc ls (v :: .ref a :: rest)) := by
  have hap := va_apart (own := own) hts hin ty0 hty hnm hK hc
  obtain ⟨r, h1, cell, q1, q2, q3, q4⟩ := hP q0 _ he
  have hr : r = (C, T, N) := Option.some.inj (h1.symm.trans hc)
  subst hr
  obtain ⟨hS, hfc, kC, hkC, hkind⟩ := hK.1 ci _ hc
  obtain ⟨cf, kf, fi, f, hi, hsl⟩ := hS k hk
  have hlay := hts _ (hin _ (u_in_lay hk))
  unfold u_lay at hlay
  rw [if_neg (by rw [hfin]; decide)] at hlay
  have hst := (u_facts hfc hkC (u_lays hts hin hk) hi).1
  have h6 := u_store hfc hkC hkind hlay hi hd hn hfit
  refine W.putK hexec hb (f := f) ⟨hown, hlink, ⟨_, _, _, hsame _ hi⟩, hst⟩ (by rw [q2]; exact h6) q1 q3 (by rw [hsl]; exact k2_hasslot (q4 k hk)) rfl rfl hdg fun H' e1 e2 e3 => ?_
  rw [hsl] at e1 ⊢
  exact kk H' _ (hP.set hD he ⟨_, hc, t_OB.to (V := updV (vp_V fs) k v) ⟨_, e1, q2, q3, t_set q4 hap hk v⟩ (fun j _ => vp_updV_set hl v j)⟩ e3) e2 (hS0.put e2 e3 (hD.2 q0 _ he))
theorem zputF_ (hexec : p.tables.exec = Jvm.exec) (hb : c.code = cc) {own ref C : String} {T : u_T} {N ci index : Nat} {Ts : List Cond} (hts : ∀ w ∈ Ts, w.before args s = true) (hin : ∀ w ∈ u_ws C T N, w ∈ Ts) (ty0 : Nat → FieldType) (hty : ∀ k, k < N → parseFieldDescriptor (T k).2.2.1 = some (ty0 k)) (hnm : ∀ a, a < N → ∀ b, b < N → a ≠ b → (T a).2.1 ≠ (T b).2.1) (hown : s.vm.findClass own = some m.cls) (hK : va_K D cl tys s) (hP : va_P D cl ws H) (hD : va_D A ws) (hS0 : va_S A H0 H locs) (q0 : Nat) {fs : List Value} (he : ws[q0]? = some (a, .inr (ci, fs))) (hc : cl[ci]? = some (C, T, N)) (k : Nat) (hk : k < N) (hlink : (Cond.fieldLink own index ref (T k).2.1 (T k).2.2.1).before args s = true) (hsame : ∀ x, s.fieldFound? (T k).1 (T k).2.1 (T k).2.2.1 = some x → s.fieldFound? ref (T k).2.1 (T k).2.2.1 = some x) (hfin : (T k).2.2.2 = true) (hin2 : meth.name = "<init>") (hdecl : (T k).1 = own) {ty : FieldType} {v : Value} (hd : parseFieldDescriptor (T k).2.2.1 = some ty) (hn : narrow ty v = v) (hfit : fits ty v = true) (hl : k < fs.length)
    (hdg : decode cc pc = .ok (.putfield index, 3)) (kk : ∀ (H1 : Heap) (locs1 : List Loc), va_P D cl (ws.set q0 (a, .inr (ci, fs.set k v))) H1 → H1.size = H.size → va_S A H0 H1 locs1 → W p l e R s m args below meth c H1 locs1 cells slots Q (F0 m (pc + 3) ls rest)) : W p l e R s m args below meth c H locs cells slots Q (F0 m pc ls (v :: .ref a :: rest)) := by
  have hap := va_apart (own := own) hts hin ty0 hty hnm hK hc
  obtain ⟨r, h1, cell, q1, q2, q3, q4⟩ := hP q0 _ he
  have hr : r = (C, T, N) := Option.some.inj (h1.symm.trans hc)
  subst hr
  obtain ⟨hS, hfc, kC, hkC, hkind⟩ := hK.1 ci _ hc
  obtain ⟨cf, kf, fi, f, hi, hsl⟩ := hS k hk
  have hlay := hts _ (hin _ (u_in_lay hk))
  unfold u_lay at hlay
  rw [if_pos hfin] at hlay
  have hst := (u_facts hfc hkC (u_lays hts hin hk) hi).1
  have hcf : m.cls = cf := by
    obtain ⟨_, _, c', _, _, _, -, -, hf', -, -, -, hown2, -⟩ := Cond.laysFinal_spec hlay
    have e1 : c' = cf := by have := hi.symm.trans hf'; simp at this; exact this.1.symm
    rw [hdecl] at hown2
    rw [← e1]; exact Option.some.inj (hown.symm.trans hown2)
  have h6 := u_fits hfc hkC hkind (Or.inr hlay) hi hd hn hfit
  refine W.putFinK hexec hb hown hlink (hsame _ hi) hst hcf hin2 (by rw [q2]; exact h6) q1 q3 (by rw [hsl]; exact k2_hasslot (q4 k hk)) rfl rfl hdg fun H' e1 e2 e3 => ?_
  rw [hsl] at e1 ⊢
  exact kk H' _ (hP.set hD he ⟨_, hc, t_OB.to (V := updV (vp_V fs) k v) ⟨_, e1, q2, q3, t_set q4 hap hk v⟩ (fun j _ => vp_updV_set hl v j)⟩ e3) e2 (hS0.put e2 e3 (hD.2 q0 _ he))
theorem ziast_ (hexec : p.tables.exec = Jvm.exec) (hb : c.code = cc) (hK : va_K D cl tys s) (hP : va_P D cl ws H) (hD : va_D A ws) (hS : va_S A H0 H locs) (q0 t0 : Nat) {cA : ClassId} {n : Nat} {f : Nat → Int32} (ha : ws[q0]? = some (a, .inl (cA, n, .inl f))) (ht : tys[t0]? = some (cA, .int)) {i : Int32} {x : Int32} (hin : vp_in i n) (hdg : decode cc pc = .ok (.iastore, 1))
    (kk : ∀ (H1 : Heap) (locs1 : List Loc), va_P D cl (ws.set q0 (a, .inl (cA, n, .inl (upd f i.toNatClampNeg x)))) H1 → H1.size = H.size → va_S A H0 H1 locs1 → W p l e R s m args below meth c H1 locs1 cells slots Q (F0 m (pc + 1) ls rest)) : W p l e R s m args below meth c H locs cells slots Q (F0 m pc ls (.int x :: .int i :: .ref a :: rest)) := by
  refine W.iast hexec hb (hP q0 _ ha) ((hK.2 t0 _ ht).1 n (fun j => .int (f j))) (fun q => by cases q) (by show ¬ (i < 0 ∨ (arrV _ _ _).slots.size ≤ _); rw [arrV_size]; exact hin) rfl rfl hdg fun H1 e z oq => ?_
  refine kk H1 _ (hP.set hD ha ?_ oq) z (hS.put z oq (hD.2 q0 _ ha))
  show H1[a]? = some (vp_cell _ _)
  rw [e]
  rw [vp_cell_i, vp_cell_i, arrV_store]
  congr 2
  funext q
  by_cases hq : q = i.toNatClampNeg
  · subst hq
    simp [updV, upd]
  · simp [updV, upd, hq]
theorem zaast_ (hexec : p.tables.exec = Jvm.exec) (hb : c.code = cc) (hK : va_K D cl tys s) (hP : va_P D cl ws H) (hD : va_D A ws) (hS : va_S A H0 H locs) (q0 t0 qk ci : Nat) {cA : ClassId} {r : vw_C} {n v : Nat} {vs : List Value} {f : Nat → Option Nat} (ha : ws[q0]? = some (a, .inl (cA, n, .inr (.inr (.inr (.inr f)))))) (ht : tys[t0]? = some (cA, .object r.1)) (hv : ws[qk]? = some (v, .inr (ci, vs))) (hc : cl[ci]? = some r) {i : Int32} (hin : vp_in i n) (hdg : decode cc pc = .ok (.aastore, 1))
    (kk : ∀ (H1 : Heap) (locs1 : List Loc), va_P D cl (ws.set q0 (a, .inl (cA, n, .inr (.inr (.inr (.inr (va_up f i.toNatClampNeg (some v)))))))) H1 → H1.size = H.size → va_S A H0 H1 locs1 → W p l e R s m args below meth c H1 locs1 cells slots Q (F0 m (pc + 1) ls rest)) : W p l e R s m args below meth c H locs cells slots Q (F0 m pc ls (.ref v :: .int i :: .ref a :: rest)) := by
  have hlt : i.toNatClampNeg < n := Nat.not_le.mp fun q => hin (Or.inr q)
  have h0 : ¬ i < 0 := fun q => hin (Or.inl q)
  obtain ⟨r', hr', cellV, g1, g2, g3, -⟩ := hP qk _ hv
  have hcls := (hK.1 ci r hc).2
  obtain ⟨kA, comp, k1, k2, k3, -⟩ := (hK.2 t0 _ ht).2
  have hcomp : comp = D.1 ci := Option.some.inj (k3.symm.trans hcls.1)
  subst hcomp
  obtain ⟨kC, hkC, -⟩ := hcls.2
  refine W.aast hexec hb (hP q0 _ ha) (fun q h => by cases h) (fun h => by cases h) k1 k2 rfl hkC ⟨h0, by show _ < (arrV _ _ _).slots.size; rw [arrV_size]; exact hlt⟩ g1 (fun q h => by rw [g3] at h; cases h) (by rw [g2]; exact hkC) (by rw [g2]; exact va_assign hcls) rfl rfl hdg fun H1 e z oq => ?_
  refine kk H1 _ (hP.set hD ha ?_ oq) z (hS.put z oq (hD.2 q0 _ ha))
  show H1[a]? = some (vp_cell _ _)
  rw [e]
  rw [vp_cell_q, vp_cell_q, arrV_store]
  congr 2
  funext q
  by_cases hq : q = i.toNatClampNeg
  · subst hq
    simp [updV, va_up, va_rf]
  · simp [updV, va_up, hq]
end zSz
section zSB
variable {p : Program} {l : Launch} {e : Env} {R : Room} {s : State} {m : MethodId} {args : Array Value} {below : List Frame} {meth : Method} {c : Code}
variable {cc : ByteArray} {own : String} {E : zE} {AL : List (Nat × Nat)} {z : Nat} {A : Nat → Prop} {nL : Nat} {d mc ms n' kc ks n : Nat}
variable {pc : Nat} {ls : List (Nat × Value)} {st : List Value} {M o : zM}
def zCB (p : Program) (R : Room) (s : State) (m : MethodId) (args : Array Value) (meth : Method) (c : Code) (cc : ByteArray) (own : String) (E : zE) (AL : List (Nat × Nat)) (z : Nat) (A : Nat → Prop) (nL d mc ms : Nat) : Prop :=
  p.tables.exec = Jvm.exec ∧ c.code = cc ∧ c.maxLocals = nL ∧ s.vm.findClass own = some m.cls ∧ (∀ w ∈ zgw, w.before args s = true) ∧ va_K E.1 vwCl (zty E) s ∧ zNw s ∧ meth.locks = false ∧ meth.sig.returnType = none ∧ meth.name = "<init>" ∧ zAL E AL z A ∧ (∀ q, s.heap.size ≤ q → A q) ∧ R = zrmB d mc ms
def zB (p : Program) (l : Launch) (e : Env) (R : Room) (s : State) (m : MethodId) (args : Array Value) (below : List Frame) (meth : Method) (c : Code) (E : zE) (AL : List (Nat × Nat)) (z : Nat) (A : Nat → Prop) (nL mc ms n' : Nat) (pc : Nat) (ls : List (Nat × Value)) (st : List Value) (n kc ks : Nat) (M o : zM) : Prop :=
  ∀ (H : Heap) (locs : List Loc) (la : Array Slot), H.size = z + n → va_P E.1 vwCl (zwB E (AL.take n) M) H → va_S A s.heap H locs → lv_has la nL ls → W p l e R s m args below meth c H locs kc ks (MQ below (zQB E AL z A o n') args s mc ms A) (F0 m pc la st)

theorem zb_iload_n (C : zCB p R s m args meth c cc own E AL z A nL d mc ms) {q : Fin 4} {x : Int32} (j : Nat) (hj : ls[j]? = some ((q : Nat), .int x)) (q0 : Nat) (hq : pc + 1 = q0) (hd : decode cc pc = .ok (.iload_n q, 1)) (k : zB p l e R s m args below meth c E AL z A nL mc ms n' q0 ls (.int x :: st) n kc ks M o) : zB p l e R s m args below meth c E AL z A nL mc ms n' pc ls st n kc ks M o := by
  subst hq
  exact fun H locs la hz hP hS hl => lv_iload_n C.1 C.2.1 hd rfl (lv_at hl j hj) (k H locs la hz hP hS hl)
theorem zb_aload_n (C : zCB p R s m args meth c cc own E AL z A nL d mc ms) {q : Fin 4} {x : Nat} (j : Nat) (hj : ls[j]? = some ((q : Nat), .ref x)) (q0 : Nat) (hq : pc + 1 = q0) (hd : decode cc pc = .ok (.aload_n q, 1)) (k : zB p l e R s m args below meth c E AL z A nL mc ms n' q0 ls (.ref x :: st) n kc ks M o) : zB p l e R s m args below meth c E AL z A nL mc ms n' pc ls st n kc ks M o := by
  subst hq
  exact fun H locs la hz hP hS hl => lv_aload_n C.1 C.2.1 hd rfl (lv_at hl j hj) (k H locs la hz hP hS hl)
theorem zb_istore_n (C : zCB p R s m args meth c cc own E AL z A nL d mc ms) {f : Fin 4} {x : Int32} (q : Nat) (ls2 : List (Nat × Value)) (q0 : Nat) (hq : pc + 1 = q0) (hd : decode cc pc = .ok (.istore_n f, 1)) (hn : (f : Nat) = q) (hi : q < nL) (he : (q, Value.int x) :: ls.filter (fun r => !(r.1 == q) && !(r.1 + 1 == q && r.2.category == 2)) = ls2) (k : zB p l e R s m args below meth c E AL z A nL mc ms n' q0 ls2 st n kc ks M o) : zB p l e R s m args below meth c E AL z A nL mc ms n' pc ls (.int x :: st) n kc ks M o := by
  subst hq
  exact fun H locs la hz hP hS hl => lv_istore_n C.1 C.2.1 hd hn hl hi he (fun la2 hl2 => k H locs la2 hz hP hS hl2)
theorem zb_iinc (C : zCB p R s m args meth c cc own E AL z A nL d mc ms) {q : Nat} {i : Int} {x : Int32} (j : Nat) (v : Int32) (ls2 : List (Nat × Value)) (q0 : Nat) (hq : pc + 3 = q0) (hd : decode cc pc = .ok (.iinc q i, 3)) (hj : ls[j]? = some (q, .int x)) (hv : x + Int32.ofInt i = v) (hi : q < nL) (he : (q, Value.int v) :: ls.filter (fun r => !(r.1 == q) && !(r.1 + 1 == q && r.2.category == 2)) = ls2) (k : zB p l e R s m args below meth c E AL z A nL mc ms n' q0 ls2 st n kc ks M o) : zB p l e R s m args below meth c E AL z A nL mc ms n' pc ls st n kc ks M o := by
  subst hq
  exact fun H locs la hz hP hS hl => lv_iinc C.1 C.2.1 hd hl hj hv hi he (fun la2 hl2 => k H locs la2 hz hP hS hl2)
theorem zb_iconst (C : zCB p R s m args meth c cc own E AL z A nL d mc ms) {q : Int} (v : Int32) (hv : Int32.ofInt q = v) (q0 : Nat) (hq : pc + 1 = q0) (hd : decode cc pc = .ok (.iconst q, 1)) (k : zB p l e R s m args below meth c E AL z A nL mc ms n' q0 ls (.int v :: st) n kc ks M o) : zB p l e R s m args below meth c E AL z A nL mc ms n' pc ls st n kc ks M o := by
  subst hq
  exact fun H locs la hz hP hS hl => lv_iconst C.1 C.2.1 hd hv (k H locs la hz hP hS hl)
theorem zb_bipush (C : zCB p R s m args meth c cc own E AL z A nL d mc ms) {q : Int} (v : Int32) (hv : (Int8.ofInt q).toInt32 = v) (q0 : Nat) (hq : pc + 2 = q0) (hd : decode cc pc = .ok (.bipush q, 2)) (k : zB p l e R s m args below meth c E AL z A nL mc ms n' q0 ls (.int v :: st) n kc ks M o) : zB p l e R s m args below meth c E AL z A nL mc ms n' pc ls st n kc ks M o := by
  subst hq
  exact fun H locs la hz hP hS hl => lv_bipush C.1 C.2.1 hd hv (k H locs la hz hP hS hl)
theorem zb_sipush (C : zCB p R s m args meth c cc own E AL z A nL d mc ms) {q : Int} (v : Int32) (hv : (Int16.ofInt q).toInt32 = v) (q0 : Nat) (hq : pc + 3 = q0) (hd : decode cc pc = .ok (.sipush q, 3)) (k : zB p l e R s m args below meth c E AL z A nL mc ms n' q0 ls (.int v :: st) n kc ks M o) : zB p l e R s m args below meth c E AL z A nL mc ms n' pc ls st n kc ks M o := by
  subst hq
  exact fun H locs la hz hP hS hl => lv_sipush C.1 C.2.1 hd hv (k H locs la hz hP hS hl)
theorem zb_dup (C : zCB p R s m args meth c cc own E AL z A nL d mc ms) {v : Value} (hv : v.category = 1) (q0 : Nat) (hq : pc + 1 = q0) (hd : decode cc pc = .ok (.dup, 1)) (k : zB p l e R s m args below meth c E AL z A nL mc ms n' q0 ls (v :: v :: st) n kc ks M o) : zB p l e R s m args below meth c E AL z A nL mc ms n' pc ls (v :: st) n kc ks M o := by
  subst hq
  exact fun H locs la hz hP hS hl => lv_dup C.1 C.2.1 hd hv (k H locs la hz hP hS hl)
theorem zb_goto (C : zCB p R s m args meth c cc own E AL z A nL d mc ms) {off : Int} (tgt : Nat) (hd : decode cc pc = .ok (.goto off, 3)) (ht : (pc : Int) + off = (tgt : Int)) (k : zB p l e R s m args below meth c E AL z A nL mc ms n' tgt ls st n kc ks M o) : zB p l e R s m args below meth c E AL z A nL mc ms n' pc ls st n kc ks M o := fun H locs la hz hP hS hl => lv_goto C.1 C.2.1 hd ht (k H locs la hz hP hS hl)
theorem zb_geT (C : zCB p R s m args meth c cc own E AL z A nL d mc ms) {x y : Int32} {off : Int} (tgt : Nat) (hd : decode cc pc = .ok (.if_icmp .ge off, 3)) (ht : (pc : Int) + off = (tgt : Int)) (h : y ≤ x) (k : zB p l e R s m args below meth c E AL z A nL mc ms n' tgt ls st n kc ks M o) : zB p l e R s m args below meth c E AL z A nL mc ms n' pc ls (.int y :: .int x :: st) n kc ks M o := fun H locs la hz hP hS hl => lv_icmp_ge C.1 C.2.1 hd ht (fun _ => (k H locs la hz hP hS hl)) (fun g => absurd h g)
theorem zb_geF (C : zCB p R s m args meth c cc own E AL z A nL d mc ms) {x y : Int32} {off : Int} (tgt q0 : Nat) (hq : pc + 3 = q0) (hd : decode cc pc = .ok (.if_icmp .ge off, 3)) (ht : (pc : Int) + off = (tgt : Int)) (h : ¬ y ≤ x) (k : zB p l e R s m args below meth c E AL z A nL mc ms n' q0 ls st n kc ks M o) : zB p l e R s m args below meth c E AL z A nL mc ms n' pc ls (.int y :: .int x :: st) n kc ks M o := by
  subst hq
  exact fun H locs la hz hP hS hl => lv_icmp_ge C.1 C.2.1 hd ht (fun g => absurd g h) (fun _ => (k H locs la hz hP hS hl))
theorem zb_obj (C : zCB p R s m args meth c cc own E AL z A nL d mc ms) {a ix : Nat} (q0 : Nat) (hq : pc + 3 = q0) (hd : decode cc pc = .ok (.invokespecial ix, 3)) (h1 : Cond.methodLink own ix Lib.objectInit ∈ zgw) (h2 : Cond.instanceMethod Lib.objectInit ∈ zgw) (h3 : Cond.code Lib.objectInit ⟨#[0xb1]⟩ 1 none ∈ zgw) (hdd : 1 ≤ d) (hst : (st.map fun v => v.category).sum + 12 ≤ 64) (k : zB p l e R s m args below meth c E AL z A nL mc ms n' q0 ls st n kc ks M o) : zB p l e R s m args below meth c E AL z A nL mc ms n' pc ls (.ref a :: st) n kc ks M o := by
  subst hq
  intro H locs la hz hP hS hl
  have hR := C.2.2.2.2.2.2.2.2.2.2.2.2
  refine W.objInit C.1 C.2.1 C.2.2.2.1 (C.2.2.2.2.1 _ h1) (C.2.2.2.2.1 _ h2) (C.2.2.2.2.1 _ h3) rfl (by rw [C.2.2.1]; exact hl.1) rfl hd (by rw [hR]; exact hdd) (by rw [hR]; show 2 * 0 + _ + 12 ≤ 64 * d; omega) ?_
  exact k H locs la hz hP hS hl
theorem zb_get (C : zCB p R s m args meth c cc own E AL z A nL d mc ms) {k i j : Nat} {cl ref : String} {T : u_T} {N ci ix : Nat} {v : Value} (f : Nat) (q0 : Nat) (hq : pc + 3 = q0) (hd : decode cc pc = .ok (.getfield ix, 3)) (hj : AL[j]? = some (k, i)) (hjn : j < n) (hin : ∀ w ∈ u_ws cl T N, w ∈ zgw) (hc : vwCl[ci]? = some (cl, T, N)) (fs : List Value) (hf : zrowB E k i (M.1 k i) (M.2 k i) = .inr (ci, fs)) (hfN : f < N) (hlk : Cond.fieldLink own ix ref (T f).2.1 (T f).2.2.1 ∈ zgw) (hr : (T f).1 = ref) (hv : fs[f]? = some v) (kk : zB p l e R s m args below meth c E AL z A nL mc ms n' q0 ls (v :: st) n kc ks M o) : zB p l e R s m args below meth c E AL z A nL mc ms n' pc ls (.ref (zad E k i) :: st) n kc ks M o := by
  subst hq
  intro H locs la hz hP hS hl
  have hq := zwB_at (E := E) (M := M) hj hjn
  rw [hf] at hq
  subst hr
  exact va_get C.1 C.2.1 C.2.2.2.2.1 hin C.2.2.2.1 C.2.2.2.2.2.1 hP j hq hc f hfN (C.2.2.2.2.1 _ hlk) (fun _ h => h) hv hd (kk H locs la hz hP hS hl)
theorem zb_put (C : zCB p R s m args meth c cc own E AL z A nL d mc ms) {k i j : Nat} {cl ref : String} {T : u_T} {N ci ix : Nat} {x : Int32} {v : Value} {F : zM → zM} (f : Nat) (q0 : Nat) (hq : pc + 3 = q0) (hd : decode cc pc = .ok (.putfield ix, 3)) (hj : AL[j]? = some (k, i)) (hjn : j < n) (hin : ∀ w ∈ u_ws cl T N, w ∈ zgw) (hc : vwCl[ci]? = some (cl, T, N)) (ty0 : Nat → FieldType) (hty : ∀ k, k < N → parseFieldDescriptor (T k).2.2.1 = some (ty0 k)) (hnm : ∀ a, a < N → ∀ b, b < N → a ≠ b → (T a).2.1 ≠ (T b).2.1) (fs : List Value) (hf : zrowB E k i (M.1 k i) (M.2 k i) = .inr (ci, fs)) (hf2 : zrowB E k i (upd (M.1 k i) f x) (M.2 k i) = .inr (ci, fs.set f v)) (hfN : f < N) (hlk : Cond.fieldLink own ix ref (T f).2.1 (T f).2.2.1 ∈ zgw) (hr : (T f).1 = ref) (hown : (T f).2.2.2 = false ∨ (T f).1 = own) (hn : narrow (ty0 f) v = v) (hfit : fits (ty0 f) v = true) (hl0 : f < fs.length) (kk : ∀ M1 : zM, M1 = zset M k i f x → zB p l e R s m args below meth c E AL z A nL mc ms n' q0 ls st n kc ks M1 (F M1)) : zB p l e R s m args below meth c E AL z A nL mc ms n' pc ls (v :: .ref (zad E k i) :: st) n kc ks M (znm (zset M k i f x) F) := by
  subst hq
  intro H locs la hz hP hS hl
  have hq := zwB_at (E := E) (M := M) hj hjn
  rw [hf] at hq
  subst hr
  have hA := C.2.2.2.2.2.2.2.2.2.2.1
  have fin : ∀ (H1 : Heap) (locs1 : List Loc), va_P E.1 vwCl ((zwB E (AL.take n) M).set j (zad E k i, .inr (ci, fs.set f v))) H1 → H1.size = z + n → va_S A s.heap H1 locs1 → W p l e R s m args below meth c H1 locs1 kc ks (MQ below (zQB E AL z A (znm (zset M k i f x) F) n') args s mc ms A) (F0 m (pc + 3) la st) := fun H1 locs1 hP1 hz1 hS1 => by
    rw [zwB_set (M' := zset M k i f x) hA.1 hj hjn (by rw [zset_at]; exact hf2.symm) (zset_ne M k i f x)] at hP1
    exact kk _ rfl H1 locs1 la hz1 hP1 hS1 hl
  cases hfin : (T f).2.2.2 with
  | false => exact zput_ C.1 C.2.1 C.2.2.2.2.1 hin ty0 hty hnm C.2.2.2.1 C.2.2.2.2.2.1 hP (hA.D n M) hS j hq hc f hfN (C.2.2.2.2.1 _ hlk) (fun _ h => h) hfin (hty f hfN) hn hfit hl0 hd (fun H1 locs1 hP1 hz1 hS1 => fin H1 locs1 hP1 (hz1.trans hz) hS1)
  | true =>
    have ho : (T f).1 = own := hown.resolve_left (by rw [hfin]; decide)
    exact zputF_ C.1 C.2.1 C.2.2.2.2.1 hin ty0 hty hnm C.2.2.2.1 C.2.2.2.2.2.1 hP (hA.D n M) hS j hq hc f hfN (C.2.2.2.2.1 _ hlk) (fun _ h => h) hfin C.2.2.2.2.2.2.2.2.2.1 ho (hty f hfN) hn hfit hl0 hd (fun H1 locs1 hP1 hz1 hS1 => fin H1 locs1 hP1 (hz1.trans hz) hS1)
theorem zb_iast (C : zCB p R s m args meth c cc own E AL z A nL d mc ms) {k i j q : Nat} {x v : Int32} {F : zM → zM} (w : Nat) (q0 : Nat) (hq : pc + 1 = q0) (hd : decode cc pc = .ok (.iastore, 1)) (hj : AL[j]? = some (k, i)) (hjn : j < n) (hf : ∀ f g, zrowB E k i f g = .inl (E.2.1 0, q, .inl f)) (hw : x.toNatClampNeg = w) (hx : vp_in x q) (kk : ∀ M1 : zM, M1 = zset M k i w v → zB p l e R s m args below meth c E AL z A nL mc ms n' q0 ls st n kc ks M1 (F M1)) : zB p l e R s m args below meth c E AL z A nL mc ms n' pc ls (.int v :: .int x :: .ref (zad E k i) :: st) n kc ks M (znm (zset M k i w v) F) := by
  subst hq
  subst hw
  intro H locs la hz hP hS hl
  have hq := zwB_at (E := E) (M := M) hj hjn
  rw [hf] at hq
  have hA := C.2.2.2.2.2.2.2.2.2.2.1
  refine ziast_ C.1 C.2.1 C.2.2.2.2.2.1 hP (hA.D n M) hS j 0 hq rfl hx hd (fun H1 locs1 hP1 hz1 hS1 => ?_)
  rw [zwB_set (M' := zset M k i x.toNatClampNeg v) hA.1 hj hjn (by rw [zset_at]; exact (hf _ _).symm) (zset_ne M k i x.toNatClampNeg v)] at hP1
  exact kk _ rfl H1 locs1 la (hz1.trans hz) hP1 hS1 hl
theorem zb_aast (C : zCB p R s m args meth c cc own E AL z A nL d mc ms) {k i j k2 i2 j2 ci q b t0 N : Nat} {x : Int32} {cl : String} {T : u_T} {vs : List Value} {F : zM → zM} (w : Nat) (q0 : Nat) (hq : pc + 1 = q0) (hd : decode cc pc = .ok (.aastore, 1)) (hj : AL[j]? = some (k, i)) (hjn : j < n) (hj2 : AL[j2]? = some (k2, i2)) (hjn2 : j2 < n) (hf : ∀ f g, zrowB E k i f g = .inl (E.2.1 t0, q, .inr (.inr (.inr (.inr (fun r => if f r = 0 then none else some (zad E k2 (b + r)))))))) (ht : (zty E)[t0]? = some (E.2.1 t0, .object cl)) (hf2 : zrowB E k2 i2 (M.1 k2 i2) (M.2 k2 i2) = .inr (ci, vs)) (hc : vwCl[ci]? = some (cl, T, N)) (hw : x.toNatClampNeg = w) (hi2 : i2 = b + w) (hx : vp_in x q) (kk : ∀ M1 : zM, M1 = zset M k i w 1 → zB p l e R s m args below meth c E AL z A nL mc ms n' q0 ls st n kc ks M1 (F M1)) : zB p l e R s m args below meth c E AL z A nL mc ms n' pc ls (.ref (zad E k2 i2) :: .int x :: .ref (zad E k i) :: st) n kc ks M (znm (zset M k i w 1) F) := by
  subst hq
  subst hw
  intro H locs la hz hP hS hl
  have hq := zwB_at (E := E) (M := M) hj hjn
  rw [hf] at hq
  have hq2 := zwB_at (E := E) (M := M) hj2 hjn2
  rw [hf2] at hq2
  have hA := C.2.2.2.2.2.2.2.2.2.2.1
  refine zaast_ C.1 C.2.1 C.2.2.2.2.2.1 hP (hA.D n M) hS j t0 j2 ci hq ht hq2 hc hx hd (fun H1 locs1 hP1 hz1 hS1 => ?_)
  have hfun : va_up (fun r => if M.1 k i r = 0 then none else some (zad E k2 (b + r))) x.toNatClampNeg (some (zad E k2 i2)) = (fun r => if upd (M.1 k i) x.toNatClampNeg 1 r = 0 then none else some (zad E k2 (b + r))) := by
    funext r
    by_cases hr : r = x.toNatClampNeg
    · subst hr
      simp [va_up, upd, hi2]
    · simp [va_up, upd, hr]
  rw [zwB_set (M' := zset M k i x.toNatClampNeg 1) hA.1 hj hjn (by rw [zset_at, hf, hfun]) (zset_ne M k i x.toNatClampNeg 1)] at hP1
  exact kk _ rfl H1 locs1 la (hz1.trans hz) hP1 hS1 hl
theorem zb_new (C : zCB p R s m args meth c cc own E AL z A nL d mc ms) {F : zM → zM} {k i : Nat} {cl : String} {T : u_T} {N ci ix : Nat} (q0 : Nat) (hq : pc + 3 = q0) (hd : decode cc pc = .ok (.new ix, 3)) (hj : AL[n]? = some (k, i)) (hin : ∀ w ∈ u_ws cl T N, w ∈ zgw) (hc : vwCl[ci]? = some (cl, T, N)) (ty : Nat → FieldType) (hty : ∀ k, k < N → parseFieldDescriptor (T k).2.2.1 = some (ty k)) (fs : List Value) (hf : zrowB E k i (fun _ => 0) (fun _ => 0) = .inr (ci, fs)) (hfs : ∀ j, j < N → defaultValue (ty j) = vp_V fs j) (h1 : Cond.classLink own ix cl ∈ zgw) (h2 : Cond.instantiable cl N ∈ zgw) (h3 : Cond.initialized cl ∈ zgw) (hcell : kc + 1 ≤ mc) (hslot : ks + N ≤ ms) (kk : ∀ M1 : zM, M1 = zclr M k i → zB p l e R s m args below meth c E AL z A nL mc ms n' q0 ls (.ref (zad E k i) :: st) (n + 1) (kc + 1) (ks + N) M1 (F M1)) : zB p l e R s m args below meth c E AL z A nL mc ms n' pc ls st n kc ks M (znm (zclr M k i) F) := by
  subst hq
  intro H locs la hz hP hS hl
  have hA := C.2.2.2.2.2.2.2.2.2.2.1
  have hAq := C.2.2.2.2.2.2.2.2.2.2.2.1
  have hR := C.2.2.2.2.2.2.2.2.2.2.2.2
  have hKn := C.2.2.2.2.2.1.1 ci _ hc
  have had : zad E k i = H.size := by rw [(hA.2 n k i hj).1, hz]
  refine W.newcK C.1 C.2.1 C.2.2.2.1 (C.2.2.2.2.1 _ h1) (C.2.2.2.2.1 _ h2) (C.2.2.2.2.1 _ h3) rfl hd (by rw [hR]; exact hcell) (by rw [hR]; exact hslot) hKn.2.1 had.symm fun H1 kC hkC e1 z1 o1 => ?_
  refine kk _ rfl H1 locs la (by rw [z1, (hA.2 n k i hj).1]; omega) ?_ ⟨Nat.le_trans hS.1 (by omega), fun x h1 h2 => (o1 x (by rw [had]; exact Nat.lt_of_lt_of_le h1 hS.1)).trans (hS.2.1 x h1 h2), hS.2.2⟩ hl
  rw [← zwB_push hA.1 hj hf.symm]
  refine (hP.kept (fun j x hx => o1 x.1 (by rw [had]; exact (hP j x hx).lt))).app (fun j x hx => ?_)
  have hz1 : j < 1 := (List.getElem?_eq_some_iff.mp hx).1
  rw [show j = 0 by omega] at hx
  cases hx
  exact ⟨_, hc, (u_born ty C.2.2.2.2.1 hin hKn hkC e1 hty).to hfs⟩
theorem zb_newa (C : zCB p R s m args meth c cc own E AL z A nL d mc ms) {F : zM → zM} {k i N : Nat} {atype : ArrayType} {ty : FieldType} {x : Int32} (t0 : Nat) (q0 : Nat) (hq : pc + 2 = q0) (hd : decode cc pc = .ok (.newarray atype, 2)) (hty : newarray.typeOf atype = ty) (hj : AL[n]? = some (k, i)) (hx : ¬ x < 0) (hN : x.toNatClampNeg = N) (hbytes : N * componentBytes ty ≤ 536870912) (hw : Cond.arrayClass ty ∈ zgw) (ht : (zty E)[t0]? = some (E.2.1 t0, ty)) (hra : va_RA s (E.2.1 t0) ty → s.vm.findClass ("[" ++ ty.toString) = some (E.2.1 t0)) (a0 : vp_A) (hf : zrowB E k i (fun _ => 0) (fun _ => 0) = .inl (E.2.1 t0, a0)) (ha : ∀ cA : ClassId, vp_cell cA a0 = arrV cA N (fun _ => defaultValue ty)) (hcell : kc + 1 ≤ mc) (hslot : ks + N ≤ ms) (kk : ∀ M1 : zM, M1 = zclr M k i → zB p l e R s m args below meth c E AL z A nL mc ms n' q0 ls (.ref (zad E k i) :: st) (n + 1) (kc + 1) (ks + N) M1 (F M1)) : zB p l e R s m args below meth c E AL z A nL mc ms n' pc ls (.int x :: st) n kc ks M (znm (zclr M k i) F) := by
  subst hq
  subst hty
  intro H locs la hz hP hS hl
  have hA := C.2.2.2.2.2.2.2.2.2.2.1
  have hR := C.2.2.2.2.2.2.2.2.2.2.2.2
  have had : zad E k i = H.size := by rw [(hA.2 n k i hj).1, hz]
  refine va_newaK C.1 C.2.1 (C.2.2.2.2.1 _ hw) rfl hd rfl hx hN hbytes (by rw [hR]; exact hcell) (by rw [hR]; exact hslot) had.symm fun H1 cA e1 z1 o1 hAr hNm => ?_
  have hcA : cA = E.2.1 t0 := Option.some.inj (hNm.symm.trans (hra (C.2.2.2.2.2.1.2 t0 _ ht).2))
  subst hcA
  refine kk _ rfl H1 locs la (by rw [z1, (hA.2 n k i hj).1]; omega) ?_ ⟨Nat.le_trans hS.1 (by omega), fun x h1 h2 => (o1 x (by rw [had]; exact Nat.lt_of_lt_of_le h1 hS.1)).trans (hS.2.1 x h1 h2), hS.2.2⟩ hl
  rw [← zwB_push hA.1 hj hf.symm]
  refine (hP.kept (fun j x hx => o1 x.1 (by rw [had]; exact (hP j x hx).lt))).app (fun j x hx => ?_)
  have hz1 : j < 1 := (List.getElem?_eq_some_iff.mp hx).1
  rw [show j = 0 by omega] at hx
  cases hx
  show H1[zad E k i]? = some (vp_cell _ _)
  rw [ha]
  exact e1
theorem zb_newq (C : zCB p R s m args meth c cc own E AL z A nL d mc ms) {F : zM → zM} {k i N ix : Nat} {cl : String} {x : Int32} (t0 : Nat) (q0 : Nat) (hq : pc + 3 = q0) (hd : decode cc pc = .ok (.anewarray ix, 3)) (hj : AL[n]? = some (k, i)) (hx : ¬ x < 0) (hN : x.toNatClampNeg = N) (hbytes : N * 4 ≤ 536870912) (hw : Cond.classLink own ix cl ∈ zgw) (hover : va_AO cl s) (ht : (zty E)[t0]? = some (E.2.1 t0, .object cl)) (hf : zrowB E k i (fun _ => 0) (fun _ => 0) = .inl (E.2.1 t0, N, .inr (.inr (.inr (.inr (fun _ => none)))))) (hcell : kc + 1 ≤ mc) (hslot : ks + N ≤ ms) (kk : ∀ M1 : zM, M1 = zclr M k i → zB p l e R s m args below meth c E AL z A nL mc ms n' q0 ls (.ref (zad E k i) :: st) (n + 1) (kc + 1) (ks + N) M1 (F M1)) : zB p l e R s m args below meth c E AL z A nL mc ms n' pc ls (.int x :: st) n kc ks M (znm (zclr M k i) F) := by
  subst hq
  subst hN
  intro H locs la hz hP hS hl
  have hA := C.2.2.2.2.2.2.2.2.2.2.1
  have hR := C.2.2.2.2.2.2.2.2.2.2.2.2
  have had : zad E k i = H.size := by rw [(hA.2 n k i hj).1, hz]
  refine W.anew C.1 C.2.1 C.2.2.2.1 (C.2.2.2.2.1 _ hw) (va_AO.use hover) rfl hd rfl hx hbytes (by rw [hR]; exact hcell) (by rw [hR]; exact hslot) fun cA kA comp f1 f2 f3 f4 => ?_
  have hcA : cA = E.2.1 t0 := by
    obtain ⟨kA', comp', g1, g2, g3, g4⟩ := (C.2.2.2.2.2.1.2 t0 _ ht).2
    exact Option.some.inj (f1.symm.trans g4)
  subst hcA
  generalize hH1 : H.push ({ cls := E.2.1 t0, slots := Array.replicate x.toNatClampNeg .null, vm := .none } : Cell) = H1
  have z1 : H1.size = H.size + 1 := by rw [← hH1, Array.size_push]
  have e1 : H1[H.size]? = some (arrV (E.2.1 t0) x.toNatClampNeg (fun _ => .null)) := by rw [← hH1, Array.getElem?_push_size, ← arrV_new]
  have o1 : ∀ q : Nat, q < H.size → H1[q]? = H[q]? := fun q hq => by rw [← hH1, Array.getElem?_push, if_neg (Nat.ne_of_lt hq)]
  rw [← had]
  refine kk _ rfl H1 locs la (by rw [z1, hz]; omega) ?_ ⟨Nat.le_trans hS.1 (by omega), fun x h1 h2 => (o1 x (Nat.lt_of_lt_of_le h1 hS.1)).trans (hS.2.1 x h1 h2), hS.2.2⟩ hl
  rw [← zwB_push hA.1 hj hf.symm]
  refine (hP.kept (fun j x hx => o1 x.1 (hP j x hx).lt)).app (fun j x hx => ?_)
  have hz1 : j < 1 := (List.getElem?_eq_some_iff.mp hx).1
  rw [show j = 0 by omega] at hx
  cases hx
  show H1[zad E k i]? = some (vp_cell _ _)
  rw [vp_cell_q, had]
  exact e1
theorem zb_ret (C : zCB p R s m args meth c cc own E AL z A nL d mc ms) (hd : decode cc pc = .ok (.return_, 1)) (hn : n = n') (hk : kc = mc) (hs : ks = ms) : zB p l e R s m args below meth c E AL z A nL mc ms n' pc ls [] n kc ks M M := by
  subst hn hk hs
  intro H locs la hz hP hS hl
  exact W.vret C.1 C.2.1 C.2.2.2.2.2.2.2.2.1 (fun t ht hW => ⟨rfl, by rw [ht]; exact hz, by rw [ht]; exact hP, hS.F ht⟩) hS.2.2 hd C.2.2.2.2.2.2.2.1
theorem zcallB {H : Heap} {locs : List Loc} {la : Array Slot} {a : Array Value} {rest st0 : List Value} {Q : State → Prop} {M1 : zM} {n2 mc2 ms2 : Nat} (hr : va_Run p l e R s m args below meth c H locs kc ks mc2 ms2 (F0 m pc la st0) rest (zQB E AL z A M1 n2 a) A) (hS : va_S A s.heap H locs)
    (kk : ∀ (H1 : Heap) (locs1 : List Loc), H1.size = z + n2 → va_P E.1 vwCl (zwB E (AL.take n2) M1) H1 → va_S A s.heap H1 locs1 → W p l e R s m args below meth c H1 locs1 (kc + mc2) (ks + ms2) Q (F0 m (pc + 3) la rest)) : W p l e R s m args below meth c H locs kc ks Q (F0 m pc la st0) := by
  intro T hT X
  obtain ⟨v, st₀, t, T', L, h0, X', hL, e1, e2, ⟨hv, hsz, hP, hz, hk⟩, st⟩ := hr T hT X
  cases hv
  rw [h0] at hz hk
  obtain ⟨t2, a1, b1⟩ := kk T'.heap (locs ++ L) (by rw [e1]; exact hsz) (by rw [e1]; exact hP) ⟨Nat.le_trans hS.1 (by rw [e1]; exact hz), fun q h1 h2 => by rw [e1, hk q (Nat.lt_of_lt_of_le h1 hS.1) h2]; exact hS.2.1 q h1 h2, fun q hq => by
      rcases List.mem_append.mp hq with h | h
      · exact hS.2.2 q h
      · exact hL q h⟩ T' rfl X'
  exact ⟨t2, st t2 a1, b1⟩
theorem zb_callI (C : zCB p R s m args meth c cc own E AL z A nL d mc ms) {a d2 mc2 ms2 n2 nL2 ix : Nat} {y : MethodName} {cc2 : ByteArray} {M1 : zM} (As : List Value) {stk : List Value} {F : zM → zM} (q0 : Nat) (hq : pc + 3 = q0) (hd : decode cc pc = .ok (.invokespecial ix, 3)) (hM : zCC l y cc2 nL2 d2 mc2 ms2 E AL z A (.ref a :: As) M n M1 n2) (hs : stk = As.reverse ++ .ref a :: st) (hcw : Cond.code y cc2 nL2 none ∈ zgw) (h1 : Cond.methodLink own ix y ∈ zgw) (h2 : Cond.instanceMethod y ∈ zgw) (h4 : Cond.initialized y.cls ∈ zgw) (hy : y.name = "<init>") (hok : zok y As.length) (hr : d2 < d ∧ nL2 ≤ 45) (hst : (st.map fun v => v.category).sum ≤ 8) (hcell : kc + mc2 ≤ mc) (hslot : ks + ms2 ≤ ms) (kk : ∀ M3 : zM, M3 = M1 → zB p l e R s m args below meth c E AL z A nL mc ms n' q0 ls st n2 (kc + mc2) (ks + ms2) M3 (F M3)) : zB p l e R s m args below meth c E AL z A nL mc ms n' pc ls stk n kc ks M (znm M1 F) := by
  subst hq
  intro H locs la hz hP hS hl
  subst hs
  have hR := C.2.2.2.2.2.2.2.2.2.2.2.2
  have hR2 : (zrmB d2 mc2 ms2).frames + 1 ≤ R.frames ∧ 8 + (nL2 + 11) + (zrmB d2 mc2 ms2).locals ≤ R.locals := by
    rw [hR]
    show d2 + 1 ≤ d ∧ 8 + (nL2 + 11) + 64 * d2 ≤ 64 * d
    omega
  have hpre : ∀ U : State, U.heap = H → s.WarmedH U.vm → zPreB E AL z (.ref a :: As) M n (.ref a :: As).toArray U := fun U hU hW => ⟨rfl, by rw [hU]; exact hz, by rw [hU]; exact hP, va_K.moved hW.alike C.2.2.2.2.2.1, C.2.2.2.2.2.2.1.go hW⟩
  have cw : CallB R s args own ix y cc2 nL2 none (.code y cc2 nL2 none :: zgw) (zrmB d2 mc2 ms2) mc2 ms2 As.length ∧ y.name = "<init>" ∧ (Cond.instanceMethod y).before args s = true := ⟨callB_of As.length C.2.2.2.2.1 (zgc hcw) rfl rfl rfl (C.2.2.2.2.1 _ h4) (C.2.2.2.2.1 _ h1) hok hR2, hy, C.2.2.2.2.1 _ h2⟩
  exact zcallB (va_runI (Ts := zgw) (As := As) (rest := st) ⟨C.1, C.2.1, C.2.2.1, C.2.2.2.1, C.2.2.2.2.1⟩ hM cw ⟨zPreB.blind, hpre⟩ rfl rfl hl.1 rfl (lv_room hst) hd ⟨by rw [hR]; exact hcell, by rw [hR]; exact hslot⟩) hS (fun H1 locs1 hz1 hP1 hS1 => kk M1 rfl H1 locs1 la hz1 hP1 hS1 hl)
theorem zb_callN (C : zCB p R s m args meth c cc own E AL z A nL d mc ms) {a d2 mc2 ms2 n2 nL2 ix : Nat} {y : MethodName} {cc2 : ByteArray} {M1 : zM} (As : List Value) {stk : List Value} {F : zM → zM} (q0 : Nat) (hq : pc + 3 = q0) (hd : decode cc pc = .ok (.invokespecial ix, 3)) (hM : zCC l y cc2 nL2 d2 mc2 ms2 E AL z A (.ref a :: As) M n M1 n2) (hs : stk = As.reverse ++ .ref a :: st) (hcw : Cond.code y cc2 nL2 none ∈ zgw) (h1 : (own, ix, y) ∈ znM) (h2 : Cond.instanceMethod y ∈ zgw) (h4 : Cond.initialized y.cls ∈ zgw) (hy : y.name = "<init>") (hok : zok y As.length) (hr : d2 < d ∧ nL2 ≤ 45) (hst : (st.map fun v => v.category).sum ≤ 8) (hcell : kc + mc2 ≤ mc) (hslot : ks + ms2 ≤ ms) (kk : ∀ M3 : zM, M3 = M1 → zB p l e R s m args below meth c E AL z A nL mc ms n' q0 ls st n2 (kc + mc2) (ks + ms2) M3 (F M3)) : zB p l e R s m args below meth c E AL z A nL mc ms n' pc ls stk n kc ks M (znm M1 F) := by
  subst hq
  intro H locs la hz hP hS hl
  subst hs
  have hR := C.2.2.2.2.2.2.2.2.2.2.2.2
  have hR2 : (zrmB d2 mc2 ms2).frames + 1 ≤ R.frames ∧ 8 + (nL2 + 11) + (zrmB d2 mc2 ms2).locals ≤ R.locals := by
    rw [hR]
    show d2 + 1 ≤ d ∧ 8 + (nL2 + 11) + 64 * d2 ≤ 64 * d
    omega
  have hpre : ∀ U : State, U.heap = H → s.WarmedH U.vm → zPreB E AL z (.ref a :: As) M n (.ref a :: As).toArray U := fun U hU hW => ⟨rfl, by rw [hU]; exact hz, by rw [hU]; exact hP, va_K.moved hW.alike C.2.2.2.2.2.1, C.2.2.2.2.2.2.1.go hW⟩
  have cw : va_CN R s args own ix y "TwoTrue" cc2 nL2 none (.code y cc2 nL2 none :: zgw) (zrmB d2 mc2 ms2) mc2 ms2 As.length := va_cnB As.length C.2.2.2.2.1 (zgc hcw) rfl rfl rfl (C.2.2.2.2.2.2.1.1 _ h1) (C.2.2.2.2.1 _ h4) hok hR2
  exact zcallB (va_runIN (Ts := zgw) (As := As) (rest := st) ⟨C.1, C.2.1, C.2.2.1, C.2.2.2.1, C.2.2.2.2.1⟩ hM ⟨cw, hy, C.2.2.2.2.1 _ h2⟩ ⟨zPreB.blind, hpre⟩ rfl rfl hl.1 rfl (lv_room hst) hd ⟨by rw [hR]; exact hcell, by rw [hR]; exact hslot⟩) hS (fun H1 locs1 hz1 hP1 hS1 => kk M1 rfl H1 locs1 la hz1 hP1 hS1 hl)
theorem zCC_of {y : MethodName} {As : List Value} (hy : plainName y.cls = true) (hyn : y.name = "<init>") (hA : zAL E AL z A) (hz : ∀ q, z + n ≤ q → A q) (hlen : (lg_sl As).length ≤ nL) (hk : ∀ (p : Program) (e : Env) (R : Room) (s : State) (m : MethodId) (args : Array Value) (below : List Frame) (meth : Method) (c : Code), zCB p R s m args meth c cc y.cls E AL z A nL d mc ms → zB p l e R s m args below meth c E AL z A nL mc ms n' 0 (lv_args 0 As) [] n 0 0 M o) : zCC l y cc nL d mc ms E AL z A As M n o n' := by
  refine Met.ofW (cc := cc) (maxL := nL) (ret := none) hy rfl ?_
  intro p e s m args below meth c s₁ B hml hv
  obtain ⟨rfl, hsz, hP, hK, hE⟩ := hv
  have hts := atoms_spec (ws := .code y cc nL none :: zgw) B.pre
  have hin : meth.name = "<init>" := (name_of_methodNamed B.named B.method).1.trans hyn
  have C : zCB p (zrmB d mc ms) s m As.toArray meth c cc y.cls E AL z A nL d mc ms := ⟨B.exec, B.bytes, hml, findClass_of_methodNamed B.named, fun w hw => hts w (List.mem_cons_of_mem _ hw), hK, hE, B.notSynchronized, B.returns, hin, hA, fun q hq => hz q (by rw [← hsz]; exact hq), rfl⟩
  have hl := lv_entry As (n := nL) hlen
  rw [lg_entry_eq]
  exact hk p e (zrmB d mc ms) s m _ below meth c C s.heap [] _ hsz hP va_S.rf hl
end zSB
