/-! MEMORY: ints by (kind, number, place), longs likewise. A method is a pure function over it; zG says that the machine does what the function says. -/
abbrev zM : Type := (Nat → Nat → Nat → Int32) × (Nat → Nat → Nat → Int64)
def zset (M : zM) (k i j : Nat) (v : Int32) : zM := (fun a b c => if a = k ∧ b = i ∧ c = j then v else M.1 a b c, M.2)
def zsetL (M : zM) (k i j : Nat) (v : Int64) : zM := (M.1, fun a b c => if a = k ∧ b = i ∧ c = j then v else M.2 a b c)
def zcpy (M : zM) (k i k2 i2 sp dp n : Nat) : zM := (fun a b c => if a = k2 ∧ b = i2 ∧ dp ≤ c ∧ c < dp + n then M.1 k i (sp + (c - dp)) else M.1 a b c, M.2)
def zcpyL (M : zM) (k i k2 i2 sp dp n : Nat) : zM := (M.1, fun a b c => if a = k2 ∧ b = i2 ∧ dp ≤ c ∧ c < dp + n then M.2 k i (sp + (c - dp)) else M.2 a b c)
def zbnd {α β : Type} (x : Option (α × zM)) (f : α → zM → Option β) : Option β := match x with
  | none => none
  | some q => f q.1 q.2
def zchk {β : Type} (b : Bool) (o : Option β) : Option β := match b with
  | true => o
  | false => none
def znm {α β : Type} (e : α) (f : α → β) : β := f e
def zjn {α β : Type} (f : α) (g : α → β) : β := g f
def zin (x : Int32) (n : Nat) : Bool := decide (¬ (x < 0 ∨ n ≤ x.toNatClampNeg))
def znz (x : Int32) : Bool := decide (¬ x = 0)
def zcp (sp dp n : Int32) (n0 n1 : Nat) : Bool := decide ((¬ sp < 0) ∧ (¬ dp < 0) ∧ (¬ n < 0) ∧ sp.toNatClampNeg + n.toNatClampNeg ≤ n0 ∧ dp.toNatClampNeg + n.toNatClampNeg ≤ n1)
def zbb (x : Int32) : Bool := decide (x &&& 1 = x)
def zrem (x y : Int32) : Int32 := x - x / y * y
def zushr (x y : Int32) : Int32 := (x.toUInt32 >>> (y.toUInt32 &&& Int32.toUInt32 31)).toInt32
/-- the names: classes' ids and slots; ids of array classes; the address of each cell; the static tables'; the texts' and their bytes' -/
abbrev zE : Type := va_G × (Nat → ClassId) × (Nat → Nat → Nat) × (Nat → Nat) × (Nat → Nat) × (Nat → Nat)
def zad (E : zE) : Nat → Nat → Nat := E.2.2.1
def zsa (E : zE) : Nat → Nat := E.2.2.2.1
def zsk (E : zE) : Nat → Nat := E.2.2.2.2.1
def zsv (E : zE) : Nat → Nat := E.2.2.2.2.2
def zty (E : zE) : List (ClassId × FieldType) := [(E.2.1 0, .int), (E.2.1 1, .long), (E.2.1 2, .boolean), (E.2.1 3, .object "TwoTrue$Person"), (E.2.1 4, .object "TwoTrue$Evening")]
def zrow (E : zE) (k i : Nat) (f : Nat → Int32) (g : Nat → Int64) : va_E := zcell E.2.1 (zad E) k i f g
def zw (E : zE) (NS : List (Nat × Nat)) (M : zM) : va_W := NS.map fun q => (zad E q.1 q.2, zrow E q.1 q.2 (M.1 q.1 q.2) (M.2 q.1 q.2))
def zD (E : zE) (NS : List (Nat × Nat)) (A : Nat → Prop) : Prop := NS.Nodup ∧ (∀ x ∈ NS, ∀ y ∈ NS, zad E x.1 x.2 = zad E y.1 y.2 → x = y) ∧ ∀ x ∈ NS, A (zad E x.1 x.2)
theorem zw_at {E : zE} {NS : List (Nat × Nat)} {M : zM} {q k i : Nat} (h : NS[q]? = some (k, i)) : (zw E NS M)[q]? = some (zad E k i, zrow E k i (M.1 k i) (M.2 k i)) := by
  simp [zw, List.getElem?_map, h]
theorem zw_mem {E : zE} {NS : List (Nat × Nat)} {M : zM} {k i : Nat} (h : (k, i) ∈ NS) : ∃ q : Nat, NS[q]? = some (k, i) ∧ (zw E NS M)[q]? = some (zad E k i, zrow E k i (M.1 k i) (M.2 k i)) := by
  obtain ⟨q, hq⟩ := List.getElem?_of_mem h
  exact ⟨q, hq, zw_at hq⟩
theorem zw_of {E : zE} {NS : List (Nat × Nat)} {M : zM} {q : Nat} {x : Nat × va_E} (h : (zw E NS M)[q]? = some x) : ∃ z : Nat × Nat, NS[q]? = some z ∧ x = (zad E z.1 z.2, zrow E z.1 z.2 (M.1 z.1 z.2) (M.2 z.1 z.2)) := by
  unfold zw at h
  rw [List.getElem?_map] at h
  cases hz : NS[q]? with
  | none => rw [hz] at h; cases h
  | some z => rw [hz] at h; exact ⟨z, rfl, (Option.some.inj h).symm⟩
theorem znd {NS : List (Nat × Nat)} (h : NS.Nodup) {i j : Nat} {x : Nat × Nat} (hi : NS[i]? = some x) (hj : NS[j]? = some x) : i = j := by
  induction NS generalizing i j with
  | nil => simp at hi
  | cons a l ih =>
    have hn := List.nodup_cons.mp h
    cases i with
    | zero =>
      cases j with
      | zero => rfl
      | succ j =>
        rw [List.getElem?_cons_zero] at hi
        rw [List.getElem?_cons_succ] at hj
        cases hi
        exact absurd (List.mem_of_getElem? hj) hn.1
    | succ i =>
      rw [List.getElem?_cons_succ] at hi
      cases j with
      | zero =>
        rw [List.getElem?_cons_zero] at hj
        cases hj
        exact absurd (List.mem_of_getElem? hi) hn.1
      | succ j =>
        rw [List.getElem?_cons_succ] at hj
        rw [ih hn.2 hi hj]
theorem zD.D {E : zE} {NS : List (Nat × Nat)} {A : Nat → Prop} (h : zD E NS A) (M : zM) : va_D A (zw E NS M) := by
  refine ⟨fun i j p q hi hj e => ?_, fun k q hk => ?_⟩
  · obtain ⟨x, hx, rfl⟩ := zw_of hi
    obtain ⟨y, hy, rfl⟩ := zw_of hj
    have := h.2.1 x (List.mem_of_getElem? hx) y (List.mem_of_getElem? hy) e
    subst this
    exact znd h.1 hx hy
  · obtain ⟨x, hx, rfl⟩ := zw_of hk
    exact h.2.2 x (List.mem_of_getElem? hx)
theorem zw_set {E : zE} {NS : List (Nat × Nat)} {M M' : zM} {q k i : Nat} {w : va_E} (hn : NS.Nodup) (hq : NS[q]? = some (k, i)) (he : w = zrow E k i (M'.1 k i) (M'.2 k i)) (ho : ∀ a b, ¬ (a = k ∧ b = i) → M'.1 a b = M.1 a b ∧ M'.2 a b = M.2 a b) : (zw E NS M).set q (zad E k i, w) = zw E NS M' := by
  subst he
  apply List.ext_getElem?
  intro j
  rw [List.getElem?_set]
  by_cases hj : q = j
  · subst hj
    have hl : q < (zw E NS M).length := (List.getElem?_eq_some_iff.mp (zw_at (M := M) (E := E) hq)).1
    rw [if_pos rfl, if_pos hl, zw_at hq]
  · rw [if_neg hj]
    simp only [zw, List.getElem?_map]
    cases hz : NS[j]? with
    | none => rfl
    | some z =>
      obtain ⟨a, b⟩ := z
      have h1 : ¬ (a = k ∧ b = i) := fun h => by
        obtain ⟨rfl, rfl⟩ := h
        exact hj (znd hn hq hz)
      obtain ⟨e1, e2⟩ := ho a b h1
      simp only [Option.map_some]
      rw [e1, e2]
theorem zset_at (M : zM) (k i j : Nat) (v : Int32) : (zset M k i j v).1 k i = upd (M.1 k i) j v := by
  funext c
  simp [zset, upd]
theorem zset_ne (M : zM) (k i j : Nat) (v : Int32) (a b : Nat) (h : ¬ (a = k ∧ b = i)) : (zset M k i j v).1 a b = M.1 a b ∧ (zset M k i j v).2 a b = M.2 a b := by
  refine ⟨?_, rfl⟩
  funext c
  simp only [zset]
  rw [if_neg (fun q => h ⟨q.1, q.2.1⟩)]
theorem zsetL_at (M : zM) (k i j : Nat) (v : Int64) : (zsetL M k i j v).2 k i = vp_updL (M.2 k i) j v := by
  funext c
  simp [zsetL, vp_updL]
theorem zsetL_ne (M : zM) (k i j : Nat) (v : Int64) (a b : Nat) (h : ¬ (a = k ∧ b = i)) : (zsetL M k i j v).1 a b = M.1 a b ∧ (zsetL M k i j v).2 a b = M.2 a b := by
  refine ⟨rfl, ?_⟩
  funext c
  simp only [zsetL]
  rw [if_neg (fun q => h ⟨q.1, q.2.1⟩)]
theorem zcpy_at (M : zM) (k i k2 i2 sp dp n : Nat) : (zcpy M k i k2 i2 sp dp n).1 k2 i2 = va_cpy (M.1 k i) (M.1 k2 i2) sp dp n := by
  funext c
  simp [zcpy, va_cpy]
theorem zcpy_ne (M : zM) (k i k2 i2 sp dp n : Nat) (a b : Nat) (h : ¬ (a = k2 ∧ b = i2)) : (zcpy M k i k2 i2 sp dp n).1 a b = M.1 a b ∧ (zcpy M k i k2 i2 sp dp n).2 a b = M.2 a b := by
  refine ⟨?_, rfl⟩
  funext c
  simp only [zcpy]
  rw [if_neg (fun q => h ⟨q.1, q.2.1⟩)]
theorem zcpyL_at (M : zM) (k i k2 i2 sp dp n : Nat) : (zcpyL M k i k2 i2 sp dp n).2 k2 i2 = va_cpy (M.2 k i) (M.2 k2 i2) sp dp n := by
  funext c
  simp [zcpyL, va_cpy]
theorem zcpyL_ne (M : zM) (k i k2 i2 sp dp n : Nat) (a b : Nat) (h : ¬ (a = k2 ∧ b = i2)) : (zcpyL M k i k2 i2 sp dp n).1 a b = M.1 a b ∧ (zcpyL M k i k2 i2 sp dp n).2 a b = M.2 a b := by
  refine ⟨rfl, ?_⟩
  funext c
  simp only [zcpyL]
  rw [if_neg (fun q => h ⟨q.1, q.2.1⟩)]
theorem zin_vp {x : Int32} {n : Nat} (h : zin x n = true) : vp_in x n := by
  have := of_decide_eq_true h
  exact this
theorem zin_lt {x : Int32} {n : Nat} (h : zin x n = true) : x.toNatClampNeg < n := Nat.not_le.mp fun q => of_decide_eq_true h (Or.inr q)
theorem zchk_some {β : Type} {b : Bool} {o : Option β} {y : β} (h : zchk b o = some y) : b = true ∧ o = some y := by
  cases b with
  | true => exact ⟨rfl, h⟩
  | false => cases h
theorem zbnd_some {α β : Type} {x : Option (α × zM)} {f : α → zM → Option β} {y : β} (h : zbnd x f = some y) : ∃ r M1, x = some (r, M1) ∧ f r M1 = some y := by
  cases x with
  | none => cases h
  | some q => exact ⟨q.1, q.2, rfl, h⟩
/-! what stays: static tables, texts, the words that a nest's links are -/

def zEv (E : zE) (A : Nat → Prop) (U : State) (H : Heap) : Prop :=
  (∀ k, k < 3 → va_Z (zst_c k) (zst_n k) "[I" (.ref (zsa E k)) A U H ∧ va_T .int (zsa E k) (zst_l k) (fun j => .int (zst k j)) A U H) ∧
  va_Z "java/lang/String" "COMPACT_STRINGS" "Z" (.int 1) A U H ∧ (∃ t : Option Nat, va_Z "jdk/internal/util/Preconditions" "SIOOBE_FORMATTER" "Ljava/util/function/BiFunction;" (va_rf t) A U H) ∧
  vk_S 4 zlen zbyt (zsk E) (zsv E) A U H ∧ (∀ i, i < 4 → vk_R "TwoTrue$Text" (ztx_k i) (ztx i) (zsk E i) U) ∧
  (∀ q ∈ znM, va_Nw (.methodLinkNest q.1 q.2.1 q.2.2 "TwoTrue") U) ∧ va_Nw (.fieldLinkNest "TwoTrue$Acts" 28 "TwoTrue" "KIND_ABOVE" "[I" "TwoTrue") U
theorem zEv.go {E : zE} {A : Nat → Prop} {u U : State} {H H1 : Heap} (h : zEv E A u H) (hW : u.WarmedH U.vm) (hq : ∀ a : Nat, a < H.size → ¬ A a → H1[a]? = H[a]?) : zEv E A U H1 := by
  obtain ⟨h1, h2, ⟨t, h3⟩, h4, h5, h6, h7⟩ := h
  exact ⟨fun k hk => ⟨(va_Z.moved hW.alike (h1 k hk).1).kept hq, (va_T.moved hW.alike (h1 k hk).2).kept hq⟩, (va_Z.moved hW.alike h2).kept hq, ⟨t, (va_Z.moved hW.alike h3).kept hq⟩, (vk_S.moved hW.alike h4).kept hq, fun i hi => vk_R.warm hW (h5 i hi), fun q hq => va_Nw.warmM hW (h6 q hq), va_Nw.warmF hW h7⟩
theorem zEv.call {E : zE} {A : Nat → Prop} {U : State} {H : Heap} (h : zEv E A U H) (g : JFrame) (mk : MethodId) (a : Array Value) : zEv E A (U.calling g mk a) H := by
  obtain ⟨h1, h2, ⟨t, h3⟩, h4, h5, h6, h7⟩ := h
  have hv : U.vm.Alike (U.calling g mk a).vm := Vm.Alike.refl U.vm
  exact ⟨fun k hk => ⟨va_Z.moved hv (h1 k hk).1, va_T.moved hv (h1 k hk).2⟩, va_Z.moved hv h2, ⟨t, va_Z.moved hv h3⟩, vk_S.moved hv h4, fun i hi => vk_R.same (u := U) rfl (h5 i hi), fun q hq => va_Nw.same rfl (u := U) rfl (h6 q hq), va_Nw.same rfl (u := U) rfl h7⟩
/-- a method's start: the world, the tables, what stays -/
def zPre (E : zE) (NS : List (Nat × Nat)) (A : Nat → Prop) (As : List Value) (M : zM) : Array Value → State → Prop := fun v U => v = As.toArray ∧ va_P E.1 vwCl (zw E NS M) U.heap ∧ va_K E.1 vwCl (zty E) U ∧ zEv E A U U.heap
theorem zPre.blind {E : zE} {NS : List (Nat × Nat)} {A : Nat → Prop} {As : List Value} {M : zM} : FrameBlind (zPre E NS A As M) := fun a U g mk q => ⟨q.1, q.2.1, va_K.moved (u := U) (U := U.calling g mk a) (Vm.Alike.refl U.vm) q.2.2.1, q.2.2.2.call g mk a⟩
/-- its end -/
def zQ (E : zE) (NS : List (Nat × Nat)) (A : Nat → Prop) {α : Type} (cv : α → Option Value) (ok : α → Prop) (r : α) (M' : zM) : Array Value → State → Outcome → State → Prop := fun _ st oc t => oc = .returned (cv r) ∧ ok r ∧ va_P E.1 vwCl (zw E NS M') t.heap ∧ va_F A st t
def zrm (d : Nat) : Room := { frames := d, cells := 0, slots := 0, locals := 64 * d }
/-- A METHOD'S CONTRACT: where the pure function answers, the method does so -/
def zCT (l : Launch) (y : MethodName) (cc : ByteArray) (nL : Nat) (ret : Option FieldType) (d : Nat) (E : zE) (NS : List (Nat × Nat)) (A : Nat → Prop) (As : List Value) (M : zM) {α : Type} (cv : α → Option Value) (ok : α → Prop) (o : Option (α × zM)) : Prop :=
  ∀ (r : α) (M' : zM), o = some (r, M') → Met l y (.code y cc nL ret :: zgw) (zrm d) (zPre E NS A As M) (zQ E NS A cv ok r M') 0 0 A
def zvI (r : Int32) : Option Value := some (.int r)
def zvL (r : Int64) : Option Value := some (.long r)
def zvU (_ : Unit) : Option Value := none
def zvR (E : zE) (k : Nat) (r : Nat) : Option Value := some (.ref (zad E k r))
def zoT {α : Type} (_ : α) : Prop := True
def zoB (r : Int32) : Prop := narrow .boolean (.int r) = .int r
def zoY (r : Int32) : Prop := narrow .byte (.int r) = .int r
def zoC (r : Int32) : Prop := narrow .char (.int r) = .int r
def zoR (NS : List (Nat × Nat)) (k : Nat) (r : Nat) : Prop := (k, r) ∈ NS
section zS
variable {p : Program} {l : Launch} {e : Env} {R : Room} {s : State} {m : MethodId} {args : Array Value} {below : List Frame} {meth : Method} {c : Code}
variable {cc : ByteArray} {own : String} {E : zE} {NS : List (Nat × Nat)} {A : Nat → Prop} {nL : Nat} {ret : Option FieldType} {α : Type} {cv : α → Option Value} {ok : α → Prop}
variable {pc : Nat} {ls : List (Nat × Value)} {st : List Value} {M : zM} {o : Option (α × zM)}
def zCx (p : Program) (R : Room) (s : State) (m : MethodId) (args : Array Value) (meth : Method) (c : Code) (cc : ByteArray) (own : String) (E : zE) (NS : List (Nat × Nat)) (A : Nat → Prop) (nL : Nat) (ret : Option FieldType) (d : Nat) : Prop :=
  p.tables.exec = Jvm.exec ∧ c.code = cc ∧ c.maxLocals = nL ∧ s.vm.findClass own = some m.cls ∧ (∀ w ∈ zgw, w.before args s = true) ∧ va_K E.1 vwCl (zty E) s ∧ zEv E A s s.heap ∧ meth.locks = false ∧ meth.sig.returnType = ret ∧ zD E NS A ∧ R.frames = d ∧ R.locals = 64 * d
def zG (p : Program) (l : Launch) (e : Env) (R : Room) (s : State) (m : MethodId) (args : Array Value) (below : List Frame) (meth : Method) (c : Code) (E : zE) (NS : List (Nat × Nat)) (A : Nat → Prop) (nL : Nat) {α : Type} (cv : α → Option Value) (ok : α → Prop) (pc : Nat) (ls : List (Nat × Value)) (st : List Value) (M : zM) (o : Option (α × zM)) : Prop :=
  ∀ (r : α) (M' : zM), o = some (r, M') → ∀ (H : Heap) (locs : List Loc) (la : Array Slot), va_P E.1 vwCl (zw E NS M) H → va_S A s.heap H locs → lv_has la nL ls → W p l e R s m args below meth c H locs 0 0 (MQ below (zQ E NS A cv ok r M') args s 0 0 A) (F0 m pc la st)

theorem zg_iconst {d : Nat} (C : zCx p R s m args meth c cc own E NS A nL ret d) {n : Int} (v : Int32) (q0 : Nat) (hq : pc + 1 = q0) (hd : decode cc pc = .ok (.iconst n, 1)) (hv : Int32.ofInt n = v) (k : zG p l e R s m args below meth c E NS A nL cv ok q0 ls (.int v :: st) M o) : zG p l e R s m args below meth c E NS A nL cv ok pc ls st M o := by
  subst hq
  exact fun r M2 ho H locs la hP hS hl => lv_iconst C.1 C.2.1 hd hv (k r M2 ho H locs la hP hS hl)
theorem zg_bipush {d : Nat} (C : zCx p R s m args meth c cc own E NS A nL ret d) {n : Int} (v : Int32) (q0 : Nat) (hq : pc + 2 = q0) (hd : decode cc pc = .ok (.bipush n, 2)) (hv : (Int8.ofInt n).toInt32 = v) (k : zG p l e R s m args below meth c E NS A nL cv ok q0 ls (.int v :: st) M o) : zG p l e R s m args below meth c E NS A nL cv ok pc ls st M o := by
  subst hq
  exact fun r M2 ho H locs la hP hS hl => lv_bipush C.1 C.2.1 hd hv (k r M2 ho H locs la hP hS hl)
theorem zg_sipush {d : Nat} (C : zCx p R s m args meth c cc own E NS A nL ret d) {n : Int} (v : Int32) (q0 : Nat) (hq : pc + 3 = q0) (hd : decode cc pc = .ok (.sipush n, 3)) (hv : (Int16.ofInt n).toInt32 = v) (k : zG p l e R s m args below meth c E NS A nL cv ok q0 ls (.int v :: st) M o) : zG p l e R s m args below meth c E NS A nL cv ok pc ls st M o := by
  subst hq
  exact fun r M2 ho H locs la hP hS hl => lv_sipush C.1 C.2.1 hd hv (k r M2 ho H locs la hP hS hl)
theorem zg_lconst {d : Nat} (C : zCx p R s m args meth c cc own E NS A nL ret d) {n : Fin 2} (v : Int64) (q0 : Nat) (hq : pc + 1 = q0) (hd : decode cc pc = .ok (.lconst n, 1)) (hv : Int64.ofNat (n : Nat) = v) (k : zG p l e R s m args below meth c E NS A nL cv ok q0 ls (.long v :: st) M o) : zG p l e R s m args below meth c E NS A nL cv ok pc ls st M o := by
  subst hq
  exact fun r M2 ho H locs la hP hS hl => lv_lconst C.1 C.2.1 hd hv (k r M2 ho H locs la hP hS hl)
theorem zg_ldc {d : Nat} (C : zCx p R s m args meth c cc own E NS A nL ret d) {ix : Nat} (v : Int32) (q0 : Nat) (hq : pc + 2 = q0) (hd : decode cc pc = .ok (.ldc ix, 2)) (hw : Jvm.Cond.constant own ix v ∈ zgw) (k : zG p l e R s m args below meth c E NS A nL cv ok q0 ls (.int v :: st) M o) : zG p l e R s m args below meth c E NS A nL cv ok pc ls st M o := by
  subst hq
  exact fun r M2 ho H locs la hP hS hl => lv_ldc C.1 C.2.1 C.2.2.2.1 (C.2.2.2.2.1 _ hw) hd (k r M2 ho H locs la hP hS hl)
theorem zg_ldc2 {d : Nat} (C : zCx p R s m args meth c cc own E NS A nL ret d) {ix : Nat} (v : Int64) (q0 : Nat) (hq : pc + 3 = q0) (hd : decode cc pc = .ok (.ldc2_w ix, 3)) (hw : Jvm.Cond.constantLong own ix v ∈ zgw) (k : zG p l e R s m args below meth c E NS A nL cv ok q0 ls (.long v :: st) M o) : zG p l e R s m args below meth c E NS A nL cv ok pc ls st M o := by
  subst hq
  exact fun r M2 ho H locs la hP hS hl => lv_ldc2 C.1 C.2.1 C.2.2.2.1 (C.2.2.2.2.1 _ hw) hd (k r M2 ho H locs la hP hS hl)
theorem zg_iload_n {d : Nat} (C : zCx p R s m args meth c cc own E NS A nL ret d) {n : Fin 4} {x : Int32} (j : Nat) (q0 : Nat) (hq : pc + 1 = q0) (hd : decode cc pc = .ok (.iload_n n, 1)) (hj : ls[j]? = some ((n : Nat), .int x)) (k : zG p l e R s m args below meth c E NS A nL cv ok q0 ls (.int x :: st) M o) : zG p l e R s m args below meth c E NS A nL cv ok pc ls st M o := by
  subst hq
  exact fun r M2 ho H locs la hP hS hl => lv_iload_n C.1 C.2.1 hd rfl (lv_at hl j hj) (k r M2 ho H locs la hP hS hl)
theorem zg_iload {d : Nat} (C : zCx p R s m args meth c cc own E NS A nL ret d) {n : Nat} {x : Int32} (j : Nat) (q0 : Nat) (hq : pc + 2 = q0) (hd : decode cc pc = .ok (.iload n, 2)) (hj : ls[j]? = some (n, .int x)) (k : zG p l e R s m args below meth c E NS A nL cv ok q0 ls (.int x :: st) M o) : zG p l e R s m args below meth c E NS A nL cv ok pc ls st M o := by
  subst hq
  exact fun r M2 ho H locs la hP hS hl => lv_iload C.1 C.2.1 hd (lv_at hl j hj) (k r M2 ho H locs la hP hS hl)
theorem zg_istore_n {d : Nat} (C : zCx p R s m args meth c cc own E NS A nL ret d) {f : Fin 4} {x : Int32} (n : Nat) (ls2 : List (Nat × Value)) (q0 : Nat) (hq : pc + 1 = q0) (hd : decode cc pc = .ok (.istore_n f, 1)) (hn : (f : Nat) = n) (hi : n < nL) (he : (n, Value.int x) :: ls.filter (fun q => !(q.1 == n) && !(q.1 + 1 == n && q.2.category == 2)) = ls2) (k : zG p l e R s m args below meth c E NS A nL cv ok q0 ls2 st M o) : zG p l e R s m args below meth c E NS A nL cv ok pc ls (.int x :: st) M o := by
  subst hq
  exact fun r M2 ho H locs la hP hS hl => lv_istore_n C.1 C.2.1 hd hn hl hi he (fun la2 hl2 => k r M2 ho H locs la2 hP hS hl2)
theorem zg_istore {d : Nat} (C : zCx p R s m args meth c cc own E NS A nL ret d) {x : Int32} (n : Nat) (ls2 : List (Nat × Value)) (q0 : Nat) (hq : pc + 2 = q0) (hd : decode cc pc = .ok (.istore n, 2)) (hi : n < nL) (he : (n, Value.int x) :: ls.filter (fun q => !(q.1 == n) && !(q.1 + 1 == n && q.2.category == 2)) = ls2) (k : zG p l e R s m args below meth c E NS A nL cv ok q0 ls2 st M o) : zG p l e R s m args below meth c E NS A nL cv ok pc ls (.int x :: st) M o := by
  subst hq
  exact fun r M2 ho H locs la hP hS hl => lv_istore C.1 C.2.1 hd hl hi he (fun la2 hl2 => k r M2 ho H locs la2 hP hS hl2)
theorem zg_lload_n {d : Nat} (C : zCx p R s m args meth c cc own E NS A nL ret d) {n : Fin 4} {x : Int64} (j : Nat) (q0 : Nat) (hq : pc + 1 = q0) (hd : decode cc pc = .ok (.lload_n n, 1)) (hj : ls[j]? = some ((n : Nat), .long x)) (k : zG p l e R s m args below meth c E NS A nL cv ok q0 ls (.long x :: st) M o) : zG p l e R s m args below meth c E NS A nL cv ok pc ls st M o := by
  subst hq
  exact fun r M2 ho H locs la hP hS hl => lv_lload_n C.1 C.2.1 hd rfl (lv_at hl j hj) (k r M2 ho H locs la hP hS hl)
theorem zg_lload {d : Nat} (C : zCx p R s m args meth c cc own E NS A nL ret d) {n : Nat} {x : Int64} (j : Nat) (q0 : Nat) (hq : pc + 2 = q0) (hd : decode cc pc = .ok (.lload n, 2)) (hj : ls[j]? = some (n, .long x)) (k : zG p l e R s m args below meth c E NS A nL cv ok q0 ls (.long x :: st) M o) : zG p l e R s m args below meth c E NS A nL cv ok pc ls st M o := by
  subst hq
  exact fun r M2 ho H locs la hP hS hl => lv_lload C.1 C.2.1 hd (lv_at hl j hj) (k r M2 ho H locs la hP hS hl)
theorem zg_lstore_n {d : Nat} (C : zCx p R s m args meth c cc own E NS A nL ret d) {f : Fin 4} {x : Int64} (n : Nat) (ls2 : List (Nat × Value)) (q0 : Nat) (hq : pc + 1 = q0) (hd : decode cc pc = .ok (.lstore_n f, 1)) (hn : (f : Nat) = n) (hi : n + 1 < nL) (he : (n, Value.long x) :: ls.filter (fun q => !(q.1 == n) && (!(q.1 == n + 1) && !(q.1 + 1 == n && q.2.category == 2))) = ls2) (k : zG p l e R s m args below meth c E NS A nL cv ok q0 ls2 st M o) : zG p l e R s m args below meth c E NS A nL cv ok pc ls (.long x :: st) M o := by
  subst hq
  exact fun r M2 ho H locs la hP hS hl => lv_lstore_n C.1 C.2.1 hd hn hl hi he (fun la2 hl2 => k r M2 ho H locs la2 hP hS hl2)
theorem zg_lstore {d : Nat} (C : zCx p R s m args meth c cc own E NS A nL ret d) {x : Int64} (n : Nat) (ls2 : List (Nat × Value)) (q0 : Nat) (hq : pc + 2 = q0) (hd : decode cc pc = .ok (.lstore n, 2)) (hi : n + 1 < nL) (he : (n, Value.long x) :: ls.filter (fun q => !(q.1 == n) && (!(q.1 == n + 1) && !(q.1 + 1 == n && q.2.category == 2))) = ls2) (k : zG p l e R s m args below meth c E NS A nL cv ok q0 ls2 st M o) : zG p l e R s m args below meth c E NS A nL cv ok pc ls (.long x :: st) M o := by
  subst hq
  exact fun r M2 ho H locs la hP hS hl => lv_lstore C.1 C.2.1 hd hl hi he (fun la2 hl2 => k r M2 ho H locs la2 hP hS hl2)
theorem zg_aload_n {d : Nat} (C : zCx p R s m args meth c cc own E NS A nL ret d) {n : Fin 4} {x : Nat} (j : Nat) (q0 : Nat) (hq : pc + 1 = q0) (hd : decode cc pc = .ok (.aload_n n, 1)) (hj : ls[j]? = some ((n : Nat), .ref x)) (k : zG p l e R s m args below meth c E NS A nL cv ok q0 ls (.ref x :: st) M o) : zG p l e R s m args below meth c E NS A nL cv ok pc ls st M o := by
  subst hq
  exact fun r M2 ho H locs la hP hS hl => lv_aload_n C.1 C.2.1 hd rfl (lv_at hl j hj) (k r M2 ho H locs la hP hS hl)
theorem zg_aload {d : Nat} (C : zCx p R s m args meth c cc own E NS A nL ret d) {n : Nat} {x : Nat} (j : Nat) (q0 : Nat) (hq : pc + 2 = q0) (hd : decode cc pc = .ok (.aload n, 2)) (hj : ls[j]? = some (n, .ref x)) (k : zG p l e R s m args below meth c E NS A nL cv ok q0 ls (.ref x :: st) M o) : zG p l e R s m args below meth c E NS A nL cv ok pc ls st M o := by
  subst hq
  exact fun r M2 ho H locs la hP hS hl => lv_aload C.1 C.2.1 hd (lv_at hl j hj) (k r M2 ho H locs la hP hS hl)
theorem zg_astore_n {d : Nat} (C : zCx p R s m args meth c cc own E NS A nL ret d) {f : Fin 4} {x : Nat} (n : Nat) (ls2 : List (Nat × Value)) (q0 : Nat) (hq : pc + 1 = q0) (hd : decode cc pc = .ok (.astore_n f, 1)) (hn : (f : Nat) = n) (hi : n < nL) (he : (n, Value.ref x) :: ls.filter (fun q => !(q.1 == n) && !(q.1 + 1 == n && q.2.category == 2)) = ls2) (k : zG p l e R s m args below meth c E NS A nL cv ok q0 ls2 st M o) : zG p l e R s m args below meth c E NS A nL cv ok pc ls (.ref x :: st) M o := by
  subst hq
  exact fun r M2 ho H locs la hP hS hl => lv_astore_n C.1 C.2.1 hd hn hl hi he (fun la2 hl2 => k r M2 ho H locs la2 hP hS hl2)
theorem zg_astore {d : Nat} (C : zCx p R s m args meth c cc own E NS A nL ret d) {x : Nat} (n : Nat) (ls2 : List (Nat × Value)) (q0 : Nat) (hq : pc + 2 = q0) (hd : decode cc pc = .ok (.astore n, 2)) (hi : n < nL) (he : (n, Value.ref x) :: ls.filter (fun q => !(q.1 == n) && !(q.1 + 1 == n && q.2.category == 2)) = ls2) (k : zG p l e R s m args below meth c E NS A nL cv ok q0 ls2 st M o) : zG p l e R s m args below meth c E NS A nL cv ok pc ls (.ref x :: st) M o := by
  subst hq
  exact fun r M2 ho H locs la hP hS hl => lv_astore C.1 C.2.1 hd hl hi he (fun la2 hl2 => k r M2 ho H locs la2 hP hS hl2)
theorem zg_iinc {d : Nat} (C : zCx p R s m args meth c cc own E NS A nL ret d) {n : Nat} {q : Int} {x : Int32} (j : Nat) (v : Int32) (ls2 : List (Nat × Value)) (q0 : Nat) (hq : pc + 3 = q0) (hd : decode cc pc = .ok (.iinc n q, 3)) (hj : ls[j]? = some (n, .int x)) (hv : x + Int32.ofInt q = v) (hi : n < nL) (he : (n, Value.int v) :: ls.filter (fun q => !(q.1 == n) && !(q.1 + 1 == n && q.2.category == 2)) = ls2) (k : zG p l e R s m args below meth c E NS A nL cv ok q0 ls2 st M o) : zG p l e R s m args below meth c E NS A nL cv ok pc ls st M o := by
  subst hq
  exact fun r M2 ho H locs la hP hS hl => lv_iinc C.1 C.2.1 hd hl hj hv hi he (fun la2 hl2 => k r M2 ho H locs la2 hP hS hl2)
theorem zg_iadd {d : Nat} (C : zCx p R s m args meth c cc own E NS A nL ret d) {x y : Int32} (q0 : Nat) (hq : pc + 1 = q0) (hd : decode cc pc = .ok (.iadd, 1)) (k : zG p l e R s m args below meth c E NS A nL cv ok q0 ls (.int (x + y) :: st) M o) : zG p l e R s m args below meth c E NS A nL cv ok pc ls (.int y :: .int x :: st) M o := by
  subst hq
  exact fun r M2 ho H locs la hP hS hl => lv_iadd C.1 C.2.1 hd  (k r M2 ho H locs la hP hS hl)
theorem zg_isub {d : Nat} (C : zCx p R s m args meth c cc own E NS A nL ret d) {x y : Int32} (q0 : Nat) (hq : pc + 1 = q0) (hd : decode cc pc = .ok (.isub, 1)) (k : zG p l e R s m args below meth c E NS A nL cv ok q0 ls (.int (x - y) :: st) M o) : zG p l e R s m args below meth c E NS A nL cv ok pc ls (.int y :: .int x :: st) M o := by
  subst hq
  exact fun r M2 ho H locs la hP hS hl => lv_isub C.1 C.2.1 hd  (k r M2 ho H locs la hP hS hl)
theorem zg_imul {d : Nat} (C : zCx p R s m args meth c cc own E NS A nL ret d) {x y : Int32} (q0 : Nat) (hq : pc + 1 = q0) (hd : decode cc pc = .ok (.imul, 1)) (k : zG p l e R s m args below meth c E NS A nL cv ok q0 ls (.int (x * y) :: st) M o) : zG p l e R s m args below meth c E NS A nL cv ok pc ls (.int y :: .int x :: st) M o := by
  subst hq
  exact fun r M2 ho H locs la hP hS hl => lv_imul C.1 C.2.1 hd  (k r M2 ho H locs la hP hS hl)
theorem zg_iand {d : Nat} (C : zCx p R s m args meth c cc own E NS A nL ret d) {x y : Int32} (q0 : Nat) (hq : pc + 1 = q0) (hd : decode cc pc = .ok (.iand, 1)) (k : zG p l e R s m args below meth c E NS A nL cv ok q0 ls (.int (x &&& y) :: st) M o) : zG p l e R s m args below meth c E NS A nL cv ok pc ls (.int y :: .int x :: st) M o := by
  subst hq
  exact fun r M2 ho H locs la hP hS hl => lv_iand C.1 C.2.1 hd  (k r M2 ho H locs la hP hS hl)
theorem zg_ior {d : Nat} (C : zCx p R s m args meth c cc own E NS A nL ret d) {x y : Int32} (q0 : Nat) (hq : pc + 1 = q0) (hd : decode cc pc = .ok (.ior, 1)) (k : zG p l e R s m args below meth c E NS A nL cv ok q0 ls (.int (x ||| y) :: st) M o) : zG p l e R s m args below meth c E NS A nL cv ok pc ls (.int y :: .int x :: st) M o := by
  subst hq
  exact fun r M2 ho H locs la hP hS hl => lv_ior C.1 C.2.1 hd  (k r M2 ho H locs la hP hS hl)
theorem zg_ixor {d : Nat} (C : zCx p R s m args meth c cc own E NS A nL ret d) {x y : Int32} (q0 : Nat) (hq : pc + 1 = q0) (hd : decode cc pc = .ok (.ixor, 1)) (k : zG p l e R s m args below meth c E NS A nL cv ok q0 ls (.int (x ^^^ y) :: st) M o) : zG p l e R s m args below meth c E NS A nL cv ok pc ls (.int y :: .int x :: st) M o := by
  subst hq
  exact fun r M2 ho H locs la hP hS hl => lv_ixor C.1 C.2.1 hd  (k r M2 ho H locs la hP hS hl)
theorem zg_ishl {d : Nat} (C : zCx p R s m args meth c cc own E NS A nL ret d) {x y : Int32} (q0 : Nat) (hq : pc + 1 = q0) (hd : decode cc pc = .ok (.ishl, 1)) (k : zG p l e R s m args below meth c E NS A nL cv ok q0 ls (.int (x <<< (y &&& 31)) :: st) M o) : zG p l e R s m args below meth c E NS A nL cv ok pc ls (.int y :: .int x :: st) M o := by
  subst hq
  exact fun r M2 ho H locs la hP hS hl => lv_ishl C.1 C.2.1 hd  (k r M2 ho H locs la hP hS hl)
theorem zg_ishr {d : Nat} (C : zCx p R s m args meth c cc own E NS A nL ret d) {x y : Int32} (q0 : Nat) (hq : pc + 1 = q0) (hd : decode cc pc = .ok (.ishr, 1)) (k : zG p l e R s m args below meth c E NS A nL cv ok q0 ls (.int (x >>> (y &&& 31)) :: st) M o) : zG p l e R s m args below meth c E NS A nL cv ok pc ls (.int y :: .int x :: st) M o := by
  subst hq
  exact fun r M2 ho H locs la hP hS hl => lv_ishr C.1 C.2.1 hd  (k r M2 ho H locs la hP hS hl)
theorem zg_ineg {d : Nat} (C : zCx p R s m args meth c cc own E NS A nL ret d) {x : Int32} (q0 : Nat) (hq : pc + 1 = q0) (hd : decode cc pc = .ok (.ineg, 1)) (k : zG p l e R s m args below meth c E NS A nL cv ok q0 ls (.int (-x) :: st) M o) : zG p l e R s m args below meth c E NS A nL cv ok pc ls (.int x :: st) M o := by
  subst hq
  exact fun r M2 ho H locs la hP hS hl => lv_ineg C.1 C.2.1 hd  (k r M2 ho H locs la hP hS hl)
theorem zg_ladd {d : Nat} (C : zCx p R s m args meth c cc own E NS A nL ret d) {x y : Int64} (q0 : Nat) (hq : pc + 1 = q0) (hd : decode cc pc = .ok (.ladd, 1)) (k : zG p l e R s m args below meth c E NS A nL cv ok q0 ls (.long (x + y) :: st) M o) : zG p l e R s m args below meth c E NS A nL cv ok pc ls (.long y :: .long x :: st) M o := by
  subst hq
  exact fun r M2 ho H locs la hP hS hl => lv_ladd C.1 C.2.1 hd  (k r M2 ho H locs la hP hS hl)
theorem zg_lsub {d : Nat} (C : zCx p R s m args meth c cc own E NS A nL ret d) {x y : Int64} (q0 : Nat) (hq : pc + 1 = q0) (hd : decode cc pc = .ok (.lsub, 1)) (k : zG p l e R s m args below meth c E NS A nL cv ok q0 ls (.long (x - y) :: st) M o) : zG p l e R s m args below meth c E NS A nL cv ok pc ls (.long y :: .long x :: st) M o := by
  subst hq
  exact fun r M2 ho H locs la hP hS hl => lv_lsub C.1 C.2.1 hd  (k r M2 ho H locs la hP hS hl)
theorem zg_land {d : Nat} (C : zCx p R s m args meth c cc own E NS A nL ret d) {x y : Int64} (q0 : Nat) (hq : pc + 1 = q0) (hd : decode cc pc = .ok (.land, 1)) (k : zG p l e R s m args below meth c E NS A nL cv ok q0 ls (.long (x &&& y) :: st) M o) : zG p l e R s m args below meth c E NS A nL cv ok pc ls (.long y :: .long x :: st) M o := by
  subst hq
  exact fun r M2 ho H locs la hP hS hl => lv_land C.1 C.2.1 hd  (k r M2 ho H locs la hP hS hl)
theorem zg_lor {d : Nat} (C : zCx p R s m args meth c cc own E NS A nL ret d) {x y : Int64} (q0 : Nat) (hq : pc + 1 = q0) (hd : decode cc pc = .ok (.lor, 1)) (k : zG p l e R s m args below meth c E NS A nL cv ok q0 ls (.long (x ||| y) :: st) M o) : zG p l e R s m args below meth c E NS A nL cv ok pc ls (.long y :: .long x :: st) M o := by
  subst hq
  exact fun r M2 ho H locs la hP hS hl => lv_lor C.1 C.2.1 hd  (k r M2 ho H locs la hP hS hl)
theorem zg_lcmp {d : Nat} (C : zCx p R s m args meth c cc own E NS A nL ret d) {x y : Int64} (q0 : Nat) (hq : pc + 1 = q0) (hd : decode cc pc = .ok (.lcmp, 1)) (k : zG p l e R s m args below meth c E NS A nL cv ok q0 ls (.int (lg_cmp x y) :: st) M o) : zG p l e R s m args below meth c E NS A nL cv ok pc ls (.long y :: .long x :: st) M o := by
  subst hq
  exact fun r M2 ho H locs la hP hS hl => W.lcmp C.1 C.2.1 hd  (k r M2 ho H locs la hP hS hl)
theorem zg_i2l {d : Nat} (C : zCx p R s m args meth c cc own E NS A nL ret d) {x : Int32} (q0 : Nat) (hq : pc + 1 = q0) (hd : decode cc pc = .ok (.i2l, 1)) (k : zG p l e R s m args below meth c E NS A nL cv ok q0 ls (.long x.toInt64 :: st) M o) : zG p l e R s m args below meth c E NS A nL cv ok pc ls (.int x :: st) M o := by
  subst hq
  exact fun r M2 ho H locs la hP hS hl => lv_i2l C.1 C.2.1 hd rfl (k r M2 ho H locs la hP hS hl)
theorem zg_l2i {d : Nat} (C : zCx p R s m args meth c cc own E NS A nL ret d) {x : Int64} (q0 : Nat) (hq : pc + 1 = q0) (hd : decode cc pc = .ok (.l2i, 1)) (k : zG p l e R s m args below meth c E NS A nL cv ok q0 ls (.int x.toInt32 :: st) M o) : zG p l e R s m args below meth c E NS A nL cv ok pc ls (.long x :: st) M o := by
  subst hq
  exact fun r M2 ho H locs la hP hS hl => lv_l2i C.1 C.2.1 hd rfl (k r M2 ho H locs la hP hS hl)
theorem zg_i2b {d : Nat} (C : zCx p R s m args meth c cc own E NS A nL ret d) {x : Int32} (q0 : Nat) (hq : pc + 1 = q0) (hd : decode cc pc = .ok (.i2b, 1)) (k : zG p l e R s m args below meth c E NS A nL cv ok q0 ls (.int x.toInt8.toInt32 :: st) M o) : zG p l e R s m args below meth c E NS A nL cv ok pc ls (.int x :: st) M o := by
  subst hq
  exact fun r M2 ho H locs la hP hS hl => lv_i2b C.1 C.2.1 hd rfl (k r M2 ho H locs la hP hS hl)
theorem zg_i2s {d : Nat} (C : zCx p R s m args meth c cc own E NS A nL ret d) {x : Int32} (q0 : Nat) (hq : pc + 1 = q0) (hd : decode cc pc = .ok (.i2s, 1)) (k : zG p l e R s m args below meth c E NS A nL cv ok q0 ls (.int x.toInt16.toInt32 :: st) M o) : zG p l e R s m args below meth c E NS A nL cv ok pc ls (.int x :: st) M o := by
  subst hq
  exact fun r M2 ho H locs la hP hS hl => lv_i2s C.1 C.2.1 hd rfl (k r M2 ho H locs la hP hS hl)
theorem zg_i2c {d : Nat} (C : zCx p R s m args meth c cc own E NS A nL ret d) {x : Int32} (q0 : Nat) (hq : pc + 1 = q0) (hd : decode cc pc = .ok (.i2c, 1)) (k : zG p l e R s m args below meth c E NS A nL cv ok q0 ls (.int (x.toUInt32 % 65536).toInt32 :: st) M o) : zG p l e R s m args below meth c E NS A nL cv ok pc ls (.int x :: st) M o := by
  subst hq
  exact fun r M2 ho H locs la hP hS hl => lv_i2c C.1 C.2.1 hd rfl (k r M2 ho H locs la hP hS hl)
theorem zg_iushr {d : Nat} (C : zCx p R s m args meth c cc own E NS A nL ret d) {x y : Int32} (q0 : Nat) (hq : pc + 1 = q0) (hd : decode cc pc = .ok (.iushr, 1)) (k : zG p l e R s m args below meth c E NS A nL cv ok q0 ls (.int (zushr x y) :: st) M o) : zG p l e R s m args below meth c E NS A nL cv ok pc ls (.int y :: .int x :: st) M o := by
  subst hq
  exact fun r M2 ho H locs la hP hS hl => lv_iushr C.1 C.2.1 hd rfl (k r M2 ho H locs la hP hS hl)
theorem zg_lshl {d : Nat} (C : zCx p R s m args meth c cc own E NS A nL ret d) {x : Int64} {y : Int32} (q0 : Nat) (hq : pc + 1 = q0) (hd : decode cc pc = .ok (.lshl, 1)) (k : zG p l e R s m args below meth c E NS A nL cv ok q0 ls (.long (x <<< (y.toInt64 &&& 63)) :: st) M o) : zG p l e R s m args below meth c E NS A nL cv ok pc ls (.int y :: .long x :: st) M o := by
  subst hq
  exact fun r M2 ho H locs la hP hS hl => lv_lshl C.1 C.2.1 hd rfl (k r M2 ho H locs la hP hS hl)
theorem zg_idiv {d : Nat} (C : zCx p R s m args meth c cc own E NS A nL ret d) {x y : Int32} (q0 : Nat) (hq : pc + 1 = q0) (hd : decode cc pc = .ok (.idiv, 1)) (k : zG p l e R s m args below meth c E NS A nL cv ok q0 ls (.int (x / y) :: st) M o) : zG p l e R s m args below meth c E NS A nL cv ok pc ls (.int y :: .int x :: st) M (zchk (znz y) o) := by
  subst hq
  exact fun r M2 ho H locs la hP hS hl => lv_idiv C.1 C.2.1 hd (of_decide_eq_true (zchk_some ho).1) (k r M2 (zchk_some ho).2 H locs la hP hS hl)
theorem zg_idivK {d : Nat} (C : zCx p R s m args meth c cc own E NS A nL ret d) {x y : Int32} (q0 : Nat) (hq : pc + 1 = q0) (hd : decode cc pc = .ok (.idiv, 1)) (hy : ¬ y = 0) (k : zG p l e R s m args below meth c E NS A nL cv ok q0 ls (.int (x / y) :: st) M o) : zG p l e R s m args below meth c E NS A nL cv ok pc ls (.int y :: .int x :: st) M o := by
  subst hq
  exact fun r M2 ho H locs la hP hS hl => lv_idiv C.1 C.2.1 hd hy (k r M2 ho H locs la hP hS hl)
theorem zg_irem {d : Nat} (C : zCx p R s m args meth c cc own E NS A nL ret d) {x y : Int32} (q0 : Nat) (hq : pc + 1 = q0) (hd : decode cc pc = .ok (.irem, 1)) (k : zG p l e R s m args below meth c E NS A nL cv ok q0 ls (.int (zrem x y) :: st) M o) : zG p l e R s m args below meth c E NS A nL cv ok pc ls (.int y :: .int x :: st) M (zchk (znz y) o) := by
  subst hq
  exact fun r M2 ho H locs la hP hS hl => lv_irem C.1 C.2.1 hd (of_decide_eq_true (zchk_some ho).1) (k r M2 (zchk_some ho).2 H locs la hP hS hl)
theorem zg_iremK {d : Nat} (C : zCx p R s m args meth c cc own E NS A nL ret d) {x y : Int32} (q0 : Nat) (hq : pc + 1 = q0) (hd : decode cc pc = .ok (.irem, 1)) (hy : ¬ y = 0) (k : zG p l e R s m args below meth c E NS A nL cv ok q0 ls (.int (zrem x y) :: st) M o) : zG p l e R s m args below meth c E NS A nL cv ok pc ls (.int y :: .int x :: st) M o := by
  subst hq
  exact fun r M2 ho H locs la hP hS hl => lv_irem C.1 C.2.1 hd hy (k r M2 ho H locs la hP hS hl)
theorem zg_dup {d : Nat} (C : zCx p R s m args meth c cc own E NS A nL ret d) {v : Value} (hv : v.category = 1) (q0 : Nat) (hq : pc + 1 = q0) (hd : decode cc pc = .ok (.dup, 1)) (k : zG p l e R s m args below meth c E NS A nL cv ok q0 ls (v :: v :: st) M o) : zG p l e R s m args below meth c E NS A nL cv ok pc ls (v :: st) M o := by
  subst hq
  exact fun r M2 ho H locs la hP hS hl => lv_dup C.1 C.2.1 hd hv (k r M2 ho H locs la hP hS hl)
theorem zg_pop {d : Nat} (C : zCx p R s m args meth c cc own E NS A nL ret d) {v : Value} (hv : v.category = 1) (q0 : Nat) (hq : pc + 1 = q0) (hd : decode cc pc = .ok (.pop, 1)) (k : zG p l e R s m args below meth c E NS A nL cv ok q0 ls st M o) : zG p l e R s m args below meth c E NS A nL cv ok pc ls (v :: st) M o := by
  subst hq
  exact fun r M2 ho H locs la hP hS hl => lv_pop C.1 C.2.1 hd hv (k r M2 ho H locs la hP hS hl)
theorem zg_dup_x1 {d : Nat} (C : zCx p R s m args meth c cc own E NS A nL ret d) {v w : Value} (hv : v.category = 1) (hw : w.category = 1) (q0 : Nat) (hq : pc + 1 = q0) (hd : decode cc pc = .ok (.dup_x1, 1)) (k : zG p l e R s m args below meth c E NS A nL cv ok q0 ls (v :: w :: v :: st) M o) : zG p l e R s m args below meth c E NS A nL cv ok pc ls (v :: w :: st) M o := by
  subst hq
  exact fun r M2 ho H locs la hP hS hl => lv_dup_x1 C.1 C.2.1 hd hv hw (k r M2 ho H locs la hP hS hl)
theorem zg_dup_x2 {d : Nat} (C : zCx p R s m args meth c cc own E NS A nL ret d) {v w z : Value} (hv : v.category = 1) (hw : w.category = 1) (hz : z.category = 1) (q0 : Nat) (hq : pc + 1 = q0) (hd : decode cc pc = .ok (.dup_x2, 1)) (k : zG p l e R s m args below meth c E NS A nL cv ok q0 ls (v :: w :: z :: v :: st) M o) : zG p l e R s m args below meth c E NS A nL cv ok pc ls (v :: w :: z :: st) M o := by
  subst hq
  exact fun r M2 ho H locs la hP hS hl => lv_dup_x2 C.1 C.2.1 hd hv hw hz (k r M2 ho H locs la hP hS hl)
theorem zg_dup2 {d : Nat} (C : zCx p R s m args meth c cc own E NS A nL ret d) {v w : Value} (hv : v.category = 1) (hw : w.category = 1) (q0 : Nat) (hq : pc + 1 = q0) (hd : decode cc pc = .ok (.dup2, 1)) (k : zG p l e R s m args below meth c E NS A nL cv ok q0 ls (v :: w :: v :: w :: st) M o) : zG p l e R s m args below meth c E NS A nL cv ok pc ls (v :: w :: st) M o := by
  subst hq
  exact fun r M2 ho H locs la hP hS hl => lv_dup2_11 C.1 C.2.1 hd hv hw (k r M2 ho H locs la hP hS hl)
theorem zg_goto {d : Nat} (C : zCx p R s m args meth c cc own E NS A nL ret d) {off : Int} (tgt : Nat) (hd : decode cc pc = .ok (.goto off, 3)) (ht : (pc : Int) + off = (tgt : Int)) (k : zG p l e R s m args below meth c E NS A nL cv ok tgt ls st M o) : zG p l e R s m args below meth c E NS A nL cv ok pc ls st M o := fun r M2 ho H locs la hP hS hl => lv_goto C.1 C.2.1 hd ht (k r M2 ho H locs la hP hS hl)
theorem zg_if_eq {d : Nat} (C : zCx p R s m args meth c cc own E NS A nL ret d) {x : Int32} {off : Int} {o1 o2 : Option (α × zM)} {inst : Decidable (x = 0)} (tgt : Nat) (q0 : Nat) (hq : pc + 3 = q0) (hd : decode cc pc = .ok (.ifCond .eq off, 3)) (ht : (pc : Int) + off = (tgt : Int)) (k1 : zG p l e R s m args below meth c E NS A nL cv ok tgt ls st M o1) (k2 : zG p l e R s m args below meth c E NS A nL cv ok q0 ls st M o2) : zG p l e R s m args below meth c E NS A nL cv ok pc ls (.int x :: st) M (@ite _ (x = 0) inst o1 o2) := by
  subst hq
  intro r M2 ho H locs la hP hS hl
  exact lv_if_eq C.1 C.2.1 hd ht (fun h => k1 r M2 (by rw [if_pos h] at ho; exact ho) H locs la hP hS hl) (fun h => k2 r M2 (by rw [if_neg h] at ho; exact ho) H locs la hP hS hl)
theorem zg_icmp_eq {d : Nat} (C : zCx p R s m args meth c cc own E NS A nL ret d) {x y : Int32} {off : Int} {o1 o2 : Option (α × zM)} {inst : Decidable (x = y)} (tgt : Nat) (q0 : Nat) (hq : pc + 3 = q0) (hd : decode cc pc = .ok (.if_icmp .eq off, 3)) (ht : (pc : Int) + off = (tgt : Int)) (k1 : zG p l e R s m args below meth c E NS A nL cv ok tgt ls st M o1) (k2 : zG p l e R s m args below meth c E NS A nL cv ok q0 ls st M o2) : zG p l e R s m args below meth c E NS A nL cv ok pc ls (.int y :: .int x :: st) M (@ite _ (x = y) inst o1 o2) := by
  subst hq
  intro r M2 ho H locs la hP hS hl
  exact lv_icmp_eq C.1 C.2.1 hd ht (fun h => k1 r M2 (by rw [if_pos h] at ho; exact ho) H locs la hP hS hl) (fun h => k2 r M2 (by rw [if_neg h] at ho; exact ho) H locs la hP hS hl)
theorem zg_if_ne {d : Nat} (C : zCx p R s m args meth c cc own E NS A nL ret d) {x : Int32} {off : Int} {o1 o2 : Option (α × zM)} {inst : Decidable (x = 0)} (tgt : Nat) (q0 : Nat) (hq : pc + 3 = q0) (hd : decode cc pc = .ok (.ifCond .ne off, 3)) (ht : (pc : Int) + off = (tgt : Int)) (k1 : zG p l e R s m args below meth c E NS A nL cv ok q0 ls st M o1) (k2 : zG p l e R s m args below meth c E NS A nL cv ok tgt ls st M o2) : zG p l e R s m args below meth c E NS A nL cv ok pc ls (.int x :: st) M (@ite _ (x = 0) inst o1 o2) := by
  subst hq
  intro r M2 ho H locs la hP hS hl
  exact lv_if_ne C.1 C.2.1 hd ht (fun h => k2 r M2 (by rw [if_neg h] at ho; exact ho) H locs la hP hS hl) (fun h => k1 r M2 (by rw [if_pos h] at ho; exact ho) H locs la hP hS hl)
theorem zg_icmp_ne {d : Nat} (C : zCx p R s m args meth c cc own E NS A nL ret d) {x y : Int32} {off : Int} {o1 o2 : Option (α × zM)} {inst : Decidable (x = y)} (tgt : Nat) (q0 : Nat) (hq : pc + 3 = q0) (hd : decode cc pc = .ok (.if_icmp .ne off, 3)) (ht : (pc : Int) + off = (tgt : Int)) (k1 : zG p l e R s m args below meth c E NS A nL cv ok q0 ls st M o1) (k2 : zG p l e R s m args below meth c E NS A nL cv ok tgt ls st M o2) : zG p l e R s m args below meth c E NS A nL cv ok pc ls (.int y :: .int x :: st) M (@ite _ (x = y) inst o1 o2) := by
  subst hq
  intro r M2 ho H locs la hP hS hl
  exact lv_icmp_ne C.1 C.2.1 hd ht (fun h => k2 r M2 (by rw [if_neg h] at ho; exact ho) H locs la hP hS hl) (fun h => k1 r M2 (by rw [if_pos h] at ho; exact ho) H locs la hP hS hl)
theorem zg_if_lt {d : Nat} (C : zCx p R s m args meth c cc own E NS A nL ret d) {x : Int32} {off : Int} {o1 o2 : Option (α × zM)} {inst : Decidable (x < 0)} (tgt : Nat) (q0 : Nat) (hq : pc + 3 = q0) (hd : decode cc pc = .ok (.ifCond .lt off, 3)) (ht : (pc : Int) + off = (tgt : Int)) (k1 : zG p l e R s m args below meth c E NS A nL cv ok tgt ls st M o1) (k2 : zG p l e R s m args below meth c E NS A nL cv ok q0 ls st M o2) : zG p l e R s m args below meth c E NS A nL cv ok pc ls (.int x :: st) M (@ite _ (x < 0) inst o1 o2) := by
  subst hq
  intro r M2 ho H locs la hP hS hl
  exact lv_if_lt C.1 C.2.1 hd ht (fun h => k1 r M2 (by rw [if_pos h] at ho; exact ho) H locs la hP hS hl) (fun h => k2 r M2 (by rw [if_neg h] at ho; exact ho) H locs la hP hS hl)
theorem zg_icmp_lt {d : Nat} (C : zCx p R s m args meth c cc own E NS A nL ret d) {x y : Int32} {off : Int} {o1 o2 : Option (α × zM)} {inst : Decidable (x < y)} (tgt : Nat) (q0 : Nat) (hq : pc + 3 = q0) (hd : decode cc pc = .ok (.if_icmp .lt off, 3)) (ht : (pc : Int) + off = (tgt : Int)) (k1 : zG p l e R s m args below meth c E NS A nL cv ok tgt ls st M o1) (k2 : zG p l e R s m args below meth c E NS A nL cv ok q0 ls st M o2) : zG p l e R s m args below meth c E NS A nL cv ok pc ls (.int y :: .int x :: st) M (@ite _ (x < y) inst o1 o2) := by
  subst hq
  intro r M2 ho H locs la hP hS hl
  exact lv_icmp_lt C.1 C.2.1 hd ht (fun h => k1 r M2 (by rw [if_pos h] at ho; exact ho) H locs la hP hS hl) (fun h => k2 r M2 (by rw [if_neg h] at ho; exact ho) H locs la hP hS hl)
theorem zg_if_ge {d : Nat} (C : zCx p R s m args meth c cc own E NS A nL ret d) {x : Int32} {off : Int} {o1 o2 : Option (α × zM)} {inst : Decidable (0 ≤ x)} (tgt : Nat) (q0 : Nat) (hq : pc + 3 = q0) (hd : decode cc pc = .ok (.ifCond .ge off, 3)) (ht : (pc : Int) + off = (tgt : Int)) (k1 : zG p l e R s m args below meth c E NS A nL cv ok tgt ls st M o1) (k2 : zG p l e R s m args below meth c E NS A nL cv ok q0 ls st M o2) : zG p l e R s m args below meth c E NS A nL cv ok pc ls (.int x :: st) M (@ite _ (0 ≤ x) inst o1 o2) := by
  subst hq
  intro r M2 ho H locs la hP hS hl
  exact lv_if_ge C.1 C.2.1 hd ht (fun h => k1 r M2 (by rw [if_pos h] at ho; exact ho) H locs la hP hS hl) (fun h => k2 r M2 (by rw [if_neg h] at ho; exact ho) H locs la hP hS hl)
theorem zg_icmp_ge {d : Nat} (C : zCx p R s m args meth c cc own E NS A nL ret d) {x y : Int32} {off : Int} {o1 o2 : Option (α × zM)} {inst : Decidable (y ≤ x)} (tgt : Nat) (q0 : Nat) (hq : pc + 3 = q0) (hd : decode cc pc = .ok (.if_icmp .ge off, 3)) (ht : (pc : Int) + off = (tgt : Int)) (k1 : zG p l e R s m args below meth c E NS A nL cv ok tgt ls st M o1) (k2 : zG p l e R s m args below meth c E NS A nL cv ok q0 ls st M o2) : zG p l e R s m args below meth c E NS A nL cv ok pc ls (.int y :: .int x :: st) M (@ite _ (y ≤ x) inst o1 o2) := by
  subst hq
  intro r M2 ho H locs la hP hS hl
  exact lv_icmp_ge C.1 C.2.1 hd ht (fun h => k1 r M2 (by rw [if_pos h] at ho; exact ho) H locs la hP hS hl) (fun h => k2 r M2 (by rw [if_neg h] at ho; exact ho) H locs la hP hS hl)
theorem zg_if_gt {d : Nat} (C : zCx p R s m args meth c cc own E NS A nL ret d) {x : Int32} {off : Int} {o1 o2 : Option (α × zM)} {inst : Decidable (0 < x)} (tgt : Nat) (q0 : Nat) (hq : pc + 3 = q0) (hd : decode cc pc = .ok (.ifCond .gt off, 3)) (ht : (pc : Int) + off = (tgt : Int)) (k1 : zG p l e R s m args below meth c E NS A nL cv ok tgt ls st M o1) (k2 : zG p l e R s m args below meth c E NS A nL cv ok q0 ls st M o2) : zG p l e R s m args below meth c E NS A nL cv ok pc ls (.int x :: st) M (@ite _ (0 < x) inst o1 o2) := by
  subst hq
  intro r M2 ho H locs la hP hS hl
  exact lv_if_gt C.1 C.2.1 hd ht (fun h => k1 r M2 (by rw [if_pos h] at ho; exact ho) H locs la hP hS hl) (fun h => k2 r M2 (by rw [if_neg h] at ho; exact ho) H locs la hP hS hl)
theorem zg_icmp_gt {d : Nat} (C : zCx p R s m args meth c cc own E NS A nL ret d) {x y : Int32} {off : Int} {o1 o2 : Option (α × zM)} {inst : Decidable (y < x)} (tgt : Nat) (q0 : Nat) (hq : pc + 3 = q0) (hd : decode cc pc = .ok (.if_icmp .gt off, 3)) (ht : (pc : Int) + off = (tgt : Int)) (k1 : zG p l e R s m args below meth c E NS A nL cv ok tgt ls st M o1) (k2 : zG p l e R s m args below meth c E NS A nL cv ok q0 ls st M o2) : zG p l e R s m args below meth c E NS A nL cv ok pc ls (.int y :: .int x :: st) M (@ite _ (y < x) inst o1 o2) := by
  subst hq
  intro r M2 ho H locs la hP hS hl
  exact lv_icmp_gt C.1 C.2.1 hd ht (fun h => k1 r M2 (by rw [if_pos h] at ho; exact ho) H locs la hP hS hl) (fun h => k2 r M2 (by rw [if_neg h] at ho; exact ho) H locs la hP hS hl)
theorem zg_if_le {d : Nat} (C : zCx p R s m args meth c cc own E NS A nL ret d) {x : Int32} {off : Int} {o1 o2 : Option (α × zM)} {inst : Decidable (x ≤ 0)} (tgt : Nat) (q0 : Nat) (hq : pc + 3 = q0) (hd : decode cc pc = .ok (.ifCond .le off, 3)) (ht : (pc : Int) + off = (tgt : Int)) (k1 : zG p l e R s m args below meth c E NS A nL cv ok tgt ls st M o1) (k2 : zG p l e R s m args below meth c E NS A nL cv ok q0 ls st M o2) : zG p l e R s m args below meth c E NS A nL cv ok pc ls (.int x :: st) M (@ite _ (x ≤ 0) inst o1 o2) := by
  subst hq
  intro r M2 ho H locs la hP hS hl
  exact lv_if_le C.1 C.2.1 hd ht (fun h => k1 r M2 (by rw [if_pos h] at ho; exact ho) H locs la hP hS hl) (fun h => k2 r M2 (by rw [if_neg h] at ho; exact ho) H locs la hP hS hl)
theorem zg_icmp_le {d : Nat} (C : zCx p R s m args meth c cc own E NS A nL ret d) {x y : Int32} {off : Int} {o1 o2 : Option (α × zM)} {inst : Decidable (x ≤ y)} (tgt : Nat) (q0 : Nat) (hq : pc + 3 = q0) (hd : decode cc pc = .ok (.if_icmp .le off, 3)) (ht : (pc : Int) + off = (tgt : Int)) (k1 : zG p l e R s m args below meth c E NS A nL cv ok tgt ls st M o1) (k2 : zG p l e R s m args below meth c E NS A nL cv ok q0 ls st M o2) : zG p l e R s m args below meth c E NS A nL cv ok pc ls (.int y :: .int x :: st) M (@ite _ (x ≤ y) inst o1 o2) := by
  subst hq
  intro r M2 ho H locs la hP hS hl
  exact lv_icmp_le C.1 C.2.1 hd ht (fun h => k1 r M2 (by rw [if_pos h] at ho; exact ho) H locs la hP hS hl) (fun h => k2 r M2 (by rw [if_neg h] at ho; exact ho) H locs la hP hS hl)
theorem zg_none : zG p l e R s m args below meth c E NS A nL cv ok pc ls st M none := fun r M2 ho => by cases ho
theorem zg_nm {β : Type} {v : β} {f : β → Option (α × zM)} {V : β → Value} (k : ∀ x : β, zG p l e R s m args below meth c E NS A nL cv ok pc ls (V x :: st) M (f x)) : zG p l e R s m args below meth c E NS A nL cv ok pc ls (V v :: st) M (znm v f) := k v
theorem zg_nmI {v : Int32} {f : Int32 → Option (α × zM)} (k : ∀ x : Int32, zG p l e R s m args below meth c E NS A nL cv ok pc ls (.int x :: st) M (f x)) : zG p l e R s m args below meth c E NS A nL cv ok pc ls (.int v :: st) M (znm v f) := k v
theorem zg_nmL {v : Int64} {f : Int64 → Option (α × zM)} (k : ∀ x : Int64, zG p l e R s m args below meth c E NS A nL cv ok pc ls (.long x :: st) M (f x)) : zG p l e R s m args below meth c E NS A nL cv ok pc ls (.long v :: st) M (znm v f) := k v
theorem zg_if {P : Prop} {inst : Decidable P} {o1 o2 : Option (α × zM)} (k1 : P → zG p l e R s m args below meth c E NS A nL cv ok pc ls st M o1) (k2 : ¬ P → zG p l e R s m args below meth c E NS A nL cv ok pc ls st M o2) : zG p l e R s m args below meth c E NS A nL cv ok pc ls st M (@ite _ P inst o1 o2) := by
  intro r M2 ho H locs la hP hS hl
  by_cases h : P
  · exact k1 h r M2 (by rw [if_pos h] at ho; exact ho) H locs la hP hS hl
  · exact k2 h r M2 (by rw [if_neg h] at ho; exact ho) H locs la hP hS hl
theorem zg_sub (js : List Nat) (ls2 : List (Nat × Value)) (he : lv_pick ls js = ls2) (k : zG p l e R s m args below meth c E NS A nL cv ok pc ls2 st M o) : zG p l e R s m args below meth c E NS A nL cv ok pc ls st M o := fun r M2 ho H locs la hP hS hl => k r M2 ho H locs la hP hS (lv_sub hl js he)
theorem zg_pc {pc2 : Nat} (h : pc = pc2) (k : zG p l e R s m args below meth c E NS A nL cv ok pc2 ls st M o) : zG p l e R s m args below meth c E NS A nL cv ok pc ls st M o := h ▸ k
theorem zg_tabIn {d : Nat} (C : zCx p R s m args meth c cc own E NS A nL ret d) {dflt lo hi : Int} {offs : Array Int} {len : Nat} {x : Int32} (v : Int) (off : Int) (tgt : Nat) (hd : decode cc pc = .ok (.tableswitch dflt lo hi offs, len)) (hx : x.toInt = v) (h1 : ¬ v < lo) (h2 : ¬ hi < v) (ho : offs[(v - lo).toNat]? = some off) (ht : (pc : Int) + off = (tgt : Int)) (k : zG p l e R s m args below meth c E NS A nL cv ok tgt ls st M o) : zG p l e R s m args below meth c E NS A nL cv ok pc ls (.int x :: st) M o := by
  subst hx
  exact fun r M2 ho2 H locs la hP hS hl => lv_tableIn C.1 C.2.1 hd h1 h2 ho ht (k r M2 ho2 H locs la hP hS hl)
theorem zg_tabOut {d : Nat} (C : zCx p R s m args meth c cc own E NS A nL ret d) {dflt lo hi : Int} {offs : Array Int} {len : Nat} {x : Int32} (tgt : Nat) (hd : decode cc pc = .ok (.tableswitch dflt lo hi offs, len)) (h : x.toInt < lo ∨ hi < x.toInt) (ht : (pc : Int) + dflt = (tgt : Int)) (k : zG p l e R s m args below meth c E NS A nL cv ok tgt ls st M o) : zG p l e R s m args below meth c E NS A nL cv ok pc ls (.int x :: st) M o := fun r M2 ho H locs la hP hS hl => lv_tableOut C.1 C.2.1 hd h ht (k r M2 ho H locs la hP hS hl)
theorem zg_look {d : Nat} (C : zCx p R s m args meth c cc own E NS A nL ret d) {dflt : Int} {ps : Array (Int × Int)} {len : Nat} {x : Int32} (off : Int) (tgt : Nat) (hd : decode cc pc = .ok (.lookupswitch dflt ps, len)) (hp : (ps.toList.zip (ps.toList.drop 1)).all (fun (a, next) => a.1 < next.1) = true) (ho : Op.lookupswitch.offset ps.toList dflt x.toInt = off) (ht : (pc : Int) + off = (tgt : Int)) (k : zG p l e R s m args below meth c E NS A nL cv ok tgt ls st M o) : zG p l e R s m args below meth c E NS A nL cv ok pc ls (.int x :: st) M o := fun r M2 ho2 H locs la hP hS hl => lv_lookup C.1 C.2.1 hd hp ho ht (k r M2 ho2 H locs la hP hS hl)
theorem zxi {x k : Int32} {v : Int} (h : x = k) (hk : k.toInt = v) : x.toInt = v := by rw [h]; exact hk
theorem zxn {x k : Int32} {v : Int} (h : ¬ x = k) (hk : k.toInt = v) : ¬ x.toInt = v := lv_neT h hk
theorem zg_get {d : Nat} (C : zCx p R s m args meth c cc own E NS A nL ret d) {k i : Nat} {cl ref : String} {T : u_T} {N ci ix : Nat} {v : Value} (f : Nat) (q0 : Nat) (hq : pc + 3 = q0) (hd : decode cc pc = .ok (.getfield ix, 3)) (hi : (k, i) ∈ NS) (hin : ∀ w ∈ u_ws cl T N, w ∈ zgw) (hc : vwCl[ci]? = some (cl, T, N)) (fs : List Value) (hf : zrow E k i (M.1 k i) (M.2 k i) = .inr (ci, fs)) (hfN : f < N) (hlk : Cond.fieldLink own ix ref (T f).2.1 (T f).2.2.1 ∈ zgw) (hr : (T f).1 = ref) (hv : fs[f]? = some v) (kk : zG p l e R s m args below meth c E NS A nL cv ok q0 ls (v :: st) M o) : zG p l e R s m args below meth c E NS A nL cv ok pc ls (.ref (zad E k i) :: st) M o := by
  subst hq
  intro r M2 ho H locs la hP hS hl
  obtain ⟨q, -, hq⟩ := zw_mem (E := E) (M := M) hi
  rw [hf] at hq
  subst hr
  exact va_get C.1 C.2.1 C.2.2.2.2.1 hin C.2.2.2.1 C.2.2.2.2.2.1 hP q hq hc f hfN (C.2.2.2.2.1 _ hlk) (fun _ h => h) hv hd (kk r M2 ho H locs la hP hS hl)
theorem zg_put {d : Nat} (C : zCx p R s m args meth c cc own E NS A nL ret d) {k i : Nat} {cl ref : String} {T : u_T} {N ci ix : Nat} {x : Int32} {F : zM → Option (α × zM)} (f : Nat) (q0 : Nat) (hq : pc + 3 = q0) (hd : decode cc pc = .ok (.putfield ix, 3)) (hi : (k, i) ∈ NS) (hin : ∀ w ∈ u_ws cl T N, w ∈ zgw) (hc : vwCl[ci]? = some (cl, T, N)) (ty0 : Nat → FieldType) (hty : ∀ k, k < N → parseFieldDescriptor (T k).2.2.1 = some (ty0 k)) (hnm : ∀ a, a < N → ∀ b, b < N → a ≠ b → (T a).2.1 ≠ (T b).2.1) (fs : List Value) (hf : zrow E k i (M.1 k i) (M.2 k i) = .inr (ci, fs)) (hf2 : zrow E k i (upd (M.1 k i) f x) (M.2 k i) = .inr (ci, fs.set f (.int x))) (hfN : f < N) (hlk : Cond.fieldLink own ix ref (T f).2.1 (T f).2.2.1 ∈ zgw) (hr : (T f).1 = ref) (hfin : (T f).2.2.2 = false) (hn : narrow (ty0 f) (.int x) = .int x) (hfit : fits (ty0 f) (.int x) = true) (hl0 : f < fs.length) (kk : ∀ M1 : zM, zG p l e R s m args below meth c E NS A nL cv ok q0 ls st M1 (F M1)) : zG p l e R s m args below meth c E NS A nL cv ok pc ls (.int x :: .ref (zad E k i) :: st) M (znm (zset M k i f x) F) := by
  subst hq
  intro r M2 ho H locs la hP hS hl
  obtain ⟨q, hq0, hq⟩ := zw_mem (E := E) (M := M) hi
  rw [hf] at hq
  subst hr
  refine va_put C.1 C.2.1 C.2.2.2.2.1 hin ty0 hty hnm C.2.2.2.1 C.2.2.2.2.2.1 hP (C.2.2.2.2.2.2.2.2.2.1.D M) hS q hq hc f hfN (C.2.2.2.2.1 _ hlk) (fun _ h => h) hfin (hty f hfN) hn hfit hl0 hd (fun H1 locs1 hP1 _ hS1 => ?_)
  rw [zw_set (M' := zset M k i f x) C.2.2.2.2.2.2.2.2.2.1.1 hq0 (by rw [zset_at]; exact hf2.symm) (zset_ne M k i f x)] at hP1
  exact kk _ r M2 ho H1 locs1 la hP1 hS1 hl
theorem zg_iald {d : Nat} (C : zCx p R s m args meth c cc own E NS A nL ret d) {k i n : Nat} {x : Int32} (q0 : Nat) (hq : pc + 1 = q0) (hd : decode cc pc = .ok (.iaload, 1)) (hi : (k, i) ∈ NS) (hf : zrow E k i (M.1 k i) (M.2 k i) = .inl (E.2.1 0, n, .inl (M.1 k i))) (kk : zG p l e R s m args below meth c E NS A nL cv ok q0 ls (.int (M.1 k i x.toNatClampNeg) :: st) M o) : zG p l e R s m args below meth c E NS A nL cv ok pc ls (.int x :: .ref (zad E k i) :: st) M (zchk (zin x n) o) := by
  subst hq
  intro r M2 ho H locs la hP hS hl
  obtain ⟨h1, h2⟩ := zchk_some ho
  obtain ⟨q, -, hq⟩ := zw_mem (E := E) (M := M) hi
  rw [hf] at hq
  exact va_iald C.1 C.2.1 C.2.2.2.2.2.1 hP q 0 hq rfl (zin_vp h1) hd (kk r M2 h2 H locs la hP hS hl)
theorem zg_zald {d : Nat} (C : zCx p R s m args meth c cc own E NS A nL ret d) {k i n : Nat} {x : Int32} (q0 : Nat) (hq : pc + 1 = q0) (hd : decode cc pc = .ok (.baload, 1)) (hi : (k, i) ∈ NS) (hf : zrow E k i (M.1 k i) (M.2 k i) = .inl (E.2.1 2, n, .inl (M.1 k i))) (kk : zG p l e R s m args below meth c E NS A nL cv ok q0 ls (.int (M.1 k i x.toNatClampNeg) :: st) M o) : zG p l e R s m args below meth c E NS A nL cv ok pc ls (.int x :: .ref (zad E k i) :: st) M (zchk (zin x n) o) := by
  subst hq
  intro r M2 ho H locs la hP hS hl
  obtain ⟨h1, h2⟩ := zchk_some ho
  obtain ⟨q, -, hq⟩ := zw_mem (E := E) (M := M) hi
  rw [hf] at hq
  exact va_zald C.1 C.2.1 C.2.2.2.2.2.1 hP q 2 hq rfl (zin_vp h1) hd (kk r M2 h2 H locs la hP hS hl)
theorem zg_lald {d : Nat} (C : zCx p R s m args meth c cc own E NS A nL ret d) {k i n : Nat} {x : Int32} (q0 : Nat) (hq : pc + 1 = q0) (hd : decode cc pc = .ok (.laload, 1)) (hi : (k, i) ∈ NS) (hf : zrow E k i (M.1 k i) (M.2 k i) = .inl (E.2.1 1, n, .inr (.inl (M.2 k i)))) (kk : zG p l e R s m args below meth c E NS A nL cv ok q0 ls (.long (M.2 k i x.toNatClampNeg) :: st) M o) : zG p l e R s m args below meth c E NS A nL cv ok pc ls (.int x :: .ref (zad E k i) :: st) M (zchk (zin x n) o) := by
  subst hq
  intro r M2 ho H locs la hP hS hl
  obtain ⟨h1, h2⟩ := zchk_some ho
  obtain ⟨q, -, hq⟩ := zw_mem (E := E) (M := M) hi
  rw [hf] at hq
  exact va_lald C.1 C.2.1 C.2.2.2.2.2.1 hP q 1 hq rfl (zin_vp h1) hd (kk r M2 h2 H locs la hP hS hl)
theorem zg_alen {d : Nat} (C : zCx p R s m args meth c cc own E NS A nL ret d) {k i : Nat} {cA : ClassId} {z : vp_A} (t0 : Nat) {ty : FieldType} (v : Int32) (q0 : Nat) (hq : pc + 1 = q0) (hd : decode cc pc = .ok (.arraylength, 1)) (hi : (k, i) ∈ NS) (hf : zrow E k i (M.1 k i) (M.2 k i) = .inl (cA, z)) (ht : (zty E)[t0]? = some (cA, ty)) (hv : Int32.ofNat z.1 = v) (kk : zG p l e R s m args below meth c E NS A nL cv ok q0 ls (.int v :: st) M o) : zG p l e R s m args below meth c E NS A nL cv ok pc ls (.ref (zad E k i) :: st) M o := by
  subst hq
  intro r M2 ho H locs la hP hS hl
  obtain ⟨q, -, hq⟩ := zw_mem (E := E) (M := M) hi
  rw [hf] at hq
  exact va_alen C.1 C.2.1 C.2.2.2.2.2.1 hP q t0 hq ht hv hd (kk r M2 ho H locs la hP hS hl)
theorem zg_iast {d : Nat} (C : zCx p R s m args meth c cc own E NS A nL ret d) {k i n : Nat} {x v : Int32} {F : zM → Option (α × zM)} (q0 : Nat) (hq : pc + 1 = q0) (hd : decode cc pc = .ok (.iastore, 1)) (hi : (k, i) ∈ NS) (hf : ∀ f g, zrow E k i f g = .inl (E.2.1 0, n, .inl f)) (kk : ∀ M1 : zM, zG p l e R s m args below meth c E NS A nL cv ok q0 ls st M1 (F M1)) : zG p l e R s m args below meth c E NS A nL cv ok pc ls (.int v :: .int x :: .ref (zad E k i) :: st) M (zchk (zin x n) (znm (zset M k i x.toNatClampNeg v) F)) := by
  subst hq
  intro r M2 ho H locs la hP hS hl
  obtain ⟨h1, h2⟩ := zchk_some ho
  obtain ⟨q, hq0, hq⟩ := zw_mem (E := E) (M := M) hi
  rw [hf] at hq
  refine va_iast C.1 C.2.1 C.2.2.2.2.2.1 hP (C.2.2.2.2.2.2.2.2.2.1.D M) hS q 0 hq rfl (zin_vp h1) hd (fun H1 locs1 hP1 _ hS1 => ?_)
  rw [zw_set (M' := zset M k i x.toNatClampNeg v) C.2.2.2.2.2.2.2.2.2.1.1 hq0 (by rw [zset_at]; exact (hf _ _).symm) (zset_ne M k i x.toNatClampNeg v)] at hP1
  exact kk _ r M2 h2 H1 locs1 la hP1 hS1 hl
theorem zg_zast {d : Nat} (C : zCx p R s m args meth c cc own E NS A nL ret d) {k i n : Nat} {x v : Int32} {F : zM → Option (α × zM)} (q0 : Nat) (hq : pc + 1 = q0) (hd : decode cc pc = .ok (.bastore, 1)) (hi : (k, i) ∈ NS) (hf : ∀ f g, zrow E k i f g = .inl (E.2.1 2, n, .inl f)) (kk : ∀ M1 : zM, zG p l e R s m args below meth c E NS A nL cv ok q0 ls st M1 (F M1)) : zG p l e R s m args below meth c E NS A nL cv ok pc ls (.int v :: .int x :: .ref (zad E k i) :: st) M (zchk (zin x n) (znm (zset M k i x.toNatClampNeg (vp_nar .boolean v)) F)) := by
  subst hq
  intro r M2 ho H locs la hP hS hl
  obtain ⟨h1, h2⟩ := zchk_some ho
  obtain ⟨q, hq0, hq⟩ := zw_mem (E := E) (M := M) hi
  rw [hf] at hq
  refine va_zast C.1 C.2.1 C.2.2.2.2.2.1 hP (C.2.2.2.2.2.2.2.2.2.1.D M) hS q 2 hq rfl (zin_vp h1) hd (fun H1 locs1 hP1 _ hS1 => ?_)
  rw [zw_set (M' := zset M k i x.toNatClampNeg (vp_nar .boolean v)) C.2.2.2.2.2.2.2.2.2.1.1 hq0 (by rw [zset_at]; exact (hf _ _).symm) (zset_ne M k i x.toNatClampNeg _)] at hP1
  exact kk _ r M2 h2 H1 locs1 la hP1 hS1 hl
theorem zg_last {d : Nat} (C : zCx p R s m args meth c cc own E NS A nL ret d) {k i n : Nat} {x : Int32} {v : Int64} {F : zM → Option (α × zM)} (q0 : Nat) (hq : pc + 1 = q0) (hd : decode cc pc = .ok (.lastore, 1)) (hi : (k, i) ∈ NS) (hf : ∀ f g, zrow E k i f g = .inl (E.2.1 1, n, .inr (.inl g))) (kk : ∀ M1 : zM, zG p l e R s m args below meth c E NS A nL cv ok q0 ls st M1 (F M1)) : zG p l e R s m args below meth c E NS A nL cv ok pc ls (.long v :: .int x :: .ref (zad E k i) :: st) M (zchk (zin x n) (znm (zsetL M k i x.toNatClampNeg v) F)) := by
  subst hq
  intro r M2 ho H locs la hP hS hl
  obtain ⟨h1, h2⟩ := zchk_some ho
  obtain ⟨q, hq0, hq⟩ := zw_mem (E := E) (M := M) hi
  rw [hf] at hq
  refine va_last C.1 C.2.1 C.2.2.2.2.2.1 hP (C.2.2.2.2.2.2.2.2.2.1.D M) hS q 1 hq rfl (zin_vp h1) hd (fun H1 locs1 hP1 _ hS1 => ?_)
  rw [zw_set (M' := zsetL M k i x.toNatClampNeg v) C.2.2.2.2.2.2.2.2.2.1.1 hq0 (by rw [zsetL_at]; exact (hf _ _).symm) (zsetL_ne M k i x.toNatClampNeg v)] at hP1
  exact kk _ r M2 h2 H1 locs1 la hP1 hS1 hl
/-- an array of references: its places are cells of the kind k2, from number b on -/
theorem zg_aald {d : Nat} (C : zCx p R s m args meth c cc own E NS A nL ret d) {k i n k2 b : Nat} {x : Int32} {t0 : Nat} {cn : String} {F : Nat → Option (α × zM)} (q0 : Nat) (hq : pc + 1 = q0) (hd : decode cc pc = .ok (.aaload, 1)) (hi : (k, i) ∈ NS) (hf : zrow E k i (M.1 k i) (M.2 k i) = .inl (E.2.1 t0, n, .inr (.inr (.inr (.inr (fun j => some (zad E k2 (b + j)))))))) (ht : (zty E)[t0]? = some (E.2.1 t0, .object cn)) (kk : ∀ y : Nat, b ≤ y → y < b + n → zG p l e R s m args below meth c E NS A nL cv ok q0 ls (.ref (zad E k2 y) :: st) M (F y)) : zG p l e R s m args below meth c E NS A nL cv ok pc ls (.int x :: .ref (zad E k i) :: st) M (zchk (zin x n) (znm (b + x.toNatClampNeg) F)) := by
  subst hq
  intro r M2 ho H locs la hP hS hl
  obtain ⟨h1, h2⟩ := zchk_some ho
  obtain ⟨q, -, hq⟩ := zw_mem (E := E) (M := M) hi
  rw [hf] at hq
  have h3 := zin_lt h1
  exact va_aldq C.1 C.2.1 C.2.2.2.2.2.1 hP q t0 hq ht (zin_vp h1) hd (kk (b + x.toNatClampNeg) (Nat.le_add_right _ _) (by omega) r M2 h2 H locs la hP hS hl)
theorem zg_copyi {d : Nat} (C : zCx p R s m args meth c cc own E NS A nL ret d) {k i n0 k2 i2 n1 ix : Nat} {sp dp n : Int32} {F : zM → Option (α × zM)} (q0 : Nat) (hq : pc + 3 = q0) (hd : decode cc pc = .ok (.invokestatic ix, 3)) (hi : (k, i) ∈ NS) (hi2 : (k2, i2) ∈ NS) (hf : ∀ f g, zrow E k i f g = .inl (E.2.1 0, n0, .inl f)) (hf2 : ∀ f g, zrow E k2 i2 f g = .inl (E.2.1 0, n1, .inl f)) (hlk : Cond.methodLink own ix arraycopyName ∈ zgw) (h1 : Cond.native arraycopyName ∈ zgw) (h2 : Cond.static arraycopyName ∈ zgw) (h3 : Cond.initialized "java/lang/System" ∈ zgw) (hdd : 2 ≤ d) (hst : (st.map fun v => v.category).sum + (nativeFrameWords "java/lang/System" "arraycopy" 5 + 11) ≤ 128) (kk : ∀ M1 : zM, zG p l e R s m args below meth c E NS A nL cv ok q0 ls st M1 (F M1)) : zG p l e R s m args below meth c E NS A nL cv ok pc ls (.int n :: .int dp :: .ref (zad E k2 i2) :: .int sp :: .ref (zad E k i) :: st) M (zchk (zcp sp dp n n0 n1) (znm (zcpy M k i k2 i2 sp.toNatClampNeg dp.toNatClampNeg n.toNatClampNeg) F)) := by
  subst hq
  intro r M2 ho H locs la hP hS hl
  obtain ⟨g1, g2⟩ := zchk_some ho
  obtain ⟨g3, g4, g5, g6, g7⟩ := of_decide_eq_true g1
  obtain ⟨q, hq0, hq⟩ := zw_mem (E := E) (M := M) hi
  rw [hf] at hq
  obtain ⟨q2, hq20, hq2⟩ := zw_mem (E := E) (M := M) hi2
  rw [hf2] at hq2
  have hR := C.2.2.2.2.2.2.2.2.2.2
  refine va_copyi C.1 C.2.1 (C.2.2.1.trans hl.1.symm) C.2.2.2.1 (C.2.2.2.2.1 _ hlk) (C.2.2.2.2.1 _ h1) (C.2.2.2.2.1 _ h2) (C.2.2.2.2.1 _ h3) C.2.2.2.2.2.1 hP (C.2.2.2.2.2.2.2.2.2.1.D M) hS q q2 0 0 hq hq2 rfl rfl rfl g3 g4 g5 g6 g7 (fun _ _ => rfl) (by rw [hR.1]; omega) (by rw [hR.2]; omega) hd (fun H1 locs1 hP1 _ hS1 => ?_)
  rw [zw_set (M' := zcpy M k i k2 i2 sp.toNatClampNeg dp.toNatClampNeg n.toNatClampNeg) C.2.2.2.2.2.2.2.2.2.1.1 hq20 (by rw [zcpy_at]; exact (hf2 _ _).symm) (zcpy_ne M k i k2 i2 _ _ _)] at hP1
  exact kk _ r M2 g2 H1 locs1 la hP1 hS1 hl
theorem zg_copyl {d : Nat} (C : zCx p R s m args meth c cc own E NS A nL ret d) {k i n0 k2 i2 n1 ix : Nat} {sp dp n : Int32} {F : zM → Option (α × zM)} (q0 : Nat) (hq : pc + 3 = q0) (hd : decode cc pc = .ok (.invokestatic ix, 3)) (hi : (k, i) ∈ NS) (hi2 : (k2, i2) ∈ NS) (hf : ∀ f g, zrow E k i f g = .inl (E.2.1 1, n0, .inr (.inl g))) (hf2 : ∀ f g, zrow E k2 i2 f g = .inl (E.2.1 1, n1, .inr (.inl g))) (hlk : Cond.methodLink own ix arraycopyName ∈ zgw) (h1 : Cond.native arraycopyName ∈ zgw) (h2 : Cond.static arraycopyName ∈ zgw) (h3 : Cond.initialized "java/lang/System" ∈ zgw) (hdd : 2 ≤ d) (hst : (st.map fun v => v.category).sum + (nativeFrameWords "java/lang/System" "arraycopy" 5 + 11) ≤ 128) (kk : ∀ M1 : zM, zG p l e R s m args below meth c E NS A nL cv ok q0 ls st M1 (F M1)) : zG p l e R s m args below meth c E NS A nL cv ok pc ls (.int n :: .int dp :: .ref (zad E k2 i2) :: .int sp :: .ref (zad E k i) :: st) M (zchk (zcp sp dp n n0 n1) (znm (zcpyL M k i k2 i2 sp.toNatClampNeg dp.toNatClampNeg n.toNatClampNeg) F)) := by
  subst hq
  intro r M2 ho H locs la hP hS hl
  obtain ⟨g1, g2⟩ := zchk_some ho
  obtain ⟨g3, g4, g5, g6, g7⟩ := of_decide_eq_true g1
  obtain ⟨q, hq0, hq⟩ := zw_mem (E := E) (M := M) hi
  rw [hf] at hq
  obtain ⟨q2, hq20, hq2⟩ := zw_mem (E := E) (M := M) hi2
  rw [hf2] at hq2
  have hR := C.2.2.2.2.2.2.2.2.2.2
  refine va_copyl C.1 C.2.1 (C.2.2.1.trans hl.1.symm) C.2.2.2.1 (C.2.2.2.2.1 _ hlk) (C.2.2.2.2.1 _ h1) (C.2.2.2.2.1 _ h2) (C.2.2.2.2.1 _ h3) C.2.2.2.2.2.1 hP (C.2.2.2.2.2.2.2.2.2.1.D M) hS q q2 1 1 hq hq2 rfl rfl rfl g3 g4 g5 g6 g7 (fun _ _ => rfl) (by rw [hR.1]; omega) (by rw [hR.2]; omega) hd (fun H1 locs1 hP1 _ hS1 => ?_)
  rw [zw_set (M' := zcpyL M k i k2 i2 sp.toNatClampNeg dp.toNatClampNeg n.toNatClampNeg) C.2.2.2.2.2.2.2.2.2.1.1 hq20 (by rw [zcpyL_at]; exact (hf2 _ _).symm) (zcpyL_ne M k i k2 i2 _ _ _)] at hP1
  exact kk _ r M2 g2 H1 locs1 la hP1 hS1 hl
theorem zg_gets {d : Nat} (C : zCx p R s m args meth c cc own E NS A nL ret d) {ix : Nat} (t : Nat) (ht : t < 3) (q0 : Nat) (hq : pc + 3 = q0) (hd : decode cc pc = .ok (.getstatic ix, 3)) (hlk : Cond.fieldLink own ix (zst_c t) (zst_n t) "[I" ∈ zgw) (kk : zG p l e R s m args below meth c E NS A nL cv ok q0 ls (.ref (zsa E t) :: st) M o) : zG p l e R s m args below meth c E NS A nL cv ok pc ls st M o := by
  subst hq
  exact fun r M2 ho H locs la hP hS hl => va_gets C.1 C.2.1 (C.2.2.2.2.2.2.1.1 t ht).1 hS C.2.2.2.1 (C.2.2.2.2.1 _ hlk) (fun _ h => h) hd (kk r M2 ho H locs la hP hS hl)
theorem zg_getsN {d : Nat} (C : zCx p R s m args meth c cc "TwoTrue$Acts" E NS A nL ret d) (q0 : Nat) (hq : pc + 3 = q0) (hd : decode cc pc = .ok (.getstatic 28, 3)) (kk : zG p l e R s m args below meth c E NS A nL cv ok q0 ls (.ref (zsa E 0) :: st) M o) : zG p l e R s m args below meth c E NS A nL cv ok pc ls st M o := by
  subst hq
  exact fun r M2 ho H locs la hP hS hl => va_getsN C.1 C.2.1 (C.2.2.2.2.2.2.1.1 0 (by decide)).1 hS C.2.2.2.1 (va_Nw.use rfl C.2.2.2.2.2.2.1.2.2.2.2.2.2) (fun _ h => h) hd (kk r M2 ho H locs la hP hS hl)
theorem zg_ti {d : Nat} (C : zCx p R s m args meth c cc own E NS A nL ret d) {t : Nat} {x : Int32} (ht : t < 3) (q0 : Nat) (hq : pc + 1 = q0) (hd : decode cc pc = .ok (.iaload, 1)) (kk : zG p l e R s m args below meth c E NS A nL cv ok q0 ls (.int (zst t x.toNatClampNeg) :: st) M o) : zG p l e R s m args below meth c E NS A nL cv ok pc ls (.int x :: .ref (zsa E t) :: st) M (zchk (zin x (zst_l t)) o) := by
  subst hq
  intro r M2 ho H locs la hP hS hl
  obtain ⟨h1, h2⟩ := zchk_some ho
  exact va_ti C.1 C.2.1 (C.2.2.2.2.2.2.1.1 t ht).2 hS (zin_vp h1) rfl hd (kk r M2 h2 H locs la hP hS hl)
theorem zg_ldcS {d : Nat} (C : zCx p R s m args meth c cc "TwoTrue$Text" E NS A nL ret d) (i : Nat) (hi : i < 4) {ix : Nat} (q0 : Nat) (hq : pc + 2 = q0) (hd : decode cc pc = .ok (.ldc ix, 2)) (hx : ztx_k i = ix) (kk : zG p l e R s m args below meth c E NS A nL cv ok q0 ls (.ref (zsk E i) :: st) M o) : zG p l e R s m args below meth c E NS A nL cv ok pc ls st M o := by
  subst hq
  subst hx
  exact fun r M2 ho H locs la hP hS hl => va_ldcS C.1 C.2.1 C.2.2.2.1 (C.2.2.2.2.2.2.1.2.2.2.2.1 i hi) hd (kk r M2 ho H locs la hP hS hl)
theorem zg_getC {d : Nat} (C : zCx p R s m args meth c cc "java/lang/String" E NS A nL ret d) {ix : Nat} (q0 : Nat) (hq : pc + 3 = q0) (hd : decode cc pc = .ok (.getstatic ix, 3)) (hlk : Cond.fieldLink "java/lang/String" ix "java/lang/String" "COMPACT_STRINGS" "Z" ∈ zgw) (kk : zG p l e R s m args below meth c E NS A nL cv ok q0 ls (.int 1 :: st) M o) : zG p l e R s m args below meth c E NS A nL cv ok pc ls st M o := by
  subst hq
  exact fun r M2 ho H locs la hP hS hl => va_gets C.1 C.2.1 C.2.2.2.2.2.2.1.2.1 hS C.2.2.2.1 (C.2.2.2.2.1 _ hlk) (fun _ h => h) hd (kk r M2 ho H locs la hP hS hl)
theorem zg_getV {d : Nat} (C : zCx p R s m args meth c cc "java/lang/String" E NS A nL ret d) {i ix : Nat} (hi : i < 4) (q0 : Nat) (hq : pc + 3 = q0) (hd : decode cc pc = .ok (.getfield ix, 3)) (hlk : Cond.fieldLink "java/lang/String" ix "java/lang/String" "value" "[B" ∈ zgw) (kk : zG p l e R s m args below meth c E NS A nL cv ok q0 ls (.ref (zsv E i) :: st) M o) : zG p l e R s m args below meth c E NS A nL cv ok pc ls (.ref (zsk E i) :: st) M o := by
  subst hq
  exact fun r M2 ho H locs la hP hS hl => vk_getf C.1 C.2.1 (C.2.2.2.2.2.2.1.2.2.2.1.1 i hi).2.2.1 hS C.2.2.2.1 (C.2.2.2.2.1 _ hlk) (fun _ h => h) hd (kk r M2 ho H locs la hP hS hl)
theorem zg_getK {d : Nat} (C : zCx p R s m args meth c cc "java/lang/String" E NS A nL ret d) {i ix : Nat} (hi : i < 4) (q0 : Nat) (hq : pc + 3 = q0) (hd : decode cc pc = .ok (.getfield ix, 3)) (hlk : Cond.fieldLink "java/lang/String" ix "java/lang/String" "coder" "B" ∈ zgw) (kk : zG p l e R s m args below meth c E NS A nL cv ok q0 ls (.int 0 :: st) M o) : zG p l e R s m args below meth c E NS A nL cv ok pc ls (.ref (zsk E i) :: st) M o := by
  subst hq
  exact fun r M2 ho H locs la hP hS hl => vk_getf C.1 C.2.1 (C.2.2.2.2.2.2.1.2.2.2.1.1 i hi).2.1 hS C.2.2.2.1 (C.2.2.2.2.1 _ hlk) (fun _ h => h) hd (kk r M2 ho H locs la hP hS hl)
/-! ends -/
theorem zg_iret {d : Nat} {ok : Int32 → Prop} (C : zCx p R s m args meth c cc own E NS A nL (some .int) d) {x : Int32} (hd : decode cc pc = .ok (.ireturn, 1)) (hx : ok x) : zG p l e R s m args below meth c E NS A nL zvI ok pc ls [.int x] M (some (x, M)) := by
  intro r M2 ho H locs la hP hS hl
  cases ho
  exact W.iret (v := x) C.1 C.2.1 C.2.2.2.2.2.2.2.2.1 (fun t ht hW => ⟨rfl, hx, by rw [ht]; exact hP, hS.F ht⟩) hS.2.2 hd C.2.2.2.2.2.2.2.1
theorem zg_zret {d : Nat} {ok : Int32 → Prop} {ty : FieldType} (C : zCx p R s m args meth c cc own E NS A nL (some ty) d) {x : Int32} (hd : decode cc pc = .ok (.ireturn, 1)) (hn : narrow ty (.int x) = .int x) (hx : ok x) : zG p l e R s m args below meth c E NS A nL zvI ok pc ls [.int x] M (some (x, M)) := by
  intro r M2 ho H locs la hP hS hl
  cases ho
  exact W.zret (v := x) C.1 C.2.1 C.2.2.2.2.2.2.2.2.1 hn (fun t ht hW => ⟨rfl, hx, by rw [ht]; exact hP, hS.F ht⟩) hS.2.2 hd C.2.2.2.2.2.2.2.1
theorem zg_lret {d : Nat} {ok : Int64 → Prop} (C : zCx p R s m args meth c cc own E NS A nL (some .long) d) {x : Int64} (hd : decode cc pc = .ok (.lreturn, 1)) (hx : ok x) : zG p l e R s m args below meth c E NS A nL zvL ok pc ls [.long x] M (some (x, M)) := by
  intro r M2 ho H locs la hP hS hl
  cases ho
  exact W.lret (v := x) C.1 C.2.1 C.2.2.2.2.2.2.2.2.1 (fun t ht hW => ⟨rfl, hx, by rw [ht]; exact hP, hS.F ht⟩) hS.2.2 hd C.2.2.2.2.2.2.2.1
theorem zbb_ok {x : Int32} (h : zbb x = true) : narrow .boolean (.int x) = .int x := congrArg Value.int (of_decide_eq_true h)
theorem zg_zretB {d : Nat} (C : zCx p R s m args meth c cc own E NS A nL (some .boolean) d) {x : Int32} (hd : decode cc pc = .ok (.ireturn, 1)) : zG p l e R s m args below meth c E NS A nL zvI zoB pc ls [.int x] M (zchk (zbb x) (some (x, M))) := by
  intro r M2 ho
  obtain ⟨h1, h2⟩ := zchk_some ho
  exact zg_zret C hd (zbb_ok h1) (zbb_ok h1) r M2 h2
theorem zg_vret {d : Nat} {ok : Unit → Prop} (C : zCx p R s m args meth c cc own E NS A nL none d) (hd : decode cc pc = .ok (.return_, 1)) (hx : ok ()) : zG p l e R s m args below meth c E NS A nL zvU ok pc ls [] M (some ((), M)) := by
  intro r M2 ho H locs la hP hS hl
  cases ho
  exact W.vret C.1 C.2.1 C.2.2.2.2.2.2.2.2.1 (fun t ht hW => ⟨rfl, hx, by rw [ht]; exact hP, hS.F ht⟩) hS.2.2 hd C.2.2.2.2.2.2.2.1
theorem zg_aret {d : Nat} {ok : Nat → Prop} {cn : String} {k : Nat} (C : zCx p R s m args meth c cc own E NS A nL (some (.object cn)) d) {x : Nat} (hd : decode cc pc = .ok (.areturn, 1)) (hx : ok x) : zG p l e R s m args below meth c E NS A nL (zvR E k) ok pc ls [.ref (zad E k x)] M (some (x, M)) := by
  intro r M2 ho H locs la hP hS hl
  cases ho
  exact W.aret (v := .ref (zad E k x)) C.1 C.2.1 C.2.2.2.2.2.2.2.2.1 (Or.inl ⟨_, rfl⟩) (Or.inr ⟨_, rfl⟩) (fun t ht hW => ⟨rfl, hx, by rw [ht]; exact hP, hS.F ht⟩) hS.2.2 hd C.2.2.2.2.2.2.2.1

theorem zcall {H : Heap} {locs : List Loc} {la : Array Slot} {α2 : Type} {cv2 : α2 → Option Value} {ok2 : α2 → Prop} {x : α2} {M1 : zM} {a : Array Value} {rest st0 : List Value} {Q : State → Prop} (hr : va_Run p l e R s m args below meth c H locs 0 0 0 0 (F0 m pc la st0) rest (zQ E NS A cv2 ok2 x M1 a) A) (hS : va_S A s.heap H locs)
    (kk : ∀ (H1 : Heap) (locs1 : List Loc), va_P E.1 vwCl (zw E NS M1) H1 → ok2 x → va_S A s.heap H1 locs1 → W p l e R s m args below meth c H1 locs1 0 0 Q (F0 m (pc + 3) la ((cv2 x).toList ++ rest))) : W p l e R s m args below meth c H locs 0 0 Q (F0 m pc la st0) := by
  intro T hT X
  obtain ⟨v, st₀, t, T', L, h0, X', hL, e1, e2, ⟨hv, hx, hP, hz, hk⟩, st⟩ := hr T hT X
  cases hv
  rw [h0] at hz hk
  obtain ⟨t2, a1, b1⟩ := kk T'.heap (locs ++ L) (by rw [e1]; exact hP) hx ⟨Nat.le_trans hS.1 (by rw [e1]; exact hz), fun q h1 h2 => by rw [e1, hk q (Nat.lt_of_lt_of_le h1 hS.1) h2]; exact hS.2.1 q h1 h2, fun q hq => by
      rcases List.mem_append.mp hq with h | h
      · exact hS.2.2 q h
      · exact hL q h⟩ T' rfl X'
  exact ⟨t2, st t2 a1, b1⟩
abbrev zok (y : MethodName) (n : Nat) : Prop := y.cls ≠ "java/lang/invoke/MethodHandle" ∧ y.cls ≠ "java/lang/invoke/VarHandle" ∧ (parseMethodDescriptor y.desc).map (fun d => d.parameters.length) = some n
theorem zgc {y : MethodName} {cc2 : ByteArray} {nL2 : Nat} {ret2 : Option FieldType} (h : Cond.code y cc2 nL2 ret2 ∈ zgw) : GoodIn zgw (.code y cc2 nL2 ret2 :: zgw) := fun w hw => by
  rcases List.mem_cons.mp hw with rfl | hw
  · exact zgg _ h
  · exact zgg w hw
theorem zg_callV {d d2 : Nat} (C : zCx p R s m args meth c cc own E NS A nL ret d) {α2 : Type} {cv2 : α2 → Option Value} {ok2 : α2 → Prop} {y : MethodName} {cc2 : ByteArray} {nL2 ix : Nat} {ret2 : Option FieldType} {As : List Value} {b : Addr} {stk : List Value} {o1 : Option (α2 × zM)} {F : α2 → zM → Option (α × zM)} (q0 : Nat) (hq : pc + 3 = q0) (hd : decode cc pc = .ok (.invokevirtual ix, 3)) (hM : zCT l y cc2 nL2 ret2 d2 E NS A (.ref b :: As) M cv2 ok2 o1) (hs : stk = As.reverse ++ .ref b :: st) (hrec : ∀ (H : Heap) (locs : List Loc), va_P E.1 vwCl (zw E NS M) H → va_S A s.heap H locs → ∃ cellB : Cell, H[b]? = some cellB ∧ cellB.vm.isStatics = false ∧ s.vm.findClass y.cls = some cellB.cls) (hcw : Cond.code y cc2 nL2 ret2 ∈ zgw) (h1 : Cond.methodLink own ix y ∈ zgw) (h2 : Cond.instanceMethod y ∈ zgw) (h3 : Cond.selects y.cls y y ∈ zgw) (h4 : Cond.initialized y.cls ∈ zgw) (hok : zok y As.length) (hr : d2 < d ∧ nL2 ≤ 45) (hst : (st.map fun v => v.category).sum ≤ 8) (kk : ∀ (x : α2) (M1 : zM), ok2 x → zG p l e R s m args below meth c E NS A nL cv ok q0 ls ((cv2 x).toList ++ st) M1 (F x M1)) : zG p l e R s m args below meth c E NS A nL cv ok pc ls stk M (zbnd o1 F) := by
  subst hq
  intro r M2 ho H locs la hP hS hl
  subst hs
  obtain ⟨x, M1, h5, h6⟩ := zbnd_some ho
  have hR : (zrm d2).frames + 1 ≤ R.frames ∧ 8 + (nL2 + 11) + (zrm d2).locals ≤ R.locals := by
    obtain ⟨e1, e2⟩ := C.2.2.2.2.2.2.2.2.2.2
    rw [e1, e2]
    show d2 + 1 ≤ d ∧ 8 + (nL2 + 11) + 64 * d2 ≤ 64 * d
    omega
  have hM1 := hM x M1 h5
  have hpre : ∀ U : State, U.heap = H → s.WarmedH U.vm → zPre E NS A (.ref b :: As) M (.ref b :: As).toArray U := fun U hU hW => ⟨rfl, by rw [hU]; exact hP, va_K.moved hW.alike C.2.2.2.2.2.1, by rw [hU]; exact C.2.2.2.2.2.2.1.go hW hS.2.1⟩
  have cw : CallW R s args own y.cls ix y cc2 nL2 ret2 (.code y cc2 nL2 ret2 :: zgw) (zrm d2) 0 0 As.length := ⟨callB_of As.length C.2.2.2.2.1 (zgc hcw) rfl rfl rfl (C.2.2.2.2.1 _ h4) (C.2.2.2.2.1 _ h1) hok hR, C.2.2.2.2.1 _ h2, C.2.2.2.2.1 _ h3⟩
  exact zcall (va_runV (Ts := zgw) (As := As) (rest := st) ⟨C.1, C.2.1, C.2.2.1, C.2.2.2.1, C.2.2.2.2.1⟩ hM1 cw ⟨zPre.blind, hrec H locs hP hS, hpre⟩ rfl rfl hl.1 rfl (lv_room hst) hd ⟨Nat.zero_le _, Nat.zero_le _⟩) hS (fun H1 locs1 hP1 hx hS1 => kk x M1 hx r M2 h6 H1 locs1 la hP1 hS1 hl)
theorem zg_callS {d d2 : Nat} (C : zCx p R s m args meth c cc own E NS A nL ret d) {α2 : Type} {cv2 : α2 → Option Value} {ok2 : α2 → Prop} {y : MethodName} {cc2 : ByteArray} {nL2 ix : Nat} {ret2 : Option FieldType} {As : List Value}  {stk : List Value} {o1 : Option (α2 × zM)} {F : α2 → zM → Option (α × zM)} (q0 : Nat) (hq : pc + 3 = q0) (hd : decode cc pc = .ok (.invokestatic ix, 3)) (hM : zCT l y cc2 nL2 ret2 d2 E NS A As M cv2 ok2 o1) (hs : stk = As.reverse ++ st) (hcw : Cond.code y cc2 nL2 ret2 ∈ zgw) (h1 : Cond.methodLink own ix y ∈ zgw) (h2 : Cond.static y ∈ zgw) (h4 : Cond.initialized y.cls ∈ zgw) (hok : zok y As.length) (hr : d2 < d ∧ nL2 ≤ 45) (hst : (st.map fun v => v.category).sum ≤ 8) (kk : ∀ (x : α2) (M1 : zM), ok2 x → zG p l e R s m args below meth c E NS A nL cv ok q0 ls ((cv2 x).toList ++ st) M1 (F x M1)) : zG p l e R s m args below meth c E NS A nL cv ok pc ls stk M (zbnd o1 F) := by
  subst hq
  intro r M2 ho H locs la hP hS hl
  subst hs
  obtain ⟨x, M1, h5, h6⟩ := zbnd_some ho
  have hR : (zrm d2).frames + 1 ≤ R.frames ∧ 8 + (nL2 + 11) + (zrm d2).locals ≤ R.locals := by
    obtain ⟨e1, e2⟩ := C.2.2.2.2.2.2.2.2.2.2
    rw [e1, e2]
    show d2 + 1 ≤ d ∧ 8 + (nL2 + 11) + 64 * d2 ≤ 64 * d
    omega
  have hM1 := hM x M1 h5
  have hpre : ∀ U : State, U.heap = H → s.WarmedH U.vm → zPre E NS A As M As.toArray U := fun U hU hW => ⟨rfl, by rw [hU]; exact hP, va_K.moved hW.alike C.2.2.2.2.2.1, by rw [hU]; exact C.2.2.2.2.2.2.1.go hW hS.2.1⟩
  have cw : CallB R s args own ix y cc2 nL2 ret2 (.code y cc2 nL2 ret2 :: zgw) (zrm d2) 0 0 As.length ∧ (Cond.static y).before args s = true := ⟨callB_of As.length C.2.2.2.2.1 (zgc hcw) rfl rfl rfl (C.2.2.2.2.1 _ h4) (C.2.2.2.2.1 _ h1) hok hR, C.2.2.2.2.1 _ h2⟩
  exact zcall (va_runS (Ts := zgw) (As := As) (rest := st) ⟨C.1, C.2.1, C.2.2.1, C.2.2.2.1, C.2.2.2.2.1⟩ hM1 cw ⟨zPre.blind, hpre⟩ rfl rfl hl.1 rfl (lv_room hst) hd ⟨Nat.zero_le _, Nat.zero_le _⟩) hS (fun H1 locs1 hP1 hx hS1 => kk x M1 hx r M2 h6 H1 locs1 la hP1 hS1 hl)
theorem zg_callN {d d2 : Nat} (C : zCx p R s m args meth c cc own E NS A nL ret d) {α2 : Type} {cv2 : α2 → Option Value} {ok2 : α2 → Prop} {y : MethodName} {cc2 : ByteArray} {nL2 ix : Nat} {ret2 : Option FieldType} {As : List Value}  {stk : List Value} {o1 : Option (α2 × zM)} {F : α2 → zM → Option (α × zM)} (q0 : Nat) (hq : pc + 3 = q0) (hd : decode cc pc = .ok (.invokestatic ix, 3)) (hM : zCT l y cc2 nL2 ret2 d2 E NS A As M cv2 ok2 o1) (hs : stk = As.reverse ++ st) (hcw : Cond.code y cc2 nL2 ret2 ∈ zgw) (h1 : (own, ix, y) ∈ znM) (h2 : Cond.static y ∈ zgw) (h4 : Cond.initialized y.cls ∈ zgw) (hok : zok y As.length) (hr : d2 < d ∧ nL2 ≤ 45) (hst : (st.map fun v => v.category).sum ≤ 8) (kk : ∀ (x : α2) (M1 : zM), ok2 x → zG p l e R s m args below meth c E NS A nL cv ok q0 ls ((cv2 x).toList ++ st) M1 (F x M1)) : zG p l e R s m args below meth c E NS A nL cv ok pc ls stk M (zbnd o1 F) := by
  subst hq
  intro r M2 ho H locs la hP hS hl
  subst hs
  obtain ⟨x, M1, h5, h6⟩ := zbnd_some ho
  have hR : (zrm d2).frames + 1 ≤ R.frames ∧ 8 + (nL2 + 11) + (zrm d2).locals ≤ R.locals := by
    obtain ⟨e1, e2⟩ := C.2.2.2.2.2.2.2.2.2.2
    rw [e1, e2]
    show d2 + 1 ≤ d ∧ 8 + (nL2 + 11) + 64 * d2 ≤ 64 * d
    omega
  have hM1 := hM x M1 h5
  have hpre : ∀ U : State, U.heap = H → s.WarmedH U.vm → zPre E NS A As M As.toArray U := fun U hU hW => ⟨rfl, by rw [hU]; exact hP, va_K.moved hW.alike C.2.2.2.2.2.1, by rw [hU]; exact C.2.2.2.2.2.2.1.go hW hS.2.1⟩
  have cw : va_CN R s args own ix y "TwoTrue" cc2 nL2 ret2 (.code y cc2 nL2 ret2 :: zgw) (zrm d2) 0 0 As.length := va_cnB As.length C.2.2.2.2.1 (zgc hcw) rfl rfl rfl (C.2.2.2.2.2.2.1.2.2.2.2.2.1 _ h1) (C.2.2.2.2.1 _ h4) hok hR
  exact zcall (va_runSN (Ts := zgw) (As := As) (rest := st) ⟨C.1, C.2.1, C.2.2.1, C.2.2.2.1, C.2.2.2.2.1⟩ hM1 ⟨cw, C.2.2.2.2.1 _ h2, trivial⟩ ⟨zPre.blind, hpre⟩ rfl rfl hl.1 rfl (lv_room hst) hd ⟨Nat.zero_le _, Nat.zero_le _⟩) hS (fun H1 locs1 hP1 hx hS1 => kk x M1 hx r M2 h6 H1 locs1 la hP1 hS1 hl)
theorem zrecv {H : Heap} {k i ci N : Nat} {T : u_T} {cl : String} {fs : List Value} (hK : va_K E.1 vwCl (zty E) s) (hP : va_P E.1 vwCl (zw E NS M) H) (hi : (k, i) ∈ NS) (hf : zrow E k i (M.1 k i) (M.2 k i) = .inr (ci, fs)) (hc : vwCl[ci]? = some (cl, T, N)) : ∃ cellB : Cell, H[zad E k i]? = some cellB ∧ cellB.vm.isStatics = false ∧ s.vm.findClass cl = some cellB.cls := by
  obtain ⟨q, -, hq⟩ := zw_mem (E := E) (M := M) hi
  rw [hf] at hq
  exact va_recv hK hP hc hq
theorem zCT_of {y : MethodName} {As : List Value} {d : Nat} (hy : plainName y.cls = true) (hD : zD E NS A) (hlen : (lg_sl As).length ≤ nL) (hk : ∀ (p : Program) (e : Env) (R : Room) (s : State) (m : MethodId) (args : Array Value) (below : List Frame) (meth : Method) (c : Code), zCx p R s m args meth c cc y.cls E NS A nL ret d → zG p l e R s m args below meth c E NS A nL cv ok 0 (lv_args 0 As) [] M o) : zCT l y cc nL ret d E NS A As M cv ok o := by
  intro r M' ho
  refine Met.ofW (cc := cc) (maxL := nL) (ret := ret) hy rfl ?_
  intro p e s m args below meth c s₁ B hml hv
  obtain ⟨rfl, hP, hK, hE⟩ := hv
  have hts := atoms_spec (ws := .code y cc nL ret :: zgw) B.pre
  have C : zCx p (zrm d) s m As.toArray meth c cc y.cls E NS A nL ret d := ⟨B.exec, B.bytes, hml, findClass_of_methodNamed B.named, fun w hw => hts w (List.mem_cons_of_mem _ hw), hK, hE, B.notSynchronized, B.returns, hD, rfl, rfl⟩
  have hl := lv_entry As (n := nL) hlen
  rw [lg_entry_eq]
  exact hk p e (zrm d) s m _ below meth c C r M' ho s.heap [] _ hP va_S.rf hl
theorem zg_callVI {d d2 : Nat} (C : zCx p R s m args meth c cc own E NS A nL ret d) {ok2 : Int32 → Prop} {y : MethodName} {cc2 : ByteArray} {nL2 ix : Nat} {ret2 : Option FieldType} (As : List Value) {b : Addr} {stk : List Value} {o1 : Option (Int32 × zM)} {F : Int32 → zM → Option (α × zM)} (q0 : Nat) (hq : pc + 3 = q0) (hd : decode cc pc = .ok (.invokevirtual ix, 3)) (hM : zCT l y cc2 nL2 ret2 d2 E NS A (.ref b :: As) M zvI ok2 o1) (hs : stk = As.reverse ++ .ref b :: st) (hrec : ∀ (H : Heap) (locs : List Loc), va_P E.1 vwCl (zw E NS M) H → va_S A s.heap H locs → ∃ cellB : Cell, H[b]? = some cellB ∧ cellB.vm.isStatics = false ∧ s.vm.findClass y.cls = some cellB.cls) (hcw : Cond.code y cc2 nL2 ret2 ∈ zgw) (h1 : Cond.methodLink own ix y ∈ zgw) (h2 : Cond.instanceMethod y ∈ zgw) (h3 : Cond.selects y.cls y y ∈ zgw) (h4 : Cond.initialized y.cls ∈ zgw) (hok : zok y As.length) (hr : d2 < d ∧ nL2 ≤ 45) (hst : (st.map fun v => v.category).sum ≤ 8) (kk : ∀ (x : Int32) (M1 : zM), ok2 x → zG p l e R s m args below meth c E NS A nL cv ok q0 ls (.int x :: st) M1 (F x M1)) : zG p l e R s m args below meth c E NS A nL cv ok pc ls stk M (zbnd o1 F) := zg_callV C q0 hq hd hM hs hrec hcw h1 h2 h3 h4 hok hr hst kk
theorem zg_callVL {d d2 : Nat} (C : zCx p R s m args meth c cc own E NS A nL ret d) {ok2 : Int64 → Prop} {y : MethodName} {cc2 : ByteArray} {nL2 ix : Nat} {ret2 : Option FieldType} (As : List Value) {b : Addr} {stk : List Value} {o1 : Option (Int64 × zM)} {F : Int64 → zM → Option (α × zM)} (q0 : Nat) (hq : pc + 3 = q0) (hd : decode cc pc = .ok (.invokevirtual ix, 3)) (hM : zCT l y cc2 nL2 ret2 d2 E NS A (.ref b :: As) M zvL ok2 o1) (hs : stk = As.reverse ++ .ref b :: st) (hrec : ∀ (H : Heap) (locs : List Loc), va_P E.1 vwCl (zw E NS M) H → va_S A s.heap H locs → ∃ cellB : Cell, H[b]? = some cellB ∧ cellB.vm.isStatics = false ∧ s.vm.findClass y.cls = some cellB.cls) (hcw : Cond.code y cc2 nL2 ret2 ∈ zgw) (h1 : Cond.methodLink own ix y ∈ zgw) (h2 : Cond.instanceMethod y ∈ zgw) (h3 : Cond.selects y.cls y y ∈ zgw) (h4 : Cond.initialized y.cls ∈ zgw) (hok : zok y As.length) (hr : d2 < d ∧ nL2 ≤ 45) (hst : (st.map fun v => v.category).sum ≤ 8) (kk : ∀ (x : Int64) (M1 : zM), ok2 x → zG p l e R s m args below meth c E NS A nL cv ok q0 ls (.long x :: st) M1 (F x M1)) : zG p l e R s m args below meth c E NS A nL cv ok pc ls stk M (zbnd o1 F) := zg_callV C q0 hq hd hM hs hrec hcw h1 h2 h3 h4 hok hr hst kk
theorem zg_callVU {d d2 : Nat} (C : zCx p R s m args meth c cc own E NS A nL ret d) {ok2 : Unit → Prop} {y : MethodName} {cc2 : ByteArray} {nL2 ix : Nat} {ret2 : Option FieldType} (As : List Value) {b : Addr} {stk : List Value} {o1 : Option (Unit × zM)} {F : Unit → zM → Option (α × zM)} (q0 : Nat) (hq : pc + 3 = q0) (hd : decode cc pc = .ok (.invokevirtual ix, 3)) (hM : zCT l y cc2 nL2 ret2 d2 E NS A (.ref b :: As) M zvU ok2 o1) (hs : stk = As.reverse ++ .ref b :: st) (hrec : ∀ (H : Heap) (locs : List Loc), va_P E.1 vwCl (zw E NS M) H → va_S A s.heap H locs → ∃ cellB : Cell, H[b]? = some cellB ∧ cellB.vm.isStatics = false ∧ s.vm.findClass y.cls = some cellB.cls) (hcw : Cond.code y cc2 nL2 ret2 ∈ zgw) (h1 : Cond.methodLink own ix y ∈ zgw) (h2 : Cond.instanceMethod y ∈ zgw) (h3 : Cond.selects y.cls y y ∈ zgw) (h4 : Cond.initialized y.cls ∈ zgw) (hok : zok y As.length) (hr : d2 < d ∧ nL2 ≤ 45) (hst : (st.map fun v => v.category).sum ≤ 8) (kk : ∀ (x : Unit) (M1 : zM), ok2 x → zG p l e R s m args below meth c E NS A nL cv ok q0 ls (st) M1 (F x M1)) : zG p l e R s m args below meth c E NS A nL cv ok pc ls stk M (zbnd o1 F) := zg_callV C q0 hq hd hM hs hrec hcw h1 h2 h3 h4 hok hr hst kk
theorem zg_callVR {d d2 : Nat} (C : zCx p R s m args meth c cc own E NS A nL ret d) {k2 : Nat} {ok2 : Nat → Prop} {y : MethodName} {cc2 : ByteArray} {nL2 ix : Nat} {ret2 : Option FieldType} (As : List Value) {b : Addr} {stk : List Value} {o1 : Option (Nat × zM)} {F : Nat → zM → Option (α × zM)} (q0 : Nat) (hq : pc + 3 = q0) (hd : decode cc pc = .ok (.invokevirtual ix, 3)) (hM : zCT l y cc2 nL2 ret2 d2 E NS A (.ref b :: As) M (zvR E k2) ok2 o1) (hs : stk = As.reverse ++ .ref b :: st) (hrec : ∀ (H : Heap) (locs : List Loc), va_P E.1 vwCl (zw E NS M) H → va_S A s.heap H locs → ∃ cellB : Cell, H[b]? = some cellB ∧ cellB.vm.isStatics = false ∧ s.vm.findClass y.cls = some cellB.cls) (hcw : Cond.code y cc2 nL2 ret2 ∈ zgw) (h1 : Cond.methodLink own ix y ∈ zgw) (h2 : Cond.instanceMethod y ∈ zgw) (h3 : Cond.selects y.cls y y ∈ zgw) (h4 : Cond.initialized y.cls ∈ zgw) (hok : zok y As.length) (hr : d2 < d ∧ nL2 ≤ 45) (hst : (st.map fun v => v.category).sum ≤ 8) (kk : ∀ (x : Nat) (M1 : zM), ok2 x → zG p l e R s m args below meth c E NS A nL cv ok q0 ls (.ref (zad E k2 x) :: st) M1 (F x M1)) : zG p l e R s m args below meth c E NS A nL cv ok pc ls stk M (zbnd o1 F) := zg_callV C q0 hq hd hM hs hrec hcw h1 h2 h3 h4 hok hr hst kk
theorem zg_callSI {d d2 : Nat} (C : zCx p R s m args meth c cc own E NS A nL ret d) {ok2 : Int32 → Prop} {y : MethodName} {cc2 : ByteArray} {nL2 ix : Nat} {ret2 : Option FieldType} (As : List Value)  {stk : List Value} {o1 : Option (Int32 × zM)} {F : Int32 → zM → Option (α × zM)} (q0 : Nat) (hq : pc + 3 = q0) (hd : decode cc pc = .ok (.invokestatic ix, 3)) (hM : zCT l y cc2 nL2 ret2 d2 E NS A As M zvI ok2 o1) (hs : stk = As.reverse ++ st) (hcw : Cond.code y cc2 nL2 ret2 ∈ zgw) (h1 : Cond.methodLink own ix y ∈ zgw) (h2 : Cond.static y ∈ zgw) (h4 : Cond.initialized y.cls ∈ zgw) (hok : zok y As.length) (hr : d2 < d ∧ nL2 ≤ 45) (hst : (st.map fun v => v.category).sum ≤ 8) (kk : ∀ (x : Int32) (M1 : zM), ok2 x → zG p l e R s m args below meth c E NS A nL cv ok q0 ls (.int x :: st) M1 (F x M1)) : zG p l e R s m args below meth c E NS A nL cv ok pc ls stk M (zbnd o1 F) := zg_callS C q0 hq hd hM hs hcw h1 h2 h4 hok hr hst kk
theorem zg_callSL {d d2 : Nat} (C : zCx p R s m args meth c cc own E NS A nL ret d) {ok2 : Int64 → Prop} {y : MethodName} {cc2 : ByteArray} {nL2 ix : Nat} {ret2 : Option FieldType} (As : List Value)  {stk : List Value} {o1 : Option (Int64 × zM)} {F : Int64 → zM → Option (α × zM)} (q0 : Nat) (hq : pc + 3 = q0) (hd : decode cc pc = .ok (.invokestatic ix, 3)) (hM : zCT l y cc2 nL2 ret2 d2 E NS A As M zvL ok2 o1) (hs : stk = As.reverse ++ st) (hcw : Cond.code y cc2 nL2 ret2 ∈ zgw) (h1 : Cond.methodLink own ix y ∈ zgw) (h2 : Cond.static y ∈ zgw) (h4 : Cond.initialized y.cls ∈ zgw) (hok : zok y As.length) (hr : d2 < d ∧ nL2 ≤ 45) (hst : (st.map fun v => v.category).sum ≤ 8) (kk : ∀ (x : Int64) (M1 : zM), ok2 x → zG p l e R s m args below meth c E NS A nL cv ok q0 ls (.long x :: st) M1 (F x M1)) : zG p l e R s m args below meth c E NS A nL cv ok pc ls stk M (zbnd o1 F) := zg_callS C q0 hq hd hM hs hcw h1 h2 h4 hok hr hst kk
theorem zg_callSU {d d2 : Nat} (C : zCx p R s m args meth c cc own E NS A nL ret d) {ok2 : Unit → Prop} {y : MethodName} {cc2 : ByteArray} {nL2 ix : Nat} {ret2 : Option FieldType} (As : List Value)  {stk : List Value} {o1 : Option (Unit × zM)} {F : Unit → zM → Option (α × zM)} (q0 : Nat) (hq : pc + 3 = q0) (hd : decode cc pc = .ok (.invokestatic ix, 3)) (hM : zCT l y cc2 nL2 ret2 d2 E NS A As M zvU ok2 o1) (hs : stk = As.reverse ++ st) (hcw : Cond.code y cc2 nL2 ret2 ∈ zgw) (h1 : Cond.methodLink own ix y ∈ zgw) (h2 : Cond.static y ∈ zgw) (h4 : Cond.initialized y.cls ∈ zgw) (hok : zok y As.length) (hr : d2 < d ∧ nL2 ≤ 45) (hst : (st.map fun v => v.category).sum ≤ 8) (kk : ∀ (x : Unit) (M1 : zM), ok2 x → zG p l e R s m args below meth c E NS A nL cv ok q0 ls (st) M1 (F x M1)) : zG p l e R s m args below meth c E NS A nL cv ok pc ls stk M (zbnd o1 F) := zg_callS C q0 hq hd hM hs hcw h1 h2 h4 hok hr hst kk
theorem zg_callSR {d d2 : Nat} (C : zCx p R s m args meth c cc own E NS A nL ret d) {k2 : Nat} {ok2 : Nat → Prop} {y : MethodName} {cc2 : ByteArray} {nL2 ix : Nat} {ret2 : Option FieldType} (As : List Value)  {stk : List Value} {o1 : Option (Nat × zM)} {F : Nat → zM → Option (α × zM)} (q0 : Nat) (hq : pc + 3 = q0) (hd : decode cc pc = .ok (.invokestatic ix, 3)) (hM : zCT l y cc2 nL2 ret2 d2 E NS A As M (zvR E k2) ok2 o1) (hs : stk = As.reverse ++ st) (hcw : Cond.code y cc2 nL2 ret2 ∈ zgw) (h1 : Cond.methodLink own ix y ∈ zgw) (h2 : Cond.static y ∈ zgw) (h4 : Cond.initialized y.cls ∈ zgw) (hok : zok y As.length) (hr : d2 < d ∧ nL2 ≤ 45) (hst : (st.map fun v => v.category).sum ≤ 8) (kk : ∀ (x : Nat) (M1 : zM), ok2 x → zG p l e R s m args below meth c E NS A nL cv ok q0 ls (.ref (zad E k2 x) :: st) M1 (F x M1)) : zG p l e R s m args below meth c E NS A nL cv ok pc ls stk M (zbnd o1 F) := zg_callS C q0 hq hd hM hs hcw h1 h2 h4 hok hr hst kk
theorem zg_callNI {d d2 : Nat} (C : zCx p R s m args meth c cc own E NS A nL ret d) {ok2 : Int32 → Prop} {y : MethodName} {cc2 : ByteArray} {nL2 ix : Nat} {ret2 : Option FieldType} (As : List Value)  {stk : List Value} {o1 : Option (Int32 × zM)} {F : Int32 → zM → Option (α × zM)} (q0 : Nat) (hq : pc + 3 = q0) (hd : decode cc pc = .ok (.invokestatic ix, 3)) (hM : zCT l y cc2 nL2 ret2 d2 E NS A As M zvI ok2 o1) (hs : stk = As.reverse ++ st) (hcw : Cond.code y cc2 nL2 ret2 ∈ zgw) (h1 : (own, ix, y) ∈ znM) (h2 : Cond.static y ∈ zgw) (h4 : Cond.initialized y.cls ∈ zgw) (hok : zok y As.length) (hr : d2 < d ∧ nL2 ≤ 45) (hst : (st.map fun v => v.category).sum ≤ 8) (kk : ∀ (x : Int32) (M1 : zM), ok2 x → zG p l e R s m args below meth c E NS A nL cv ok q0 ls (.int x :: st) M1 (F x M1)) : zG p l e R s m args below meth c E NS A nL cv ok pc ls stk M (zbnd o1 F) := zg_callN C q0 hq hd hM hs hcw h1 h2 h4 hok hr hst kk
theorem zg_callNL {d d2 : Nat} (C : zCx p R s m args meth c cc own E NS A nL ret d) {ok2 : Int64 → Prop} {y : MethodName} {cc2 : ByteArray} {nL2 ix : Nat} {ret2 : Option FieldType} (As : List Value)  {stk : List Value} {o1 : Option (Int64 × zM)} {F : Int64 → zM → Option (α × zM)} (q0 : Nat) (hq : pc + 3 = q0) (hd : decode cc pc = .ok (.invokestatic ix, 3)) (hM : zCT l y cc2 nL2 ret2 d2 E NS A As M zvL ok2 o1) (hs : stk = As.reverse ++ st) (hcw : Cond.code y cc2 nL2 ret2 ∈ zgw) (h1 : (own, ix, y) ∈ znM) (h2 : Cond.static y ∈ zgw) (h4 : Cond.initialized y.cls ∈ zgw) (hok : zok y As.length) (hr : d2 < d ∧ nL2 ≤ 45) (hst : (st.map fun v => v.category).sum ≤ 8) (kk : ∀ (x : Int64) (M1 : zM), ok2 x → zG p l e R s m args below meth c E NS A nL cv ok q0 ls (.long x :: st) M1 (F x M1)) : zG p l e R s m args below meth c E NS A nL cv ok pc ls stk M (zbnd o1 F) := zg_callN C q0 hq hd hM hs hcw h1 h2 h4 hok hr hst kk
theorem zg_callNU {d d2 : Nat} (C : zCx p R s m args meth c cc own E NS A nL ret d) {ok2 : Unit → Prop} {y : MethodName} {cc2 : ByteArray} {nL2 ix : Nat} {ret2 : Option FieldType} (As : List Value)  {stk : List Value} {o1 : Option (Unit × zM)} {F : Unit → zM → Option (α × zM)} (q0 : Nat) (hq : pc + 3 = q0) (hd : decode cc pc = .ok (.invokestatic ix, 3)) (hM : zCT l y cc2 nL2 ret2 d2 E NS A As M zvU ok2 o1) (hs : stk = As.reverse ++ st) (hcw : Cond.code y cc2 nL2 ret2 ∈ zgw) (h1 : (own, ix, y) ∈ znM) (h2 : Cond.static y ∈ zgw) (h4 : Cond.initialized y.cls ∈ zgw) (hok : zok y As.length) (hr : d2 < d ∧ nL2 ≤ 45) (hst : (st.map fun v => v.category).sum ≤ 8) (kk : ∀ (x : Unit) (M1 : zM), ok2 x → zG p l e R s m args below meth c E NS A nL cv ok q0 ls (st) M1 (F x M1)) : zG p l e R s m args below meth c E NS A nL cv ok pc ls stk M (zbnd o1 F) := zg_callN C q0 hq hd hM hs hcw h1 h2 h4 hok hr hst kk
theorem zg_callNR {d d2 : Nat} (C : zCx p R s m args meth c cc own E NS A nL ret d) {k2 : Nat} {ok2 : Nat → Prop} {y : MethodName} {cc2 : ByteArray} {nL2 ix : Nat} {ret2 : Option FieldType} (As : List Value)  {stk : List Value} {o1 : Option (Nat × zM)} {F : Nat → zM → Option (α × zM)} (q0 : Nat) (hq : pc + 3 = q0) (hd : decode cc pc = .ok (.invokestatic ix, 3)) (hM : zCT l y cc2 nL2 ret2 d2 E NS A As M (zvR E k2) ok2 o1) (hs : stk = As.reverse ++ st) (hcw : Cond.code y cc2 nL2 ret2 ∈ zgw) (h1 : (own, ix, y) ∈ znM) (h2 : Cond.static y ∈ zgw) (h4 : Cond.initialized y.cls ∈ zgw) (hok : zok y As.length) (hr : d2 < d ∧ nL2 ≤ 45) (hst : (st.map fun v => v.category).sum ≤ 8) (kk : ∀ (x : Nat) (M1 : zM), ok2 x → zG p l e R s m args below meth c E NS A nL cv ok q0 ls (.ref (zad E k2 x) :: st) M1 (F x M1)) : zG p l e R s m args below meth c E NS A nL cv ok pc ls stk M (zbnd o1 F) := zg_callN C q0 hq hd hM hs hcw h1 h2 h4 hok hr hst kk
theorem zg_jn {β : Type} {f : β} {g : β → Option (α × zM)} (P : β → Prop) (hf : P f) (hg : ∀ j : β, P j → zG p l e R s m args below meth c E NS A nL cv ok pc ls st M (g j)) : zG p l e R s m args below meth c E NS A nL cv ok pc ls st M (zjn f g) := hg f hf
theorem zg_tb {d : Nat} (C : zCx p R s m args meth c cc own E NS A nL ret d) {t : Nat} {x : Int32} (q0 : Nat) (hq : pc + 1 = q0) (ht : t < 4) (hd : decode cc pc = .ok (.baload, 1)) (kk : zG p l e R s m args below meth c E NS A nL cv ok q0 ls (.int ((zbyt.getD t []).getD x.toNatClampNeg 0) :: st) M o) : zG p l e R s m args below meth c E NS A nL cv ok pc ls (.int x :: .ref (zsv E t) :: st) M (zchk (zin x (zlen.getD t 0)) o) := by
  subst hq
  intro r M2 ho H locs la hP hS hl
  obtain ⟨h1, h2⟩ := zchk_some ho
  exact va_tb C.1 C.2.1 (C.2.2.2.2.2.2.1.2.2.2.1.1 t ht).2.2.2 hS (zin_vp h1) rfl hd (kk r M2 h2 H locs la hP hS hl)
theorem zg_tlen {d : Nat} (C : zCx p R s m args meth c cc own E NS A nL ret d) {t : Nat} (q0 : Nat) (hq : pc + 1 = q0) (ht : t < 4) (hd : decode cc pc = .ok (.arraylength, 1)) (kk : zG p l e R s m args below meth c E NS A nL cv ok q0 ls (.int (nI (zlen.getD t 0)) :: st) M o) : zG p l e R s m args below meth c E NS A nL cv ok pc ls (.ref (zsv E t) :: st) M o := by
  subst hq
  intro r M2 ho H locs la hP hS hl
  exact va_tlen C.1 C.2.1 (C.2.2.2.2.2.2.1.2.2.2.1.1 t ht).2.2.2 hS rfl hd (kk r M2 ho H locs la hP hS hl)
theorem zg_getO {d : Nat} (C : zCx p R s m args meth c cc "java/lang/String" E NS A nL ret d) {ix : Nat} (q0 : Nat) (hq : pc + 3 = q0) (hd : decode cc pc = .ok (.getstatic ix, 3)) (hlk : Cond.fieldLink "java/lang/String" ix "jdk/internal/util/Preconditions" "SIOOBE_FORMATTER" "Ljava/util/function/BiFunction;" ∈ zgw) (kk : ∀ t : Option Nat, zG p l e R s m args below meth c E NS A nL cv ok q0 ls (va_rf t :: st) M o) : zG p l e R s m args below meth c E NS A nL cv ok pc ls st M o := by
  subst hq
  intro r M2 ho H locs la hP hS hl
  obtain ⟨t, ht⟩ := C.2.2.2.2.2.2.1.2.2.1
  exact va_gets C.1 C.2.1 ht hS C.2.2.2.1 (C.2.2.2.2.1 _ hlk) (fun _ h => h) hd (kk t r M2 ho H locs la hP hS hl)
theorem zg_mmax {d : Nat} (C : zCx p R s m args meth c cc own E NS A nL ret d) {x y : Int32} {ix : Nat} (q0 : Nat) (hq : pc + 3 = q0) (hd : decode cc pc = .ok (.invokestatic ix, 3)) (h1 : Cond.methodLink own ix Lib.Math.max.name ∈ zgw) (h2 : Cond.static Lib.Math.max.name ∈ zgw) (h3 : Cond.initialized "java/lang/Math" ∈ zgw) (h4 : Cond.code Lib.Math.max.name Lib.Math.max.code 2 (some .int) ∈ zgw) (hdd : 2 ≤ d) (hst : (st.map fun v => v.category).sum + 13 ≤ 128) (kk : zG p l e R s m args below meth c E NS A nL cv ok q0 ls (.int (if x < y then y else x) :: st) M o) : zG p l e R s m args below meth c E NS A nL cv ok pc ls (.int y :: .int x :: st) M o := by
  subst hq
  intro r M2 ho H locs la hP hS hl
  have hR := C.2.2.2.2.2.2.2.2.2.2
  exact va_mmax C.1 C.2.1 (C.2.2.1.trans hl.1.symm) C.2.2.2.1 (C.2.2.2.2.1 _ h1) (C.2.2.2.2.1 _ h2) (C.2.2.2.2.1 _ h3) (C.2.2.2.2.1 _ h4) (by rw [hR.1]; omega) (by rw [hR.2]; omega) (Nat.zero_le _) (Nat.zero_le _) hd (kk r M2 ho H locs la hP hS hl)
theorem zwmmax : Cond.code Lib.Math.max.name Lib.Math.max.code 2 (some .int) ∈ zgw := zgm 515 (by decide +kernel) rfl
theorem zg_mmin {d : Nat} (C : zCx p R s m args meth c cc own E NS A nL ret d) {x y : Int32} {ix : Nat} (q0 : Nat) (hq : pc + 3 = q0) (hd : decode cc pc = .ok (.invokestatic ix, 3)) (h1 : Cond.methodLink own ix Lib.Math.min.name ∈ zgw) (h2 : Cond.static Lib.Math.min.name ∈ zgw) (h3 : Cond.initialized "java/lang/Math" ∈ zgw) (h4 : Cond.code Lib.Math.min.name Lib.Math.min.code 2 (some .int) ∈ zgw) (hdd : 2 ≤ d) (hst : (st.map fun v => v.category).sum + 13 ≤ 128) (kk : zG p l e R s m args below meth c E NS A nL cv ok q0 ls (.int (if y < x then y else x) :: st) M o) : zG p l e R s m args below meth c E NS A nL cv ok pc ls (.int y :: .int x :: st) M o := by
  subst hq
  intro r M2 ho H locs la hP hS hl
  have hR := C.2.2.2.2.2.2.2.2.2.2
  exact va_mmin C.1 C.2.1 (C.2.2.1.trans hl.1.symm) C.2.2.2.1 (C.2.2.2.2.1 _ h1) (C.2.2.2.2.1 _ h2) (C.2.2.2.2.1 _ h3) (C.2.2.2.2.1 _ h4) (by rw [hR.1]; omega) (by rw [hR.2]; omega) (Nat.zero_le _) (Nat.zero_le _) hd (kk r M2 ho H locs la hP hS hl)
theorem zwmmin : Cond.code Lib.Math.min.name Lib.Math.min.code 2 (some .int) ∈ zgw := zgm 518 (by decide +kernel) rfl
end zS
