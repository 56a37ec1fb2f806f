/-- from M to M' the bodies l are noted from the k-th on -/
def TR (kc ic kt : Nat) (M M' : zM) (k : Nat) (l : List Nat) : Prop := M'.2 = M.2 ∧ M'.1 kc 0 ic = nI (k + l.length) ∧ (∀ j, j < l.length → M'.1 kt 0 (k + j) = nI (l.getD j 0)) ∧ ∀ a b j, ¬ (a = kc ∧ b = 0 ∧ j = ic) → ¬ (a = kt ∧ b = 0 ∧ k ≤ j ∧ j < k + l.length) → M'.1 a b j = M.1 a b j
theorem TR_nil {kc ic kt : Nat} {M : zM} {k : Nat} (h : M.1 kc 0 ic = nI k) : TR kc ic kt M M k [] := ⟨rfl, h, fun j hj => absurd hj (Nat.not_lt_zero _), fun _ _ _ _ _ => rfl⟩
theorem TR_one {kc ic kt : Nat} (M : zM) (k b : Nat) (h : kt ≠ kc) : TR kc ic kt M (zset (zset M kt 0 k (nI b)) kc 0 ic (nI (k + 1))) k [b] := by
  refine ⟨rfl, zg_e (by omega), fun j hj => ?_, fun a b' j h1 h2 => ?_⟩
  · have : j = 0 := by have : j < 1 := hj; omega
    subst this
    rw [zg_n (by omega), zg_e (by omega)]
    rfl
  · have h3 : ¬ (a = kt ∧ b' = 0 ∧ k ≤ j ∧ j < k + 1) := h2
    rw [zg_n (by omega), zg_n (by omega)]
theorem getD_l {l1 l2 : List Nat} {j : Nat} (h : j < l1.length) : (l1 ++ l2).getD j 0 = l1.getD j 0 := by
  rw [List.getD_eq_getElem?_getD, List.getD_eq_getElem?_getD, List.getElem?_append_left h]
theorem getD_r {l1 l2 : List Nat} {j : Nat} (h : l1.length ≤ j) : (l1 ++ l2).getD j 0 = l2.getD (j - l1.length) 0 := by
  rw [List.getD_eq_getElem?_getD, List.getD_eq_getElem?_getD, List.getElem?_append_right h]
theorem TR_app {kc ic kt : Nat} {M M1 M2 : zM} {k : Nat} {l1 l2 : List Nat} (hk : kt ≠ kc) (h1 : TR kc ic kt M M1 k l1) (h2 : TR kc ic kt M1 M2 (k + l1.length) l2) : TR kc ic kt M M2 k (l1 ++ l2) := by
  obtain ⟨a1, a2, a3, a4⟩ := h1
  obtain ⟨b1, b2, b3, b4⟩ := h2
  have e : (l1 ++ l2).length = l1.length + l2.length := List.length_append
  refine ⟨b1.trans a1, by rw [b2, e, Nat.add_assoc], fun j hj => ?_, fun a b j h1 h2 => ?_⟩
  · rw [e] at hj
    rcases Nat.lt_or_ge j l1.length with g | g
    · rw [b4 _ _ _ (by omega) (by omega), a3 j g, getD_l g]
    · have := b3 (j - l1.length) (by omega)
      rw [show k + l1.length + (j - l1.length) = k + j by omega] at this
      rw [this, getD_r g]
  · rw [e] at h2
    rw [b4 _ _ _ h1 (by omega), a4 _ _ _ h1 (by omega)]
/-- what the person in r is, and how many bodies ran -/
def PS (r K : Nat) (i v : Int32) (M : zM) (k : Nat) : Prop := M.1 25 0 1 = nI k ∧ M.1 2 r 0 = i ∧ M.1 2 r 1 = nI K ∧ M.1 2 r 2 = v
theorem PS_TR {r K : Nat} {i v : Int32} {M M' : zM} {k : Nat} {l : List Nat} (h : PS r K i v M k) (t : TR 25 1 26 M M' k l) : PS r K i v M' (k + l.length) := by
  obtain ⟨h1, h2, h3, h4⟩ := h
  obtain ⟨t1, t2, t3, t4⟩ := t
  exact ⟨t2, by rw [t4 _ _ _ (by omega) (by omega), h2], by rw [t4 _ _ _ (by omega) (by omega), h3], by rw [t4 _ _ _ (by omega) (by omega), h4]⟩
def CP (r K : Nat) (i v : Int32) (f a D : Nat) (val : Int32 → Int32) (l : List Nat) : Prop := ∀ (n : Nat) (M : zM) (k d : Nat) (x : Int32), 2 * D ≤ n → d + D ≤ 40 → k + l.length ≤ 20 → PS r K i v M k → ∃ M', (qA_rec n).1 M r (nI f) (nI a) x (nI d) = some (val x, M') ∧ TR 25 1 26 M M' k l
def BP (r K : Nat) (i v : Int32) (b : Nat) (ab : Int32) (D : Nat) (val : Int32 → Int32) (l : List Nat) : Prop := ∀ (n : Nat) (M : zM) (k d : Nat) (x : Int32), 2 * D + 1 ≤ n → d + D ≤ 40 → k + l.length ≤ 20 → PS r K i v M k → ∃ M', (qA_rec n).2 M (nI b) r ab x (nI d) = some (val x, M') ∧ TR 25 1 26 M M' k l
theorem zbnd_eta {α : Type} (o : Option (α × zM)) : (zbnd o fun x M => some (x, M)) = o := by
  cases o with
  | none => rfl
  | some p => rfl
theorem pfin_e {B : zM → Int32 → Nat → Int32 → Int32 → Int32 → Option (Int32 × zM)} {M : zM} {r k b d : Nat} {ab x : Int32} (h : M.1 25 0 1 = nI k) (hk : k < 20) (hd : d ≤ 40) : pfin B M r (nI b) ab x (nI d) = B (zset (zset M 26 0 k (nI b)) 25 0 1 (nI (k + 1))) (nI b) r ab x (nI (d + 1)) := by
  unfold pfin
  simp only [zl0, zl1, zl2, zl3, zl4, zl5, zl6, zl7, zl8, zl9, zl10, zl11, zl12, zl13, zl14, zl16, zl18, zl19, zl20, zl22, zl24, zl30, zl32, zl33, zl36, zl38, zl40, zl41, zl48, zl50, zl51, zl57, zl59, zl60, zl61, zl62, zl70, zl71, zl99, zl100, zl103, zl104, zl105, zl106, zl107, zl108, zl109, zl110, zl111, zl112, zl113, zl114, zl115, zl116, zl124, zl127, zl255, zl999, zl1000, zl1001, zl1002, zl1003]
  rw [if_pos (nI_le hd (by omega)), zjn_e, h, if_neg (nI_ge hk (by omega)), zchk_e (ze_in hk (by omega)), znm_e]
  simp only [znm_e, zbnd_eta]
  rw [ze_cl (by omega), zg_n (by omega), h, ze_add, ze_add]
theorem CP_step {r K : Nat} {i v : Int32} {f a b D : Nat} {ab : Int32} {val : Int32 → Int32} {l : List Nat} (hp : ∀ n M x d, (qA_rec (n + 1)).1 M r (nI f) (nI a) x d = pfin (qA_rec n).2 M r (nI b) ab x d) (h : BP r K i v b ab D val l) : CP r K i v f a (D + 1) val (b :: l) := by
  intro n M k d x hn hd hk hs
  obtain ⟨n, rfl⟩ : ∃ n', n = n' + 1 := ⟨n - 1, by omega⟩
  have e : (b :: l).length = l.length + 1 := rfl
  rw [e] at hk
  have t := TR_one (kc := 25) (ic := 1) (kt := 26) M k b (by omega)
  obtain ⟨M', g1, g2⟩ := h n _ (k + 1) (d + 1) x (by omega) (by omega) (by omega) (PS_TR hs t)
  refine ⟨M', ?_, TR_app (l1 := [b]) (by omega) t g2⟩
  rw [hp, pfin_e hs.1 (by omega) (by omega), g1]
theorem B10 {r K : Nat} {i v : Int32} (ab : Int32) : BP r K i v 10 ab 0 (fun x => x + i) [] := by
  intro n M k d x hn hd hk hs
  obtain ⟨n, rfl⟩ : ∃ n', n = n' + 1 := ⟨n - 1, by omega⟩
  exact ⟨M, by rw [bd_10, hs.2.1], TR_nil hs.1⟩
theorem B11 {r K : Nat} {i v : Int32} {D : Nat} {val : Int32 → Int32} {l : List Nat} (ab : Int32) (h : CP r K i v K 0 D val l) : BP r K i v 11 ab D (fun x => val x - v) l := by
  intro n M k d x hn hd hk hs
  obtain ⟨n, rfl⟩ : ∃ n', n = n' + 1 := ⟨n - 1, by omega⟩
  obtain ⟨M', g1, g2⟩ := h n M k d x (by omega) (by omega) hk hs
  exact ⟨M', by rw [bd_11, hs.2.2.1, g1, zbnd_s, (PS_TR hs g2).2.2.2], g2⟩
theorem B12 {r K : Nat} {i v : Int32} {D : Nat} {val : Int32 → Int32} {l : List Nat} (ab : Int32) (h : CP r K i v K 1 D val l) : BP r K i v 12 ab D (fun x => val x * nI 2) l := by
  intro n M k d x hn hd hk hs
  obtain ⟨n, rfl⟩ : ∃ n', n = n' + 1 := ⟨n - 1, by omega⟩
  obtain ⟨M', g1, g2⟩ := h n M k d x (by omega) (by omega) hk hs
  exact ⟨M', by rw [bd_12, hs.2.2.1, g1, zbnd_s], g2⟩
theorem B20 {r K : Nat} {i v : Int32} {D f : Nat} {val : Int32 → Int32} {l : List Nat} (h : CP r K i v f 1 D val l) : BP r K i v 20 (nI f) D (fun x => val x ^^^ nI 6) l := by
  intro n M k d x hn hd hk hs
  obtain ⟨n, rfl⟩ : ∃ n', n = n' + 1 := ⟨n - 1, by omega⟩
  obtain ⟨M', g1, g2⟩ := h n M k d x (by omega) (by omega) hk hs
  exact ⟨M', by rw [bd_20, g1, zbnd_s], g2⟩
theorem B30 {r K : Nat} {i v : Int32} {D f : Nat} {val : Int32 → Int32} {l : List Nat} (h : CP r K i v f 0 D val l) : BP r K i v 30 (nI f) D (fun x => val (x * nI 3)) l := by
  intro n M k d x hn hd hk hs
  obtain ⟨n, rfl⟩ : ∃ n', n = n' + 1 := ⟨n - 1, by omega⟩
  obtain ⟨M', g1, g2⟩ := h n M k d (x * nI 3) (by omega) (by omega) hk hs
  exact ⟨M', by rw [bd_30, g1, zbnd_s], g2⟩
theorem B50 {r K : Nat} {i v : Int32} {D f : Nat} {val : Int32 → Int32} {l : List Nat} (h : CP r K i v f 0 D val l) : BP r K i v 50 (nI f) D (fun x => - val x) l := by
  intro n M k d x hn hd hk hs
  obtain ⟨n, rfl⟩ : ∃ n', n = n' + 1 := ⟨n - 1, by omega⟩
  obtain ⟨M', g1, g2⟩ := h n M k d x (by omega) (by omega) hk hs
  exact ⟨M', by rw [bd_50, g1, zbnd_s], g2⟩
theorem B51 {r K : Nat} {i v : Int32} {D f : Nat} {val : Int32 → Int32} {l : List Nat} (h : CP r K i v f 1 D val l) : BP r K i v 51 (nI f) D (fun x => val (x + nI 1)) l := by
  intro n M k d x hn hd hk hs
  obtain ⟨n, rfl⟩ : ∃ n', n = n' + 1 := ⟨n - 1, by omega⟩
  obtain ⟨M', g1, g2⟩ := h n M k d (x + nI 1) (by omega) (by omega) hk hs
  exact ⟨M', by rw [bd_51, g1, zbnd_s], g2⟩
theorem B60 {r K : Nat} {i v : Int32} {D f : Nat} {val : Int32 → Int32} {l : List Nat} (h : CP r K i v f 2 D val l) : BP r K i v 60 (nI f) D (fun x => val (x - i)) l := by
  intro n M k d x hn hd hk hs
  obtain ⟨n, rfl⟩ : ∃ n', n = n' + 1 := ⟨n - 1, by omega⟩
  obtain ⟨M', g1, g2⟩ := h n M k d (x - i) (by omega) (by omega) hk hs
  exact ⟨M', by rw [bd_60, hs.2.1, g1, zbnd_s], g2⟩
theorem B71 {r K : Nat} {i v : Int32} {D f : Nat} {val : Int32 → Int32} {l : List Nat} (h : CP r K i v f 0 D val l) : BP r K i v 71 (nI f) D (fun x => val x ^^^ v) l := by
  intro n M k d x hn hd hk hs
  obtain ⟨n, rfl⟩ : ∃ n', n = n' + 1 := ⟨n - 1, by omega⟩
  obtain ⟨M', g1, g2⟩ := h n M k d x (by omega) (by omega) hk hs
  exact ⟨M', by rw [bd_71, g1, zbnd_s, (PS_TR hs g2).2.2.2], g2⟩
theorem B40 {r K : Nat} {i v : Int32} {D f : Nat} {v1 v2 : Int32 → Int32} {l1 l2 : List Nat} (h1 : CP r K i v f 2 D v1 l1) (h2 : CP r K i v K 1 D v2 l2) : BP r K i v 40 (nI f) D (fun x => v1 x + v2 (nI 1)) (l1 ++ l2) := by
  intro n M k d x hn hd hk hs
  obtain ⟨n, rfl⟩ : ∃ n', n = n' + 1 := ⟨n - 1, by omega⟩
  rw [List.length_append] at hk
  obtain ⟨M1, g1, g2⟩ := h1 n M k d x (by omega) (by omega) (by omega) hs
  have hs1 := PS_TR hs g2
  obtain ⟨M2, g3, g4⟩ := h2 n M1 (k + l1.length) d (nI 1) (by omega) (by omega) (by omega) hs1
  exact ⟨M2, by rw [bd_40, g1, zbnd_s, hs1.2.2.1, g3, zbnd_s], TR_app (by omega) g2 g4⟩
theorem B70 {r K : Nat} {i v : Int32} {D f : Nat} {v1 v2 : Int32 → Int32} {l1 l2 : List Nat} (h1 : CP r K i v f 1 D v1 l1) (h2 : CP r K i v f 0 D v2 l2) : BP r K i v 70 (nI f) D (fun x => v1 x + v2 (nI 2)) (l1 ++ l2) := by
  intro n M k d x hn hd hk hs
  obtain ⟨n, rfl⟩ : ∃ n', n = n' + 1 := ⟨n - 1, by omega⟩
  rw [List.length_append] at hk
  obtain ⟨M1, g1, g2⟩ := h1 n M k d x (by omega) (by omega) (by omega) hs
  have hs1 := PS_TR hs g2
  obtain ⟨M2, g3, g4⟩ := h2 n M1 (k + l1.length) d (nI 2) (by omega) (by omega) (by omega) hs1
  exact ⟨M2, by rw [bd_70, g1, zbnd_s, g3, zbnd_s], TR_app (by omega) g2 g4⟩
theorem CP_mono {r K : Nat} {i v : Int32} {f a D D' : Nat} {val : Int32 → Int32} {l : List Nat} (hD : D ≤ D') (h : CP r K i v f a D val l) : CP r K i v f a D' val l :=
  fun n M k d x hn hd hk hs => h n M k d x (by omega) (by omega) hk hs
/-- what a kind's DOUBTS are worth, and which bodies run -/
def dV (f : Nat) (i v x : Int32) : Int32 := if f = 2 ∨ f = 5 then x * nI 3 + i else if f = 4 then -(x + i) else if f = 6 then (x + i) ^^^ v else x + i
def dL (f : Nat) : List Nat := if f = 2 ∨ f = 5 then [30, 10] else if f = 4 then [50, 10] else if f = 6 then [71, 10] else [10]
def ggV (K : Nat) (i v x : Int32) : Int32 := dV K i v x - v
def gV (f K : Nat) (i v x : Int32) : Int32 := if f = 1 then ggV K i v x ^^^ nI 6 else if f = 4 then ggV K i v (x + nI 1) ^^^ nI 6 else if f = 6 then ggV K i v x + (nI 2 + i) else ggV K i v x
def gL (f K : Nat) : List Nat := if f = 1 then 20 :: 11 :: dL K else if f = 4 then 51 :: 20 :: 11 :: dL K else if f = 6 then 70 :: (11 :: dL K ++ [10]) else 11 :: dL K
def ttV (K : Nat) (i v x : Int32) : Int32 := gV K K i v x * nI 2
def tV (f K : Nat) (i v x : Int32) : Int32 := if f = 3 ∨ f = 6 then ttV K i v x + gV K K i v (nI 1) else if f = 5 then ttV K i v (x - i) else ttV K i v x
def tL (f K : Nat) : List Nat := if f = 3 ∨ f = 6 then 40 :: ((12 :: gL K K) ++ gL K K) else if f = 5 then 60 :: 12 :: gL K K else 12 :: gL K K
theorem cD {r K f : Nat} {i v : Int32} (hf : f < 7) : CP r K i v f 0 2 (dV f i v) (dL f) := by
  have g : CP r K i v 0 0 1 (fun x => x + i) [10] := CP_step (pf_0_0 · · r · ·) (B10 _)
  rcases (show f = 0 ∨ f = 1 ∨ f = 2 ∨ f = 3 ∨ f = 4 ∨ f = 5 ∨ f = 6 by omega) with rfl | rfl | rfl | rfl | rfl | rfl | rfl
  · exact CP_mono (by omega) g
  · exact CP_mono (by omega) (CP_step (pf_0_1 · · r · ·) (B10 _) : CP r K i v 1 0 1 (fun x => x + i) [10])
  · exact CP_step (pf_0_2 · · r · ·) (B30 g)
  · exact CP_mono (by omega) (CP_step (pf_0_3 · · r · ·) (B10 _) : CP r K i v 3 0 1 (fun x => x + i) [10])
  · exact CP_step (pf_0_4 · · r · ·) (B50 (CP_step (pf_0_1 · · r · ·) (B10 _) : CP r K i v 1 0 1 (fun x => x + i) [10]))
  · exact CP_step (pf_0_5 · · r · ·) (B30 (CP_step (pf_0_0 · · r · ·) (B10 _) : CP r K i v 0 0 1 (fun x => x + i) [10]))
  · exact CP_step (pf_0_6 · · r · ·) (B71 (CP_step (pf_0_3 · · r · ·) (B10 _) : CP r K i v 3 0 1 (fun x => x + i) [10]))
