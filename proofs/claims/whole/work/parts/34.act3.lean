theorem cG {r K f : Nat} {i v : Int32} (hK : K < 7) (hf : f < 7) : CP r K i v f 1 5 (gV f K i v) (gL f K) := by
  have d := cD (r := r) (K := K) (i := i) (v := v) hK
  have g : ∀ f, f = 0 ∨ f = 2 ∨ f = 3 ∨ f = 5 → CP r K i v f 1 3 (ggV K i v) (11 :: dL K) := by
    intro f hf
    rcases hf with rfl | rfl | rfl | rfl
    · exact CP_step (pf_1_0 · · r · ·) (B11 _ d)
    · exact CP_step (pf_1_2 · · r · ·) (B11 _ d)
    · exact CP_step (pf_1_3 · · r · ·) (B11 _ d)
    · exact CP_step (pf_1_5 · · r · ·) (B11 _ d)
  have r1 : CP r K i v 1 1 4 (fun x => ggV K i v x ^^^ nI 6) (20 :: 11 :: dL K) := CP_step (pf_1_1 · · r · ·) (B20 (g 0 (by omega)))
  rcases (show f = 0 ∨ f = 1 ∨ f = 2 ∨ f = 3 ∨ f = 4 ∨ f = 5 ∨ f = 6 by omega) with rfl | rfl | rfl | rfl | rfl | rfl | rfl
  · exact CP_mono (by omega) (g 0 (by omega))
  · exact CP_mono (by omega) r1
  · exact CP_mono (by omega) (g 2 (by omega))
  · exact CP_mono (by omega) (g 3 (by omega))
  · exact CP_step (pf_1_4 · · r · ·) (B51 r1)
  · exact CP_mono (by omega) (g 5 (by omega))
  · exact CP_mono (by omega) (CP_step (pf_1_6 · · r · ·) (B70 (g 3 (by omega)) (CP_mono (show 2 ≤ 3 by omega) (cD (r := r) (K := K) (i := i) (v := v) (f := 3) (by omega)))))
theorem cT {r K f : Nat} {i v : Int32} (hK : K < 7) (hf : f < 7) : CP r K i v f 2 7 (tV f K i v) (tL f K) := by
  have g := cG (r := r) (K := K) (i := i) (v := v) hK hK
  have t : ∀ f, f = 0 ∨ f = 1 ∨ f = 2 ∨ f = 4 → CP r K i v f 2 6 (ttV K i v) (12 :: gL K K) := by
    intro f hf
    rcases hf with rfl | rfl | rfl | rfl
    · exact CP_step (pf_2_0 · · r · ·) (B12 _ g)
    · exact CP_step (pf_2_1 · · r · ·) (B12 _ g)
    · exact CP_step (pf_2_2 · · r · ·) (B12 _ g)
    · exact CP_step (pf_2_4 · · r · ·) (B12 _ g)
  rcases (show f = 0 ∨ f = 1 ∨ f = 2 ∨ f = 3 ∨ f = 4 ∨ f = 5 ∨ f = 6 by omega) with rfl | rfl | rfl | rfl | rfl | rfl | rfl
  · exact CP_mono (by omega) (t 0 (by omega))
  · exact CP_mono (by omega) (t 1 (by omega))
  · exact CP_mono (by omega) (t 2 (by omega))
  · exact CP_step (pf_2_3 · · r · ·) (B40 (t 0 (by omega)) (CP_mono (by omega) g))
  · exact CP_mono (by omega) (t 4 (by omega))
  · exact CP_step (pf_2_5 · · r · ·) (B60 (t 2 (by omega)))
  · exact CP_step (pf_2_6 · · r · ·) (B40 (t 0 (by omega)) (CP_mono (by omega) g))
/-- the reference -/
def MS (p K : Nat) (v : Int32) (M : zM) (k : Nat) : Prop := M.1 40 0 59 = nI k ∧ M.1 41 0 p = nI K ∧ M.1 42 0 p = v
theorem MS_TR {p K : Nat} {v : Int32} {M M' : zM} {k : Nat} {l : List Nat} (h : MS p K v M k) (t : TR 40 59 81 M M' k l) : MS p K v M' (k + l.length) := by
  obtain ⟨h1, h2, h3⟩ := h
  obtain ⟨t1, t2, t3, t4⟩ := t
  exact ⟨t2, by rw [t4 _ _ _ (by omega) (by omega), h2], by rw [t4 _ _ _ (by omega) (by omega), h3]⟩
theorem mbody {M : zM} {k b : Nat} (h : M.1 40 0 59 = nI k) (hk : k < 20) : qM_body M (nI b) = some ((), zset (zset M 81 0 k (nI b)) 40 0 59 (nI (k + 1))) := by
  unfold qM_body
  simp only [zl0, zl1, zl2, zl3, zl4, zl5, zl6, zl7, zl8, zl9, zl10, zl11, zl12, zl13, zl14, zl16, zl18, zl19, zl20, zl22, zl24, zl30, zl32, zl33, zl36, zl38, zl40, zl41, zl48, zl50, zl51, zl57, zl59, zl60, zl61, zl62, zl70, zl71, zl99, zl100, zl103, zl104, zl105, zl106, zl107, zl108, zl109, zl110, zl111, zl112, zl113, zl114, zl115, zl116, zl124, zl127, zl255, zl999, zl1000, zl1001, zl1002, zl1003]
  rw [zjn_e, h, if_neg (nI_ge hk (by omega)), zchk_e (ze_in hk (by omega)), znm_e]
  simp only [znm_e]
  rw [ze_cl (by omega), zg_n (by omega), h, ze_add]
def MR (p K : Nat) (v : Int32) (o : Option (Int32 × zM)) (M : zM) (k : Nat) (r : Int32) (l : List Nat) : Prop := ∃ M', o = some (r, M') ∧ TR 40 59 81 M M' k l ∧ MS p K v M' (k + l.length)
theorem MR_body {p K b k : Nat} {v r : Int32} {M : zM} {G : zM → Option (Int32 × zM)} {l : List Nat} (hs : MS p K v M k) (hk : k < 20) (h : ∀ M1, MS p K v M1 (k + 1) → MR p K v (G M1) M1 (k + 1) r l) : MR p K v (zbnd (qM_body M (nI b)) fun _ M1 => G M1) M k r (b :: l) := by
  have e : (b :: l).length = l.length + 1 := rfl
  have t := TR_one (kc := 40) (ic := 59) (kt := 81) M k b (by omega)
  obtain ⟨M', g1, g2, g3⟩ := h _ (MS_TR hs t)
  exact ⟨M', by rw [mbody hs.1 hk, zbnd_s, g1], TR_app (l1 := [b]) (by omega) t g2, by rw [e, show k + (l.length + 1) = k + 1 + l.length by omega]; exact g3⟩
theorem MR_map {p K k : Nat} {v r r' : Int32} {M : zM} {o : Option (Int32 × zM)} {G : Int32 → zM → Option (Int32 × zM)} {l : List Nat} (h : MR p K v o M k r l) (hG : ∀ M1, MS p K v M1 (k + l.length) → G r M1 = some (r', M1)) : MR p K v (zbnd o G) M k r' l := by
  obtain ⟨M', g1, g2, g3⟩ := h
  exact ⟨M', by rw [g1, zbnd_s, hG M' g3], g2, g3⟩
theorem MR_bind {p K k : Nat} {v r1 r : Int32} {M : zM} {o : Option (Int32 × zM)} {G : Int32 → zM → Option (Int32 × zM)} {l1 l2 : List Nat} (h : MR p K v o M k r1 l1) (hG : ∀ M1, MS p K v M1 (k + l1.length) → MR p K v (G r1 M1) M1 (k + l1.length) r l2) : MR p K v (zbnd o G) M k r (l1 ++ l2) := by
  obtain ⟨M', g1, g2, g3⟩ := h
  obtain ⟨M2, f1, f2, f3⟩ := hG M' g3
  exact ⟨M2, by rw [g1, zbnd_s, f1], TR_app (by omega) g2 f2, by rw [List.length_append, ← Nat.add_assoc]; exact f3⟩
theorem mGD {p K k : Nat} {v : Int32} {M : zM} (x : Int32) (hs : MS p K v M k) (hk : k + 1 ≤ 20) : MR p K v (qM_guestDoubts M (nI p) x) M k (x + nI p) [10] := by
  unfold qM_guestDoubts
  simp only [zl0, zl1, zl2, zl3, zl4, zl5, zl6, zl7, zl8, zl9, zl10, zl11, zl12, zl13, zl14, zl16, zl18, zl19, zl20, zl22, zl24, zl30, zl32, zl33, zl36, zl38, zl40, zl41, zl48, zl50, zl51, zl57, zl59, zl60, zl61, zl62, zl70, zl71, zl99, zl100, zl103, zl104, zl105, zl106, zl107, zl108, zl109, zl110, zl111, zl112, zl113, zl114, zl115, zl116, zl124, zl127, zl255, zl999, zl1000, zl1001, zl1002, zl1003]
  exact MR_body hs (by omega) fun M1 h1 => ⟨M1, rfl, TR_nil h1.1, h1⟩
theorem mD {p K k : Nat} {v : Int32} {M : zM} (x : Int32) (hp : p < 6) (hK : K < 7) (hs : MS p K v M k) (hk : k + 2 ≤ 20) : MR p K v (qM_doubtsAct M (nI p) x) M k (dV K (nI p) v x) (dL K) := by
  unfold qM_doubtsAct
  simp only [zl0, zl1, zl2, zl3, zl4, zl5, zl6, zl7, zl8, zl9, zl10, zl11, zl12, zl13, zl14, zl16, zl18, zl19, zl20, zl22, zl24, zl30, zl32, zl33, zl36, zl38, zl40, zl41, zl48, zl50, zl51, zl57, zl59, zl60, zl61, zl62, zl70, zl71, zl99, zl100, zl103, zl104, zl105, zl106, zl107, zl108, zl109, zl110, zl111, zl112, zl113, zl114, zl115, zl116, zl124, zl127, zl255, zl999, zl1000, zl1001, zl1002, zl1003]
  rw [zchk_e (ze_in hp (by omega)), znm_e, ze_cl (by omega), hs.2.1]
  rcases (show K = 0 ∨ K = 1 ∨ K = 2 ∨ K = 3 ∨ K = 4 ∨ K = 5 ∨ K = 6 by omega) with rfl | rfl | rfl | rfl | rfl | rfl | rfl
  · simp (disch := omega) only [ze_eqf, ↓reduceIte]
    exact MR_map (mGD x hs (by omega)) fun M1 _ => rfl
  · simp (disch := omega) only [ze_eqf, ↓reduceIte]
    exact MR_map (mGD x hs (by omega)) fun M1 _ => rfl
  · simp (disch := omega) only [ze_eqf, ↓reduceIte]
    exact MR_body hs (by omega) fun M1 h1 => MR_map (mGD _ h1 (by omega)) fun M1 _ => rfl
  · simp (disch := omega) only [ze_eqf, ↓reduceIte]
    exact MR_map (mGD x hs (by omega)) fun M1 _ => rfl
  · simp (disch := omega) only [ze_eqf, ↓reduceIte]
    exact MR_body hs (by omega) fun M1 h1 => MR_map (mGD _ h1 (by omega)) fun M1 _ => rfl
  · simp (disch := omega) only [ze_eqf, ↓reduceIte]
    exact MR_body hs (by omega) fun M1 h1 => MR_map (mGD _ h1 (by omega)) fun M1 _ => rfl
  · simp (disch := omega) only [ze_eqf, ↓reduceIte]
    exact MR_body hs (by omega) fun M1 h1 => MR_map (mGD _ h1 (by omega)) fun M1 h2 => by rw [zchk_e (ze_in hp (by omega)), h2.2.2]; rfl
theorem dL_len (K : Nat) : (dL K).length ≤ 2 := by
  unfold dL
  by_cases h1 : K = 2 ∨ K = 5
  · rw [if_pos h1]; decide
  by_cases h2 : K = 4
  · rw [if_neg h1, if_pos h2]; decide
  by_cases h3 : K = 6
  · rw [if_neg h1, if_neg h2, if_pos h3]; decide
  · rw [if_neg h1, if_neg h2, if_neg h3]; decide
theorem mGG {p K k : Nat} {v : Int32} {M : zM} (x : Int32) (hp : p < 6) (hK : K < 7) (hs : MS p K v M k) (hk : k + 3 ≤ 20) : MR p K v (qM_guestGuesses M (nI p) x) M k (ggV K (nI p) v x) (11 :: dL K) := by
  unfold qM_guestGuesses
  simp only [zl0, zl1, zl2, zl3, zl4, zl5, zl6, zl7, zl8, zl9, zl10, zl11, zl12, zl13, zl14, zl16, zl18, zl19, zl20, zl22, zl24, zl30, zl32, zl33, zl36, zl38, zl40, zl41, zl48, zl50, zl51, zl57, zl59, zl60, zl61, zl62, zl70, zl71, zl99, zl100, zl103, zl104, zl105, zl106, zl107, zl108, zl109, zl110, zl111, zl112, zl113, zl114, zl115, zl116, zl124, zl127, zl255, zl999, zl1000, zl1001, zl1002, zl1003]
  exact MR_body hs (by omega) fun M1 h1 => MR_map (mD x hp hK h1 (by omega)) fun M2 h2 => by rw [zchk_e (ze_in hp (by omega)), ze_cl (by omega), h2.2.2]; rfl
theorem mRG {p K k : Nat} {v : Int32} {M : zM} (x : Int32) (hp : p < 6) (hK : K < 7) (hs : MS p K v M k) (hk : k + 4 ≤ 20) : MR p K v (qM_readerGuesses M (nI p) x) M k (ggV K (nI p) v x ^^^ nI 6) (20 :: 11 :: dL K) := by
  unfold qM_readerGuesses
  simp only [zl0, zl1, zl2, zl3, zl4, zl5, zl6, zl7, zl8, zl9, zl10, zl11, zl12, zl13, zl14, zl16, zl18, zl19, zl20, zl22, zl24, zl30, zl32, zl33, zl36, zl38, zl40, zl41, zl48, zl50, zl51, zl57, zl59, zl60, zl61, zl62, zl70, zl71, zl99, zl100, zl103, zl104, zl105, zl106, zl107, zl108, zl109, zl110, zl111, zl112, zl113, zl114, zl115, zl116, zl124, zl127, zl255, zl999, zl1000, zl1001, zl1002, zl1003]
  exact MR_body hs (by omega) fun M1 h1 => MR_map (mGG x hp hK h1 (by omega)) fun M2 h2 => rfl
theorem mG {p K k : Nat} {v : Int32} {M : zM} (x : Int32) (hp : p < 6) (hK : K < 7) (hs : MS p K v M k) (hk : k + 5 ≤ 20) : MR p K v (qM_guessesAct M (nI p) x) M k (gV K K (nI p) v x) (gL K K) := by
  unfold qM_guessesAct
  simp only [zl0, zl1, zl2, zl3, zl4, zl5, zl6, zl7, zl8, zl9, zl10, zl11, zl12, zl13, zl14, zl16, zl18, zl19, zl20, zl22, zl24, zl30, zl32, zl33, zl36, zl38, zl40, zl41, zl48, zl50, zl51, zl57, zl59, zl60, zl61, zl62, zl70, zl71, zl99, zl100, zl103, zl104, zl105, zl106, zl107, zl108, zl109, zl110, zl111, zl112, zl113, zl114, zl115, zl116, zl124, zl127, zl255, zl999, zl1000, zl1001, zl1002, zl1003]
  rw [zchk_e (ze_in hp (by omega)), znm_e, ze_cl (by omega), hs.2.1]
  rcases (show K = 0 ∨ K = 1 ∨ K = 2 ∨ K = 3 ∨ K = 4 ∨ K = 5 ∨ K = 6 by omega) with rfl | rfl | rfl | rfl | rfl | rfl | rfl
  · simp (disch := omega) only [ze_eqf, ↓reduceIte]
    exact MR_map (mGG x hp hK hs (by omega)) fun M1 _ => rfl
  · simp (disch := omega) only [ze_eqf, ↓reduceIte]
    exact MR_map (mRG x hp hK hs (by omega)) fun M1 _ => rfl
  · simp (disch := omega) only [ze_eqf, ↓reduceIte]
    exact MR_map (mGG x hp hK hs (by omega)) fun M1 _ => rfl
  · simp (disch := omega) only [ze_eqf, ↓reduceIte]
    exact MR_map (mGG x hp hK hs (by omega)) fun M1 _ => rfl
  · simp (disch := omega) only [ze_eqf, ↓reduceIte]
    exact MR_body hs (by omega) fun M1 h1 => MR_map (mRG _ hp hK h1 (by omega)) fun M1 _ => rfl
  · simp (disch := omega) only [ze_eqf, ↓reduceIte]
    exact MR_map (mGG x hp hK hs (by omega)) fun M1 _ => rfl
  · simp (disch := omega) only [ze_eqf, ↓reduceIte]
    exact MR_body hs (by omega) fun M1 h1 => MR_bind (mGG x hp hK h1 (by omega)) fun M2 h2 => MR_map (mGD _ h2 (by have : (11 :: dL 6).length = 3 := rfl; omega)) fun M3 _ => rfl
theorem gL_len (K : Nat) : (gL K K).length ≤ 5 := by
  have d := dL_len K
  unfold gL
  by_cases h1 : K = 1
  · rw [if_pos h1]; simp only [List.length_cons]; omega
  by_cases h2 : K = 4
  · rw [if_neg h1, if_pos h2]; simp only [List.length_cons]; omega
  by_cases h3 : K = 6
  · rw [if_neg h1, if_neg h2, if_pos h3]; simp only [List.length_cons, List.length_append, List.length_nil]; omega
  · rw [if_neg h1, if_neg h2, if_neg h3]; simp only [List.length_cons]; omega
theorem mGT {p K k : Nat} {v : Int32} {M : zM} (x : Int32) (hp : p < 6) (hK : K < 7) (hs : MS p K v M k) (hk : k + 6 ≤ 20) : MR p K v (qM_guestTells M (nI p) x) M k (ttV K (nI p) v x) (12 :: gL K K) := by
  unfold qM_guestTells
  simp only [zl0, zl1, zl2, zl3, zl4, zl5, zl6, zl7, zl8, zl9, zl10, zl11, zl12, zl13, zl14, zl16, zl18, zl19, zl20, zl22, zl24, zl30, zl32, zl33, zl36, zl38, zl40, zl41, zl48, zl50, zl51, zl57, zl59, zl60, zl61, zl62, zl70, zl71, zl99, zl100, zl103, zl104, zl105, zl106, zl107, zl108, zl109, zl110, zl111, zl112, zl113, zl114, zl115, zl116, zl124, zl127, zl255, zl999, zl1000, zl1001, zl1002, zl1003]
  exact MR_body hs (by omega) fun M1 h1 => MR_map (mG x hp hK h1 (by omega)) fun M2 h2 => rfl
theorem mT {p K k : Nat} {v : Int32} {M : zM} (x : Int32) (hp : p < 6) (hK : K < 7) (hs : MS p K v M k) (hk : k + 12 ≤ 20) : MR p K v (qM_tellsAct M (nI p) x) M k (tV K K (nI p) v x) (tL K K) := by
  unfold qM_tellsAct
  simp only [zl0, zl1, zl2, zl3, zl4, zl5, zl6, zl7, zl8, zl9, zl10, zl11, zl12, zl13, zl14, zl16, zl18, zl19, zl20, zl22, zl24, zl30, zl32, zl33, zl36, zl38, zl40, zl41, zl48, zl50, zl51, zl57, zl59, zl60, zl61, zl62, zl70, zl71, zl99, zl100, zl103, zl104, zl105, zl106, zl107, zl108, zl109, zl110, zl111, zl112, zl113, zl114, zl115, zl116, zl124, zl127, zl255, zl999, zl1000, zl1001, zl1002, zl1003]
  rw [zchk_e (ze_in hp (by omega)), znm_e, ze_cl (by omega), hs.2.1]
  have gl : ∀ K, (12 :: gL K K).length ≤ 6 := fun K => by have := gL_len K; simp only [List.length_cons]; omega
  rcases (show K = 0 ∨ K = 1 ∨ K = 2 ∨ K = 3 ∨ K = 4 ∨ K = 5 ∨ K = 6 by omega) with rfl | rfl | rfl | rfl | rfl | rfl | rfl
  · simp (disch := omega) only [ze_eqf, ↓reduceIte]
    exact MR_map (mGT x hp hK hs (by omega)) fun M1 _ => rfl
  · simp (disch := omega) only [ze_eqf, ↓reduceIte]
    exact MR_map (mGT x hp hK hs (by omega)) fun M1 _ => rfl
  · simp (disch := omega) only [ze_eqf, ↓reduceIte]
    exact MR_map (mGT x hp hK hs (by omega)) fun M1 _ => rfl
  · simp (disch := omega) only [ze_eqf, ↓reduceIte]
    exact MR_body hs (by omega) fun M1 h1 => MR_bind (mGT x hp hK h1 (by omega)) fun M2 h2 => MR_map (mG _ hp hK h2 (by have := gl 3; omega)) fun M3 _ => rfl
  · simp (disch := omega) only [ze_eqf, ↓reduceIte]
    exact MR_map (mGT x hp hK hs (by omega)) fun M1 _ => rfl
  · simp (disch := omega) only [ze_eqf, ↓reduceIte]
    exact MR_body hs (by omega) fun M1 h1 => MR_map (mGT _ hp hK h1 (by omega)) fun M2 _ => rfl
  · simp (disch := omega) only [ze_eqf, ↓reduceIte]
    exact MR_body hs (by omega) fun M1 h1 => MR_bind (mGT x hp hK h1 (by omega)) fun M2 h2 => MR_map (mG _ hp hK h2 (by have := gl 6; omega)) fun M3 _ => rfl
