/-! THE START: the names of everything, from the law's entry on -/
def zpos (k i : Nat) : Nat := if k < 40 then zALC.idxOf (k, i) else 142 + zALM.idxOf (k, i)
theorem zposC : ∀ j, j < 142 → zpos (zALC.getD j (0, 0)).1 (zALC.getD j (0, 0)).2 = j := by decide +kernel
theorem zposM : ∀ j, j < 46 → zpos (zALM.getD j (0, 0)).1 (zALM.getD j (0, 0)).2 = 142 + j := by decide +kernel
theorem zndC : zALC.Nodup := by decide +kernel
theorem zndM : zALM.Nodup := by decide +kernel
theorem zndNC : zNC.Nodup := by decide +kernel
theorem zndNM : zNM.Nodup := by decide +kernel
theorem zlenC : zALC.length = 142 := by decide +kernel
theorem zlenM : zALM.length = 46 := by decide +kernel
theorem zatC {j k i : Nat} (h : zALC[j]? = some (k, i)) : j < 142 ∧ zpos k i = j := by
  have hj : j < 142 := by rw [← zlenC]; exact (List.getElem?_eq_some_iff.mp h).1
  have h2 := zposC j hj
  rw [List.getD_eq_getElem?_getD, h] at h2
  exact ⟨hj, h2⟩
theorem zatM {j k i : Nat} (h : zALM[j]? = some (k, i)) : j < 46 ∧ zpos k i = 142 + j := by
  have hj : j < 46 := by rw [← zlenM]; exact (List.getElem?_eq_some_iff.mp h).1
  have h2 := zposM j hj
  rw [List.getD_eq_getElem?_getD, h] at h2
  exact ⟨hj, h2⟩
theorem zsubC : ∀ x ∈ zNC, x ∈ zALC := by decide +kernel
theorem zsubM : ∀ x ∈ zNM, x ∈ zALM := by decide +kernel
theorem zALC_of {E : zE} {z : Nat} (had : ∀ k i, zad E k i = z + zpos k i) : zAL E zALC z (fun q => z ≤ q) := by
  refine ⟨zndC, fun j k i h => ?_⟩
  rw [had, (zatC h).2]
  exact ⟨rfl, Nat.le_add_right _ _⟩
theorem zALM_of {E : zE} {z : Nat} (had : ∀ k i, zad E k i = z + zpos k i) : zAL E zALM (z + 142) (fun q => z + 142 ≤ q) := by
  refine ⟨zndM, fun j k i h => ?_⟩
  rw [had, (zatM h).2]
  exact ⟨by omega, by omega⟩
def zAC (z : Nat) : Nat → Prop := fun q => z ≤ q ∧ q < z + 142
def zAM (z : Nat) : Nat → Prop := fun q => z + 142 ≤ q ∧ q < z + 188
theorem zDC {E : zE} {z : Nat} (had : ∀ k i, zad E k i = z + zpos k i) : zD E zNC (zAC z) := by
  refine ⟨zndNC, fun x hx y hy e => ?_, fun x hx => ?_⟩
  · obtain ⟨j, hj⟩ := List.getElem?_of_mem (zsubC x hx)
    obtain ⟨j2, hj2⟩ := List.getElem?_of_mem (zsubC y hy)
    rw [had, had, (zatC hj).2, (zatC hj2).2] at e
    have : j = j2 := by omega
    subst this
    exact Option.some.inj (hj.symm.trans hj2)
  · obtain ⟨j, hj⟩ := List.getElem?_of_mem (zsubC x hx)
    rw [had, (zatC hj).2]
    have := (zatC hj).1
    exact ⟨by omega, by omega⟩
theorem zDM {E : zE} {z : Nat} (had : ∀ k i, zad E k i = z + zpos k i) : zD E zNM (zAM z) := by
  refine ⟨zndNM, fun x hx y hy e => ?_, fun x hx => ?_⟩
  · obtain ⟨j, hj⟩ := List.getElem?_of_mem (zsubM x hx)
    obtain ⟨j2, hj2⟩ := List.getElem?_of_mem (zsubM y hy)
    rw [had, had, (zatM hj).2, (zatM hj2).2] at e
    have : j = j2 := by omega
    subst this
    exact Option.some.inj (hj.symm.trans hj2)
  · obtain ⟨j, hj⟩ := List.getElem?_of_mem (zsubM x hx)
    rw [had, (zatM hj).2]
    have := (zatM hj).1
    exact ⟨by omega, by omega⟩
theorem zEv.narrow {E : zE} {A B : Nat → Prop} {U : State} {H : Heap} (h : zEv E A U H) (hAB : ∀ q, B q → A q) : zEv E B U H := by
  obtain ⟨h1, h2, ⟨t, h3⟩, h4, h5, h6, h7⟩ := h
  exact ⟨fun k hk => ⟨(h1 k hk).1.narrow hAB, (h1 k hk).2.narrow hAB⟩, h2.narrow hAB, ⟨t, h3.narrow hAB⟩, h4.narrow hAB, h5, h6, h7⟩
/-- the cells as they stand at the end of the making are the cells that the methods know -/
def zfull (M : zM) : Bool := ([0, 1, 2, 4, 5, 6, 8, 9, 10, 11, 12, 13].all fun j => M.1 0 0 j != 0) && ((List.range 3).all fun i => M.1 1 i 0 != 0 && M.1 1 i 4 != 0 && M.1 1 i 5 != 0 && ((List.range 6).all fun j => M.1 7 i j != 0)) && ((List.range 18).all fun i => M.1 2 i 5 != 0 && M.1 2 i 6 != 0 && M.1 2 i 7 != 0 && M.1 2 i 8 != 0) && M.1 10 0 0 != 0 && ((List.range 6).all fun j => M.1 12 0 j != 0) && ((List.range 7).all fun i => M.1 13 i 0 != 0 && M.1 13 i 2 != 0) && ([0, 1, 2, 3, 4].all fun j => M.1 16 0 j != 0) && M.1 25 0 0 != 0 && ([0, 1, 2].all fun j => M.1 27 0 j != 0)
theorem zmk_nz {x : Int32} {a : Nat} (h : x ≠ 0) : zmk x a = .ref a := if_neg h
theorem zarr_q {D : va_G} {cA : ClassId} {a n : Nat} {f g : Nat → Option Nat} {H : Heap} (hfg : ∀ j, j < n → f j = g j) (h : va_at D vwCl (a, .inl (cA, n, .inr (.inr (.inr (.inr f))))) H) : va_at D vwCl (a, .inl (cA, n, .inr (.inr (.inr (.inr g))))) H := by
  have e : vp_cell cA (n, .inr (.inr (.inr (.inr f)))) = vp_cell cA (n, .inr (.inr (.inr (.inr g)))) := by
    rw [vp_cell_q, vp_cell_q]
    unfold arrV
    congr 2
    funext j
    show va_rf (f j.1) = va_rf (g j.1)
    rw [hfg j.1 j.2]
  show H[a]? = some (vp_cell cA (n, .inr (.inr (.inr (.inr g)))))
  rw [← e]
  exact h
theorem zfin {E : zE} {NS : List (Nat × Nat)} {M : zM} {z n : Nat} {AL : List (Nat × Nat)} {H : Heap} (hP : va_P E.1 vwCl (zwB E (AL.take n) M) H) (hsub : ∀ x ∈ NS, ∃ j, j < n ∧ AL[j]? = some x) (hrow : ∀ x ∈ NS, ∀ a, va_at E.1 vwCl (a, zrowB E x.1 x.2 (M.1 x.1 x.2) (M.2 x.1 x.2)) H → va_at E.1 vwCl (a, zrow E x.1 x.2 (M.1 x.1 x.2) (M.2 x.1 x.2)) H) : va_P E.1 vwCl (zw E NS M) H := by
  intro q x hx
  obtain ⟨y, hy, rfl⟩ := zw_of hx
  obtain ⟨j, hj, hjl⟩ := hsub y (List.mem_of_getElem? hy)
  obtain ⟨k, i⟩ := y
  exact hrow (k, i) (List.mem_of_getElem? hy) _ (hP j _ (zwB_at hjl hj))
def zM0 : zM := (fun _ _ _ => 0, fun _ _ _ => 0)
def zc0 : zM := bG_init (zclr zM0 0 0)
def zm0 : zM := bM_init (zclr zM0 40 0)
theorem zh0 : ∀ i, i < 1 → zc0.1 0 i 0 ≠ 0 ∧ zc0.1 0 i 1 ≠ 0 ∧ zc0.1 0 i 2 ≠ 0 ∧ zc0.1 0 i 4 ≠ 0 ∧ zc0.1 0 i 5 ≠ 0 ∧ zc0.1 0 i 6 ≠ 0 ∧ zc0.1 0 i 8 ≠ 0 ∧ zc0.1 0 i 9 ≠ 0 ∧ zc0.1 0 i 10 ≠ 0 ∧ zc0.1 0 i 11 ≠ 0 ∧ zc0.1 0 i 12 ≠ 0 ∧ zc0.1 0 i 13 ≠ 0 := by decide +kernel
theorem zh1 : ∀ i, i < 3 → zc0.1 1 i 0 ≠ 0 ∧ zc0.1 1 i 4 ≠ 0 ∧ zc0.1 1 i 5 ≠ 0 := by decide +kernel
theorem zh2 : ∀ i, i < 18 → zc0.1 2 i 5 ≠ 0 ∧ zc0.1 2 i 6 ≠ 0 ∧ zc0.1 2 i 7 ≠ 0 ∧ zc0.1 2 i 8 ≠ 0 := by decide +kernel
theorem zh7 : ∀ i, i < 3 → ∀ j, j < 6 → zc0.1 7 i j ≠ 0 := by decide +kernel
theorem zh10 : ∀ i, i < 1 → zc0.1 10 i 0 ≠ 0 := by decide +kernel
theorem zh12 : ∀ i, i < 1 → ∀ j, j < 6 → zc0.1 12 i j ≠ 0 := by decide +kernel
theorem zh13 : ∀ i, i < 7 → zc0.1 13 i 0 ≠ 0 ∧ zc0.1 13 i 2 ≠ 0 := by decide +kernel
theorem zh16 : ∀ i, i < 1 → zc0.1 16 i 0 ≠ 0 ∧ zc0.1 16 i 1 ≠ 0 ∧ zc0.1 16 i 2 ≠ 0 ∧ zc0.1 16 i 3 ≠ 0 ∧ zc0.1 16 i 4 ≠ 0 := by decide +kernel
theorem zh25 : ∀ i, i < 1 → zc0.1 25 i 0 ≠ 0 := by decide +kernel
theorem zh27 : ∀ i, i < 1 → zc0.1 27 i 0 ≠ 0 ∧ zc0.1 27 i 1 ≠ 0 ∧ zc0.1 27 i 2 ≠ 0 := by decide +kernel
set_option maxHeartbeats 4000000 in
set_option maxRecDepth 100000 in
theorem zrow_zNC {E : zE} {H : Heap} : ∀ x ∈ zNC, ∀ a, va_at E.1 vwCl (a, zrowB E x.1 x.2 (zc0.1 x.1 x.2) (zc0.2 x.1 x.2)) H → va_at E.1 vwCl (a, zrow E x.1 x.2 (zc0.1 x.1 x.2) (zc0.2 x.1 x.2)) H := by
  intro x hx a h
  have hk : (x.1 = 0 ∧ x.2 < 1) ∨ (x.1 = 1 ∧ x.2 < 3) ∨ (x.1 = 2 ∧ x.2 < 18) ∨ (x.1 = 3 ∧ x.2 < 18) ∨ (x.1 = 4 ∧ x.2 < 18) ∨ (x.1 = 5 ∧ x.2 < 18) ∨ (x.1 = 6 ∧ x.2 < 18) ∨ (x.1 = 7 ∧ x.2 < 3) ∨ (x.1 = 8 ∧ x.2 < 3) ∨ (x.1 = 9 ∧ x.2 < 3) ∨ (x.1 = 10 ∧ x.2 < 1) ∨ (x.1 = 11 ∧ x.2 < 1) ∨ (x.1 = 12 ∧ x.2 < 1) ∨ (x.1 = 13 ∧ x.2 < 7) ∨ (x.1 = 14 ∧ x.2 < 7) ∨ (x.1 = 15 ∧ x.2 < 7) ∨ (x.1 = 16 ∧ x.2 < 1) ∨ (x.1 = 17 ∧ x.2 < 1) ∨ (x.1 = 18 ∧ x.2 < 1) ∨ (x.1 = 19 ∧ x.2 < 1) ∨ (x.1 = 20 ∧ x.2 < 1) ∨ (x.1 = 21 ∧ x.2 < 1) ∨ (x.1 = 22 ∧ x.2 < 1) ∨ (x.1 = 23 ∧ x.2 < 1) ∨ (x.1 = 24 ∧ x.2 < 1) ∨ (x.1 = 25 ∧ x.2 < 1) ∨ (x.1 = 26 ∧ x.2 < 1) ∨ (x.1 = 27 ∧ x.2 < 1) ∨ (x.1 = 28 ∧ x.2 < 1) ∨ (x.1 = 29 ∧ x.2 < 1) ∨ (x.1 = 30 ∧ x.2 < 1) := (by decide +kernel : ∀ x ∈ zNC, (x.1 = 0 ∧ x.2 < 1) ∨ (x.1 = 1 ∧ x.2 < 3) ∨ (x.1 = 2 ∧ x.2 < 18) ∨ (x.1 = 3 ∧ x.2 < 18) ∨ (x.1 = 4 ∧ x.2 < 18) ∨ (x.1 = 5 ∧ x.2 < 18) ∨ (x.1 = 6 ∧ x.2 < 18) ∨ (x.1 = 7 ∧ x.2 < 3) ∨ (x.1 = 8 ∧ x.2 < 3) ∨ (x.1 = 9 ∧ x.2 < 3) ∨ (x.1 = 10 ∧ x.2 < 1) ∨ (x.1 = 11 ∧ x.2 < 1) ∨ (x.1 = 12 ∧ x.2 < 1) ∨ (x.1 = 13 ∧ x.2 < 7) ∨ (x.1 = 14 ∧ x.2 < 7) ∨ (x.1 = 15 ∧ x.2 < 7) ∨ (x.1 = 16 ∧ x.2 < 1) ∨ (x.1 = 17 ∧ x.2 < 1) ∨ (x.1 = 18 ∧ x.2 < 1) ∨ (x.1 = 19 ∧ x.2 < 1) ∨ (x.1 = 20 ∧ x.2 < 1) ∨ (x.1 = 21 ∧ x.2 < 1) ∨ (x.1 = 22 ∧ x.2 < 1) ∨ (x.1 = 23 ∧ x.2 < 1) ∨ (x.1 = 24 ∧ x.2 < 1) ∨ (x.1 = 25 ∧ x.2 < 1) ∨ (x.1 = 26 ∧ x.2 < 1) ∨ (x.1 = 27 ∧ x.2 < 1) ∨ (x.1 = 28 ∧ x.2 < 1) ∨ (x.1 = 29 ∧ x.2 < 1) ∨ (x.1 = 30 ∧ x.2 < 1)) x hx
  obtain ⟨k, i⟩ := x
  dsimp only at hk h ⊢
  rcases hk with ⟨rfl, hi⟩ | ⟨rfl, hi⟩ | ⟨rfl, hi⟩ | ⟨rfl, hi⟩ | ⟨rfl, hi⟩ | ⟨rfl, hi⟩ | ⟨rfl, hi⟩ | ⟨rfl, hi⟩ | ⟨rfl, hi⟩ | ⟨rfl, hi⟩ | ⟨rfl, hi⟩ | ⟨rfl, hi⟩ | ⟨rfl, hi⟩ | ⟨rfl, hi⟩ | ⟨rfl, hi⟩ | ⟨rfl, hi⟩ | ⟨rfl, hi⟩ | ⟨rfl, hi⟩ | ⟨rfl, hi⟩ | ⟨rfl, hi⟩ | ⟨rfl, hi⟩ | ⟨rfl, hi⟩ | ⟨rfl, hi⟩ | ⟨rfl, hi⟩ | ⟨rfl, hi⟩ | ⟨rfl, hi⟩ | ⟨rfl, hi⟩ | ⟨rfl, hi⟩ | ⟨rfl, hi⟩ | ⟨rfl, hi⟩ | ⟨rfl, hi⟩
  · obtain ⟨g0, g1, g2, g4, g5, g6, g8, g9, g10, g11, g12, g13⟩ := zh0 i hi
    have e : zrowB E 0 i (zc0.1 0 i) (zc0.2 0 i) = zrow E 0 i (zc0.1 0 i) (zc0.2 0 i) := by
      simp only [zrowB, zrow, zcellB, zcell, zmk_nz g0, zmk_nz g1, zmk_nz g2, zmk_nz g4, zmk_nz g5, zmk_nz g6, zmk_nz g8, zmk_nz g9, zmk_nz g10, zmk_nz g11, zmk_nz g12, zmk_nz g13]
    rw [← e]; exact h
  · obtain ⟨g0, g4, g5⟩ := zh1 i hi
    have e : zrowB E 1 i (zc0.1 1 i) (zc0.2 1 i) = zrow E 1 i (zc0.1 1 i) (zc0.2 1 i) := by
      simp only [zrowB, zrow, zcellB, zcell, zmk_nz g0, zmk_nz g4, zmk_nz g5]
    rw [← e]; exact h
  · obtain ⟨g5, g6, g7, g8⟩ := zh2 i hi
    have e : zrowB E 2 i (zc0.1 2 i) (zc0.2 2 i) = zrow E 2 i (zc0.1 2 i) (zc0.2 2 i) := by
      simp only [zrowB, zrow, zcellB, zcell, zmk_nz g5, zmk_nz g6, zmk_nz g7, zmk_nz g8]
    rw [← e]; exact h
  · exact h
  · exact h
  · exact h
  · exact h
  · exact zarr_q (fun j hj => if_neg (zh7 i hi j hj)) h
  · exact h
  · exact h
  · obtain g0 := zh10 i hi
    have e : zrowB E 10 i (zc0.1 10 i) (zc0.2 10 i) = zrow E 10 i (zc0.1 10 i) (zc0.2 10 i) := by
      simp only [zrowB, zrow, zcellB, zcell, zmk_nz g0]
    rw [← e]; exact h
  · exact h
  · exact zarr_q (fun j hj => if_neg (zh12 i hi j hj)) h
  · obtain ⟨g0, g2⟩ := zh13 i hi
    have e : zrowB E 13 i (zc0.1 13 i) (zc0.2 13 i) = zrow E 13 i (zc0.1 13 i) (zc0.2 13 i) := by
      simp only [zrowB, zrow, zcellB, zcell, zmk_nz g0, zmk_nz g2]
    rw [← e]; exact h
  · exact h
  · exact h
  · obtain ⟨g0, g1, g2, g3, g4⟩ := zh16 i hi
    have e : zrowB E 16 i (zc0.1 16 i) (zc0.2 16 i) = zrow E 16 i (zc0.1 16 i) (zc0.2 16 i) := by
      simp only [zrowB, zrow, zcellB, zcell, zmk_nz g0, zmk_nz g1, zmk_nz g2, zmk_nz g3, zmk_nz g4]
    rw [← e]; exact h
  · exact h
  · exact h
  · exact h
  · exact h
  · exact h
  · exact h
  · exact h
  · exact h
  · obtain g0 := zh25 i hi
    have e : zrowB E 25 i (zc0.1 25 i) (zc0.2 25 i) = zrow E 25 i (zc0.1 25 i) (zc0.2 25 i) := by
      simp only [zrowB, zrow, zcellB, zcell, zmk_nz g0]
    rw [← e]; exact h
  · exact h
  · obtain ⟨g0, g1, g2⟩ := zh27 i hi
    have e : zrowB E 27 i (zc0.1 27 i) (zc0.2 27 i) = zrow E 27 i (zc0.1 27 i) (zc0.2 27 i) := by
      simp only [zrowB, zrow, zcellB, zcell, zmk_nz g0, zmk_nz g1, zmk_nz g2]
    rw [← e]; exact h
  · exact h
  · exact h
  · exact h
theorem zh40 : ∀ n ∈ [2, 3, 4, 5, 6, 7, 8, 9, 15, 16, 17, 18, 19, 20, 21, 22, 26, 27, 28, 29, 33, 34, 35, 36, 37, 39, 40, 41, 47, 48, 49, 50, 51, 52, 53, 54, 55, 56, 57, 58, 60, 61, 62, 63, 64], zm0.1 40 0 n ≠ 0 := by decide +kernel
set_option maxHeartbeats 4000000 in
set_option maxRecDepth 100000 in
theorem zrow_zNM {E : zE} {H : Heap} : ∀ x ∈ zNM, ∀ a, va_at E.1 vwCl (a, zrowB E x.1 x.2 (zm0.1 x.1 x.2) (zm0.2 x.1 x.2)) H → va_at E.1 vwCl (a, zrow E x.1 x.2 (zm0.1 x.1 x.2) (zm0.2 x.1 x.2)) H := by
  intro x hx a h
  have hk1 : 40 ≤ x.1 ∧ x.1 < 86 ∧ x.2 = 0 := (by decide +kernel : ∀ x ∈ zNM, 40 ≤ x.1 ∧ x.1 < 86 ∧ x.2 = 0) x hx
  have hk : (x.1 = 40 ∧ x.2 < 1) ∨ (x.1 = 41 ∧ x.2 < 1) ∨ (x.1 = 42 ∧ x.2 < 1) ∨ (x.1 = 43 ∧ x.2 < 1) ∨ (x.1 = 44 ∧ x.2 < 1) ∨ (x.1 = 45 ∧ x.2 < 1) ∨ (x.1 = 46 ∧ x.2 < 1) ∨ (x.1 = 47 ∧ x.2 < 1) ∨ (x.1 = 48 ∧ x.2 < 1) ∨ (x.1 = 49 ∧ x.2 < 1) ∨ (x.1 = 50 ∧ x.2 < 1) ∨ (x.1 = 51 ∧ x.2 < 1) ∨ (x.1 = 52 ∧ x.2 < 1) ∨ (x.1 = 53 ∧ x.2 < 1) ∨ (x.1 = 54 ∧ x.2 < 1) ∨ (x.1 = 55 ∧ x.2 < 1) ∨ (x.1 = 56 ∧ x.2 < 1) ∨ (x.1 = 57 ∧ x.2 < 1) ∨ (x.1 = 58 ∧ x.2 < 1) ∨ (x.1 = 59 ∧ x.2 < 1) ∨ (x.1 = 60 ∧ x.2 < 1) ∨ (x.1 = 61 ∧ x.2 < 1) ∨ (x.1 = 62 ∧ x.2 < 1) ∨ (x.1 = 63 ∧ x.2 < 1) ∨ (x.1 = 64 ∧ x.2 < 1) ∨ (x.1 = 65 ∧ x.2 < 1) ∨ (x.1 = 66 ∧ x.2 < 1) ∨ (x.1 = 67 ∧ x.2 < 1) ∨ (x.1 = 68 ∧ x.2 < 1) ∨ (x.1 = 69 ∧ x.2 < 1) ∨ (x.1 = 70 ∧ x.2 < 1) ∨ (x.1 = 71 ∧ x.2 < 1) ∨ (x.1 = 72 ∧ x.2 < 1) ∨ (x.1 = 73 ∧ x.2 < 1) ∨ (x.1 = 74 ∧ x.2 < 1) ∨ (x.1 = 75 ∧ x.2 < 1) ∨ (x.1 = 76 ∧ x.2 < 1) ∨ (x.1 = 77 ∧ x.2 < 1) ∨ (x.1 = 78 ∧ x.2 < 1) ∨ (x.1 = 79 ∧ x.2 < 1) ∨ (x.1 = 80 ∧ x.2 < 1) ∨ (x.1 = 81 ∧ x.2 < 1) ∨ (x.1 = 82 ∧ x.2 < 1) ∨ (x.1 = 83 ∧ x.2 < 1) ∨ (x.1 = 84 ∧ x.2 < 1) ∨ (x.1 = 85 ∧ x.2 < 1) := by omega
  obtain ⟨k, i⟩ := x
  dsimp only at hk h ⊢
  rcases hk with ⟨rfl, hi⟩ | ⟨rfl, hi⟩ | ⟨rfl, hi⟩ | ⟨rfl, hi⟩ | ⟨rfl, hi⟩ | ⟨rfl, hi⟩ | ⟨rfl, hi⟩ | ⟨rfl, hi⟩ | ⟨rfl, hi⟩ | ⟨rfl, hi⟩ | ⟨rfl, hi⟩ | ⟨rfl, hi⟩ | ⟨rfl, hi⟩ | ⟨rfl, hi⟩ | ⟨rfl, hi⟩ | ⟨rfl, hi⟩ | ⟨rfl, hi⟩ | ⟨rfl, hi⟩ | ⟨rfl, hi⟩ | ⟨rfl, hi⟩ | ⟨rfl, hi⟩ | ⟨rfl, hi⟩ | ⟨rfl, hi⟩ | ⟨rfl, hi⟩ | ⟨rfl, hi⟩ | ⟨rfl, hi⟩ | ⟨rfl, hi⟩ | ⟨rfl, hi⟩ | ⟨rfl, hi⟩ | ⟨rfl, hi⟩ | ⟨rfl, hi⟩ | ⟨rfl, hi⟩ | ⟨rfl, hi⟩ | ⟨rfl, hi⟩ | ⟨rfl, hi⟩ | ⟨rfl, hi⟩ | ⟨rfl, hi⟩ | ⟨rfl, hi⟩ | ⟨rfl, hi⟩ | ⟨rfl, hi⟩ | ⟨rfl, hi⟩ | ⟨rfl, hi⟩ | ⟨rfl, hi⟩ | ⟨rfl, hi⟩ | ⟨rfl, hi⟩ | ⟨rfl, hi⟩
  · obtain rfl : i = 0 := by omega
    have e : zrowB E 40 0 (zm0.1 40 0) (zm0.2 40 0) = zrow E 40 0 (zm0.1 40 0) (zm0.2 40 0) := by
      simp only [zrowB, zrow, zcellB, zcell, zmk_nz (zh40 2 (by decide)), zmk_nz (zh40 3 (by decide)), zmk_nz (zh40 4 (by decide)), zmk_nz (zh40 5 (by decide)), zmk_nz (zh40 6 (by decide)), zmk_nz (zh40 7 (by decide)), zmk_nz (zh40 8 (by decide)), zmk_nz (zh40 9 (by decide)), zmk_nz (zh40 15 (by decide)), zmk_nz (zh40 16 (by decide)), zmk_nz (zh40 17 (by decide)), zmk_nz (zh40 18 (by decide)), zmk_nz (zh40 19 (by decide)), zmk_nz (zh40 20 (by decide)), zmk_nz (zh40 21 (by decide)), zmk_nz (zh40 22 (by decide)), zmk_nz (zh40 26 (by decide)), zmk_nz (zh40 27 (by decide)), zmk_nz (zh40 28 (by decide)), zmk_nz (zh40 29 (by decide)), zmk_nz (zh40 33 (by decide)), zmk_nz (zh40 34 (by decide)), zmk_nz (zh40 35 (by decide)), zmk_nz (zh40 36 (by decide)), zmk_nz (zh40 37 (by decide)), zmk_nz (zh40 39 (by decide)), zmk_nz (zh40 40 (by decide)), zmk_nz (zh40 41 (by decide)), zmk_nz (zh40 47 (by decide)), zmk_nz (zh40 48 (by decide)), zmk_nz (zh40 49 (by decide)), zmk_nz (zh40 50 (by decide)), zmk_nz (zh40 51 (by decide)), zmk_nz (zh40 52 (by decide)), zmk_nz (zh40 53 (by decide)), zmk_nz (zh40 54 (by decide)), zmk_nz (zh40 55 (by decide)), zmk_nz (zh40 56 (by decide)), zmk_nz (zh40 57 (by decide)), zmk_nz (zh40 58 (by decide)), zmk_nz (zh40 60 (by decide)), zmk_nz (zh40 61 (by decide)), zmk_nz (zh40 62 (by decide)), zmk_nz (zh40 63 (by decide)), zmk_nz (zh40 64 (by decide))]
    rw [← e]; exact h
  · exact h
  · exact h
  · exact h
  · exact h
  · exact h
  · exact h
  · exact h
  · exact h
  · exact h
  · exact h
  · exact h
  · exact h
  · exact h
  · exact h
  · exact h
  · exact h
  · exact h
  · exact h
  · exact h
  · exact h
  · exact h
  · exact h
  · exact h
  · exact h
  · exact h
  · exact h
  · exact h
  · exact h
  · exact h
  · exact h
  · exact h
  · exact h
  · exact h
  · exact h
  · exact h
  · exact h
  · exact h
  · exact h
  · exact h
  · exact h
  · exact h
  · exact h
  · exact h
  · exact h
  · exact h
theorem zfinC {E : zE} {H : Heap} (hP : va_P E.1 vwCl (zwB E (zALC.take 142) zc0) H) : va_P E.1 vwCl (zw E zNC zc0) H := zfin (z := 0) hP (fun x hx => by
  obtain ⟨j, hj⟩ := List.getElem?_of_mem (zsubC x hx)
  obtain ⟨k, i⟩ := x
  exact ⟨j, (zatC hj).1, hj⟩) zrow_zNC
theorem zfinM {E : zE} {H : Heap} (hP : va_P E.1 vwCl (zwB E (zALM.take 46) zm0) H) : va_P E.1 vwCl (zw E zNM zm0) H := zfin (z := 0) hP (fun x hx => by
  obtain ⟨j, hj⟩ := List.getElem?_of_mem (zsubM x hx)
  obtain ⟨k, i⟩ := x
  exact ⟨j, (zatM hj).1, hj⟩) zrow_zNM
theorem zArr {args : Array Value} {s : State} {ty : FieldType} (h : (Cond.arrayClass ty).before args s = true) (hty : ∀ C, ty ≠ .object C) : ∃ cA, ArrOfT s cA ty ∧ va_RA s cA ty := by
  obtain ⟨cA, kA, comp, h1, h2, h3⟩ := Cond.arrayClass_spec h
  refine ⟨cA, fun n z => ⟨fun k h => (by cases h), kA, h2, comp, h3⟩, ?_⟩
  cases ty with
  | object C => exact absurd rfl (hty C)
  | _ => exact h1
theorem zArrO {args : Array Value} {s : State} {C : String} (h : (Cond.arrayOver (.object C)).before args s = true) : ∃ cA, ArrOfT s cA (.object C) ∧ va_RA s cA (.object C) := by
  obtain ⟨comp, cA, kA, h1, h2, h3, h4, h5⟩ := Cond.arrayOver_spec h
  exact ⟨cA, fun n z => ⟨fun k h => (by cases h), kA, h3, comp, h4⟩, kA, comp, h3, h4, h1, h5⟩
set_option maxHeartbeats 4000000 in
set_option maxRecDepth 100000 in
theorem zTab {args : Array Value} {s : State} (hts : ∀ w ∈ lw_tbl, w.before args s = true) (hgv : (Jvm.Cond.and given_1 narrow_1).before args s = true) (k : Nat) (hk : k < 3) : ∃ t : Nat, va_Z (zst_c k) (zst_n k) "[I" (.ref t) (fun q => s.heap.size ≤ q) s s.heap ∧ va_T .int t (zst_l k) (fun j => .int (zst k j)) (fun q => s.heap.size ≤ q) s s.heap := by
  have fl := flat_of_before _ hgv
  have hA : ∀ a : Nat, a < s.heap.size → ¬ (fun q => s.heap.size ≤ q) a := fun a h => by show ¬ s.heap.size ≤ a; omega
  have h1 : (Cond.arrayOf (.static (zst_c k) (zst_n k) "[I") .int).before args s = true := fl _ ((by decide +kernel : ∀ k, k < 3 → Cond.arrayOf (.static (zst_c k) (zst_n k) "[I") .int ∈ flatC (Jvm.Cond.and given_1 narrow_1)) k hk)
  have h2 : (Cond.eq (.length (.static (zst_c k) (zst_n k) "[I")) (.int (Int32.ofNat (zst_l k)))).before args s = true := fl _ ((by decide +kernel : ∀ k, k < 3 → Cond.eq (.length (.static (zst_c k) (zst_n k) "[I")) (.int (Int32.ofNat (zst_l k))) ∈ flatC (Jvm.Cond.and given_1 narrow_1)) k hk)
  have h3 : ∀ j, j < zst_l k → (Cond.eq (.elem (.static (zst_c k) (zst_n k) "[I") (.int (Int32.ofNat j))) (.int (zst k j))).before args s = true := fun j hj => fl _ ((by decide +kernel : ∀ k, k < 3 → ∀ j, j < zst_l k → Cond.eq (.elem (.static (zst_c k) (zst_n k) "[I") (.int (Int32.ofNat j))) (.int (zst k j)) ∈ flatC (Jvm.Cond.and given_1 narrow_1)) k hk j hj)
  have h4 : (Cond.laysStatic (zst_c k) (zst_n k) "[I").before args s = true := hts _ ((by decide +kernel : ∀ k, k < 3 → Cond.laysStatic (zst_c k) (zst_n k) "[I" ∈ lw_tbl) k hk)
  have h5 : (Cond.initialized (zst_c k)).before args s = true := hts _ ((by decide +kernel : ∀ k, k < 3 → Cond.initialized (zst_c k) ∈ lw_tbl) k hk)
  obtain ⟨t, ht, hT⟩ := va_Tof (f := fun j => .int (zst k j)) ((by decide +kernel : ∀ k, k < 3 → zst_l k < 2 ^ 31) k hk) h1 (va_eqt h2) (fun j hj => va_eqt (h3 j hj)) hA
  exact ⟨t, va_Zof h4 h5 ht hA, hT⟩
def ztm (i : Nat) : Term := .string "TwoTrue$Text" (ztx_k i)
set_option maxHeartbeats 4000000 in
set_option maxRecDepth 100000 in
theorem zTxt {args : Array Value} {s : State} (hgv : (Jvm.Cond.and given_1 narrow_1).before args s = true) : ∃ adK adV : Nat → Nat, vk_S 4 zlen zbyt adK adV (fun q => s.heap.size ≤ q) s s.heap ∧ ∀ i : Nat, i < 4 → (ztm i).eval args s none [] s = some (.ref (adK i)) := by
  have fl := flat_of_before _ hgv
  have hA : ∀ a : Nat, a < s.heap.size → ¬ (fun q => s.heap.size ≤ q) a := fun a h => by show ¬ s.heap.size ≤ a; omega
  refine vk_Sof (tm := ztm) (by decide +kernel) ?_ ?_ ?_ ?_ ?_ ?_ hA
  · exact fun i hi => fl _ ((by decide +kernel : ∀ i, i < 4 → Cond.exactly (ztm i) "java/lang/String" ∈ flatC (Jvm.Cond.and given_1 narrow_1)) i hi)
  · exact fun i hi => fl _ ((by decide +kernel : ∀ i, i < 4 → Cond.eq (.field (ztm i) "java/lang/String" "coder" "B") (.int 0) ∈ flatC (Jvm.Cond.and given_1 narrow_1)) i hi)
  · exact fun i hi => fl _ ((by decide +kernel : ∀ i, i < 4 → Cond.arrayOf (.field (ztm i) "java/lang/String" "value" "[B") .byte ∈ flatC (Jvm.Cond.and given_1 narrow_1)) i hi)
  · exact fun i hi => fl _ ((by decide +kernel : ∀ i, i < 4 → Cond.eq (.length (.field (ztm i) "java/lang/String" "value" "[B")) (.int (Int32.ofNat (zlen.getD i 0))) ∈ flatC (Jvm.Cond.and given_1 narrow_1)) i hi)
  · exact fun i hi j hj => fl _ ((by decide +kernel : ∀ i, i < 4 → ∀ j, j < zlen.getD i 0 → Cond.eq (.elem (.field (ztm i) "java/lang/String" "value" "[B") (.int (Int32.ofNat j))) (.int ((zbyt.getD i []).getD j 0)) ∈ flatC (Jvm.Cond.and given_1 narrow_1)) i hi j hj)
  · intro i j hi hj hij
    rcases (by decide +kernel : ∀ i, i < 4 → ∀ j, j < 4 → i ≠ j → (Cond.not (Cond.eq (ztm i) (ztm j)) ∈ flatC (Jvm.Cond.and given_1 narrow_1) ∨ Cond.not (Cond.eq (ztm j) (ztm i)) ∈ flatC (Jvm.Cond.and given_1 narrow_1))) i hi j hj hij with h | h
    · exact Or.inl (fl _ h)
    · exact Or.inr (fl _ h)
theorem zIsRef {args : Array Value} {s : State} {t : Term} (h : (Cond.isRef t).before args s = true) : ∃ a : Option Nat, t.eval args s none [] s = some (va_rf a) := by
  simp only [Cond.before, Cond.holds, Cond.value] at h
  cases hv : t.eval args s none [] s with
  | none => simp [hv] at h
  | some w =>
    cases w with
    | null => exact ⟨none, rfl⟩
    | ref a => exact ⟨some a, rfl⟩
    | _ => simp [hv] at h
theorem zStr {args : Array Value} {s : State} {own : String} {k a : Nat} (h : (Term.string own k).eval args s none [] s = some (.ref a)) : (Term.string own k).eval args s none [] s = some (.ref a) := h
set_option maxHeartbeats 4000000 in
set_option maxRecDepth 100000 in
theorem zstart {args : Array Value} {s : State} (hts : ∀ w ∈ lw_tbl, w.before args s = true) (hgv : (Jvm.Cond.and given_1 narrow_1).before args s = true) : ∃ E : zE, (∀ k i, zad E k i = s.heap.size + zpos k i) ∧ va_K E.1 vwCl (zty E) s ∧ zNw s ∧ zEv E (fun q => s.heap.size ≤ q) s s.heap := by
  have hA : ∀ a : Nat, a < s.heap.size → ¬ (fun q => s.heap.size ≤ q) a := fun a h => by show ¬ s.heap.size ≤ a; omega
  have fl := flat_of_before _ hgv
  obtain ⟨c0, iS0, hKn0⟩ := u_known (C := RX0) (T := TX0) (N := 2) (n := 2) hts (fun w h => (iX0 w h).1) (hts (.instantiable RX0 2) (by decide +kernel))
  obtain ⟨c1, iS1, hKn1⟩ := u_known (C := RX1) (T := TX1) (N := 4) (n := 4) hts (fun w h => (iX1 w h).1) (hts (.instantiable RX1 4) (by decide +kernel))
  obtain ⟨c2, iS2, hKn2⟩ := u_known (C := RX2) (T := TX2) (N := 7) (n := 7) hts (fun w h => (iX2 w h).1) (hts (.instantiable RX2 7) (by decide +kernel))
  obtain ⟨c3, iS3, hKn3⟩ := u_known (C := RX3) (T := TX3) (N := 9) (n := 9) hts (fun w h => (iX3 w h).1) (hts (.instantiable RX3 9) (by decide +kernel))
  obtain ⟨c4, iS4, hKn4⟩ := u_known (C := RX4) (T := TX4) (N := 7) (n := 7) hts (fun w h => (iX4 w h).1) (hts (.instantiable RX4 7) (by decide +kernel))
  obtain ⟨c5, iS5, hKn5⟩ := u_known (C := RX5) (T := TX5) (N := 3) (n := 3) hts (fun w h => (iX5 w h).1) (hts (.instantiable RX5 3) (by decide +kernel))
  obtain ⟨c6, iS6, hKn6⟩ := u_known (C := RX6) (T := TX6) (N := 4) (n := 4) hts (fun w h => (iX6 w h).1) (hts (.instantiable RX6 4) (by decide +kernel))
  obtain ⟨c7, iS7, hKn7⟩ := u_known (C := RX7) (T := TX7) (N := 14) (n := 14) hts (fun w h => (iX7 w h).1) (hts (.instantiable RX7 14) (by decide +kernel))
  obtain ⟨c8, iS8, hKn8⟩ := u_known (C := RX8) (T := TX8) (N := 65) (n := 65) hts (fun w h => (iX8 w h).1) (hts (.instantiable RX8 65) (by decide +kernel))
  obtain ⟨dC, dI, hKc⟩ : ∃ (dC : Nat → ClassId) (dI : Nat → Nat → Nat), ∀ (k : Nat) (q : vw_C), vwCl[k]? = some q → u_Kn s q.1 q.2.1 q.2.2 (dC k) (dI k) := by
    refine ⟨fun k => if k = 0 then c0 else if k = 1 then c1 else if k = 2 then c2 else if k = 3 then c3 else if k = 4 then c4 else if k = 5 then c5 else if k = 6 then c6 else if k = 7 then c7 else c8, fun k => if k = 0 then iS0 else if k = 1 then iS1 else if k = 2 then iS2 else if k = 3 then iS3 else if k = 4 then iS4 else if k = 5 then iS5 else if k = 6 then iS6 else if k = 7 then iS7 else iS8, ?_⟩
    intro k q hq
    match k, hq with
    | 0, hq => cases hq; exact hKn0
    | 1, hq => cases hq; exact hKn1
    | 2, hq => cases hq; exact hKn2
    | 3, hq => cases hq; exact hKn3
    | 4, hq => cases hq; exact hKn4
    | 5, hq => cases hq; exact hKn5
    | 6, hq => cases hq; exact hKn6
    | 7, hq => cases hq; exact hKn7
    | 8, hq => cases hq; exact hKn8
    | k + 9, hq => simp [vwCl] at hq
  obtain ⟨a0, ha0, hb0⟩ := zArr (hts (.arrayClass .int) (by decide +kernel)) (fun C h => by cases h)
  obtain ⟨a1, ha1, hb1⟩ := zArr (hts (.arrayClass .long) (by decide +kernel)) (fun C h => by cases h)
  obtain ⟨a2, ha2, hb2⟩ := zArr (hts (.arrayClass .boolean) (by decide +kernel)) (fun C h => by cases h)
  obtain ⟨a3, ha3, hb3⟩ := zArrO (hts (.arrayOver (.object "TwoTrue$Person")) (by decide +kernel))
  obtain ⟨a4, ha4, hb4⟩ := zArrO (hts (.arrayOver (.object "TwoTrue$Evening")) (by decide +kernel))
  obtain ⟨sa, hsa⟩ : ∃ sa : Nat → Nat, ∀ k, k < 3 → va_Z (zst_c k) (zst_n k) "[I" (.ref (sa k)) (fun q => s.heap.size ≤ q) s s.heap ∧ va_T .int (sa k) (zst_l k) (fun j => .int (zst k j)) (fun q => s.heap.size ≤ q) s s.heap := by
    obtain ⟨t0, h0⟩ := zTab hts hgv 0 (by decide)
    obtain ⟨t1, h1⟩ := zTab hts hgv 1 (by decide)
    obtain ⟨t2, h2⟩ := zTab hts hgv 2 (by decide)
    refine ⟨fun k => if k = 0 then t0 else if k = 1 then t1 else t2, fun k hk => ?_⟩
    rcases (show k = 0 ∨ k = 1 ∨ k = 2 by omega) with rfl | rfl | rfl
    · exact h0
    · exact h1
    · exact h2
  obtain ⟨sk, sv, hvk, hev⟩ := zTxt hgv
  let E : zE := ((dC, dI), fun k => if k = 0 then a0 else if k = 1 then a1 else if k = 2 then a2 else if k = 3 then a3 else a4, fun k i => s.heap.size + zpos k i, sa, sk, sv)
  refine ⟨E, fun k i => rfl, ⟨hKc, fun k q h => ?_⟩, ⟨fun q hq => ?_, va_AO.of (hts (.arrayOver (.object "TwoTrue$Person")) (by decide +kernel)), va_AO.of (hts (.arrayOver (.object "TwoTrue$Evening")) (by decide +kernel))⟩, hsa, ?_, ?_, hvk, fun i hi => ?_, fun q hq => ?_, ?_⟩
  · match k, h with
    | 0, h => cases h; exact ⟨ha0, hb0⟩
    | 1, h => cases h; exact ⟨ha1, hb1⟩
    | 2, h => cases h; exact ⟨ha2, hb2⟩
    | 3, h => cases h; exact ⟨ha3, hb3⟩
    | 4, h => cases h; exact ⟨ha4, hb4⟩
    | k + 5, h => simp [zty] at h
  · exact va_Nw.of rfl (hts _ ((by decide +kernel : ∀ q ∈ znM, Cond.methodLinkNest q.1 q.2.1 q.2.2 "TwoTrue" ∈ lw_tbl) q hq))
  · exact va_Zof (hts (.laysStatic "java/lang/String" "COMPACT_STRINGS" "Z") (by decide +kernel)) (hts (.initialized "java/lang/String") (by decide +kernel)) (va_eqt (fl (.eq (.static "java/lang/String" "COMPACT_STRINGS" "Z") (.int 1)) (by decide +kernel))) hA
  · obtain ⟨t, ht⟩ := zIsRef (fl (.isRef (.static "jdk/internal/util/Preconditions" "SIOOBE_FORMATTER" "Ljava/util/function/BiFunction;")) (by decide +kernel))
    exact ⟨t, va_Zof (hts (.laysStatic "jdk/internal/util/Preconditions" "SIOOBE_FORMATTER" "Ljava/util/function/BiFunction;") (by decide +kernel)) (hts (.initialized "jdk/internal/util/Preconditions") (by decide +kernel)) ht hA⟩
  · exact vk_R.of (A := args) (hts _ ((by decide +kernel : ∀ i, i < 4 → Cond.stringRef "TwoTrue$Text" (ztx_k i) (ztx i) ∈ lw_tbl) i hi)) (zStr (hev i hi))
  · exact va_Nw.of rfl (hts _ ((by decide +kernel : ∀ q ∈ znM, Cond.methodLinkNest q.1 q.2.1 q.2.2 "TwoTrue" ∈ lw_tbl) q hq))
  · exact va_Nw.of rfl (hts (.fieldLinkNest "TwoTrue$Acts" 28 "TwoTrue" "KIND_ABOVE" "[I" "TwoTrue") (by decide +kernel))
