theorem Rl0 : Rl zc0 zm0 := by
  refine ⟨0, 0, 0, 0, 0, -nI 1, ⟨by omega, by omega, by omega, by omega, by omega, Or.inl rfl⟩, ⟨?_, ?_, ?_, ?_, ?_, ?_⟩, ⟨?_, ?_, ?_, ?_, ?_, ?_, ?_⟩, ?_, ?_, ?_, ?_, ?_, ?_, ?_, ?_, ?_, ?_⟩
  · decide +kernel
  · decide +kernel
  · decide +kernel
  · decide +kernel
  · decide +kernel
  · decide +kernel
  · decide +kernel
  · decide +kernel
  · decide +kernel
  · decide +kernel
  · decide +kernel
  · decide +kernel
  · decide +kernel
  · unfold Rnum; decide +kernel
  · intro p hp; omega
  · intro p hp; omega
  · unfold Rsn; decide +kernel
  · intro p hp; omega
  · exact ⟨fun e he => absurd he (Nat.not_lt_zero _), by decide +kernel, by decide +kernel⟩
  · exact Or.inl ⟨by decide +kernel, by decide +kernel⟩
  · exact ⟨0, by omega, by decide +kernel, by decide +kernel, fun j hj _ => absurd hj (Nat.not_lt_zero _)⟩
  · intro t ht
    have a : ∀ t, t < 6 → zc0.1 29 0 t = nI 0 ∧ zm0.1 83 0 t = nI 0 ∧ zc0.1 28 0 t = -nI 1 ∧ zm0.1 82 0 t = -nI 1 := by decide +kernel
    obtain ⟨a1, a2, a3, a4⟩ := a t ht
    exact ⟨0, by omega, a1, a2, fun j hj => absurd hj (Nat.not_lt_zero _), Or.inl ⟨a3, a4, rfl⟩⟩
  · unfold Rlt; decide +kernel
