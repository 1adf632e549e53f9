/-! ===== at the start all holds ===== -/
theorem IN_start : IN (σ0 136) := by
  refine ⟨⟨⟨0, by decide, rfl⟩, ⟨⟨0, by decide, rfl⟩, ⟨0, by decide, rfl⟩, ⟨0, by decide, rfl⟩, ⟨0, by decide, rfl⟩, ⟨0, by decide, rfl⟩, ⟨0, by decide, rfl⟩⟩, ⟨fun u hu => ?_, fun k hk => ?_⟩, ⟨4, by decide, by decide, rfl⟩, fun g hg => absurd hg (Nat.not_lt_zero g), fun a ha => absurd ha (Nat.not_lt_zero a), fun a a' ha => absurd ha (Nat.not_lt_zero a), fun t ht => absurd ht (Nat.not_lt_zero t), fun j hj => ?_⟩, ⟨0, by decide, rfl⟩, by decide +kernel⟩
  · rcases (show u = 0 ∨ u = 1 ∨ u = 2 ∨ u = 3 by omega) with rfl | rfl | rfl | rfl
    · exact ⟨0, by decide, rfl⟩
    · exact ⟨1, by decide, rfl⟩
    · exact ⟨2, by decide, rfl⟩
    · exact ⟨3, by decide, rfl⟩
  · rcases (show k = 0 ∨ k = 1 ∨ k = 2 ∨ k = 3 ∨ k = 4 ∨ k = 5 by omega) with rfl | rfl | rfl | rfl | rfl | rfl <;> decide +kernel
  · show upd _ _ _ j = 0
    simp (disch := omega) only [upd_ne]
theorem IA_start : IA (mv σ0) := by
  refine ⟨IN_start, fun z => absurd rfl z, fun j _ => rfl, Or.inl rfl, ⟨0, by decide, rfl, fun i hi => absurd hi (Nat.not_lt_zero i)⟩, fun s hs => ⟨0, by decide, rfl⟩⟩
theorem MT_start : MT σ0 := fun j _ => rfl
theorem RW_start : RW σ0 12 (σ0 136) := by
  refine ⟨⟨rfl, fun g hg => absurd hg (Nat.not_lt_zero g)⟩, ⟨rfl, fun g hg => absurd hg (Nat.not_lt_zero g)⟩, ⟨fun g hg => ?_, fun p hp => ?_⟩, ⟨rfl, fun g hg => absurd hg (Nat.not_lt_zero g)⟩, ⟨rfl, fun g hg => absurd hg (Nat.not_lt_zero g)⟩, ⟨⟨fun k hk => ?_, fun u hu => ?_⟩, 0, rfl, fun i hi => absurd hi (Nat.not_lt_zero i), fun i j h1 h2 => absurd h2 (Nat.not_lt_zero j), fun l hl z => ?_⟩, ⟨rfl, fun g hg => absurd hg (Nat.not_lt_zero g)⟩, ⟨rfl, rfl, rfl, rfl, fun i hi => ?_, fun u hu => ?_⟩, fun t ht => absurd ht (Nat.not_lt_zero t)⟩
  · rcases (show g = 0 ∨ g = 1 ∨ g = 2 ∨ g = 3 ∨ g = 4 ∨ g = 5 ∨ g = 6 ∨ g = 7 ∨ g = 8 ∨ g = 9 by omega) with rfl | rfl | rfl | rfl | rfl | rfl | rfl | rfl | rfl | rfl <;> decide +kernel
  · rcases (show p = 0 ∨ p = 1 ∨ p = 2 ∨ p = 3 ∨ p = 4 ∨ p = 5 ∨ p = 6 ∨ p = 7 ∨ p = 8 ∨ p = 9 ∨ p = 10 ∨ p = 11 ∨ p = 12 ∨ p = 13 by omega) with rfl | rfl | rfl | rfl | rfl | rfl | rfl | rfl | rfl | rfl | rfl | rfl | rfl | rfl <;> decide +kernel
  · rcases (show k = 0 ∨ k = 1 ∨ k = 2 ∨ k = 3 ∨ k = 4 ∨ k = 5 by omega) with rfl | rfl | rfl | rfl | rfl | rfl <;> rfl
  · rcases (show u = 0 ∨ u = 1 ∨ u = 2 ∨ u = 3 by omega) with rfl | rfl | rfl | rfl <;> rfl
  · rcases (show l = 0 ∨ l = 1 ∨ l = 2 ∨ l = 3 ∨ l = 4 ∨ l = 5 by omega) with rfl | rfl | rfl | rfl | rfl | rfl <;> exact absurd z (by decide +kernel)
  · rcases (show i = 0 ∨ i = 1 ∨ i = 2 ∨ i = 3 by omega) with rfl | rfl | rfl | rfl <;> rfl
  · rcases (show u = 0 ∨ u = 1 by omega) with rfl | rfl <;> rfl
theorem RC_start : RC σ0 (mv σ0) := by
  refine ⟨RW_start, fun z => absurd rfl z, rfl, fun i hi => rfl, ⟨rfl, rfl⟩, fun s hs => ⟨?_, ?_, fun i hi => absurd hi (Nat.not_lt_zero i)⟩⟩
  · rfl
  · rfl
