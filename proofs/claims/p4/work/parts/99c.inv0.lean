/-! the invariant at the start -/
theorem INV0 : INV sig0 sig0 := by
  have z : ∀ v, v < 3 → sig0 92 (38 + 2 * v) = 0 ∧ sig0 92 (39 + 2 * v) = 0 ∧ sig0 11 v = 0 ∧ sig0 12 v = 0 := by decide +kernel
  have r5 : ∀ p, p < 9 → 1 ≤ p → sig0 92 (5 + p) = 1 := by decide +kernel
  have o14 : ∀ s, s < 73 → sig0 14 s = 0 := by decide +kernel
  have c5 : ∀ j, j < 7 → sig0 (22 * 0 + 15 + j) 5 = 0 := by decide +kernel
  have cb : cb01 sig0 0 := fun j hj b h12 h4 => by
    have q : ∀ j, j < 7 → sig0 (22 * 0 + 15 + j) 0 = 0 ∧ sig0 (22 * 0 + 15 + j) 1 = 0 ∧ sig0 (22 * 0 + 15 + j) 7 = 0 ∧ sig0 (22 * 0 + 15 + j) 8 = 0 := by decide +kernel
    obtain ⟨q0, q1, q7, q8⟩ := q j hj
    rcases h4 with rfl | rfl | rfl | rfl
    · exact Or.inl q0
    · exact Or.inl q1
    · exact Or.inl q7
    · exact Or.inl q8
  have sh : ∀ d, d < 8 → sig0 (68 + d) 0 = 0 ∧ sig0 96 d = 0 ∧ sig0 (68 + d) 3 = 0 ∧ sig0 97 d = 0 ∧ sig0 (68 + d) 4 = 0 ∧ sig0 98 d = 0 := by decide +kernel
  have v7 : ∀ d, d < 8 → ∀ i, i < 100 → sig0 (76 + d) i = sig0 99 (100 * d + i) := by decide +kernel
  refine ⟨⟨0, fun _ => 2, 0, ⟨⟨rfl, by omega⟩, fun p hp => absurd hp (by omega), fun p hp => absurd hp (by omega), fun p hp => absurd hp (by omega), fun p h1 h8 => ?_, fun v hv => ?_⟩, ⟨rfl, by omega⟩, ⟨0, by omega, rfl⟩, fun c hc => absurd hc (by omega), ⟨rfl, rfl, fun p hp => absurd hp (by omega), fun p h1 h2 => absurd h1 (by omega), fun p hp => ?_, fun p x hp => absurd hp (by omega), fun p x hp => absurd hp (by omega), fun v hv => ?_⟩, ⟨rfl, rfl, rfl, rfl⟩, fun c hc => absurd hc (by omega), cb, fun s hs => o14 s hs, fun c hc => absurd hc (by omega)⟩, c5, ⟨⟨rfl, rfl⟩, rfl, rfl⟩, Or.inl ⟨rfl, rfl⟩, fun d hd => ?_⟩
  · rw [r5 p (by omega) h1]; exact ⟨by decide, fun _ => rfl⟩
  · obtain ⟨a, b, -, -⟩ := z v hv
    rw [a, b]; decide
  · obtain rfl : p = 0 := by omega
    exact ⟨rfl, rfl, rfl, rfl⟩
  · obtain ⟨a, b, c, d⟩ := z v hv
    exact ⟨c.trans a.symm, d.trans b.symm⟩
  · obtain ⟨a1, a2, a3, a4, a5, a6⟩ := sh d hd
    exact ⟨⟨a1.trans a2.symm, Or.inl a2⟩, fun h => absurd (a2.symm.trans h) (by decide), a3.trans a4.symm, ⟨a5.trans a6.symm, 0, by omega, a6⟩, v7 d hd⟩
