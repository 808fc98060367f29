/-! what keeps the invariant: the searches, element -/
section KE9
variable {σ σ' ρ ρ' : Mem}
theorem INV_w (I : INV σ ρ) (h : ∀ i, i < 84 → σ' i = σ i) (hr : ∀ i, 92 ≤ i → i ≤ 101 → ρ' i = ρ i) (h91 : ρ' 91 10 = ρ 91 10) : INV σ' ρ' := by
  obtain ⟨⟨m, len, n, R⟩, L, ⟨⟨w1, w2⟩, w3, w4⟩, G, S⟩ := I
  refine ⟨⟨m, len, n, ?_⟩, LZ_cc L (fun i _ h2 => h i (by omega)), ?_, IMG_cc G (fun i _ h2 => h i (by omega)) (h 66 (by omega)) (hr 93 (by omega) (by omega)) h91, SH_cc S (fun i _ h2 => h i (by omega)) (fun i h1 h2 => hr i (by omega) (by omega))⟩
  · rw [hr 92 (by omega) (by omega)]
    exact RT_cc R (fun i _ h2 => h i (by omega))
  · unfold WN
    rw [h 0 (by omega), h 44 (by omega)]
    exact ⟨⟨w1, w2⟩, w3, w4⟩
theorem INV_rowsC (I : INV σ σ) (h : ∀ a, a ≠ 88 → a ≠ 89 → a ≠ 90 → σ' a = σ a) : INV σ' σ' := INV_w I (fun i hi => h i (by omega) (by omega) (by omega)) (fun i h1 _ => h i (by omega) (by omega) (by omega)) (by rw [h 91 (by omega) (by omega) (by omega)])
theorem INV_rowsR (I : INV σ σ) (h : Fr9 σ σ') : INV σ' σ' := INV_w I (fun i hi => h.1 i (by omega) (by omega) (by omega)) (fun i h1 h2 => h.1 i (by omega) (by omega) (by omega)) (h.2 10 (by omega))
theorem INV_elem (I : INV σ σ) (v : Int32) : INV (stm σ 91 11 v) (stm σ 91 11 v) := INV_w I (fun i hi => stm_ne _ _ _ (by omega)) (fun i h1 h2 => stm_ne _ _ _ (by omega)) (by rw [stm_row, upd_ne _ _ (by omega)])
/-- the reference's element returns; the invariant stays; its code is the class's, its value too -/
theorem elem_one (I : INV σ σ) (d i : Int32) : ∃ σ' r, F_X8_element σ d i = some (σ', r) ∧ INV σ' σ' ∧ ((d < 0 ∨ 8 ≤ d) ∧ σ' = stm σ 91 11 1 ∨ (¬ (d < 0 ∨ 8 ≤ d) ∧ (¬ ∃ j k, EOK σ d i j k) ∧ σ' = stm σ 91 11 2) ∨ ∃ j k, EOK σ d i j k ∧ σ' = stm σ 91 11 0 ∧ r = (σ (76 + j) k).toInt64) := by
  have S := I.2.2.2.2
  unfold F_X8_element
  rcases shelf_x (ρ := σ) d with ⟨h1, h2⟩ | ⟨j, hj, rfl, h1, h2⟩
  · rw [h2, Option.bind_some, if_pos rfl]
    exact ⟨_, _, rfl, INV_elem I 1, Or.inl ⟨h1, rfl⟩⟩
  · obtain ⟨⟨s1, s2⟩, s3, s4, ⟨s5, z, hz, ez⟩, s6⟩ := S j hj
    rw [h2, Option.bind_some, if_neg i10, ix_nI hj (by decide), Option.bind_some]
    have jj : ∀ q : Nat, q < 8 → nI j = nI q → q = j := fun q hq e => (nI_inj e (by omega) (by omega)).symm
    by_cases k2 : σ 96 j = 2
    · rw [if_pos k2]
      by_cases b : 0 ≤ i ∧ i ≤ σ 98 j - 1
      · have hi : ∃ k : Nat, k < z ∧ i = nI k := by
          obtain ⟨b1, b2⟩ := b
          have z0 : (0 : Int32).toInt = 0 := by decide
          have z1 : (1 : Int32).toInt = 1 := by decide
          have e := nI_toInt (n := z) (by omega)
          rw [i32_le, z0] at b1
          rw [ez, i32_le, t_sub (by rw [e, z1]; omega) (by rw [e, z1]; omega), e, z1] at b2
          exact ⟨i.toInt.toNat, by omega, nI_i b1 (by omega)⟩
        obtain ⟨k, hk, rfl⟩ := hi
        rw [if_pos b, ix99 hj (by omega), Option.bind_some]
        refine ⟨_, _, rfl, INV_elem I 0, Or.inr (Or.inr ⟨j, k, ⟨⟨hj, by omega⟩, ⟨rfl, rfl⟩, s1.trans k2, ?_⟩, rfl, by rw [s6 k (by omega)]⟩)⟩
        rw [s5, ez]
        exact nI_ge hk (by omega)
      · rw [if_neg b]
        refine ⟨_, _, rfl, INV_elem I 2, Or.inr (Or.inl ⟨h1, ?_, rfl⟩)⟩
        rintro ⟨q, k, ⟨q8, k100⟩, ⟨e1, rfl⟩, e3, e4⟩
        obtain rfl := jj q q8 e1
        rw [s5, ez] at e4
        have kz : k < z := by
          rcases Nat.lt_or_ge k z with w | w
          · exact w
          · exact absurd (nI_le w (by omega)) e4
        refine b ⟨nI_le (a := 0) (b := k) (by omega) (by omega), ?_⟩
        have z1 : (1 : Int32).toInt = 1 := by decide
        have e := nI_toInt (n := z) (by omega)
        have e' := nI_toInt (n := k) (by omega)
        rw [ez, i32_le, t_sub (by rw [e, z1]; omega) (by rw [e, z1]; omega), e, e', z1]
        omega
    · rw [if_neg k2]
      refine ⟨_, _, rfl, INV_elem I 2, Or.inr (Or.inl ⟨h1, ?_, rfl⟩)⟩
      rintro ⟨q, k, ⟨q8, -⟩, ⟨e1, -⟩, e3, -⟩
      obtain rfl := jj q q8 e1
      exact k2 (s1.symm.trans e3)
end KE9
