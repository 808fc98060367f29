/-! stands, ended, costs -/
section EN2
variable {σ ρ : Mem} {t a m n : Nat} {len : Nat → Nat}
theorem occ_0 {sp : Nat → Int} {x : Int} {n : Nat} : occ sp x n = 0 ↔ ∀ i, i < n → ¬ sp i = x := by
  induction n with
  | zero => exact ⟨fun _ i hi => absurd hi (Nat.not_lt_zero _), fun _ => rfl⟩
  | succ n ih =>
    simp only [occ]
    constructor
    · intro h i hi
      by_cases e : i = n
      · subst e
        intro q
        simp [q] at h
      · exact ih.mp (by omega) i (by omega)
    · intro h
      have h1 := ih.mpr (fun i hi => h i (by omega))
      have h2 := h n (by omega)
      simp [h1, h2]
theorem stands22_l (hn : ρ a 1 = nI n) (h7 : n ≤ 7) : ∀ (d j nn : Nat), j + d = n → d < nn → F_X8_stands_22 ρ a nn (nI j) = some (bI (decide (∀ i, i < n → j ≤ i → ¬ ρ a (49 + 11 * i) = -2))) := by
  intro d
  induction d with
  | zero =>
    intro j nn e1 e2
    obtain rfl : j = n := by omega
    obtain ⟨nn, rfl⟩ : ∃ j, nn = j + 1 := ⟨nn - 1, by omega⟩
    rw [F_X8_stands_22, hn, if_pos (nI_le (Nat.le_refl _) (by omega)), decide_eq_true (fun i h1 h2 => by omega), bI_t]
  | succ d ih =>
    intro j nn e1 e2
    obtain ⟨nn, rfl⟩ : ∃ j, nn = j + 1 := ⟨nn - 1, by omega⟩
    rw [F_X8_stands_22, hn, if_neg (nI_ge (by omega) (by omega)), get5 (by omega), Option.bind_some, nI_1, ih (j + 1) nn (by omega) (by omega)]
    by_cases k : ρ a (49 + 11 * j) = -2
    · rw [if_pos k, decide_eq_false (fun h => h j (by omega) (Nat.le_refl _) k), bI_f]
    · rw [if_neg k]
      congr 2
      refine decide_eq_decide.mpr ⟨fun h i h1 h2 => ?_, fun h i h1 h2 => h i h1 (by omega)⟩
      by_cases e : i = j
      · subst e; exact k
      · exact h i h1 (by omega)
theorem stands_p (R : RT σ t (ρ a) m len n) : ∃ b, F_X6_stands σ t = some (bI b) ∧ F_X8_stands ρ a = some (bI b) := by
  have h7 := RT_7 R
  have fu : n < FU := Nat.lt_of_le_of_lt h7 (by decide)
  have hn := RT_n R
  have o3 := occ_le (spk (ρ a)) (-3) n
  have m2 : (-2 : Int32).toInt = -2 := by decide
  have m3 : (-3 : Int32).toInt = -3 := by decide
  unfold F_X6_stands F_X8_stands
  rw [RT_4 R, howMany_c R, howMany_c R, doneOf_r hn h7, Option.bind_some, Option.bind_some, Option.bind_some, m2, m3, hn, RT_2 R, show (0 : Int32) = nI 0 from rfl, stands22_l hn h7 n 0 FU (by omega) fu]
  by_cases k1 : ρ a 3 < 60
  · rw [if_pos k1, if_pos k1]; exact ⟨false, rfl, rfl⟩
  · rw [if_neg k1, if_neg k1]
    have e2 : (∀ i, i < n → 0 ≤ i → ¬ ρ a (49 + 11 * i) = -2) ↔ occ (spk (ρ a)) (-2) n = 0 := by
      rw [occ_0]
      exact ⟨fun h i hi q => h i hi (Nat.zero_le _) (Int32.toInt_inj.mp (q.trans m2.symm)), fun h i hi _ q => h i hi (by show (ρ a (49 + 11 * i)).toInt = -2; rw [q, m2])⟩
    by_cases k2 : occ (spk (ρ a)) (-2) n = 0
    · rw [k2, if_pos rfl, decide_eq_true (e2.mpr k2), bI_t]
      by_cases k3 : n ≤ occ (spk (ρ a)) (-3) n
      · rw [if_pos (nI_le k3 (by omega)), if_pos (by rw [show occ (spk (ρ a)) (-3) n = n by omega])]; exact ⟨false, rfl, rfl⟩
      · rw [if_neg (nI_ge (by omega) (by omega)), if_neg (fun q => k3 (by have := nI_inj q (by omega) (by omega); omega))]; exact ⟨true, rfl, rfl⟩
    · have o2 := occ_le (spk (ρ a)) (-2) n
      rw [if_neg (fun q => k2 (nI_inj q (by omega) (by omega))), decide_eq_false (fun h => k2 (e2.mp h)), bI_f]
      refine ⟨false, rfl, ?_⟩
      by_cases k3 : nI (occ (spk (ρ a)) (-3) n) = nI n
      · rw [if_pos k3]; rfl
      · rw [if_neg k3]; rfl
theorem isEnded_p (R : RT σ t (ρ a) m len n) : ∃ b, F_X6_isEnded σ t = some (bI b) ∧ F_X8_isEnded ρ a = some (bI b) ∧ (b = false → ∃ M : Nat, M ≤ 998 ∧ ρ a 2 = nI M) := by
  have h7 := RT_7 R
  have hn := RT_n R
  obtain ⟨b, s1, s2⟩ := stands_p R
  obtain ⟨M, hM, eM⟩ := RT_M R
  have m3 : (-3 : Int32).toInt = -3 := by decide
  unfold F_X6_isEnded F_X8_isEnded
  rw [RT_3 R, howMany_c R, doneOf_r hn h7, s1, s2, Option.bind_some, Option.bind_some, Option.bind_some, Option.bind_some, m3, hn, RT_2 R, eM]
  by_cases k1 : 999 ≤ M
  · obtain rfl : M = 999 := by omega
    rw [if_pos (show (999 : Int32) ≤ nI 999 by decide)]
    refine ⟨true, rfl, ?_, nofun⟩
    by_cases k2 : nI (occ (spk (ρ a)) (-3) n) = nI n
    · rw [if_pos k2]; rfl
    · rw [if_neg k2]
      cases b with
      | false => rw [bI_f, if_pos rfl, if_pos (show nI 999 = (999 : Int32) from rfl)]; rfl
      | true => rw [bI_t, if_neg i10]
  · have k1' : ¬ (999 : Int32) ≤ nI M := nI_ge (a := M) (b := 999) (by omega) (by decide)
    have k3 : ¬ nI M = (999 : Int32) := fun q => by have := nI_inj (b := 999) q (by omega) (by decide); omega
    rw [if_neg k1', if_neg k3]
    by_cases k2 : nI (occ (spk (ρ a)) (-3) n) = nI n
    · rw [if_pos k2]; exact ⟨true, rfl, rfl, nofun⟩
    · rw [if_neg k2]
      cases b with
      | false => rw [bI_f, if_pos rfl]; exact ⟨false, rfl, rfl, fun _ => ⟨M, by omega, rfl⟩⟩
      | true => rw [bI_t, if_neg i10]; exact ⟨true, rfl, rfl, nofun⟩
/-- minutes till the end, and what they cost -/
theorem costs_l : ∀ (d nn nn2 i : Nat) (σ ρ : Mem), RT σ 2 (ρ 94) m len n → WW σ ρ 2 → 0 < m → (∃ M : Nat, M + d = 1000 ∧ i ≤ M ∧ ρ 94 2 = nI M) → d < nn → d < nn2 → ∃ σ' ρ' v, F_X7_costInMind_9 nn σ (nI i) = some (σ', v) ∧ F_X8_costs_0 nn2 ρ = some (ρ', v) ∧ MST σ ρ σ' ρ' 2 94 m len n := by
  intro d
  induction d with
  | zero =>
    intro nn nn2 i σ ρ R W hm hM _ _
    obtain ⟨M, h1, _, h2⟩ := hM
    obtain ⟨M', h3, h4⟩ := RT_M R
    have := nI_inj (h2.symm.trans h4) (by omega) (by omega)
    omega
  | succ d ih =>
    intro nn nn2 i σ ρ R W hm hM e1 e2
    obtain ⟨nn, rfl⟩ : ∃ j, nn = j + 1 := ⟨nn - 1, by omega⟩
    obtain ⟨nn2, rfl⟩ : ∃ j, nn2 = j + 1 := ⟨nn2 - 1, by omega⟩
    obtain ⟨M, h1, h1b, h2⟩ := hM
    obtain ⟨b, s1, s2, s3⟩ := isEnded_p R
    obtain ⟨bs, t1, t2⟩ := stands_p R
    obtain ⟨B, b1, b2⟩ := allBacked_p R
    obtain ⟨Wt, w1, w2⟩ := allWaited_p R
    have fin : ∃ v, ((F_X6_cost σ 2).bind fun r_3 => some (σ, r_3)) = some (σ, v) ∧ ((F_X8_allOf ρ 94 8).bind fun r_4 => (F_X8_allOf ρ 94 9).bind fun r_5 => (F_X8_stands ρ 94).bind fun r_6 => if r_6 = 0 then (some (ρ, ((r_4 + r_5) + 0))) else (some (ρ, ((r_4 + r_5) + 1000)))) = some (ρ, v) := by
      unfold F_X6_cost
      rw [b1, w1, t1, b2, w2, t2, Option.bind_some, Option.bind_some, Option.bind_some, Option.bind_some, Option.bind_some, Option.bind_some]
      cases bs with
      | false => rw [bI_f, if_pos rfl, if_pos rfl]; exact ⟨_, rfl, rfl⟩
      | true => rw [bI_t, if_neg i10, if_neg i10]; exact ⟨_, rfl, rfl⟩
    obtain ⟨v, f1, f2⟩ := fin
    have Z : MST σ ρ σ ρ 2 94 m len n := ⟨R, W, FrC_rf 2 σ, FrR_rf 94 ρ, K2_rf _⟩
    rw [F_X7_costInMind_9, F_X8_costs_0, s1, s2, Option.bind_some, Option.bind_some]
    cases b with
    | true =>
      rw [bI_t, if_neg i10, if_neg i10]
      refine ⟨σ, ρ, v, ?_, f2, Z⟩
      by_cases g : 999 ≤ nI i
      · rw [if_pos g]; exact f1
      · rw [if_neg g]; exact f1
    | false =>
      obtain ⟨M', h3, h4⟩ := s3 rfl
      have hMM := nI_inj (h2.symm.trans h4) (by omega) (by omega)
      obtain ⟨σ1, ρ1, g1, g2, g3, g4⟩ := minute_p R W (by decide) hm ⟨M', h3, h4⟩
      have g : ¬ (999 : Int32) ≤ nI i := nI_ge (a := i) (b := 999) (by omega) (by decide)
      rw [bI_f, if_pos rfl, if_pos rfl, if_neg g, g1, g2, Option.bind_some, Option.bind_some, nI_1]
      obtain ⟨σ', ρ', v', q1, q2, q3⟩ := ih nn nn2 (i + 1) σ1 ρ1 g3.1 g3.2.1 hm ⟨M + 1, by omega, by omega, by rw [g4, h2, nI_1]⟩ (by omega) (by omega)
      exact ⟨σ', ρ', v', q1, q2, MST_tr g3 q3⟩
/-- go's minutes -/
theorem go_l {x : Int32} : ∀ (d nn nn2 i : Nat) (σ ρ : Mem), RT σ 0 (ρ 92) m len n → WW σ ρ 0 → 0 < m → i + d = 201 → x ≤ 200 → d < nn → d < nn2 → ∃ σ' ρ' v, F_X7_go_36 x nn σ (nI i) = some (σ', v) ∧ F_X8_go_36 x nn2 ρ (nI i) = some (ρ', v) ∧ MST σ ρ σ' ρ' 0 92 m len n := by
  intro d
  induction d with
  | zero =>
    intro nn nn2 i σ ρ R W hm hi hx e1 e2
    obtain ⟨nn, rfl⟩ : ∃ j, nn = j + 1 := ⟨nn - 1, by omega⟩
    obtain ⟨nn2, rfl⟩ : ∃ j, nn2 = j + 1 := ⟨nn2 - 1, by omega⟩
    have Z : MST σ ρ σ ρ 0 92 m len n := ⟨R, W, FrC_rf 0 σ, FrR_rf 92 ρ, K2_rf _⟩
    obtain rfl : i = 201 := by omega
    have g : x ≤ nI 201 := by
      rw [i32_le] at hx ⊢
      have k1 : (200 : Int32).toInt = 200 := by decide
      have k2 : (nI 201).toInt = 201 := by decide
      omega
    rw [F_X7_go_36, F_X8_go_36, if_pos g, if_pos g]
    exact ⟨σ, ρ, ρ 92 2, by rw [show σ 0 3 = ρ 92 2 from RT_3 R], rfl, Z⟩
  | succ d ih =>
    intro nn nn2 i σ ρ R W hm hi hx e1 e2
    obtain ⟨nn, rfl⟩ : ∃ j, nn = j + 1 := ⟨nn - 1, by omega⟩
    obtain ⟨nn2, rfl⟩ : ∃ j, nn2 = j + 1 := ⟨nn2 - 1, by omega⟩
    have Z : MST σ ρ σ ρ 0 92 m len n := ⟨R, W, FrC_rf 0 σ, FrR_rf 92 ρ, K2_rf _⟩
    have e3 : σ 0 3 = ρ 92 2 := RT_3 R
    obtain ⟨b, s1, s2, s3⟩ := isEnded_p R
    rw [F_X7_go_36, F_X8_go_36, s1, s2, Option.bind_some, Option.bind_some, e3]
    by_cases g : x ≤ nI i
    · rw [if_pos g, if_pos g]; exact ⟨σ, ρ, _, rfl, rfl, Z⟩
    · rw [if_neg g, if_neg g]
      cases b with
      | true => rw [bI_t, if_neg i10, if_neg i10]; exact ⟨σ, ρ, _, rfl, rfl, Z⟩
      | false =>
        obtain ⟨σ1, ρ1, g1, g2, g3, -⟩ := minute_p R W (by decide) hm (s3 rfl)
        rw [bI_f, if_pos rfl, if_pos rfl, g1, g2, Option.bind_some, Option.bind_some, nI_1]
        obtain ⟨σ', ρ', v', q1, q2, q3⟩ := ih nn nn2 (i + 1) σ1 ρ1 g3.1 g3.2.1 hm (by omega) hx (by omega) (by omega)
        exact ⟨σ', ρ', v', q1, q2, MST_tr g3 q3⟩
end EN2
