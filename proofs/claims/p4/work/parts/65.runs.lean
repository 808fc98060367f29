/-! calls of runs in mind: hours, heard, shortest, fit -/
section RU
variable {m n : Nat} {len : Nat → Nat}
theorem x01 (x : Int32) : ((x < 0 ∨ 1 < x) ∧ ¬ x = 0 ∧ ¬ x = 1) ∨ (¬ (x < 0 ∨ 1 < x) ∧ (x = 0 ∨ x = 1)) := by
  rcases rng (x := x) 2 (by omega) with ⟨h1, h2, h3⟩ | ⟨j, hj, rfl, k1, k2, k3, k4⟩
  · refine Or.inl ⟨h2, fun q => ?_, fun q => ?_⟩
    · subst q; exact absurd (h3 (by decide)) (by decide)
    · subst q; exact absurd (h3 (by decide)) (by decide)
  · refine Or.inr ⟨fun q => q.elim k1 k4, ?_⟩
    have : j = 0 ∨ j = 1 := by omega
    rcases this with rfl | rfl
    · exact Or.inl rfl
    · exact Or.inr rfl
/-- what is told in the end: the key or the cost -/
theorem tell_k {σ : Mem} {b l x : Int32} (h : OF σ b l) (hb : 0 ≤ b) : (if x = 0 then some (σ, σ 84 0) else some (σ, σ 84 1)) = some (σ, if x = 0 then b else l) := by
  obtain ⟨h1, h2⟩ := h
  have h3 : σ 84 1 = l := by
    rcases h2 with ⟨q, -⟩ | ⟨-, q⟩
    · rw [q] at hb; exact absurd hb (by decide)
    · exact q
  by_cases k : x = 0
  · rw [if_pos k, if_pos k, h1]
  · rw [if_neg k, if_neg k, h3]
theorem hours_l {σ0 ρ0 : Mem} {x : Int32} (hm : 0 < m) (hn : ρ0 92 1 = nI n) : ∀ (d j nn nn2 : Nat) (σ ρ : Mem) (k : Nat → Int32) (b l : Int32), j + d = 10 → d < nn → d < nn2 → RTS σ 2 k m len n → KX PR (ρ0 92) k → MC σ0 σ → MR ρ0 ρ → OF σ b l → (j = 0 ∨ 0 ≤ b) → ∃ σ' ρ' r, F_X7_hours_41 x nn σ (nI j) = some (σ', r) ∧ F_X7_hours_41b x nn σ (nI j) = some (σ', r) ∧ F_X8_hours_30 x nn2 ρ (nI j) l b = some (ρ', r) ∧ MC σ0 σ' ∧ MR ρ0 ρ' := by
  intro d
  induction d with
  | zero =>
    intro j nn nn2 σ ρ k b l e1 e2 e3 S hk M N O hb
    obtain rfl : j = 10 := by omega
    obtain ⟨nn, rfl⟩ : ∃ j, nn = j + 1 := ⟨nn - 1, by omega⟩
    obtain ⟨nn2, rfl⟩ : ∃ j, nn2 = j + 1 := ⟨nn2 - 1, by omega⟩
    have hb0 := hb.resolve_left (by omega)
    rw [F_X7_hours_41, F_X7_hours_41b, F_X8_hours_30, if_pos (show (9 : Int32) < nI 10 by decide), if_pos (show (10 : Int32) ≤ nI 10 by decide), tell_k O hb0]
    refine ⟨σ, ρ, _, rfl, rfl, ?_, M, N⟩
    by_cases q : x = 0
    · rw [if_pos q, if_pos q]
    · rw [if_neg q, if_neg q]
  | succ d ih =>
    intro j nn nn2 σ ρ k b l e1 e2 e3 S hk M N O hb
    obtain ⟨nn, rfl⟩ : ∃ j, nn = j + 1 := ⟨nn - 1, by omega⟩
    obtain ⟨nn2, rfl⟩ : ∃ j, nn2 = j + 1 := ⟨nn2 - 1, by omega⟩
    obtain ⟨σ1, σ2, ρ2, v, k', a1, a2, a3, -, a5, a6, a7, a8, a84⟩ := by_k (q := 3) (f := j) S hm M N hn hk (by omega) (by omega)
    have a1' : F_X7_ruleAllInMind σ 3 (nI j) = some σ1 := a1
    have a3' : F_X8_costBy ρ 3 (nI j) = some (ρ2, v) := a3
    have j0 : 0 ≤ nI j := nI_pos' (by omega)
    obtain ⟨σ3, o1, o2, o3, o4, o5, o6⟩ := offer_c (v := v) a7 (OF_cg O a84) j0
    have S3 := RTS_cc (σ' := σ3) a5 (fun i h1 h2 => o3 i (by omega))
    have n9 : ¬ (9 : Int32) < nI j := nI_nlt (a := 9) (b := j) (by omega) (by decide)
    have n10 : ¬ (10 : Int32) ≤ nI j := nI_ge (a := j) (b := 10) (by omega) (by decide)
    rw [F_X7_hours_41, F_X7_hours_41b, F_X8_hours_30, if_neg n9, if_neg n9, if_neg n10, a1', Option.bind_some, Option.bind_some, a2, bd2_s, bd2_s, o1, Option.bind_some, Option.bind_some, a3', bd2_s, nI_1]
    by_cases q1 : b < 0
    · rw [if_pos q1]
      exact ih (j + 1) nn nn2 σ3 ρ2 k' _ _ (by omega) (by omega) (by omega) S3 a6 o2 a8 (o4 q1) (Or.inr j0)
    · rw [if_neg q1]
      by_cases q2 : v < l
      · rw [if_pos q2]
        exact ih (j + 1) nn nn2 σ3 ρ2 k' _ _ (by omega) (by omega) (by omega) S3 a6 o2 a8 (o5 q1 q2) (Or.inr j0)
      · rw [if_neg q2]
        exact ih (j + 1) nn nn2 σ3 ρ2 k' _ _ (by omega) (by omega) (by omega) S3 a6 o2 a8 (o6 q1 q2) (Or.inr (Int32.not_lt.mp q1))
theorem call_hours (x : Int32) : CALL (fun σ => F_X7_hours σ x) (fun σ => F_X8_hours σ x) := by
  intro σ ρ I
  obtain ⟨⟨m, len, n, R⟩, L, w, G, S⟩ := I
  have I : INV σ ρ := ⟨⟨m, len, n, R⟩, L, w, G, S⟩
  have no : ∀ {r : Int32}, ∃ σ' r' ρ', some (σ, r) = some (σ', r') ∧ some (ρ, r) = some (ρ', r') ∧ INV σ' ρ' ∧ CF σ σ' ∧ RF ρ ρ' := fun {r} => ⟨σ, r, ρ, rfl, rfl, I, fun _ _ => rfl, fun _ _ => rfl⟩
  show ∃ σ' r ρ', F_X7_hours σ x = some (σ', r) ∧ F_X8_hours ρ x = some (ρ', r) ∧ _
  unfold F_X7_hours F_X8_hours
  obtain ⟨b, e1, e2, e3⟩ := isEmpty_p R
  rw [e1, e2, ck_t _ (RT_b R), ck_t _ (RT_b R)]
  simp only [obs]
  rcases x01 x with ⟨h1, h2, h3⟩ | ⟨h1, h2⟩
  · rw [if_pos h1, if_neg h2, if_neg h3]; exact no
  · rw [if_neg h1]
    cases b with
    | true =>
      rcases h2 with rfl | rfl
      · rw [if_pos rfl, bI_t, if_neg i10]; exact no
      · rw [if_neg i10, if_pos rfl, bI_t, if_neg i10]; exact no
    | false =>
      obtain ⟨σ1, g1, g2, g3, g4⟩ := begin_c (MC_tcpy (σ := σ) w)
      obtain ⟨σ', ρ', r, a1, a2, a3, a4, a5⟩ := hours_l (x := x) (e3 rfl).1 (RT_n R) 10 0 FU FU σ1 ρ (ρ 92) (-4) 0 (by omega) (by decide) (by decide) (RTS_cc (RTS_tcpy R) (fun i h1 h2 => g3 i (by omega))) (KX_of (K2_rf _)) g2 (MR_rf ρ) g4 (Or.inl rfl)
      have a1' : F_X7_hours_41 x FU σ1 0 = some (σ', r) := a1
      have a2' : F_X7_hours_41b x FU σ1 0 = some (σ', r) := a2
      have a3' : F_X8_hours_30 x FU ρ 0 0 (-4) = some (ρ', r) := a3
      rw [bI_f, g1]
      simp only [obs, a1', a2', a3', if_true]
      obtain ⟨i1, i2, i3⟩ := INV_mind I a4 a5
      rcases h2 with rfl | rfl
      · rw [if_pos rfl]; exact ⟨_, _, _, rfl, rfl, i1, i2, i3⟩
      · rw [if_neg i10, if_pos rfl]; exact ⟨_, _, _, rfl, rfl, i1, i2, i3⟩
theorem call_heard (x : Int32) : CALL (fun σ => F_X7_heard σ x) (fun σ => F_X8_heard σ x) := by
  intro σ ρ I
  obtain ⟨⟨m, len, n, R⟩, L, w, G, S⟩ := I
  have I : INV σ ρ := ⟨⟨m, len, n, R⟩, L, w, G, S⟩
  have no : ∀ {r : Int32}, ∃ σ' r' ρ', some (σ, r) = some (σ', r') ∧ some (ρ, r) = some (ρ', r') ∧ INV σ' ρ' ∧ CF σ σ' ∧ RF ρ ρ' := fun {r} => ⟨σ, r, ρ, rfl, rfl, I, fun _ _ => rfl, fun _ _ => rfl⟩
  show ∃ σ' r ρ', F_X7_heard σ x = some (σ', r) ∧ F_X8_heard ρ x = some (ρ', r) ∧ _
  unfold F_X7_heard F_X8_heard
  obtain ⟨b, e1, e2, e3⟩ := isEmpty_p R
  rw [e1, e2, ck_t _ (RT_b R)]
  simp only [obs]
  rcases rng (x := x) 10 (by omega) with ⟨k1, k2, k3⟩ | ⟨f, hf, rfl, g1, g2, g3, g4⟩
  · rw [if_pos (show x < 0 ∨ (9 : Int32) < x from k2)]
    by_cases q : x < 0
    · rw [if_pos q]; exact no
    · have q2 : (9 : Int32) < x := k2.resolve_left q
      rw [if_neg q, if_neg (Int32.not_le.mpr q2)]; exact no
  · have g4' : ¬ (9 : Int32) < nI f := g4
    rw [if_neg g1, if_pos (Int32.not_lt.mp g4'), if_neg (show ¬ (nI f < 0 ∨ (9 : Int32) < nI f) from fun q => q.elim g1 g4')]
    cases b with
    | true => rw [bI_t, if_neg i10, if_neg i10]; exact no
    | false =>
      have hm := (e3 rfl).1
      obtain ⟨σ1, σ2, ρ2, v, k', a1, a2, a3, -, a5, a6, a7, a8, -⟩ := by_k (q := 4) (f := 0) (RTS_tcpy R) hm (MC_tcpy (σ := σ) w) (MR_rf ρ) (RT_n R) (KX_of (K2_rf _)) (by omega) (by omega)
      obtain ⟨σ3, σ4, ρ4, v2, k'', b1, b2, b3, -, b5, b6, b7, b8, -⟩ := by_k (q := 4) (f := f) a5 hm a7 a8 (RT_n R) a6 (by omega) (by omega)
      have a1' : F_X7_ruleAllInMind (tcpy σ 2 0) 4 0 = some σ1 := a1
      have a3' : F_X8_costBy ρ 4 0 = some (ρ2, v) := a3
      have b1' : F_X7_ruleAllInMind σ2 4 (nI f) = some σ3 := b1
      have b3' : F_X8_costBy ρ2 4 (nI f) = some (ρ4, v2) := b3
      obtain ⟨i1, i2, i3⟩ := INV_mind I b7 b8
      rw [bI_f, if_pos rfl, if_pos rfl, a1', Option.bind_some, a2, bd2_s, b1', Option.bind_some, b2, bd2_s, a3', bd2_s, b3', bd2_s]
      exact ⟨_, _, _, rfl, rfl, i1, i2, i3⟩
end RU
