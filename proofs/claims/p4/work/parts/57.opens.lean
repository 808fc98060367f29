/-! the reference begins anew, opens a run -/
section OP
variable {ρ : Mem} {a n : Nat}
theorem puts_at {c f : Nat} {v : Int32} (h : c < 7) (hf : f < 11) : F_X8_puts ρ a (nI c) (nI f) v = some (stm ρ a (44 + f + 11 * c) v) := by
  unfold F_X8_puts
  rw [ixc h hf]; rfl
theorem begins_r {c : Nat} (h : c < 7) : ∃ ρ', F_X8_begins ρ a (nI c) = some ρ' ∧ (∀ i, i ≠ a → ρ' i = ρ i) ∧ (∀ j, ¬ (49 + 11 * c ≤ j ∧ j ≤ 53 + 11 * c) → ρ' a j = ρ a j) ∧ ρ' a (49 + 11 * c) = -2 ∧ ρ' a (50 + 11 * c) = 0 ∧ ρ' a (51 + 11 * c) = 0 ∧ ρ' a (52 + 11 * c) = 0 ∧ ρ' a (53 + 11 * c) = 0 := by
  have f9 : ∀ f : Nat, f ≤ 9 → ¬ (9 : Int32) < nI f := fun f hf => nI_nlt (b := f) (a := 9) hf (by decide)
  have st : ∀ (nn f : Nat) (ρ : Mem), f ≤ 9 → F_X8_begins_11 a (nI c) (nn + 1) ρ (nI f) = F_X8_begins_11 a (nI c) nn (stm ρ a (44 + f + 11 * c) 0) (nI (f + 1)) := by
    intro nn f ρ hf
    rw [F_X8_begins_11, if_neg (show ¬ (9 : Int32) < nI f from by
      intro q
      exact absurd q (nI_nlt (a := 9) (b := f) hf (by decide))), puts_at h (by omega), Option.bind_some, nI_1]
  refine ⟨stm (stm (stm (stm (stm ρ a (49 + 11 * c) (-2)) a (50 + 11 * c) 0) a (51 + 11 * c) 0) a (52 + 11 * c) 0) a (53 + 11 * c) 0, ?_, fun i hi => by rw [stm_ne _ _ _ hi, stm_ne _ _ _ hi, stm_ne _ _ _ hi, stm_ne _ _ _ hi, stm_ne _ _ _ hi], fun j hj => ?_, ?_, ?_, ?_, ?_, ?_⟩
  · unfold F_X8_begins
    rw [puts5 h, Option.bind_some, show FU = 1995 + 1 + 1 + 1 + 1 + 1 from rfl, show (6 : Int32) = nI 6 from rfl, st _ 6 _ (by omega), st _ 7 _ (by omega), st _ 8 _ (by omega), st _ 9 _ (by omega), F_X8_begins_11, if_pos (show (9 : Int32) < nI (9 + 1) by decide)]
  · simp only [stm_row]
    simp (disch := omega) only [upd_ne]
  · simp only [stm_row]
    simp (disch := omega) only [upd_ne, upd_at]
  · simp only [stm_row]
    simp (disch := omega) only [upd_ne, upd_at]
  · simp only [stm_row]
    simp (disch := omega) only [upd_ne, upd_at]
  · simp only [stm_row]
    simp (disch := omega) only [upd_ne, upd_at]
  · simp only [stm_row]
    simp (disch := omega) only [upd_at]
theorem anews_l (h7 : n ≤ 7) : ∀ (d j nn : Nat) (ρ : Mem), ρ a 1 = nI n → j + d = n → d < nn → ∃ ρ', F_X8_anews_14 a nn ρ (nI j) = some ρ' ∧ (∀ i, i ≠ a → ρ' i = ρ i) ∧ (∀ q, (∀ c, j ≤ c → c < n → ¬ (49 + 11 * c ≤ q ∧ q ≤ 53 + 11 * c)) → ρ' a q = ρ a q) ∧ ∀ c, j ≤ c → c < n → ρ' a (49 + 11 * c) = -2 ∧ ρ' a (50 + 11 * c) = 0 ∧ ρ' a (51 + 11 * c) = 0 ∧ ρ' a (52 + 11 * c) = 0 ∧ ρ' a (53 + 11 * c) = 0 := by
  intro d
  induction d with
  | zero =>
    intro j nn ρ hn e1 e2
    obtain rfl : j = n := by omega
    obtain ⟨nn, rfl⟩ : ∃ j, nn = j + 1 := ⟨nn - 1, by omega⟩
    rw [F_X8_anews_14, hn, if_pos (nI_le (Nat.le_refl _) (by omega))]
    exact ⟨ρ, rfl, fun _ _ => rfl, fun _ _ => rfl, fun c h1 h2 => absurd h1 (by omega)⟩
  | succ d ih =>
    intro j nn ρ hn e1 e2
    obtain ⟨nn, rfl⟩ : ∃ j, nn = j + 1 := ⟨nn - 1, by omega⟩
    obtain ⟨ρ1, b1, b2, b3, b4⟩ := begins_r (ρ := ρ) (a := a) (show j < 7 by omega)
    obtain ⟨ρ', i1, i2, i3, i4⟩ := ih (j + 1) nn ρ1 ((b3 1 (by omega)).trans hn) (by omega) (by omega)
    rw [F_X8_anews_14, hn, if_neg (nI_ge (by omega) (by omega)), b1, Option.bind_some, nI_1]
    refine ⟨ρ', i1, fun i hi => (i2 i hi).trans (b2 i hi), fun q hq => ?_, fun c h1 h2 => ?_⟩
    · rw [i3 q (fun c h1 h2 => hq c (by omega) h2), b3 q (hq j (Nat.le_refl _) (by omega))]
    · by_cases e : c = j
      · subst e
        rw [i3 (49 + 11 * c) (fun c' h1 h2 => by omega), i3 (50 + 11 * c) (fun c' h1 h2 => by omega), i3 (51 + 11 * c) (fun c' h1 h2 => by omega), i3 (52 + 11 * c) (fun c' h1 h2 => by omega), i3 (53 + 11 * c) (fun c' h1 h2 => by omega)]
        exact b4
      · exact i4 c (by omega) h2
theorem anews_r (hn : ρ a 1 = nI n) (h7 : n ≤ 7) : ∃ ρ', F_X8_anews ρ a = some ρ' ∧ (∀ i, i ≠ a → ρ' i = ρ i) ∧ K2 (ρ a) (ρ' a) ∧ BG (ρ' a) n := by
  have e : ∀ j, j ≠ 2 → j ≠ 3 → j ≠ 4 → stm (stm (stm ρ a 2 0) a 3 0) a 4 0 a j = ρ a j := fun j h2 h3 h4 => by rw [stm_row, upd_ne _ _ h4, stm_row, upd_ne _ _ h3, stm_row, upd_ne _ _ h2]
  obtain ⟨ρ', i1, i2, i3, i4⟩ := anews_l (a := a) h7 n 0 FU (stm (stm (stm ρ a 2 0) a 3 0) a 4 0) ((e 1 (by omega) (by omega) (by omega)).trans hn) (by omega) (Nat.lt_of_le_of_lt h7 (by decide))
  refine ⟨ρ', i1, fun i hi => by rw [i2 i hi, stm_ne _ _ _ hi, stm_ne _ _ _ hi, stm_ne _ _ _ hi], fun j hj => ?_, ⟨?_, ?_, ?_⟩, fun c hc => i4 c (Nat.zero_le _) hc⟩
  · rw [i3 j (fun c _ hc => by unfold st2 at hj; omega)]
    exact e j (by unfold st2 at hj; omega) (by unfold st2 at hj; omega) (by unfold st2 at hj; omega)
  · rw [i3 2 (fun c _ _ => by omega)]
    simp only [stm_row]
    simp (disch := omega) only [upd_ne, upd_at]
  · rw [i3 3 (fun c _ _ => by omega)]
    simp only [stm_row]
    simp (disch := omega) only [upd_ne, upd_at]
  · rw [i3 4 (fun c _ _ => by omega)]
    simp only [stm_row, upd_at]
/-- what opening a run makes of the reference's cells -/
def OPD (ρ ρ' : Mem) (n : Nat) : Prop := (∀ i, i ≠ 94 → i ≠ 91 → ρ' i = ρ i) ∧ (∀ j, j ≠ 17 → j ≠ 18 → j ≠ 19 → ρ' 91 j = ρ 91 j) ∧ (ρ' 91 17 = -4 ∧ ρ' 91 18 = -4 ∧ ρ' 91 19 = -4) ∧ K2 (ρ 92) (ρ' 94) ∧ BG (ρ' 94) n
theorem opens_l (h7 : n ≤ 7) : ∀ (d j nn : Nat) (ρ : Mem), ρ 92 1 = nI n → j + d = 121 → d < nn → (∀ q, q < j → ρ 94 q = ρ 92 q) → ∃ ρ', F_X8_opens_2 nn ρ (nI j) = some ρ' ∧ OPD ρ ρ' n := by
  intro d
  induction d with
  | zero =>
    intro j nn ρ hn e1 e2 hq
    obtain rfl : j = 121 := by omega
    obtain ⟨nn, rfl⟩ : ∃ j, nn = j + 1 := ⟨nn - 1, by omega⟩
    obtain ⟨ρ1, g1, g2, g3, g4⟩ := anews_r (ρ := ρ) (a := 94) (n := n) ((hq 1 (by omega)).trans hn) h7
    rw [F_X8_opens_2, if_pos (show (121 : Int32) ≤ nI 121 by decide), g1, Option.bind_some]
    refine ⟨_, rfl, fun i h1 h2 => ?_, fun j h1 h2 h3 => ?_, ⟨?_, ?_, ?_⟩, ?_, ?_⟩
    · rw [stm_ne _ _ _ h2, stm_ne _ _ _ h2, stm_ne _ _ _ h2]; exact g2 i h1
    · simp only [stm_row]
      simp (disch := omega) only [upd_ne]
      rw [g2 91 (by omega)]
    · simp only [stm_row]
      simp (disch := omega) only [upd_ne, upd_at]
    · simp only [stm_row, upd_at]
    · simp only [stm_row]
      simp (disch := omega) only [upd_ne, upd_at]
    · rw [stm_ne _ _ _ (by omega), stm_ne _ _ _ (by omega), stm_ne _ _ _ (by omega)]
      exact K2_tr (fun j hj => hq j (by unfold st2 at hj; omega)) g3
    · rw [stm_ne _ _ _ (by omega), stm_ne _ _ _ (by omega), stm_ne _ _ _ (by omega)]
      exact g4
  | succ d ih =>
    intro j nn ρ hn e1 e2 hq
    obtain ⟨nn, rfl⟩ : ∃ j, nn = j + 1 := ⟨nn - 1, by omega⟩
    have e92 : stm ρ 94 j (ρ 92 j) 92 = ρ 92 := stm_ne _ _ _ (by omega)
    obtain ⟨ρ', i1, i2, i3, i4, i5, i6⟩ := ih (j + 1) nn (stm ρ 94 j (ρ 92 j)) (by rw [e92]; exact hn) (by omega) (by omega) (fun q hq2 => by
      rw [e92, stm_row]
      by_cases e : q = j
      · subst e; rw [upd_at]
      · rw [upd_ne _ _ e]; exact hq q (by omega))
    rw [F_X8_opens_2, if_neg (show ¬ (121 : Int32) ≤ nI j from nI_ge (a := j) (b := 121) (by omega) (by decide)), ix_nI (by omega) (by decide), Option.bind_some, Option.bind_some, nI_1]
    refine ⟨ρ', i1, fun i h1 h2 => by rw [i2 i h1 h2, stm_ne _ _ _ h1], fun q h1 h2 h3 => by rw [i3 q h1 h2 h3, stm_ne _ _ _ (by omega)], i4, by rw [e92] at i5; exact i5, i6⟩
theorem opens_r (hn : ρ 92 1 = nI n) (h7 : n ≤ 7) : ∃ ρ', F_X8_opens ρ = some ρ' ∧ OPD ρ ρ' n :=
  opens_l h7 121 0 FU ρ hn (by omega) (by decide) (fun q hq => absurd hq (Nat.not_lt_zero _))
end OP
