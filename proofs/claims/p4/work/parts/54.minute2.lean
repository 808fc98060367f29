/-! a minute of all carts; sums; the end -/
/-- cells of a row that are never changed by minutes nor by beginning anew -/
def st2 (j : Nat) : Prop := j < 2 ∨ (5 ≤ j ∧ j < 44) ∨ (44 ≤ j ∧ j < 121 ∧ ((j - 44) % 11 < 5 ∨ (j - 44) % 11 = 10))
def K2 (k k' : Nat → Int32) : Prop := ∀ j, st2 j → k' j = k j
theorem K2_rf (k : Nat → Int32) : K2 k k := fun _ _ => rfl
theorem K2_tr {k k' k'' : Nat → Int32} (h : K2 k k') (h' : K2 k' k'') : K2 k k'' := fun j hj => (h' j hj).trans (h j hj)
theorem K2_of {k k' : Nat → Int32} (h : KS k k') : K2 k k' := fun j hj => h j (by unfold st2 at hj; unfold sta; omega)
/-- the watched alone -/
def WW (σ ρ : Mem) (t : Nat) : Prop := σ (22 * t) 8 = -4 ∧ σ (22 * t) 9 = -4 ∨ σ (22 * t) 8 = ρ 91 17 ∧ σ (22 * t) 9 = ρ 91 18 ∧ σ (22 * t) 10 = ρ 91 19 ∧ (ρ 91 19 = -4 ∨ 0 ≤ ρ 91 19)
def MST (σ ρ σ' ρ' : Mem) (t a m : Nat) (len : Nat → Nat) (n : Nat) : Prop := RT σ' t (ρ' a) m len n ∧ WW σ' ρ' t ∧ FrC t σ σ' ∧ FrR a ρ ρ' ∧ K2 (ρ a) (ρ' a)
theorem MST_tr {σ ρ σ' ρ' σ'' ρ'' : Mem} {t a m n : Nat} {len : Nat → Nat} (h : MST σ ρ σ' ρ' t a m len n) (h' : MST σ' ρ' σ'' ρ'' t a m len n) : MST σ ρ σ'' ρ'' t a m len n := ⟨h'.1, h'.2.1, FrC_tr h.2.2.1 h'.2.2.1, FrR_tr h.2.2.2.1 h'.2.2.2.1, K2_tr h.2.2.2.2 h'.2.2.2.2⟩
section MN
variable {σ ρ : Mem} {t a m n : Nat} {len : Nat → Nat}
theorem comeOn_p (R : RT σ t (ρ a) m len n) (W : RW σ ρ t) (ha : a ≠ 91) (hm : 0 < m) {c : Nat} (hc : c < n) (hs : ρ a (49 + 11 * c) = -2) : ∃ σ' ρ', F_X6_comeOn σ t (22 * t + 15 + c) = some σ' ∧ ((F_X8_origin ρ a (nI c)).bind fun r_26 => F_X8_puts ρ a (nI c) 5 r_26) = some ρ' ∧ STP σ ρ σ' ρ' t a m len n := by
  have h7 := RT_7 R
  have c7 : c < 7 := by omega
  have h72 := RT_72 R (Nat.le_refl m)
  have hE : 0 < PS len m := by
    have := PS_lt (VS_b (RT_V R)) hm (Nat.le_refl m)
    omega
  have key : ∀ E, E ≤ PS len m → F_X6_ownEnd σ t (22 * t + 15 + c) = some (nI E) → F_X8_origin ρ a (nI c) = some (nI E) → ((ρ a (44 + 11 * c) = 1 → E < PS len m) ∧ (ρ a (44 + 11 * c) = -1 → 0 < E)) → ∃ σ' ρ', F_X6_comeOn σ t (22 * t + 15 + c) = some σ' ∧ ((F_X8_origin ρ a (nI c)).bind fun r_26 => F_X8_puts ρ a (nI c) 5 r_26) = some ρ' ∧ STP σ ρ σ' ρ' t a m len n := by
    intro E hE e1 e2 h5
    refine ⟨_, _, ?_, ?_, e_come R W ha hc hs hE h5⟩
    · unfold F_X6_comeOn
      rw [e1, Option.bind_some, isSpot_c R hE, Option.bind_some, if_neg i10, ix_nI (show E < 73 by omega) (by decide), Option.bind_some, Option.bind_some]
    · rw [e2, Option.bind_some, puts5 c7]
  rcases (RT_K R hc).1 with hw | hw
  · have e := ownEnd_up R hc hw
    exact key 0 (Nat.zero_le _) e.1 e.2 ⟨fun _ => hE, fun q => absurd (hw.symm.trans q) i1m1⟩
  · have e := ownEnd_dn R hc hw
    exact key (PS len m) (Nat.le_refl _) e.1 e.2 ⟨fun q => absurd (hw.symm.trans q) im11, fun _ => hE⟩
theorem acts_eq (ρ : Mem) (a : Nat) (c : Int32) : F_X8_acts ρ a c = (F_X8_get ρ a c 5).bind fun r_1 => if r_1 = (-2) then ((F_X8_get ρ a c 1).bind fun r_13 => (F_X8_get ρ a c 10).bind fun r_14 => if (ρ a 2) < (r_13 + r_14) then AR ρ a c else ((F_X8_origin ρ a c).bind fun r_26 => (F_X8_puts ρ a c 5 r_26).bind fun σ_27 => AR σ_27 a c)) else AR ρ a c := rfl
theorem pass_eq (t nn : Nat) (σ : Mem) (v1 : Int32) : F_X6_passMinute_7 t (nn + 1) σ v1 = if (σ (22 * t) 2) ≤ v1 then (if ((stm σ (22 * t) 3 ((σ (22 * t) 3) + 1)) (22 * t) 6) = 0 then (some (stm (stm σ (22 * t) 3 ((σ (22 * t) 3) + 1)) (22 * t) 4 (((stm σ (22 * t) 3 ((σ (22 * t) 3) + 1)) (22 * t) 4) + 1))) else (some (stm (stm σ (22 * t) 3 ((σ (22 * t) 3) + 1)) (22 * t) 4 0))) else ((ix 7 v1).bind fun k_4 => if (σ (22 * t + 15 + k_4) 6) = (-2) then (if (σ (22 * t) 3) < ((σ (22 * t + 15 + k_4) 2) + (σ (22 * t + 15 + k_4) 5)) then AC σ t (22 * t + 15 + k_4) v1 (fun s => F_X6_passMinute_7 t nn s (v1 + 1)) else ((F_X6_comeOn σ t (22 * t + 15 + k_4)).bind fun σ_23 => AC σ_23 t (22 * t + 15 + k_4) v1 (fun s => F_X6_passMinute_7 t nn s (v1 + 1)))) else AC σ t (22 * t + 15 + k_4) v1 (fun s => F_X6_passMinute_7 t nn s (v1 + 1))) := rfl
/-- one cart's turn -/
theorem turn_p (R : RT σ t (ρ a) m len n) (W : RW σ ρ t) (ha : a ≠ 91) (hm : 0 < m) {c nn : Nat} (hc : c < n) : ∃ σ' ρ', F_X6_passMinute_7 t (nn + 1) σ (nI c) = F_X6_passMinute_7 t nn σ' (nI (c + 1)) ∧ F_X8_acts ρ a (nI c) = some ρ' ∧ STP σ ρ σ' ρ' t a m len n := by
  have h7 := RT_7 R
  have c7 : c < 7 := by omega
  have C := RT_C R hc
  have jn : ¬ nI n ≤ nI c := nI_ge hc (by omega)
  rw [pass_eq, acts_eq, RT_2 R, if_neg jn, ix_nI c7 (by decide), Option.bind_some, C.2.2.1, C.2.1.2.1, C.2.1.2.2.2.2, RT_3 R, get5 c7, Option.bind_some, get1 c7, Option.bind_some, get10 c7, Option.bind_some, nI_1]
  by_cases k1 : ρ a (49 + 11 * c) = -2
  · rw [if_pos k1, if_pos k1]
    by_cases k2 : ρ a 2 < ρ a (45 + 11 * c) + ρ a (54 + 11 * c)
    · rw [if_pos k2, if_pos k2]
      obtain ⟨σ', ρ', g1, g2, g3⟩ := act_p R W ha hc (fun s => F_X6_passMinute_7 t nn s (nI (c + 1)))
      exact ⟨σ', ρ', g1, g2, g3⟩
    · rw [if_neg k2, if_neg k2]
      obtain ⟨σ1, ρ1, e1, e2, e3⟩ := comeOn_p R W ha hm hc k1
      obtain ⟨σ', ρ', g1, g2, g3⟩ := act_p e3.1 e3.2.1 ha hc (fun s => F_X6_passMinute_7 t nn s (nI (c + 1)))
      refine ⟨σ', ρ', ?_, ?_, STP_tr e3 g3⟩
      · rw [e1, Option.bind_some]; exact g1
      · have e4 : ((F_X8_origin ρ a (nI c)).bind fun r_26 => (F_X8_puts ρ a (nI c) 5 r_26).bind fun σ_27 => AR σ_27 a (nI c)) = (((F_X8_origin ρ a (nI c)).bind fun r_26 => F_X8_puts ρ a (nI c) 5 r_26).bind fun σ_27 => AR σ_27 a (nI c)) := by
          cases F_X8_origin ρ a (nI c) <;> rfl
        rw [e4, e2, Option.bind_some]; exact g2
  · rw [if_neg k1, if_neg k1]
    obtain ⟨σ', ρ', g1, g2, g3⟩ := act_p R W ha hc (fun s => F_X6_passMinute_7 t nn s (nI (c + 1)))
    exact ⟨σ', ρ', g1, g2, g3⟩
theorem turns_l (ha : a ≠ 91) (hm : 0 < m) : ∀ (d c nn nn2 : Nat) (σ ρ : Mem), RT σ t (ρ a) m len n → RW σ ρ t → c + d = n → d < nn → d < nn2 → ∃ σ' ρ' q q2, F_X6_passMinute_7 t nn σ (nI c) = F_X6_passMinute_7 t (q + 1) σ' (nI n) ∧ F_X8_minute_7 a nn2 ρ (nI c) = F_X8_minute_7 a (q2 + 1) ρ' (nI n) ∧ STP σ ρ σ' ρ' t a m len n := by
  intro d
  induction d with
  | zero =>
    intro c nn nn2 σ ρ R W e1 e2 e3
    obtain rfl : c = n := by omega
    obtain ⟨nn, rfl⟩ : ∃ j, nn = j + 1 := ⟨nn - 1, by omega⟩
    obtain ⟨nn2, rfl⟩ : ∃ j, nn2 = j + 1 := ⟨nn2 - 1, by omega⟩
    exact ⟨σ, ρ, nn, nn2, rfl, rfl, R, W, FrC_rf t σ, FrR_rf a ρ, KS_rf _⟩
  | succ d ih =>
    intro c nn nn2 σ ρ R W e1 e2 e3
    obtain ⟨nn, rfl⟩ : ∃ j, nn = j + 1 := ⟨nn - 1, by omega⟩
    obtain ⟨nn2, rfl⟩ : ∃ j, nn2 = j + 1 := ⟨nn2 - 1, by omega⟩
    have h7 := RT_7 R
    obtain ⟨σ1, ρ1, g1, g2, g3⟩ := turn_p (nn := nn) R W ha hm (show c < n by omega)
    obtain ⟨σ', ρ', q, q2, i1, i2, i3⟩ := ih (c + 1) nn nn2 σ1 ρ1 g3.1 g3.2.1 (by omega) (by omega) (by omega)
    refine ⟨σ', ρ', q, q2, g1.trans i1, ?_, STP_tr g3 i3⟩
    rw [F_X8_minute_7, RT_n R, if_neg (nI_ge (by omega) (by omega)), g2, Option.bind_some, nI_1]
    exact i2
theorem minute_p (R : RT σ t (ρ a) m len n) (W : WW σ ρ t) (ha : a ≠ 91) (hm : 0 < m) (hM : ∃ M : Nat, M ≤ 998 ∧ ρ a 2 = nI M) : ∃ σ' ρ', F_X6_passMinute σ t = some σ' ∧ F_X8_minute ρ a = some ρ' ∧ MST σ ρ σ' ρ' t a m len n ∧ ρ' a 2 = ρ a 2 + 1 := by
  have h7 := RT_7 R
  have ha' : (91 : Nat) ≠ a := fun q => ha q.symm
  have fu : n < FU := Nat.lt_of_le_of_lt h7 (by decide)
  have r0 : stm ρ 91 20 0 a = ρ a := stm_ne _ _ _ ha
  have R0 : RT (stm σ (22 * t) 6 0) t (stm ρ 91 20 0 a) m len n := by
    rw [r0]
    refine RT_fld R (fun i hi => stm_ne _ _ _ hi) (fun j _ _ _ => rfl) ?_ ?_ ?_ ?_ (RT_M R)
    · rw [stm_row, upd_ne _ _ (by omega)]
    · rw [stm_row, upd_ne _ _ (by omega)]; exact RT_3 R
    · rw [stm_row, upd_ne _ _ (by omega)]; exact RT_4 R
    · rw [stm_row, upd_ne _ _ (by omega)]; exact RT_5 R
  have W0 : RW (stm σ (22 * t) 6 0) (stm ρ 91 20 0) t := by
    unfold RW
    unfold WW at W
    rw [stm_row, stm_row]
    simp (disch := omega) only [upd_at, upd_ne]
    exact ⟨trivial, W⟩
  obtain ⟨σ1, ρ1, q, q2, g1, g2, g3⟩ := turns_l ha hm n 0 FU FU _ _ R0 W0 (by omega) fu fu
  have f0 : FrR a ρ (stm ρ 91 20 0) := ⟨fun i _ h2 => stm_ne _ _ _ h2, fun j _ h2 => by rw [stm_row, upd_ne _ _ h2]⟩
  have fc : FrC t σ σ1 := FrC_tr (FrC_t σ (by omega) (by omega)) g3.2.2.1
  have fr : FrR a ρ ρ1 := FrR_tr f0 g3.2.2.2.1
  have ks : KS (ρ a) (ρ1 a) := by have := g3.2.2.2.2; rw [r0] at this; exact this
  have R1 := g3.1
  have W1 := g3.2.1
  have e2 : ρ1 a 2 = ρ a 2 := ks 2 (by unfold sta; omega)
  obtain ⟨M, hM1, hM2⟩ := hM
  have c6 : stm σ1 (22 * t) 3 (σ1 (22 * t) 3 + 1) (22 * t) 6 = ρ1 91 20 := by rw [stm_row, upd_ne _ _ (by omega)]; exact W1.1
  have c4 : stm σ1 (22 * t) 3 (σ1 (22 * t) 3 + 1) (22 * t) 4 = ρ1 a 3 := by rw [stm_row, upd_ne _ _ (by omega)]; exact RT_4 R1
  have fin : ∀ v : Int32, MST σ ρ (stm (stm σ1 (22 * t) 3 (σ1 (22 * t) 3 + 1)) (22 * t) 4 v) (stm (stm ρ1 a 3 v) a 2 (stm ρ1 a 3 v a 2 + 1)) t a m len n ∧ stm (stm ρ1 a 3 v) a 2 (stm ρ1 a 3 v a 2 + 1) a 2 = ρ a 2 + 1 := by
    intro v
    have e3 : stm ρ1 a 3 v a 2 = ρ a 2 := by rw [stm_row, upd_ne _ _ (by omega)]; exact e2
    rw [e3]
    refine ⟨⟨?_, ?_, FrC_tr fc (FrC_tr (FrC_t _ (by omega) (by omega)) (FrC_t _ (by omega) (by omega))), FrR_tr fr (FrR_tr (FrR_a _ ha) (FrR_a _ ha)), fun j hj => ?_⟩, by rw [stm_row, upd_at]⟩
    · refine RT_fld R1 (fun i hi => by rw [stm_ne _ _ _ hi, stm_ne _ _ _ hi]) (fun j h2 h3 _ => by rw [stm_row, upd_ne _ _ h2, stm_row, upd_ne _ _ h3]) ?_ ?_ ?_ ?_ ?_
      · rw [stm_row, upd_ne _ _ (by omega), stm_row, upd_ne _ _ (by omega)]
      · rw [stm_row, upd_ne _ _ (by omega), stm_row, upd_at, stm_row, upd_at, RT_3 R1, e2]
      · rw [stm_row, upd_at, stm_row, upd_ne _ _ (by omega), stm_row, upd_at]
      · rw [stm_row, upd_ne _ _ (by omega), stm_row, upd_ne _ _ (by omega), stm_row, upd_ne _ _ (by omega), stm_row, upd_ne _ _ (by omega)]; exact RT_5 R1
      · exact ⟨M + 1, by omega, by rw [stm_row, upd_at, hM2, nI_1]⟩
    · have w := W1.2
      unfold WW
      rw [stm_row, upd_ne _ _ (by omega), stm_row, upd_ne _ _ (by omega), upd_ne _ _ (by omega), upd_ne _ _ (by omega), upd_ne _ _ (by omega), upd_ne _ _ (by omega), stm_ne _ _ _ ha', stm_ne _ _ _ ha']
      exact w
    · rw [stm_row, upd_ne _ _ (by unfold st2 at hj; omega), stm_row, upd_ne _ _ (by unfold st2 at hj; omega)]
      exact K2_of ks j hj
  by_cases k : ρ1 91 20 = 0
  · refine ⟨_, _, ?_, ?_, fin (ρ1 a 3 + 1)⟩
    · refine g1.trans ?_
      rw [F_X6_passMinute_7, RT_2 R1, if_pos (nI_le (Nat.le_refl _) (by omega)), c6, if_pos k, c4]
    · refine g2.trans ?_
      rw [F_X8_minute_7, RT_n R1, if_pos (nI_le (Nat.le_refl _) (by omega)), if_pos k]
  · refine ⟨_, _, ?_, ?_, fin 0⟩
    · refine g1.trans ?_
      rw [F_X6_passMinute_7, RT_2 R1, if_pos (nI_le (Nat.le_refl _) (by omega)), c6, if_neg k]
    · refine g2.trans ?_
      rw [F_X8_minute_7, RT_n R1, if_pos (nI_le (Nat.le_refl _) (by omega)), if_neg k]
theorem allBacked_l (R : RT σ t (ρ a) m len n) : ∀ (d j nn nn2 : Nat) (v : Int32), j + d = n → d < nn → d < nn2 → ∃ s, F_X6_allBacked_4 σ t nn (nI j) v = some s ∧ F_X8_allOf_4 ρ a 8 nn2 (nI j) v = some s := by
  have h7 := RT_7 R
  have hn := RT_n R
  intro d
  induction d with
  | zero =>
    intro j nn nn2 v e1 e2 e3
    obtain rfl : j = n := by omega
    obtain ⟨nn, rfl⟩ : ∃ j, nn = j + 1 := ⟨nn - 1, by omega⟩
    obtain ⟨nn2, rfl⟩ : ∃ j, nn2 = j + 1 := ⟨nn2 - 1, by omega⟩
    refine ⟨v, ?_, ?_⟩
    · rw [F_X6_allBacked_4, RT_2 R, if_pos (nI_le (Nat.le_refl _) (by omega))]
    · rw [F_X8_allOf_4, hn, if_pos (nI_le (Nat.le_refl _) (by omega))]
  | succ d ih =>
    intro j nn nn2 v e1 e2 e3
    obtain ⟨nn, rfl⟩ : ∃ j, nn = j + 1 := ⟨nn - 1, by omega⟩
    obtain ⟨nn2, rfl⟩ : ∃ j, nn2 = j + 1 := ⟨nn2 - 1, by omega⟩
    have jn : ¬ nI n ≤ nI j := nI_ge (by omega) (by omega)
    have C := RT_C R (show j < n by omega)
    rw [F_X6_allBacked_4, F_X8_allOf_4, RT_2 R, hn, if_neg jn, if_neg jn, ix_nI (by omega) (by decide), get8 (by omega), Option.bind_some, Option.bind_some, nI_1, C.2.2.2.2.2.1]
    exact ih (j + 1) nn nn2 _ (by omega) (by omega) (by omega)
theorem allBacked_p (R : RT σ t (ρ a) m len n) : ∃ s, F_X6_allBacked σ t = some s ∧ F_X8_allOf ρ a 8 = some s := by
  have fu : n < FU := Nat.lt_of_le_of_lt (RT_7 R) (by decide)
  exact allBacked_l R n 0 FU FU 0 (by omega) fu fu
theorem allWaited_l (R : RT σ t (ρ a) m len n) : ∀ (d j nn nn2 : Nat) (v : Int32), j + d = n → d < nn → d < nn2 → ∃ s, F_X6_allWaited_4 σ t nn (nI j) v = some s ∧ F_X8_allOf_4 ρ a 9 nn2 (nI j) v = some s := by
  have h7 := RT_7 R
  have hn := RT_n R
  intro d
  induction d with
  | zero =>
    intro j nn nn2 v e1 e2 e3
    obtain rfl : j = n := by omega
    obtain ⟨nn, rfl⟩ : ∃ j, nn = j + 1 := ⟨nn - 1, by omega⟩
    obtain ⟨nn2, rfl⟩ : ∃ j, nn2 = j + 1 := ⟨nn2 - 1, by omega⟩
    refine ⟨v, ?_, ?_⟩
    · rw [F_X6_allWaited_4, RT_2 R, if_pos (nI_le (Nat.le_refl _) (by omega))]
    · rw [F_X8_allOf_4, hn, if_pos (nI_le (Nat.le_refl _) (by omega))]
  | succ d ih =>
    intro j nn nn2 v e1 e2 e3
    obtain ⟨nn, rfl⟩ : ∃ j, nn = j + 1 := ⟨nn - 1, by omega⟩
    obtain ⟨nn2, rfl⟩ : ∃ j, nn2 = j + 1 := ⟨nn2 - 1, by omega⟩
    have jn : ¬ nI n ≤ nI j := nI_ge (by omega) (by omega)
    have C := RT_C R (show j < n by omega)
    rw [F_X6_allWaited_4, F_X8_allOf_4, RT_2 R, hn, if_neg jn, if_neg jn, ix_nI (by omega) (by decide), get9 (by omega), Option.bind_some, Option.bind_some, nI_1, C.2.2.2.2.2.2]
    exact ih (j + 1) nn nn2 _ (by omega) (by omega) (by omega)
theorem allWaited_p (R : RT σ t (ρ a) m len n) : ∃ s, F_X6_allWaited σ t = some s ∧ F_X8_allOf ρ a 9 = some s := by
  have fu : n < FU := Nat.lt_of_le_of_lt (RT_7 R) (by decide)
  exact allWaited_l R n 0 FU FU 0 (by omega) fu fu
theorem allWorth_l (R : RT σ t (ρ a) m len n) : ∀ (d j nn nn2 : Nat) (v : Int32), j + d = n → d < nn → d < nn2 → ∃ s, F_X6_allWorth_4 σ t nn (nI j) v = some s ∧ F_X8_allOf_4 ρ a 4 nn2 (nI j) v = some s := by
  have h7 := RT_7 R
  have hn := RT_n R
  intro d
  induction d with
  | zero =>
    intro j nn nn2 v e1 e2 e3
    obtain rfl : j = n := by omega
    obtain ⟨nn, rfl⟩ : ∃ j, nn = j + 1 := ⟨nn - 1, by omega⟩
    obtain ⟨nn2, rfl⟩ : ∃ j, nn2 = j + 1 := ⟨nn2 - 1, by omega⟩
    refine ⟨v, ?_, ?_⟩
    · rw [F_X6_allWorth_4, RT_2 R, if_pos (nI_le (Nat.le_refl _) (by omega))]
    · rw [F_X8_allOf_4, hn, if_pos (nI_le (Nat.le_refl _) (by omega))]
  | succ d ih =>
    intro j nn nn2 v e1 e2 e3
    obtain ⟨nn, rfl⟩ : ∃ j, nn = j + 1 := ⟨nn - 1, by omega⟩
    obtain ⟨nn2, rfl⟩ : ∃ j, nn2 = j + 1 := ⟨nn2 - 1, by omega⟩
    have jn : ¬ nI n ≤ nI j := nI_ge (by omega) (by omega)
    have C := RT_C R (show j < n by omega)
    rw [F_X6_allWorth_4, F_X8_allOf_4, RT_2 R, hn, if_neg jn, if_neg jn, ix_nI (by omega) (by decide), get4 (by omega), Option.bind_some, Option.bind_some, nI_1, C.2.1.2.2.2.1]
    exact ih (j + 1) nn nn2 _ (by omega) (by omega) (by omega)
theorem allWorth_p (R : RT σ t (ρ a) m len n) : ∃ s, F_X6_allWorth σ t = some s ∧ F_X8_allOf ρ a 4 = some s := by
  have fu : n < FU := Nat.lt_of_le_of_lt (RT_7 R) (by decide)
  exact allWorth_l R n 0 FU FU 0 (by omega) fu fu
end MN
