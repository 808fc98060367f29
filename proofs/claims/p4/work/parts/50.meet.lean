/-! two meet -/
theorem pl1 {α : Type} {p q r s u : Prop} [Decidable p] [Decidable q] [Decidable r] [Decidable s] [Decidable u] (A B : α) : (if p then (if q then (if u then A else B) else (if r then (if s then (if u then A else B) else B) else B)) else (if r then (if s then (if u then A else B) else B) else B)) = if ((p ∧ q) ∨ (r ∧ s)) ∧ u then A else B := by
  by_cases p <;> by_cases q <;> by_cases r <;> by_cases s <;> by_cases u <;> simp [*]
theorem pl2 {α : Type} {p q r s u : Prop} [Decidable p] [Decidable q] [Decidable r] [Decidable s] [Decidable u] (A B : α) : (if u then B else (if p then (if q then A else (if s then (if r then A else B) else B)) else (if s then (if r then A else B) else B))) = if ((p ∧ q) ∨ (r ∧ s)) ∧ ¬ u then A else B := by
  by_cases p <;> by_cases q <;> by_cases r <;> by_cases s <;> by_cases u <;> simp [*]
/-- what the reference does once two met -/
def RK (a : Nat) (x2 v7 v6 : Int32) (ρ : Mem) : Option Mem := (ix 121 ((14 + (3 * v6)) + 2)).bind fun k_20 => (F_X8_backsOf ρ a x2 v7 (ρ a k_20) v6).bind fun r_21 => if r_21 < 0 then (some ρ) else ((F_X8_backs_ ρ a r_21).bind fun σ_23 => some σ_23)
def NR (ρ1 ρ2 : Mem) (x2 v7 : Int32) (f : Mem → Option Mem) : Option Mem := if 0 ≤ (ρ1 91 19) then f ρ1 else (if x2 = (ρ1 91 17) then (if v7 = (ρ1 91 18) then f ρ2 else (if v7 = (ρ1 91 17) then (if x2 = (ρ1 91 18) then f ρ2 else f ρ1) else f ρ1)) else (if v7 = (ρ1 91 17) then (if x2 = (ρ1 91 18) then f ρ2 else f ρ1) else f ρ1))
/-- what the class does once two met -/
def MK (t : Nat) (x1 : Int32) (i2 : Nat) (v4 : Int32) (σ_7 : Mem) : Option Mem := (F_X6_pieceAhead σ_7 t i2).bind fun r_8 => (F_X4_villageBy σ_7 t r_8).bind fun r_9 => (F_X4_hillOf σ_7 t r_8).bind fun r_10 => (F_X6_backerOf σ_7 t x1 v4 r_9 r_10).bind fun r_11 => if r_11 < 0 ∨ σ_7 (22 * t) 2 ≤ r_11 ∨ 7 ≤ r_11 then (some σ_7) else ((ix 7 r_11).bind fun j_12 => (F_X0_beginBacking σ_7 (22 * t + 15 + j_12)).bind fun σ_13 => some σ_13)
section ME
variable {σ ρ σ' : Mem} {t a m n : Nat} {k k' : Nat → Int32} {len : Nat → Nat}
/-- only minute, still and meetings change -/
theorem RT_fld (R : RT σ t k m len n) (h1 : ∀ i, i ≠ 22 * t → σ' i = σ i) (h2 : ∀ j, j ≠ 2 → j ≠ 3 → j ≠ 4 → k' j = k j) (f2 : σ' (22 * t) 2 = σ (22 * t) 2) (f3 : σ' (22 * t) 3 = k' 2) (f4 : σ' (22 * t) 4 = k' 3) (f5 : σ' (22 * t) 5 = k' 4) (hM : ∃ M : Nat, M ≤ 999 ∧ k' 2 = nI M) : RT σ' t k' m len n := by
  have h7 := RT_7 R
  obtain ⟨V, ⟨hn, -⟩, -, K, D, ⟨g2, -, -, -⟩, W, hb, hon, hz⟩ := R
  have hr : ∀ i, 1 ≤ i → σ' (22 * t + i) = σ (22 * t + i) := fun i h => h1 _ (by omega)
  refine ⟨?_, ⟨(h2 1 (by omega) (by omega) (by omega)).trans hn, h7⟩, hM, ?_, ?_, ⟨?_, f3, f4, f5⟩, ?_, ?_, ?_, ?_⟩
  · obtain ⟨⟨v1, v2⟩, v3, v4, v5, v6, v7⟩ := V
    refine ⟨⟨(h2 0 (by omega) (by omega) (by omega)).trans v1, v2⟩, fun p hp => (h2 _ (by omega) (by omega) (by omega)).trans (v3 p hp), v4, fun p hp => ?_, fun p hp hp8 => ?_, fun v hv => ?_⟩
    · rw [h2 (15 + 3 * p) (by omega) (by omega) (by omega), h2 (16 + 3 * p) (by omega) (by omega) (by omega)]; exact v5 p hp
    · rw [h2 (5 + p) (by omega) (by omega) (by omega)]; exact v6 p hp hp8
    · rw [h2 (38 + 2 * v) (by omega) (by omega) (by omega), h2 (39 + 2 * v) (by omega) (by omega) (by omega)]; exact v7 v hv
  · intro j hj
    have q := K j hj
    unfold KO at q ⊢
    rw [h2 (44 + 11 * j) (by omega) (by omega) (by omega), h2 (46 + 11 * j) (by omega) (by omega) (by omega), h2 (47 + 11 * j) (by omega) (by omega) (by omega), h2 (48 + 11 * j) (by omega) (by omega) (by omega), h2 (49 + 11 * j) (by omega) (by omega) (by omega)]
    exact q
  · obtain ⟨d1, d2, d3, d4, d5, d6, d7, d8⟩ := D
    refine ⟨?_, ?_, fun p hp => ?_, fun p hp hp2 => ?_, fun p hp => ?_, fun p x hp hx hx2 => ?_, fun p x hp hx hx2 => ?_, fun v hv => ?_⟩
    · rw [hr 1 (by omega)]; exact d1
    · rw [hr 1 (by omega)]; exact d2
    · rw [hr 2 (by omega), hr 3 (by omega), hr 4 (by omega), h2 (14 + 3 * p) (by omega) (by omega) (by omega), h2 (15 + 3 * p) (by omega) (by omega) (by omega), h2 (16 + 3 * p) (by omega) (by omega) (by omega)]; exact d3 p hp
    · rw [hr 5 (by omega), h2 (5 + p) (by omega) (by omega) (by omega)]; exact d4 p hp hp2
    · rw [hr 6 (by omega), hr 7 (by omega), hr 9 (by omega), hr 10 (by omega)]; exact d5 p hp
    · rw [hr 7 (by omega), hr 9 (by omega), hr 10 (by omega)]; exact d6 p x hp hx hx2
    · rw [hr 8 (by omega)]; exact d7 p x hp hx hx2
    · rw [hr 11 (by omega), hr 12 (by omega), h2 (38 + 2 * v) (by omega) (by omega) (by omega), h2 (39 + 2 * v) (by omega) (by omega) (by omega)]; exact d8 v hv
  · rw [f2, h2 1 (by omega) (by omega) (by omega)]; exact g2
  · intro j hj
    have w := W j hj
    unfold CW at w ⊢
    rw [h1 (22 * t + 15 + j) (by omega), h2 (44 + 11 * j) (by omega) (by omega) (by omega), h2 (45 + 11 * j) (by omega) (by omega) (by omega), h2 (46 + 11 * j) (by omega) (by omega) (by omega), h2 (47 + 11 * j) (by omega) (by omega) (by omega), h2 (48 + 11 * j) (by omega) (by omega) (by omega), h2 (49 + 11 * j) (by omega) (by omega) (by omega), h2 (50 + 11 * j) (by omega) (by omega) (by omega), h2 (51 + 11 * j) (by omega) (by omega) (by omega), h2 (52 + 11 * j) (by omega) (by omega) (by omega), h2 (53 + 11 * j) (by omega) (by omega) (by omega), h2 (54 + 11 * j) (by omega) (by omega) (by omega)]
    exact w
  · intro j hj b hb12 hb4
    rw [h1 (22 * t + 15 + j) (by omega)]; exact hb j hj b hb12 hb4
  · intro s hs
    rw [hr 14 (by omega), hon s hs, occ_cg (fun i hi => ?_)]
    show (k (49 + 11 * i)).toInt = (k' (49 + 11 * i)).toInt
    rw [h2 (49 + 11 * i) (by omega) (by omega) (by omega)]
  · intro j hj
    rw [h2 (49 + 11 * j) (by omega) (by omega) (by omega), h2 (51 + 11 * j) (by omega) (by omega) (by omega)]; exact hz j hj
theorem KS_4 {j : Nat} (h : j = 4) (v : Int32) (k : Nat → Int32) : KS k (upd k j v) := fun q hq => upd_ne _ _ (by unfold sta at hq; omega)
theorem FrC_t {j : Nat} {v : Int32} (σ : Mem) (h : j ≠ 8) (h' : j ≠ 9) : FrC t σ (stm σ (22 * t) j v) := ⟨fun i hi => stm_ne _ _ _ (by omega), fun q _ => by rw [stm_ne _ _ _ (by omega)], by rw [stm_row, upd_ne _ _ (by omega)], by rw [stm_row, upd_ne _ _ (by omega)]⟩
theorem note_p (R : RT σ t (ρ a) m len n) (W : RW σ ρ t) (ha : a ≠ 91) {c o : Nat} (hc : c < n) (ho : o < n) : ∃ τ ρ', F_X6_noteMeeting σ t (nI c) (nI o) = some τ ∧ (∀ f, NR (stm ρ a 4 (ρ a 4 + 1)) (stm (stm ρ a 4 (ρ a 4 + 1)) 91 19 (stm ρ a 4 (ρ a 4 + 1) a 2)) (nI c) (nI o) f = f ρ') ∧ STP σ ρ τ ρ' t a m len n := by
  have h7 := RT_7 R
  have ha' : (91 : Nat) ≠ a := fun q => ha q.symm
  have hcl : F_X6_noteMeeting σ t (nI c) (nI o) = if ((nI c = (stm σ (22 * t) 5 ((σ (22 * t) 5) + 1)) (22 * t) 8 ∧ nI o = (stm σ (22 * t) 5 ((σ (22 * t) 5) + 1)) (22 * t) 9) ∨ (nI c = (stm σ (22 * t) 5 ((σ (22 * t) 5) + 1)) (22 * t) 9 ∧ nI o = (stm σ (22 * t) 5 ((σ (22 * t) 5) + 1)) (22 * t) 8)) ∧ (stm σ (22 * t) 5 ((σ (22 * t) 5) + 1)) (22 * t) 10 = -4 then some (stm (stm σ (22 * t) 5 ((σ (22 * t) 5) + 1)) (22 * t) 10 ((stm σ (22 * t) 5 ((σ (22 * t) 5) + 1)) (22 * t) 3)) else some (stm σ (22 * t) 5 ((σ (22 * t) 5) + 1)) := by
    unfold F_X6_noteMeeting
    exact pl1 _ _
  have hrf : ∀ f, NR (stm ρ a 4 (ρ a 4 + 1)) (stm (stm ρ a 4 (ρ a 4 + 1)) 91 19 (stm ρ a 4 (ρ a 4 + 1) a 2)) (nI c) (nI o) f = if ((nI c = stm ρ a 4 (ρ a 4 + 1) 91 17 ∧ nI o = stm ρ a 4 (ρ a 4 + 1) 91 18) ∨ (nI c = stm ρ a 4 (ρ a 4 + 1) 91 18 ∧ nI o = stm ρ a 4 (ρ a 4 + 1) 91 17)) ∧ ¬ 0 ≤ stm ρ a 4 (ρ a 4 + 1) 91 19 then f (stm (stm ρ a 4 (ρ a 4 + 1)) 91 19 (stm ρ a 4 (ρ a 4 + 1) a 2)) else f (stm ρ a 4 (ρ a 4 + 1)) := by
    intro f
    unfold NR
    exact pl2 _ _
  have c8 : stm σ (22 * t) 5 ((σ (22 * t) 5) + 1) (22 * t) 8 = σ (22 * t) 8 := by rw [stm_row, upd_ne _ _ (by omega)]
  have c9 : stm σ (22 * t) 5 ((σ (22 * t) 5) + 1) (22 * t) 9 = σ (22 * t) 9 := by rw [stm_row, upd_ne _ _ (by omega)]
  have c10 : stm σ (22 * t) 5 ((σ (22 * t) 5) + 1) (22 * t) 10 = σ (22 * t) 10 := by rw [stm_row, upd_ne _ _ (by omega)]
  have c3 : stm σ (22 * t) 5 ((σ (22 * t) 5) + 1) (22 * t) 3 = ρ a 2 := by rw [stm_row, upd_ne _ _ (by omega)]; exact RT_3 R
  have r91 : stm ρ a 4 (ρ a 4 + 1) 91 = ρ 91 := stm_ne _ _ _ ha'
  have r2 : stm ρ a 4 (ρ a 4 + 1) a 2 = ρ a 2 := by rw [stm_row, upd_ne _ _ (by omega)]
  rw [c8, c9, c10, c3] at hcl
  rw [r91, r2] at hrf
  have R1 : RT (stm σ (22 * t) 5 ((σ (22 * t) 5) + 1)) t (stm ρ a 4 (ρ a 4 + 1) a) m len n := by
    refine RT_fld R (fun i hi => stm_ne _ _ _ hi) (fun j _ _ h4 => by rw [stm_row, upd_ne _ _ h4]) ?_ ?_ ?_ ?_ ?_
    · rw [stm_row, upd_ne _ _ (by omega)]
    · rw [c3, r2]
    · rw [stm_row, upd_ne _ _ (by omega), stm_row, upd_ne _ _ (by omega)]; exact RT_4 R
    · rw [stm_row, upd_at, stm_row, upd_at, RT_5 R]
    · rw [r2]; exact RT_M R
  have S1 : RW (stm σ (22 * t) 5 ((σ (22 * t) 5) + 1)) (stm ρ a 4 (ρ a 4 + 1)) t := by
    have w := W
    unfold RW at w ⊢
    rw [c8, c9, c10, r91, stm_row, upd_ne _ _ (by omega)]
    exact w
  have T1 : STP σ ρ (stm σ (22 * t) 5 ((σ (22 * t) 5) + 1)) (stm ρ a 4 (ρ a 4 + 1)) t a m len n := ⟨R1, S1, FrC_t σ (by omega) (by omega), FrR_a ρ ha, by rw [stm_row]; exact KS_4 rfl _ _⟩
  have r2a : stm (stm ρ a 4 (ρ a 4 + 1)) 91 19 (ρ a 2) a = stm ρ a 4 (ρ a 4 + 1) a := stm_ne _ _ _ ha
  have F2 : FrR a ρ (stm (stm ρ a 4 (ρ a 4 + 1)) 91 19 (ρ a 2)) := FrR_tr (FrR_a ρ ha) ⟨fun i _ h2 => stm_ne _ _ _ h2, fun j h1 _ => by rw [stm_row, upd_ne _ _ h1]⟩
  have z4 : (-4 : Int32).toInt = -4 := by decide
  obtain ⟨M, hM, eM⟩ := RT_M R
  rcases W.2 with ⟨u8, u9⟩ | ⟨u8, u9, u10, u19⟩
  · -- nobody is watched by the class
    have hno : ¬ (((nI c = σ (22 * t) 8 ∧ nI o = σ (22 * t) 9) ∨ (nI c = σ (22 * t) 9 ∧ nI o = σ (22 * t) 8)) ∧ σ (22 * t) 10 = -4) := by
      rintro ⟨⟨q, -⟩ | ⟨q, -⟩, -⟩
      · rw [u8] at q; exact nI_neN (by omega) (by decide) q
      · rw [u9] at q; exact nI_neN (by omega) (by decide) q
    rw [if_neg hno] at hcl
    by_cases g : ((nI c = ρ 91 17 ∧ nI o = ρ 91 18) ∨ (nI c = ρ 91 18 ∧ nI o = ρ 91 17)) ∧ ¬ 0 ≤ ρ 91 19
    · refine ⟨_, _, hcl, fun f => by rw [r2, hrf f, if_pos g], ?_, ?_, T1.2.2.1, F2, by rw [r2a]; exact T1.2.2.2.2⟩
      · rw [r2a]; exact R1
      · refine ⟨?_, Or.inl ⟨by rw [c8]; exact u8, by rw [c9]; exact u9⟩⟩
        rw [stm_row, upd_ne _ _ (by omega), stm_row, upd_ne _ _ (by omega), r91]; exact W.1
    · exact ⟨_, _, hcl, fun f => by rw [r2, hrf f, if_neg g], T1⟩
  · have e19 : σ (22 * t) 10 = -4 ↔ ¬ 0 ≤ ρ 91 19 := by
      rw [u10]
      rcases u19 with q | q
      · rw [q]; decide
      · exact ⟨fun h => absurd q (by rw [h]; decide), fun h => absurd q h⟩
    rw [u8, u9] at hcl
    by_cases g : ((nI c = ρ 91 17 ∧ nI o = ρ 91 18) ∨ (nI c = ρ 91 18 ∧ nI o = ρ 91 17)) ∧ ¬ 0 ≤ ρ 91 19
    · rw [if_pos ⟨g.1, e19.mpr g.2⟩] at hcl
      refine ⟨_, _, hcl, fun f => by rw [r2, hrf f, if_pos g], ?_, ?_, FrC_tr (FrC_t σ (by omega) (by omega)) (FrC_t _ (by omega) (by omega)), F2, by rw [r2a]; exact T1.2.2.2.2⟩
      · rw [r2a]
        refine RT_fld R1 (fun i hi => stm_ne _ _ _ hi) (fun j _ _ _ => rfl) ?_ ?_ ?_ ?_ (RT_M R1)
        · rw [stm_row, upd_ne _ _ (by omega)]
        · rw [stm_row, upd_ne _ _ (by omega)]; exact RT_3 R1
        · rw [stm_row, upd_ne _ _ (by omega)]; exact RT_4 R1
        · rw [stm_row, upd_ne _ _ (by omega)]; exact RT_5 R1
      · refine ⟨?_, Or.inr ⟨?_, ?_, ?_, ?_⟩⟩
        · rw [stm_row, upd_ne _ _ (by omega), stm_row, upd_ne _ _ (by omega), stm_row, upd_ne _ _ (by omega), r91]; exact W.1
        · rw [stm_row, upd_ne _ _ (by omega), c8, stm_row, upd_ne _ _ (by omega), r91]; exact u8
        · rw [stm_row, upd_ne _ _ (by omega), c9, stm_row, upd_ne _ _ (by omega), r91]; exact u9
        · rw [stm_row, upd_at, stm_row, upd_at]
        · right
          rw [stm_row, upd_at, eM]; exact nI_pos' (by omega)
    · rw [if_neg (fun q => g ⟨q.1, e19.mp q.2⟩)] at hcl
      exact ⟨_, _, hcl, fun f => by rw [r2, hrf f, if_neg g], T1⟩
end ME
