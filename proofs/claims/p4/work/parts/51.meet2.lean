/-! the search for one that is met -/
section M2
variable {σ ρ : Mem} {t a m n : Nat} {len : Nat → Nat}
theorem meet_l (R : RT σ t (ρ a) m len n) {c x y p : Nat} {w v5 : Int32} (hc : c < n) (hw : ρ a (44 + 11 * c) = w) (hy : nI x + w = nI y) : ∀ (d j nn nn2 : Nat), j + d = n → d < nn → d < nn2 →
    (F_X6_meet_3 t (nI c) (22 * t + 15 + c) (nI y) nn σ (nI j) = some σ ∧ F_X8_goesOn_202 a (nI c) nn2 ρ (nI j) (nI p) v5 w (nI x) = some ρ ∧ F_X8_goesOn_202b a (nI c) nn2 ρ (nI j) (nI p) v5 w (nI x) = some ρ) ∨
    ∃ o, o < n ∧ ρ a (49 + 11 * o) = nI y ∧ ¬ ρ a (44 + 11 * o) = w ∧ F_X6_meet_3 t (nI c) (22 * t + 15 + c) (nI y) nn σ (nI j) = (F_X6_noteMeeting σ t (nI c) (nI o)).bind (MK t (nI c) (22 * t + 15 + c) (nI o)) ∧ F_X8_goesOn_202 a (nI c) nn2 ρ (nI j) (nI p) v5 w (nI x) = NR (stm ρ a 4 (ρ a 4 + 1)) (stm (stm ρ a 4 (ρ a 4 + 1)) 91 19 (stm ρ a 4 (ρ a 4 + 1) a 2)) (nI c) (nI o) (RK a (nI c) (nI o) (nI p)) ∧ F_X8_goesOn_202b a (nI c) nn2 ρ (nI j) (nI p) v5 w (nI x) = NR (stm ρ a 4 (ρ a 4 + 1)) (stm (stm ρ a 4 (ρ a 4 + 1)) 91 19 (stm ρ a 4 (ρ a 4 + 1) a 2)) (nI c) (nI o) (RK a (nI c) (nI o) (nI p)) := by
  have h7 := RT_7 R
  have hn := RT_n R
  intro d
  induction d with
  | zero =>
    intro j nn nn2 e1 e2 e3
    obtain rfl : j = n := by omega
    obtain ⟨nn, rfl⟩ : ∃ j, nn = j + 1 := ⟨nn - 1, by omega⟩
    obtain ⟨nn2, rfl⟩ : ∃ j, nn2 = j + 1 := ⟨nn2 - 1, by omega⟩
    refine Or.inl ⟨?_, ?_, ?_⟩
    · rw [F_X6_meet_3, RT_2 R, if_pos (nI_le (Nat.le_refl _) (by omega))]
    · rw [F_X8_goesOn_202, hn, if_pos (nI_le (Nat.le_refl _) (by omega))]
    · rw [F_X8_goesOn_202b, hn, if_pos (nI_le (Nat.le_refl _) (by omega))]
  | succ d ih =>
    intro j nn nn2 e1 e2 e3
    obtain ⟨nn, rfl⟩ : ∃ j, nn = j + 1 := ⟨nn - 1, by omega⟩
    obtain ⟨nn2, rfl⟩ : ∃ j, nn2 = j + 1 := ⟨nn2 - 1, by omega⟩
    have I := ih (j + 1) nn nn2 (by omega) (by omega) (by omega)
    have jn : ¬ nI n ≤ nI j := nI_ge (by omega) (by omega)
    have C := RT_C R (show j < n by omega)
    have Cc := RT_C R hc
    have ix := ix_nI (n := 7) (show j < 7 by omega) (by decide)
    have j7 : j < 7 := by omega
    have c6 := C.2.2.1
    have cw : σ (22 * t + 15 + j) 0 = σ (22 * t + 15 + c) 0 ↔ ρ a (44 + 11 * j) = w := by
      rcases C.1 with ⟨q1, q2⟩ | ⟨q1, q2⟩ <;> rcases Cc.1 with ⟨q3, q4⟩ | ⟨q3, q4⟩ <;> rw [q1, q2, q4, ← hw, q3] <;> decide
    have s1 : F_X6_meet_3 t (nI c) (22 * t + 15 + c) (nI y) (nn + 1) σ (nI j) = if ρ a (49 + 11 * j) = nI y then (if σ (22 * t + 15 + j) 0 = σ (22 * t + 15 + c) 0 then F_X6_meet_3 t (nI c) (22 * t + 15 + c) (nI y) nn σ (nI (j + 1)) else (if σ (22 * t + 15 + j) 7 = 0 then (F_X6_noteMeeting σ t (nI c) (nI j)).bind (MK t (nI c) (22 * t + 15 + c) (nI j)) else F_X6_meet_3 t (nI c) (22 * t + 15 + c) (nI y) nn σ (nI (j + 1)))) else F_X6_meet_3 t (nI c) (22 * t + 15 + c) (nI y) nn σ (nI (j + 1)) := by
      rw [F_X6_meet_3, RT_2 R, if_neg jn, ix, Option.bind_some, c6, nI_1]
      rfl
    have s2 : F_X8_goesOn_202 a (nI c) (nn2 + 1) ρ (nI j) (nI p) v5 w (nI x) = if ρ a (49 + 11 * j) = nI y then (if ρ a (44 + 11 * j) = w then F_X8_goesOn_202 a (nI c) nn2 ρ (nI (j + 1)) (nI p) v5 w (nI x) else (if ρ a (50 + 11 * j) ≤ 0 then NR (stm ρ a 4 (ρ a 4 + 1)) (stm (stm ρ a 4 (ρ a 4 + 1)) 91 19 (stm ρ a 4 (ρ a 4 + 1) a 2)) (nI c) (nI j) (RK a (nI c) (nI j) (nI p)) else F_X8_goesOn_202 a (nI c) nn2 ρ (nI (j + 1)) (nI p) v5 w (nI x))) else F_X8_goesOn_202 a (nI c) nn2 ρ (nI (j + 1)) (nI p) v5 w (nI x) := by
      rw [F_X8_goesOn_202, hn, if_neg jn, get5 j7, Option.bind_some, hy, get0 j7, Option.bind_some, get6 j7, Option.bind_some, nI_1]
      rfl
    have s3 : F_X8_goesOn_202b a (nI c) (nn2 + 1) ρ (nI j) (nI p) v5 w (nI x) = if ρ a (49 + 11 * j) = nI y then (if ρ a (44 + 11 * j) = w then F_X8_goesOn_202b a (nI c) nn2 ρ (nI (j + 1)) (nI p) v5 w (nI x) else (if ρ a (50 + 11 * j) ≤ 0 then NR (stm ρ a 4 (ρ a 4 + 1)) (stm (stm ρ a 4 (ρ a 4 + 1)) 91 19 (stm ρ a 4 (ρ a 4 + 1) a 2)) (nI c) (nI j) (RK a (nI c) (nI j) (nI p)) else F_X8_goesOn_202b a (nI c) nn2 ρ (nI (j + 1)) (nI p) v5 w (nI x))) else F_X8_goesOn_202b a (nI c) nn2 ρ (nI (j + 1)) (nI p) v5 w (nI x) := by
      rw [F_X8_goesOn_202b, hn, if_neg jn, get5 j7, Option.bind_some, hy, get0 j7, Option.bind_some, get6 j7, Option.bind_some, nI_1]
      rfl
    rw [s1, s2, s3]
    by_cases k1 : ρ a (49 + 11 * j) = nI y
    · by_cases k2 : ρ a (44 + 11 * j) = w
      · rw [if_pos k1, if_pos (cw.mpr k2), if_pos k1, if_pos k2, if_pos k1, if_pos k2]
        exact I
      · have k2' : ¬ σ (22 * t + 15 + j) 0 = σ (22 * t + 15 + c) 0 := fun q => k2 (cw.mp q)
        rcases CW_bk C with ⟨b1, -, b3⟩ | ⟨b1, -, b3, -⟩
        · rw [if_pos k1, if_neg k2', if_pos b3, if_pos k1, if_neg k2, if_pos b1, if_pos k1, if_neg k2, if_pos b1]
          exact Or.inr ⟨j, by omega, k1, k2, rfl, rfl, rfl⟩
        · have b3' : ¬ σ (22 * t + 15 + j) 7 = 0 := by rw [b3]; exact i10
          rw [if_pos k1, if_neg k2', if_neg b3', if_pos k1, if_neg k2, if_neg b1, if_pos k1, if_neg k2, if_neg b1]
          exact I
    · rw [if_neg k1, if_neg k1, if_neg k1]
      exact I
/-- they meet: who begins to back -/
theorem met_k (R : RT σ t (ρ a) m len n) (W : RW σ ρ t) (ha : a ≠ 91) {c o x y p : Nat} {w : Int32} (hc : c < n) (ho : o < n) (hw : ρ a (44 + 11 * c) = w) (hwo : ¬ ρ a (44 + 11 * o) = w) (hs : ρ a (49 + 11 * c) = nI x) (hso : ρ a (49 + 11 * o) = nI y) (hx : x ≤ PS len m) (hy : y ≤ PS len m) (hp : p < m) (h1 : PS len p < x) (h2 : x < PS len (p + 1)) :
    ∃ σ' ρ', MK t (nI c) (22 * t + 15 + c) (nI o) σ = some σ' ∧ RK a (nI c) (nI o) (nI p) ρ = some ρ' ∧ STP σ ρ σ' ρ' t a m len n := by
  have h7 := RT_7 R
  have h8 := RT_8 R
  have V := RT_V R
  have hne : c ≠ o := by
    intro e; subst e; exact hwo hw
  have h3 : PS len (p + 1) ≤ PS len m := PS_mono (by omega)
  have hpa : F_X6_pieceAhead σ t (22 * t + 15 + c) = some (nI p) := by
    rcases (RT_K R hc).1 with q | q
    · obtain ⟨p', q1, q2, q3, q4, -⟩ := ahead_up R hc q hs (by omega)
      rw [q4, PS_un (len := len) (p := p') (q := p) (x := x) q2 q3 (by omega) h2]
    · obtain ⟨p', q1, q2, q3, q4, -⟩ := ahead_dn R hc q hs hx (by omega)
      rw [q4, PS_un (len := len) (p := p') (q := p) (x := x - 1) (by omega) (by omega) (by omega) (by omega)]
  obtain ⟨v, hv, ev⟩ := vil3 (VS_vil V hp)
  have opp : ρ a (44 + 11 * c) = 1 ∧ ρ a (44 + 11 * o) = -1 ∨ ρ a (44 + 11 * c) = -1 ∧ ρ a (44 + 11 * o) = 1 := by
    rcases (RT_K R hc).1 with q | q <;> rcases (RT_K R ho).1 with q' | q'
    · exact absurd (q'.trans (q.symm.trans hw)) hwo
    · exact Or.inl ⟨q, q'⟩
    · exact Or.inr ⟨q, q'⟩
    · exact absurd (q'.trans (q.symm.trans hw)) hwo
  obtain ⟨z, z1, z2, z3⟩ := backer_p R (piece := nI p) (hill := ρ a (15 + 3 * p)) hc ho hne hv hs hso hx hy opp (Or.inr ⟨p, hp, rfl, rfl⟩)
  have cl : MK t (nI c) (22 * t + 15 + c) (nI o) σ = if z < 0 ∨ σ (22 * t) 2 ≤ z ∨ 7 ≤ z then some σ else ((ix 7 z).bind fun j_12 => (F_X0_beginBacking σ (22 * t + 15 + j_12)).bind fun σ_13 => some σ_13) := by
    unfold MK
    rw [hpa, Option.bind_some, villageBy_c R hp, Option.bind_some, hillOf_c R hp, Option.bind_some, ev, z1, Option.bind_some]
  have rf : RK a (nI c) (nI o) (nI p) ρ = if z < 0 then some ρ else ((F_X8_backs_ ρ a z).bind fun σ_23 => some σ_23) := by
    unfold RK
    rw [ix16 (by omega), Option.bind_some, ev, z2, Option.bind_some]
  have key : ∀ q, q < n → z = nI q → ∃ σ' ρ', MK t (nI c) (22 * t + 15 + c) (nI o) σ = some σ' ∧ RK a (nI c) (nI o) (nI p) ρ = some ρ' ∧ STP σ ρ σ' ρ' t a m len n := by
    intro q hq ez
    subst ez
    have cq : ¬ (nI q < 0 ∨ σ (22 * t) 2 ≤ nI q ∨ 7 ≤ nI q) := nocart rfl (by omega) (by rw [RT_2 R]; exact nI_lt hq (by omega))
    have bb : F_X8_backs_ ρ a (nI q) = some (stm ρ a (50 + 11 * q) 1) := by
      unfold F_X8_backs_
      rw [puts6 (by omega), Option.bind_some]
    refine ⟨_, _, ?_, ?_, e_beg R W ha hq⟩
    · rw [cl, if_neg cq, ix_nI (show q < 7 by omega) (by decide), Option.bind_some, beg_c, Option.bind_some]
    · rw [rf, if_neg (nI_pos (by omega)), bb, Option.bind_some]
  rcases z3 with e | e | e
  · subst e
    refine ⟨_, _, ?_, ?_, R, W, FrC_rf t σ, FrR_rf a ρ, KS_rf _⟩
    · rw [cl, if_pos (Or.inl im4)]
    · rw [rf, if_pos im4]
  · exact key c hc e
  · exact key o ho e
/-- meet of the class, the loop of goesOn -/
theorem meet_p (R : RT σ t (ρ a) m len n) (W : RW σ ρ t) (ha : a ≠ 91) {c x y p : Nat} {w v5 : Int32} (hc : c < n) (hw : ρ a (44 + 11 * c) = w) (hyw : nI x + w = nI y) (hs : ρ a (49 + 11 * c) = nI x) (hx : x ≤ PS len m) (hy : y ≤ PS len m) (hp : p < m) (h1 : PS len p < x) (h2 : x < PS len (p + 1)) :
    ∃ σ' ρ', F_X6_meet σ t (nI c) (22 * t + 15 + c) (nI y) = some σ' ∧ F_X8_goesOn_202 a (nI c) FU ρ 0 (nI p) v5 w (nI x) = some ρ' ∧ F_X8_goesOn_202b a (nI c) FU ρ 0 (nI p) v5 w (nI x) = some ρ' ∧ STP σ ρ σ' ρ' t a m len n := by
  have h7 := RT_7 R
  have fu : n < FU := Nat.lt_of_le_of_lt h7 (by decide)
  rcases meet_l R (p := p) (v5 := v5) hc hw hyw n 0 FU FU (by omega) fu fu with ⟨q1, q2, q3⟩ | ⟨o, ho, so, wo, q1, q2, q3⟩
  · exact ⟨σ, ρ, q1, q2, q3, R, W, FrC_rf t σ, FrR_rf a ρ, KS_rf _⟩
  · obtain ⟨τ, ρ1, n1, n2, n3⟩ := note_p R W ha hc ho
    have ks := n3.2.2.2.2
    have sta44 : ∀ i, sta (44 + 11 * i) := fun i => by unfold sta; omega
    have e44 : ∀ i, ρ1 a (44 + 11 * i) = ρ a (44 + 11 * i) := fun i => ks _ (sta44 i)
    have e49 : ∀ i, i < n → ρ1 a (49 + 11 * i) = ρ a (49 + 11 * i) := by
      intro i hi
      have r1 := (RT_C n3.1 hi).2.2.1
      have r2 := (RT_C R hi).2.2.1
      have r3 : τ (22 * t + 15 + i) = σ (22 * t + 15 + i) := by
        unfold F_X6_noteMeeting at n1
        have : ∀ (A : Mem), some A = some τ → (∀ b, b ≠ 22 * t → A b = σ b) → τ (22 * t + 15 + i) = σ (22 * t + 15 + i) := fun A h hA => by rw [← Option.some.inj h]; exact hA _ (by omega)
        revert n1
        repeat' split
        all_goals intro n1
        all_goals exact this _ n1 (fun b hb => by simp only [stm_ne _ _ _ hb])
      rw [← r1, r3, r2]
    obtain ⟨σ', ρ', m1, m2, m3⟩ := met_k n3.1 n3.2.1 ha (w := w) hc ho (by rw [e44]; exact hw) (by rw [e44]; exact wo) (by rw [e49 c hc]; exact hs) (by rw [e49 o ho]; exact so) hx hy hp h1 h2
    refine ⟨σ', ρ', ?_, ?_, ?_, STP_tr n3 m3⟩
    · exact q1.trans (by rw [n1, Option.bind_some, m1])
    · exact q2.trans (by rw [n2, m2])
    · exact q3.trans (by rw [n2, m2])
end M2
