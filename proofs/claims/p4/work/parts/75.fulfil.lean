/-! what a statement does, both sides -/
section FU
variable {σ σ' ρ : Mem} {t a m n : Nat} {k : Nat → Int32} {len : Nat → Nat}
theorem piece_x (R : RT σ t k m len n) {a b : Nat} (h : ¬ (2 ≤ a ∧ a ≤ 9 ∧ b ≤ 2 ∧ m < 8)) (ha : a ≤ 9) (hb : b ≤ 9) : F_X4_addPiece σ t (nI a) (nI b) = some (σ, 0) := by
  have d1 := (RT_R R).1
  have h8 := RT_8 R
  unfold F_X4_addPiece
  rw [d1]
  by_cases q1 : m < 8
  · rw [if_neg (show ¬ (8 : Int32) ≤ nI m from nI_ge (a := m) (b := 8) q1 (by decide))]
    by_cases q2 : 2 ≤ a
    · rw [if_neg (show ¬ nI a < (2 : Int32) from nI_nlt (a := a) (b := 2) q2 (by omega)), if_pos (show nI a ≤ (9 : Int32) from nI_le (a := a) (b := 9) ha (by decide)), if_neg (nI_pos (by omega)), if_neg (show ¬ nI b ≤ (2 : Int32) from nI_ge (a := 2) (b := b) (by omega) (by omega))]
    · rw [if_pos (show nI a < (2 : Int32) from nI_lt (a := a) (b := 2) (by omega) (by decide))]
  · rw [if_pos (show (8 : Int32) ≤ nI m from nI_le (a := 8) (b := m) (by omega) (by omega))]
theorem room_x (R : RT σ t k m len n) {a b : Nat} (h : ¬ (1 ≤ a ∧ a < m ∧ b ≤ 4)) (ha : a ≤ 9) (hb : b ≤ 9) : F_X4_tellRoom σ t (nI a) (nI b) = some (σ, 0) := by
  have d1 := (RT_R R).1
  have h8 := RT_8 R
  unfold F_X4_tellRoom F_X4_isBetween
  rw [d1]
  by_cases q1 : 1 ≤ a
  · rw [if_neg (show ¬ nI a ≤ (0 : Int32) from nI_ge (a := 0) (b := a) q1 (by omega))]
    by_cases q2 : a < m
    · rw [if_neg (nI_ge q2 (by omega)), if_neg (show ¬ (8 : Int32) ≤ nI a from nI_ge (a := a) (b := 8) (by omega) (by decide)), Option.bind_some, if_neg i10, if_neg (nI_pos (by omega)), if_neg (show ¬ nI b ≤ (4 : Int32) from nI_ge (a := 4) (b := b) (by omega) (by omega))]
    · rw [if_pos (nI_le (by omega) (by omega)), Option.bind_some, if_pos rfl]
  · obtain rfl : a = 0 := by omega
    rw [if_pos (show nI 0 ≤ (0 : Int32) by decide), Option.bind_some, if_pos rfl]
theorem room_y (R : RT σ t k m len n) {a b : Nat} (h : 1 ≤ a ∧ a < m ∧ b ≤ 4) : F_X4_tellRoom σ t (nI a) (nI b) = some (stm σ (22 * t + 5) a (nI b), 1) := by
  have d1 := (RT_R R).1
  have h8 := RT_8 R
  unfold F_X4_tellRoom F_X4_isBetween
  rw [d1, if_neg (show ¬ nI a ≤ (0 : Int32) from nI_ge (a := 0) (b := a) h.1 (by omega)), if_neg (nI_ge h.2.1 (by omega)), if_neg (show ¬ (8 : Int32) ≤ nI a from nI_ge (a := a) (b := 8) (by omega) (by decide)), Option.bind_some, if_neg i10, if_neg (nI_pos (by omega)), if_pos (show nI b ≤ (4 : Int32) from nI_le (a := b) (b := 4) h.2.2 (by decide)), ix_nI (show a < 9 by omega) (by decide), Option.bind_some]
theorem vil_x (R : RT σ t k m len n) {a b : Nat} (h : ¬ (a < m ∧ b ≤ 2)) (ha : a ≤ 9) (hb : b ≤ 9) : F_X4_tellVillage σ t (nI a) (nI b) = some (σ, 0) := by
  have d1 := (RT_R R).1
  have h8 := RT_8 R
  unfold F_X4_tellVillage
  rw [d1, if_neg (nI_pos (by omega))]
  by_cases q2 : a < m
  · rw [if_neg (nI_ge q2 (by omega)), if_neg (nI_pos (by omega)), if_neg (show ¬ nI b < (3 : Int32) from nI_nlt (a := b) (b := 3) (by omega) (by omega))]
  · rw [if_pos (nI_le (by omega) (by omega))]
theorem vil_y (R : RT σ t k m len n) {a b : Nat} (h : a < m ∧ b ≤ 2) : F_X4_tellVillage σ t (nI a) (nI b) = some (stm σ (22 * t + 4) a (nI b), 1) := by
  have d1 := (RT_R R).1
  have h8 := RT_8 R
  unfold F_X4_tellVillage
  rw [d1, if_neg (nI_pos (by omega)), if_neg (nI_ge h.1 (by omega)), if_neg (nI_pos (by omega)), if_pos (show nI b < (3 : Int32) from nI_lt (a := b) (b := 3) (by omega) (by decide)), ix_nI (show a < 8 by omega) (by decide), Option.bind_some]
theorem rule_x {a b c : Nat} (h : ¬ (a < 3 ∧ b < 8 ∧ c ≤ 9)) (ha : a ≤ 9) (hb : b ≤ 9) (hc : c ≤ 9) : F_X4_tellRule σ t (nI a) (nI b) (nI c) = some (σ, 0) := by
  unfold F_X4_tellRule
  rw [if_neg (nI_pos (by omega))]
  by_cases q1 : a < 3
  · rw [if_neg (show ¬ (3 : Int32) ≤ nI a from nI_ge (a := a) (b := 3) q1 (by decide)), if_neg (nI_pos (by omega)), if_neg (show ¬ nI b < (8 : Int32) from nI_nlt (a := b) (b := 8) (by omega) (by omega))]
  · rw [if_pos (show (3 : Int32) ≤ nI a from nI_le (a := 3) (b := a) (by omega) (by omega))]
theorem cart_x0 (R : RT σ t k m len n) {a b c : Nat} (x l : Int32) (h : ¬ (n < 7 ∧ a ≤ 199 ∧ b ≤ 3 ∧ c ≤ 99)) (ha : a ≤ 999) (hb : b ≤ 9) (hc : c ≤ 999) : F_X6_addCart σ t x (nI a) (nI b) l (nI c) = some (σ, 0) := by
  have h7 := RT_7 R
  unfold F_X6_addCart
  rw [RT_2 R]
  by_cases q1 : n < 7
  · rw [if_neg (show ¬ (7 : Int32) ≤ nI n from nI_ge (a := n) (b := 7) q1 (by decide))]
    by_cases q2 : a ≤ 199
    · rw [if_neg (show ¬ (199 : Int32) < nI a from nI_nlt (a := 199) (b := a) q2 (by decide))]
      by_cases q3 : b ≤ 3
      · rw [if_neg (show ¬ (3 : Int32) < nI b from nI_nlt (a := 3) (b := b) q3 (by decide)), if_neg (show ¬ nI c ≤ (99 : Int32) from nI_ge (a := 99) (b := c) (by omega) (by omega))]
      · rw [if_pos (show (3 : Int32) < nI b from nI_lt (a := 3) (b := b) (by omega) (by omega))]
    · rw [if_pos (show (199 : Int32) < nI a from nI_lt (a := 199) (b := a) (by omega) (by omega))]
  · rw [if_pos (show (7 : Int32) ≤ nI n from nI_le (a := 7) (b := n) (by omega) (by omega))]
/-- both sides do what a statement asks, or neither -/
def DOES (σ ρ : Mem) (W : Int32) (n : Nat) : Prop := (F_X3_fulfil σ 2 = some (σ, 0) ∧ F_X8_comes ρ W = some (ρ, 0)) ∨ ∃ (σ' ρ' : Mem) (m' : Nat) (len' : Nat → Nat) (n' : Nat), F_X3_fulfil σ 2 = some (σ', 1) ∧ F_X8_comes ρ W = some (ρ', 1) ∧ RT σ' 2 (ρ' 95) m' len' n' ∧ FrC 2 σ σ' ∧ ∀ i, i ≠ 95 → ρ' i = ρ i
theorem ful_112 (R : RT σ 2 (ρ 95) m len n) {a b : Nat} (ha : a ≤ 9) (hb : b ≤ 9) (n0 : ρ 102 0 = nI a) (n1 : ρ 102 1 = nI b) (h3 : σ 85 3 = 112) (h4 : σ 85 4 = nI a) (h5 : σ 85 5 = nI b) : DOES σ ρ 112 n := by
  obtain ⟨M, hM, eM⟩ := R.2.2.1
  have e3 : σ (22 * 2) 3 = nI M := (RT_3 R).trans eM
  have h8 := RT_8 R
  have k0 : ρ 95 0 = nI m := R.1.1.1
  have l112 : ¬ (112 : Int32) = 114 := by decide
  by_cases z : M = 0
  · subst z
    have ec : F_X3_fulfil σ 2 = bd2 (F_X4_addPiece σ 2 (nI a) (nI b)) fun s r => if r = 0 then (some (s, 0)) else (some (s, 1)) := by
      unfold F_X3_fulfil
      rw [e3, if_pos (show nI 0 ≤ (0 : Int32) by decide), h3, if_pos rfl, h4, h5]
    have er : F_X8_comes ρ 112 = if nI a < 2 ∨ 9 < nI a then (some (ρ, 0)) else (if 2 < nI b then (some (ρ, 0)) else (if nI m = 8 then (some (ρ, 0)) else some ((stm (stm (stm (stm ρ 95 (14 + 3 * m) (nI a)) 95 (15 + 3 * m) (nI b)) 95 (16 + 3 * m) 0) 95 0 (nI (m + 1))), 1))) := by
      have x14 : ix 121 (14 + (3 * nI m)) = some (14 + 3 * m) := ix14 (by omega)
      have x15 : ix 121 ((14 + (3 * nI m)) + 1) = some (15 + 3 * m) := ix15 (by omega)
      have x16 : ix 121 ((14 + (3 * nI m)) + 2) = some (16 + 3 * m) := ix16 (by omega)
      have s0 : stm (stm (stm ρ 95 (14 + 3 * m) (nI a)) 95 (15 + 3 * m) (nI b)) 95 (16 + 3 * m) 0 95 0 = nI m := by simp only [stm_row]; simp (disch := omega) only [upd_ne]; exact k0
      unfold F_X8_comes
      rw [show ρ 95 2 = nI 0 from eM, if_pos (show nI 0 ≤ (0 : Int32) by decide), if_pos rfl, n0, n1, k0, x14, Option.bind_some, x15, Option.bind_some, x16, Option.bind_some, s0, nI_1]
    by_cases q : 2 ≤ a ∧ a ≤ 9 ∧ b ≤ 2 ∧ m < 8
    · obtain ⟨σ1, c1, c2, c3⟩ := piece_p R q.1 q.2.1 q.2.2.1 q.2.2.2
      refine Or.inr ⟨σ1, stm (stm (stm (stm ρ 95 (14 + 3 * m) (nI a)) 95 (15 + 3 * m) (nI b)) 95 (16 + 3 * m) 0) 95 0 (nI (m + 1)), m + 1, fun p => if p = m then a else len p, n, by rw [ec, c1, bd2_s, if_neg i10], ?_, ?_, c2, ?_⟩
      · rw [er, if_neg (fun w => w.elim (nI_nlt (a := a) (b := 2) q.1 (by omega)) (nI_nlt (a := 9) (b := a) ha (by decide))), if_neg (show ¬ (2 : Int32) < nI b from nI_nlt (a := 2) (b := b) q.2.2.1 (by decide)), if_neg (show ¬ nI m = (8 : Int32) from fun w => by have := nI_inj (a := m) (b := 8) w (by omega) (by omega); omega)]
      · simp only [stm_row]; exact c3
      · intro i hi; rw [stm_ne _ _ _ hi, stm_ne _ _ _ hi, stm_ne _ _ _ hi, stm_ne _ _ _ hi]
    · refine Or.inl ⟨by rw [ec, piece_x R q ha hb, bd2_s, if_pos rfl], ?_⟩
      rw [er]
      by_cases q2 : 2 ≤ a
      · rw [if_neg (fun w => w.elim (nI_nlt (a := a) (b := 2) q2 (by omega)) (nI_nlt (a := 9) (b := a) ha (by decide)))]
        by_cases q3 : b ≤ 2
        · rw [if_neg (show ¬ (2 : Int32) < nI b from nI_nlt (a := 2) (b := b) q3 (by decide)), if_pos (show nI m = (8 : Int32) by rw [show m = 8 by omega]; rfl)]
        · rw [if_pos (show (2 : Int32) < nI b from nI_lt (a := 2) (b := b) (by omega) (by omega))]
      · rw [if_pos (Or.inl (show nI a < (2 : Int32) from nI_lt (a := a) (b := 2) (by omega) (by decide)))]
  · have zz : ¬ nI M ≤ (0 : Int32) := nI_ge (a := 0) (b := M) (by omega) (by omega)
    refine Or.inl ⟨?_, ?_⟩
    · unfold F_X3_fulfil
      rw [e3, if_neg zz, h3, if_pos rfl]
    · unfold F_X8_comes
      rw [show ρ 95 2 = nI M from eM, if_neg zz, if_pos rfl]
theorem nI_pl {a b : Nat} (ha : a ≤ 1000) (hb : b ≤ 1000) : nI a - 1 < nI b ↔ a ≤ b := by
  have z1 : (1 : Int32).toInt = 1 := by decide
  have e := nI_toInt (n := a) (by omega)
  have f := nI_toInt (n := b) (by omega)
  rw [i32_lt, t_sub (by rw [e, z1]; omega) (by rw [e, z1]; omega), e, f, z1]
  omega
theorem ful_114 (R : RT σ 2 (ρ 95) m len n) {a b : Nat} (ha : a ≤ 9) (hb : b ≤ 9) (n0 : ρ 102 0 = nI a) (n1 : ρ 102 1 = nI b) (h3 : σ 85 3 = 114) (h4 : σ 85 4 = nI a) (h5 : σ 85 5 = nI b) : DOES σ ρ 114 n := by
  obtain ⟨M, hM, eM⟩ := R.2.2.1
  have e3 : σ (22 * 2) 3 = nI M := (RT_3 R).trans eM
  have h8 := RT_8 R
  have k0 : ρ 95 0 = nI m := R.1.1.1
  have l112 : ¬ (114 : Int32) = 112 := by decide
  by_cases z : M = 0
  · subst z
    have z0 : nI 0 ≤ (0 : Int32) := by decide
    have ec : F_X3_fulfil σ 2 = bd2 (F_X4_tellRoom σ 2 (nI a) (nI b)) fun s r => if r = 0 then (some (s, 0)) else (some (s, 1)) := by
      unfold F_X3_fulfil
      rw [e3, if_pos z0, h3, if_neg l112, if_pos rfl, h4, h5]
    have er : F_X8_comes ρ 114 = if nI a < 1 ∨ nI m - 1 < nI a then (some (ρ, 0)) else (if nI b ≤ 4 then some ((stm ρ 95 (5 + a) (nI b)), 1) else (some (ρ, 0))) := by
      have x5 : ix 121 (5 + nI a) = some (5 + a) ∨ 9 ≤ a := by
        by_cases q : a < 9
        · exact Or.inl (ix5 q)
        · exact Or.inr (by omega)
      unfold F_X8_comes
      rw [show ρ 95 2 = nI 0 from eM, if_pos z0, if_neg l112, if_pos rfl, n0, n1, k0]
      rcases x5 with x5 | x9
      · rw [x5, Option.bind_some]
      · have w : nI a < 1 ∨ nI m - 1 < nI a := Or.inr ((nI_pl (by omega) (by omega)).2 (by omega))
        rw [if_pos w, if_pos w]
    by_cases q : 1 ≤ a ∧ a < m ∧ b ≤ 4
    · refine Or.inr ⟨stm σ (22 * 2 + 5) a (nI b), stm ρ 95 (5 + a) (nI b), m, len, n, by rw [ec, room_y R q, bd2_s, if_neg i10], ?_, ?_, FrC_road (fun i hi => stm_ne _ _ _ (by omega)), fun i hi => stm_ne _ _ _ hi⟩
      · rw [er, if_neg (fun w => w.elim (nI_nlt (a := a) (b := 1) q.1 (by omega)) (fun w => by have := (nI_pl (by omega) (by omega)).1 w; omega)), if_pos (show nI b ≤ (4 : Int32) from nI_le (a := b) (b := 4) q.2.2 (by decide))]
      · rw [stm_row]; exact RT_room R q.1 q.2.1 q.2.2
    · refine Or.inl ⟨by rw [ec, room_x R q ha hb, bd2_s, if_pos rfl], ?_⟩
      rw [er]
      by_cases q2 : 1 ≤ a ∧ a < m
      · rw [if_neg (fun w => w.elim (nI_nlt (a := a) (b := 1) q2.1 (by omega)) (fun w => by have := (nI_pl (by omega) (by omega)).1 w; omega)), if_neg (show ¬ nI b ≤ (4 : Int32) from nI_ge (a := 4) (b := b) (by omega) (by omega))]
      · have w : nI a < 1 ∨ nI m - 1 < nI a := by
          by_cases q3 : 1 ≤ a
          · exact Or.inr ((nI_pl (by omega) (by omega)).2 (by omega))
          · exact Or.inl (nI_lt (a := a) (b := 1) (by omega) (by decide))
        rw [if_pos w]
  · have zz : ¬ nI M ≤ (0 : Int32) := nI_ge (a := 0) (b := M) (by omega) (by omega)
    refine Or.inl ⟨?_, ?_⟩
    · unfold F_X3_fulfil
      rw [e3, if_neg zz, h3, if_neg l112, if_pos rfl]
    · unfold F_X8_comes
      rw [show ρ 95 2 = nI M from eM, if_neg zz, if_neg l112, if_pos rfl]
theorem ful_118 (R : RT σ 2 (ρ 95) m len n) {a b : Nat} (ha : a ≤ 9) (hb : b ≤ 9) (n0 : ρ 102 0 = nI a) (n1 : ρ 102 1 = nI b) (h3 : σ 85 3 = 118) (h4 : σ 85 4 = nI a) (h5 : σ 85 5 = nI b) : DOES σ ρ 118 n := by
  obtain ⟨M, hM, eM⟩ := R.2.2.1
  have e3 : σ (22 * 2) 3 = nI M := (RT_3 R).trans eM
  have h8 := RT_8 R
  have k0 : ρ 95 0 = nI m := R.1.1.1
  have l112 : ¬ (118 : Int32) = 112 := by decide
  have l114 : ¬ (118 : Int32) = 114 := by decide
  have ec : F_X3_fulfil σ 2 = bd2 (F_X4_tellVillage σ 2 (nI a) (nI b)) fun s r => ck (r = 0 ∨ r = 1) <| some (s, r) := by
    unfold F_X3_fulfil
    rw [e3, h3, if_neg l112, if_neg l114, if_pos rfl, if_neg l112, if_neg l114, if_pos rfl, h4, h5]
    by_cases z : nI M ≤ (0 : Int32)
    · rw [if_pos z]
    · rw [if_neg z]
  have er : F_X8_comes ρ 118 = if nI m ≤ nI a then (some (ρ, 0)) else (if nI b ≤ 2 then some ((stm ρ 95 (16 + 3 * a) (nI b)), 1) else (some (ρ, 0))) := by
    have x5 : ix 121 ((14 + (3 * nI a)) + 2) = some (16 + 3 * a) ∨ 9 ≤ a := by
      by_cases q : a < 9
      · exact Or.inl (ix16 q)
      · exact Or.inr (by omega)
    have w : F_X8_comes ρ 118 = if nI m ≤ nI a then (some (ρ, 0)) else (if nI b ≤ 2 then (ix 121 ((14 + (3 * nI a)) + 2)).bind fun k_127 => some ((stm ρ 95 k_127 (nI b)), 1) else (some (ρ, 0))) := by
      unfold F_X8_comes
      rw [show ρ 95 2 = nI M from eM, if_neg l112, if_neg l114, if_pos rfl, if_neg l112, if_neg l114, if_pos rfl, n0, n1, k0]
      by_cases z : nI M ≤ (0 : Int32)
      · rw [if_pos z]
      · rw [if_neg z]
    rw [w]
    rcases x5 with x5 | x9
    · rw [x5, Option.bind_some]
    · have w : nI m ≤ nI a := nI_le (by omega) (by omega)
      rw [if_pos w, if_pos w]
  by_cases q : a < m ∧ b ≤ 2
  · refine Or.inr ⟨stm σ (22 * 2 + 4) a (nI b), stm ρ 95 (16 + 3 * a) (nI b), m, len, n, by rw [ec, vil_y R q, bd2_s, ck_t _ (Or.inr rfl)], ?_, ?_, FrC_road (fun i hi => stm_ne _ _ _ (by omega)), fun i hi => stm_ne _ _ _ hi⟩
    · rw [er, if_neg (nI_ge q.1 (by omega)), if_pos (show nI b ≤ (2 : Int32) from nI_le (a := b) (b := 2) q.2 (by decide))]
    · rw [stm_row]; exact RT_vil R q.1 q.2
  · refine Or.inl ⟨by rw [ec, vil_x R q ha hb, bd2_s, ck_t _ (Or.inl rfl)], ?_⟩
    rw [er]
    by_cases q2 : a < m
    · rw [if_neg (nI_ge q2 (by omega)), if_neg (show ¬ nI b ≤ (2 : Int32) from nI_ge (a := 2) (b := b) (by omega) (by omega))]
    · rw [if_pos (nI_le (by omega) (by omega))]
theorem ful_120 (R : RT σ 2 (ρ 95) m len n) {a b c : Nat} (ha : a ≤ 9) (hb : b ≤ 9) (hc : c ≤ 9) (n0 : ρ 102 0 = nI a) (n1 : ρ 102 1 = nI b) (n2 : ρ 102 2 = nI c) (h3 : σ 85 3 = 120) (h4 : σ 85 4 = nI a) (h5 : σ 85 5 = nI b) (h6 : σ 85 6 = nI c) : DOES σ ρ 120 n := by
  obtain ⟨M, hM, eM⟩ := R.2.2.1
  have e3 : σ (22 * 2) 3 = nI M := (RT_3 R).trans eM
  have l112 : ¬ (120 : Int32) = 112 := by decide
  have l114 : ¬ (120 : Int32) = 114 := by decide
  have l118 : ¬ (120 : Int32) = 118 := by decide
  have ec : F_X3_fulfil σ 2 = bd2 (F_X4_tellRule σ 2 (nI a) (nI b) (nI c)) fun s r => ck (r = 0 ∨ r = 1) <| some (s, r) := by
    unfold F_X3_fulfil
    rw [e3, h3, if_neg l112, if_neg l114, if_neg l118, if_pos rfl, if_neg l112, if_neg l114, if_neg l118, if_pos rfl, h4, h5, h6]
    by_cases z : nI M ≤ (0 : Int32)
    · rw [if_pos z]
    · rw [if_neg z]
  have er : F_X8_comes ρ 120 = if 2 < nI a then (some (ρ, 0)) else (if nI b ≤ 7 then some ((stm (stm ρ 95 (38 + 2 * a) (nI b)) 95 (39 + 2 * a) (nI c)), 1) else (some (ρ, 0))) := by
    have w : F_X8_comes ρ 120 = if 2 < nI a then (some (ρ, 0)) else (if nI b ≤ 7 then ((ix 121 (38 + (2 * nI a))).bind fun k_152 => (ix 121 ((38 + (2 * nI a)) + 1)).bind fun k_153 => some ((stm (stm ρ 95 k_152 (nI b)) 95 k_153 ((stm ρ 95 k_152 (nI b)) 102 2)), 1)) else (some (ρ, 0))) := by
      unfold F_X8_comes
      rw [show ρ 95 2 = nI M from eM, if_neg l112, if_neg l114, if_neg l118, if_pos rfl, if_neg l112, if_neg l114, if_neg l118, if_pos rfl, n0, n1]
      by_cases z : nI M ≤ (0 : Int32)
      · rw [if_pos z]
      · rw [if_neg z]
    rw [w]
    by_cases q : a < 3
    · have g : ∀ (j : Nat) (v : Int32), stm ρ 95 j v 102 2 = nI c := fun j v => by rw [stm_ne _ _ _ (by omega)]; exact n2
      rw [ix38 q, Option.bind_some, ix39 q, Option.bind_some, g]
    · have w : 2 < nI a := nI_lt (a := 2) (b := a) (by omega) (by omega)
      rw [if_pos w, if_pos w]
  by_cases q : a < 3 ∧ b < 8
  · refine Or.inr ⟨stm (stm σ (22 * 2 + 11) a (nI b)) (22 * 2 + 12) a (nI c), stm (stm ρ 95 (38 + 2 * a) (nI b)) 95 (39 + 2 * a) (nI c), m, len, n, by rw [ec, tellRule_c q.1 q.2 hc, bd2_s, ck_t _ (Or.inr rfl)], ?_, ?_, FrC_road (fun i hi => by rw [stm_ne _ _ _ (by omega), stm_ne _ _ _ (by omega)]), fun i hi => by rw [stm_ne _ _ _ hi, stm_ne _ _ _ hi]⟩
    · rw [er, if_neg (show ¬ (2 : Int32) < nI a from nI_nlt (a := 2) (b := a) (by omega) (by decide)), if_pos (show nI b ≤ (7 : Int32) from nI_le (a := b) (b := 7) (by omega) (by decide))]
    · refine RT_rule R q.1 q.2 hc (fun i h1 h2 => by rw [stm_ne _ _ _ h2, stm_ne _ _ _ h1]) ?_ ?_ ?_
      · rw [stm_ne _ _ _ (by omega), stm_row]
      · rw [stm_row, stm_ne _ _ _ (by omega)]
      · rw [stm_row, stm_row]
  · refine Or.inl ⟨by rw [ec, rule_x (fun w => q ⟨w.1, w.2.1⟩) ha hb hc, bd2_s, ck_t _ (Or.inl rfl)], ?_⟩
    rw [er]
    by_cases q2 : a < 3
    · rw [if_neg (show ¬ (2 : Int32) < nI a from nI_nlt (a := 2) (b := a) (by omega) (by decide)), if_neg (show ¬ nI b ≤ (7 : Int32) from nI_ge (a := 7) (b := b) (by omega) (by omega))]
    · rw [if_pos (show 2 < nI a from nI_lt (a := 2) (b := a) (by omega) (by omega))]
theorem ful_cart (R : RT σ 2 (ρ 95) m len n) (L : LZ σ 2) {W : Int32} (u : Bool) (hW : W = (if u then 117 else 100)) {a b c l : Nat} (ha : a ≤ 999) (hb : b ≤ 9) (hc : c ≤ 999) (hl : l ≤ 1) (n0 : ρ 102 0 = nI a) (n1 : ρ 102 1 = nI b) (n2 : ρ 102 2 = nI l) (n3 : ρ 102 3 = nI c) (h3 : σ 85 3 = W) (h4 : σ 85 4 = nI a) (h5 : σ 85 5 = nI b) (h6 : σ 85 6 = nI c) (h7 : σ 85 7 = nI l) : DOES σ ρ W n := by
  obtain ⟨M, hM, eM⟩ := R.2.2.1
  have e3 : σ (22 * 2) 3 = nI M := (RT_3 R).trans eM
  have k1 : ρ 95 1 = nI n := RT_n R
  have hn7 := RT_7 R
  have l112 : ¬ W = 112 := by rw [hW]; cases u <;> decide
  have l114 : ¬ W = 114 := by rw [hW]; cases u <;> decide
  have l118 : ¬ W = 118 := by rw [hW]; cases u <;> decide
  have l120 : ¬ W = 120 := by rw [hW]; cases u <;> decide
  by_cases z : M = 0
  · subst z
    have z0 : nI 0 ≤ (0 : Int32) := by decide
    have ec : F_X3_fulfil σ 2 = bd2 (F_X6_addCart σ 2 (bI u) (nI a) (nI b) (nI l) (nI c)) fun s r => if r = 0 then (some (s, 0)) else (some (s, 1)) := by
      unfold F_X3_fulfil
      rw [e3, if_pos z0, h3, if_neg l112, if_neg l114, if_neg l118, if_neg l120, h4, h5, h6, h7, hW]
      cases u
      · rw [if_neg (show ¬ (if false = true then (117 : Int32) else 100) = 117 by decide)]; rfl
      · rw [if_pos (show (if true = true then (117 : Int32) else 100) = 117 from rfl)]; rfl
    by_cases q : n < 7 ∧ a ≤ 199 ∧ b ≤ 3 ∧ c ≤ 99
    · obtain ⟨q1, q2, q3, q4⟩ := q
      obtain ⟨ρ1, g1, g2, g3, g4, g5⟩ := cart_r (ρ := ρ) q1 k1 (if u then 1 else -1) (nI a) (nI b)
      obtain ⟨σ1, d1, d2, d3, d4⟩ := cart_c R q1 (a := a) (b := b) (c := c) (l := l) q2 q3 q4 hl u
      rw [n2, n3] at g4
      refine Or.inr ⟨σ1, ρ1, m, len, n + 1, by rw [ec, d1, bd2_s, if_neg i10], ?_, RT_cart R L q1 q3 q4 hl rfl d2 d3 d4 g3 g4 g5, ⟨fun i hi => d4 i (by omega) (by omega), fun j hj => ?_, ?_, ?_⟩, g2⟩
      · unfold F_X8_comes
        rw [show ρ 95 2 = nI 0 from eM, if_pos z0, if_neg l112, if_neg l114, if_neg l118, if_neg l120, n0, n1, n3, if_neg (show ¬ (199 : Int32) < nI a from nI_nlt (a := 199) (b := a) q2 (by decide)), if_neg (show ¬ (3 : Int32) < nI b from nI_nlt (a := 3) (b := b) q3 (by decide)), if_neg (show ¬ (99 : Int32) < nI c from nI_nlt (a := 99) (b := c) q4 (by decide)), if_neg (show ¬ ρ 95 1 = (7 : Int32) from fun w => by have := nI_inj (a := n) (b := 7) (k1.symm.trans w) (by omega) (by omega); omega), hW]
        cases u
        · rw [if_neg (show ¬ (if false = true then (117 : Int32) else 100) = 117 by decide)]; exact g1
        · rw [if_pos (show (if true = true then (117 : Int32) else 100) = 117 from rfl)]; exact g1
      · by_cases w : j = n
        · subst w
          rw [d2]; simp (disch := omega) only [upd_ne]
          exact rbeg_lo _ (by omega)
        · rw [d4 _ (by omega) (by omega)]
      · rw [d3, upd_ne _ _ (by omega)]
      · rw [d3, upd_ne _ _ (by omega)]
    · refine Or.inl ⟨by rw [ec, cart_x0 R _ _ q ha hb hc, bd2_s, if_pos rfl], ?_⟩
      unfold F_X8_comes
      rw [show ρ 95 2 = nI 0 from eM, if_pos z0, if_neg l112, if_neg l114, if_neg l118, if_neg l120, n0, n1, n3]
      by_cases q2 : a ≤ 199
      · rw [if_neg (show ¬ (199 : Int32) < nI a from nI_nlt (a := 199) (b := a) q2 (by decide))]
        by_cases q3 : b ≤ 3
        · rw [if_neg (show ¬ (3 : Int32) < nI b from nI_nlt (a := 3) (b := b) q3 (by decide))]
          by_cases q4 : c ≤ 99
          · rw [if_neg (show ¬ (99 : Int32) < nI c from nI_nlt (a := 99) (b := c) q4 (by decide)), if_pos (show ρ 95 1 = (7 : Int32) by rw [k1, show n = 7 by omega]; rfl)]
          · rw [if_pos (show (99 : Int32) < nI c from nI_lt (a := 99) (b := c) (by omega) (by omega))]
        · rw [if_pos (show (3 : Int32) < nI b from nI_lt (a := 3) (b := b) (by omega) (by omega))]
      · rw [if_pos (show (199 : Int32) < nI a from nI_lt (a := 199) (b := a) (by omega) (by omega))]
  · have zz : ¬ nI M ≤ (0 : Int32) := nI_ge (a := 0) (b := M) (by omega) (by omega)
    refine Or.inl ⟨?_, ?_⟩
    · unfold F_X3_fulfil
      rw [e3, if_neg zz, h3, if_neg l112, if_neg l114, if_neg l118, if_neg l120]
    · unfold F_X8_comes
      rw [show ρ 95 2 = nI M from eM, if_neg zz, if_neg l112, if_neg l114, if_neg l118, if_neg l120]
/-- what a statement does -/
theorem fulfil_p (R : RT σ 2 (ρ 95) m len n) (L : LZ σ 2) {W : Int32} {a b c l : Nat} (hL : LET W a b c l) (hN : NUM (ρ 102) W a b c l) (h3 : σ 85 3 = W) (h4 : σ 85 4 = nI a) (h5 : σ 85 5 = nI b) (h6 : σ 85 6 = nI c) (h7 : σ 85 7 = nI l) : DOES σ ρ W n := by
  obtain ⟨n0, n1, n2, n3⟩ := hN
  rcases hL with ⟨hW, ha, hb, hc⟩ | ⟨hW, ha, hb, hc, hl⟩
  · rcases hW with rfl | rfl | rfl | rfl
    · exact ful_112 R ha hb n0 n1 h3 h4 h5
    · exact ful_114 R ha hb n0 n1 h3 h4 h5
    · exact ful_118 R ha hb n0 n1 h3 h4 h5
    · exact ful_120 R ha hb hc n0 n1 (n2 rfl) h3 h4 h5 h6
  · have nn := n3 hW
    rcases hW with hW | hW
    · exact ful_cart R L true hW ha hb hc hl n0 n1 nn.1 nn.2 h3 h4 h5 h6 h7
    · exact ful_cart R L false hW ha hb hc hl n0 n1 nn.1 nn.2 h3 h4 h5 h6 h7
/-- the class's alone -/
theorem fulfil_t {k : Nat → Int32} (R : RT σ 2 k m len n) (L : LZ σ 2) {W : Int32} {a b c l : Nat} (hL : LET W a b c l) (h3 : σ 85 3 = W) (h4 : σ 85 4 = nI a) (h5 : σ 85 5 = nI b) (h6 : σ 85 6 = nI c) (h7 : σ 85 7 = nI l) : F_X3_fulfil σ 2 = some (σ, 0) ∨ ∃ (σ' : Mem) (k' : Nat → Int32) (m' : Nat) (len' : Nat → Nat) (n' : Nat), F_X3_fulfil σ 2 = some (σ', 1) ∧ RT σ' 2 k' m' len' n' ∧ FrC 2 σ σ' := by
  let q : Nat → Int32 := fun j => if j = 0 then nI a else if j = 1 then nI b else if j = 2 then (if W = 120 then nI c else nI l) else nI c
  let ρ : Mem := fun i => if i = 95 then k else q
  have hN : NUM (ρ 102) W a b c l := by
    refine ⟨rfl, rfl, fun w => ?_, fun w => ⟨?_, rfl⟩⟩
    · show (if W = 120 then nI c else nI l) = nI c
      rw [if_pos w]
    · show (if W = 120 then nI c else nI l) = nI l
      rw [if_neg (fun x => by rw [x] at w; exact absurd w (by decide))]
  have R' : RT σ 2 (ρ 95) m len n := R
  rcases fulfil_p R' L hL hN h3 h4 h5 h6 h7 with ⟨x, -⟩ | ⟨σ', ρ', m', len', n', x, -, y, z, -⟩
  · exact Or.inl x
  · exact Or.inr ⟨σ', ρ' 95, m', len', n', x, y, z⟩
end FU
