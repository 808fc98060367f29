/-! the call of a road's text: its end -/
theorem RS_0 {ρ : Mem} {d z : Nat} (hd : d < 8) (hz : z ≤ 100) (e : ρ 98 d = nI z) : RS (stm (stm (stm ρ 91 13 (100 * nI d)) 91 14 ((stm ρ 91 13 (100 * nI d)) 98 d)) 91 12 0) d z (fun i => ρ 99 (100 * d + i)) 0 := by
  have e1 : stm ρ 91 13 (100 * nI d) 98 d = nI z := by rw [stm_ne _ _ _ (by omega)]; exact e
  refine ⟨⟨hd, hz, by omega⟩, ?_, ?_, fun i hi => ?_, ?_⟩
  · simp only [stm_row]; simp (disch := omega) only [upd_ne, upd_at]
    exact nI_mul (a := 100) (b := d)
  · rw [e1]; simp only [stm_row]; simp (disch := omega) only [upd_ne, upd_at]
  · simp (disch := omega) only [stm_ne]
  · simp only [stm_row]; rw [upd_at]; rfl
theorem call_road (x : Int32) : CALL (fun σ => F_X7_road σ x) (fun σ => F_X8_road σ x) := by
  intro σ ρ I
  obtain ⟨⟨m, len, n, R⟩, L, w, G, S⟩ := I
  have I : INV σ ρ := ⟨⟨m, len, n, R⟩, L, w, G, S⟩
  have no : ∀ {r : Int32}, ∃ σ' r' ρ', some (σ, r) = some (σ', r') ∧ some (ρ, r) = some (ρ', r') ∧ INV σ' ρ' ∧ CF σ σ' ∧ RF ρ ρ' := fun {r} => ⟨σ, r, ρ, rfl, rfl, I, fun _ _ => rfl, fun _ _ => rfl⟩
  show ∃ σ' r ρ', F_X7_road σ x = some (σ', r) ∧ F_X8_road ρ x = some (ρ', r) ∧ _
  unfold F_X7_road F_X8_road F_X8_wrongRow
  rcases shelf_x (ρ := ρ) x with ⟨h1, h2⟩ | ⟨d, hd, rfl, h1, h2⟩
  · rw [if_pos h1, h2, Option.bind_some, if_pos rfl]; exact no
  rw [if_neg h1, h2, ix_nI hd (by decide)]
  simp only [obs, i10, if_false]
  have hSH := S
  obtain ⟨⟨s1, s2⟩, s3, s4, ⟨s5, z, hz, ez⟩, s6⟩ := S d hd
  rw [holdsBytes_c hSH hd, s1, if_neg (show ¬ (0 : Int32) < 0 by decide)]
  simp only [obs]
  by_cases k0 : ρ 96 d = 0
  · rw [if_pos k0, if_pos k0]; exact no
  rw [if_neg k0, if_neg k0]
  by_cases k1 : ρ 96 d = 2
  rotate_left
  · rw [if_neg k1, decide_eq_false (fun h => k1 h.1), Option.bind_some]; exact no
  rw [if_pos k1]
  by_cases k2 : ρ 97 d = 0
  rotate_left
  · rw [if_neg k2, decide_eq_false (fun h => k2 h.2), Option.bind_some]; exact no
  rw [if_pos k2, decide_eq_true ⟨k1, k2⟩, Option.bind_some, if_pos (show (0 : Int32) = 0 from rfl), if_neg (show ¬ bI true = 0 by decide), ck_t _ (RT_b R)]
  -- the text
  have R2 : RT (tcpy σ 2 0) 2 (ρ 92) m len n := RT_cpy R (by omega)
  have L2 : LZ (tcpy σ 2 0) 2 := fun j hj => by rw [tcpy_c (by omega) hj (by omega)]; exact L j hj
  have M2 := MC_tcpy (σ := σ) w
  have e68 : ∀ i, 66 ≤ i → tcpy σ 2 0 i = σ i := fun i hi => tcpy_ne σ (by omega)
  have C0 : CS (stm (stm (stm (tcpy σ 2 0) 85 0 (nI (68 + d))) 85 1 0) 85 2 0) d z (fun i => ρ 99 (100 * d + i)) 0 false := by
    refine ⟨⟨hd, hz, by omega⟩, ?_, ?_, fun i hi => ?_, ?_, ?_⟩
    · simp only [stm_row]; simp (disch := omega) only [upd_ne, upd_at]
    · simp (disch := omega) only [stm_ne]
      rw [e68 (68 + d) (by omega)]; exact s5.trans ez
    · simp (disch := omega) only [stm_ne]
      rw [e68 (76 + d) (by omega)]; exact s6 i (by omega)
    · simp only [stm_row]; simp (disch := omega) only [upd_ne, upd_at]; rfl
    · simp only [stm_row]; rw [upd_at]; rfl
  have R0 := RS_0 (ρ := ρ) hd hz ez
  have f85 : ∀ i, i ≠ 85 → stm (stm (stm (tcpy σ 2 0) 85 0 (nI (68 + d))) 85 1 0) 85 2 0 i = tcpy σ 2 0 i := fun i hi => by rw [stm_ne _ _ _ hi, stm_ne _ _ _ hi, stm_ne _ _ _ hi]
  have R2' := RT_85 R2 f85
  have L2' := LZ_85 L2 f85
  -- what holds after a text that did nothing
  have fin : ∀ (σ' ρ' : Mem), MX (stm (stm (stm (tcpy σ 2 0) 85 0 (nI (68 + d))) 85 1 0) 85 2 0) σ' → KG ρ ρ' → INV σ' ρ' ∧ CF σ σ' ∧ RF ρ ρ' := by
    intro σ' ρ' hM hK
    have c : ∀ i, i < 44 ∨ 66 ≤ i → i ≠ 85 → σ' i = σ i := fun i h1 h2 => (hM.1 i h1 h2).trans ((f85 i h2).trans (tcpy_ne σ (by omega)))
    obtain ⟨⟨w1, w2⟩, -⟩ := w
    refine ⟨⟨⟨m, len, n, ?_⟩, LZ_cc L (fun i _ h2 => c i (by omega) (by omega)), ⟨⟨by rw [c 0 (by omega) (by omega)]; exact w1, by rw [c 0 (by omega) (by omega)]; exact w2⟩, hM.2.1.trans ?_, hM.2.2.trans ?_⟩, IMG_cc G (fun i _ h2 => c i (by omega) (by omega)) (c 66 (by omega) (by omega)) (hK.1 93 (by omega) (by omega) (by omega)) hK.2, SH_cc hSH (fun i h1 h2 => c i (by omega) (by omega)) (fun i h1 h2 => hK.1 i (by omega) (by omega) (by omega))⟩, fun i hi => c i (by omega) (by omega), fun i hi => hK.1 i (by omega) (by omega) (by omega)⟩
    · rw [hK.1 92 (by omega) (by omega) (by omega)]
      exact RT_cc R (fun i _ h2 => c i (by omega) (by omega))
    · rw [f85 44 (by omega)]; exact M2.2.1
    · rw [f85 44 (by omega)]; exact M2.2.2
  have K0 : KG ρ (stm (stm (stm ρ 91 13 (100 * nI d)) 91 14 ((stm ρ 91 13 (100 * nI d)) 98 d)) 91 12 0) := ⟨fun i h1 _ _ => by rw [stm_ne _ _ _ h1, stm_ne _ _ _ h1, stm_ne _ _ _ h1], by simp only [stm_row]; simp (disch := omega) only [upd_ne]⟩
  rcases parse_all (T := fun i => ρ 99 (100 * d + i)) hz z 0 (by omega) (by omega) with ⟨g, q, hq, B⟩ | ⟨k, hk, B⟩
  · -- it breaks
    obtain ⟨σ', a1, a2⟩ := run_b (d := d) hz g 0 B _ 0 FU m n 0 _ len C0 R2' L2' (by omega) (Or.inl rfl) (Nat.lt_of_le_of_lt (show z - 0 ≤ 100 by omega) (by decide))
    have a1' : F_X3_read (tcpy σ 2 0) d 2 = some (σ', -1000 - nI q) := a1
    obtain ⟨ρ', b1, b2⟩ := pass_b (d := d) (x1 := nI d) (v2 := 0) hz g 0 B _ FU 0 R0 (by omega) (Nat.lt_of_le_of_lt (show z - 0 ≤ 100 by omega) (by decide))
    have neg : -1000 - nI q ≤ (0 : Int32) := by
      have z1 : (-1000 : Int32).toInt = -1000 := by decide
      have e := nI_toInt (n := q) (by omega)
      rw [i32_le, t_sub (by rw [e, z1]; omega) (by rw [e, z1]; omega), e, z1, show (0 : Int32).toInt = 0 by decide]
      omega
    rw [a1', bd2_s, if_pos neg, b1]
    obtain ⟨i1, i2, i3⟩ := fin σ' ρ' a2 (KG_tr K0 (KG_kf b2))
    exact ⟨_, _, _, rfl, rfl, i1, i2, i3⟩
  · obtain ⟨ρ1, b1, b2, b3⟩ := pass_g (d := d) (x1 := nI d) (v2 := 0) hz k 0 B _ FU 0 R0 (Nat.lt_of_le_of_lt (show z - 0 ≤ 100 by omega) (by decide))
    have b1' : F_X8_road_38 (nI d) FU (stm (stm (stm ρ 91 13 (100 * nI d)) 91 14 ((stm ρ 91 13 (100 * nI d)) 98 d)) 91 12 0) 0 0 = F_X8_road_71 (nI d) FU ρ1 0 (nI (0 + k + 1)) 0 := b1
    obtain ⟨ρ2, v4, c1, c2, c3⟩ := r71_l (x1 := nI d) (v3 := nI (0 + k + 1)) (v2 := 0) 121 0 FU ρ1 (by omega) (by decide) (fun q hq => absurd hq (Nat.not_lt_zero _))
    have c1' : F_X8_road_71 (nI d) FU ρ1 0 (nI (0 + k + 1)) 0 = F_X8_road_103 (nI d) FU (stm ρ2 91 12 0) v4 (nI (0 + k + 1)) 0 := c1
    have K2 : KG ρ (stm ρ2 91 12 0) := KG_tr K0 (KG_tr (KG_kf b3) (KG_tr (KG_95 c2) ⟨fun i h1 _ _ => stm_ne _ _ _ h1, by rw [stm_row, upd_ne _ _ (by omega)]⟩))
    have R3 : RS (stm ρ2 91 12 0) d z (fun i => ρ 99 (100 * d + i)) 0 := by
      obtain ⟨⟨q1, q2, -⟩, q4, q5, q6, -⟩ := RS_95 b2 c2
      refine ⟨⟨q1, q2, by omega⟩, ?_, ?_, fun i hi => ?_, ?_⟩
      · rw [stm_row, upd_ne _ _ (by omega)]; exact q4
      · rw [stm_row, upd_ne _ _ (by omega)]; exact q5
      · rw [stm_ne _ _ _ (by omega)]; exact q6 i hi
      · rw [stm_row, upd_at]; rfl
    have e92 : ρ1 92 = ρ 92 := (b3.1 92 (by omega) (by omega)).trans (K0.1 92 (by omega) (by omega) (by omega))
    have R4 : RT (stm (stm (stm (tcpy σ 2 0) 85 0 (nI (68 + d))) 85 1 0) 85 2 0) 2 (stm ρ2 91 12 0 95) m len n := by
      rw [stm_ne _ _ _ (by omega)]
      exact RT_121 R2' (fun q hq => by rw [c3 q hq, e92])
    obtain ⟨σ', a1, a2⟩ := sim_g (x1 := nI d) (v3 := nI (0 + k + 1)) (v2 := 0) hz k 0 B _ _ 0 FU FU 0 m n v4 len C0 R3 R4 L2' (by omega) (Nat.lt_of_le_of_lt (show z - 0 + 1 ≤ 101 by omega) (by decide)) (Nat.lt_of_le_of_lt (show z - 0 + 1 ≤ 101 by omega) (by decide))
    rw [b1', c1']
    rcases a2 with ⟨f, ρ3, f0, f1, f2, f3⟩ | ⟨ρ3, m', len', n', f1, f2, f3, f4, f5⟩
    · have f1' : F_X3_read (tcpy σ 2 0) d 2 = some (σ', -2000 - nI f) := f1
      have neg : -2000 - nI f ≤ (0 : Int32) := by
        have z1 : (-2000 : Int32).toInt = -2000 := by decide
        have e := nI_toInt (n := f) (by omega)
        rw [i32_le, t_sub (by rw [e, z1]; omega) (by rw [e, z1]; omega), e, z1, show (0 : Int32).toInt = 0 by decide]
        omega
      rw [f1', bd2_s, if_pos neg, f2]
      obtain ⟨i1, i2, i3⟩ := fin σ' ρ3 a1 (KG_tr K2 f3)
      exact ⟨_, _, _, rfl, rfl, i1, i2, i3⟩
    · have f1' : F_X3_read (tcpy σ 2 0) d 2 = some (σ', nI (0 + k + 1)) := f1
      obtain ⟨ρ4, g1, g2, g3⟩ := r154_l (x1 := nI d) (v3 := nI (0 + k + 1)) (v2 := 0) 121 0 FU ρ3 (by omega) (by decide) (fun q hq => absurd hq (Nat.not_lt_zero _))
      have g1' : F_X8_road_154 (nI d) FU ρ3 0 (nI (0 + k + 1)) 0 = some (ρ4, nI (0 + k + 1)) := g1
      rw [f1', bd2_s, if_neg (show ¬ nI (0 + k + 1) ≤ (0 : Int32) from nI_ge (a := 0) (b := 0 + k + 1) (by omega) (by omega)), ck_t _ (RT_b f4), f2, g1']
      have c : ∀ i, i < 44 ∨ 66 ≤ i → i ≠ 85 → σ' i = σ i := fun i h1 h2 => (a1.1 i h1 h2).trans ((f85 i h2).trans (tcpy_ne σ (by omega)))
      have c' : ∀ i, 22 ≤ i → i < 44 ∨ 66 ≤ i → i ≠ 85 → tcpy σ' 0 2 i = σ i := fun i h0 h1 h2 => (tcpy_ne σ' (by omega)).trans (c i h1 h2)
      have K4 : ∀ i, i ≠ 91 → i ≠ 92 → i ≠ 95 → i ≠ 102 → ρ4 i = ρ i := fun i h1 h2 h3 h4 => (g2 i h2).trans ((f3.1 i h1 h3 h4).trans (K2.1 i h1 h3 h4))
      have R5 : RT (tcpy σ' 0 2) 0 (ρ4 92) m' len' n' := RT_121 (RT_cpy (t := 0) f4 (by omega)) g3
      have e0 : tcpy σ' 0 2 0 = upd (upd (upd (upd (σ' 0) 2 (σ' 44 2)) 3 (σ' 44 3)) 4 (σ' 44 4)) 5 (σ' 44 5) := tcpy_0 (t := 0) (u := 2) (by omega)
      have e44 : tcpy σ' 0 2 44 = σ' 44 := tcpy_ne σ' (by omega)
      obtain ⟨⟨w1, w2⟩, -⟩ := w
      refine ⟨_, _, _, rfl, rfl, ⟨⟨m', len', n', R5⟩, fun j hj => ?_, ⟨⟨?_, ?_⟩, ?_, ?_⟩, IMG_cc G (fun i h1 h2 => c' i h1 (by omega) (by omega)) (c' 66 (by omega) (by omega) (by omega)) (K4 93 (by omega) (by omega) (by omega) (by omega)) ?_, SH_cc hSH (fun i h1 h2 => c' i (by omega) (by omega) (by omega)) (fun i h1 h2 => K4 i (by omega) (by omega) (by omega) (by omega))⟩, fun i hi => c' i (by omega) (by omega) (by omega), fun i hi => K4 i (by omega) (by omega) (by omega) (by omega)⟩
      · rw [tcpy_c (by omega) hj (by omega)]; exact f5 j hj
      · rw [e0]; simp (disch := omega) only [upd_ne]; rw [c 0 (by omega) (by omega)]; exact w1
      · rw [e0]; simp (disch := omega) only [upd_ne]; rw [c 0 (by omega) (by omega)]; exact w2
      · rw [e44, a1.2.1, f85 44 (by omega)]; exact M2.2.1
      · rw [e44, a1.2.2, f85 44 (by omega)]; exact M2.2.2
      · rw [g2 91 (by omega), f3.2, K2.2]
