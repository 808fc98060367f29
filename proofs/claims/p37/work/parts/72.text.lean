section
/-! statements of a road's text -/
def LET (L : Int32) (a b c l : Nat) : Prop := ((L = 112 ∨ L = 114 ∨ L = 118 ∨ L = 120) ∧ a ≤ 9 ∧ b ≤ 9 ∧ c ≤ 9) ∨ ((L = 117 ∨ L = 100) ∧ a ≤ 999 ∧ b ≤ 9 ∧ c ≤ 999 ∧ l ≤ 1)
def NUM (r : Nat → Int32) (L : Int32) (a b c l : Nat) : Prop := r 0 = nI a ∧ r 1 = nI b ∧ (L = 120 → r 2 = nI c) ∧ ((L = 117 ∨ L = 100) → r 2 = nI l ∧ r 3 = nI c)
def SFAIL (T : Nat → Int32) (z p : Nat) : Prop := ∃ q : Nat, q ≤ 1000 ∧ (∀ d σ, CS σ d z T p false → ∃ σ', F_X3_readStatement σ = some σ' ∧ CS σ' d z T q true ∧ ∀ i, i ≠ 85 → σ' i = σ i) ∧ (∀ d ρ, RS ρ d z T p → ∃ ρ', F_X8_readsStatement ρ = some (ρ', 0) ∧ RS ρ' d z T q ∧ KF ρ ρ')
def SOK (T : Nat → Int32) (z p : Nat) : Prop := ∃ (q : Nat) (L : Int32) (a b c l : Nat), (p < q ∧ q ≤ z ∧ p < z ∧ T p = L ∧ LET L a b c l) ∧ (∀ d σ, CS σ d z T p false → ∃ σ', F_X3_readStatement σ = some σ' ∧ CS σ' d z T q false ∧ (∀ i, i ≠ 85 → σ' i = σ i) ∧ σ' 85 3 = L ∧ σ' 85 4 = nI a ∧ σ' 85 5 = nI b ∧ σ' 85 6 = nI c ∧ σ' 85 7 = nI l) ∧ (∀ d ρ, RS ρ d z T p → ∃ ρ', F_X8_readsStatement ρ = some (ρ', 1) ∧ RS ρ' d z T q ∧ KF ρ ρ' ∧ NUM (ρ' 102) L a b c l)
theorem numb_b {σ : Mem} {d z p : Nat} {T : Nat → Int32} (C : CS σ d z T p true) : ∃ σ', F_X3_number σ = some (σ', 0) ∧ CS σ' d z T p true ∧ KE σ σ' := by
  obtain ⟨σ', a1, a2, a3⟩ := digit_b C
  refine ⟨σ', ?_, a2, a3⟩
  unfold F_X3_number
  rw [a1, bd2_s, if_pos rfl]
section ST
variable {T : Nat → Int32} {z p : Nat}
theorem st_112 (hz : z ≤ 100) (hp : p < z) (hL : T p = 112) : SFAIL T z p ∨ SOK T z p := by
  by_cases h1 : dg T z (p + 1)
  rotate_left
  · refine Or.inl ⟨p + 1, by omega, fun d σ C => ?_, fun d ρ R => ?_⟩
    · have en := next_c C
      rw [if_pos hp, hL] at en
      have C0 := CS_o (CS_o (CS_o (CS_o (CS_o C (j := 3) (v := 112) (by omega)) (j := 4) (v := 0) (by omega)) (j := 5) (v := 0) (by omega)) (j := 6) (v := 0) (by omega)) (j := 7) (v := 0) (by omega)
      have F3 : (stm (stm (stm (stm (stm σ 85 3 112) 85 4 0) 85 5 0) 85 6 0) 85 7 0) 85 3 = 112 := by simp only [stm_row]; simp (disch := omega) only [upd_ne, upd_at]
      obtain ⟨C1, K1⟩ := CS_at C0 hp
      obtain ⟨s1, a1, E1, k1⟩ := digit_n C1 h1
      have D2 := CS_o E1 (j := 4) (v := 0) (by omega)
      have a3 := skips_b (s := 104) D2
      obtain ⟨s4, a4, E4, k4⟩ := want_b (s := 59) D2
      refine ⟨_, ?_, E4, fun i hi => ?_⟩
      · unfold F_X3_readStatement
        rw [en, Option.bind_some, F3, if_neg (show ¬ (112 : Int32) = 100 by decide), if_pos (show (112 : Int32) = 112 from rfl)]
        unfold F_X3_readPiece
        rw [a1, bd2_s, a3, bd2_s, if_pos rfl, Option.bind_some, a4, Option.bind_some]
      · rw [k4.1 i hi, stm_ne _ _ _ hi, k1.1 i hi, K1.1 i hi, stm_ne _ _ _ hi, stm_ne _ _ _ hi, stm_ne _ _ _ hi, stm_ne _ _ _ hi, stm_ne _ _ _ hi]
    · have en := here_r R
      rw [if_pos hp, hL] at en
      obtain ⟨R0, K0⟩ := RS_t R (v := 0)
      obtain ⟨R1, K1⟩ := RS_at R0 hp
      have t0 : (stm (stm ρ 91 15 0) 91 12 (stm ρ 91 15 0 91 12 + 1)) 91 15 = nI 0 := by rw [stm_row, upd_ne _ _ (by omega), stm_row, upd_at]; rfl
      refine ⟨_, ?_, R1, (KF_tr K0 K1)⟩
      · unfold F_X8_readsStatement
        rw [en, Option.bind_some, if_neg (show ¬ (112 : Int32) = 100 by decide), if_pos (show (112 : Int32) = 112 from rfl), readsD_n R1 h1, bd2_s, if_pos rfl]
  have b1 := (dv_e h1).2.1
  by_cases h2 : sg T z (p + 2) 104
  · by_cases h3 : dg T z (p + 3)
    rotate_left
    · refine Or.inl ⟨p + 3, by omega, fun d σ C => ?_, fun d ρ R => ?_⟩
      · have en := next_c C
        rw [if_pos hp, hL] at en
        have C0 := CS_o (CS_o (CS_o (CS_o (CS_o C (j := 3) (v := 112) (by omega)) (j := 4) (v := 0) (by omega)) (j := 5) (v := 0) (by omega)) (j := 6) (v := 0) (by omega)) (j := 7) (v := 0) (by omega)
        have F3 : (stm (stm (stm (stm (stm σ 85 3 112) 85 4 0) 85 5 0) 85 6 0) 85 7 0) 85 3 = 112 := by simp only [stm_row]; simp (disch := omega) only [upd_ne, upd_at]
        obtain ⟨C1, K1⟩ := CS_at C0 hp
        obtain ⟨s1, a1, E1, k1⟩ := digit_y C1 h1
        have D2 := CS_o E1 (j := 4) (v := (nI (dv T (p + 1)))) (by omega)
        obtain ⟨s3, a3, E3, k3⟩ := skips_y D2 h2
        obtain ⟨s4, a4, E4, k4⟩ := digit_n E3 h3
        have D5 := CS_o E4 (j := 5) (v := 0) (by omega)
        obtain ⟨s6, a6, E6, k6⟩ := want_b (s := 59) D5
        refine ⟨_, ?_, E6, fun i hi => ?_⟩
        · unfold F_X3_readStatement
          rw [en, Option.bind_some, F3, if_neg (show ¬ (112 : Int32) = 100 by decide), if_pos (show (112 : Int32) = 112 from rfl)]
          unfold F_X3_readPiece
          rw [a1, bd2_s, a3, bd2_s, if_neg i10, a4, bd2_s, Option.bind_some, a6, Option.bind_some]
        · rw [k6.1 i hi, stm_ne _ _ _ hi, k4.1 i hi, k3.1 i hi, stm_ne _ _ _ hi, k1.1 i hi, K1.1 i hi, stm_ne _ _ _ hi, stm_ne _ _ _ hi, stm_ne _ _ _ hi, stm_ne _ _ _ hi, stm_ne _ _ _ hi]
      · have en := here_r R
        rw [if_pos hp, hL] at en
        obtain ⟨R0, K0⟩ := RS_t R (v := 0)
        obtain ⟨R1, K1⟩ := RS_at R0 hp
        have t0 : (stm (stm ρ 91 15 0) 91 12 (stm ρ 91 15 0 91 12 + 1)) 91 15 = nI 0 := by rw [stm_row, upd_ne _ _ (by omega), stm_row, upd_at]; rfl
        obtain ⟨r1, b1, R11, L1, u1, t1⟩ := readsD_y R1 h1 (by omega) t0
        obtain ⟨R12, L2⟩ := RS_o R11 (j := 1) (v := 0)
        have t2 : stm r1 102 1 0 91 15 = nI 1 := by rw [stm_ne _ _ _ (by omega)]; exact t1
        obtain ⟨r3, b3, R13, L3, u3, t3⟩ := takes_y R12 h2
        have t3 := t3.trans t2
        refine ⟨_, ?_, R13, (KF_tr K0 (KF_tr K1 (KF_tr L1 (KF_tr L2 L3))))⟩
        · unfold F_X8_readsStatement
          rw [en, Option.bind_some, if_neg (show ¬ (112 : Int32) = 100 by decide), if_pos (show (112 : Int32) = 112 from rfl), b1, bd2_s, if_neg i10, b3, bd2_s, if_neg i10, readsD_n R13 h3, bd2_s, if_pos rfl]
    have b2 := (dv_e h3).2.1
    by_cases hq : sg T z (p + 4) 59
    rotate_left
    · refine Or.inl ⟨p + 4, by omega, fun d σ C => ?_, fun d ρ R => ?_⟩
      · have en := next_c C
        rw [if_pos hp, hL] at en
        have C0 := CS_o (CS_o (CS_o (CS_o (CS_o C (j := 3) (v := 112) (by omega)) (j := 4) (v := 0) (by omega)) (j := 5) (v := 0) (by omega)) (j := 6) (v := 0) (by omega)) (j := 7) (v := 0) (by omega)
        have F3 : (stm (stm (stm (stm (stm σ 85 3 112) 85 4 0) 85 5 0) 85 6 0) 85 7 0) 85 3 = 112 := by simp only [stm_row]; simp (disch := omega) only [upd_ne, upd_at]
        obtain ⟨C1, K1⟩ := CS_at C0 hp
        obtain ⟨s1, a1, E1, k1⟩ := digit_y C1 h1
        have D2 := CS_o E1 (j := 4) (v := (nI (dv T (p + 1)))) (by omega)
        obtain ⟨s3, a3, E3, k3⟩ := skips_y D2 h2
        obtain ⟨s4, a4, E4, k4⟩ := digit_y E3 h3
        have D5 := CS_o E4 (j := 5) (v := (nI (dv T (p + 3)))) (by omega)
        obtain ⟨s6, a6, E6, k6⟩ := want_n D5 hq (by decide)
        refine ⟨_, ?_, E6, fun i hi => ?_⟩
        · unfold F_X3_readStatement
          rw [en, Option.bind_some, F3, if_neg (show ¬ (112 : Int32) = 100 by decide), if_pos (show (112 : Int32) = 112 from rfl)]
          unfold F_X3_readPiece
          rw [a1, bd2_s, a3, bd2_s, if_neg i10, a4, bd2_s, Option.bind_some, a6, Option.bind_some]
        · rw [k6.1 i hi, stm_ne _ _ _ hi, k4.1 i hi, k3.1 i hi, stm_ne _ _ _ hi, k1.1 i hi, K1.1 i hi, stm_ne _ _ _ hi, stm_ne _ _ _ hi, stm_ne _ _ _ hi, stm_ne _ _ _ hi, stm_ne _ _ _ hi]
      · have en := here_r R
        rw [if_pos hp, hL] at en
        obtain ⟨R0, K0⟩ := RS_t R (v := 0)
        obtain ⟨R1, K1⟩ := RS_at R0 hp
        have t0 : (stm (stm ρ 91 15 0) 91 12 (stm ρ 91 15 0 91 12 + 1)) 91 15 = nI 0 := by rw [stm_row, upd_ne _ _ (by omega), stm_row, upd_at]; rfl
        obtain ⟨r1, b1, R11, L1, u1, t1⟩ := readsD_y R1 h1 (by omega) t0
        obtain ⟨R12, L2⟩ := RS_o R11 (j := 1) (v := 0)
        have t2 : stm r1 102 1 0 91 15 = nI 1 := by rw [stm_ne _ _ _ (by omega)]; exact t1
        obtain ⟨r3, b3, R13, L3, u3, t3⟩ := takes_y R12 h2
        have t3 := t3.trans t2
        obtain ⟨r4, b4, R14, L4, u4, t4⟩ := readsD_y R13 h3 (by omega) t3
        refine ⟨_, ?_, R14, (KF_tr K0 (KF_tr K1 (KF_tr L1 (KF_tr L2 (KF_tr L3 L4)))))⟩
        · unfold F_X8_readsStatement
          rw [en, Option.bind_some, if_neg (show ¬ (112 : Int32) = 100 by decide), if_pos (show (112 : Int32) = 112 from rfl), b1, bd2_s, if_neg i10, b3, bd2_s, if_neg i10, b4, bd2_s, if_neg i10, takes_n R14 hq (by decide), bd2_s, ck_t _ (by decide)]
    · refine Or.inr ⟨p + 5, 112, dv T (p + 1), dv T (p + 3), 0, 0, ⟨by omega, by have := hq.1; omega, hp, hL, Or.inl ⟨Or.inl rfl, b1, b2, by omega⟩⟩, fun d σ C => ?_, fun d ρ R => ?_⟩
      · have en := next_c C
        rw [if_pos hp, hL] at en
        have C0 := CS_o (CS_o (CS_o (CS_o (CS_o C (j := 3) (v := 112) (by omega)) (j := 4) (v := 0) (by omega)) (j := 5) (v := 0) (by omega)) (j := 6) (v := 0) (by omega)) (j := 7) (v := 0) (by omega)
        have F3 : (stm (stm (stm (stm (stm σ 85 3 112) 85 4 0) 85 5 0) 85 6 0) 85 7 0) 85 3 = 112 := by simp only [stm_row]; simp (disch := omega) only [upd_ne, upd_at]
        obtain ⟨C1, K1⟩ := CS_at C0 hp
        obtain ⟨s1, a1, E1, k1⟩ := digit_y C1 h1
        have D2 := CS_o E1 (j := 4) (v := (nI (dv T (p + 1)))) (by omega)
        obtain ⟨s3, a3, E3, k3⟩ := skips_y D2 h2
        obtain ⟨s4, a4, E4, k4⟩ := digit_y E3 h3
        have D5 := CS_o E4 (j := 5) (v := (nI (dv T (p + 3)))) (by omega)
        obtain ⟨s6, a6, E6, k6⟩ := want_y D5 hq
        refine ⟨_, ?_, E6, fun i hi => ?_, ?_, ?_, ?_, ?_, ?_⟩
        · unfold F_X3_readStatement
          rw [en, Option.bind_some, F3, if_neg (show ¬ (112 : Int32) = 100 by decide), if_pos (show (112 : Int32) = 112 from rfl)]
          unfold F_X3_readPiece
          rw [a1, bd2_s, a3, bd2_s, if_neg i10, a4, bd2_s, Option.bind_some, a6, Option.bind_some]
        · rw [k6.1 i hi, stm_ne _ _ _ hi, k4.1 i hi, k3.1 i hi, stm_ne _ _ _ hi, k1.1 i hi, K1.1 i hi, stm_ne _ _ _ hi, stm_ne _ _ _ hi, stm_ne _ _ _ hi, stm_ne _ _ _ hi, stm_ne _ _ _ hi]
        · rw [k6.2 3 (by omega) (by omega), stm_row, upd_ne _ _ (by omega), k4.2 3 (by omega) (by omega), k3.2 3 (by omega) (by omega), stm_row, upd_ne _ _ (by omega), k1.2 3 (by omega) (by omega), K1.2 3 (by omega) (by omega)]; simp only [stm_row]; simp (disch := omega) only [upd_ne, upd_at]
        · rw [k6.2 4 (by omega) (by omega), stm_row, upd_ne _ _ (by omega), k4.2 4 (by omega) (by omega), k3.2 4 (by omega) (by omega), stm_row, upd_at]
        · rw [k6.2 5 (by omega) (by omega), stm_row, upd_at]
        · rw [k6.2 6 (by omega) (by omega), stm_row, upd_ne _ _ (by omega), k4.2 6 (by omega) (by omega), k3.2 6 (by omega) (by omega), stm_row, upd_ne _ _ (by omega), k1.2 6 (by omega) (by omega), K1.2 6 (by omega) (by omega)]; simp only [stm_row]; simp (disch := omega) only [upd_ne, upd_at]; rfl
        · rw [k6.2 7 (by omega) (by omega), stm_row, upd_ne _ _ (by omega), k4.2 7 (by omega) (by omega), k3.2 7 (by omega) (by omega), stm_row, upd_ne _ _ (by omega), k1.2 7 (by omega) (by omega), K1.2 7 (by omega) (by omega)]; simp only [stm_row]; simp (disch := omega) only [upd_ne, upd_at]; rfl
      · have en := here_r R
        rw [if_pos hp, hL] at en
        obtain ⟨R0, K0⟩ := RS_t R (v := 0)
        obtain ⟨R1, K1⟩ := RS_at R0 hp
        have t0 : (stm (stm ρ 91 15 0) 91 12 (stm ρ 91 15 0 91 12 + 1)) 91 15 = nI 0 := by rw [stm_row, upd_ne _ _ (by omega), stm_row, upd_at]; rfl
        obtain ⟨r1, b1, R11, L1, u1, t1⟩ := readsD_y R1 h1 (by omega) t0
        obtain ⟨R12, L2⟩ := RS_o R11 (j := 1) (v := 0)
        have t2 : stm r1 102 1 0 91 15 = nI 1 := by rw [stm_ne _ _ _ (by omega)]; exact t1
        obtain ⟨r3, b3, R13, L3, u3, t3⟩ := takes_y R12 h2
        have t3 := t3.trans t2
        obtain ⟨r4, b4, R14, L4, u4, t4⟩ := readsD_y R13 h3 (by omega) t3
        obtain ⟨r5, b5, R15, L5, u5, t5⟩ := takes_y R14 hq
        have t5 := t5.trans t4
        refine ⟨_, ?_, R15, (KF_tr K0 (KF_tr K1 (KF_tr L1 (KF_tr L2 (KF_tr L3 (KF_tr L4 L5)))))), ?_, ?_, ?_, ?_⟩
        · unfold F_X8_readsStatement
          rw [en, Option.bind_some, if_neg (show ¬ (112 : Int32) = 100 by decide), if_pos (show (112 : Int32) = 112 from rfl), b1, bd2_s, if_neg i10, b3, bd2_s, if_neg i10, b4, bd2_s, if_neg i10, b5, bd2_s, ck_t _ (by decide)]
        · rw [u5, u4, upd_ne _ _ (by omega), u3, stm_row, upd_ne _ _ (by omega), u1, upd_at]
        · rw [u5, u4, upd_at]
        · intro q; exact absurd q (by decide)
        · intro q; exact absurd q (by decide)
  · by_cases hq : sg T z (p + 2) 59
    rotate_left
    · refine Or.inl ⟨p + 2, by omega, fun d σ C => ?_, fun d ρ R => ?_⟩
      · have en := next_c C
        rw [if_pos hp, hL] at en
        have C0 := CS_o (CS_o (CS_o (CS_o (CS_o C (j := 3) (v := 112) (by omega)) (j := 4) (v := 0) (by omega)) (j := 5) (v := 0) (by omega)) (j := 6) (v := 0) (by omega)) (j := 7) (v := 0) (by omega)
        have F3 : (stm (stm (stm (stm (stm σ 85 3 112) 85 4 0) 85 5 0) 85 6 0) 85 7 0) 85 3 = 112 := by simp only [stm_row]; simp (disch := omega) only [upd_ne, upd_at]
        obtain ⟨C1, K1⟩ := CS_at C0 hp
        obtain ⟨s1, a1, E1, k1⟩ := digit_y C1 h1
        have D2 := CS_o E1 (j := 4) (v := (nI (dv T (p + 1)))) (by omega)
        have a3 := skips_n D2 h2 (by decide)
        obtain ⟨s4, a4, E4, k4⟩ := want_n D2 hq (by decide)
        refine ⟨_, ?_, E4, fun i hi => ?_⟩
        · unfold F_X3_readStatement
          rw [en, Option.bind_some, F3, if_neg (show ¬ (112 : Int32) = 100 by decide), if_pos (show (112 : Int32) = 112 from rfl)]
          unfold F_X3_readPiece
          rw [a1, bd2_s, a3, bd2_s, if_pos rfl, Option.bind_some, a4, Option.bind_some]
        · rw [k4.1 i hi, stm_ne _ _ _ hi, k1.1 i hi, K1.1 i hi, stm_ne _ _ _ hi, stm_ne _ _ _ hi, stm_ne _ _ _ hi, stm_ne _ _ _ hi, stm_ne _ _ _ hi]
      · have en := here_r R
        rw [if_pos hp, hL] at en
        obtain ⟨R0, K0⟩ := RS_t R (v := 0)
        obtain ⟨R1, K1⟩ := RS_at R0 hp
        have t0 : (stm (stm ρ 91 15 0) 91 12 (stm ρ 91 15 0 91 12 + 1)) 91 15 = nI 0 := by rw [stm_row, upd_ne _ _ (by omega), stm_row, upd_at]; rfl
        obtain ⟨r1, b1, R11, L1, u1, t1⟩ := readsD_y R1 h1 (by omega) t0
        obtain ⟨R12, L2⟩ := RS_o R11 (j := 1) (v := 0)
        have t2 : stm r1 102 1 0 91 15 = nI 1 := by rw [stm_ne _ _ _ (by omega)]; exact t1
        refine ⟨_, ?_, R12, (KF_tr K0 (KF_tr K1 (KF_tr L1 L2)))⟩
        · unfold F_X8_readsStatement
          rw [en, Option.bind_some, if_neg (show ¬ (112 : Int32) = 100 by decide), if_pos (show (112 : Int32) = 112 from rfl), b1, bd2_s, if_neg i10, takes_n R12 h2 (by decide), bd2_s, if_pos rfl, takes_n R12 hq (by decide), bd2_s, ck_t _ (by decide)]
    · refine Or.inr ⟨p + 3, 112, dv T (p + 1), 0, 0, 0, ⟨by omega, by have := hq.1; omega, hp, hL, Or.inl ⟨Or.inl rfl, b1, by omega, by omega⟩⟩, fun d σ C => ?_, fun d ρ R => ?_⟩
      · have en := next_c C
        rw [if_pos hp, hL] at en
        have C0 := CS_o (CS_o (CS_o (CS_o (CS_o C (j := 3) (v := 112) (by omega)) (j := 4) (v := 0) (by omega)) (j := 5) (v := 0) (by omega)) (j := 6) (v := 0) (by omega)) (j := 7) (v := 0) (by omega)
        have F3 : (stm (stm (stm (stm (stm σ 85 3 112) 85 4 0) 85 5 0) 85 6 0) 85 7 0) 85 3 = 112 := by simp only [stm_row]; simp (disch := omega) only [upd_ne, upd_at]
        obtain ⟨C1, K1⟩ := CS_at C0 hp
        obtain ⟨s1, a1, E1, k1⟩ := digit_y C1 h1
        have D2 := CS_o E1 (j := 4) (v := (nI (dv T (p + 1)))) (by omega)
        have a3 := skips_n D2 h2 (by decide)
        obtain ⟨s4, a4, E4, k4⟩ := want_y D2 hq
        refine ⟨_, ?_, E4, fun i hi => ?_, ?_, ?_, ?_, ?_, ?_⟩
        · unfold F_X3_readStatement
          rw [en, Option.bind_some, F3, if_neg (show ¬ (112 : Int32) = 100 by decide), if_pos (show (112 : Int32) = 112 from rfl)]
          unfold F_X3_readPiece
          rw [a1, bd2_s, a3, bd2_s, if_pos rfl, Option.bind_some, a4, Option.bind_some]
        · rw [k4.1 i hi, stm_ne _ _ _ hi, k1.1 i hi, K1.1 i hi, stm_ne _ _ _ hi, stm_ne _ _ _ hi, stm_ne _ _ _ hi, stm_ne _ _ _ hi, stm_ne _ _ _ hi]
        · rw [k4.2 3 (by omega) (by omega), stm_row, upd_ne _ _ (by omega), k1.2 3 (by omega) (by omega), K1.2 3 (by omega) (by omega)]; simp only [stm_row]; simp (disch := omega) only [upd_ne, upd_at]
        · rw [k4.2 4 (by omega) (by omega), stm_row, upd_at]
        · rw [k4.2 5 (by omega) (by omega), stm_row, upd_ne _ _ (by omega), k1.2 5 (by omega) (by omega), K1.2 5 (by omega) (by omega)]; simp only [stm_row]; simp (disch := omega) only [upd_ne, upd_at]; rfl
        · rw [k4.2 6 (by omega) (by omega), stm_row, upd_ne _ _ (by omega), k1.2 6 (by omega) (by omega), K1.2 6 (by omega) (by omega)]; simp only [stm_row]; simp (disch := omega) only [upd_ne, upd_at]; rfl
        · rw [k4.2 7 (by omega) (by omega), stm_row, upd_ne _ _ (by omega), k1.2 7 (by omega) (by omega), K1.2 7 (by omega) (by omega)]; simp only [stm_row]; simp (disch := omega) only [upd_ne, upd_at]; rfl
      · have en := here_r R
        rw [if_pos hp, hL] at en
        obtain ⟨R0, K0⟩ := RS_t R (v := 0)
        obtain ⟨R1, K1⟩ := RS_at R0 hp
        have t0 : (stm (stm ρ 91 15 0) 91 12 (stm ρ 91 15 0 91 12 + 1)) 91 15 = nI 0 := by rw [stm_row, upd_ne _ _ (by omega), stm_row, upd_at]; rfl
        obtain ⟨r1, b1, R11, L1, u1, t1⟩ := readsD_y R1 h1 (by omega) t0
        obtain ⟨R12, L2⟩ := RS_o R11 (j := 1) (v := 0)
        have t2 : stm r1 102 1 0 91 15 = nI 1 := by rw [stm_ne _ _ _ (by omega)]; exact t1
        obtain ⟨r3, b3, R13, L3, u3, t3⟩ := takes_y R12 hq
        have t3 := t3.trans t2
        refine ⟨_, ?_, R13, (KF_tr K0 (KF_tr K1 (KF_tr L1 (KF_tr L2 L3)))), ?_, ?_, ?_, ?_⟩
        · unfold F_X8_readsStatement
          rw [en, Option.bind_some, if_neg (show ¬ (112 : Int32) = 100 by decide), if_pos (show (112 : Int32) = 112 from rfl), b1, bd2_s, if_neg i10, takes_n R12 h2 (by decide), bd2_s, if_pos rfl, b3, bd2_s, ck_t _ (by decide)]
        · rw [u3, stm_row, upd_ne _ _ (by omega), u1, upd_at]
        · rw [u3, stm_row, upd_at]; rfl
        · intro q; exact absurd q (by decide)
        · intro q; exact absurd q (by decide)
theorem st_114 (hz : z ≤ 100) (hp : p < z) (hL : T p = 114) : SFAIL T z p ∨ SOK T z p := by
  by_cases h1 : dg T z (p + 1)
  rotate_left
  · refine Or.inl ⟨p + 1, by omega, fun d σ C => ?_, fun d ρ R => ?_⟩
    · have en := next_c C
      rw [if_pos hp, hL] at en
      have C0 := CS_o (CS_o (CS_o (CS_o (CS_o C (j := 3) (v := 114) (by omega)) (j := 4) (v := 0) (by omega)) (j := 5) (v := 0) (by omega)) (j := 6) (v := 0) (by omega)) (j := 7) (v := 0) (by omega)
      have F3 : (stm (stm (stm (stm (stm σ 85 3 114) 85 4 0) 85 5 0) 85 6 0) 85 7 0) 85 3 = 114 := by simp only [stm_row]; simp (disch := omega) only [upd_ne, upd_at]
      obtain ⟨C1, K1⟩ := CS_at C0 hp
      obtain ⟨s1, a1, E1, k1⟩ := digit_n C1 h1
      have D2 := CS_o E1 (j := 4) (v := 0) (by omega)
      obtain ⟨s3, a3, E3, k3⟩ := want_b (s := 32) D2
      obtain ⟨s4, a4, E4, k4⟩ := digit_b E3
      have D5 := CS_o E4 (j := 5) (v := 0) (by omega)
      have a6 : (stm s4 85 5 0) 85 3 = 114 := by rw [stm_row, upd_ne _ _ (by omega), k4.2 3 (by omega) (by omega), k3.2 3 (by omega) (by omega), stm_row, upd_ne _ _ (by omega), k1.2 3 (by omega) (by omega), K1.2 3 (by omega) (by omega)]; exact F3
      obtain ⟨s7, a7, E7, k7⟩ := want_b (s := 59) D5
      refine ⟨_, ?_, E7, fun i hi => ?_⟩
      · unfold F_X3_readStatement
        rw [en, Option.bind_some, F3, if_neg (show ¬ (114 : Int32) = 100 by decide), if_neg (show ¬ (114 : Int32) = 112 by decide), if_pos (show (114 : Int32) = 114 from rfl)]
        unfold F_X3_readPair
        rw [a1, bd2_s, a3, Option.bind_some, a4, bd2_s, a6, if_neg (by decide), Option.bind_some, a7, Option.bind_some]
      · rw [k7.1 i hi, stm_ne _ _ _ hi, k4.1 i hi, k3.1 i hi, stm_ne _ _ _ hi, k1.1 i hi, K1.1 i hi, stm_ne _ _ _ hi, stm_ne _ _ _ hi, stm_ne _ _ _ hi, stm_ne _ _ _ hi, stm_ne _ _ _ hi]
    · have en := here_r R
      rw [if_pos hp, hL] at en
      obtain ⟨R0, K0⟩ := RS_t R (v := 0)
      obtain ⟨R1, K1⟩ := RS_at R0 hp
      have t0 : (stm (stm ρ 91 15 0) 91 12 (stm ρ 91 15 0 91 12 + 1)) 91 15 = nI 0 := by rw [stm_row, upd_ne _ _ (by omega), stm_row, upd_at]; rfl
      refine ⟨_, ?_, R1, (KF_tr K0 K1)⟩
      · unfold F_X8_readsStatement
        rw [en, Option.bind_some, if_neg (show ¬ (114 : Int32) = 100 by decide), if_neg (show ¬ (114 : Int32) = 112 by decide), if_pos (show (114 : Int32) = 114 from rfl), readsD_n R1 h1, bd2_s, if_pos rfl]
  have b1 := (dv_e h1).2.1
  by_cases h2 : sg T z (p + 2) 32
  rotate_left
  · refine Or.inl ⟨p + 2, by omega, fun d σ C => ?_, fun d ρ R => ?_⟩
    · have en := next_c C
      rw [if_pos hp, hL] at en
      have C0 := CS_o (CS_o (CS_o (CS_o (CS_o C (j := 3) (v := 114) (by omega)) (j := 4) (v := 0) (by omega)) (j := 5) (v := 0) (by omega)) (j := 6) (v := 0) (by omega)) (j := 7) (v := 0) (by omega)
      have F3 : (stm (stm (stm (stm (stm σ 85 3 114) 85 4 0) 85 5 0) 85 6 0) 85 7 0) 85 3 = 114 := by simp only [stm_row]; simp (disch := omega) only [upd_ne, upd_at]
      obtain ⟨C1, K1⟩ := CS_at C0 hp
      obtain ⟨s1, a1, E1, k1⟩ := digit_y C1 h1
      have D2 := CS_o E1 (j := 4) (v := (nI (dv T (p + 1)))) (by omega)
      obtain ⟨s3, a3, E3, k3⟩ := want_n D2 h2 (by decide)
      obtain ⟨s4, a4, E4, k4⟩ := digit_b E3
      have D5 := CS_o E4 (j := 5) (v := 0) (by omega)
      have a6 : (stm s4 85 5 0) 85 3 = 114 := by rw [stm_row, upd_ne _ _ (by omega), k4.2 3 (by omega) (by omega), k3.2 3 (by omega) (by omega), stm_row, upd_ne _ _ (by omega), k1.2 3 (by omega) (by omega), K1.2 3 (by omega) (by omega)]; exact F3
      obtain ⟨s7, a7, E7, k7⟩ := want_b (s := 59) D5
      refine ⟨_, ?_, E7, fun i hi => ?_⟩
      · unfold F_X3_readStatement
        rw [en, Option.bind_some, F3, if_neg (show ¬ (114 : Int32) = 100 by decide), if_neg (show ¬ (114 : Int32) = 112 by decide), if_pos (show (114 : Int32) = 114 from rfl)]
        unfold F_X3_readPair
        rw [a1, bd2_s, a3, Option.bind_some, a4, bd2_s, a6, if_neg (by decide), Option.bind_some, a7, Option.bind_some]
      · rw [k7.1 i hi, stm_ne _ _ _ hi, k4.1 i hi, k3.1 i hi, stm_ne _ _ _ hi, k1.1 i hi, K1.1 i hi, stm_ne _ _ _ hi, stm_ne _ _ _ hi, stm_ne _ _ _ hi, stm_ne _ _ _ hi, stm_ne _ _ _ hi]
    · have en := here_r R
      rw [if_pos hp, hL] at en
      obtain ⟨R0, K0⟩ := RS_t R (v := 0)
      obtain ⟨R1, K1⟩ := RS_at R0 hp
      have t0 : (stm (stm ρ 91 15 0) 91 12 (stm ρ 91 15 0 91 12 + 1)) 91 15 = nI 0 := by rw [stm_row, upd_ne _ _ (by omega), stm_row, upd_at]; rfl
      obtain ⟨r1, b1, R11, L1, u1, t1⟩ := readsD_y R1 h1 (by omega) t0
      refine ⟨_, ?_, R11, (KF_tr K0 (KF_tr K1 L1))⟩
      · unfold F_X8_readsStatement
        rw [en, Option.bind_some, if_neg (show ¬ (114 : Int32) = 100 by decide), if_neg (show ¬ (114 : Int32) = 112 by decide), if_pos (show (114 : Int32) = 114 from rfl), b1, bd2_s, if_neg i10, takes_n R11 h2 (by decide), bd2_s, if_pos rfl]
  by_cases h3 : dg T z (p + 3)
  rotate_left
  · refine Or.inl ⟨p + 3, by omega, fun d σ C => ?_, fun d ρ R => ?_⟩
    · have en := next_c C
      rw [if_pos hp, hL] at en
      have C0 := CS_o (CS_o (CS_o (CS_o (CS_o C (j := 3) (v := 114) (by omega)) (j := 4) (v := 0) (by omega)) (j := 5) (v := 0) (by omega)) (j := 6) (v := 0) (by omega)) (j := 7) (v := 0) (by omega)
      have F3 : (stm (stm (stm (stm (stm σ 85 3 114) 85 4 0) 85 5 0) 85 6 0) 85 7 0) 85 3 = 114 := by simp only [stm_row]; simp (disch := omega) only [upd_ne, upd_at]
      obtain ⟨C1, K1⟩ := CS_at C0 hp
      obtain ⟨s1, a1, E1, k1⟩ := digit_y C1 h1
      have D2 := CS_o E1 (j := 4) (v := (nI (dv T (p + 1)))) (by omega)
      obtain ⟨s3, a3, E3, k3⟩ := want_y D2 h2
      obtain ⟨s4, a4, E4, k4⟩ := digit_n E3 h3
      have D5 := CS_o E4 (j := 5) (v := 0) (by omega)
      have a6 : (stm s4 85 5 0) 85 3 = 114 := by rw [stm_row, upd_ne _ _ (by omega), k4.2 3 (by omega) (by omega), k3.2 3 (by omega) (by omega), stm_row, upd_ne _ _ (by omega), k1.2 3 (by omega) (by omega), K1.2 3 (by omega) (by omega)]; exact F3
      obtain ⟨s7, a7, E7, k7⟩ := want_b (s := 59) D5
      refine ⟨_, ?_, E7, fun i hi => ?_⟩
      · unfold F_X3_readStatement
        rw [en, Option.bind_some, F3, if_neg (show ¬ (114 : Int32) = 100 by decide), if_neg (show ¬ (114 : Int32) = 112 by decide), if_pos (show (114 : Int32) = 114 from rfl)]
        unfold F_X3_readPair
        rw [a1, bd2_s, a3, Option.bind_some, a4, bd2_s, a6, if_neg (by decide), Option.bind_some, a7, Option.bind_some]
      · rw [k7.1 i hi, stm_ne _ _ _ hi, k4.1 i hi, k3.1 i hi, stm_ne _ _ _ hi, k1.1 i hi, K1.1 i hi, stm_ne _ _ _ hi, stm_ne _ _ _ hi, stm_ne _ _ _ hi, stm_ne _ _ _ hi, stm_ne _ _ _ hi]
    · have en := here_r R
      rw [if_pos hp, hL] at en
      obtain ⟨R0, K0⟩ := RS_t R (v := 0)
      obtain ⟨R1, K1⟩ := RS_at R0 hp
      have t0 : (stm (stm ρ 91 15 0) 91 12 (stm ρ 91 15 0 91 12 + 1)) 91 15 = nI 0 := by rw [stm_row, upd_ne _ _ (by omega), stm_row, upd_at]; rfl
      obtain ⟨r1, b1, R11, L1, u1, t1⟩ := readsD_y R1 h1 (by omega) t0
      obtain ⟨r2, b2, R12, L2, u2, t2⟩ := takes_y R11 h2
      have t2 := t2.trans t1
      refine ⟨_, ?_, R12, (KF_tr K0 (KF_tr K1 (KF_tr L1 L2)))⟩
      · unfold F_X8_readsStatement
        rw [en, Option.bind_some, if_neg (show ¬ (114 : Int32) = 100 by decide), if_neg (show ¬ (114 : Int32) = 112 by decide), if_pos (show (114 : Int32) = 114 from rfl), b1, bd2_s, if_neg i10, b2, bd2_s, if_neg i10, readsD_n R12 h3, bd2_s, if_pos rfl]
  have b2 := (dv_e h3).2.1
  by_cases hq : sg T z (p + 4) 59
  rotate_left
  · refine Or.inl ⟨p + 4, by omega, fun d σ C => ?_, fun d ρ R => ?_⟩
    · have en := next_c C
      rw [if_pos hp, hL] at en
      have C0 := CS_o (CS_o (CS_o (CS_o (CS_o C (j := 3) (v := 114) (by omega)) (j := 4) (v := 0) (by omega)) (j := 5) (v := 0) (by omega)) (j := 6) (v := 0) (by omega)) (j := 7) (v := 0) (by omega)
      have F3 : (stm (stm (stm (stm (stm σ 85 3 114) 85 4 0) 85 5 0) 85 6 0) 85 7 0) 85 3 = 114 := by simp only [stm_row]; simp (disch := omega) only [upd_ne, upd_at]
      obtain ⟨C1, K1⟩ := CS_at C0 hp
      obtain ⟨s1, a1, E1, k1⟩ := digit_y C1 h1
      have D2 := CS_o E1 (j := 4) (v := (nI (dv T (p + 1)))) (by omega)
      obtain ⟨s3, a3, E3, k3⟩ := want_y D2 h2
      obtain ⟨s4, a4, E4, k4⟩ := digit_y E3 h3
      have D5 := CS_o E4 (j := 5) (v := (nI (dv T (p + 3)))) (by omega)
      have a6 : (stm s4 85 5 (nI (dv T (p + 3)))) 85 3 = 114 := by rw [stm_row, upd_ne _ _ (by omega), k4.2 3 (by omega) (by omega), k3.2 3 (by omega) (by omega), stm_row, upd_ne _ _ (by omega), k1.2 3 (by omega) (by omega), K1.2 3 (by omega) (by omega)]; exact F3
      obtain ⟨s7, a7, E7, k7⟩ := want_n D5 hq (by decide)
      refine ⟨_, ?_, E7, fun i hi => ?_⟩
      · unfold F_X3_readStatement
        rw [en, Option.bind_some, F3, if_neg (show ¬ (114 : Int32) = 100 by decide), if_neg (show ¬ (114 : Int32) = 112 by decide), if_pos (show (114 : Int32) = 114 from rfl)]
        unfold F_X3_readPair
        rw [a1, bd2_s, a3, Option.bind_some, a4, bd2_s, a6, if_neg (by decide), Option.bind_some, a7, Option.bind_some]
      · rw [k7.1 i hi, stm_ne _ _ _ hi, k4.1 i hi, k3.1 i hi, stm_ne _ _ _ hi, k1.1 i hi, K1.1 i hi, stm_ne _ _ _ hi, stm_ne _ _ _ hi, stm_ne _ _ _ hi, stm_ne _ _ _ hi, stm_ne _ _ _ hi]
    · have en := here_r R
      rw [if_pos hp, hL] at en
      obtain ⟨R0, K0⟩ := RS_t R (v := 0)
      obtain ⟨R1, K1⟩ := RS_at R0 hp
      have t0 : (stm (stm ρ 91 15 0) 91 12 (stm ρ 91 15 0 91 12 + 1)) 91 15 = nI 0 := by rw [stm_row, upd_ne _ _ (by omega), stm_row, upd_at]; rfl
      obtain ⟨r1, b1, R11, L1, u1, t1⟩ := readsD_y R1 h1 (by omega) t0
      obtain ⟨r2, b2, R12, L2, u2, t2⟩ := takes_y R11 h2
      have t2 := t2.trans t1
      obtain ⟨r3, b3, R13, L3, u3, t3⟩ := readsD_y R12 h3 (by omega) t2
      refine ⟨_, ?_, R13, (KF_tr K0 (KF_tr K1 (KF_tr L1 (KF_tr L2 L3))))⟩
      · unfold F_X8_readsStatement
        rw [en, Option.bind_some, if_neg (show ¬ (114 : Int32) = 100 by decide), if_neg (show ¬ (114 : Int32) = 112 by decide), if_pos (show (114 : Int32) = 114 from rfl), b1, bd2_s, if_neg i10, b2, bd2_s, if_neg i10, b3, bd2_s, if_neg i10, takes_n R13 hq (by decide), bd2_s, if_pos rfl]
  · refine Or.inr ⟨p + 5, 114, dv T (p + 1), dv T (p + 3), 0, 0, ⟨by omega, by have := hq.1; omega, hp, hL, Or.inl ⟨Or.inr (Or.inl rfl), b1, b2, by omega⟩⟩, fun d σ C => ?_, fun d ρ R => ?_⟩
    · have en := next_c C
      rw [if_pos hp, hL] at en
      have C0 := CS_o (CS_o (CS_o (CS_o (CS_o C (j := 3) (v := 114) (by omega)) (j := 4) (v := 0) (by omega)) (j := 5) (v := 0) (by omega)) (j := 6) (v := 0) (by omega)) (j := 7) (v := 0) (by omega)
      have F3 : (stm (stm (stm (stm (stm σ 85 3 114) 85 4 0) 85 5 0) 85 6 0) 85 7 0) 85 3 = 114 := by simp only [stm_row]; simp (disch := omega) only [upd_ne, upd_at]
      obtain ⟨C1, K1⟩ := CS_at C0 hp
      obtain ⟨s1, a1, E1, k1⟩ := digit_y C1 h1
      have D2 := CS_o E1 (j := 4) (v := (nI (dv T (p + 1)))) (by omega)
      obtain ⟨s3, a3, E3, k3⟩ := want_y D2 h2
      obtain ⟨s4, a4, E4, k4⟩ := digit_y E3 h3
      have D5 := CS_o E4 (j := 5) (v := (nI (dv T (p + 3)))) (by omega)
      have a6 : (stm s4 85 5 (nI (dv T (p + 3)))) 85 3 = 114 := by rw [stm_row, upd_ne _ _ (by omega), k4.2 3 (by omega) (by omega), k3.2 3 (by omega) (by omega), stm_row, upd_ne _ _ (by omega), k1.2 3 (by omega) (by omega), K1.2 3 (by omega) (by omega)]; exact F3
      obtain ⟨s7, a7, E7, k7⟩ := want_y D5 hq
      refine ⟨_, ?_, E7, fun i hi => ?_, ?_, ?_, ?_, ?_, ?_⟩
      · unfold F_X3_readStatement
        rw [en, Option.bind_some, F3, if_neg (show ¬ (114 : Int32) = 100 by decide), if_neg (show ¬ (114 : Int32) = 112 by decide), if_pos (show (114 : Int32) = 114 from rfl)]
        unfold F_X3_readPair
        rw [a1, bd2_s, a3, Option.bind_some, a4, bd2_s, a6, if_neg (by decide), Option.bind_some, a7, Option.bind_some]
      · rw [k7.1 i hi, stm_ne _ _ _ hi, k4.1 i hi, k3.1 i hi, stm_ne _ _ _ hi, k1.1 i hi, K1.1 i hi, stm_ne _ _ _ hi, stm_ne _ _ _ hi, stm_ne _ _ _ hi, stm_ne _ _ _ hi, stm_ne _ _ _ hi]
      · rw [k7.2 3 (by omega) (by omega), stm_row, upd_ne _ _ (by omega), k4.2 3 (by omega) (by omega), k3.2 3 (by omega) (by omega), stm_row, upd_ne _ _ (by omega), k1.2 3 (by omega) (by omega), K1.2 3 (by omega) (by omega)]; simp only [stm_row]; simp (disch := omega) only [upd_ne, upd_at]
      · rw [k7.2 4 (by omega) (by omega), stm_row, upd_ne _ _ (by omega), k4.2 4 (by omega) (by omega), k3.2 4 (by omega) (by omega), stm_row, upd_at]
      · rw [k7.2 5 (by omega) (by omega), stm_row, upd_at]
      · rw [k7.2 6 (by omega) (by omega), stm_row, upd_ne _ _ (by omega), k4.2 6 (by omega) (by omega), k3.2 6 (by omega) (by omega), stm_row, upd_ne _ _ (by omega), k1.2 6 (by omega) (by omega), K1.2 6 (by omega) (by omega)]; simp only [stm_row]; simp (disch := omega) only [upd_ne, upd_at]; rfl
      · rw [k7.2 7 (by omega) (by omega), stm_row, upd_ne _ _ (by omega), k4.2 7 (by omega) (by omega), k3.2 7 (by omega) (by omega), stm_row, upd_ne _ _ (by omega), k1.2 7 (by omega) (by omega), K1.2 7 (by omega) (by omega)]; simp only [stm_row]; simp (disch := omega) only [upd_ne, upd_at]; rfl
    · have en := here_r R
      rw [if_pos hp, hL] at en
      obtain ⟨R0, K0⟩ := RS_t R (v := 0)
      obtain ⟨R1, K1⟩ := RS_at R0 hp
      have t0 : (stm (stm ρ 91 15 0) 91 12 (stm ρ 91 15 0 91 12 + 1)) 91 15 = nI 0 := by rw [stm_row, upd_ne _ _ (by omega), stm_row, upd_at]; rfl
      obtain ⟨r1, b1, R11, L1, u1, t1⟩ := readsD_y R1 h1 (by omega) t0
      obtain ⟨r2, b2, R12, L2, u2, t2⟩ := takes_y R11 h2
      have t2 := t2.trans t1
      obtain ⟨r3, b3, R13, L3, u3, t3⟩ := readsD_y R12 h3 (by omega) t2
      obtain ⟨r4, b4, R14, L4, u4, t4⟩ := takes_y R13 hq
      have t4 := t4.trans t3
      refine ⟨_, ?_, R14, (KF_tr K0 (KF_tr K1 (KF_tr L1 (KF_tr L2 (KF_tr L3 L4))))), ?_, ?_, ?_, ?_⟩
      · unfold F_X8_readsStatement
        rw [en, Option.bind_some, if_neg (show ¬ (114 : Int32) = 100 by decide), if_neg (show ¬ (114 : Int32) = 112 by decide), if_pos (show (114 : Int32) = 114 from rfl), b1, bd2_s, if_neg i10, b2, bd2_s, if_neg i10, b3, bd2_s, if_neg i10, b4, bd2_s, if_neg i10]
      · rw [u4, u3, upd_ne _ _ (by omega), u2, u1, upd_at]
      · rw [u4, u3, upd_at]
      · intro q; exact absurd q (by decide)
      · intro q; exact absurd q (by decide)
theorem st_118 (hz : z ≤ 100) (hp : p < z) (hL : T p = 118) : SFAIL T z p ∨ SOK T z p := by
  by_cases h1 : dg T z (p + 1)
  rotate_left
  · refine Or.inl ⟨p + 1, by omega, fun d σ C => ?_, fun d ρ R => ?_⟩
    · have en := next_c C
      rw [if_pos hp, hL] at en
      have C0 := CS_o (CS_o (CS_o (CS_o (CS_o C (j := 3) (v := 118) (by omega)) (j := 4) (v := 0) (by omega)) (j := 5) (v := 0) (by omega)) (j := 6) (v := 0) (by omega)) (j := 7) (v := 0) (by omega)
      have F3 : (stm (stm (stm (stm (stm σ 85 3 118) 85 4 0) 85 5 0) 85 6 0) 85 7 0) 85 3 = 118 := by simp only [stm_row]; simp (disch := omega) only [upd_ne, upd_at]
      obtain ⟨C1, K1⟩ := CS_at C0 hp
      obtain ⟨s1, a1, E1, k1⟩ := digit_n C1 h1
      have D2 := CS_o E1 (j := 4) (v := 0) (by omega)
      obtain ⟨s3, a3, E3, k3⟩ := want_b (s := 32) D2
      obtain ⟨s4, a4, E4, k4⟩ := digit_b E3
      have D5 := CS_o E4 (j := 5) (v := 0) (by omega)
      have a6 : (stm s4 85 5 0) 85 3 = 118 := by rw [stm_row, upd_ne _ _ (by omega), k4.2 3 (by omega) (by omega), k3.2 3 (by omega) (by omega), stm_row, upd_ne _ _ (by omega), k1.2 3 (by omega) (by omega), K1.2 3 (by omega) (by omega)]; exact F3
      obtain ⟨s7, a7, E7, k7⟩ := want_b (s := 59) D5
      refine ⟨_, ?_, E7, fun i hi => ?_⟩
      · unfold F_X3_readStatement
        rw [en, Option.bind_some, F3, if_neg (show ¬ (118 : Int32) = 100 by decide), if_neg (show ¬ (118 : Int32) = 112 by decide), if_neg (show ¬ (118 : Int32) = 114 by decide), if_neg (show ¬ (118 : Int32) = 117 by decide), if_pos (show (118 : Int32) = 118 from rfl)]
        unfold F_X3_readPair
        rw [a1, bd2_s, a3, Option.bind_some, a4, bd2_s, a6, if_neg (by decide), Option.bind_some, a7, Option.bind_some]
      · rw [k7.1 i hi, stm_ne _ _ _ hi, k4.1 i hi, k3.1 i hi, stm_ne _ _ _ hi, k1.1 i hi, K1.1 i hi, stm_ne _ _ _ hi, stm_ne _ _ _ hi, stm_ne _ _ _ hi, stm_ne _ _ _ hi, stm_ne _ _ _ hi]
    · have en := here_r R
      rw [if_pos hp, hL] at en
      obtain ⟨R0, K0⟩ := RS_t R (v := 0)
      obtain ⟨R1, K1⟩ := RS_at R0 hp
      have t0 : (stm (stm ρ 91 15 0) 91 12 (stm ρ 91 15 0 91 12 + 1)) 91 15 = nI 0 := by rw [stm_row, upd_ne _ _ (by omega), stm_row, upd_at]; rfl
      refine ⟨_, ?_, R1, (KF_tr K0 K1)⟩
      · unfold F_X8_readsStatement
        rw [en, Option.bind_some, if_neg (show ¬ (118 : Int32) = 100 by decide), if_neg (show ¬ (118 : Int32) = 112 by decide), if_neg (show ¬ (118 : Int32) = 114 by decide), if_neg (show ¬ (118 : Int32) = 117 by decide), if_pos (show (118 : Int32) = 118 from rfl), readsD_n R1 h1, bd2_s, if_pos rfl]
  have b1 := (dv_e h1).2.1
  by_cases h2 : sg T z (p + 2) 32
  rotate_left
  · refine Or.inl ⟨p + 2, by omega, fun d σ C => ?_, fun d ρ R => ?_⟩
    · have en := next_c C
      rw [if_pos hp, hL] at en
      have C0 := CS_o (CS_o (CS_o (CS_o (CS_o C (j := 3) (v := 118) (by omega)) (j := 4) (v := 0) (by omega)) (j := 5) (v := 0) (by omega)) (j := 6) (v := 0) (by omega)) (j := 7) (v := 0) (by omega)
      have F3 : (stm (stm (stm (stm (stm σ 85 3 118) 85 4 0) 85 5 0) 85 6 0) 85 7 0) 85 3 = 118 := by simp only [stm_row]; simp (disch := omega) only [upd_ne, upd_at]
      obtain ⟨C1, K1⟩ := CS_at C0 hp
      obtain ⟨s1, a1, E1, k1⟩ := digit_y C1 h1
      have D2 := CS_o E1 (j := 4) (v := (nI (dv T (p + 1)))) (by omega)
      obtain ⟨s3, a3, E3, k3⟩ := want_n D2 h2 (by decide)
      obtain ⟨s4, a4, E4, k4⟩ := digit_b E3
      have D5 := CS_o E4 (j := 5) (v := 0) (by omega)
      have a6 : (stm s4 85 5 0) 85 3 = 118 := by rw [stm_row, upd_ne _ _ (by omega), k4.2 3 (by omega) (by omega), k3.2 3 (by omega) (by omega), stm_row, upd_ne _ _ (by omega), k1.2 3 (by omega) (by omega), K1.2 3 (by omega) (by omega)]; exact F3
      obtain ⟨s7, a7, E7, k7⟩ := want_b (s := 59) D5
      refine ⟨_, ?_, E7, fun i hi => ?_⟩
      · unfold F_X3_readStatement
        rw [en, Option.bind_some, F3, if_neg (show ¬ (118 : Int32) = 100 by decide), if_neg (show ¬ (118 : Int32) = 112 by decide), if_neg (show ¬ (118 : Int32) = 114 by decide), if_neg (show ¬ (118 : Int32) = 117 by decide), if_pos (show (118 : Int32) = 118 from rfl)]
        unfold F_X3_readPair
        rw [a1, bd2_s, a3, Option.bind_some, a4, bd2_s, a6, if_neg (by decide), Option.bind_some, a7, Option.bind_some]
      · rw [k7.1 i hi, stm_ne _ _ _ hi, k4.1 i hi, k3.1 i hi, stm_ne _ _ _ hi, k1.1 i hi, K1.1 i hi, stm_ne _ _ _ hi, stm_ne _ _ _ hi, stm_ne _ _ _ hi, stm_ne _ _ _ hi, stm_ne _ _ _ hi]
    · have en := here_r R
      rw [if_pos hp, hL] at en
      obtain ⟨R0, K0⟩ := RS_t R (v := 0)
      obtain ⟨R1, K1⟩ := RS_at R0 hp
      have t0 : (stm (stm ρ 91 15 0) 91 12 (stm ρ 91 15 0 91 12 + 1)) 91 15 = nI 0 := by rw [stm_row, upd_ne _ _ (by omega), stm_row, upd_at]; rfl
      obtain ⟨r1, b1, R11, L1, u1, t1⟩ := readsD_y R1 h1 (by omega) t0
      refine ⟨_, ?_, R11, (KF_tr K0 (KF_tr K1 L1))⟩
      · unfold F_X8_readsStatement
        rw [en, Option.bind_some, if_neg (show ¬ (118 : Int32) = 100 by decide), if_neg (show ¬ (118 : Int32) = 112 by decide), if_neg (show ¬ (118 : Int32) = 114 by decide), if_neg (show ¬ (118 : Int32) = 117 by decide), if_pos (show (118 : Int32) = 118 from rfl), b1, bd2_s, if_neg i10, takes_n R11 h2 (by decide), bd2_s, if_pos rfl]
  by_cases h3 : dg T z (p + 3)
  rotate_left
  · refine Or.inl ⟨p + 3, by omega, fun d σ C => ?_, fun d ρ R => ?_⟩
    · have en := next_c C
      rw [if_pos hp, hL] at en
      have C0 := CS_o (CS_o (CS_o (CS_o (CS_o C (j := 3) (v := 118) (by omega)) (j := 4) (v := 0) (by omega)) (j := 5) (v := 0) (by omega)) (j := 6) (v := 0) (by omega)) (j := 7) (v := 0) (by omega)
      have F3 : (stm (stm (stm (stm (stm σ 85 3 118) 85 4 0) 85 5 0) 85 6 0) 85 7 0) 85 3 = 118 := by simp only [stm_row]; simp (disch := omega) only [upd_ne, upd_at]
      obtain ⟨C1, K1⟩ := CS_at C0 hp
      obtain ⟨s1, a1, E1, k1⟩ := digit_y C1 h1
      have D2 := CS_o E1 (j := 4) (v := (nI (dv T (p + 1)))) (by omega)
      obtain ⟨s3, a3, E3, k3⟩ := want_y D2 h2
      obtain ⟨s4, a4, E4, k4⟩ := digit_n E3 h3
      have D5 := CS_o E4 (j := 5) (v := 0) (by omega)
      have a6 : (stm s4 85 5 0) 85 3 = 118 := by rw [stm_row, upd_ne _ _ (by omega), k4.2 3 (by omega) (by omega), k3.2 3 (by omega) (by omega), stm_row, upd_ne _ _ (by omega), k1.2 3 (by omega) (by omega), K1.2 3 (by omega) (by omega)]; exact F3
      obtain ⟨s7, a7, E7, k7⟩ := want_b (s := 59) D5
      refine ⟨_, ?_, E7, fun i hi => ?_⟩
      · unfold F_X3_readStatement
        rw [en, Option.bind_some, F3, if_neg (show ¬ (118 : Int32) = 100 by decide), if_neg (show ¬ (118 : Int32) = 112 by decide), if_neg (show ¬ (118 : Int32) = 114 by decide), if_neg (show ¬ (118 : Int32) = 117 by decide), if_pos (show (118 : Int32) = 118 from rfl)]
        unfold F_X3_readPair
        rw [a1, bd2_s, a3, Option.bind_some, a4, bd2_s, a6, if_neg (by decide), Option.bind_some, a7, Option.bind_some]
      · rw [k7.1 i hi, stm_ne _ _ _ hi, k4.1 i hi, k3.1 i hi, stm_ne _ _ _ hi, k1.1 i hi, K1.1 i hi, stm_ne _ _ _ hi, stm_ne _ _ _ hi, stm_ne _ _ _ hi, stm_ne _ _ _ hi, stm_ne _ _ _ hi]
    · have en := here_r R
      rw [if_pos hp, hL] at en
      obtain ⟨R0, K0⟩ := RS_t R (v := 0)
      obtain ⟨R1, K1⟩ := RS_at R0 hp
      have t0 : (stm (stm ρ 91 15 0) 91 12 (stm ρ 91 15 0 91 12 + 1)) 91 15 = nI 0 := by rw [stm_row, upd_ne _ _ (by omega), stm_row, upd_at]; rfl
      obtain ⟨r1, b1, R11, L1, u1, t1⟩ := readsD_y R1 h1 (by omega) t0
      obtain ⟨r2, b2, R12, L2, u2, t2⟩ := takes_y R11 h2
      have t2 := t2.trans t1
      refine ⟨_, ?_, R12, (KF_tr K0 (KF_tr K1 (KF_tr L1 L2)))⟩
      · unfold F_X8_readsStatement
        rw [en, Option.bind_some, if_neg (show ¬ (118 : Int32) = 100 by decide), if_neg (show ¬ (118 : Int32) = 112 by decide), if_neg (show ¬ (118 : Int32) = 114 by decide), if_neg (show ¬ (118 : Int32) = 117 by decide), if_pos (show (118 : Int32) = 118 from rfl), b1, bd2_s, if_neg i10, b2, bd2_s, if_neg i10, readsD_n R12 h3, bd2_s, if_pos rfl]
  have b2 := (dv_e h3).2.1
  by_cases hq : sg T z (p + 4) 59
  rotate_left
  · refine Or.inl ⟨p + 4, by omega, fun d σ C => ?_, fun d ρ R => ?_⟩
    · have en := next_c C
      rw [if_pos hp, hL] at en
      have C0 := CS_o (CS_o (CS_o (CS_o (CS_o C (j := 3) (v := 118) (by omega)) (j := 4) (v := 0) (by omega)) (j := 5) (v := 0) (by omega)) (j := 6) (v := 0) (by omega)) (j := 7) (v := 0) (by omega)
      have F3 : (stm (stm (stm (stm (stm σ 85 3 118) 85 4 0) 85 5 0) 85 6 0) 85 7 0) 85 3 = 118 := by simp only [stm_row]; simp (disch := omega) only [upd_ne, upd_at]
      obtain ⟨C1, K1⟩ := CS_at C0 hp
      obtain ⟨s1, a1, E1, k1⟩ := digit_y C1 h1
      have D2 := CS_o E1 (j := 4) (v := (nI (dv T (p + 1)))) (by omega)
      obtain ⟨s3, a3, E3, k3⟩ := want_y D2 h2
      obtain ⟨s4, a4, E4, k4⟩ := digit_y E3 h3
      have D5 := CS_o E4 (j := 5) (v := (nI (dv T (p + 3)))) (by omega)
      have a6 : (stm s4 85 5 (nI (dv T (p + 3)))) 85 3 = 118 := by rw [stm_row, upd_ne _ _ (by omega), k4.2 3 (by omega) (by omega), k3.2 3 (by omega) (by omega), stm_row, upd_ne _ _ (by omega), k1.2 3 (by omega) (by omega), K1.2 3 (by omega) (by omega)]; exact F3
      obtain ⟨s7, a7, E7, k7⟩ := want_n D5 hq (by decide)
      refine ⟨_, ?_, E7, fun i hi => ?_⟩
      · unfold F_X3_readStatement
        rw [en, Option.bind_some, F3, if_neg (show ¬ (118 : Int32) = 100 by decide), if_neg (show ¬ (118 : Int32) = 112 by decide), if_neg (show ¬ (118 : Int32) = 114 by decide), if_neg (show ¬ (118 : Int32) = 117 by decide), if_pos (show (118 : Int32) = 118 from rfl)]
        unfold F_X3_readPair
        rw [a1, bd2_s, a3, Option.bind_some, a4, bd2_s, a6, if_neg (by decide), Option.bind_some, a7, Option.bind_some]
      · rw [k7.1 i hi, stm_ne _ _ _ hi, k4.1 i hi, k3.1 i hi, stm_ne _ _ _ hi, k1.1 i hi, K1.1 i hi, stm_ne _ _ _ hi, stm_ne _ _ _ hi, stm_ne _ _ _ hi, stm_ne _ _ _ hi, stm_ne _ _ _ hi]
    · have en := here_r R
      rw [if_pos hp, hL] at en
      obtain ⟨R0, K0⟩ := RS_t R (v := 0)
      obtain ⟨R1, K1⟩ := RS_at R0 hp
      have t0 : (stm (stm ρ 91 15 0) 91 12 (stm ρ 91 15 0 91 12 + 1)) 91 15 = nI 0 := by rw [stm_row, upd_ne _ _ (by omega), stm_row, upd_at]; rfl
      obtain ⟨r1, b1, R11, L1, u1, t1⟩ := readsD_y R1 h1 (by omega) t0
      obtain ⟨r2, b2, R12, L2, u2, t2⟩ := takes_y R11 h2
      have t2 := t2.trans t1
      obtain ⟨r3, b3, R13, L3, u3, t3⟩ := readsD_y R12 h3 (by omega) t2
      refine ⟨_, ?_, R13, (KF_tr K0 (KF_tr K1 (KF_tr L1 (KF_tr L2 L3))))⟩
      · unfold F_X8_readsStatement
        rw [en, Option.bind_some, if_neg (show ¬ (118 : Int32) = 100 by decide), if_neg (show ¬ (118 : Int32) = 112 by decide), if_neg (show ¬ (118 : Int32) = 114 by decide), if_neg (show ¬ (118 : Int32) = 117 by decide), if_pos (show (118 : Int32) = 118 from rfl), b1, bd2_s, if_neg i10, b2, bd2_s, if_neg i10, b3, bd2_s, if_neg i10, takes_n R13 hq (by decide), bd2_s, if_pos rfl]
  · refine Or.inr ⟨p + 5, 118, dv T (p + 1), dv T (p + 3), 0, 0, ⟨by omega, by have := hq.1; omega, hp, hL, Or.inl ⟨Or.inr (Or.inr (Or.inl rfl)), b1, b2, by omega⟩⟩, fun d σ C => ?_, fun d ρ R => ?_⟩
    · have en := next_c C
      rw [if_pos hp, hL] at en
      have C0 := CS_o (CS_o (CS_o (CS_o (CS_o C (j := 3) (v := 118) (by omega)) (j := 4) (v := 0) (by omega)) (j := 5) (v := 0) (by omega)) (j := 6) (v := 0) (by omega)) (j := 7) (v := 0) (by omega)
      have F3 : (stm (stm (stm (stm (stm σ 85 3 118) 85 4 0) 85 5 0) 85 6 0) 85 7 0) 85 3 = 118 := by simp only [stm_row]; simp (disch := omega) only [upd_ne, upd_at]
      obtain ⟨C1, K1⟩ := CS_at C0 hp
      obtain ⟨s1, a1, E1, k1⟩ := digit_y C1 h1
      have D2 := CS_o E1 (j := 4) (v := (nI (dv T (p + 1)))) (by omega)
      obtain ⟨s3, a3, E3, k3⟩ := want_y D2 h2
      obtain ⟨s4, a4, E4, k4⟩ := digit_y E3 h3
      have D5 := CS_o E4 (j := 5) (v := (nI (dv T (p + 3)))) (by omega)
      have a6 : (stm s4 85 5 (nI (dv T (p + 3)))) 85 3 = 118 := by rw [stm_row, upd_ne _ _ (by omega), k4.2 3 (by omega) (by omega), k3.2 3 (by omega) (by omega), stm_row, upd_ne _ _ (by omega), k1.2 3 (by omega) (by omega), K1.2 3 (by omega) (by omega)]; exact F3
      obtain ⟨s7, a7, E7, k7⟩ := want_y D5 hq
      refine ⟨_, ?_, E7, fun i hi => ?_, ?_, ?_, ?_, ?_, ?_⟩
      · unfold F_X3_readStatement
        rw [en, Option.bind_some, F3, if_neg (show ¬ (118 : Int32) = 100 by decide), if_neg (show ¬ (118 : Int32) = 112 by decide), if_neg (show ¬ (118 : Int32) = 114 by decide), if_neg (show ¬ (118 : Int32) = 117 by decide), if_pos (show (118 : Int32) = 118 from rfl)]
        unfold F_X3_readPair
        rw [a1, bd2_s, a3, Option.bind_some, a4, bd2_s, a6, if_neg (by decide), Option.bind_some, a7, Option.bind_some]
      · rw [k7.1 i hi, stm_ne _ _ _ hi, k4.1 i hi, k3.1 i hi, stm_ne _ _ _ hi, k1.1 i hi, K1.1 i hi, stm_ne _ _ _ hi, stm_ne _ _ _ hi, stm_ne _ _ _ hi, stm_ne _ _ _ hi, stm_ne _ _ _ hi]
      · rw [k7.2 3 (by omega) (by omega), stm_row, upd_ne _ _ (by omega), k4.2 3 (by omega) (by omega), k3.2 3 (by omega) (by omega), stm_row, upd_ne _ _ (by omega), k1.2 3 (by omega) (by omega), K1.2 3 (by omega) (by omega)]; simp only [stm_row]; simp (disch := omega) only [upd_ne, upd_at]
      · rw [k7.2 4 (by omega) (by omega), stm_row, upd_ne _ _ (by omega), k4.2 4 (by omega) (by omega), k3.2 4 (by omega) (by omega), stm_row, upd_at]
      · rw [k7.2 5 (by omega) (by omega), stm_row, upd_at]
      · rw [k7.2 6 (by omega) (by omega), stm_row, upd_ne _ _ (by omega), k4.2 6 (by omega) (by omega), k3.2 6 (by omega) (by omega), stm_row, upd_ne _ _ (by omega), k1.2 6 (by omega) (by omega), K1.2 6 (by omega) (by omega)]; simp only [stm_row]; simp (disch := omega) only [upd_ne, upd_at]; rfl
      · rw [k7.2 7 (by omega) (by omega), stm_row, upd_ne _ _ (by omega), k4.2 7 (by omega) (by omega), k3.2 7 (by omega) (by omega), stm_row, upd_ne _ _ (by omega), k1.2 7 (by omega) (by omega), K1.2 7 (by omega) (by omega)]; simp only [stm_row]; simp (disch := omega) only [upd_ne, upd_at]; rfl
    · have en := here_r R
      rw [if_pos hp, hL] at en
      obtain ⟨R0, K0⟩ := RS_t R (v := 0)
      obtain ⟨R1, K1⟩ := RS_at R0 hp
      have t0 : (stm (stm ρ 91 15 0) 91 12 (stm ρ 91 15 0 91 12 + 1)) 91 15 = nI 0 := by rw [stm_row, upd_ne _ _ (by omega), stm_row, upd_at]; rfl
      obtain ⟨r1, b1, R11, L1, u1, t1⟩ := readsD_y R1 h1 (by omega) t0
      obtain ⟨r2, b2, R12, L2, u2, t2⟩ := takes_y R11 h2
      have t2 := t2.trans t1
      obtain ⟨r3, b3, R13, L3, u3, t3⟩ := readsD_y R12 h3 (by omega) t2
      obtain ⟨r4, b4, R14, L4, u4, t4⟩ := takes_y R13 hq
      have t4 := t4.trans t3
      refine ⟨_, ?_, R14, (KF_tr K0 (KF_tr K1 (KF_tr L1 (KF_tr L2 (KF_tr L3 L4))))), ?_, ?_, ?_, ?_⟩
      · unfold F_X8_readsStatement
        rw [en, Option.bind_some, if_neg (show ¬ (118 : Int32) = 100 by decide), if_neg (show ¬ (118 : Int32) = 112 by decide), if_neg (show ¬ (118 : Int32) = 114 by decide), if_neg (show ¬ (118 : Int32) = 117 by decide), if_pos (show (118 : Int32) = 118 from rfl), b1, bd2_s, if_neg i10, b2, bd2_s, if_neg i10, b3, bd2_s, if_neg i10, b4, bd2_s, if_neg i10]
      · rw [u4, u3, upd_ne _ _ (by omega), u2, u1, upd_at]
      · rw [u4, u3, upd_at]
      · intro q; exact absurd q (by decide)
      · intro q; exact absurd q (by decide)
theorem st_120 (hz : z ≤ 100) (hp : p < z) (hL : T p = 120) : SFAIL T z p ∨ SOK T z p := by
  by_cases h1 : dg T z (p + 1)
  rotate_left
  · refine Or.inl ⟨p + 1, by omega, fun d σ C => ?_, fun d ρ R => ?_⟩
    · have en := next_c C
      rw [if_pos hp, hL] at en
      have C0 := CS_o (CS_o (CS_o (CS_o (CS_o C (j := 3) (v := 120) (by omega)) (j := 4) (v := 0) (by omega)) (j := 5) (v := 0) (by omega)) (j := 6) (v := 0) (by omega)) (j := 7) (v := 0) (by omega)
      have F3 : (stm (stm (stm (stm (stm σ 85 3 120) 85 4 0) 85 5 0) 85 6 0) 85 7 0) 85 3 = 120 := by simp only [stm_row]; simp (disch := omega) only [upd_ne, upd_at]
      obtain ⟨C1, K1⟩ := CS_at C0 hp
      obtain ⟨s1, a1, E1, k1⟩ := digit_n C1 h1
      have D2 := CS_o E1 (j := 4) (v := 0) (by omega)
      obtain ⟨s3, a3, E3, k3⟩ := want_b (s := 32) D2
      obtain ⟨s4, a4, E4, k4⟩ := digit_b E3
      have D5 := CS_o E4 (j := 5) (v := 0) (by omega)
      have a6 : (stm s4 85 5 0) 85 3 = 120 := by rw [stm_row, upd_ne _ _ (by omega), k4.2 3 (by omega) (by omega), k3.2 3 (by omega) (by omega), stm_row, upd_ne _ _ (by omega), k1.2 3 (by omega) (by omega), K1.2 3 (by omega) (by omega)]; exact F3
      obtain ⟨s7, a7, E7, k7⟩ := digit_b D5
      have D8 := CS_o E7 (j := 6) (v := 0) (by omega)
      obtain ⟨s9, a9, E9, k9⟩ := want_b (s := 59) D8
      refine ⟨_, ?_, E9, fun i hi => ?_⟩
      · unfold F_X3_readStatement
        rw [en, Option.bind_some, F3, if_neg (show ¬ (120 : Int32) = 100 by decide), if_neg (show ¬ (120 : Int32) = 112 by decide), if_neg (show ¬ (120 : Int32) = 114 by decide), if_neg (show ¬ (120 : Int32) = 117 by decide), if_neg (show ¬ (120 : Int32) = 118 by decide), if_pos (show (120 : Int32) = 120 from rfl)]
        unfold F_X3_readPair
        rw [a1, bd2_s, a3, Option.bind_some, a4, bd2_s, a6, if_pos rfl, a7, bd2_s, Option.bind_some, a9, Option.bind_some]
      · rw [k9.1 i hi, stm_ne _ _ _ hi, k7.1 i hi, stm_ne _ _ _ hi, k4.1 i hi, k3.1 i hi, stm_ne _ _ _ hi, k1.1 i hi, K1.1 i hi, stm_ne _ _ _ hi, stm_ne _ _ _ hi, stm_ne _ _ _ hi, stm_ne _ _ _ hi, stm_ne _ _ _ hi]
    · have en := here_r R
      rw [if_pos hp, hL] at en
      obtain ⟨R0, K0⟩ := RS_t R (v := 0)
      obtain ⟨R1, K1⟩ := RS_at R0 hp
      have t0 : (stm (stm ρ 91 15 0) 91 12 (stm ρ 91 15 0 91 12 + 1)) 91 15 = nI 0 := by rw [stm_row, upd_ne _ _ (by omega), stm_row, upd_at]; rfl
      refine ⟨_, ?_, R1, (KF_tr K0 K1)⟩
      · unfold F_X8_readsStatement
        rw [en, Option.bind_some, if_neg (show ¬ (120 : Int32) = 100 by decide), if_neg (show ¬ (120 : Int32) = 112 by decide), if_neg (show ¬ (120 : Int32) = 114 by decide), if_neg (show ¬ (120 : Int32) = 117 by decide), if_neg (show ¬ (120 : Int32) = 118 by decide), if_pos (show (120 : Int32) = 120 from rfl), readsD_n R1 h1, bd2_s, if_pos rfl]
  have b1 := (dv_e h1).2.1
  by_cases h2 : sg T z (p + 2) 32
  rotate_left
  · refine Or.inl ⟨p + 2, by omega, fun d σ C => ?_, fun d ρ R => ?_⟩
    · have en := next_c C
      rw [if_pos hp, hL] at en
      have C0 := CS_o (CS_o (CS_o (CS_o (CS_o C (j := 3) (v := 120) (by omega)) (j := 4) (v := 0) (by omega)) (j := 5) (v := 0) (by omega)) (j := 6) (v := 0) (by omega)) (j := 7) (v := 0) (by omega)
      have F3 : (stm (stm (stm (stm (stm σ 85 3 120) 85 4 0) 85 5 0) 85 6 0) 85 7 0) 85 3 = 120 := by simp only [stm_row]; simp (disch := omega) only [upd_ne, upd_at]
      obtain ⟨C1, K1⟩ := CS_at C0 hp
      obtain ⟨s1, a1, E1, k1⟩ := digit_y C1 h1
      have D2 := CS_o E1 (j := 4) (v := (nI (dv T (p + 1)))) (by omega)
      obtain ⟨s3, a3, E3, k3⟩ := want_n D2 h2 (by decide)
      obtain ⟨s4, a4, E4, k4⟩ := digit_b E3
      have D5 := CS_o E4 (j := 5) (v := 0) (by omega)
      have a6 : (stm s4 85 5 0) 85 3 = 120 := by rw [stm_row, upd_ne _ _ (by omega), k4.2 3 (by omega) (by omega), k3.2 3 (by omega) (by omega), stm_row, upd_ne _ _ (by omega), k1.2 3 (by omega) (by omega), K1.2 3 (by omega) (by omega)]; exact F3
      obtain ⟨s7, a7, E7, k7⟩ := digit_b D5
      have D8 := CS_o E7 (j := 6) (v := 0) (by omega)
      obtain ⟨s9, a9, E9, k9⟩ := want_b (s := 59) D8
      refine ⟨_, ?_, E9, fun i hi => ?_⟩
      · unfold F_X3_readStatement
        rw [en, Option.bind_some, F3, if_neg (show ¬ (120 : Int32) = 100 by decide), if_neg (show ¬ (120 : Int32) = 112 by decide), if_neg (show ¬ (120 : Int32) = 114 by decide), if_neg (show ¬ (120 : Int32) = 117 by decide), if_neg (show ¬ (120 : Int32) = 118 by decide), if_pos (show (120 : Int32) = 120 from rfl)]
        unfold F_X3_readPair
        rw [a1, bd2_s, a3, Option.bind_some, a4, bd2_s, a6, if_pos rfl, a7, bd2_s, Option.bind_some, a9, Option.bind_some]
      · rw [k9.1 i hi, stm_ne _ _ _ hi, k7.1 i hi, stm_ne _ _ _ hi, k4.1 i hi, k3.1 i hi, stm_ne _ _ _ hi, k1.1 i hi, K1.1 i hi, stm_ne _ _ _ hi, stm_ne _ _ _ hi, stm_ne _ _ _ hi, stm_ne _ _ _ hi, stm_ne _ _ _ hi]
    · have en := here_r R
      rw [if_pos hp, hL] at en
      obtain ⟨R0, K0⟩ := RS_t R (v := 0)
      obtain ⟨R1, K1⟩ := RS_at R0 hp
      have t0 : (stm (stm ρ 91 15 0) 91 12 (stm ρ 91 15 0 91 12 + 1)) 91 15 = nI 0 := by rw [stm_row, upd_ne _ _ (by omega), stm_row, upd_at]; rfl
      obtain ⟨r1, b1, R11, L1, u1, t1⟩ := readsD_y R1 h1 (by omega) t0
      refine ⟨_, ?_, R11, (KF_tr K0 (KF_tr K1 L1))⟩
      · unfold F_X8_readsStatement
        rw [en, Option.bind_some, if_neg (show ¬ (120 : Int32) = 100 by decide), if_neg (show ¬ (120 : Int32) = 112 by decide), if_neg (show ¬ (120 : Int32) = 114 by decide), if_neg (show ¬ (120 : Int32) = 117 by decide), if_neg (show ¬ (120 : Int32) = 118 by decide), if_pos (show (120 : Int32) = 120 from rfl), b1, bd2_s, if_neg i10, takes_n R11 h2 (by decide), bd2_s, if_pos rfl]
  by_cases h3 : dg T z (p + 3)
  rotate_left
  · refine Or.inl ⟨p + 3, by omega, fun d σ C => ?_, fun d ρ R => ?_⟩
    · have en := next_c C
      rw [if_pos hp, hL] at en
      have C0 := CS_o (CS_o (CS_o (CS_o (CS_o C (j := 3) (v := 120) (by omega)) (j := 4) (v := 0) (by omega)) (j := 5) (v := 0) (by omega)) (j := 6) (v := 0) (by omega)) (j := 7) (v := 0) (by omega)
      have F3 : (stm (stm (stm (stm (stm σ 85 3 120) 85 4 0) 85 5 0) 85 6 0) 85 7 0) 85 3 = 120 := by simp only [stm_row]; simp (disch := omega) only [upd_ne, upd_at]
      obtain ⟨C1, K1⟩ := CS_at C0 hp
      obtain ⟨s1, a1, E1, k1⟩ := digit_y C1 h1
      have D2 := CS_o E1 (j := 4) (v := (nI (dv T (p + 1)))) (by omega)
      obtain ⟨s3, a3, E3, k3⟩ := want_y D2 h2
      obtain ⟨s4, a4, E4, k4⟩ := digit_n E3 h3
      have D5 := CS_o E4 (j := 5) (v := 0) (by omega)
      have a6 : (stm s4 85 5 0) 85 3 = 120 := by rw [stm_row, upd_ne _ _ (by omega), k4.2 3 (by omega) (by omega), k3.2 3 (by omega) (by omega), stm_row, upd_ne _ _ (by omega), k1.2 3 (by omega) (by omega), K1.2 3 (by omega) (by omega)]; exact F3
      obtain ⟨s7, a7, E7, k7⟩ := digit_b D5
      have D8 := CS_o E7 (j := 6) (v := 0) (by omega)
      obtain ⟨s9, a9, E9, k9⟩ := want_b (s := 59) D8
      refine ⟨_, ?_, E9, fun i hi => ?_⟩
      · unfold F_X3_readStatement
        rw [en, Option.bind_some, F3, if_neg (show ¬ (120 : Int32) = 100 by decide), if_neg (show ¬ (120 : Int32) = 112 by decide), if_neg (show ¬ (120 : Int32) = 114 by decide), if_neg (show ¬ (120 : Int32) = 117 by decide), if_neg (show ¬ (120 : Int32) = 118 by decide), if_pos (show (120 : Int32) = 120 from rfl)]
        unfold F_X3_readPair
        rw [a1, bd2_s, a3, Option.bind_some, a4, bd2_s, a6, if_pos rfl, a7, bd2_s, Option.bind_some, a9, Option.bind_some]
      · rw [k9.1 i hi, stm_ne _ _ _ hi, k7.1 i hi, stm_ne _ _ _ hi, k4.1 i hi, k3.1 i hi, stm_ne _ _ _ hi, k1.1 i hi, K1.1 i hi, stm_ne _ _ _ hi, stm_ne _ _ _ hi, stm_ne _ _ _ hi, stm_ne _ _ _ hi, stm_ne _ _ _ hi]
    · have en := here_r R
      rw [if_pos hp, hL] at en
      obtain ⟨R0, K0⟩ := RS_t R (v := 0)
      obtain ⟨R1, K1⟩ := RS_at R0 hp
      have t0 : (stm (stm ρ 91 15 0) 91 12 (stm ρ 91 15 0 91 12 + 1)) 91 15 = nI 0 := by rw [stm_row, upd_ne _ _ (by omega), stm_row, upd_at]; rfl
      obtain ⟨r1, b1, R11, L1, u1, t1⟩ := readsD_y R1 h1 (by omega) t0
      obtain ⟨r2, b2, R12, L2, u2, t2⟩ := takes_y R11 h2
      have t2 := t2.trans t1
      refine ⟨_, ?_, R12, (KF_tr K0 (KF_tr K1 (KF_tr L1 L2)))⟩
      · unfold F_X8_readsStatement
        rw [en, Option.bind_some, if_neg (show ¬ (120 : Int32) = 100 by decide), if_neg (show ¬ (120 : Int32) = 112 by decide), if_neg (show ¬ (120 : Int32) = 114 by decide), if_neg (show ¬ (120 : Int32) = 117 by decide), if_neg (show ¬ (120 : Int32) = 118 by decide), if_pos (show (120 : Int32) = 120 from rfl), b1, bd2_s, if_neg i10, b2, bd2_s, if_neg i10, readsD_n R12 h3, bd2_s, if_pos rfl]
  have b2 := (dv_e h3).2.1
  by_cases h4 : dg T z (p + 4)
  rotate_left
  · refine Or.inl ⟨p + 4, by omega, fun d σ C => ?_, fun d ρ R => ?_⟩
    · have en := next_c C
      rw [if_pos hp, hL] at en
      have C0 := CS_o (CS_o (CS_o (CS_o (CS_o C (j := 3) (v := 120) (by omega)) (j := 4) (v := 0) (by omega)) (j := 5) (v := 0) (by omega)) (j := 6) (v := 0) (by omega)) (j := 7) (v := 0) (by omega)
      have F3 : (stm (stm (stm (stm (stm σ 85 3 120) 85 4 0) 85 5 0) 85 6 0) 85 7 0) 85 3 = 120 := by simp only [stm_row]; simp (disch := omega) only [upd_ne, upd_at]
      obtain ⟨C1, K1⟩ := CS_at C0 hp
      obtain ⟨s1, a1, E1, k1⟩ := digit_y C1 h1
      have D2 := CS_o E1 (j := 4) (v := (nI (dv T (p + 1)))) (by omega)
      obtain ⟨s3, a3, E3, k3⟩ := want_y D2 h2
      obtain ⟨s4, a4, E4, k4⟩ := digit_y E3 h3
      have D5 := CS_o E4 (j := 5) (v := (nI (dv T (p + 3)))) (by omega)
      have a6 : (stm s4 85 5 (nI (dv T (p + 3)))) 85 3 = 120 := by rw [stm_row, upd_ne _ _ (by omega), k4.2 3 (by omega) (by omega), k3.2 3 (by omega) (by omega), stm_row, upd_ne _ _ (by omega), k1.2 3 (by omega) (by omega), K1.2 3 (by omega) (by omega)]; exact F3
      obtain ⟨s7, a7, E7, k7⟩ := digit_n D5 h4
      have D8 := CS_o E7 (j := 6) (v := 0) (by omega)
      obtain ⟨s9, a9, E9, k9⟩ := want_b (s := 59) D8
      refine ⟨_, ?_, E9, fun i hi => ?_⟩
      · unfold F_X3_readStatement
        rw [en, Option.bind_some, F3, if_neg (show ¬ (120 : Int32) = 100 by decide), if_neg (show ¬ (120 : Int32) = 112 by decide), if_neg (show ¬ (120 : Int32) = 114 by decide), if_neg (show ¬ (120 : Int32) = 117 by decide), if_neg (show ¬ (120 : Int32) = 118 by decide), if_pos (show (120 : Int32) = 120 from rfl)]
        unfold F_X3_readPair
        rw [a1, bd2_s, a3, Option.bind_some, a4, bd2_s, a6, if_pos rfl, a7, bd2_s, Option.bind_some, a9, Option.bind_some]
      · rw [k9.1 i hi, stm_ne _ _ _ hi, k7.1 i hi, stm_ne _ _ _ hi, k4.1 i hi, k3.1 i hi, stm_ne _ _ _ hi, k1.1 i hi, K1.1 i hi, stm_ne _ _ _ hi, stm_ne _ _ _ hi, stm_ne _ _ _ hi, stm_ne _ _ _ hi, stm_ne _ _ _ hi]
    · have en := here_r R
      rw [if_pos hp, hL] at en
      obtain ⟨R0, K0⟩ := RS_t R (v := 0)
      obtain ⟨R1, K1⟩ := RS_at R0 hp
      have t0 : (stm (stm ρ 91 15 0) 91 12 (stm ρ 91 15 0 91 12 + 1)) 91 15 = nI 0 := by rw [stm_row, upd_ne _ _ (by omega), stm_row, upd_at]; rfl
      obtain ⟨r1, b1, R11, L1, u1, t1⟩ := readsD_y R1 h1 (by omega) t0
      obtain ⟨r2, b2, R12, L2, u2, t2⟩ := takes_y R11 h2
      have t2 := t2.trans t1
      obtain ⟨r3, b3, R13, L3, u3, t3⟩ := readsD_y R12 h3 (by omega) t2
      refine ⟨_, ?_, R13, (KF_tr K0 (KF_tr K1 (KF_tr L1 (KF_tr L2 L3))))⟩
      · unfold F_X8_readsStatement
        rw [en, Option.bind_some, if_neg (show ¬ (120 : Int32) = 100 by decide), if_neg (show ¬ (120 : Int32) = 112 by decide), if_neg (show ¬ (120 : Int32) = 114 by decide), if_neg (show ¬ (120 : Int32) = 117 by decide), if_neg (show ¬ (120 : Int32) = 118 by decide), if_pos (show (120 : Int32) = 120 from rfl), b1, bd2_s, if_neg i10, b2, bd2_s, if_neg i10, b3, bd2_s, if_neg i10, readsD_n R13 h4, bd2_s, if_pos rfl]
  have b3 := (dv_e h4).2.1
  by_cases hq : sg T z (p + 5) 59
  rotate_left
  · refine Or.inl ⟨p + 5, by omega, fun d σ C => ?_, fun d ρ R => ?_⟩
    · have en := next_c C
      rw [if_pos hp, hL] at en
      have C0 := CS_o (CS_o (CS_o (CS_o (CS_o C (j := 3) (v := 120) (by omega)) (j := 4) (v := 0) (by omega)) (j := 5) (v := 0) (by omega)) (j := 6) (v := 0) (by omega)) (j := 7) (v := 0) (by omega)
      have F3 : (stm (stm (stm (stm (stm σ 85 3 120) 85 4 0) 85 5 0) 85 6 0) 85 7 0) 85 3 = 120 := by simp only [stm_row]; simp (disch := omega) only [upd_ne, upd_at]
      obtain ⟨C1, K1⟩ := CS_at C0 hp
      obtain ⟨s1, a1, E1, k1⟩ := digit_y C1 h1
      have D2 := CS_o E1 (j := 4) (v := (nI (dv T (p + 1)))) (by omega)
      obtain ⟨s3, a3, E3, k3⟩ := want_y D2 h2
      obtain ⟨s4, a4, E4, k4⟩ := digit_y E3 h3
      have D5 := CS_o E4 (j := 5) (v := (nI (dv T (p + 3)))) (by omega)
      have a6 : (stm s4 85 5 (nI (dv T (p + 3)))) 85 3 = 120 := by rw [stm_row, upd_ne _ _ (by omega), k4.2 3 (by omega) (by omega), k3.2 3 (by omega) (by omega), stm_row, upd_ne _ _ (by omega), k1.2 3 (by omega) (by omega), K1.2 3 (by omega) (by omega)]; exact F3
      obtain ⟨s7, a7, E7, k7⟩ := digit_y D5 h4
      have D8 := CS_o E7 (j := 6) (v := (nI (dv T (p + 4)))) (by omega)
      obtain ⟨s9, a9, E9, k9⟩ := want_n D8 hq (by decide)
      refine ⟨_, ?_, E9, fun i hi => ?_⟩
      · unfold F_X3_readStatement
        rw [en, Option.bind_some, F3, if_neg (show ¬ (120 : Int32) = 100 by decide), if_neg (show ¬ (120 : Int32) = 112 by decide), if_neg (show ¬ (120 : Int32) = 114 by decide), if_neg (show ¬ (120 : Int32) = 117 by decide), if_neg (show ¬ (120 : Int32) = 118 by decide), if_pos (show (120 : Int32) = 120 from rfl)]
        unfold F_X3_readPair
        rw [a1, bd2_s, a3, Option.bind_some, a4, bd2_s, a6, if_pos rfl, a7, bd2_s, Option.bind_some, a9, Option.bind_some]
      · rw [k9.1 i hi, stm_ne _ _ _ hi, k7.1 i hi, stm_ne _ _ _ hi, k4.1 i hi, k3.1 i hi, stm_ne _ _ _ hi, k1.1 i hi, K1.1 i hi, stm_ne _ _ _ hi, stm_ne _ _ _ hi, stm_ne _ _ _ hi, stm_ne _ _ _ hi, stm_ne _ _ _ hi]
    · have en := here_r R
      rw [if_pos hp, hL] at en
      obtain ⟨R0, K0⟩ := RS_t R (v := 0)
      obtain ⟨R1, K1⟩ := RS_at R0 hp
      have t0 : (stm (stm ρ 91 15 0) 91 12 (stm ρ 91 15 0 91 12 + 1)) 91 15 = nI 0 := by rw [stm_row, upd_ne _ _ (by omega), stm_row, upd_at]; rfl
      obtain ⟨r1, b1, R11, L1, u1, t1⟩ := readsD_y R1 h1 (by omega) t0
      obtain ⟨r2, b2, R12, L2, u2, t2⟩ := takes_y R11 h2
      have t2 := t2.trans t1
      obtain ⟨r3, b3, R13, L3, u3, t3⟩ := readsD_y R12 h3 (by omega) t2
      obtain ⟨r4, b4, R14, L4, u4, t4⟩ := readsD_y R13 h4 (by omega) t3
      refine ⟨_, ?_, R14, (KF_tr K0 (KF_tr K1 (KF_tr L1 (KF_tr L2 (KF_tr L3 L4)))))⟩
      · unfold F_X8_readsStatement
        rw [en, Option.bind_some, if_neg (show ¬ (120 : Int32) = 100 by decide), if_neg (show ¬ (120 : Int32) = 112 by decide), if_neg (show ¬ (120 : Int32) = 114 by decide), if_neg (show ¬ (120 : Int32) = 117 by decide), if_neg (show ¬ (120 : Int32) = 118 by decide), if_pos (show (120 : Int32) = 120 from rfl), b1, bd2_s, if_neg i10, b2, bd2_s, if_neg i10, b3, bd2_s, if_neg i10, b4, bd2_s, if_neg i10, takes_n R14 hq (by decide), bd2_s, if_pos rfl]
  · refine Or.inr ⟨p + 6, 120, dv T (p + 1), dv T (p + 3), dv T (p + 4), 0, ⟨by omega, by have := hq.1; omega, hp, hL, Or.inl ⟨Or.inr (Or.inr (Or.inr rfl)), b1, b2, b3⟩⟩, fun d σ C => ?_, fun d ρ R => ?_⟩
    · have en := next_c C
      rw [if_pos hp, hL] at en
      have C0 := CS_o (CS_o (CS_o (CS_o (CS_o C (j := 3) (v := 120) (by omega)) (j := 4) (v := 0) (by omega)) (j := 5) (v := 0) (by omega)) (j := 6) (v := 0) (by omega)) (j := 7) (v := 0) (by omega)
      have F3 : (stm (stm (stm (stm (stm σ 85 3 120) 85 4 0) 85 5 0) 85 6 0) 85 7 0) 85 3 = 120 := by simp only [stm_row]; simp (disch := omega) only [upd_ne, upd_at]
      obtain ⟨C1, K1⟩ := CS_at C0 hp
      obtain ⟨s1, a1, E1, k1⟩ := digit_y C1 h1
      have D2 := CS_o E1 (j := 4) (v := (nI (dv T (p + 1)))) (by omega)
      obtain ⟨s3, a3, E3, k3⟩ := want_y D2 h2
      obtain ⟨s4, a4, E4, k4⟩ := digit_y E3 h3
      have D5 := CS_o E4 (j := 5) (v := (nI (dv T (p + 3)))) (by omega)
      have a6 : (stm s4 85 5 (nI (dv T (p + 3)))) 85 3 = 120 := by rw [stm_row, upd_ne _ _ (by omega), k4.2 3 (by omega) (by omega), k3.2 3 (by omega) (by omega), stm_row, upd_ne _ _ (by omega), k1.2 3 (by omega) (by omega), K1.2 3 (by omega) (by omega)]; exact F3
      obtain ⟨s7, a7, E7, k7⟩ := digit_y D5 h4
      have D8 := CS_o E7 (j := 6) (v := (nI (dv T (p + 4)))) (by omega)
      obtain ⟨s9, a9, E9, k9⟩ := want_y D8 hq
      refine ⟨_, ?_, E9, fun i hi => ?_, ?_, ?_, ?_, ?_, ?_⟩
      · unfold F_X3_readStatement
        rw [en, Option.bind_some, F3, if_neg (show ¬ (120 : Int32) = 100 by decide), if_neg (show ¬ (120 : Int32) = 112 by decide), if_neg (show ¬ (120 : Int32) = 114 by decide), if_neg (show ¬ (120 : Int32) = 117 by decide), if_neg (show ¬ (120 : Int32) = 118 by decide), if_pos (show (120 : Int32) = 120 from rfl)]
        unfold F_X3_readPair
        rw [a1, bd2_s, a3, Option.bind_some, a4, bd2_s, a6, if_pos rfl, a7, bd2_s, Option.bind_some, a9, Option.bind_some]
      · rw [k9.1 i hi, stm_ne _ _ _ hi, k7.1 i hi, stm_ne _ _ _ hi, k4.1 i hi, k3.1 i hi, stm_ne _ _ _ hi, k1.1 i hi, K1.1 i hi, stm_ne _ _ _ hi, stm_ne _ _ _ hi, stm_ne _ _ _ hi, stm_ne _ _ _ hi, stm_ne _ _ _ hi]
      · rw [k9.2 3 (by omega) (by omega), stm_row, upd_ne _ _ (by omega), k7.2 3 (by omega) (by omega), stm_row, upd_ne _ _ (by omega), k4.2 3 (by omega) (by omega), k3.2 3 (by omega) (by omega), stm_row, upd_ne _ _ (by omega), k1.2 3 (by omega) (by omega), K1.2 3 (by omega) (by omega)]; simp only [stm_row]; simp (disch := omega) only [upd_ne, upd_at]
      · rw [k9.2 4 (by omega) (by omega), stm_row, upd_ne _ _ (by omega), k7.2 4 (by omega) (by omega), stm_row, upd_ne _ _ (by omega), k4.2 4 (by omega) (by omega), k3.2 4 (by omega) (by omega), stm_row, upd_at]
      · rw [k9.2 5 (by omega) (by omega), stm_row, upd_ne _ _ (by omega), k7.2 5 (by omega) (by omega), stm_row, upd_at]
      · rw [k9.2 6 (by omega) (by omega), stm_row, upd_at]
      · rw [k9.2 7 (by omega) (by omega), stm_row, upd_ne _ _ (by omega), k7.2 7 (by omega) (by omega), stm_row, upd_ne _ _ (by omega), k4.2 7 (by omega) (by omega), k3.2 7 (by omega) (by omega), stm_row, upd_ne _ _ (by omega), k1.2 7 (by omega) (by omega), K1.2 7 (by omega) (by omega)]; simp only [stm_row]; simp (disch := omega) only [upd_ne, upd_at]; rfl
    · have en := here_r R
      rw [if_pos hp, hL] at en
      obtain ⟨R0, K0⟩ := RS_t R (v := 0)
      obtain ⟨R1, K1⟩ := RS_at R0 hp
      have t0 : (stm (stm ρ 91 15 0) 91 12 (stm ρ 91 15 0 91 12 + 1)) 91 15 = nI 0 := by rw [stm_row, upd_ne _ _ (by omega), stm_row, upd_at]; rfl
      obtain ⟨r1, b1, R11, L1, u1, t1⟩ := readsD_y R1 h1 (by omega) t0
      obtain ⟨r2, b2, R12, L2, u2, t2⟩ := takes_y R11 h2
      have t2 := t2.trans t1
      obtain ⟨r3, b3, R13, L3, u3, t3⟩ := readsD_y R12 h3 (by omega) t2
      obtain ⟨r4, b4, R14, L4, u4, t4⟩ := readsD_y R13 h4 (by omega) t3
      obtain ⟨r5, b5, R15, L5, u5, t5⟩ := takes_y R14 hq
      have t5 := t5.trans t4
      refine ⟨_, ?_, R15, (KF_tr K0 (KF_tr K1 (KF_tr L1 (KF_tr L2 (KF_tr L3 (KF_tr L4 L5)))))), ?_, ?_, ?_, ?_⟩
      · unfold F_X8_readsStatement
        rw [en, Option.bind_some, if_neg (show ¬ (120 : Int32) = 100 by decide), if_neg (show ¬ (120 : Int32) = 112 by decide), if_neg (show ¬ (120 : Int32) = 114 by decide), if_neg (show ¬ (120 : Int32) = 117 by decide), if_neg (show ¬ (120 : Int32) = 118 by decide), if_pos (show (120 : Int32) = 120 from rfl), b1, bd2_s, if_neg i10, b2, bd2_s, if_neg i10, b3, bd2_s, if_neg i10, b4, bd2_s, if_neg i10, b5, bd2_s, if_neg i10]
      · rw [u5, u4, upd_ne _ _ (by omega), u3, upd_ne _ _ (by omega), u2, u1, upd_at]
      · rw [u5, u4, upd_ne _ _ (by omega), u3, upd_at]
      · intro _; rw [u5, u4, upd_at]
      · intro q; exact absurd q (by decide)
theorem st_117 (hz : z ≤ 100) (hp : p < z) (hL : T p = 117) : SFAIL T z p ∨ SOK T z p := by
  by_cases h1 : dg T z (p + 1)
  rotate_left
  · refine Or.inl ⟨p + 1, by omega, fun d σ C => ?_, fun d ρ R => ?_⟩
    · have en := next_c C
      rw [if_pos hp, hL] at en
      have C0 := CS_o (CS_o (CS_o (CS_o (CS_o C (j := 3) (v := 117) (by omega)) (j := 4) (v := 0) (by omega)) (j := 5) (v := 0) (by omega)) (j := 6) (v := 0) (by omega)) (j := 7) (v := 0) (by omega)
      have F3 : (stm (stm (stm (stm (stm σ 85 3 117) 85 4 0) 85 5 0) 85 6 0) 85 7 0) 85 3 = 117 := by simp only [stm_row]; simp (disch := omega) only [upd_ne, upd_at]
      obtain ⟨C1, K1⟩ := CS_at C0 hp
      obtain ⟨s1, a1, E1, k1⟩ := numb_n C1 h1
      have D2 := CS_o E1 (j := 4) (v := 0) (by omega)
      obtain ⟨s3, a3, E3, k3⟩ := want_b (s := 32) D2
      obtain ⟨s4, a4, E4, k4⟩ := digit_b E3
      have D5 := CS_o E4 (j := 5) (v := 0) (by omega)
      have a6 := skips_b (s := 108) D5
      have D7 := CS_o D5 (j := 7) (v := 0) (by omega)
      have a8 := skips_b (s := 119) D7
      obtain ⟨s9, a9, E9, k9⟩ := want_b (s := 59) D7
      refine ⟨_, ?_, E9, fun i hi => ?_⟩
      · unfold F_X3_readStatement
        rw [en, Option.bind_some, F3, if_neg (show ¬ (117 : Int32) = 100 by decide), if_neg (show ¬ (117 : Int32) = 112 by decide), if_neg (show ¬ (117 : Int32) = 114 by decide), if_pos (show (117 : Int32) = 117 from rfl)]
        unfold F_X3_readCart
        rw [a1, bd2_s, a3, Option.bind_some, a4, bd2_s, a6, bd2_s, ck_t _ (by decide), a8, bd2_s, if_pos rfl, Option.bind_some, a9, Option.bind_some]
      · rw [k9.1 i hi, stm_ne _ _ _ hi, stm_ne _ _ _ hi, k4.1 i hi, k3.1 i hi, stm_ne _ _ _ hi, k1.1 i hi, K1.1 i hi, stm_ne _ _ _ hi, stm_ne _ _ _ hi, stm_ne _ _ _ hi, stm_ne _ _ _ hi, stm_ne _ _ _ hi]
    · have en := here_r R
      rw [if_pos hp, hL] at en
      obtain ⟨R0, K0⟩ := RS_t R (v := 0)
      obtain ⟨R1, K1⟩ := RS_at R0 hp
      have t0 : (stm (stm ρ 91 15 0) 91 12 (stm ρ 91 15 0 91 12 + 1)) 91 15 = nI 0 := by rw [stm_row, upd_ne _ _ (by omega), stm_row, upd_at]; rfl
      refine ⟨_, ?_, R1, (KF_tr K0 K1)⟩
      · unfold F_X8_readsStatement
        rw [en, Option.bind_some, if_neg (show ¬ (117 : Int32) = 100 by decide), if_neg (show ¬ (117 : Int32) = 112 by decide), if_neg (show ¬ (117 : Int32) = 114 by decide), if_pos (show (117 : Int32) = 117 from rfl), numb_rn R1 h1, bd2_s, if_pos rfl]
  obtain ⟨q1, va, l1, m1, b1, cl1, rf1⟩ := numb h1 hz
  by_cases h2 : sg T z q1 32
  rotate_left
  · refine Or.inl ⟨q1, by omega, fun d σ C => ?_, fun d ρ R => ?_⟩
    · have en := next_c C
      rw [if_pos hp, hL] at en
      have C0 := CS_o (CS_o (CS_o (CS_o (CS_o C (j := 3) (v := 117) (by omega)) (j := 4) (v := 0) (by omega)) (j := 5) (v := 0) (by omega)) (j := 6) (v := 0) (by omega)) (j := 7) (v := 0) (by omega)
      have F3 : (stm (stm (stm (stm (stm σ 85 3 117) 85 4 0) 85 5 0) 85 6 0) 85 7 0) 85 3 = 117 := by simp only [stm_row]; simp (disch := omega) only [upd_ne, upd_at]
      obtain ⟨C1, K1⟩ := CS_at C0 hp
      obtain ⟨s1, a1, E1, k1⟩ := cl1 d _ C1
      have D2 := CS_o E1 (j := 4) (v := (nI va)) (by omega)
      obtain ⟨s3, a3, E3, k3⟩ := want_n D2 h2 (by decide)
      obtain ⟨s4, a4, E4, k4⟩ := digit_b E3
      have D5 := CS_o E4 (j := 5) (v := 0) (by omega)
      have a6 := skips_b (s := 108) D5
      have D7 := CS_o D5 (j := 7) (v := 0) (by omega)
      have a8 := skips_b (s := 119) D7
      obtain ⟨s9, a9, E9, k9⟩ := want_b (s := 59) D7
      refine ⟨_, ?_, E9, fun i hi => ?_⟩
      · unfold F_X3_readStatement
        rw [en, Option.bind_some, F3, if_neg (show ¬ (117 : Int32) = 100 by decide), if_neg (show ¬ (117 : Int32) = 112 by decide), if_neg (show ¬ (117 : Int32) = 114 by decide), if_pos (show (117 : Int32) = 117 from rfl)]
        unfold F_X3_readCart
        rw [a1, bd2_s, a3, Option.bind_some, a4, bd2_s, a6, bd2_s, ck_t _ (by decide), a8, bd2_s, if_pos rfl, Option.bind_some, a9, Option.bind_some]
      · rw [k9.1 i hi, stm_ne _ _ _ hi, stm_ne _ _ _ hi, k4.1 i hi, k3.1 i hi, stm_ne _ _ _ hi, k1.1 i hi, K1.1 i hi, stm_ne _ _ _ hi, stm_ne _ _ _ hi, stm_ne _ _ _ hi, stm_ne _ _ _ hi, stm_ne _ _ _ hi]
    · have en := here_r R
      rw [if_pos hp, hL] at en
      obtain ⟨R0, K0⟩ := RS_t R (v := 0)
      obtain ⟨R1, K1⟩ := RS_at R0 hp
      have t0 : (stm (stm ρ 91 15 0) 91 12 (stm ρ 91 15 0 91 12 + 1)) 91 15 = nI 0 := by rw [stm_row, upd_ne _ _ (by omega), stm_row, upd_at]; rfl
      obtain ⟨r1, b1, R11, L1, u1, t1⟩ := rf1 d _ 0 (by omega) R1 t0
      refine ⟨_, ?_, R11, (KF_tr K0 (KF_tr K1 L1))⟩
      · unfold F_X8_readsStatement
        rw [en, Option.bind_some, if_neg (show ¬ (117 : Int32) = 100 by decide), if_neg (show ¬ (117 : Int32) = 112 by decide), if_neg (show ¬ (117 : Int32) = 114 by decide), if_pos (show (117 : Int32) = 117 from rfl), b1, bd2_s, if_neg i10, takes_n R11 h2 (by decide), bd2_s, if_pos rfl]
  by_cases h3 : dg T z (q1 + 1)
  rotate_left
  · refine Or.inl ⟨q1 + 1, by omega, fun d σ C => ?_, fun d ρ R => ?_⟩
    · have en := next_c C
      rw [if_pos hp, hL] at en
      have C0 := CS_o (CS_o (CS_o (CS_o (CS_o C (j := 3) (v := 117) (by omega)) (j := 4) (v := 0) (by omega)) (j := 5) (v := 0) (by omega)) (j := 6) (v := 0) (by omega)) (j := 7) (v := 0) (by omega)
      have F3 : (stm (stm (stm (stm (stm σ 85 3 117) 85 4 0) 85 5 0) 85 6 0) 85 7 0) 85 3 = 117 := by simp only [stm_row]; simp (disch := omega) only [upd_ne, upd_at]
      obtain ⟨C1, K1⟩ := CS_at C0 hp
      obtain ⟨s1, a1, E1, k1⟩ := cl1 d _ C1
      have D2 := CS_o E1 (j := 4) (v := (nI va)) (by omega)
      obtain ⟨s3, a3, E3, k3⟩ := want_y D2 h2
      obtain ⟨s4, a4, E4, k4⟩ := digit_n E3 h3
      have D5 := CS_o E4 (j := 5) (v := 0) (by omega)
      have a6 := skips_b (s := 108) D5
      have D7 := CS_o D5 (j := 7) (v := 0) (by omega)
      have a8 := skips_b (s := 119) D7
      obtain ⟨s9, a9, E9, k9⟩ := want_b (s := 59) D7
      refine ⟨_, ?_, E9, fun i hi => ?_⟩
      · unfold F_X3_readStatement
        rw [en, Option.bind_some, F3, if_neg (show ¬ (117 : Int32) = 100 by decide), if_neg (show ¬ (117 : Int32) = 112 by decide), if_neg (show ¬ (117 : Int32) = 114 by decide), if_pos (show (117 : Int32) = 117 from rfl)]
        unfold F_X3_readCart
        rw [a1, bd2_s, a3, Option.bind_some, a4, bd2_s, a6, bd2_s, ck_t _ (by decide), a8, bd2_s, if_pos rfl, Option.bind_some, a9, Option.bind_some]
      · rw [k9.1 i hi, stm_ne _ _ _ hi, stm_ne _ _ _ hi, k4.1 i hi, k3.1 i hi, stm_ne _ _ _ hi, k1.1 i hi, K1.1 i hi, stm_ne _ _ _ hi, stm_ne _ _ _ hi, stm_ne _ _ _ hi, stm_ne _ _ _ hi, stm_ne _ _ _ hi]
    · have en := here_r R
      rw [if_pos hp, hL] at en
      obtain ⟨R0, K0⟩ := RS_t R (v := 0)
      obtain ⟨R1, K1⟩ := RS_at R0 hp
      have t0 : (stm (stm ρ 91 15 0) 91 12 (stm ρ 91 15 0 91 12 + 1)) 91 15 = nI 0 := by rw [stm_row, upd_ne _ _ (by omega), stm_row, upd_at]; rfl
      obtain ⟨r1, b1, R11, L1, u1, t1⟩ := rf1 d _ 0 (by omega) R1 t0
      obtain ⟨r2, b2, R12, L2, u2, t2⟩ := takes_y R11 h2
      have t2 := t2.trans t1
      refine ⟨_, ?_, R12, (KF_tr K0 (KF_tr K1 (KF_tr L1 L2)))⟩
      · unfold F_X8_readsStatement
        rw [en, Option.bind_some, if_neg (show ¬ (117 : Int32) = 100 by decide), if_neg (show ¬ (117 : Int32) = 112 by decide), if_neg (show ¬ (117 : Int32) = 114 by decide), if_pos (show (117 : Int32) = 117 from rfl), b1, bd2_s, if_neg i10, b2, bd2_s, if_neg i10, readsD_n R12 h3, bd2_s, if_pos rfl]
  have b2 := (dv_e h3).2.1
  by_cases h4 : sg T z (q1 + 2) 108
  · by_cases h5 : sg T z (q1 + 3) 119
    · by_cases h6 : dg T z (q1 + 4)
      rotate_left
      · refine Or.inl ⟨q1 + 4, by omega, fun d σ C => ?_, fun d ρ R => ?_⟩
        · have en := next_c C
          rw [if_pos hp, hL] at en
          have C0 := CS_o (CS_o (CS_o (CS_o (CS_o C (j := 3) (v := 117) (by omega)) (j := 4) (v := 0) (by omega)) (j := 5) (v := 0) (by omega)) (j := 6) (v := 0) (by omega)) (j := 7) (v := 0) (by omega)
          have F3 : (stm (stm (stm (stm (stm σ 85 3 117) 85 4 0) 85 5 0) 85 6 0) 85 7 0) 85 3 = 117 := by simp only [stm_row]; simp (disch := omega) only [upd_ne, upd_at]
          obtain ⟨C1, K1⟩ := CS_at C0 hp
          obtain ⟨s1, a1, E1, k1⟩ := cl1 d _ C1
          have D2 := CS_o E1 (j := 4) (v := (nI va)) (by omega)
          obtain ⟨s3, a3, E3, k3⟩ := want_y D2 h2
          obtain ⟨s4, a4, E4, k4⟩ := digit_y E3 h3
          have D5 := CS_o E4 (j := 5) (v := (nI (dv T (q1 + 1)))) (by omega)
          obtain ⟨s6, a6, E6, k6⟩ := skips_y D5 h4
          have D7 := CS_o E6 (j := 7) (v := 1) (by omega)
          obtain ⟨s8, a8, E8, k8⟩ := skips_y D7 h5
          obtain ⟨s9, a9, E9, k9⟩ := numb_n E8 h6
          have D10 := CS_o E9 (j := 6) (v := 0) (by omega)
          obtain ⟨s11, a11, E11, k11⟩ := want_b (s := 59) D10
          refine ⟨_, ?_, E11, fun i hi => ?_⟩
          · unfold F_X3_readStatement
            rw [en, Option.bind_some, F3, if_neg (show ¬ (117 : Int32) = 100 by decide), if_neg (show ¬ (117 : Int32) = 112 by decide), if_neg (show ¬ (117 : Int32) = 114 by decide), if_pos (show (117 : Int32) = 117 from rfl)]
            unfold F_X3_readCart
            rw [a1, bd2_s, a3, Option.bind_some, a4, bd2_s, a6, bd2_s, ck_t _ (by decide), a8, bd2_s, if_neg i10, a9, bd2_s, Option.bind_some, a11, Option.bind_some]
          · rw [k11.1 i hi, stm_ne _ _ _ hi, k9.1 i hi, k8.1 i hi, stm_ne _ _ _ hi, k6.1 i hi, stm_ne _ _ _ hi, k4.1 i hi, k3.1 i hi, stm_ne _ _ _ hi, k1.1 i hi, K1.1 i hi, stm_ne _ _ _ hi, stm_ne _ _ _ hi, stm_ne _ _ _ hi, stm_ne _ _ _ hi, stm_ne _ _ _ hi]
        · have en := here_r R
          rw [if_pos hp, hL] at en
          obtain ⟨R0, K0⟩ := RS_t R (v := 0)
          obtain ⟨R1, K1⟩ := RS_at R0 hp
          have t0 : (stm (stm ρ 91 15 0) 91 12 (stm ρ 91 15 0 91 12 + 1)) 91 15 = nI 0 := by rw [stm_row, upd_ne _ _ (by omega), stm_row, upd_at]; rfl
          obtain ⟨r1, b1, R11, L1, u1, t1⟩ := rf1 d _ 0 (by omega) R1 t0
          obtain ⟨r2, b2, R12, L2, u2, t2⟩ := takes_y R11 h2
          have t2 := t2.trans t1
          obtain ⟨r3, b3, R13, L3, u3, t3⟩ := readsD_y R12 h3 (by omega) t2
          obtain ⟨r4, b4, R14, L4, u4, t4⟩ := takes_y R13 h4
          have t4 := t4.trans t3
          obtain ⟨R15, L5⟩ := RS_o R14 (j := 2) (v := 1)
          have t5 : stm r4 102 2 1 91 15 = nI 2 := by rw [stm_ne _ _ _ (by omega)]; exact t4
          obtain ⟨R16, L6⟩ := RS_o R15 (j := 3) (v := 0)
          have t6 : stm (stm r4 102 2 1) 102 3 0 91 15 = nI 2 := by rw [stm_ne _ _ _ (by omega)]; exact t5
          obtain ⟨R17, L7⟩ := RS_t R16 (v := 3)
          have t7 : stm (stm (stm r4 102 2 1) 102 3 0) 91 15 3 91 15 = nI 3 := by rw [stm_row, upd_at]; rfl
          obtain ⟨r8, b8, R18, L8, u8, t8⟩ := takes_y R17 h5
          have t8 := t8.trans t7
          refine ⟨_, ?_, R18, (KF_tr K0 (KF_tr K1 (KF_tr L1 (KF_tr L2 (KF_tr L3 (KF_tr L4 (KF_tr L5 (KF_tr L6 (KF_tr L7 L8)))))))))⟩
          · unfold F_X8_readsStatement
            rw [en, Option.bind_some, if_neg (show ¬ (117 : Int32) = 100 by decide), if_neg (show ¬ (117 : Int32) = 112 by decide), if_neg (show ¬ (117 : Int32) = 114 by decide), if_pos (show (117 : Int32) = 117 from rfl), b1, bd2_s, if_neg i10, b2, bd2_s, if_neg i10, b3, bd2_s, if_neg i10, b4, bd2_s, if_neg i10, b8, bd2_s, if_neg i10, numb_rn R18 h6, bd2_s, if_pos rfl]
      obtain ⟨q2, vb, l2, m2, b3, cl2, rf2⟩ := numb h6 hz
      by_cases hq : sg T z q2 59
      rotate_left
      · refine Or.inl ⟨q2, by omega, fun d σ C => ?_, fun d ρ R => ?_⟩
        · have en := next_c C
          rw [if_pos hp, hL] at en
          have C0 := CS_o (CS_o (CS_o (CS_o (CS_o C (j := 3) (v := 117) (by omega)) (j := 4) (v := 0) (by omega)) (j := 5) (v := 0) (by omega)) (j := 6) (v := 0) (by omega)) (j := 7) (v := 0) (by omega)
          have F3 : (stm (stm (stm (stm (stm σ 85 3 117) 85 4 0) 85 5 0) 85 6 0) 85 7 0) 85 3 = 117 := by simp only [stm_row]; simp (disch := omega) only [upd_ne, upd_at]
          obtain ⟨C1, K1⟩ := CS_at C0 hp
          obtain ⟨s1, a1, E1, k1⟩ := cl1 d _ C1
          have D2 := CS_o E1 (j := 4) (v := (nI va)) (by omega)
          obtain ⟨s3, a3, E3, k3⟩ := want_y D2 h2
          obtain ⟨s4, a4, E4, k4⟩ := digit_y E3 h3
          have D5 := CS_o E4 (j := 5) (v := (nI (dv T (q1 + 1)))) (by omega)
          obtain ⟨s6, a6, E6, k6⟩ := skips_y D5 h4
          have D7 := CS_o E6 (j := 7) (v := 1) (by omega)
          obtain ⟨s8, a8, E8, k8⟩ := skips_y D7 h5
          obtain ⟨s9, a9, E9, k9⟩ := cl2 d _ E8
          have D10 := CS_o E9 (j := 6) (v := (nI vb)) (by omega)
          obtain ⟨s11, a11, E11, k11⟩ := want_n D10 hq (by decide)
          refine ⟨_, ?_, E11, fun i hi => ?_⟩
          · unfold F_X3_readStatement
            rw [en, Option.bind_some, F3, if_neg (show ¬ (117 : Int32) = 100 by decide), if_neg (show ¬ (117 : Int32) = 112 by decide), if_neg (show ¬ (117 : Int32) = 114 by decide), if_pos (show (117 : Int32) = 117 from rfl)]
            unfold F_X3_readCart
            rw [a1, bd2_s, a3, Option.bind_some, a4, bd2_s, a6, bd2_s, ck_t _ (by decide), a8, bd2_s, if_neg i10, a9, bd2_s, Option.bind_some, a11, Option.bind_some]
          · rw [k11.1 i hi, stm_ne _ _ _ hi, k9.1 i hi, k8.1 i hi, stm_ne _ _ _ hi, k6.1 i hi, stm_ne _ _ _ hi, k4.1 i hi, k3.1 i hi, stm_ne _ _ _ hi, k1.1 i hi, K1.1 i hi, stm_ne _ _ _ hi, stm_ne _ _ _ hi, stm_ne _ _ _ hi, stm_ne _ _ _ hi, stm_ne _ _ _ hi]
        · have en := here_r R
          rw [if_pos hp, hL] at en
          obtain ⟨R0, K0⟩ := RS_t R (v := 0)
          obtain ⟨R1, K1⟩ := RS_at R0 hp
          have t0 : (stm (stm ρ 91 15 0) 91 12 (stm ρ 91 15 0 91 12 + 1)) 91 15 = nI 0 := by rw [stm_row, upd_ne _ _ (by omega), stm_row, upd_at]; rfl
          obtain ⟨r1, b1, R11, L1, u1, t1⟩ := rf1 d _ 0 (by omega) R1 t0
          obtain ⟨r2, b2, R12, L2, u2, t2⟩ := takes_y R11 h2
          have t2 := t2.trans t1
          obtain ⟨r3, b3, R13, L3, u3, t3⟩ := readsD_y R12 h3 (by omega) t2
          obtain ⟨r4, b4, R14, L4, u4, t4⟩ := takes_y R13 h4
          have t4 := t4.trans t3
          obtain ⟨R15, L5⟩ := RS_o R14 (j := 2) (v := 1)
          have t5 : stm r4 102 2 1 91 15 = nI 2 := by rw [stm_ne _ _ _ (by omega)]; exact t4
          obtain ⟨R16, L6⟩ := RS_o R15 (j := 3) (v := 0)
          have t6 : stm (stm r4 102 2 1) 102 3 0 91 15 = nI 2 := by rw [stm_ne _ _ _ (by omega)]; exact t5
          obtain ⟨R17, L7⟩ := RS_t R16 (v := 3)
          have t7 : stm (stm (stm r4 102 2 1) 102 3 0) 91 15 3 91 15 = nI 3 := by rw [stm_row, upd_at]; rfl
          obtain ⟨r8, b8, R18, L8, u8, t8⟩ := takes_y R17 h5
          have t8 := t8.trans t7
          obtain ⟨r9, b9, R19, L9, u9, t9⟩ := rf2 d _ 3 (by omega) R18 t8
          refine ⟨_, ?_, R19, (KF_tr K0 (KF_tr K1 (KF_tr L1 (KF_tr L2 (KF_tr L3 (KF_tr L4 (KF_tr L5 (KF_tr L6 (KF_tr L7 (KF_tr L8 L9))))))))))⟩
          · unfold F_X8_readsStatement
            rw [en, Option.bind_some, if_neg (show ¬ (117 : Int32) = 100 by decide), if_neg (show ¬ (117 : Int32) = 112 by decide), if_neg (show ¬ (117 : Int32) = 114 by decide), if_pos (show (117 : Int32) = 117 from rfl), b1, bd2_s, if_neg i10, b2, bd2_s, if_neg i10, b3, bd2_s, if_neg i10, b4, bd2_s, if_neg i10, b8, bd2_s, if_neg i10, b9, bd2_s, if_neg i10, takes_n R19 hq (by decide), bd2_s, ck_t _ (by decide)]
      · refine Or.inr ⟨q2 + 1, 117, va, dv T (q1 + 1), vb, 1, ⟨by omega, by have := hq.1; omega, hp, hL, Or.inr ⟨Or.inl rfl, b1, b2, b3, by omega⟩⟩, fun d σ C => ?_, fun d ρ R => ?_⟩
        · have en := next_c C
          rw [if_pos hp, hL] at en
          have C0 := CS_o (CS_o (CS_o (CS_o (CS_o C (j := 3) (v := 117) (by omega)) (j := 4) (v := 0) (by omega)) (j := 5) (v := 0) (by omega)) (j := 6) (v := 0) (by omega)) (j := 7) (v := 0) (by omega)
          have F3 : (stm (stm (stm (stm (stm σ 85 3 117) 85 4 0) 85 5 0) 85 6 0) 85 7 0) 85 3 = 117 := by simp only [stm_row]; simp (disch := omega) only [upd_ne, upd_at]
          obtain ⟨C1, K1⟩ := CS_at C0 hp
          obtain ⟨s1, a1, E1, k1⟩ := cl1 d _ C1
          have D2 := CS_o E1 (j := 4) (v := (nI va)) (by omega)
          obtain ⟨s3, a3, E3, k3⟩ := want_y D2 h2
          obtain ⟨s4, a4, E4, k4⟩ := digit_y E3 h3
          have D5 := CS_o E4 (j := 5) (v := (nI (dv T (q1 + 1)))) (by omega)
          obtain ⟨s6, a6, E6, k6⟩ := skips_y D5 h4
          have D7 := CS_o E6 (j := 7) (v := 1) (by omega)
          obtain ⟨s8, a8, E8, k8⟩ := skips_y D7 h5
          obtain ⟨s9, a9, E9, k9⟩ := cl2 d _ E8
          have D10 := CS_o E9 (j := 6) (v := (nI vb)) (by omega)
          obtain ⟨s11, a11, E11, k11⟩ := want_y D10 hq
          refine ⟨_, ?_, E11, fun i hi => ?_, ?_, ?_, ?_, ?_, ?_⟩
          · unfold F_X3_readStatement
            rw [en, Option.bind_some, F3, if_neg (show ¬ (117 : Int32) = 100 by decide), if_neg (show ¬ (117 : Int32) = 112 by decide), if_neg (show ¬ (117 : Int32) = 114 by decide), if_pos (show (117 : Int32) = 117 from rfl)]
            unfold F_X3_readCart
            rw [a1, bd2_s, a3, Option.bind_some, a4, bd2_s, a6, bd2_s, ck_t _ (by decide), a8, bd2_s, if_neg i10, a9, bd2_s, Option.bind_some, a11, Option.bind_some]
          · rw [k11.1 i hi, stm_ne _ _ _ hi, k9.1 i hi, k8.1 i hi, stm_ne _ _ _ hi, k6.1 i hi, stm_ne _ _ _ hi, k4.1 i hi, k3.1 i hi, stm_ne _ _ _ hi, k1.1 i hi, K1.1 i hi, stm_ne _ _ _ hi, stm_ne _ _ _ hi, stm_ne _ _ _ hi, stm_ne _ _ _ hi, stm_ne _ _ _ hi]
          · rw [k11.2 3 (by omega) (by omega), stm_row, upd_ne _ _ (by omega), k9.2 3 (by omega) (by omega), k8.2 3 (by omega) (by omega), stm_row, upd_ne _ _ (by omega), k6.2 3 (by omega) (by omega), stm_row, upd_ne _ _ (by omega), k4.2 3 (by omega) (by omega), k3.2 3 (by omega) (by omega), stm_row, upd_ne _ _ (by omega), k1.2 3 (by omega) (by omega), K1.2 3 (by omega) (by omega)]; simp only [stm_row]; simp (disch := omega) only [upd_ne, upd_at]
          · rw [k11.2 4 (by omega) (by omega), stm_row, upd_ne _ _ (by omega), k9.2 4 (by omega) (by omega), k8.2 4 (by omega) (by omega), stm_row, upd_ne _ _ (by omega), k6.2 4 (by omega) (by omega), stm_row, upd_ne _ _ (by omega), k4.2 4 (by omega) (by omega), k3.2 4 (by omega) (by omega), stm_row, upd_at]
          · rw [k11.2 5 (by omega) (by omega), stm_row, upd_ne _ _ (by omega), k9.2 5 (by omega) (by omega), k8.2 5 (by omega) (by omega), stm_row, upd_ne _ _ (by omega), k6.2 5 (by omega) (by omega), stm_row, upd_at]
          · rw [k11.2 6 (by omega) (by omega), stm_row, upd_at]
          · rw [k11.2 7 (by omega) (by omega), stm_row, upd_ne _ _ (by omega), k9.2 7 (by omega) (by omega), k8.2 7 (by omega) (by omega), stm_row, upd_at]; rfl
        · have en := here_r R
          rw [if_pos hp, hL] at en
          obtain ⟨R0, K0⟩ := RS_t R (v := 0)
          obtain ⟨R1, K1⟩ := RS_at R0 hp
          have t0 : (stm (stm ρ 91 15 0) 91 12 (stm ρ 91 15 0 91 12 + 1)) 91 15 = nI 0 := by rw [stm_row, upd_ne _ _ (by omega), stm_row, upd_at]; rfl
          obtain ⟨r1, b1, R11, L1, u1, t1⟩ := rf1 d _ 0 (by omega) R1 t0
          obtain ⟨r2, b2, R12, L2, u2, t2⟩ := takes_y R11 h2
          have t2 := t2.trans t1
          obtain ⟨r3, b3, R13, L3, u3, t3⟩ := readsD_y R12 h3 (by omega) t2
          obtain ⟨r4, b4, R14, L4, u4, t4⟩ := takes_y R13 h4
          have t4 := t4.trans t3
          obtain ⟨R15, L5⟩ := RS_o R14 (j := 2) (v := 1)
          have t5 : stm r4 102 2 1 91 15 = nI 2 := by rw [stm_ne _ _ _ (by omega)]; exact t4
          obtain ⟨R16, L6⟩ := RS_o R15 (j := 3) (v := 0)
          have t6 : stm (stm r4 102 2 1) 102 3 0 91 15 = nI 2 := by rw [stm_ne _ _ _ (by omega)]; exact t5
          obtain ⟨R17, L7⟩ := RS_t R16 (v := 3)
          have t7 : stm (stm (stm r4 102 2 1) 102 3 0) 91 15 3 91 15 = nI 3 := by rw [stm_row, upd_at]; rfl
          obtain ⟨r8, b8, R18, L8, u8, t8⟩ := takes_y R17 h5
          have t8 := t8.trans t7
          obtain ⟨r9, b9, R19, L9, u9, t9⟩ := rf2 d _ 3 (by omega) R18 t8
          obtain ⟨r10, b10, R20, L10, u10, t10⟩ := takes_y R19 hq
          have t10 := t10.trans t9
          refine ⟨_, ?_, R20, (KF_tr K0 (KF_tr K1 (KF_tr L1 (KF_tr L2 (KF_tr L3 (KF_tr L4 (KF_tr L5 (KF_tr L6 (KF_tr L7 (KF_tr L8 (KF_tr L9 L10))))))))))), ?_, ?_, ?_, ?_⟩
          · unfold F_X8_readsStatement
            rw [en, Option.bind_some, if_neg (show ¬ (117 : Int32) = 100 by decide), if_neg (show ¬ (117 : Int32) = 112 by decide), if_neg (show ¬ (117 : Int32) = 114 by decide), if_pos (show (117 : Int32) = 117 from rfl), b1, bd2_s, if_neg i10, b2, bd2_s, if_neg i10, b3, bd2_s, if_neg i10, b4, bd2_s, if_neg i10, b8, bd2_s, if_neg i10, b9, bd2_s, if_neg i10, b10, bd2_s, ck_t _ (by decide)]
          · rw [u10, u9, upd_ne _ _ (by omega), u8, stm_ne _ _ _ (by omega), stm_row, upd_ne _ _ (by omega), stm_row, upd_ne _ _ (by omega), u4, u3, upd_ne _ _ (by omega), u2, u1, upd_at]
          · rw [u10, u9, upd_ne _ _ (by omega), u8, stm_ne _ _ _ (by omega), stm_row, upd_ne _ _ (by omega), stm_row, upd_ne _ _ (by omega), u4, u3, upd_at]
          · intro q; exact absurd q (by decide)
          · intro _
            refine ⟨?_, ?_⟩
            · rw [u10, u9, upd_ne _ _ (by omega), u8, stm_ne _ _ _ (by omega), stm_row, upd_ne _ _ (by omega), stm_row, upd_at]; rfl
            · rw [u10, u9, upd_at]
    · by_cases hq : sg T z (q1 + 3) 59
      rotate_left
      · refine Or.inl ⟨q1 + 3, by omega, fun d σ C => ?_, fun d ρ R => ?_⟩
        · have en := next_c C
          rw [if_pos hp, hL] at en
          have C0 := CS_o (CS_o (CS_o (CS_o (CS_o C (j := 3) (v := 117) (by omega)) (j := 4) (v := 0) (by omega)) (j := 5) (v := 0) (by omega)) (j := 6) (v := 0) (by omega)) (j := 7) (v := 0) (by omega)
          have F3 : (stm (stm (stm (stm (stm σ 85 3 117) 85 4 0) 85 5 0) 85 6 0) 85 7 0) 85 3 = 117 := by simp only [stm_row]; simp (disch := omega) only [upd_ne, upd_at]
          obtain ⟨C1, K1⟩ := CS_at C0 hp
          obtain ⟨s1, a1, E1, k1⟩ := cl1 d _ C1
          have D2 := CS_o E1 (j := 4) (v := (nI va)) (by omega)
          obtain ⟨s3, a3, E3, k3⟩ := want_y D2 h2
          obtain ⟨s4, a4, E4, k4⟩ := digit_y E3 h3
          have D5 := CS_o E4 (j := 5) (v := (nI (dv T (q1 + 1)))) (by omega)
          obtain ⟨s6, a6, E6, k6⟩ := skips_y D5 h4
          have D7 := CS_o E6 (j := 7) (v := 1) (by omega)
          have a8 := skips_n D7 h5 (by decide)
          obtain ⟨s9, a9, E9, k9⟩ := want_n D7 hq (by decide)
          refine ⟨_, ?_, E9, fun i hi => ?_⟩
          · unfold F_X3_readStatement
            rw [en, Option.bind_some, F3, if_neg (show ¬ (117 : Int32) = 100 by decide), if_neg (show ¬ (117 : Int32) = 112 by decide), if_neg (show ¬ (117 : Int32) = 114 by decide), if_pos (show (117 : Int32) = 117 from rfl)]
            unfold F_X3_readCart
            rw [a1, bd2_s, a3, Option.bind_some, a4, bd2_s, a6, bd2_s, ck_t _ (by decide), a8, bd2_s, if_pos rfl, Option.bind_some, a9, Option.bind_some]
          · rw [k9.1 i hi, stm_ne _ _ _ hi, k6.1 i hi, stm_ne _ _ _ hi, k4.1 i hi, k3.1 i hi, stm_ne _ _ _ hi, k1.1 i hi, K1.1 i hi, stm_ne _ _ _ hi, stm_ne _ _ _ hi, stm_ne _ _ _ hi, stm_ne _ _ _ hi, stm_ne _ _ _ hi]
        · have en := here_r R
          rw [if_pos hp, hL] at en
          obtain ⟨R0, K0⟩ := RS_t R (v := 0)
          obtain ⟨R1, K1⟩ := RS_at R0 hp
          have t0 : (stm (stm ρ 91 15 0) 91 12 (stm ρ 91 15 0 91 12 + 1)) 91 15 = nI 0 := by rw [stm_row, upd_ne _ _ (by omega), stm_row, upd_at]; rfl
          obtain ⟨r1, b1, R11, L1, u1, t1⟩ := rf1 d _ 0 (by omega) R1 t0
          obtain ⟨r2, b2, R12, L2, u2, t2⟩ := takes_y R11 h2
          have t2 := t2.trans t1
          obtain ⟨r3, b3, R13, L3, u3, t3⟩ := readsD_y R12 h3 (by omega) t2
          obtain ⟨r4, b4, R14, L4, u4, t4⟩ := takes_y R13 h4
          have t4 := t4.trans t3
          obtain ⟨R15, L5⟩ := RS_o R14 (j := 2) (v := 1)
          have t5 : stm r4 102 2 1 91 15 = nI 2 := by rw [stm_ne _ _ _ (by omega)]; exact t4
          obtain ⟨R16, L6⟩ := RS_o R15 (j := 3) (v := 0)
          have t6 : stm (stm r4 102 2 1) 102 3 0 91 15 = nI 2 := by rw [stm_ne _ _ _ (by omega)]; exact t5
          obtain ⟨R17, L7⟩ := RS_t R16 (v := 3)
          have t7 : stm (stm (stm r4 102 2 1) 102 3 0) 91 15 3 91 15 = nI 3 := by rw [stm_row, upd_at]; rfl
          refine ⟨_, ?_, R17, (KF_tr K0 (KF_tr K1 (KF_tr L1 (KF_tr L2 (KF_tr L3 (KF_tr L4 (KF_tr L5 (KF_tr L6 L7))))))))⟩
          · unfold F_X8_readsStatement
            rw [en, Option.bind_some, if_neg (show ¬ (117 : Int32) = 100 by decide), if_neg (show ¬ (117 : Int32) = 112 by decide), if_neg (show ¬ (117 : Int32) = 114 by decide), if_pos (show (117 : Int32) = 117 from rfl), b1, bd2_s, if_neg i10, b2, bd2_s, if_neg i10, b3, bd2_s, if_neg i10, b4, bd2_s, if_neg i10, takes_n R17 h5 (by decide), bd2_s, if_pos rfl, takes_n R17 hq (by decide), bd2_s, ck_t _ (by decide)]
      · refine Or.inr ⟨q1 + 4, 117, va, dv T (q1 + 1), 0, 1, ⟨by omega, by have := hq.1; omega, hp, hL, Or.inr ⟨Or.inl rfl, b1, b2, by omega, by omega⟩⟩, fun d σ C => ?_, fun d ρ R => ?_⟩
        · have en := next_c C
          rw [if_pos hp, hL] at en
          have C0 := CS_o (CS_o (CS_o (CS_o (CS_o C (j := 3) (v := 117) (by omega)) (j := 4) (v := 0) (by omega)) (j := 5) (v := 0) (by omega)) (j := 6) (v := 0) (by omega)) (j := 7) (v := 0) (by omega)
          have F3 : (stm (stm (stm (stm (stm σ 85 3 117) 85 4 0) 85 5 0) 85 6 0) 85 7 0) 85 3 = 117 := by simp only [stm_row]; simp (disch := omega) only [upd_ne, upd_at]
          obtain ⟨C1, K1⟩ := CS_at C0 hp
          obtain ⟨s1, a1, E1, k1⟩ := cl1 d _ C1
          have D2 := CS_o E1 (j := 4) (v := (nI va)) (by omega)
          obtain ⟨s3, a3, E3, k3⟩ := want_y D2 h2
          obtain ⟨s4, a4, E4, k4⟩ := digit_y E3 h3
          have D5 := CS_o E4 (j := 5) (v := (nI (dv T (q1 + 1)))) (by omega)
          obtain ⟨s6, a6, E6, k6⟩ := skips_y D5 h4
          have D7 := CS_o E6 (j := 7) (v := 1) (by omega)
          have a8 := skips_n D7 h5 (by decide)
          obtain ⟨s9, a9, E9, k9⟩ := want_y D7 hq
          refine ⟨_, ?_, E9, fun i hi => ?_, ?_, ?_, ?_, ?_, ?_⟩
          · unfold F_X3_readStatement
            rw [en, Option.bind_some, F3, if_neg (show ¬ (117 : Int32) = 100 by decide), if_neg (show ¬ (117 : Int32) = 112 by decide), if_neg (show ¬ (117 : Int32) = 114 by decide), if_pos (show (117 : Int32) = 117 from rfl)]
            unfold F_X3_readCart
            rw [a1, bd2_s, a3, Option.bind_some, a4, bd2_s, a6, bd2_s, ck_t _ (by decide), a8, bd2_s, if_pos rfl, Option.bind_some, a9, Option.bind_some]
          · rw [k9.1 i hi, stm_ne _ _ _ hi, k6.1 i hi, stm_ne _ _ _ hi, k4.1 i hi, k3.1 i hi, stm_ne _ _ _ hi, k1.1 i hi, K1.1 i hi, stm_ne _ _ _ hi, stm_ne _ _ _ hi, stm_ne _ _ _ hi, stm_ne _ _ _ hi, stm_ne _ _ _ hi]
          · rw [k9.2 3 (by omega) (by omega), stm_row, upd_ne _ _ (by omega), k6.2 3 (by omega) (by omega), stm_row, upd_ne _ _ (by omega), k4.2 3 (by omega) (by omega), k3.2 3 (by omega) (by omega), stm_row, upd_ne _ _ (by omega), k1.2 3 (by omega) (by omega), K1.2 3 (by omega) (by omega)]; simp only [stm_row]; simp (disch := omega) only [upd_ne, upd_at]
          · rw [k9.2 4 (by omega) (by omega), stm_row, upd_ne _ _ (by omega), k6.2 4 (by omega) (by omega), stm_row, upd_ne _ _ (by omega), k4.2 4 (by omega) (by omega), k3.2 4 (by omega) (by omega), stm_row, upd_at]
          · rw [k9.2 5 (by omega) (by omega), stm_row, upd_ne _ _ (by omega), k6.2 5 (by omega) (by omega), stm_row, upd_at]
          · rw [k9.2 6 (by omega) (by omega), stm_row, upd_ne _ _ (by omega), k6.2 6 (by omega) (by omega), stm_row, upd_ne _ _ (by omega), k4.2 6 (by omega) (by omega), k3.2 6 (by omega) (by omega), stm_row, upd_ne _ _ (by omega), k1.2 6 (by omega) (by omega), K1.2 6 (by omega) (by omega)]; simp only [stm_row]; simp (disch := omega) only [upd_ne, upd_at]; rfl
          · rw [k9.2 7 (by omega) (by omega), stm_row, upd_at]; rfl
        · have en := here_r R
          rw [if_pos hp, hL] at en
          obtain ⟨R0, K0⟩ := RS_t R (v := 0)
          obtain ⟨R1, K1⟩ := RS_at R0 hp
          have t0 : (stm (stm ρ 91 15 0) 91 12 (stm ρ 91 15 0 91 12 + 1)) 91 15 = nI 0 := by rw [stm_row, upd_ne _ _ (by omega), stm_row, upd_at]; rfl
          obtain ⟨r1, b1, R11, L1, u1, t1⟩ := rf1 d _ 0 (by omega) R1 t0
          obtain ⟨r2, b2, R12, L2, u2, t2⟩ := takes_y R11 h2
          have t2 := t2.trans t1
          obtain ⟨r3, b3, R13, L3, u3, t3⟩ := readsD_y R12 h3 (by omega) t2
          obtain ⟨r4, b4, R14, L4, u4, t4⟩ := takes_y R13 h4
          have t4 := t4.trans t3
          obtain ⟨R15, L5⟩ := RS_o R14 (j := 2) (v := 1)
          have t5 : stm r4 102 2 1 91 15 = nI 2 := by rw [stm_ne _ _ _ (by omega)]; exact t4
          obtain ⟨R16, L6⟩ := RS_o R15 (j := 3) (v := 0)
          have t6 : stm (stm r4 102 2 1) 102 3 0 91 15 = nI 2 := by rw [stm_ne _ _ _ (by omega)]; exact t5
          obtain ⟨R17, L7⟩ := RS_t R16 (v := 3)
          have t7 : stm (stm (stm r4 102 2 1) 102 3 0) 91 15 3 91 15 = nI 3 := by rw [stm_row, upd_at]; rfl
          obtain ⟨r8, b8, R18, L8, u8, t8⟩ := takes_y R17 hq
          have t8 := t8.trans t7
          refine ⟨_, ?_, R18, (KF_tr K0 (KF_tr K1 (KF_tr L1 (KF_tr L2 (KF_tr L3 (KF_tr L4 (KF_tr L5 (KF_tr L6 (KF_tr L7 L8))))))))), ?_, ?_, ?_, ?_⟩
          · unfold F_X8_readsStatement
            rw [en, Option.bind_some, if_neg (show ¬ (117 : Int32) = 100 by decide), if_neg (show ¬ (117 : Int32) = 112 by decide), if_neg (show ¬ (117 : Int32) = 114 by decide), if_pos (show (117 : Int32) = 117 from rfl), b1, bd2_s, if_neg i10, b2, bd2_s, if_neg i10, b3, bd2_s, if_neg i10, b4, bd2_s, if_neg i10, takes_n R17 h5 (by decide), bd2_s, if_pos rfl, b8, bd2_s, ck_t _ (by decide)]
          · rw [u8, stm_ne _ _ _ (by omega), stm_row, upd_ne _ _ (by omega), stm_row, upd_ne _ _ (by omega), u4, u3, upd_ne _ _ (by omega), u2, u1, upd_at]
          · rw [u8, stm_ne _ _ _ (by omega), stm_row, upd_ne _ _ (by omega), stm_row, upd_ne _ _ (by omega), u4, u3, upd_at]
          · intro q; exact absurd q (by decide)
          · intro _
            refine ⟨?_, ?_⟩
            · rw [u8, stm_ne _ _ _ (by omega), stm_row, upd_ne _ _ (by omega), stm_row, upd_at]; rfl
            · rw [u8, stm_ne _ _ _ (by omega), stm_row, upd_at]; rfl
  · by_cases h5 : sg T z (q1 + 2) 119
    · by_cases h6 : dg T z (q1 + 3)
      rotate_left
      · refine Or.inl ⟨q1 + 3, by omega, fun d σ C => ?_, fun d ρ R => ?_⟩
        · have en := next_c C
          rw [if_pos hp, hL] at en
          have C0 := CS_o (CS_o (CS_o (CS_o (CS_o C (j := 3) (v := 117) (by omega)) (j := 4) (v := 0) (by omega)) (j := 5) (v := 0) (by omega)) (j := 6) (v := 0) (by omega)) (j := 7) (v := 0) (by omega)
          have F3 : (stm (stm (stm (stm (stm σ 85 3 117) 85 4 0) 85 5 0) 85 6 0) 85 7 0) 85 3 = 117 := by simp only [stm_row]; simp (disch := omega) only [upd_ne, upd_at]
          obtain ⟨C1, K1⟩ := CS_at C0 hp
          obtain ⟨s1, a1, E1, k1⟩ := cl1 d _ C1
          have D2 := CS_o E1 (j := 4) (v := (nI va)) (by omega)
          obtain ⟨s3, a3, E3, k3⟩ := want_y D2 h2
          obtain ⟨s4, a4, E4, k4⟩ := digit_y E3 h3
          have D5 := CS_o E4 (j := 5) (v := (nI (dv T (q1 + 1)))) (by omega)
          have a6 := skips_n D5 h4 (by decide)
          have D7 := CS_o D5 (j := 7) (v := 0) (by omega)
          obtain ⟨s8, a8, E8, k8⟩ := skips_y D7 h5
          obtain ⟨s9, a9, E9, k9⟩ := numb_n E8 h6
          have D10 := CS_o E9 (j := 6) (v := 0) (by omega)
          obtain ⟨s11, a11, E11, k11⟩ := want_b (s := 59) D10
          refine ⟨_, ?_, E11, fun i hi => ?_⟩
          · unfold F_X3_readStatement
            rw [en, Option.bind_some, F3, if_neg (show ¬ (117 : Int32) = 100 by decide), if_neg (show ¬ (117 : Int32) = 112 by decide), if_neg (show ¬ (117 : Int32) = 114 by decide), if_pos (show (117 : Int32) = 117 from rfl)]
            unfold F_X3_readCart
            rw [a1, bd2_s, a3, Option.bind_some, a4, bd2_s, a6, bd2_s, ck_t _ (by decide), a8, bd2_s, if_neg i10, a9, bd2_s, Option.bind_some, a11, Option.bind_some]
          · rw [k11.1 i hi, stm_ne _ _ _ hi, k9.1 i hi, k8.1 i hi, stm_ne _ _ _ hi, stm_ne _ _ _ hi, k4.1 i hi, k3.1 i hi, stm_ne _ _ _ hi, k1.1 i hi, K1.1 i hi, stm_ne _ _ _ hi, stm_ne _ _ _ hi, stm_ne _ _ _ hi, stm_ne _ _ _ hi, stm_ne _ _ _ hi]
        · have en := here_r R
          rw [if_pos hp, hL] at en
          obtain ⟨R0, K0⟩ := RS_t R (v := 0)
          obtain ⟨R1, K1⟩ := RS_at R0 hp
          have t0 : (stm (stm ρ 91 15 0) 91 12 (stm ρ 91 15 0 91 12 + 1)) 91 15 = nI 0 := by rw [stm_row, upd_ne _ _ (by omega), stm_row, upd_at]; rfl
          obtain ⟨r1, b1, R11, L1, u1, t1⟩ := rf1 d _ 0 (by omega) R1 t0
          obtain ⟨r2, b2, R12, L2, u2, t2⟩ := takes_y R11 h2
          have t2 := t2.trans t1
          obtain ⟨r3, b3, R13, L3, u3, t3⟩ := readsD_y R12 h3 (by omega) t2
          obtain ⟨R14, L4⟩ := RS_o R13 (j := 2) (v := 0)
          have t4 : stm r3 102 2 0 91 15 = nI 2 := by rw [stm_ne _ _ _ (by omega)]; exact t3
          obtain ⟨R15, L5⟩ := RS_o R14 (j := 3) (v := 0)
          have t5 : stm (stm r3 102 2 0) 102 3 0 91 15 = nI 2 := by rw [stm_ne _ _ _ (by omega)]; exact t4
          obtain ⟨R16, L6⟩ := RS_t R15 (v := 3)
          have t6 : stm (stm (stm r3 102 2 0) 102 3 0) 91 15 3 91 15 = nI 3 := by rw [stm_row, upd_at]; rfl
          obtain ⟨r7, b7, R17, L7, u7, t7⟩ := takes_y R16 h5
          have t7 := t7.trans t6
          refine ⟨_, ?_, R17, (KF_tr K0 (KF_tr K1 (KF_tr L1 (KF_tr L2 (KF_tr L3 (KF_tr L4 (KF_tr L5 (KF_tr L6 L7))))))))⟩
          · unfold F_X8_readsStatement
            rw [en, Option.bind_some, if_neg (show ¬ (117 : Int32) = 100 by decide), if_neg (show ¬ (117 : Int32) = 112 by decide), if_neg (show ¬ (117 : Int32) = 114 by decide), if_pos (show (117 : Int32) = 117 from rfl), b1, bd2_s, if_neg i10, b2, bd2_s, if_neg i10, b3, bd2_s, if_neg i10, takes_n R13 h4 (by decide), bd2_s, if_pos rfl, b7, bd2_s, if_neg i10, numb_rn R17 h6, bd2_s, if_pos rfl]
      obtain ⟨q2, vb, l2, m2, b3, cl2, rf2⟩ := numb h6 hz
      by_cases hq : sg T z q2 59
      rotate_left
      · refine Or.inl ⟨q2, by omega, fun d σ C => ?_, fun d ρ R => ?_⟩
        · have en := next_c C
          rw [if_pos hp, hL] at en
          have C0 := CS_o (CS_o (CS_o (CS_o (CS_o C (j := 3) (v := 117) (by omega)) (j := 4) (v := 0) (by omega)) (j := 5) (v := 0) (by omega)) (j := 6) (v := 0) (by omega)) (j := 7) (v := 0) (by omega)
          have F3 : (stm (stm (stm (stm (stm σ 85 3 117) 85 4 0) 85 5 0) 85 6 0) 85 7 0) 85 3 = 117 := by simp only [stm_row]; simp (disch := omega) only [upd_ne, upd_at]
          obtain ⟨C1, K1⟩ := CS_at C0 hp
          obtain ⟨s1, a1, E1, k1⟩ := cl1 d _ C1
          have D2 := CS_o E1 (j := 4) (v := (nI va)) (by omega)
          obtain ⟨s3, a3, E3, k3⟩ := want_y D2 h2
          obtain ⟨s4, a4, E4, k4⟩ := digit_y E3 h3
          have D5 := CS_o E4 (j := 5) (v := (nI (dv T (q1 + 1)))) (by omega)
          have a6 := skips_n D5 h4 (by decide)
          have D7 := CS_o D5 (j := 7) (v := 0) (by omega)
          obtain ⟨s8, a8, E8, k8⟩ := skips_y D7 h5
          obtain ⟨s9, a9, E9, k9⟩ := cl2 d _ E8
          have D10 := CS_o E9 (j := 6) (v := (nI vb)) (by omega)
          obtain ⟨s11, a11, E11, k11⟩ := want_n D10 hq (by decide)
          refine ⟨_, ?_, E11, fun i hi => ?_⟩
          · unfold F_X3_readStatement
            rw [en, Option.bind_some, F3, if_neg (show ¬ (117 : Int32) = 100 by decide), if_neg (show ¬ (117 : Int32) = 112 by decide), if_neg (show ¬ (117 : Int32) = 114 by decide), if_pos (show (117 : Int32) = 117 from rfl)]
            unfold F_X3_readCart
            rw [a1, bd2_s, a3, Option.bind_some, a4, bd2_s, a6, bd2_s, ck_t _ (by decide), a8, bd2_s, if_neg i10, a9, bd2_s, Option.bind_some, a11, Option.bind_some]
          · rw [k11.1 i hi, stm_ne _ _ _ hi, k9.1 i hi, k8.1 i hi, stm_ne _ _ _ hi, stm_ne _ _ _ hi, k4.1 i hi, k3.1 i hi, stm_ne _ _ _ hi, k1.1 i hi, K1.1 i hi, stm_ne _ _ _ hi, stm_ne _ _ _ hi, stm_ne _ _ _ hi, stm_ne _ _ _ hi, stm_ne _ _ _ hi]
        · have en := here_r R
          rw [if_pos hp, hL] at en
          obtain ⟨R0, K0⟩ := RS_t R (v := 0)
          obtain ⟨R1, K1⟩ := RS_at R0 hp
          have t0 : (stm (stm ρ 91 15 0) 91 12 (stm ρ 91 15 0 91 12 + 1)) 91 15 = nI 0 := by rw [stm_row, upd_ne _ _ (by omega), stm_row, upd_at]; rfl
          obtain ⟨r1, b1, R11, L1, u1, t1⟩ := rf1 d _ 0 (by omega) R1 t0
          obtain ⟨r2, b2, R12, L2, u2, t2⟩ := takes_y R11 h2
          have t2 := t2.trans t1
          obtain ⟨r3, b3, R13, L3, u3, t3⟩ := readsD_y R12 h3 (by omega) t2
          obtain ⟨R14, L4⟩ := RS_o R13 (j := 2) (v := 0)
          have t4 : stm r3 102 2 0 91 15 = nI 2 := by rw [stm_ne _ _ _ (by omega)]; exact t3
          obtain ⟨R15, L5⟩ := RS_o R14 (j := 3) (v := 0)
          have t5 : stm (stm r3 102 2 0) 102 3 0 91 15 = nI 2 := by rw [stm_ne _ _ _ (by omega)]; exact t4
          obtain ⟨R16, L6⟩ := RS_t R15 (v := 3)
          have t6 : stm (stm (stm r3 102 2 0) 102 3 0) 91 15 3 91 15 = nI 3 := by rw [stm_row, upd_at]; rfl
          obtain ⟨r7, b7, R17, L7, u7, t7⟩ := takes_y R16 h5
          have t7 := t7.trans t6
          obtain ⟨r8, b8, R18, L8, u8, t8⟩ := rf2 d _ 3 (by omega) R17 t7
          refine ⟨_, ?_, R18, (KF_tr K0 (KF_tr K1 (KF_tr L1 (KF_tr L2 (KF_tr L3 (KF_tr L4 (KF_tr L5 (KF_tr L6 (KF_tr L7 L8)))))))))⟩
          · unfold F_X8_readsStatement
            rw [en, Option.bind_some, if_neg (show ¬ (117 : Int32) = 100 by decide), if_neg (show ¬ (117 : Int32) = 112 by decide), if_neg (show ¬ (117 : Int32) = 114 by decide), if_pos (show (117 : Int32) = 117 from rfl), b1, bd2_s, if_neg i10, b2, bd2_s, if_neg i10, b3, bd2_s, if_neg i10, takes_n R13 h4 (by decide), bd2_s, if_pos rfl, b7, bd2_s, if_neg i10, b8, bd2_s, if_neg i10, takes_n R18 hq (by decide), bd2_s, ck_t _ (by decide)]
      · refine Or.inr ⟨q2 + 1, 117, va, dv T (q1 + 1), vb, 0, ⟨by omega, by have := hq.1; omega, hp, hL, Or.inr ⟨Or.inl rfl, b1, b2, b3, by omega⟩⟩, fun d σ C => ?_, fun d ρ R => ?_⟩
        · have en := next_c C
          rw [if_pos hp, hL] at en
          have C0 := CS_o (CS_o (CS_o (CS_o (CS_o C (j := 3) (v := 117) (by omega)) (j := 4) (v := 0) (by omega)) (j := 5) (v := 0) (by omega)) (j := 6) (v := 0) (by omega)) (j := 7) (v := 0) (by omega)
          have F3 : (stm (stm (stm (stm (stm σ 85 3 117) 85 4 0) 85 5 0) 85 6 0) 85 7 0) 85 3 = 117 := by simp only [stm_row]; simp (disch := omega) only [upd_ne, upd_at]
          obtain ⟨C1, K1⟩ := CS_at C0 hp
          obtain ⟨s1, a1, E1, k1⟩ := cl1 d _ C1
          have D2 := CS_o E1 (j := 4) (v := (nI va)) (by omega)
          obtain ⟨s3, a3, E3, k3⟩ := want_y D2 h2
          obtain ⟨s4, a4, E4, k4⟩ := digit_y E3 h3
          have D5 := CS_o E4 (j := 5) (v := (nI (dv T (q1 + 1)))) (by omega)
          have a6 := skips_n D5 h4 (by decide)
          have D7 := CS_o D5 (j := 7) (v := 0) (by omega)
          obtain ⟨s8, a8, E8, k8⟩ := skips_y D7 h5
          obtain ⟨s9, a9, E9, k9⟩ := cl2 d _ E8
          have D10 := CS_o E9 (j := 6) (v := (nI vb)) (by omega)
          obtain ⟨s11, a11, E11, k11⟩ := want_y D10 hq
          refine ⟨_, ?_, E11, fun i hi => ?_, ?_, ?_, ?_, ?_, ?_⟩
          · unfold F_X3_readStatement
            rw [en, Option.bind_some, F3, if_neg (show ¬ (117 : Int32) = 100 by decide), if_neg (show ¬ (117 : Int32) = 112 by decide), if_neg (show ¬ (117 : Int32) = 114 by decide), if_pos (show (117 : Int32) = 117 from rfl)]
            unfold F_X3_readCart
            rw [a1, bd2_s, a3, Option.bind_some, a4, bd2_s, a6, bd2_s, ck_t _ (by decide), a8, bd2_s, if_neg i10, a9, bd2_s, Option.bind_some, a11, Option.bind_some]
          · rw [k11.1 i hi, stm_ne _ _ _ hi, k9.1 i hi, k8.1 i hi, stm_ne _ _ _ hi, stm_ne _ _ _ hi, k4.1 i hi, k3.1 i hi, stm_ne _ _ _ hi, k1.1 i hi, K1.1 i hi, stm_ne _ _ _ hi, stm_ne _ _ _ hi, stm_ne _ _ _ hi, stm_ne _ _ _ hi, stm_ne _ _ _ hi]
          · rw [k11.2 3 (by omega) (by omega), stm_row, upd_ne _ _ (by omega), k9.2 3 (by omega) (by omega), k8.2 3 (by omega) (by omega), stm_row, upd_ne _ _ (by omega), stm_row, upd_ne _ _ (by omega), k4.2 3 (by omega) (by omega), k3.2 3 (by omega) (by omega), stm_row, upd_ne _ _ (by omega), k1.2 3 (by omega) (by omega), K1.2 3 (by omega) (by omega)]; simp only [stm_row]; simp (disch := omega) only [upd_ne, upd_at]
          · rw [k11.2 4 (by omega) (by omega), stm_row, upd_ne _ _ (by omega), k9.2 4 (by omega) (by omega), k8.2 4 (by omega) (by omega), stm_row, upd_ne _ _ (by omega), stm_row, upd_ne _ _ (by omega), k4.2 4 (by omega) (by omega), k3.2 4 (by omega) (by omega), stm_row, upd_at]
          · rw [k11.2 5 (by omega) (by omega), stm_row, upd_ne _ _ (by omega), k9.2 5 (by omega) (by omega), k8.2 5 (by omega) (by omega), stm_row, upd_ne _ _ (by omega), stm_row, upd_at]
          · rw [k11.2 6 (by omega) (by omega), stm_row, upd_at]
          · rw [k11.2 7 (by omega) (by omega), stm_row, upd_ne _ _ (by omega), k9.2 7 (by omega) (by omega), k8.2 7 (by omega) (by omega), stm_row, upd_at]; rfl
        · have en := here_r R
          rw [if_pos hp, hL] at en
          obtain ⟨R0, K0⟩ := RS_t R (v := 0)
          obtain ⟨R1, K1⟩ := RS_at R0 hp
          have t0 : (stm (stm ρ 91 15 0) 91 12 (stm ρ 91 15 0 91 12 + 1)) 91 15 = nI 0 := by rw [stm_row, upd_ne _ _ (by omega), stm_row, upd_at]; rfl
          obtain ⟨r1, b1, R11, L1, u1, t1⟩ := rf1 d _ 0 (by omega) R1 t0
          obtain ⟨r2, b2, R12, L2, u2, t2⟩ := takes_y R11 h2
          have t2 := t2.trans t1
          obtain ⟨r3, b3, R13, L3, u3, t3⟩ := readsD_y R12 h3 (by omega) t2
          obtain ⟨R14, L4⟩ := RS_o R13 (j := 2) (v := 0)
          have t4 : stm r3 102 2 0 91 15 = nI 2 := by rw [stm_ne _ _ _ (by omega)]; exact t3
          obtain ⟨R15, L5⟩ := RS_o R14 (j := 3) (v := 0)
          have t5 : stm (stm r3 102 2 0) 102 3 0 91 15 = nI 2 := by rw [stm_ne _ _ _ (by omega)]; exact t4
          obtain ⟨R16, L6⟩ := RS_t R15 (v := 3)
          have t6 : stm (stm (stm r3 102 2 0) 102 3 0) 91 15 3 91 15 = nI 3 := by rw [stm_row, upd_at]; rfl
          obtain ⟨r7, b7, R17, L7, u7, t7⟩ := takes_y R16 h5
          have t7 := t7.trans t6
          obtain ⟨r8, b8, R18, L8, u8, t8⟩ := rf2 d _ 3 (by omega) R17 t7
          obtain ⟨r9, b9, R19, L9, u9, t9⟩ := takes_y R18 hq
          have t9 := t9.trans t8
          refine ⟨_, ?_, R19, (KF_tr K0 (KF_tr K1 (KF_tr L1 (KF_tr L2 (KF_tr L3 (KF_tr L4 (KF_tr L5 (KF_tr L6 (KF_tr L7 (KF_tr L8 L9)))))))))), ?_, ?_, ?_, ?_⟩
          · unfold F_X8_readsStatement
            rw [en, Option.bind_some, if_neg (show ¬ (117 : Int32) = 100 by decide), if_neg (show ¬ (117 : Int32) = 112 by decide), if_neg (show ¬ (117 : Int32) = 114 by decide), if_pos (show (117 : Int32) = 117 from rfl), b1, bd2_s, if_neg i10, b2, bd2_s, if_neg i10, b3, bd2_s, if_neg i10, takes_n R13 h4 (by decide), bd2_s, if_pos rfl, b7, bd2_s, if_neg i10, b8, bd2_s, if_neg i10, b9, bd2_s, ck_t _ (by decide)]
          · rw [u9, u8, upd_ne _ _ (by omega), u7, stm_ne _ _ _ (by omega), stm_row, upd_ne _ _ (by omega), stm_row, upd_ne _ _ (by omega), u3, upd_ne _ _ (by omega), u2, u1, upd_at]
          · rw [u9, u8, upd_ne _ _ (by omega), u7, stm_ne _ _ _ (by omega), stm_row, upd_ne _ _ (by omega), stm_row, upd_ne _ _ (by omega), u3, upd_at]
          · intro q; exact absurd q (by decide)
          · intro _
            refine ⟨?_, ?_⟩
            · rw [u9, u8, upd_ne _ _ (by omega), u7, stm_ne _ _ _ (by omega), stm_row, upd_ne _ _ (by omega), stm_row, upd_at]; rfl
            · rw [u9, u8, upd_at]
    · by_cases hq : sg T z (q1 + 2) 59
      rotate_left
      · refine Or.inl ⟨q1 + 2, by omega, fun d σ C => ?_, fun d ρ R => ?_⟩
        · have en := next_c C
          rw [if_pos hp, hL] at en
          have C0 := CS_o (CS_o (CS_o (CS_o (CS_o C (j := 3) (v := 117) (by omega)) (j := 4) (v := 0) (by omega)) (j := 5) (v := 0) (by omega)) (j := 6) (v := 0) (by omega)) (j := 7) (v := 0) (by omega)
          have F3 : (stm (stm (stm (stm (stm σ 85 3 117) 85 4 0) 85 5 0) 85 6 0) 85 7 0) 85 3 = 117 := by simp only [stm_row]; simp (disch := omega) only [upd_ne, upd_at]
          obtain ⟨C1, K1⟩ := CS_at C0 hp
          obtain ⟨s1, a1, E1, k1⟩ := cl1 d _ C1
          have D2 := CS_o E1 (j := 4) (v := (nI va)) (by omega)
          obtain ⟨s3, a3, E3, k3⟩ := want_y D2 h2
          obtain ⟨s4, a4, E4, k4⟩ := digit_y E3 h3
          have D5 := CS_o E4 (j := 5) (v := (nI (dv T (q1 + 1)))) (by omega)
          have a6 := skips_n D5 h4 (by decide)
          have D7 := CS_o D5 (j := 7) (v := 0) (by omega)
          have a8 := skips_n D7 h5 (by decide)
          obtain ⟨s9, a9, E9, k9⟩ := want_n D7 hq (by decide)
          refine ⟨_, ?_, E9, fun i hi => ?_⟩
          · unfold F_X3_readStatement
            rw [en, Option.bind_some, F3, if_neg (show ¬ (117 : Int32) = 100 by decide), if_neg (show ¬ (117 : Int32) = 112 by decide), if_neg (show ¬ (117 : Int32) = 114 by decide), if_pos (show (117 : Int32) = 117 from rfl)]
            unfold F_X3_readCart
            rw [a1, bd2_s, a3, Option.bind_some, a4, bd2_s, a6, bd2_s, ck_t _ (by decide), a8, bd2_s, if_pos rfl, Option.bind_some, a9, Option.bind_some]
          · rw [k9.1 i hi, stm_ne _ _ _ hi, stm_ne _ _ _ hi, k4.1 i hi, k3.1 i hi, stm_ne _ _ _ hi, k1.1 i hi, K1.1 i hi, stm_ne _ _ _ hi, stm_ne _ _ _ hi, stm_ne _ _ _ hi, stm_ne _ _ _ hi, stm_ne _ _ _ hi]
        · have en := here_r R
          rw [if_pos hp, hL] at en
          obtain ⟨R0, K0⟩ := RS_t R (v := 0)
          obtain ⟨R1, K1⟩ := RS_at R0 hp
          have t0 : (stm (stm ρ 91 15 0) 91 12 (stm ρ 91 15 0 91 12 + 1)) 91 15 = nI 0 := by rw [stm_row, upd_ne _ _ (by omega), stm_row, upd_at]; rfl
          obtain ⟨r1, b1, R11, L1, u1, t1⟩ := rf1 d _ 0 (by omega) R1 t0
          obtain ⟨r2, b2, R12, L2, u2, t2⟩ := takes_y R11 h2
          have t2 := t2.trans t1
          obtain ⟨r3, b3, R13, L3, u3, t3⟩ := readsD_y R12 h3 (by omega) t2
          obtain ⟨R14, L4⟩ := RS_o R13 (j := 2) (v := 0)
          have t4 : stm r3 102 2 0 91 15 = nI 2 := by rw [stm_ne _ _ _ (by omega)]; exact t3
          obtain ⟨R15, L5⟩ := RS_o R14 (j := 3) (v := 0)
          have t5 : stm (stm r3 102 2 0) 102 3 0 91 15 = nI 2 := by rw [stm_ne _ _ _ (by omega)]; exact t4
          obtain ⟨R16, L6⟩ := RS_t R15 (v := 3)
          have t6 : stm (stm (stm r3 102 2 0) 102 3 0) 91 15 3 91 15 = nI 3 := by rw [stm_row, upd_at]; rfl
          refine ⟨_, ?_, R16, (KF_tr K0 (KF_tr K1 (KF_tr L1 (KF_tr L2 (KF_tr L3 (KF_tr L4 (KF_tr L5 L6)))))))⟩
          · unfold F_X8_readsStatement
            rw [en, Option.bind_some, if_neg (show ¬ (117 : Int32) = 100 by decide), if_neg (show ¬ (117 : Int32) = 112 by decide), if_neg (show ¬ (117 : Int32) = 114 by decide), if_pos (show (117 : Int32) = 117 from rfl), b1, bd2_s, if_neg i10, b2, bd2_s, if_neg i10, b3, bd2_s, if_neg i10, takes_n R13 h4 (by decide), bd2_s, if_pos rfl, takes_n R16 h5 (by decide), bd2_s, if_pos rfl, takes_n R16 hq (by decide), bd2_s, ck_t _ (by decide)]
      · refine Or.inr ⟨q1 + 3, 117, va, dv T (q1 + 1), 0, 0, ⟨by omega, by have := hq.1; omega, hp, hL, Or.inr ⟨Or.inl rfl, b1, b2, by omega, by omega⟩⟩, fun d σ C => ?_, fun d ρ R => ?_⟩
        · have en := next_c C
          rw [if_pos hp, hL] at en
          have C0 := CS_o (CS_o (CS_o (CS_o (CS_o C (j := 3) (v := 117) (by omega)) (j := 4) (v := 0) (by omega)) (j := 5) (v := 0) (by omega)) (j := 6) (v := 0) (by omega)) (j := 7) (v := 0) (by omega)
          have F3 : (stm (stm (stm (stm (stm σ 85 3 117) 85 4 0) 85 5 0) 85 6 0) 85 7 0) 85 3 = 117 := by simp only [stm_row]; simp (disch := omega) only [upd_ne, upd_at]
          obtain ⟨C1, K1⟩ := CS_at C0 hp
          obtain ⟨s1, a1, E1, k1⟩ := cl1 d _ C1
          have D2 := CS_o E1 (j := 4) (v := (nI va)) (by omega)
          obtain ⟨s3, a3, E3, k3⟩ := want_y D2 h2
          obtain ⟨s4, a4, E4, k4⟩ := digit_y E3 h3
          have D5 := CS_o E4 (j := 5) (v := (nI (dv T (q1 + 1)))) (by omega)
          have a6 := skips_n D5 h4 (by decide)
          have D7 := CS_o D5 (j := 7) (v := 0) (by omega)
          have a8 := skips_n D7 h5 (by decide)
          obtain ⟨s9, a9, E9, k9⟩ := want_y D7 hq
          refine ⟨_, ?_, E9, fun i hi => ?_, ?_, ?_, ?_, ?_, ?_⟩
          · unfold F_X3_readStatement
            rw [en, Option.bind_some, F3, if_neg (show ¬ (117 : Int32) = 100 by decide), if_neg (show ¬ (117 : Int32) = 112 by decide), if_neg (show ¬ (117 : Int32) = 114 by decide), if_pos (show (117 : Int32) = 117 from rfl)]
            unfold F_X3_readCart
            rw [a1, bd2_s, a3, Option.bind_some, a4, bd2_s, a6, bd2_s, ck_t _ (by decide), a8, bd2_s, if_pos rfl, Option.bind_some, a9, Option.bind_some]
          · rw [k9.1 i hi, stm_ne _ _ _ hi, stm_ne _ _ _ hi, k4.1 i hi, k3.1 i hi, stm_ne _ _ _ hi, k1.1 i hi, K1.1 i hi, stm_ne _ _ _ hi, stm_ne _ _ _ hi, stm_ne _ _ _ hi, stm_ne _ _ _ hi, stm_ne _ _ _ hi]
          · rw [k9.2 3 (by omega) (by omega), stm_row, upd_ne _ _ (by omega), stm_row, upd_ne _ _ (by omega), k4.2 3 (by omega) (by omega), k3.2 3 (by omega) (by omega), stm_row, upd_ne _ _ (by omega), k1.2 3 (by omega) (by omega), K1.2 3 (by omega) (by omega)]; simp only [stm_row]; simp (disch := omega) only [upd_ne, upd_at]
          · rw [k9.2 4 (by omega) (by omega), stm_row, upd_ne _ _ (by omega), stm_row, upd_ne _ _ (by omega), k4.2 4 (by omega) (by omega), k3.2 4 (by omega) (by omega), stm_row, upd_at]
          · rw [k9.2 5 (by omega) (by omega), stm_row, upd_ne _ _ (by omega), stm_row, upd_at]
          · rw [k9.2 6 (by omega) (by omega), stm_row, upd_ne _ _ (by omega), stm_row, upd_ne _ _ (by omega), k4.2 6 (by omega) (by omega), k3.2 6 (by omega) (by omega), stm_row, upd_ne _ _ (by omega), k1.2 6 (by omega) (by omega), K1.2 6 (by omega) (by omega)]; simp only [stm_row]; simp (disch := omega) only [upd_ne, upd_at]; rfl
          · rw [k9.2 7 (by omega) (by omega), stm_row, upd_at]; rfl
        · have en := here_r R
          rw [if_pos hp, hL] at en
          obtain ⟨R0, K0⟩ := RS_t R (v := 0)
          obtain ⟨R1, K1⟩ := RS_at R0 hp
          have t0 : (stm (stm ρ 91 15 0) 91 12 (stm ρ 91 15 0 91 12 + 1)) 91 15 = nI 0 := by rw [stm_row, upd_ne _ _ (by omega), stm_row, upd_at]; rfl
          obtain ⟨r1, b1, R11, L1, u1, t1⟩ := rf1 d _ 0 (by omega) R1 t0
          obtain ⟨r2, b2, R12, L2, u2, t2⟩ := takes_y R11 h2
          have t2 := t2.trans t1
          obtain ⟨r3, b3, R13, L3, u3, t3⟩ := readsD_y R12 h3 (by omega) t2
          obtain ⟨R14, L4⟩ := RS_o R13 (j := 2) (v := 0)
          have t4 : stm r3 102 2 0 91 15 = nI 2 := by rw [stm_ne _ _ _ (by omega)]; exact t3
          obtain ⟨R15, L5⟩ := RS_o R14 (j := 3) (v := 0)
          have t5 : stm (stm r3 102 2 0) 102 3 0 91 15 = nI 2 := by rw [stm_ne _ _ _ (by omega)]; exact t4
          obtain ⟨R16, L6⟩ := RS_t R15 (v := 3)
          have t6 : stm (stm (stm r3 102 2 0) 102 3 0) 91 15 3 91 15 = nI 3 := by rw [stm_row, upd_at]; rfl
          obtain ⟨r7, b7, R17, L7, u7, t7⟩ := takes_y R16 hq
          have t7 := t7.trans t6
          refine ⟨_, ?_, R17, (KF_tr K0 (KF_tr K1 (KF_tr L1 (KF_tr L2 (KF_tr L3 (KF_tr L4 (KF_tr L5 (KF_tr L6 L7)))))))), ?_, ?_, ?_, ?_⟩
          · unfold F_X8_readsStatement
            rw [en, Option.bind_some, if_neg (show ¬ (117 : Int32) = 100 by decide), if_neg (show ¬ (117 : Int32) = 112 by decide), if_neg (show ¬ (117 : Int32) = 114 by decide), if_pos (show (117 : Int32) = 117 from rfl), b1, bd2_s, if_neg i10, b2, bd2_s, if_neg i10, b3, bd2_s, if_neg i10, takes_n R13 h4 (by decide), bd2_s, if_pos rfl, takes_n R16 h5 (by decide), bd2_s, if_pos rfl, b7, bd2_s, ck_t _ (by decide)]
          · rw [u7, stm_ne _ _ _ (by omega), stm_row, upd_ne _ _ (by omega), stm_row, upd_ne _ _ (by omega), u3, upd_ne _ _ (by omega), u2, u1, upd_at]
          · rw [u7, stm_ne _ _ _ (by omega), stm_row, upd_ne _ _ (by omega), stm_row, upd_ne _ _ (by omega), u3, upd_at]
          · intro q; exact absurd q (by decide)
          · intro _
            refine ⟨?_, ?_⟩
            · rw [u7, stm_ne _ _ _ (by omega), stm_row, upd_ne _ _ (by omega), stm_row, upd_at]; rfl
            · rw [u7, stm_ne _ _ _ (by omega), stm_row, upd_at]; rfl
theorem st_100 (hz : z ≤ 100) (hp : p < z) (hL : T p = 100) : SFAIL T z p ∨ SOK T z p := by
  by_cases h1 : dg T z (p + 1)
  rotate_left
  · refine Or.inl ⟨p + 1, by omega, fun d σ C => ?_, fun d ρ R => ?_⟩
    · have en := next_c C
      rw [if_pos hp, hL] at en
      have C0 := CS_o (CS_o (CS_o (CS_o (CS_o C (j := 3) (v := 100) (by omega)) (j := 4) (v := 0) (by omega)) (j := 5) (v := 0) (by omega)) (j := 6) (v := 0) (by omega)) (j := 7) (v := 0) (by omega)
      have F3 : (stm (stm (stm (stm (stm σ 85 3 100) 85 4 0) 85 5 0) 85 6 0) 85 7 0) 85 3 = 100 := by simp only [stm_row]; simp (disch := omega) only [upd_ne, upd_at]
      obtain ⟨C1, K1⟩ := CS_at C0 hp
      obtain ⟨s1, a1, E1, k1⟩ := numb_n C1 h1
      have D2 := CS_o E1 (j := 4) (v := 0) (by omega)
      obtain ⟨s3, a3, E3, k3⟩ := want_b (s := 32) D2
      obtain ⟨s4, a4, E4, k4⟩ := digit_b E3
      have D5 := CS_o E4 (j := 5) (v := 0) (by omega)
      have a6 := skips_b (s := 108) D5
      have D7 := CS_o D5 (j := 7) (v := 0) (by omega)
      have a8 := skips_b (s := 119) D7
      obtain ⟨s9, a9, E9, k9⟩ := want_b (s := 59) D7
      refine ⟨_, ?_, E9, fun i hi => ?_⟩
      · unfold F_X3_readStatement
        rw [en, Option.bind_some, F3, if_pos (show (100 : Int32) = 100 from rfl)]
        unfold F_X3_readCart
        rw [a1, bd2_s, a3, Option.bind_some, a4, bd2_s, a6, bd2_s, ck_t _ (by decide), a8, bd2_s, if_pos rfl, Option.bind_some, a9, Option.bind_some]
      · rw [k9.1 i hi, stm_ne _ _ _ hi, stm_ne _ _ _ hi, k4.1 i hi, k3.1 i hi, stm_ne _ _ _ hi, k1.1 i hi, K1.1 i hi, stm_ne _ _ _ hi, stm_ne _ _ _ hi, stm_ne _ _ _ hi, stm_ne _ _ _ hi, stm_ne _ _ _ hi]
    · have en := here_r R
      rw [if_pos hp, hL] at en
      obtain ⟨R0, K0⟩ := RS_t R (v := 0)
      obtain ⟨R1, K1⟩ := RS_at R0 hp
      have t0 : (stm (stm ρ 91 15 0) 91 12 (stm ρ 91 15 0 91 12 + 1)) 91 15 = nI 0 := by rw [stm_row, upd_ne _ _ (by omega), stm_row, upd_at]; rfl
      refine ⟨_, ?_, R1, (KF_tr K0 K1)⟩
      · unfold F_X8_readsStatement
        rw [en, Option.bind_some, if_pos (show (100 : Int32) = 100 from rfl), numb_rn R1 h1, bd2_s, if_pos rfl]
  obtain ⟨q1, va, l1, m1, b1, cl1, rf1⟩ := numb h1 hz
  by_cases h2 : sg T z q1 32
  rotate_left
  · refine Or.inl ⟨q1, by omega, fun d σ C => ?_, fun d ρ R => ?_⟩
    · have en := next_c C
      rw [if_pos hp, hL] at en
      have C0 := CS_o (CS_o (CS_o (CS_o (CS_o C (j := 3) (v := 100) (by omega)) (j := 4) (v := 0) (by omega)) (j := 5) (v := 0) (by omega)) (j := 6) (v := 0) (by omega)) (j := 7) (v := 0) (by omega)
      have F3 : (stm (stm (stm (stm (stm σ 85 3 100) 85 4 0) 85 5 0) 85 6 0) 85 7 0) 85 3 = 100 := by simp only [stm_row]; simp (disch := omega) only [upd_ne, upd_at]
      obtain ⟨C1, K1⟩ := CS_at C0 hp
      obtain ⟨s1, a1, E1, k1⟩ := cl1 d _ C1
      have D2 := CS_o E1 (j := 4) (v := (nI va)) (by omega)
      obtain ⟨s3, a3, E3, k3⟩ := want_n D2 h2 (by decide)
      obtain ⟨s4, a4, E4, k4⟩ := digit_b E3
      have D5 := CS_o E4 (j := 5) (v := 0) (by omega)
      have a6 := skips_b (s := 108) D5
      have D7 := CS_o D5 (j := 7) (v := 0) (by omega)
      have a8 := skips_b (s := 119) D7
      obtain ⟨s9, a9, E9, k9⟩ := want_b (s := 59) D7
      refine ⟨_, ?_, E9, fun i hi => ?_⟩
      · unfold F_X3_readStatement
        rw [en, Option.bind_some, F3, if_pos (show (100 : Int32) = 100 from rfl)]
        unfold F_X3_readCart
        rw [a1, bd2_s, a3, Option.bind_some, a4, bd2_s, a6, bd2_s, ck_t _ (by decide), a8, bd2_s, if_pos rfl, Option.bind_some, a9, Option.bind_some]
      · rw [k9.1 i hi, stm_ne _ _ _ hi, stm_ne _ _ _ hi, k4.1 i hi, k3.1 i hi, stm_ne _ _ _ hi, k1.1 i hi, K1.1 i hi, stm_ne _ _ _ hi, stm_ne _ _ _ hi, stm_ne _ _ _ hi, stm_ne _ _ _ hi, stm_ne _ _ _ hi]
    · have en := here_r R
      rw [if_pos hp, hL] at en
      obtain ⟨R0, K0⟩ := RS_t R (v := 0)
      obtain ⟨R1, K1⟩ := RS_at R0 hp
      have t0 : (stm (stm ρ 91 15 0) 91 12 (stm ρ 91 15 0 91 12 + 1)) 91 15 = nI 0 := by rw [stm_row, upd_ne _ _ (by omega), stm_row, upd_at]; rfl
      obtain ⟨r1, b1, R11, L1, u1, t1⟩ := rf1 d _ 0 (by omega) R1 t0
      refine ⟨_, ?_, R11, (KF_tr K0 (KF_tr K1 L1))⟩
      · unfold F_X8_readsStatement
        rw [en, Option.bind_some, if_pos (show (100 : Int32) = 100 from rfl), b1, bd2_s, if_neg i10, takes_n R11 h2 (by decide), bd2_s, if_pos rfl]
  by_cases h3 : dg T z (q1 + 1)
  rotate_left
  · refine Or.inl ⟨q1 + 1, by omega, fun d σ C => ?_, fun d ρ R => ?_⟩
    · have en := next_c C
      rw [if_pos hp, hL] at en
      have C0 := CS_o (CS_o (CS_o (CS_o (CS_o C (j := 3) (v := 100) (by omega)) (j := 4) (v := 0) (by omega)) (j := 5) (v := 0) (by omega)) (j := 6) (v := 0) (by omega)) (j := 7) (v := 0) (by omega)
      have F3 : (stm (stm (stm (stm (stm σ 85 3 100) 85 4 0) 85 5 0) 85 6 0) 85 7 0) 85 3 = 100 := by simp only [stm_row]; simp (disch := omega) only [upd_ne, upd_at]
      obtain ⟨C1, K1⟩ := CS_at C0 hp
      obtain ⟨s1, a1, E1, k1⟩ := cl1 d _ C1
      have D2 := CS_o E1 (j := 4) (v := (nI va)) (by omega)
      obtain ⟨s3, a3, E3, k3⟩ := want_y D2 h2
      obtain ⟨s4, a4, E4, k4⟩ := digit_n E3 h3
      have D5 := CS_o E4 (j := 5) (v := 0) (by omega)
      have a6 := skips_b (s := 108) D5
      have D7 := CS_o D5 (j := 7) (v := 0) (by omega)
      have a8 := skips_b (s := 119) D7
      obtain ⟨s9, a9, E9, k9⟩ := want_b (s := 59) D7
      refine ⟨_, ?_, E9, fun i hi => ?_⟩
      · unfold F_X3_readStatement
        rw [en, Option.bind_some, F3, if_pos (show (100 : Int32) = 100 from rfl)]
        unfold F_X3_readCart
        rw [a1, bd2_s, a3, Option.bind_some, a4, bd2_s, a6, bd2_s, ck_t _ (by decide), a8, bd2_s, if_pos rfl, Option.bind_some, a9, Option.bind_some]
      · rw [k9.1 i hi, stm_ne _ _ _ hi, stm_ne _ _ _ hi, k4.1 i hi, k3.1 i hi, stm_ne _ _ _ hi, k1.1 i hi, K1.1 i hi, stm_ne _ _ _ hi, stm_ne _ _ _ hi, stm_ne _ _ _ hi, stm_ne _ _ _ hi, stm_ne _ _ _ hi]
    · have en := here_r R
      rw [if_pos hp, hL] at en
      obtain ⟨R0, K0⟩ := RS_t R (v := 0)
      obtain ⟨R1, K1⟩ := RS_at R0 hp
      have t0 : (stm (stm ρ 91 15 0) 91 12 (stm ρ 91 15 0 91 12 + 1)) 91 15 = nI 0 := by rw [stm_row, upd_ne _ _ (by omega), stm_row, upd_at]; rfl
      obtain ⟨r1, b1, R11, L1, u1, t1⟩ := rf1 d _ 0 (by omega) R1 t0
      obtain ⟨r2, b2, R12, L2, u2, t2⟩ := takes_y R11 h2
      have t2 := t2.trans t1
      refine ⟨_, ?_, R12, (KF_tr K0 (KF_tr K1 (KF_tr L1 L2)))⟩
      · unfold F_X8_readsStatement
        rw [en, Option.bind_some, if_pos (show (100 : Int32) = 100 from rfl), b1, bd2_s, if_neg i10, b2, bd2_s, if_neg i10, readsD_n R12 h3, bd2_s, if_pos rfl]
  have b2 := (dv_e h3).2.1
  by_cases h4 : sg T z (q1 + 2) 108
  · by_cases h5 : sg T z (q1 + 3) 119
    · by_cases h6 : dg T z (q1 + 4)
      rotate_left
      · refine Or.inl ⟨q1 + 4, by omega, fun d σ C => ?_, fun d ρ R => ?_⟩
        · have en := next_c C
          rw [if_pos hp, hL] at en
          have C0 := CS_o (CS_o (CS_o (CS_o (CS_o C (j := 3) (v := 100) (by omega)) (j := 4) (v := 0) (by omega)) (j := 5) (v := 0) (by omega)) (j := 6) (v := 0) (by omega)) (j := 7) (v := 0) (by omega)
          have F3 : (stm (stm (stm (stm (stm σ 85 3 100) 85 4 0) 85 5 0) 85 6 0) 85 7 0) 85 3 = 100 := by simp only [stm_row]; simp (disch := omega) only [upd_ne, upd_at]
          obtain ⟨C1, K1⟩ := CS_at C0 hp
          obtain ⟨s1, a1, E1, k1⟩ := cl1 d _ C1
          have D2 := CS_o E1 (j := 4) (v := (nI va)) (by omega)
          obtain ⟨s3, a3, E3, k3⟩ := want_y D2 h2
          obtain ⟨s4, a4, E4, k4⟩ := digit_y E3 h3
          have D5 := CS_o E4 (j := 5) (v := (nI (dv T (q1 + 1)))) (by omega)
          obtain ⟨s6, a6, E6, k6⟩ := skips_y D5 h4
          have D7 := CS_o E6 (j := 7) (v := 1) (by omega)
          obtain ⟨s8, a8, E8, k8⟩ := skips_y D7 h5
          obtain ⟨s9, a9, E9, k9⟩ := numb_n E8 h6
          have D10 := CS_o E9 (j := 6) (v := 0) (by omega)
          obtain ⟨s11, a11, E11, k11⟩ := want_b (s := 59) D10
          refine ⟨_, ?_, E11, fun i hi => ?_⟩
          · unfold F_X3_readStatement
            rw [en, Option.bind_some, F3, if_pos (show (100 : Int32) = 100 from rfl)]
            unfold F_X3_readCart
            rw [a1, bd2_s, a3, Option.bind_some, a4, bd2_s, a6, bd2_s, ck_t _ (by decide), a8, bd2_s, if_neg i10, a9, bd2_s, Option.bind_some, a11, Option.bind_some]
          · rw [k11.1 i hi, stm_ne _ _ _ hi, k9.1 i hi, k8.1 i hi, stm_ne _ _ _ hi, k6.1 i hi, stm_ne _ _ _ hi, k4.1 i hi, k3.1 i hi, stm_ne _ _ _ hi, k1.1 i hi, K1.1 i hi, stm_ne _ _ _ hi, stm_ne _ _ _ hi, stm_ne _ _ _ hi, stm_ne _ _ _ hi, stm_ne _ _ _ hi]
        · have en := here_r R
          rw [if_pos hp, hL] at en
          obtain ⟨R0, K0⟩ := RS_t R (v := 0)
          obtain ⟨R1, K1⟩ := RS_at R0 hp
          have t0 : (stm (stm ρ 91 15 0) 91 12 (stm ρ 91 15 0 91 12 + 1)) 91 15 = nI 0 := by rw [stm_row, upd_ne _ _ (by omega), stm_row, upd_at]; rfl
          obtain ⟨r1, b1, R11, L1, u1, t1⟩ := rf1 d _ 0 (by omega) R1 t0
          obtain ⟨r2, b2, R12, L2, u2, t2⟩ := takes_y R11 h2
          have t2 := t2.trans t1
          obtain ⟨r3, b3, R13, L3, u3, t3⟩ := readsD_y R12 h3 (by omega) t2
          obtain ⟨r4, b4, R14, L4, u4, t4⟩ := takes_y R13 h4
          have t4 := t4.trans t3
          obtain ⟨R15, L5⟩ := RS_o R14 (j := 2) (v := 1)
          have t5 : stm r4 102 2 1 91 15 = nI 2 := by rw [stm_ne _ _ _ (by omega)]; exact t4
          obtain ⟨R16, L6⟩ := RS_o R15 (j := 3) (v := 0)
          have t6 : stm (stm r4 102 2 1) 102 3 0 91 15 = nI 2 := by rw [stm_ne _ _ _ (by omega)]; exact t5
          obtain ⟨R17, L7⟩ := RS_t R16 (v := 3)
          have t7 : stm (stm (stm r4 102 2 1) 102 3 0) 91 15 3 91 15 = nI 3 := by rw [stm_row, upd_at]; rfl
          obtain ⟨r8, b8, R18, L8, u8, t8⟩ := takes_y R17 h5
          have t8 := t8.trans t7
          refine ⟨_, ?_, R18, (KF_tr K0 (KF_tr K1 (KF_tr L1 (KF_tr L2 (KF_tr L3 (KF_tr L4 (KF_tr L5 (KF_tr L6 (KF_tr L7 L8)))))))))⟩
          · unfold F_X8_readsStatement
            rw [en, Option.bind_some, if_pos (show (100 : Int32) = 100 from rfl), b1, bd2_s, if_neg i10, b2, bd2_s, if_neg i10, b3, bd2_s, if_neg i10, b4, bd2_s, if_neg i10, b8, bd2_s, if_neg i10, numb_rn R18 h6, bd2_s, if_pos rfl]
      obtain ⟨q2, vb, l2, m2, b3, cl2, rf2⟩ := numb h6 hz
      by_cases hq : sg T z q2 59
      rotate_left
      · refine Or.inl ⟨q2, by omega, fun d σ C => ?_, fun d ρ R => ?_⟩
        · have en := next_c C
          rw [if_pos hp, hL] at en
          have C0 := CS_o (CS_o (CS_o (CS_o (CS_o C (j := 3) (v := 100) (by omega)) (j := 4) (v := 0) (by omega)) (j := 5) (v := 0) (by omega)) (j := 6) (v := 0) (by omega)) (j := 7) (v := 0) (by omega)
          have F3 : (stm (stm (stm (stm (stm σ 85 3 100) 85 4 0) 85 5 0) 85 6 0) 85 7 0) 85 3 = 100 := by simp only [stm_row]; simp (disch := omega) only [upd_ne, upd_at]
          obtain ⟨C1, K1⟩ := CS_at C0 hp
          obtain ⟨s1, a1, E1, k1⟩ := cl1 d _ C1
          have D2 := CS_o E1 (j := 4) (v := (nI va)) (by omega)
          obtain ⟨s3, a3, E3, k3⟩ := want_y D2 h2
          obtain ⟨s4, a4, E4, k4⟩ := digit_y E3 h3
          have D5 := CS_o E4 (j := 5) (v := (nI (dv T (q1 + 1)))) (by omega)
          obtain ⟨s6, a6, E6, k6⟩ := skips_y D5 h4
          have D7 := CS_o E6 (j := 7) (v := 1) (by omega)
          obtain ⟨s8, a8, E8, k8⟩ := skips_y D7 h5
          obtain ⟨s9, a9, E9, k9⟩ := cl2 d _ E8
          have D10 := CS_o E9 (j := 6) (v := (nI vb)) (by omega)
          obtain ⟨s11, a11, E11, k11⟩ := want_n D10 hq (by decide)
          refine ⟨_, ?_, E11, fun i hi => ?_⟩
          · unfold F_X3_readStatement
            rw [en, Option.bind_some, F3, if_pos (show (100 : Int32) = 100 from rfl)]
            unfold F_X3_readCart
            rw [a1, bd2_s, a3, Option.bind_some, a4, bd2_s, a6, bd2_s, ck_t _ (by decide), a8, bd2_s, if_neg i10, a9, bd2_s, Option.bind_some, a11, Option.bind_some]
          · rw [k11.1 i hi, stm_ne _ _ _ hi, k9.1 i hi, k8.1 i hi, stm_ne _ _ _ hi, k6.1 i hi, stm_ne _ _ _ hi, k4.1 i hi, k3.1 i hi, stm_ne _ _ _ hi, k1.1 i hi, K1.1 i hi, stm_ne _ _ _ hi, stm_ne _ _ _ hi, stm_ne _ _ _ hi, stm_ne _ _ _ hi, stm_ne _ _ _ hi]
        · have en := here_r R
          rw [if_pos hp, hL] at en
          obtain ⟨R0, K0⟩ := RS_t R (v := 0)
          obtain ⟨R1, K1⟩ := RS_at R0 hp
          have t0 : (stm (stm ρ 91 15 0) 91 12 (stm ρ 91 15 0 91 12 + 1)) 91 15 = nI 0 := by rw [stm_row, upd_ne _ _ (by omega), stm_row, upd_at]; rfl
          obtain ⟨r1, b1, R11, L1, u1, t1⟩ := rf1 d _ 0 (by omega) R1 t0
          obtain ⟨r2, b2, R12, L2, u2, t2⟩ := takes_y R11 h2
          have t2 := t2.trans t1
          obtain ⟨r3, b3, R13, L3, u3, t3⟩ := readsD_y R12 h3 (by omega) t2
          obtain ⟨r4, b4, R14, L4, u4, t4⟩ := takes_y R13 h4
          have t4 := t4.trans t3
          obtain ⟨R15, L5⟩ := RS_o R14 (j := 2) (v := 1)
          have t5 : stm r4 102 2 1 91 15 = nI 2 := by rw [stm_ne _ _ _ (by omega)]; exact t4
          obtain ⟨R16, L6⟩ := RS_o R15 (j := 3) (v := 0)
          have t6 : stm (stm r4 102 2 1) 102 3 0 91 15 = nI 2 := by rw [stm_ne _ _ _ (by omega)]; exact t5
          obtain ⟨R17, L7⟩ := RS_t R16 (v := 3)
          have t7 : stm (stm (stm r4 102 2 1) 102 3 0) 91 15 3 91 15 = nI 3 := by rw [stm_row, upd_at]; rfl
          obtain ⟨r8, b8, R18, L8, u8, t8⟩ := takes_y R17 h5
          have t8 := t8.trans t7
          obtain ⟨r9, b9, R19, L9, u9, t9⟩ := rf2 d _ 3 (by omega) R18 t8
          refine ⟨_, ?_, R19, (KF_tr K0 (KF_tr K1 (KF_tr L1 (KF_tr L2 (KF_tr L3 (KF_tr L4 (KF_tr L5 (KF_tr L6 (KF_tr L7 (KF_tr L8 L9))))))))))⟩
          · unfold F_X8_readsStatement
            rw [en, Option.bind_some, if_pos (show (100 : Int32) = 100 from rfl), b1, bd2_s, if_neg i10, b2, bd2_s, if_neg i10, b3, bd2_s, if_neg i10, b4, bd2_s, if_neg i10, b8, bd2_s, if_neg i10, b9, bd2_s, if_neg i10, takes_n R19 hq (by decide), bd2_s, ck_t _ (by decide)]
      · refine Or.inr ⟨q2 + 1, 100, va, dv T (q1 + 1), vb, 1, ⟨by omega, by have := hq.1; omega, hp, hL, Or.inr ⟨Or.inr rfl, b1, b2, b3, by omega⟩⟩, fun d σ C => ?_, fun d ρ R => ?_⟩
        · have en := next_c C
          rw [if_pos hp, hL] at en
          have C0 := CS_o (CS_o (CS_o (CS_o (CS_o C (j := 3) (v := 100) (by omega)) (j := 4) (v := 0) (by omega)) (j := 5) (v := 0) (by omega)) (j := 6) (v := 0) (by omega)) (j := 7) (v := 0) (by omega)
          have F3 : (stm (stm (stm (stm (stm σ 85 3 100) 85 4 0) 85 5 0) 85 6 0) 85 7 0) 85 3 = 100 := by simp only [stm_row]; simp (disch := omega) only [upd_ne, upd_at]
          obtain ⟨C1, K1⟩ := CS_at C0 hp
          obtain ⟨s1, a1, E1, k1⟩ := cl1 d _ C1
          have D2 := CS_o E1 (j := 4) (v := (nI va)) (by omega)
          obtain ⟨s3, a3, E3, k3⟩ := want_y D2 h2
          obtain ⟨s4, a4, E4, k4⟩ := digit_y E3 h3
          have D5 := CS_o E4 (j := 5) (v := (nI (dv T (q1 + 1)))) (by omega)
          obtain ⟨s6, a6, E6, k6⟩ := skips_y D5 h4
          have D7 := CS_o E6 (j := 7) (v := 1) (by omega)
          obtain ⟨s8, a8, E8, k8⟩ := skips_y D7 h5
          obtain ⟨s9, a9, E9, k9⟩ := cl2 d _ E8
          have D10 := CS_o E9 (j := 6) (v := (nI vb)) (by omega)
          obtain ⟨s11, a11, E11, k11⟩ := want_y D10 hq
          refine ⟨_, ?_, E11, fun i hi => ?_, ?_, ?_, ?_, ?_, ?_⟩
          · unfold F_X3_readStatement
            rw [en, Option.bind_some, F3, if_pos (show (100 : Int32) = 100 from rfl)]
            unfold F_X3_readCart
            rw [a1, bd2_s, a3, Option.bind_some, a4, bd2_s, a6, bd2_s, ck_t _ (by decide), a8, bd2_s, if_neg i10, a9, bd2_s, Option.bind_some, a11, Option.bind_some]
          · rw [k11.1 i hi, stm_ne _ _ _ hi, k9.1 i hi, k8.1 i hi, stm_ne _ _ _ hi, k6.1 i hi, stm_ne _ _ _ hi, k4.1 i hi, k3.1 i hi, stm_ne _ _ _ hi, k1.1 i hi, K1.1 i hi, stm_ne _ _ _ hi, stm_ne _ _ _ hi, stm_ne _ _ _ hi, stm_ne _ _ _ hi, stm_ne _ _ _ hi]
          · rw [k11.2 3 (by omega) (by omega), stm_row, upd_ne _ _ (by omega), k9.2 3 (by omega) (by omega), k8.2 3 (by omega) (by omega), stm_row, upd_ne _ _ (by omega), k6.2 3 (by omega) (by omega), stm_row, upd_ne _ _ (by omega), k4.2 3 (by omega) (by omega), k3.2 3 (by omega) (by omega), stm_row, upd_ne _ _ (by omega), k1.2 3 (by omega) (by omega), K1.2 3 (by omega) (by omega)]; simp only [stm_row]; simp (disch := omega) only [upd_ne, upd_at]
          · rw [k11.2 4 (by omega) (by omega), stm_row, upd_ne _ _ (by omega), k9.2 4 (by omega) (by omega), k8.2 4 (by omega) (by omega), stm_row, upd_ne _ _ (by omega), k6.2 4 (by omega) (by omega), stm_row, upd_ne _ _ (by omega), k4.2 4 (by omega) (by omega), k3.2 4 (by omega) (by omega), stm_row, upd_at]
          · rw [k11.2 5 (by omega) (by omega), stm_row, upd_ne _ _ (by omega), k9.2 5 (by omega) (by omega), k8.2 5 (by omega) (by omega), stm_row, upd_ne _ _ (by omega), k6.2 5 (by omega) (by omega), stm_row, upd_at]
          · rw [k11.2 6 (by omega) (by omega), stm_row, upd_at]
          · rw [k11.2 7 (by omega) (by omega), stm_row, upd_ne _ _ (by omega), k9.2 7 (by omega) (by omega), k8.2 7 (by omega) (by omega), stm_row, upd_at]; rfl
        · have en := here_r R
          rw [if_pos hp, hL] at en
          obtain ⟨R0, K0⟩ := RS_t R (v := 0)
          obtain ⟨R1, K1⟩ := RS_at R0 hp
          have t0 : (stm (stm ρ 91 15 0) 91 12 (stm ρ 91 15 0 91 12 + 1)) 91 15 = nI 0 := by rw [stm_row, upd_ne _ _ (by omega), stm_row, upd_at]; rfl
          obtain ⟨r1, b1, R11, L1, u1, t1⟩ := rf1 d _ 0 (by omega) R1 t0
          obtain ⟨r2, b2, R12, L2, u2, t2⟩ := takes_y R11 h2
          have t2 := t2.trans t1
          obtain ⟨r3, b3, R13, L3, u3, t3⟩ := readsD_y R12 h3 (by omega) t2
          obtain ⟨r4, b4, R14, L4, u4, t4⟩ := takes_y R13 h4
          have t4 := t4.trans t3
          obtain ⟨R15, L5⟩ := RS_o R14 (j := 2) (v := 1)
          have t5 : stm r4 102 2 1 91 15 = nI 2 := by rw [stm_ne _ _ _ (by omega)]; exact t4
          obtain ⟨R16, L6⟩ := RS_o R15 (j := 3) (v := 0)
          have t6 : stm (stm r4 102 2 1) 102 3 0 91 15 = nI 2 := by rw [stm_ne _ _ _ (by omega)]; exact t5
          obtain ⟨R17, L7⟩ := RS_t R16 (v := 3)
          have t7 : stm (stm (stm r4 102 2 1) 102 3 0) 91 15 3 91 15 = nI 3 := by rw [stm_row, upd_at]; rfl
          obtain ⟨r8, b8, R18, L8, u8, t8⟩ := takes_y R17 h5
          have t8 := t8.trans t7
          obtain ⟨r9, b9, R19, L9, u9, t9⟩ := rf2 d _ 3 (by omega) R18 t8
          obtain ⟨r10, b10, R20, L10, u10, t10⟩ := takes_y R19 hq
          have t10 := t10.trans t9
          refine ⟨_, ?_, R20, (KF_tr K0 (KF_tr K1 (KF_tr L1 (KF_tr L2 (KF_tr L3 (KF_tr L4 (KF_tr L5 (KF_tr L6 (KF_tr L7 (KF_tr L8 (KF_tr L9 L10))))))))))), ?_, ?_, ?_, ?_⟩
          · unfold F_X8_readsStatement
            rw [en, Option.bind_some, if_pos (show (100 : Int32) = 100 from rfl), b1, bd2_s, if_neg i10, b2, bd2_s, if_neg i10, b3, bd2_s, if_neg i10, b4, bd2_s, if_neg i10, b8, bd2_s, if_neg i10, b9, bd2_s, if_neg i10, b10, bd2_s, ck_t _ (by decide)]
          · rw [u10, u9, upd_ne _ _ (by omega), u8, stm_ne _ _ _ (by omega), stm_row, upd_ne _ _ (by omega), stm_row, upd_ne _ _ (by omega), u4, u3, upd_ne _ _ (by omega), u2, u1, upd_at]
          · rw [u10, u9, upd_ne _ _ (by omega), u8, stm_ne _ _ _ (by omega), stm_row, upd_ne _ _ (by omega), stm_row, upd_ne _ _ (by omega), u4, u3, upd_at]
          · intro q; exact absurd q (by decide)
          · intro _
            refine ⟨?_, ?_⟩
            · rw [u10, u9, upd_ne _ _ (by omega), u8, stm_ne _ _ _ (by omega), stm_row, upd_ne _ _ (by omega), stm_row, upd_at]; rfl
            · rw [u10, u9, upd_at]
    · by_cases hq : sg T z (q1 + 3) 59
      rotate_left
      · refine Or.inl ⟨q1 + 3, by omega, fun d σ C => ?_, fun d ρ R => ?_⟩
        · have en := next_c C
          rw [if_pos hp, hL] at en
          have C0 := CS_o (CS_o (CS_o (CS_o (CS_o C (j := 3) (v := 100) (by omega)) (j := 4) (v := 0) (by omega)) (j := 5) (v := 0) (by omega)) (j := 6) (v := 0) (by omega)) (j := 7) (v := 0) (by omega)
          have F3 : (stm (stm (stm (stm (stm σ 85 3 100) 85 4 0) 85 5 0) 85 6 0) 85 7 0) 85 3 = 100 := by simp only [stm_row]; simp (disch := omega) only [upd_ne, upd_at]
          obtain ⟨C1, K1⟩ := CS_at C0 hp
          obtain ⟨s1, a1, E1, k1⟩ := cl1 d _ C1
          have D2 := CS_o E1 (j := 4) (v := (nI va)) (by omega)
          obtain ⟨s3, a3, E3, k3⟩ := want_y D2 h2
          obtain ⟨s4, a4, E4, k4⟩ := digit_y E3 h3
          have D5 := CS_o E4 (j := 5) (v := (nI (dv T (q1 + 1)))) (by omega)
          obtain ⟨s6, a6, E6, k6⟩ := skips_y D5 h4
          have D7 := CS_o E6 (j := 7) (v := 1) (by omega)
          have a8 := skips_n D7 h5 (by decide)
          obtain ⟨s9, a9, E9, k9⟩ := want_n D7 hq (by decide)
          refine ⟨_, ?_, E9, fun i hi => ?_⟩
          · unfold F_X3_readStatement
            rw [en, Option.bind_some, F3, if_pos (show (100 : Int32) = 100 from rfl)]
            unfold F_X3_readCart
            rw [a1, bd2_s, a3, Option.bind_some, a4, bd2_s, a6, bd2_s, ck_t _ (by decide), a8, bd2_s, if_pos rfl, Option.bind_some, a9, Option.bind_some]
          · rw [k9.1 i hi, stm_ne _ _ _ hi, k6.1 i hi, stm_ne _ _ _ hi, k4.1 i hi, k3.1 i hi, stm_ne _ _ _ hi, k1.1 i hi, K1.1 i hi, stm_ne _ _ _ hi, stm_ne _ _ _ hi, stm_ne _ _ _ hi, stm_ne _ _ _ hi, stm_ne _ _ _ hi]
        · have en := here_r R
          rw [if_pos hp, hL] at en
          obtain ⟨R0, K0⟩ := RS_t R (v := 0)
          obtain ⟨R1, K1⟩ := RS_at R0 hp
          have t0 : (stm (stm ρ 91 15 0) 91 12 (stm ρ 91 15 0 91 12 + 1)) 91 15 = nI 0 := by rw [stm_row, upd_ne _ _ (by omega), stm_row, upd_at]; rfl
          obtain ⟨r1, b1, R11, L1, u1, t1⟩ := rf1 d _ 0 (by omega) R1 t0
          obtain ⟨r2, b2, R12, L2, u2, t2⟩ := takes_y R11 h2
          have t2 := t2.trans t1
          obtain ⟨r3, b3, R13, L3, u3, t3⟩ := readsD_y R12 h3 (by omega) t2
          obtain ⟨r4, b4, R14, L4, u4, t4⟩ := takes_y R13 h4
          have t4 := t4.trans t3
          obtain ⟨R15, L5⟩ := RS_o R14 (j := 2) (v := 1)
          have t5 : stm r4 102 2 1 91 15 = nI 2 := by rw [stm_ne _ _ _ (by omega)]; exact t4
          obtain ⟨R16, L6⟩ := RS_o R15 (j := 3) (v := 0)
          have t6 : stm (stm r4 102 2 1) 102 3 0 91 15 = nI 2 := by rw [stm_ne _ _ _ (by omega)]; exact t5
          obtain ⟨R17, L7⟩ := RS_t R16 (v := 3)
          have t7 : stm (stm (stm r4 102 2 1) 102 3 0) 91 15 3 91 15 = nI 3 := by rw [stm_row, upd_at]; rfl
          refine ⟨_, ?_, R17, (KF_tr K0 (KF_tr K1 (KF_tr L1 (KF_tr L2 (KF_tr L3 (KF_tr L4 (KF_tr L5 (KF_tr L6 L7))))))))⟩
          · unfold F_X8_readsStatement
            rw [en, Option.bind_some, if_pos (show (100 : Int32) = 100 from rfl), b1, bd2_s, if_neg i10, b2, bd2_s, if_neg i10, b3, bd2_s, if_neg i10, b4, bd2_s, if_neg i10, takes_n R17 h5 (by decide), bd2_s, if_pos rfl, takes_n R17 hq (by decide), bd2_s, ck_t _ (by decide)]
      · refine Or.inr ⟨q1 + 4, 100, va, dv T (q1 + 1), 0, 1, ⟨by omega, by have := hq.1; omega, hp, hL, Or.inr ⟨Or.inr rfl, b1, b2, by omega, by omega⟩⟩, fun d σ C => ?_, fun d ρ R => ?_⟩
        · have en := next_c C
          rw [if_pos hp, hL] at en
          have C0 := CS_o (CS_o (CS_o (CS_o (CS_o C (j := 3) (v := 100) (by omega)) (j := 4) (v := 0) (by omega)) (j := 5) (v := 0) (by omega)) (j := 6) (v := 0) (by omega)) (j := 7) (v := 0) (by omega)
          have F3 : (stm (stm (stm (stm (stm σ 85 3 100) 85 4 0) 85 5 0) 85 6 0) 85 7 0) 85 3 = 100 := by simp only [stm_row]; simp (disch := omega) only [upd_ne, upd_at]
          obtain ⟨C1, K1⟩ := CS_at C0 hp
          obtain ⟨s1, a1, E1, k1⟩ := cl1 d _ C1
          have D2 := CS_o E1 (j := 4) (v := (nI va)) (by omega)
          obtain ⟨s3, a3, E3, k3⟩ := want_y D2 h2
          obtain ⟨s4, a4, E4, k4⟩ := digit_y E3 h3
          have D5 := CS_o E4 (j := 5) (v := (nI (dv T (q1 + 1)))) (by omega)
          obtain ⟨s6, a6, E6, k6⟩ := skips_y D5 h4
          have D7 := CS_o E6 (j := 7) (v := 1) (by omega)
          have a8 := skips_n D7 h5 (by decide)
          obtain ⟨s9, a9, E9, k9⟩ := want_y D7 hq
          refine ⟨_, ?_, E9, fun i hi => ?_, ?_, ?_, ?_, ?_, ?_⟩
          · unfold F_X3_readStatement
            rw [en, Option.bind_some, F3, if_pos (show (100 : Int32) = 100 from rfl)]
            unfold F_X3_readCart
            rw [a1, bd2_s, a3, Option.bind_some, a4, bd2_s, a6, bd2_s, ck_t _ (by decide), a8, bd2_s, if_pos rfl, Option.bind_some, a9, Option.bind_some]
          · rw [k9.1 i hi, stm_ne _ _ _ hi, k6.1 i hi, stm_ne _ _ _ hi, k4.1 i hi, k3.1 i hi, stm_ne _ _ _ hi, k1.1 i hi, K1.1 i hi, stm_ne _ _ _ hi, stm_ne _ _ _ hi, stm_ne _ _ _ hi, stm_ne _ _ _ hi, stm_ne _ _ _ hi]
          · rw [k9.2 3 (by omega) (by omega), stm_row, upd_ne _ _ (by omega), k6.2 3 (by omega) (by omega), stm_row, upd_ne _ _ (by omega), k4.2 3 (by omega) (by omega), k3.2 3 (by omega) (by omega), stm_row, upd_ne _ _ (by omega), k1.2 3 (by omega) (by omega), K1.2 3 (by omega) (by omega)]; simp only [stm_row]; simp (disch := omega) only [upd_ne, upd_at]
          · rw [k9.2 4 (by omega) (by omega), stm_row, upd_ne _ _ (by omega), k6.2 4 (by omega) (by omega), stm_row, upd_ne _ _ (by omega), k4.2 4 (by omega) (by omega), k3.2 4 (by omega) (by omega), stm_row, upd_at]
          · rw [k9.2 5 (by omega) (by omega), stm_row, upd_ne _ _ (by omega), k6.2 5 (by omega) (by omega), stm_row, upd_at]
          · rw [k9.2 6 (by omega) (by omega), stm_row, upd_ne _ _ (by omega), k6.2 6 (by omega) (by omega), stm_row, upd_ne _ _ (by omega), k4.2 6 (by omega) (by omega), k3.2 6 (by omega) (by omega), stm_row, upd_ne _ _ (by omega), k1.2 6 (by omega) (by omega), K1.2 6 (by omega) (by omega)]; simp only [stm_row]; simp (disch := omega) only [upd_ne, upd_at]; rfl
          · rw [k9.2 7 (by omega) (by omega), stm_row, upd_at]; rfl
        · have en := here_r R
          rw [if_pos hp, hL] at en
          obtain ⟨R0, K0⟩ := RS_t R (v := 0)
          obtain ⟨R1, K1⟩ := RS_at R0 hp
          have t0 : (stm (stm ρ 91 15 0) 91 12 (stm ρ 91 15 0 91 12 + 1)) 91 15 = nI 0 := by rw [stm_row, upd_ne _ _ (by omega), stm_row, upd_at]; rfl
          obtain ⟨r1, b1, R11, L1, u1, t1⟩ := rf1 d _ 0 (by omega) R1 t0
          obtain ⟨r2, b2, R12, L2, u2, t2⟩ := takes_y R11 h2
          have t2 := t2.trans t1
          obtain ⟨r3, b3, R13, L3, u3, t3⟩ := readsD_y R12 h3 (by omega) t2
          obtain ⟨r4, b4, R14, L4, u4, t4⟩ := takes_y R13 h4
          have t4 := t4.trans t3
          obtain ⟨R15, L5⟩ := RS_o R14 (j := 2) (v := 1)
          have t5 : stm r4 102 2 1 91 15 = nI 2 := by rw [stm_ne _ _ _ (by omega)]; exact t4
          obtain ⟨R16, L6⟩ := RS_o R15 (j := 3) (v := 0)
          have t6 : stm (stm r4 102 2 1) 102 3 0 91 15 = nI 2 := by rw [stm_ne _ _ _ (by omega)]; exact t5
          obtain ⟨R17, L7⟩ := RS_t R16 (v := 3)
          have t7 : stm (stm (stm r4 102 2 1) 102 3 0) 91 15 3 91 15 = nI 3 := by rw [stm_row, upd_at]; rfl
          obtain ⟨r8, b8, R18, L8, u8, t8⟩ := takes_y R17 hq
          have t8 := t8.trans t7
          refine ⟨_, ?_, R18, (KF_tr K0 (KF_tr K1 (KF_tr L1 (KF_tr L2 (KF_tr L3 (KF_tr L4 (KF_tr L5 (KF_tr L6 (KF_tr L7 L8))))))))), ?_, ?_, ?_, ?_⟩
          · unfold F_X8_readsStatement
            rw [en, Option.bind_some, if_pos (show (100 : Int32) = 100 from rfl), b1, bd2_s, if_neg i10, b2, bd2_s, if_neg i10, b3, bd2_s, if_neg i10, b4, bd2_s, if_neg i10, takes_n R17 h5 (by decide), bd2_s, if_pos rfl, b8, bd2_s, ck_t _ (by decide)]
          · rw [u8, stm_ne _ _ _ (by omega), stm_row, upd_ne _ _ (by omega), stm_row, upd_ne _ _ (by omega), u4, u3, upd_ne _ _ (by omega), u2, u1, upd_at]
          · rw [u8, stm_ne _ _ _ (by omega), stm_row, upd_ne _ _ (by omega), stm_row, upd_ne _ _ (by omega), u4, u3, upd_at]
          · intro q; exact absurd q (by decide)
          · intro _
            refine ⟨?_, ?_⟩
            · rw [u8, stm_ne _ _ _ (by omega), stm_row, upd_ne _ _ (by omega), stm_row, upd_at]; rfl
            · rw [u8, stm_ne _ _ _ (by omega), stm_row, upd_at]; rfl
  · by_cases h5 : sg T z (q1 + 2) 119
    · by_cases h6 : dg T z (q1 + 3)
      rotate_left
      · refine Or.inl ⟨q1 + 3, by omega, fun d σ C => ?_, fun d ρ R => ?_⟩
        · have en := next_c C
          rw [if_pos hp, hL] at en
          have C0 := CS_o (CS_o (CS_o (CS_o (CS_o C (j := 3) (v := 100) (by omega)) (j := 4) (v := 0) (by omega)) (j := 5) (v := 0) (by omega)) (j := 6) (v := 0) (by omega)) (j := 7) (v := 0) (by omega)
          have F3 : (stm (stm (stm (stm (stm σ 85 3 100) 85 4 0) 85 5 0) 85 6 0) 85 7 0) 85 3 = 100 := by simp only [stm_row]; simp (disch := omega) only [upd_ne, upd_at]
          obtain ⟨C1, K1⟩ := CS_at C0 hp
          obtain ⟨s1, a1, E1, k1⟩ := cl1 d _ C1
          have D2 := CS_o E1 (j := 4) (v := (nI va)) (by omega)
          obtain ⟨s3, a3, E3, k3⟩ := want_y D2 h2
          obtain ⟨s4, a4, E4, k4⟩ := digit_y E3 h3
          have D5 := CS_o E4 (j := 5) (v := (nI (dv T (q1 + 1)))) (by omega)
          have a6 := skips_n D5 h4 (by decide)
          have D7 := CS_o D5 (j := 7) (v := 0) (by omega)
          obtain ⟨s8, a8, E8, k8⟩ := skips_y D7 h5
          obtain ⟨s9, a9, E9, k9⟩ := numb_n E8 h6
          have D10 := CS_o E9 (j := 6) (v := 0) (by omega)
          obtain ⟨s11, a11, E11, k11⟩ := want_b (s := 59) D10
          refine ⟨_, ?_, E11, fun i hi => ?_⟩
          · unfold F_X3_readStatement
            rw [en, Option.bind_some, F3, if_pos (show (100 : Int32) = 100 from rfl)]
            unfold F_X3_readCart
            rw [a1, bd2_s, a3, Option.bind_some, a4, bd2_s, a6, bd2_s, ck_t _ (by decide), a8, bd2_s, if_neg i10, a9, bd2_s, Option.bind_some, a11, Option.bind_some]
          · rw [k11.1 i hi, stm_ne _ _ _ hi, k9.1 i hi, k8.1 i hi, stm_ne _ _ _ hi, stm_ne _ _ _ hi, k4.1 i hi, k3.1 i hi, stm_ne _ _ _ hi, k1.1 i hi, K1.1 i hi, stm_ne _ _ _ hi, stm_ne _ _ _ hi, stm_ne _ _ _ hi, stm_ne _ _ _ hi, stm_ne _ _ _ hi]
        · have en := here_r R
          rw [if_pos hp, hL] at en
          obtain ⟨R0, K0⟩ := RS_t R (v := 0)
          obtain ⟨R1, K1⟩ := RS_at R0 hp
          have t0 : (stm (stm ρ 91 15 0) 91 12 (stm ρ 91 15 0 91 12 + 1)) 91 15 = nI 0 := by rw [stm_row, upd_ne _ _ (by omega), stm_row, upd_at]; rfl
          obtain ⟨r1, b1, R11, L1, u1, t1⟩ := rf1 d _ 0 (by omega) R1 t0
          obtain ⟨r2, b2, R12, L2, u2, t2⟩ := takes_y R11 h2
          have t2 := t2.trans t1
          obtain ⟨r3, b3, R13, L3, u3, t3⟩ := readsD_y R12 h3 (by omega) t2
          obtain ⟨R14, L4⟩ := RS_o R13 (j := 2) (v := 0)
          have t4 : stm r3 102 2 0 91 15 = nI 2 := by rw [stm_ne _ _ _ (by omega)]; exact t3
          obtain ⟨R15, L5⟩ := RS_o R14 (j := 3) (v := 0)
          have t5 : stm (stm r3 102 2 0) 102 3 0 91 15 = nI 2 := by rw [stm_ne _ _ _ (by omega)]; exact t4
          obtain ⟨R16, L6⟩ := RS_t R15 (v := 3)
          have t6 : stm (stm (stm r3 102 2 0) 102 3 0) 91 15 3 91 15 = nI 3 := by rw [stm_row, upd_at]; rfl
          obtain ⟨r7, b7, R17, L7, u7, t7⟩ := takes_y R16 h5
          have t7 := t7.trans t6
          refine ⟨_, ?_, R17, (KF_tr K0 (KF_tr K1 (KF_tr L1 (KF_tr L2 (KF_tr L3 (KF_tr L4 (KF_tr L5 (KF_tr L6 L7))))))))⟩
          · unfold F_X8_readsStatement
            rw [en, Option.bind_some, if_pos (show (100 : Int32) = 100 from rfl), b1, bd2_s, if_neg i10, b2, bd2_s, if_neg i10, b3, bd2_s, if_neg i10, takes_n R13 h4 (by decide), bd2_s, if_pos rfl, b7, bd2_s, if_neg i10, numb_rn R17 h6, bd2_s, if_pos rfl]
      obtain ⟨q2, vb, l2, m2, b3, cl2, rf2⟩ := numb h6 hz
      by_cases hq : sg T z q2 59
      rotate_left
      · refine Or.inl ⟨q2, by omega, fun d σ C => ?_, fun d ρ R => ?_⟩
        · have en := next_c C
          rw [if_pos hp, hL] at en
          have C0 := CS_o (CS_o (CS_o (CS_o (CS_o C (j := 3) (v := 100) (by omega)) (j := 4) (v := 0) (by omega)) (j := 5) (v := 0) (by omega)) (j := 6) (v := 0) (by omega)) (j := 7) (v := 0) (by omega)
          have F3 : (stm (stm (stm (stm (stm σ 85 3 100) 85 4 0) 85 5 0) 85 6 0) 85 7 0) 85 3 = 100 := by simp only [stm_row]; simp (disch := omega) only [upd_ne, upd_at]
          obtain ⟨C1, K1⟩ := CS_at C0 hp
          obtain ⟨s1, a1, E1, k1⟩ := cl1 d _ C1
          have D2 := CS_o E1 (j := 4) (v := (nI va)) (by omega)
          obtain ⟨s3, a3, E3, k3⟩ := want_y D2 h2
          obtain ⟨s4, a4, E4, k4⟩ := digit_y E3 h3
          have D5 := CS_o E4 (j := 5) (v := (nI (dv T (q1 + 1)))) (by omega)
          have a6 := skips_n D5 h4 (by decide)
          have D7 := CS_o D5 (j := 7) (v := 0) (by omega)
          obtain ⟨s8, a8, E8, k8⟩ := skips_y D7 h5
          obtain ⟨s9, a9, E9, k9⟩ := cl2 d _ E8
          have D10 := CS_o E9 (j := 6) (v := (nI vb)) (by omega)
          obtain ⟨s11, a11, E11, k11⟩ := want_n D10 hq (by decide)
          refine ⟨_, ?_, E11, fun i hi => ?_⟩
          · unfold F_X3_readStatement
            rw [en, Option.bind_some, F3, if_pos (show (100 : Int32) = 100 from rfl)]
            unfold F_X3_readCart
            rw [a1, bd2_s, a3, Option.bind_some, a4, bd2_s, a6, bd2_s, ck_t _ (by decide), a8, bd2_s, if_neg i10, a9, bd2_s, Option.bind_some, a11, Option.bind_some]
          · rw [k11.1 i hi, stm_ne _ _ _ hi, k9.1 i hi, k8.1 i hi, stm_ne _ _ _ hi, stm_ne _ _ _ hi, k4.1 i hi, k3.1 i hi, stm_ne _ _ _ hi, k1.1 i hi, K1.1 i hi, stm_ne _ _ _ hi, stm_ne _ _ _ hi, stm_ne _ _ _ hi, stm_ne _ _ _ hi, stm_ne _ _ _ hi]
        · have en := here_r R
          rw [if_pos hp, hL] at en
          obtain ⟨R0, K0⟩ := RS_t R (v := 0)
          obtain ⟨R1, K1⟩ := RS_at R0 hp
          have t0 : (stm (stm ρ 91 15 0) 91 12 (stm ρ 91 15 0 91 12 + 1)) 91 15 = nI 0 := by rw [stm_row, upd_ne _ _ (by omega), stm_row, upd_at]; rfl
          obtain ⟨r1, b1, R11, L1, u1, t1⟩ := rf1 d _ 0 (by omega) R1 t0
          obtain ⟨r2, b2, R12, L2, u2, t2⟩ := takes_y R11 h2
          have t2 := t2.trans t1
          obtain ⟨r3, b3, R13, L3, u3, t3⟩ := readsD_y R12 h3 (by omega) t2
          obtain ⟨R14, L4⟩ := RS_o R13 (j := 2) (v := 0)
          have t4 : stm r3 102 2 0 91 15 = nI 2 := by rw [stm_ne _ _ _ (by omega)]; exact t3
          obtain ⟨R15, L5⟩ := RS_o R14 (j := 3) (v := 0)
          have t5 : stm (stm r3 102 2 0) 102 3 0 91 15 = nI 2 := by rw [stm_ne _ _ _ (by omega)]; exact t4
          obtain ⟨R16, L6⟩ := RS_t R15 (v := 3)
          have t6 : stm (stm (stm r3 102 2 0) 102 3 0) 91 15 3 91 15 = nI 3 := by rw [stm_row, upd_at]; rfl
          obtain ⟨r7, b7, R17, L7, u7, t7⟩ := takes_y R16 h5
          have t7 := t7.trans t6
          obtain ⟨r8, b8, R18, L8, u8, t8⟩ := rf2 d _ 3 (by omega) R17 t7
          refine ⟨_, ?_, R18, (KF_tr K0 (KF_tr K1 (KF_tr L1 (KF_tr L2 (KF_tr L3 (KF_tr L4 (KF_tr L5 (KF_tr L6 (KF_tr L7 L8)))))))))⟩
          · unfold F_X8_readsStatement
            rw [en, Option.bind_some, if_pos (show (100 : Int32) = 100 from rfl), b1, bd2_s, if_neg i10, b2, bd2_s, if_neg i10, b3, bd2_s, if_neg i10, takes_n R13 h4 (by decide), bd2_s, if_pos rfl, b7, bd2_s, if_neg i10, b8, bd2_s, if_neg i10, takes_n R18 hq (by decide), bd2_s, ck_t _ (by decide)]
      · refine Or.inr ⟨q2 + 1, 100, va, dv T (q1 + 1), vb, 0, ⟨by omega, by have := hq.1; omega, hp, hL, Or.inr ⟨Or.inr rfl, b1, b2, b3, by omega⟩⟩, fun d σ C => ?_, fun d ρ R => ?_⟩
        · have en := next_c C
          rw [if_pos hp, hL] at en
          have C0 := CS_o (CS_o (CS_o (CS_o (CS_o C (j := 3) (v := 100) (by omega)) (j := 4) (v := 0) (by omega)) (j := 5) (v := 0) (by omega)) (j := 6) (v := 0) (by omega)) (j := 7) (v := 0) (by omega)
          have F3 : (stm (stm (stm (stm (stm σ 85 3 100) 85 4 0) 85 5 0) 85 6 0) 85 7 0) 85 3 = 100 := by simp only [stm_row]; simp (disch := omega) only [upd_ne, upd_at]
          obtain ⟨C1, K1⟩ := CS_at C0 hp
          obtain ⟨s1, a1, E1, k1⟩ := cl1 d _ C1
          have D2 := CS_o E1 (j := 4) (v := (nI va)) (by omega)
          obtain ⟨s3, a3, E3, k3⟩ := want_y D2 h2
          obtain ⟨s4, a4, E4, k4⟩ := digit_y E3 h3
          have D5 := CS_o E4 (j := 5) (v := (nI (dv T (q1 + 1)))) (by omega)
          have a6 := skips_n D5 h4 (by decide)
          have D7 := CS_o D5 (j := 7) (v := 0) (by omega)
          obtain ⟨s8, a8, E8, k8⟩ := skips_y D7 h5
          obtain ⟨s9, a9, E9, k9⟩ := cl2 d _ E8
          have D10 := CS_o E9 (j := 6) (v := (nI vb)) (by omega)
          obtain ⟨s11, a11, E11, k11⟩ := want_y D10 hq
          refine ⟨_, ?_, E11, fun i hi => ?_, ?_, ?_, ?_, ?_, ?_⟩
          · unfold F_X3_readStatement
            rw [en, Option.bind_some, F3, if_pos (show (100 : Int32) = 100 from rfl)]
            unfold F_X3_readCart
            rw [a1, bd2_s, a3, Option.bind_some, a4, bd2_s, a6, bd2_s, ck_t _ (by decide), a8, bd2_s, if_neg i10, a9, bd2_s, Option.bind_some, a11, Option.bind_some]
          · rw [k11.1 i hi, stm_ne _ _ _ hi, k9.1 i hi, k8.1 i hi, stm_ne _ _ _ hi, stm_ne _ _ _ hi, k4.1 i hi, k3.1 i hi, stm_ne _ _ _ hi, k1.1 i hi, K1.1 i hi, stm_ne _ _ _ hi, stm_ne _ _ _ hi, stm_ne _ _ _ hi, stm_ne _ _ _ hi, stm_ne _ _ _ hi]
          · rw [k11.2 3 (by omega) (by omega), stm_row, upd_ne _ _ (by omega), k9.2 3 (by omega) (by omega), k8.2 3 (by omega) (by omega), stm_row, upd_ne _ _ (by omega), stm_row, upd_ne _ _ (by omega), k4.2 3 (by omega) (by omega), k3.2 3 (by omega) (by omega), stm_row, upd_ne _ _ (by omega), k1.2 3 (by omega) (by omega), K1.2 3 (by omega) (by omega)]; simp only [stm_row]; simp (disch := omega) only [upd_ne, upd_at]
          · rw [k11.2 4 (by omega) (by omega), stm_row, upd_ne _ _ (by omega), k9.2 4 (by omega) (by omega), k8.2 4 (by omega) (by omega), stm_row, upd_ne _ _ (by omega), stm_row, upd_ne _ _ (by omega), k4.2 4 (by omega) (by omega), k3.2 4 (by omega) (by omega), stm_row, upd_at]
          · rw [k11.2 5 (by omega) (by omega), stm_row, upd_ne _ _ (by omega), k9.2 5 (by omega) (by omega), k8.2 5 (by omega) (by omega), stm_row, upd_ne _ _ (by omega), stm_row, upd_at]
          · rw [k11.2 6 (by omega) (by omega), stm_row, upd_at]
          · rw [k11.2 7 (by omega) (by omega), stm_row, upd_ne _ _ (by omega), k9.2 7 (by omega) (by omega), k8.2 7 (by omega) (by omega), stm_row, upd_at]; rfl
        · have en := here_r R
          rw [if_pos hp, hL] at en
          obtain ⟨R0, K0⟩ := RS_t R (v := 0)
          obtain ⟨R1, K1⟩ := RS_at R0 hp
          have t0 : (stm (stm ρ 91 15 0) 91 12 (stm ρ 91 15 0 91 12 + 1)) 91 15 = nI 0 := by rw [stm_row, upd_ne _ _ (by omega), stm_row, upd_at]; rfl
          obtain ⟨r1, b1, R11, L1, u1, t1⟩ := rf1 d _ 0 (by omega) R1 t0
          obtain ⟨r2, b2, R12, L2, u2, t2⟩ := takes_y R11 h2
          have t2 := t2.trans t1
          obtain ⟨r3, b3, R13, L3, u3, t3⟩ := readsD_y R12 h3 (by omega) t2
          obtain ⟨R14, L4⟩ := RS_o R13 (j := 2) (v := 0)
          have t4 : stm r3 102 2 0 91 15 = nI 2 := by rw [stm_ne _ _ _ (by omega)]; exact t3
          obtain ⟨R15, L5⟩ := RS_o R14 (j := 3) (v := 0)
          have t5 : stm (stm r3 102 2 0) 102 3 0 91 15 = nI 2 := by rw [stm_ne _ _ _ (by omega)]; exact t4
          obtain ⟨R16, L6⟩ := RS_t R15 (v := 3)
          have t6 : stm (stm (stm r3 102 2 0) 102 3 0) 91 15 3 91 15 = nI 3 := by rw [stm_row, upd_at]; rfl
          obtain ⟨r7, b7, R17, L7, u7, t7⟩ := takes_y R16 h5
          have t7 := t7.trans t6
          obtain ⟨r8, b8, R18, L8, u8, t8⟩ := rf2 d _ 3 (by omega) R17 t7
          obtain ⟨r9, b9, R19, L9, u9, t9⟩ := takes_y R18 hq
          have t9 := t9.trans t8
          refine ⟨_, ?_, R19, (KF_tr K0 (KF_tr K1 (KF_tr L1 (KF_tr L2 (KF_tr L3 (KF_tr L4 (KF_tr L5 (KF_tr L6 (KF_tr L7 (KF_tr L8 L9)))))))))), ?_, ?_, ?_, ?_⟩
          · unfold F_X8_readsStatement
            rw [en, Option.bind_some, if_pos (show (100 : Int32) = 100 from rfl), b1, bd2_s, if_neg i10, b2, bd2_s, if_neg i10, b3, bd2_s, if_neg i10, takes_n R13 h4 (by decide), bd2_s, if_pos rfl, b7, bd2_s, if_neg i10, b8, bd2_s, if_neg i10, b9, bd2_s, ck_t _ (by decide)]
          · rw [u9, u8, upd_ne _ _ (by omega), u7, stm_ne _ _ _ (by omega), stm_row, upd_ne _ _ (by omega), stm_row, upd_ne _ _ (by omega), u3, upd_ne _ _ (by omega), u2, u1, upd_at]
          · rw [u9, u8, upd_ne _ _ (by omega), u7, stm_ne _ _ _ (by omega), stm_row, upd_ne _ _ (by omega), stm_row, upd_ne _ _ (by omega), u3, upd_at]
          · intro q; exact absurd q (by decide)
          · intro _
            refine ⟨?_, ?_⟩
            · rw [u9, u8, upd_ne _ _ (by omega), u7, stm_ne _ _ _ (by omega), stm_row, upd_ne _ _ (by omega), stm_row, upd_at]; rfl
            · rw [u9, u8, upd_at]
    · by_cases hq : sg T z (q1 + 2) 59
      rotate_left
      · refine Or.inl ⟨q1 + 2, by omega, fun d σ C => ?_, fun d ρ R => ?_⟩
        · have en := next_c C
          rw [if_pos hp, hL] at en
          have C0 := CS_o (CS_o (CS_o (CS_o (CS_o C (j := 3) (v := 100) (by omega)) (j := 4) (v := 0) (by omega)) (j := 5) (v := 0) (by omega)) (j := 6) (v := 0) (by omega)) (j := 7) (v := 0) (by omega)
          have F3 : (stm (stm (stm (stm (stm σ 85 3 100) 85 4 0) 85 5 0) 85 6 0) 85 7 0) 85 3 = 100 := by simp only [stm_row]; simp (disch := omega) only [upd_ne, upd_at]
          obtain ⟨C1, K1⟩ := CS_at C0 hp
          obtain ⟨s1, a1, E1, k1⟩ := cl1 d _ C1
          have D2 := CS_o E1 (j := 4) (v := (nI va)) (by omega)
          obtain ⟨s3, a3, E3, k3⟩ := want_y D2 h2
          obtain ⟨s4, a4, E4, k4⟩ := digit_y E3 h3
          have D5 := CS_o E4 (j := 5) (v := (nI (dv T (q1 + 1)))) (by omega)
          have a6 := skips_n D5 h4 (by decide)
          have D7 := CS_o D5 (j := 7) (v := 0) (by omega)
          have a8 := skips_n D7 h5 (by decide)
          obtain ⟨s9, a9, E9, k9⟩ := want_n D7 hq (by decide)
          refine ⟨_, ?_, E9, fun i hi => ?_⟩
          · unfold F_X3_readStatement
            rw [en, Option.bind_some, F3, if_pos (show (100 : Int32) = 100 from rfl)]
            unfold F_X3_readCart
            rw [a1, bd2_s, a3, Option.bind_some, a4, bd2_s, a6, bd2_s, ck_t _ (by decide), a8, bd2_s, if_pos rfl, Option.bind_some, a9, Option.bind_some]
          · rw [k9.1 i hi, stm_ne _ _ _ hi, stm_ne _ _ _ hi, k4.1 i hi, k3.1 i hi, stm_ne _ _ _ hi, k1.1 i hi, K1.1 i hi, stm_ne _ _ _ hi, stm_ne _ _ _ hi, stm_ne _ _ _ hi, stm_ne _ _ _ hi, stm_ne _ _ _ hi]
        · have en := here_r R
          rw [if_pos hp, hL] at en
          obtain ⟨R0, K0⟩ := RS_t R (v := 0)
          obtain ⟨R1, K1⟩ := RS_at R0 hp
          have t0 : (stm (stm ρ 91 15 0) 91 12 (stm ρ 91 15 0 91 12 + 1)) 91 15 = nI 0 := by rw [stm_row, upd_ne _ _ (by omega), stm_row, upd_at]; rfl
          obtain ⟨r1, b1, R11, L1, u1, t1⟩ := rf1 d _ 0 (by omega) R1 t0
          obtain ⟨r2, b2, R12, L2, u2, t2⟩ := takes_y R11 h2
          have t2 := t2.trans t1
          obtain ⟨r3, b3, R13, L3, u3, t3⟩ := readsD_y R12 h3 (by omega) t2
          obtain ⟨R14, L4⟩ := RS_o R13 (j := 2) (v := 0)
          have t4 : stm r3 102 2 0 91 15 = nI 2 := by rw [stm_ne _ _ _ (by omega)]; exact t3
          obtain ⟨R15, L5⟩ := RS_o R14 (j := 3) (v := 0)
          have t5 : stm (stm r3 102 2 0) 102 3 0 91 15 = nI 2 := by rw [stm_ne _ _ _ (by omega)]; exact t4
          obtain ⟨R16, L6⟩ := RS_t R15 (v := 3)
          have t6 : stm (stm (stm r3 102 2 0) 102 3 0) 91 15 3 91 15 = nI 3 := by rw [stm_row, upd_at]; rfl
          refine ⟨_, ?_, R16, (KF_tr K0 (KF_tr K1 (KF_tr L1 (KF_tr L2 (KF_tr L3 (KF_tr L4 (KF_tr L5 L6)))))))⟩
          · unfold F_X8_readsStatement
            rw [en, Option.bind_some, if_pos (show (100 : Int32) = 100 from rfl), b1, bd2_s, if_neg i10, b2, bd2_s, if_neg i10, b3, bd2_s, if_neg i10, takes_n R13 h4 (by decide), bd2_s, if_pos rfl, takes_n R16 h5 (by decide), bd2_s, if_pos rfl, takes_n R16 hq (by decide), bd2_s, ck_t _ (by decide)]
      · refine Or.inr ⟨q1 + 3, 100, va, dv T (q1 + 1), 0, 0, ⟨by omega, by have := hq.1; omega, hp, hL, Or.inr ⟨Or.inr rfl, b1, b2, by omega, by omega⟩⟩, fun d σ C => ?_, fun d ρ R => ?_⟩
        · have en := next_c C
          rw [if_pos hp, hL] at en
          have C0 := CS_o (CS_o (CS_o (CS_o (CS_o C (j := 3) (v := 100) (by omega)) (j := 4) (v := 0) (by omega)) (j := 5) (v := 0) (by omega)) (j := 6) (v := 0) (by omega)) (j := 7) (v := 0) (by omega)
          have F3 : (stm (stm (stm (stm (stm σ 85 3 100) 85 4 0) 85 5 0) 85 6 0) 85 7 0) 85 3 = 100 := by simp only [stm_row]; simp (disch := omega) only [upd_ne, upd_at]
          obtain ⟨C1, K1⟩ := CS_at C0 hp
          obtain ⟨s1, a1, E1, k1⟩ := cl1 d _ C1
          have D2 := CS_o E1 (j := 4) (v := (nI va)) (by omega)
          obtain ⟨s3, a3, E3, k3⟩ := want_y D2 h2
          obtain ⟨s4, a4, E4, k4⟩ := digit_y E3 h3
          have D5 := CS_o E4 (j := 5) (v := (nI (dv T (q1 + 1)))) (by omega)
          have a6 := skips_n D5 h4 (by decide)
          have D7 := CS_o D5 (j := 7) (v := 0) (by omega)
          have a8 := skips_n D7 h5 (by decide)
          obtain ⟨s9, a9, E9, k9⟩ := want_y D7 hq
          refine ⟨_, ?_, E9, fun i hi => ?_, ?_, ?_, ?_, ?_, ?_⟩
          · unfold F_X3_readStatement
            rw [en, Option.bind_some, F3, if_pos (show (100 : Int32) = 100 from rfl)]
            unfold F_X3_readCart
            rw [a1, bd2_s, a3, Option.bind_some, a4, bd2_s, a6, bd2_s, ck_t _ (by decide), a8, bd2_s, if_pos rfl, Option.bind_some, a9, Option.bind_some]
          · rw [k9.1 i hi, stm_ne _ _ _ hi, stm_ne _ _ _ hi, k4.1 i hi, k3.1 i hi, stm_ne _ _ _ hi, k1.1 i hi, K1.1 i hi, stm_ne _ _ _ hi, stm_ne _ _ _ hi, stm_ne _ _ _ hi, stm_ne _ _ _ hi, stm_ne _ _ _ hi]
          · rw [k9.2 3 (by omega) (by omega), stm_row, upd_ne _ _ (by omega), stm_row, upd_ne _ _ (by omega), k4.2 3 (by omega) (by omega), k3.2 3 (by omega) (by omega), stm_row, upd_ne _ _ (by omega), k1.2 3 (by omega) (by omega), K1.2 3 (by omega) (by omega)]; simp only [stm_row]; simp (disch := omega) only [upd_ne, upd_at]
          · rw [k9.2 4 (by omega) (by omega), stm_row, upd_ne _ _ (by omega), stm_row, upd_ne _ _ (by omega), k4.2 4 (by omega) (by omega), k3.2 4 (by omega) (by omega), stm_row, upd_at]
          · rw [k9.2 5 (by omega) (by omega), stm_row, upd_ne _ _ (by omega), stm_row, upd_at]
          · rw [k9.2 6 (by omega) (by omega), stm_row, upd_ne _ _ (by omega), stm_row, upd_ne _ _ (by omega), k4.2 6 (by omega) (by omega), k3.2 6 (by omega) (by omega), stm_row, upd_ne _ _ (by omega), k1.2 6 (by omega) (by omega), K1.2 6 (by omega) (by omega)]; simp only [stm_row]; simp (disch := omega) only [upd_ne, upd_at]; rfl
          · rw [k9.2 7 (by omega) (by omega), stm_row, upd_at]; rfl
        · have en := here_r R
          rw [if_pos hp, hL] at en
          obtain ⟨R0, K0⟩ := RS_t R (v := 0)
          obtain ⟨R1, K1⟩ := RS_at R0 hp
          have t0 : (stm (stm ρ 91 15 0) 91 12 (stm ρ 91 15 0 91 12 + 1)) 91 15 = nI 0 := by rw [stm_row, upd_ne _ _ (by omega), stm_row, upd_at]; rfl
          obtain ⟨r1, b1, R11, L1, u1, t1⟩ := rf1 d _ 0 (by omega) R1 t0
          obtain ⟨r2, b2, R12, L2, u2, t2⟩ := takes_y R11 h2
          have t2 := t2.trans t1
          obtain ⟨r3, b3, R13, L3, u3, t3⟩ := readsD_y R12 h3 (by omega) t2
          obtain ⟨R14, L4⟩ := RS_o R13 (j := 2) (v := 0)
          have t4 : stm r3 102 2 0 91 15 = nI 2 := by rw [stm_ne _ _ _ (by omega)]; exact t3
          obtain ⟨R15, L5⟩ := RS_o R14 (j := 3) (v := 0)
          have t5 : stm (stm r3 102 2 0) 102 3 0 91 15 = nI 2 := by rw [stm_ne _ _ _ (by omega)]; exact t4
          obtain ⟨R16, L6⟩ := RS_t R15 (v := 3)
          have t6 : stm (stm (stm r3 102 2 0) 102 3 0) 91 15 3 91 15 = nI 3 := by rw [stm_row, upd_at]; rfl
          obtain ⟨r7, b7, R17, L7, u7, t7⟩ := takes_y R16 hq
          have t7 := t7.trans t6
          refine ⟨_, ?_, R17, (KF_tr K0 (KF_tr K1 (KF_tr L1 (KF_tr L2 (KF_tr L3 (KF_tr L4 (KF_tr L5 (KF_tr L6 L7)))))))), ?_, ?_, ?_, ?_⟩
          · unfold F_X8_readsStatement
            rw [en, Option.bind_some, if_pos (show (100 : Int32) = 100 from rfl), b1, bd2_s, if_neg i10, b2, bd2_s, if_neg i10, b3, bd2_s, if_neg i10, takes_n R13 h4 (by decide), bd2_s, if_pos rfl, takes_n R16 h5 (by decide), bd2_s, if_pos rfl, b7, bd2_s, ck_t _ (by decide)]
          · rw [u7, stm_ne _ _ _ (by omega), stm_row, upd_ne _ _ (by omega), stm_row, upd_ne _ _ (by omega), u3, upd_ne _ _ (by omega), u2, u1, upd_at]
          · rw [u7, stm_ne _ _ _ (by omega), stm_row, upd_ne _ _ (by omega), stm_row, upd_ne _ _ (by omega), u3, upd_at]
          · intro q; exact absurd q (by decide)
          · intro _
            refine ⟨?_, ?_⟩
            · rw [u7, stm_ne _ _ _ (by omega), stm_row, upd_ne _ _ (by omega), stm_row, upd_at]; rfl
            · rw [u7, stm_ne _ _ _ (by omega), stm_row, upd_at]; rfl
theorem stmt (hz : z ≤ 100) (hpz : p ≤ z) : SFAIL T z p ∨ SOK T z p := by
  have no : (∀ L : Int32, L = 100 ∨ L = 112 ∨ L = 114 ∨ L = 117 ∨ L = 118 ∨ L = 120 → ¬ sg T z p L) → SFAIL T z p := by
    intro h
    refine ⟨p, by omega, fun d σ C => ?_, fun d ρ R => ?_⟩
    · have n1 : ∀ L : Int32, (L = 100 ∨ L = 112 ∨ L = 114 ∨ L = 117 ∨ L = 118 ∨ L = 120) → ¬ (if p < z then T p else 0) = L := by
        intro L hL q
        by_cases k : p < z
        · rw [if_pos k] at q; exact h L hL ⟨k, q⟩
        · rw [if_neg k] at q
          rcases hL with w | w | w | w | w | w <;> rw [w] at q <;> exact absurd q (by decide)
      have C0 := CS_o (CS_o (CS_o (CS_o (CS_o C (j := 3) (v := if p < z then T p else 0) (by omega)) (j := 4) (v := 0) (by omega)) (j := 5) (v := 0) (by omega)) (j := 6) (v := 0) (by omega)) (j := 7) (v := 0) (by omega)
      have F3 : (stm (stm (stm (stm (stm σ 85 3 (if p < z then T p else 0)) 85 4 0) 85 5 0) 85 6 0) 85 7 0) 85 3 = if p < z then T p else 0 := by simp only [stm_row]; simp (disch := omega) only [upd_ne, upd_at]
      obtain ⟨C1, K1⟩ := CS_br C0
      obtain ⟨s2, a2, C2, K2⟩ := want_b (s := 59) C1
      refine ⟨s2, ?_, C2, fun i hi => ?_⟩
      · unfold F_X3_readStatement
        rw [next_c C, Option.bind_some, F3, if_neg (n1 100 (by decide)), if_neg (n1 112 (by decide)), if_neg (n1 114 (by decide)), if_neg (n1 117 (by decide)), if_neg (n1 118 (by decide)), if_neg (n1 120 (by decide)), a2, Option.bind_some]
      · rw [K2.1 i hi, K1.1 i hi, stm_ne _ _ _ hi, stm_ne _ _ _ hi, stm_ne _ _ _ hi, stm_ne _ _ _ hi, stm_ne _ _ _ hi]
    · have n1 : ∀ L : Int32, (L = 100 ∨ L = 112 ∨ L = 114 ∨ L = 117 ∨ L = 118 ∨ L = 120) → ¬ (if p < z then T p else -1000) = L := by
        intro L hL q
        by_cases k : p < z
        · rw [if_pos k] at q; exact h L hL ⟨k, q⟩
        · rw [if_neg k] at q
          rcases hL with w | w | w | w | w | w <;> rw [w] at q <;> exact absurd q (by decide)
      obtain ⟨R0, K0⟩ := RS_t R (v := 0)
      refine ⟨_, ?_, R0, K0⟩
      unfold F_X8_readsStatement
      rw [here_r R, Option.bind_some, if_neg (n1 100 (by decide)), if_neg (n1 112 (by decide)), if_neg (n1 114 (by decide)), if_neg (n1 117 (by decide)), if_neg (n1 118 (by decide)), if_neg (n1 120 (by decide))]
  by_cases h1 : sg T z p 100
  · exact st_100 hz h1.1 h1.2
  by_cases h2 : sg T z p 112
  · exact st_112 hz h2.1 h2.2
  by_cases h3 : sg T z p 114
  · exact st_114 hz h3.1 h3.2
  by_cases h4 : sg T z p 117
  · exact st_117 hz h4.1 h4.2
  by_cases h5 : sg T z p 118
  · exact st_118 hz h5.1 h5.2
  by_cases h6 : sg T z p 120
  · exact st_120 hz h6.1 h6.2
  refine Or.inl (no (fun L hL => ?_))
  rcases hL with rfl | rfl | rfl | rfl | rfl | rfl
  · exact h1
  · exact h2
  · exact h3
  · exact h4
  · exact h5
  · exact h6
end ST
end
section
/-! what a statement does: class and reference -/
section OQ
variable {σ σ' ρ : Mem} {t m n m' : Nat} {k k' : Nat → Int32} {len len' : Nat → Nat}
/-- only the road changes -/
theorem RT_road (R : RT σ t k m len n) (V : VS k' m' len') (D : RD σ' t k' m' len') (hc : ∀ i, i = 22 * t ∨ (22 * t + 14 ≤ i ∧ i < 22 * t + 22) → σ' i = σ i) (hk : ∀ j, (1 ≤ j ∧ j ≤ 4) ∨ 44 ≤ j → k' j = k j) (hE : PS len m ≤ PS len' m') : RT σ' t k' m' len' n := by
  have h7 := RT_7 R
  obtain ⟨-, ⟨hn, -⟩, ⟨M, hM, eM⟩, K, -, ⟨f2, f3, f4, f5⟩, W, hb, hon, hz⟩ := R
  refine ⟨V, ⟨(hk 1 (by omega)).trans hn, h7⟩, ⟨M, hM, (hk 2 (by omega)).trans eM⟩, fun j hj => ?_, D, ?_, fun j hj => ?_, fun j hj b h12 h4 => ?_, fun s hs => ?_, fun j hj => ?_⟩
  · obtain ⟨q1, q2, q3, q4, q5⟩ := K j hj
    refine ⟨?_, ?_, ?_, ?_, ?_⟩
    · rw [hk (44 + 11 * j) (by omega)]; exact q1
    · rw [hk (46 + 11 * j) (by omega)]; exact q2
    · rw [hk (47 + 11 * j) (by omega)]; exact q3
    · rw [hk (48 + 11 * j) (by omega)]; exact q4
    · rw [hk (44 + 11 * j) (by omega), hk (49 + 11 * j) (by omega)]
      rcases q5 with q | q | ⟨x, e, h1, h2, h3⟩
      · exact Or.inl q
      · exact Or.inr (Or.inl q)
      · exact Or.inr (Or.inr ⟨x, e, by omega, fun w => by have := h2 w; omega, h3⟩)
  · rw [hc (22 * t) (by omega), hk 1 (by omega), hk 2 (by omega), hk 3 (by omega), hk 4 (by omega)]; exact ⟨f2, f3, f4, f5⟩
  · have w := W j hj
    unfold CW at w ⊢
    rw [hc (22 * t + 15 + j) (by omega), hk (44 + 11 * j) (by omega), hk (45 + 11 * j) (by omega), hk (46 + 11 * j) (by omega), hk (47 + 11 * j) (by omega), hk (48 + 11 * j) (by omega), hk (49 + 11 * j) (by omega), hk (50 + 11 * j) (by omega), hk (51 + 11 * j) (by omega), hk (52 + 11 * j) (by omega), hk (53 + 11 * j) (by omega), hk (54 + 11 * j) (by omega)]
    exact w
  · rw [hc (22 * t + 15 + j) (by omega)]; exact hb j hj b h12 h4
  · rw [hc (22 * t + 14) (by omega), hon s hs, occ_cg (fun i hi => ?_)]
    show (k (49 + 11 * i)).toInt = (k' (49 + 11 * i)).toInt
    rw [hk (49 + 11 * i) (by omega)]
  · rw [hk (49 + 11 * j) (by omega), hk (51 + 11 * j) (by omega)]; exact hz j hj
theorem FrC_road (h : ∀ i, i < 22 * t + 1 ∨ 22 * t + 12 < i → σ' i = σ i) : FrC t σ σ' := ⟨fun i hi => h i (by omega), fun j hj => by rw [h _ (by omega)], by rw [h _ (by omega)], by rw [h _ (by omega)]⟩
theorem RT_vil (R : RT σ t k m len n) {p v : Nat} (hp : p < m) (hv : v ≤ 2) : RT (stm σ (22 * t + 4) p (nI v)) t (upd k (16 + 3 * p) (nI v)) m len n := by
  have V := RT_V R
  have h8 := RT_8 R
  have e : ∀ j, j ≠ 16 + 3 * p → upd k (16 + 3 * p) (nI v) j = k j := fun j hj => upd_ne _ _ hj
  have h1 : ∀ i, i ≠ 22 * t + 4 → stm σ (22 * t + 4) p (nI v) i = σ i := fun i hi => stm_ne _ _ _ hi
  have v3 : nI v = 0 ∨ nI v = 1 ∨ nI v = 2 := by
    have : v = 0 ∨ v = 1 ∨ v = 2 := by omega
    rcases this with rfl | rfl | rfl
    · exact Or.inl rfl
    · exact Or.inr (Or.inl rfl)
    · exact Or.inr (Or.inr rfl)
  refine RT_road R ?_ ?_ (fun i hi => h1 i (by omega)) (fun j hj => e j (by omega)) (Nat.le_refl _)
  · obtain ⟨⟨v1, v2⟩, v3', v4, v5, v6, v7⟩ := V
    refine ⟨⟨(e 0 (by omega)).trans v1, v2⟩, fun q hq => (e _ (by omega)).trans (v3' q hq), v4, fun q hq => ?_, fun q hq hq8 => ?_, fun w hw => ?_⟩
    · rw [e (15 + 3 * q) (by omega)]
      by_cases z : q = p
      · subst z; rw [upd_at]; exact ⟨(v5 q hq).1, v3⟩
      · rw [e (16 + 3 * q) (by omega)]; exact v5 q hq
    · rw [e (5 + q) (by omega)]; exact v6 q hq hq8
    · rw [e (38 + 2 * w) (by omega), e (39 + 2 * w) (by omega)]; exact v7 w hw
  · obtain ⟨d1, d2, d3, d4, d5, d6, d7, d8⟩ := RT_R R
    unfold RD
    rw [h1 (22 * t + 1) (by omega), h1 (22 * t + 2) (by omega), h1 (22 * t + 3) (by omega), h1 (22 * t + 5) (by omega), h1 (22 * t + 6) (by omega), h1 (22 * t + 7) (by omega), h1 (22 * t + 8) (by omega), h1 (22 * t + 9) (by omega), h1 (22 * t + 10) (by omega), h1 (22 * t + 11) (by omega), h1 (22 * t + 12) (by omega)]
    refine ⟨d1, d2, fun q hq => ?_, fun q hq hq2 => ?_, d5, d6, d7, fun w hw => ?_⟩
    · rw [stm_row, e (14 + 3 * q) (by omega), e (15 + 3 * q) (by omega)]
      by_cases z : q = p
      · subst z; rw [upd_at, upd_at]; exact ⟨(d3 q hq).1, (d3 q hq).2.1, rfl⟩
      · rw [upd_ne _ _ z, e (16 + 3 * q) (by omega)]; exact d3 q hq
    · rw [e (5 + q) (by omega)]; exact d4 q hq hq2
    · rw [e (38 + 2 * w) (by omega), e (39 + 2 * w) (by omega)]; exact d8 w hw
theorem RT_room (R : RT σ t k m len n) {p r : Nat} (hp : 1 ≤ p) (hpm : p < m) (hr : r ≤ 4) : RT (stm σ (22 * t + 5) p (nI r)) t (upd k (5 + p) (nI r)) m len n := by
  have V := RT_V R
  have h8 := RT_8 R
  have e : ∀ j, j ≠ 5 + p → upd k (5 + p) (nI r) j = k j := fun j hj => upd_ne _ _ hj
  have h1 : ∀ i, i ≠ 22 * t + 5 → stm σ (22 * t + 5) p (nI r) i = σ i := fun i hi => stm_ne _ _ _ hi
  refine RT_road R ?_ ?_ (fun i hi => h1 i (by omega)) (fun j hj => e j (by omega)) (Nat.le_refl _)
  · obtain ⟨⟨v1, v2⟩, v3, v4, v5, v6, v7⟩ := V
    refine ⟨⟨(e 0 (by omega)).trans v1, v2⟩, fun q hq => (e _ (by omega)).trans (v3 q hq), v4, fun q hq => ?_, fun q hq hq8 => ?_, fun v hv => ?_⟩
    · rw [e (15 + 3 * q) (by omega), e (16 + 3 * q) (by omega)]; exact v5 q hq
    · by_cases w : q = p
      · subst w
        rw [upd_at, nI_toInt (by omega)]
        exact ⟨by omega, fun h => absurd h (by omega)⟩
      · rw [e (5 + q) (by omega)]; exact v6 q hq hq8
    · rw [e (38 + 2 * v) (by omega), e (39 + 2 * v) (by omega)]; exact v7 v hv
  · obtain ⟨d1, d2, d3, d4, d5, d6, d7, d8⟩ := RT_R R
    unfold RD
    rw [h1 (22 * t + 1) (by omega), h1 (22 * t + 2) (by omega), h1 (22 * t + 3) (by omega), h1 (22 * t + 4) (by omega), h1 (22 * t + 6) (by omega), h1 (22 * t + 7) (by omega), h1 (22 * t + 8) (by omega), h1 (22 * t + 9) (by omega), h1 (22 * t + 10) (by omega), h1 (22 * t + 11) (by omega), h1 (22 * t + 12) (by omega)]
    refine ⟨d1, d2, fun q hq => ?_, fun q hq hq2 => ?_, d5, d6, d7, fun w hw => ?_⟩
    · rw [e (14 + 3 * q) (by omega), e (15 + 3 * q) (by omega), e (16 + 3 * q) (by omega)]; exact d3 q hq
    · rw [stm_row]
      by_cases w : q = p
      · subst w; rw [upd_at, upd_at]
      · rw [upd_ne _ _ w, e (5 + q) (by omega)]; exact d4 q hq hq2
    · rw [e (38 + 2 * w) (by omega), e (39 + 2 * w) (by omega)]; exact d8 w hw
/-- a piece more: the class's arrays after i of its spots -/
def PI (σ0 σ : Mem) (t m E i s : Nat) : Prop := (∀ r, r < 22 * t + 7 ∨ 22 * t + 10 < r → σ r = σ0 r) ∧ ∀ x, (x < E ∨ E + i ≤ x → σ (22 * t + 7) x = σ0 (22 * t + 7) x ∧ σ (22 * t + 8) x = σ0 (22 * t + 8) x ∧ σ (22 * t + 9) x = σ0 (22 * t + 9) x ∧ σ (22 * t + 10) x = σ0 (22 * t + 10) x) ∧ (E ≤ x → x < E + i → σ (22 * t + 7) x = (if x = E then nI m else -1) ∧ σ (22 * t + 8) x = nI m ∧ σ (22 * t + 9) x = nI (x - E) ∧ σ (22 * t + 10) x = (if x = E then 0 else nI (s - (x - E))))
theorem piece_l {x2 : Int32} {σ0 : Mem} {E s : Nat} (h0 : σ0 (22 * t + 1) 0 = nI m) (h1 : σ0 (22 * t + 1) 1 = nI E) (hE : E ≤ 63) (hs : s ≤ 9) (hs2 : 2 ≤ s) (hm : m < 8) : ∀ (e i nn : Nat) (σ : Mem), i + e = s → e < nn → PI σ0 σ t m E i s → ∃ σ', F_X4_addPiece_77 t (nI s) x2 nn σ (nI i) = some (σ', 1) ∧ (∀ r, r < 22 * t + 1 ∨ (22 * t + 1 < r ∧ r < 22 * t + 6) ∨ 22 * t + 10 < r → σ' r = σ0 r) ∧ (σ' (22 * t + 1) 0 = nI (m + 1) ∧ σ' (22 * t + 1) 1 = nI (E + s)) ∧ (σ' (22 * t + 6) = upd (σ0 (22 * t + 6)) (m + 1) (nI (E + s))) ∧ (∀ x, x < E → σ' (22 * t + 7) x = σ0 (22 * t + 7) x ∧ σ' (22 * t + 8) x = σ0 (22 * t + 8) x ∧ σ' (22 * t + 9) x = σ0 (22 * t + 9) x ∧ σ' (22 * t + 10) x = σ0 (22 * t + 10) x) ∧ (∀ x, E ≤ x → x < E + s → σ' (22 * t + 7) x = (if x = E then nI m else -1) ∧ σ' (22 * t + 8) x = nI m ∧ σ' (22 * t + 9) x = nI (x - E) ∧ σ' (22 * t + 10) x = (if x = E then 0 else nI (s - (x - E)))) ∧ (σ' (22 * t + 7) (E + s) = nI (m + 1) ∧ σ' (22 * t + 9) (E + s) = 0 ∧ σ' (22 * t + 10) (E + s) = 0) := by
  intro e
  induction e with
  | zero =>
    intro i nn σ e1 e2 H
    obtain rfl : i = s := by omega
    obtain ⟨nn, rfl⟩ : ∃ j, nn = j + 1 := ⟨nn - 1, by omega⟩
    obtain ⟨H1, H2⟩ := H
    have a0 : σ (22 * t + 1) 0 = nI m := by rw [H1 _ (by omega)]; exact h0
    have a1 : σ (22 * t + 1) 1 = nI E := by rw [H1 _ (by omega)]; exact h1
    have b1 : stm σ (22 * t + 1) 0 (nI m + 1) (22 * t + 1) 1 = nI E := by rw [stm_row, upd_ne _ _ (by omega)]; exact a1
    have mn : (if 72 < (nI E + nI i) then 72 else (nI E + nI i)) = nI (E + i) := by
      rw [nI_add, if_neg (show ¬ (72 : Int32) < nI (E + i) from nI_nlt (a := 72) (b := E + i) (by omega) (by decide))]
    rw [F_X4_addPiece_77, if_pos (nI_le (Nat.le_refl _) (by omega))]
    simp only [lm_e]
    rw [a0, b1, mn]
    have s1 : stm (stm σ (22 * t + 1) 0 (nI m + 1)) (22 * t + 1) 1 (nI (E + i)) (22 * t + 1) = upd (upd (σ (22 * t + 1)) 0 (nI (m + 1))) 1 (nI (E + i)) := by rw [stm_row, stm_row, nI_1]
    have c0 : stm (stm σ (22 * t + 1) 0 (nI m + 1)) (22 * t + 1) 1 (nI (E + i)) (22 * t + 1) 0 = nI (m + 1) := by rw [s1, upd_ne _ _ (by omega), upd_at]
    have c1 : stm (stm σ (22 * t + 1) 0 (nI m + 1)) (22 * t + 1) 1 (nI (E + i)) (22 * t + 1) 1 = nI (E + i) := by rw [s1, upd_at]
    have g : ∀ (τ : Mem) (r j : Nat) (v : Int32), r ≠ 22 * t + 1 → stm τ r j v (22 * t + 1) = τ (22 * t + 1) := fun τ r j v hr => stm_ne _ _ _ (fun q => hr q.symm)
    rw [c0, ix_nI (show m + 1 < 9 by omega) (by decide), Option.bind_some, c1, g _ _ _ _ (by omega), c1, ix_nI (show E + i < 73 by omega) (by decide), Option.bind_some, c0, g _ _ _ _ (by omega), g _ _ _ _ (by omega), c1, ix_nI (show E + i < 73 by omega) (by decide), Option.bind_some, g _ _ _ _ (by omega), g _ _ _ _ (by omega), g _ _ _ _ (by omega), c1, ix_nI (show E + i < 73 by omega) (by decide), Option.bind_some]
    refine ⟨_, rfl, fun r hr => ?_, ⟨?_, ?_⟩, ?_, fun x hx => ?_, fun x hx hx2 => ?_, ?_, ?_, ?_⟩
    · simp (disch := omega) only [stm_ne]
      exact H1 r (by omega)
    · simp (disch := omega) only [stm_ne]; exact c0
    · simp (disch := omega) only [stm_ne]; exact c1
    · simp (disch := omega) only [stm_ne, stm_row]
      rw [H1 _ (by omega)]
    · have q := (H2 x).1 (by omega)
      simp (disch := omega) only [stm_ne, stm_row, upd_ne]
      exact q
    · have q := (H2 x).2 hx hx2
      simp (disch := omega) only [stm_ne, stm_row, upd_ne]
      exact q
    · simp (disch := omega) only [stm_ne, stm_row, upd_at]
    · simp (disch := omega) only [stm_ne, stm_row, upd_at]
    · simp (disch := omega) only [stm_row, upd_at]
  | succ e ih =>
    intro i nn σ e1 e2 H
    obtain ⟨nn, rfl⟩ : ∃ j, nn = j + 1 := ⟨nn - 1, by omega⟩
    have HH := H
    obtain ⟨H1, H2⟩ := H
    have a0 : σ (22 * t + 1) 0 = nI m := by rw [H1 _ (by omega)]; exact h0
    have a1 : σ (22 * t + 1) 1 = nI E := by rw [H1 _ (by omega)]; exact h1
    have g : ∀ (τ : Mem) (r j : Nat) (v : Int32), r ≠ 22 * t + 1 → stm τ r j v (22 * t + 1) = τ (22 * t + 1) := fun τ r j v hr => stm_ne _ _ _ (fun q => hr q.symm)
    have key : ∀ (v7 v10 : Int32), v7 = (if i = 0 then nI m else -1) → v10 = (if i = 0 then 0 else nI (s - i)) → PI σ0 (stm (stm (stm (stm σ (22 * t + 7) (E + i) v7) (22 * t + 8) (E + i) (nI m)) (22 * t + 9) (E + i) (nI i)) (22 * t + 10) (E + i) v10) t m E (i + 1) s := by
      intro v7 v10 e7 e10
      refine ⟨fun r hr => by simp (disch := omega) only [stm_ne]; exact H1 r hr, fun x => ⟨fun hx => ?_, fun hx hx2 => ?_⟩⟩
      · simp (disch := omega) only [stm_ne, stm_row, upd_ne]
        exact (H2 x).1 (by omega)
      · by_cases q : x = E + i
        · subst q
          simp (disch := omega) only [stm_ne, stm_row, upd_at]
          refine ⟨?_, trivial, by rw [show E + i - E = i by omega], ?_⟩
          · rw [e7]
            by_cases i0 : i = 0
            · rw [if_pos i0, if_pos (by omega)]
            · rw [if_neg i0, if_neg (by omega)]
          · rw [e10, show E + i - E = i by omega]
            by_cases i0 : i = 0
            · rw [if_pos i0, if_pos (by omega)]
            · rw [if_neg i0, if_neg (by omega)]
        · simp (disch := omega) only [stm_ne, stm_row, upd_ne]
          exact (H2 x).2 hx (by omega)
    rw [F_X4_addPiece_77, if_neg (nI_ge (by omega) (by omega)), a1, nI_add, if_neg (show ¬ (73 : Int32) ≤ nI (E + i) from nI_ge (a := E + i) (b := 73) (by omega) (by decide)), a0, ix_nI (show E + i < 73 by omega) (by decide)]
    simp only [obs, lm_e]
    by_cases i0 : i = 0
    · subst i0
      rw [if_pos (show nI 0 = 0 from rfl)]
      simp only [Nat.add_zero]
      rw [g _ _ _ _ (by omega), a1, a0, nI_add, Nat.add_zero, ix_nI (show E < 73 by omega) (by decide), Option.bind_some, g _ _ _ _ (by omega), g _ _ _ _ (by omega), a1, nI_add, Nat.add_zero, ix_nI (show E < 73 by omega) (by decide), Option.bind_some, if_pos (show nI 0 = 0 from rfl), g _ _ _ _ (by omega), g _ _ _ _ (by omega), g _ _ _ _ (by omega), a1, nI_add, Nat.add_zero, ix_nI (show E < 73 by omega) (by decide), Option.bind_some, nI_1]
      exact ih 1 nn _ (by omega) (by omega) (key (nI m) 0 rfl rfl)
    · have i0' : ¬ nI i = 0 := nI_ne0 (by omega) (by omega)
      rw [if_neg i0', g _ _ _ _ (by omega), a1, a0, nI_add, ix_nI (show E + i < 73 by omega) (by decide), Option.bind_some, g _ _ _ _ (by omega), g _ _ _ _ (by omega), a1, nI_add, ix_nI (show E + i < 73 by omega) (by decide), Option.bind_some, if_neg i0', g _ _ _ _ (by omega), g _ _ _ _ (by omega), g _ _ _ _ (by omega), a1, nI_add, ix_nI (show E + i < 73 by omega) (by decide), Option.bind_some, nI_1, nI_sub (by omega)]
      exact ih (i + 1) nn _ (by omega) (by omega) (key (-1) (nI (s - i)) (by rw [if_neg i0]) (by rw [if_neg i0]))
theorem PS_cg {l l' : Nat → Nat} {q : Nat} (h : ∀ p, p < q → l' p = l p) : PS l' q = PS l q := by
  induction q with
  | zero => rfl
  | succ q ih =>
    rw [PS_s, PS_s, ih (fun p hp => h p (by omega)), h q (by omega)]
/-- a piece more, both sides -/
theorem piece_p (R : RT σ t k m len n) {s h : Nat} (hs : 2 ≤ s) (hs9 : s ≤ 9) (hh : h ≤ 2) (hm : m < 8) : ∃ σ', F_X4_addPiece σ t (nI s) (nI h) = some (σ', 1) ∧ FrC t σ σ' ∧ RT σ' t (upd (upd (upd (upd k (14 + 3 * m) (nI s)) (15 + 3 * m) (nI h)) (16 + 3 * m) 0) 0 (nI (m + 1))) (m + 1) (fun p => if p = m then s else len p) n := by
  have V := RT_V R
  obtain ⟨d1, d2, d3, d4, d5, d6, d7, d8⟩ := RT_R R
  have hE : PS len m ≤ 63 := by have := PS_le (VS_b V) (Nat.le_refl m); omega
  have lenE : ∀ q, q ≤ m → PS (fun p => if p = m then s else len p) q = PS len q := fun q hq => PS_cg (fun p hp => by rw [if_neg (by omega)])
  have lenE1 : PS (fun p => if p = m then s else len p) (m + 1) = PS len m + s := by rw [PS_s, lenE m (Nat.le_refl _), if_pos rfl]
  have h3 : nI h = 0 ∨ nI h = 1 ∨ nI h = 2 := by
    have : h = 0 ∨ h = 1 ∨ h = 2 := by omega
    rcases this with rfl | rfl | rfl
    · exact Or.inl rfl
    · exact Or.inr (Or.inl rfl)
    · exact Or.inr (Or.inr rfl)
  -- the class
  have g : ∀ (τ : Mem) (r j : Nat) (v : Int32), r ≠ 22 * t + 1 → stm τ r j v (22 * t + 1) = τ (22 * t + 1) := fun τ r j v hr => stm_ne _ _ _ (fun q => hr q.symm)
  obtain ⟨σ', a1, a2, ⟨a3, a3'⟩, a4, a5, a6, a7, a8, a9⟩ := piece_l (x2 := nI h) (σ0 := stm (stm (stm (stm σ (22 * t + 2) m (nI s)) (22 * t + 3) m (nI h)) (22 * t + 4) m 0) (22 * t + 5) (m + 1) 1) (t := t) (m := m) (E := PS len m) (s := s) (by simp (disch := omega) only [stm_ne]; exact d1) (by simp (disch := omega) only [stm_ne]; exact d2) hE hs9 hs hm s 0 FU _ (by omega) (Nat.lt_of_le_of_lt hs9 (by decide)) ⟨fun _ _ => rfl, fun x => ⟨fun _ => ⟨rfl, rfl, rfl, rfl⟩, fun h1 h2 => absurd h2 (by omega)⟩⟩
  have a1' : F_X4_addPiece_77 t (nI s) (nI h) FU (stm (stm (stm (stm σ (22 * t + 2) m (nI s)) (22 * t + 3) m (nI h)) (22 * t + 4) m 0) (22 * t + 5) (m + 1) 1) 0 = some (σ', 1) := a1
  have o : ∀ r, r < 22 * t + 1 ∨ 22 * t + 10 < r → σ' r = σ r := fun r hr => by
    rw [a2 r (by omega)]
    simp (disch := omega) only [stm_ne]
  have x7 : ∀ x, stm (stm (stm (stm σ (22 * t + 2) m (nI s)) (22 * t + 3) m (nI h)) (22 * t + 4) m 0) (22 * t + 5) (m + 1) 1 (22 * t + 7) x = σ (22 * t + 7) x := fun x => by simp (disch := omega) only [stm_ne]
  have x8 : ∀ x, stm (stm (stm (stm σ (22 * t + 2) m (nI s)) (22 * t + 3) m (nI h)) (22 * t + 4) m 0) (22 * t + 5) (m + 1) 1 (22 * t + 8) x = σ (22 * t + 8) x := fun x => by simp (disch := omega) only [stm_ne]
  have x9 : ∀ x, stm (stm (stm (stm σ (22 * t + 2) m (nI s)) (22 * t + 3) m (nI h)) (22 * t + 4) m 0) (22 * t + 5) (m + 1) 1 (22 * t + 9) x = σ (22 * t + 9) x := fun x => by simp (disch := omega) only [stm_ne]
  have x10 : ∀ x, stm (stm (stm (stm σ (22 * t + 2) m (nI s)) (22 * t + 3) m (nI h)) (22 * t + 4) m 0) (22 * t + 5) (m + 1) 1 (22 * t + 10) x = σ (22 * t + 10) x := fun x => by simp (disch := omega) only [stm_ne]
  have r2 : σ' (22 * t + 2) = upd (σ (22 * t + 2)) m (nI s) := by rw [a2 _ (by omega)]; simp (disch := omega) only [stm_ne, stm_row]
  have r3 : σ' (22 * t + 3) = upd (σ (22 * t + 3)) m (nI h) := by rw [a2 _ (by omega)]; simp (disch := omega) only [stm_ne, stm_row]
  have r4 : σ' (22 * t + 4) = upd (σ (22 * t + 4)) m 0 := by rw [a2 _ (by omega)]; simp (disch := omega) only [stm_ne, stm_row]
  have r5 : σ' (22 * t + 5) = upd (σ (22 * t + 5)) (m + 1) 1 := by rw [a2 _ (by omega)]; simp (disch := omega) only [stm_ne, stm_row]
  have r6 : σ' (22 * t + 6) = upd (σ (22 * t + 6)) (m + 1) (nI (PS len m + s)) := by rw [a4]; simp (disch := omega) only [stm_ne]
  have ke : ∀ j, j ≠ 0 → j ≠ 14 + 3 * m → j ≠ 15 + 3 * m → j ≠ 16 + 3 * m → upd (upd (upd (upd k (14 + 3 * m) (nI s)) (15 + 3 * m) (nI h)) (16 + 3 * m) 0) 0 (nI (m + 1)) j = k j := fun j h1 h2 h3 h4 => by rw [upd_ne _ _ h1, upd_ne _ _ h4, upd_ne _ _ h3, upd_ne _ _ h2]
  have k0 : upd (upd (upd (upd k (14 + 3 * m) (nI s)) (15 + 3 * m) (nI h)) (16 + 3 * m) 0) 0 (nI (m + 1)) 0 = nI (m + 1) := upd_at _ _ _
  have k14 : upd (upd (upd (upd k (14 + 3 * m) (nI s)) (15 + 3 * m) (nI h)) (16 + 3 * m) 0) 0 (nI (m + 1)) (14 + 3 * m) = nI s := by simp (disch := omega) only [upd_ne, upd_at]
  have k15 : upd (upd (upd (upd k (14 + 3 * m) (nI s)) (15 + 3 * m) (nI h)) (16 + 3 * m) 0) 0 (nI (m + 1)) (15 + 3 * m) = nI h := by simp (disch := omega) only [upd_ne, upd_at]
  have k16 : upd (upd (upd (upd k (14 + 3 * m) (nI s)) (15 + 3 * m) (nI h)) (16 + 3 * m) 0) 0 (nI (m + 1)) (16 + 3 * m) = 0 := by simp (disch := omega) only [upd_ne, upd_at]
  refine ⟨σ', ?_, FrC_road (fun i hi => o i (by omega)), ?_⟩
  · unfold F_X4_addPiece
    rw [d1, if_neg (show ¬ (8 : Int32) ≤ nI m from nI_ge (a := m) (b := 8) hm (by decide)), if_neg (show ¬ nI s < (2 : Int32) from nI_nlt (a := s) (b := 2) hs (by omega)), if_pos (show nI s ≤ (9 : Int32) from nI_le (a := s) (b := 9) hs9 (by decide)), if_neg (nI_pos (by omega)), if_pos (show nI h ≤ (2 : Int32) from nI_le (a := h) (b := 2) hh (by decide))]
    simp only [lm_e]
    rw [ix_nI hm (by decide), Option.bind_some, g _ _ _ _ (by omega), d1, ix_nI hm (by decide), Option.bind_some, g _ _ _ _ (by omega), g _ _ _ _ (by omega), d1, ix_nI hm (by decide), Option.bind_some, g _ _ _ _ (by omega), g _ _ _ _ (by omega), g _ _ _ _ (by omega), d1, nI_1, ix_nI (show m + 1 < 9 by omega) (by decide), Option.bind_some, a1']
  · refine RT_road R ?_ ?_ (fun i hi => o i (by omega)) (fun j hj => ke j (by omega) (by omega) (by omega) (by omega)) (by rw [lenE1]; omega)
    · obtain ⟨⟨v1, v2⟩, v3, v4, v5, v6, v7⟩ := V
      refine ⟨⟨k0, by omega⟩, fun p hp => ?_, fun p hp => ?_, fun p hp => ?_, fun p hp hp8 => ?_, fun v hv => ?_⟩
      · dsimp only
        by_cases q : p = m
        · subst q; rw [k14, if_pos rfl]
        · rw [ke _ (by omega) (by omega) (by omega) (by omega), if_neg q]; exact v3 p (by omega)
      · dsimp only
        by_cases q : p = m
        · rw [if_pos q]; omega
        · rw [if_neg q]; exact v4 p (by omega)
      · by_cases q : p = m
        · subst q; rw [k15, k16]; exact ⟨h3, Or.inl rfl⟩
        · rw [ke (15 + 3 * p) (by omega) (by omega) (by omega) (by omega), ke (16 + 3 * p) (by omega) (by omega) (by omega) (by omega)]; exact v5 p (by omega)
      · rw [ke (5 + p) (by omega) (by omega) (by omega) (by omega)]
        exact ⟨(v6 p hp hp8).1, fun w => (v6 p hp hp8).2 (by omega)⟩
      · rw [ke (38 + 2 * v) (by omega) (by omega) (by omega) (by omega), ke (39 + 2 * v) (by omega) (by omega) (by omega) (by omega)]; exact v7 v hv
    · refine ⟨a3, by rw [lenE1]; exact a3', fun p hp => ?_, fun p hp hp2 => ?_, fun p hp => ?_, fun p x hp hx hx2 => ?_, fun p x hp hx hx2 => ?_, fun v hv => ?_⟩
      · rw [r2, r3, r4]
        by_cases q : p = m
        · subst q; rw [upd_at, upd_at, upd_at, k14, k15, k16]; exact ⟨rfl, rfl, rfl⟩
        · rw [upd_ne _ _ q, upd_ne _ _ q, upd_ne _ _ q, ke (14 + 3 * p) (by omega) (by omega) (by omega) (by omega), ke (15 + 3 * p) (by omega) (by omega) (by omega) (by omega), ke (16 + 3 * p) (by omega) (by omega) (by omega) (by omega)]; exact d3 p (by omega)
      · rw [r5, ke (5 + p) (by omega) (by omega) (by omega) (by omega)]
        by_cases q : p = m + 1
        · subst q; rw [upd_at]; exact ((V.2.2.2.2.1 (m + 1) (by omega) (by omega)).2 (by omega)).symm
        · rw [upd_ne _ _ q]; exact d4 p hp (by omega)
      · rw [r6]
        by_cases q : p = m + 1
        · subst q
          rw [upd_at, lenE1]
          exact ⟨rfl, a7, a8, a9⟩
        · have hp' : p ≤ m := by omega
          have d := d5 p hp'
          rw [upd_ne _ _ q, lenE p hp']
          by_cases w : p = m
          · subst w
            have y := a6 (PS len p) (Nat.le_refl _) (by omega)
            rw [y.1, y.2.2.1, y.2.2.2, if_pos rfl, if_pos rfl, Nat.sub_self]
            exact ⟨d.1, rfl, rfl, rfl⟩
          · have lt := PS_lt (VS_b V) (show p < m by omega) (Nat.le_refl m)
            have y := a5 (PS len p) (by omega)
            rw [y.1, y.2.2.1, y.2.2.2, x7, x9, x10]
            exact d
      · by_cases w : p = m
        · subst w
          rw [lenE p (Nat.le_refl _)] at hx
          rw [lenE1] at hx2
          rw [lenE p (Nat.le_refl _), lenE1]
          have y := a6 x (by omega) (by omega)
          rw [y.1, y.2.2.1, y.2.2.2, if_neg (by omega), if_neg (by omega), show s - (x - PS len p) = PS len p + s - x by omega]
          exact ⟨rfl, rfl, rfl⟩
        · have hp' : p + 1 ≤ m := by omega
          rw [lenE p (by omega)] at hx
          rw [lenE (p + 1) hp'] at hx2
          rw [lenE p (by omega), lenE (p + 1) hp']
          have mo : PS len (p + 1) ≤ PS len m := PS_mono hp'
          have y := a5 x (by omega)
          rw [y.1, y.2.2.1, y.2.2.2, x7, x9, x10]
          exact d6 p x (by omega) hx hx2
      · by_cases w : p = m
        · subst w
          rw [lenE p (Nat.le_refl _)] at hx
          rw [lenE1] at hx2
          exact (a6 x hx hx2).2.1
        · have hp' : p + 1 ≤ m := by omega
          rw [lenE p (by omega)] at hx
          rw [lenE (p + 1) hp'] at hx2
          have mo : PS len (p + 1) ≤ PS len m := PS_mono hp'
          rw [(a5 x (by omega)).2.1, x8]
          exact d7 p x (by omega) hx hx2
      · rw [o (22 * t + 11) (by omega), o (22 * t + 12) (by omega), ke (38 + 2 * v) (by omega) (by omega) (by omega) (by omega), ke (39 + 2 * v) (by omega) (by omega) (by omega) (by omega)]; exact d8 v hv
end OQ
end
section
/-! a cart more; what a statement does, both sides -/
section CO
variable {σ σ' ρ : Mem} {t a m n : Nat} {k : Nat → Int32} {len : Nat → Nat}
theorem LZ_fr (L : LZ σ t) (f : FrC t σ σ') : LZ σ' t := fun j hj => (f.2.1 j hj).trans (L j hj)
/-- a cart more on the class's side against a row that tells it -/
theorem RT_cart (R : RT σ t k m len n) (L : LZ σ t) {σ' : Mem} {k' : Nat → Int32} (h7 : n < 7) {a b c l : Nat} {x : Int32} {u : Bool} (hb : b ≤ 3) (hc : c ≤ 99) (hl : l ≤ 1) (hx : x = (if u then 1 else -1))
    (e1 : σ' (22 * t + 15 + n) = upd (upd (upd (upd (upd (rbeg (σ (22 * t + 15 + n))) 0 (bI u)) 2 (nI a)) 3 (nI b)) 1 (nI l)) 4 (nI c)) (e2 : σ' (22 * t) = upd (σ (22 * t)) 2 (nI (n + 1))) (eo : ∀ i, i ≠ 22 * t → i ≠ 22 * t + 15 + n → σ' i = σ i)
    (k1 : k' 1 = nI (n + 1)) (kc : k' (44 + 11 * n) = x ∧ k' (45 + 11 * n) = nI a ∧ k' (46 + 11 * n) = nI l ∧ k' (47 + 11 * n) = nI b ∧ k' (48 + 11 * n) = nI c ∧ k' (49 + 11 * n) = -2 ∧ k' (50 + 11 * n) = 0 ∧ k' (51 + 11 * n) = 0 ∧ k' (52 + 11 * n) = 0 ∧ k' (53 + 11 * n) = 0 ∧ k' (54 + 11 * n) = 0) (ko : ∀ j, j ≠ 1 → ¬ (44 + 11 * n ≤ j ∧ j ≤ 54 + 11 * n) → k' j = k j) : RT σ' t k' m len (n + 1) := by
  obtain ⟨V, ⟨hn, -⟩, ⟨M, hM, eM⟩, K, D, ⟨f2, f3, f4, f5⟩, W, hbb, hon, hz⟩ := R
  have h8 := V.1.2
  obtain ⟨c0, c1, c2, c3, c4, c5, c6, c7, c8, c9, c10⟩ := kc
  refine ⟨VS_cg V (fun j hj j1 _ _ _ => ko j j1 (by omega)), ⟨k1, by omega⟩, ⟨M, hM, (ko 2 (by omega) (by omega)).trans eM⟩, fun j hj => ?_, ?_, ⟨?_, ?_, ?_, ?_⟩, fun j hj => ?_, fun j hj q h12 h4 => ?_, fun s hs => ?_, fun j hj => ?_⟩
  · by_cases w : j = n
    · subst w
      refine ⟨?_, ?_, ⟨b, hb, c3⟩, ⟨c, hc, c4⟩, Or.inl c5⟩
      · rw [c0, hx]; cases u
        · exact Or.inr rfl
        · exact Or.inl rfl
      · rw [c2]
        have : l = 0 ∨ l = 1 := by omega
        rcases this with rfl | rfl
        · exact Or.inl rfl
        · exact Or.inr rfl
    · have q := K j (by omega)
      unfold KO at q ⊢
      rw [ko (44 + 11 * j) (by omega) (by omega), ko (46 + 11 * j) (by omega) (by omega), ko (47 + 11 * j) (by omega) (by omega), ko (48 + 11 * j) (by omega) (by omega), ko (49 + 11 * j) (by omega) (by omega)]
      exact q
  · obtain ⟨d1, d2, d3, d4, d5, d6, d7, d8⟩ := D
    unfold RD
    rw [eo (22 * t + 1) (by omega) (by omega), eo (22 * t + 2) (by omega) (by omega), eo (22 * t + 3) (by omega) (by omega), eo (22 * t + 4) (by omega) (by omega), eo (22 * t + 5) (by omega) (by omega), eo (22 * t + 6) (by omega) (by omega), eo (22 * t + 7) (by omega) (by omega), eo (22 * t + 8) (by omega) (by omega), eo (22 * t + 9) (by omega) (by omega), eo (22 * t + 10) (by omega) (by omega), eo (22 * t + 11) (by omega) (by omega), eo (22 * t + 12) (by omega) (by omega)]
    refine ⟨d1, d2, fun p hp => ?_, fun p hp hp2 => ?_, d5, d6, d7, fun v hv => ?_⟩
    · rw [ko (14 + 3 * p) (by omega) (by omega), ko (15 + 3 * p) (by omega) (by omega), ko (16 + 3 * p) (by omega) (by omega)]; exact d3 p hp
    · rw [ko (5 + p) (by omega) (by omega)]; exact d4 p hp hp2
    · rw [ko (38 + 2 * v) (by omega) (by omega), ko (39 + 2 * v) (by omega) (by omega)]; exact d8 v hv
  · rw [e2, upd_at, k1]
  · rw [e2, upd_ne _ _ (by omega), ko 2 (by omega) (by omega)]; exact f3
  · rw [e2, upd_ne _ _ (by omega), ko 3 (by omega) (by omega)]; exact f4
  · rw [e2, upd_ne _ _ (by omega), ko 4 (by omega) (by omega)]; exact f5
  · by_cases w : j = n
    · subst w
      unfold CW
      rw [e1, c0, c1, c2, c3, c4, c5, c6, c7, c8, c9, c10]
      simp (disch := omega) only [upd_at, upd_ne]
      rw [rbeg_lo _ (show 5 < 6 by omega), rbeg_hi _ (b := 7) (by omega) (by omega), rbeg_hi _ (b := 9) (by omega) (by omega), rbeg_hi _ (b := 10) (by omega) (by omega), rbeg_hi _ (b := 11) (by omega) (by omega), L j h7]
      refine ⟨?_, ⟨trivial, trivial, trivial, trivial, rfl⟩, rfl, Or.inl ⟨trivial, rfl⟩, Or.inr rfl, rfl, rfl⟩
      rw [hx]; cases u
      · exact Or.inr ⟨rfl, rfl⟩
      · exact Or.inl ⟨rfl, rfl⟩
    · have q := W j (by omega)
      unfold CW at q ⊢
      rw [eo (22 * t + 15 + j) (by omega) (by omega), ko (44 + 11 * j) (by omega) (by omega), ko (45 + 11 * j) (by omega) (by omega), ko (46 + 11 * j) (by omega) (by omega), ko (47 + 11 * j) (by omega) (by omega), ko (48 + 11 * j) (by omega) (by omega), ko (49 + 11 * j) (by omega) (by omega), ko (50 + 11 * j) (by omega) (by omega), ko (51 + 11 * j) (by omega) (by omega), ko (52 + 11 * j) (by omega) (by omega), ko (53 + 11 * j) (by omega) (by omega), ko (54 + 11 * j) (by omega) (by omega)]
      exact q
  · by_cases w : j = n
    · subst w
      rw [e1]
      rcases h4 with rfl | rfl | rfl | rfl
      · simp (disch := omega) only [upd_at, upd_ne]
        cases u
        · exact Or.inl rfl
        · exact Or.inr rfl
      · simp (disch := omega) only [upd_at, upd_ne]
        have : l = 0 ∨ l = 1 := by omega
        rcases this with rfl | rfl
        · exact Or.inl rfl
        · exact Or.inr rfl
      · simp (disch := omega) only [upd_ne]
        rw [rbeg_hi _ (by omega) (by omega)]; exact Or.inl rfl
      · simp (disch := omega) only [upd_ne]
        rw [rbeg_hi _ (by omega) (by omega)]; exact Or.inl rfl
    · rw [eo (22 * t + 15 + j) (by omega) (by omega)]; exact hbb j hj q h12 h4
  · rw [eo (22 * t + 14) (by omega) (by omega), hon s hs]
    congr 1
    have o : occ (spk k') s (n + 1) = occ (spk k') s n := by
      have q : ¬ spk k' n = (s : Int) := by
        show ¬ (k' (49 + 11 * n)).toInt = (s : Int)
        rw [c5, show (-2 : Int32).toInt = -2 by decide]; omega
      show occ (spk k') s n + (if spk k' n = (s : Int) then 1 else 0) = _
      rw [if_neg q]; rfl
    rw [o]
    refine (occ_cg (fun i hi => ?_) _).symm
    show (k' (49 + 11 * i)).toInt = (k (49 + 11 * i)).toInt
    rw [ko (49 + 11 * i) (by omega) (by omega)]
  · by_cases w : j = n
    · subst w; rw [c7]; exact fun _ => rfl
    · rw [ko (49 + 11 * j) (by omega) (by omega), ko (51 + 11 * j) (by omega) (by omega)]; exact hz j (by omega)
/-- the class's addCart -/
theorem cart_c (R : RT σ t k m len n) (h7 : n < 7) {a b c l : Nat} (ha : a ≤ 199) (hb : b ≤ 3) (hc : c ≤ 99) (hl : l ≤ 1) (u : Bool) : ∃ σ', F_X6_addCart σ t (bI u) (nI a) (nI b) (nI l) (nI c) = some (σ', 1) ∧ σ' (22 * t + 15 + n) = upd (upd (upd (upd (upd (rbeg (σ (22 * t + 15 + n))) 0 (bI u)) 2 (nI a)) 3 (nI b)) 1 (nI l)) 4 (nI c) ∧ σ' (22 * t) = upd (σ (22 * t)) 2 (nI (n + 1)) ∧ ∀ i, i ≠ 22 * t → i ≠ 22 * t + 15 + n → σ' i = σ i := by
  have cr : ∀ (τ : Mem) (i : Nat), cbeg τ i i = rbeg (τ i) := fun τ i => if_pos rfl
  have cn : ∀ (τ : Mem) (i j : Nat), j ≠ i → cbeg τ i j = τ j := fun τ i j h => if_neg h
  have l01 : nI l = 0 ∨ nI l = 1 := by
    have : l = 0 ∨ l = 1 := by omega
    rcases this with rfl | rfl
    · exact Or.inl rfl
    · exact Or.inr rfl
  have u01 : bI u = 0 ∨ bI u = 1 := by
    cases u
    · exact Or.inl rfl
    · exact Or.inr rfl
  have e2 : σ (22 * t) 2 = nI n := RT_2 R
  have z : ∀ τ : Mem, ∀ v1 v2 v3 v4 v5 : Int32, stm (stm (stm (stm (stm (cbeg τ (22 * t + 15 + n)) (22 * t + 15 + n) 0 v1) (22 * t + 15 + n) 2 v2) (22 * t + 15 + n) 3 v3) (22 * t + 15 + n) 1 v4) (22 * t + 15 + n) 4 v5 (22 * t) = τ (22 * t) := fun τ v1 v2 v3 v4 v5 => by
    rw [stm_ne _ _ _ (by omega), stm_ne _ _ _ (by omega), stm_ne _ _ _ (by omega), stm_ne _ _ _ (by omega), stm_ne _ _ _ (by omega), cn _ _ _ (by omega)]
  refine ⟨stm (stm (stm (stm (stm (stm (cbeg σ (22 * t + 15 + n)) (22 * t + 15 + n) 0 (bI u)) (22 * t + 15 + n) 2 (nI a)) (22 * t + 15 + n) 3 (nI b)) (22 * t + 15 + n) 1 (nI l)) (22 * t + 15 + n) 4 (nI c)) (22 * t) 2 (nI (n + 1)), ?_, ?_, ?_, ?_⟩
  rotate_left
  · rw [stm_ne _ _ _ (by omega)]
    simp only [stm_row]
    rw [cr]
  · rw [stm_row, z]
  · intro i h1 h2
    rw [stm_ne _ _ _ h1, stm_ne _ _ _ h2, stm_ne _ _ _ h2, stm_ne _ _ _ h2, stm_ne _ _ _ h2, stm_ne _ _ _ h2, cn _ _ _ h2]
  · unfold F_X6_addCart
    rw [e2, if_neg (show ¬ (7 : Int32) ≤ nI n from nI_ge (a := n) (b := 7) h7 (by decide)), if_neg (show ¬ (199 : Int32) < nI a from nI_nlt (a := 199) (b := a) ha (by decide)), if_neg (show ¬ (3 : Int32) < nI b from nI_nlt (a := 3) (b := b) hb (by decide)), if_pos (show nI c ≤ (99 : Int32) from nI_le (a := c) (b := 99) hc (by decide)), ix_nI h7 (by decide), Option.bind_some, ck_t _ u01, ck_t _ l01, z, e2, nI_1]
/-- the reference's cart -/
theorem cart_r (h7 : n < 7) (e1 : ρ 95 1 = nI n) (v va vb : Int32) : ∃ ρ', ((F_X8_puts ρ 95 (ρ 95 1) 0 v).bind fun s1 => (F_X8_puts s1 95 (ρ 95 1) 1 va).bind fun s2 => (F_X8_puts s2 95 (ρ 95 1) 3 vb).bind fun s3 => (F_X8_puts s3 95 (ρ 95 1) 2 (s3 102 2)).bind fun s4 => (F_X8_puts s4 95 (ρ 95 1) 4 (s4 102 3)).bind fun s5 => (F_X8_puts s5 95 (ρ 95 1) 10 0).bind fun s6 => (F_X8_begins s6 95 (ρ 95 1)).bind fun s7 => some ((stm s7 95 1 ((s7 95 1) + 1)), (1 : Int32))) = some (ρ', 1) ∧ (∀ i, i ≠ 95 → ρ' i = ρ i) ∧ ρ' 95 1 = nI (n + 1) ∧ (ρ' 95 (44 + 11 * n) = v ∧ ρ' 95 (45 + 11 * n) = va ∧ ρ' 95 (46 + 11 * n) = ρ 102 2 ∧ ρ' 95 (47 + 11 * n) = vb ∧ ρ' 95 (48 + 11 * n) = ρ 102 3 ∧ ρ' 95 (49 + 11 * n) = -2 ∧ ρ' 95 (50 + 11 * n) = 0 ∧ ρ' 95 (51 + 11 * n) = 0 ∧ ρ' 95 (52 + 11 * n) = 0 ∧ ρ' 95 (53 + 11 * n) = 0 ∧ ρ' 95 (54 + 11 * n) = 0) ∧ ∀ j, j ≠ 1 → ¬ (44 + 11 * n ≤ j ∧ j ≤ 54 + 11 * n) → ρ' 95 j = ρ 95 j := by
  have p0 : ∀ (τ : Mem) (w : Int32), F_X8_puts τ 95 (nI n) 0 w = some (stm τ 95 (44 + 11 * n) w) := fun τ w => puts_at h7 (f := 0) (by omega)
  have p1 : ∀ (τ : Mem) (w : Int32), F_X8_puts τ 95 (nI n) 1 w = some (stm τ 95 (45 + 11 * n) w) := fun τ w => puts_at h7 (f := 1) (by omega)
  have p2 : ∀ (τ : Mem) (w : Int32), F_X8_puts τ 95 (nI n) 2 w = some (stm τ 95 (46 + 11 * n) w) := fun τ w => puts_at h7 (f := 2) (by omega)
  have p3 : ∀ (τ : Mem) (w : Int32), F_X8_puts τ 95 (nI n) 3 w = some (stm τ 95 (47 + 11 * n) w) := fun τ w => puts_at h7 (f := 3) (by omega)
  have p4 : ∀ (τ : Mem) (w : Int32), F_X8_puts τ 95 (nI n) 4 w = some (stm τ 95 (48 + 11 * n) w) := fun τ w => puts_at h7 (f := 4) (by omega)
  have p10 : ∀ (τ : Mem) (w : Int32), F_X8_puts τ 95 (nI n) 10 w = some (stm τ 95 (54 + 11 * n) w) := fun τ w => puts_at h7 (f := 10) (by omega)
  obtain ⟨ρ1, b1, b2, b3, b4, b5, b6, b7, b8⟩ := begins_r (ρ := stm (stm (stm (stm (stm (stm ρ 95 (44 + 11 * n) v) 95 (45 + 11 * n) va) 95 (47 + 11 * n) vb) 95 (46 + 11 * n) (ρ 102 2)) 95 (48 + 11 * n) (ρ 102 3)) 95 (54 + 11 * n) 0) (a := 95) h7
  have g : ∀ (τ : Mem) (j : Nat) (w : Int32), stm τ 95 j w 102 = τ 102 := fun τ j w => stm_ne _ _ _ (by omega)
  have ob : ∀ j, ¬ (49 + 11 * n ≤ j ∧ j ≤ 53 + 11 * n) → ρ1 95 j = upd (upd (upd (upd (upd (upd (ρ 95) (44 + 11 * n) v) (45 + 11 * n) va) (47 + 11 * n) vb) (46 + 11 * n) (ρ 102 2)) (48 + 11 * n) (ρ 102 3)) (54 + 11 * n) 0 j := fun j hj => by
    rw [b3 j hj]; simp only [stm_row]
  have o1 : ρ1 95 1 = nI n := by
    rw [ob 1 (by omega)]; simp (disch := omega) only [upd_ne]; exact e1
  refine ⟨stm ρ1 95 1 (nI (n + 1)), ?_, fun i hi => ?_, ?_, ⟨?_, ?_, ?_, ?_, ?_, ?_, ?_, ?_, ?_, ?_, ?_⟩, fun j j1 j2 => ?_⟩
  · rw [e1, p0, Option.bind_some, p1, Option.bind_some, p3, Option.bind_some, p2, Option.bind_some, p4, Option.bind_some, p10, Option.bind_some]
    simp only [g]
    rw [b1, Option.bind_some, o1, nI_1]
  · rw [stm_ne _ _ _ hi, b2 i hi, stm_ne _ _ _ hi, stm_ne _ _ _ hi, stm_ne _ _ _ hi, stm_ne _ _ _ hi, stm_ne _ _ _ hi, stm_ne _ _ _ hi]
  · rw [stm_row, upd_at]
  · rw [stm_row, upd_ne _ _ (by omega), ob _ (by omega)]; simp (disch := omega) only [upd_ne, upd_at]
  · rw [stm_row, upd_ne _ _ (by omega), ob _ (by omega)]; simp (disch := omega) only [upd_ne, upd_at]
  · rw [stm_row, upd_ne _ _ (by omega), ob _ (by omega)]; simp (disch := omega) only [upd_ne, upd_at]
  · rw [stm_row, upd_ne _ _ (by omega), ob _ (by omega)]; simp (disch := omega) only [upd_ne, upd_at]
  · rw [stm_row, upd_ne _ _ (by omega), ob _ (by omega)]; simp (disch := omega) only [upd_ne, upd_at]
  · rw [stm_row, upd_ne _ _ (by omega)]; exact b4
  · rw [stm_row, upd_ne _ _ (by omega)]; exact b5
  · rw [stm_row, upd_ne _ _ (by omega)]; exact b6
  · rw [stm_row, upd_ne _ _ (by omega)]; exact b7
  · rw [stm_row, upd_ne _ _ (by omega)]; exact b8
  · rw [stm_row, upd_ne _ _ (by omega), ob _ (by omega)]; simp (disch := omega) only [upd_at]
  · rw [stm_row, upd_ne _ _ j1, ob _ (by omega)]; simp (disch := omega) only [upd_ne]
end CO
end
section
/-! what a statement does, both sides -/
section FU
variable {σ σ' ρ : Mem} {t a m n : Nat} {k : Nat → Int32} {len : Nat → Nat}
theorem piece_x (R : RT σ t k m len n) {a b : Nat} (h : ¬ (2 ≤ a ∧ a ≤ 9 ∧ b ≤ 2 ∧ m < 8)) (ha : a ≤ 9) (hb : b ≤ 9) : F_X4_addPiece σ t (nI a) (nI b) = some (σ, 0) := by
  have d1 := (RT_R R).1
  have h8 := RT_8 R
  unfold F_X4_addPiece
  rw [d1]
  by_cases q1 : m < 8
  · rw [if_neg (show ¬ (8 : Int32) ≤ nI m from nI_ge (a := m) (b := 8) q1 (by decide))]
    by_cases q2 : 2 ≤ a
    · rw [if_neg (show ¬ nI a < (2 : Int32) from nI_nlt (a := a) (b := 2) q2 (by omega)), if_pos (show nI a ≤ (9 : Int32) from nI_le (a := a) (b := 9) ha (by decide)), if_neg (nI_pos (by omega)), if_neg (show ¬ nI b ≤ (2 : Int32) from nI_ge (a := 2) (b := b) (by omega) (by omega))]
    · rw [if_pos (show nI a < (2 : Int32) from nI_lt (a := a) (b := 2) (by omega) (by decide))]
  · rw [if_pos (show (8 : Int32) ≤ nI m from nI_le (a := 8) (b := m) (by omega) (by omega))]
theorem room_x (R : RT σ t k m len n) {a b : Nat} (h : ¬ (1 ≤ a ∧ a < m ∧ b ≤ 4)) (ha : a ≤ 9) (hb : b ≤ 9) : F_X4_tellRoom σ t (nI a) (nI b) = some (σ, 0) := by
  have d1 := (RT_R R).1
  have h8 := RT_8 R
  unfold F_X4_tellRoom F_X4_isBetween
  rw [d1]
  by_cases q1 : 1 ≤ a
  · rw [if_neg (show ¬ nI a ≤ (0 : Int32) from nI_ge (a := 0) (b := a) q1 (by omega))]
    by_cases q2 : a < m
    · rw [if_neg (nI_ge q2 (by omega)), if_neg (show ¬ (8 : Int32) ≤ nI a from nI_ge (a := a) (b := 8) (by omega) (by decide)), Option.bind_some, if_neg i10, if_neg (nI_pos (by omega)), if_neg (show ¬ nI b ≤ (4 : Int32) from nI_ge (a := 4) (b := b) (by omega) (by omega))]
    · rw [if_pos (nI_le (by omega) (by omega)), Option.bind_some, if_pos rfl]
  · obtain rfl : a = 0 := by omega
    rw [if_pos (show nI 0 ≤ (0 : Int32) by decide), Option.bind_some, if_pos rfl]
theorem room_y (R : RT σ t k m len n) {a b : Nat} (h : 1 ≤ a ∧ a < m ∧ b ≤ 4) : F_X4_tellRoom σ t (nI a) (nI b) = some (stm σ (22 * t + 5) a (nI b), 1) := by
  have d1 := (RT_R R).1
  have h8 := RT_8 R
  unfold F_X4_tellRoom F_X4_isBetween
  rw [d1, if_neg (show ¬ nI a ≤ (0 : Int32) from nI_ge (a := 0) (b := a) h.1 (by omega)), if_neg (nI_ge h.2.1 (by omega)), if_neg (show ¬ (8 : Int32) ≤ nI a from nI_ge (a := a) (b := 8) (by omega) (by decide)), Option.bind_some, if_neg i10, if_neg (nI_pos (by omega)), if_pos (show nI b ≤ (4 : Int32) from nI_le (a := b) (b := 4) h.2.2 (by decide)), ix_nI (show a < 9 by omega) (by decide), Option.bind_some]
theorem vil_x (R : RT σ t k m len n) {a b : Nat} (h : ¬ (a < m ∧ b ≤ 2)) (ha : a ≤ 9) (hb : b ≤ 9) : F_X4_tellVillage σ t (nI a) (nI b) = some (σ, 0) := by
  have d1 := (RT_R R).1
  have h8 := RT_8 R
  unfold F_X4_tellVillage
  rw [d1, if_neg (nI_pos (by omega))]
  by_cases q2 : a < m
  · rw [if_neg (nI_ge q2 (by omega)), if_neg (nI_pos (by omega)), if_neg (show ¬ nI b < (3 : Int32) from nI_nlt (a := b) (b := 3) (by omega) (by omega))]
  · rw [if_pos (nI_le (by omega) (by omega))]
theorem vil_y (R : RT σ t k m len n) {a b : Nat} (h : a < m ∧ b ≤ 2) : F_X4_tellVillage σ t (nI a) (nI b) = some (stm σ (22 * t + 4) a (nI b), 1) := by
  have d1 := (RT_R R).1
  have h8 := RT_8 R
  unfold F_X4_tellVillage
  rw [d1, if_neg (nI_pos (by omega)), if_neg (nI_ge h.1 (by omega)), if_neg (nI_pos (by omega)), if_pos (show nI b < (3 : Int32) from nI_lt (a := b) (b := 3) (by omega) (by decide)), ix_nI (show a < 8 by omega) (by decide), Option.bind_some]
theorem rule_x {a b c : Nat} (h : ¬ (a < 3 ∧ b < 8 ∧ c ≤ 9)) (ha : a ≤ 9) (hb : b ≤ 9) (hc : c ≤ 9) : F_X4_tellRule σ t (nI a) (nI b) (nI c) = some (σ, 0) := by
  unfold F_X4_tellRule
  rw [if_neg (nI_pos (by omega))]
  by_cases q1 : a < 3
  · rw [if_neg (show ¬ (3 : Int32) ≤ nI a from nI_ge (a := a) (b := 3) q1 (by decide)), if_neg (nI_pos (by omega)), if_neg (show ¬ nI b < (8 : Int32) from nI_nlt (a := b) (b := 8) (by omega) (by omega))]
  · rw [if_pos (show (3 : Int32) ≤ nI a from nI_le (a := 3) (b := a) (by omega) (by omega))]
theorem cart_x0 (R : RT σ t k m len n) {a b c : Nat} (x l : Int32) (h : ¬ (n < 7 ∧ a ≤ 199 ∧ b ≤ 3 ∧ c ≤ 99)) (ha : a ≤ 999) (hb : b ≤ 9) (hc : c ≤ 999) : F_X6_addCart σ t x (nI a) (nI b) l (nI c) = some (σ, 0) := by
  have h7 := RT_7 R
  unfold F_X6_addCart
  rw [RT_2 R]
  by_cases q1 : n < 7
  · rw [if_neg (show ¬ (7 : Int32) ≤ nI n from nI_ge (a := n) (b := 7) q1 (by decide))]
    by_cases q2 : a ≤ 199
    · rw [if_neg (show ¬ (199 : Int32) < nI a from nI_nlt (a := 199) (b := a) q2 (by decide))]
      by_cases q3 : b ≤ 3
      · rw [if_neg (show ¬ (3 : Int32) < nI b from nI_nlt (a := 3) (b := b) q3 (by decide)), if_neg (show ¬ nI c ≤ (99 : Int32) from nI_ge (a := 99) (b := c) (by omega) (by omega))]
      · rw [if_pos (show (3 : Int32) < nI b from nI_lt (a := 3) (b := b) (by omega) (by omega))]
    · rw [if_pos (show (199 : Int32) < nI a from nI_lt (a := 199) (b := a) (by omega) (by omega))]
  · rw [if_pos (show (7 : Int32) ≤ nI n from nI_le (a := 7) (b := n) (by omega) (by omega))]
/-- both sides do what a statement asks, or neither -/
def DOES (σ ρ : Mem) (W : Int32) (n : Nat) : Prop := (F_X3_fulfil σ 2 = some (σ, 0) ∧ F_X8_comes ρ W = some (ρ, 0)) ∨ ∃ (σ' ρ' : Mem) (m' : Nat) (len' : Nat → Nat) (n' : Nat), F_X3_fulfil σ 2 = some (σ', 1) ∧ F_X8_comes ρ W = some (ρ', 1) ∧ RT σ' 2 (ρ' 95) m' len' n' ∧ FrC 2 σ σ' ∧ ∀ i, i ≠ 95 → ρ' i = ρ i
theorem ful_112 (R : RT σ 2 (ρ 95) m len n) {a b : Nat} (ha : a ≤ 9) (hb : b ≤ 9) (n0 : ρ 102 0 = nI a) (n1 : ρ 102 1 = nI b) (h3 : σ 85 3 = 112) (h4 : σ 85 4 = nI a) (h5 : σ 85 5 = nI b) : DOES σ ρ 112 n := by
  obtain ⟨M, hM, eM⟩ := R.2.2.1
  have e3 : σ (22 * 2) 3 = nI M := (RT_3 R).trans eM
  have h8 := RT_8 R
  have k0 : ρ 95 0 = nI m := R.1.1.1
  have l112 : ¬ (112 : Int32) = 114 := by decide
  by_cases z : M = 0
  · subst z
    have ec : F_X3_fulfil σ 2 = bd2 (F_X4_addPiece σ 2 (nI a) (nI b)) fun s r => if r = 0 then (some (s, 0)) else (some (s, 1)) := by
      unfold F_X3_fulfil
      rw [e3, if_pos (show nI 0 ≤ (0 : Int32) by decide), h3, if_pos rfl, h4, h5]
    have er : F_X8_comes ρ 112 = if nI a < 2 ∨ 9 < nI a then (some (ρ, 0)) else (if 2 < nI b then (some (ρ, 0)) else (if nI m = 8 then (some (ρ, 0)) else some ((stm (stm (stm (stm ρ 95 (14 + 3 * m) (nI a)) 95 (15 + 3 * m) (nI b)) 95 (16 + 3 * m) 0) 95 0 (nI (m + 1))), 1))) := by
      have x14 : ix 121 (14 + (3 * nI m)) = some (14 + 3 * m) := ix14 (by omega)
      have x15 : ix 121 ((14 + (3 * nI m)) + 1) = some (15 + 3 * m) := ix15 (by omega)
      have x16 : ix 121 ((14 + (3 * nI m)) + 2) = some (16 + 3 * m) := ix16 (by omega)
      have s0 : stm (stm (stm ρ 95 (14 + 3 * m) (nI a)) 95 (15 + 3 * m) (nI b)) 95 (16 + 3 * m) 0 95 0 = nI m := by simp only [stm_row]; simp (disch := omega) only [upd_ne]; exact k0
      unfold F_X8_comes
      rw [show ρ 95 2 = nI 0 from eM, if_pos (show nI 0 ≤ (0 : Int32) by decide), if_pos rfl, n0, n1, k0, x14, Option.bind_some, x15, Option.bind_some, x16, Option.bind_some, s0, nI_1]
    by_cases q : 2 ≤ a ∧ a ≤ 9 ∧ b ≤ 2 ∧ m < 8
    · obtain ⟨σ1, c1, c2, c3⟩ := piece_p R q.1 q.2.1 q.2.2.1 q.2.2.2
      refine Or.inr ⟨σ1, stm (stm (stm (stm ρ 95 (14 + 3 * m) (nI a)) 95 (15 + 3 * m) (nI b)) 95 (16 + 3 * m) 0) 95 0 (nI (m + 1)), m + 1, fun p => if p = m then a else len p, n, by rw [ec, c1, bd2_s, if_neg i10], ?_, ?_, c2, ?_⟩
      · rw [er, if_neg (fun w => w.elim (nI_nlt (a := a) (b := 2) q.1 (by omega)) (nI_nlt (a := 9) (b := a) ha (by decide))), if_neg (show ¬ (2 : Int32) < nI b from nI_nlt (a := 2) (b := b) q.2.2.1 (by decide)), if_neg (show ¬ nI m = (8 : Int32) from fun w => by have := nI_inj (a := m) (b := 8) w (by omega) (by omega); omega)]
      · simp only [stm_row]; exact c3
      · intro i hi; rw [stm_ne _ _ _ hi, stm_ne _ _ _ hi, stm_ne _ _ _ hi, stm_ne _ _ _ hi]
    · refine Or.inl ⟨by rw [ec, piece_x R q ha hb, bd2_s, if_pos rfl], ?_⟩
      rw [er]
      by_cases q2 : 2 ≤ a
      · rw [if_neg (fun w => w.elim (nI_nlt (a := a) (b := 2) q2 (by omega)) (nI_nlt (a := 9) (b := a) ha (by decide)))]
        by_cases q3 : b ≤ 2
        · rw [if_neg (show ¬ (2 : Int32) < nI b from nI_nlt (a := 2) (b := b) q3 (by decide)), if_pos (show nI m = (8 : Int32) by rw [show m = 8 by omega]; rfl)]
        · rw [if_pos (show (2 : Int32) < nI b from nI_lt (a := 2) (b := b) (by omega) (by omega))]
      · rw [if_pos (Or.inl (show nI a < (2 : Int32) from nI_lt (a := a) (b := 2) (by omega) (by decide)))]
  · have zz : ¬ nI M ≤ (0 : Int32) := nI_ge (a := 0) (b := M) (by omega) (by omega)
    refine Or.inl ⟨?_, ?_⟩
    · unfold F_X3_fulfil
      rw [e3, if_neg zz, h3, if_pos rfl]
    · unfold F_X8_comes
      rw [show ρ 95 2 = nI M from eM, if_neg zz, if_pos rfl]
theorem nI_pl {a b : Nat} (ha : a ≤ 1000) (hb : b ≤ 1000) : nI a - 1 < nI b ↔ a ≤ b := by
  have z1 : (1 : Int32).toInt = 1 := by decide
  have e := nI_toInt (n := a) (by omega)
  have f := nI_toInt (n := b) (by omega)
  rw [i32_lt, t_sub (by rw [e, z1]; omega) (by rw [e, z1]; omega), e, f, z1]
  omega
theorem ful_114 (R : RT σ 2 (ρ 95) m len n) {a b : Nat} (ha : a ≤ 9) (hb : b ≤ 9) (n0 : ρ 102 0 = nI a) (n1 : ρ 102 1 = nI b) (h3 : σ 85 3 = 114) (h4 : σ 85 4 = nI a) (h5 : σ 85 5 = nI b) : DOES σ ρ 114 n := by
  obtain ⟨M, hM, eM⟩ := R.2.2.1
  have e3 : σ (22 * 2) 3 = nI M := (RT_3 R).trans eM
  have h8 := RT_8 R
  have k0 : ρ 95 0 = nI m := R.1.1.1
  have l112 : ¬ (114 : Int32) = 112 := by decide
  by_cases z : M = 0
  · subst z
    have z0 : nI 0 ≤ (0 : Int32) := by decide
    have ec : F_X3_fulfil σ 2 = bd2 (F_X4_tellRoom σ 2 (nI a) (nI b)) fun s r => if r = 0 then (some (s, 0)) else (some (s, 1)) := by
      unfold F_X3_fulfil
      rw [e3, if_pos z0, h3, if_neg l112, if_pos rfl, h4, h5]
    have er : F_X8_comes ρ 114 = if nI a < 1 ∨ nI m - 1 < nI a then (some (ρ, 0)) else (if nI b ≤ 4 then some ((stm ρ 95 (5 + a) (nI b)), 1) else (some (ρ, 0))) := by
      have x5 : ix 121 (5 + nI a) = some (5 + a) ∨ 9 ≤ a := by
        by_cases q : a < 9
        · exact Or.inl (ix5 q)
        · exact Or.inr (by omega)
      unfold F_X8_comes
      rw [show ρ 95 2 = nI 0 from eM, if_pos z0, if_neg l112, if_pos rfl, n0, n1, k0]
      rcases x5 with x5 | x9
      · rw [x5, Option.bind_some]
      · have w : nI a < 1 ∨ nI m - 1 < nI a := Or.inr ((nI_pl (by omega) (by omega)).2 (by omega))
        rw [if_pos w, if_pos w]
    by_cases q : 1 ≤ a ∧ a < m ∧ b ≤ 4
    · refine Or.inr ⟨stm σ (22 * 2 + 5) a (nI b), stm ρ 95 (5 + a) (nI b), m, len, n, by rw [ec, room_y R q, bd2_s, if_neg i10], ?_, ?_, FrC_road (fun i hi => stm_ne _ _ _ (by omega)), fun i hi => stm_ne _ _ _ hi⟩
      · rw [er, if_neg (fun w => w.elim (nI_nlt (a := a) (b := 1) q.1 (by omega)) (fun w => by have := (nI_pl (by omega) (by omega)).1 w; omega)), if_pos (show nI b ≤ (4 : Int32) from nI_le (a := b) (b := 4) q.2.2 (by decide))]
      · rw [stm_row]; exact RT_room R q.1 q.2.1 q.2.2
    · refine Or.inl ⟨by rw [ec, room_x R q ha hb, bd2_s, if_pos rfl], ?_⟩
      rw [er]
      by_cases q2 : 1 ≤ a ∧ a < m
      · rw [if_neg (fun w => w.elim (nI_nlt (a := a) (b := 1) q2.1 (by omega)) (fun w => by have := (nI_pl (by omega) (by omega)).1 w; omega)), if_neg (show ¬ nI b ≤ (4 : Int32) from nI_ge (a := 4) (b := b) (by omega) (by omega))]
      · have w : nI a < 1 ∨ nI m - 1 < nI a := by
          by_cases q3 : 1 ≤ a
          · exact Or.inr ((nI_pl (by omega) (by omega)).2 (by omega))
          · exact Or.inl (nI_lt (a := a) (b := 1) (by omega) (by decide))
        rw [if_pos w]
  · have zz : ¬ nI M ≤ (0 : Int32) := nI_ge (a := 0) (b := M) (by omega) (by omega)
    refine Or.inl ⟨?_, ?_⟩
    · unfold F_X3_fulfil
      rw [e3, if_neg zz, h3, if_neg l112, if_pos rfl]
    · unfold F_X8_comes
      rw [show ρ 95 2 = nI M from eM, if_neg zz, if_neg l112, if_pos rfl]
theorem ful_118 (R : RT σ 2 (ρ 95) m len n) {a b : Nat} (ha : a ≤ 9) (hb : b ≤ 9) (n0 : ρ 102 0 = nI a) (n1 : ρ 102 1 = nI b) (h3 : σ 85 3 = 118) (h4 : σ 85 4 = nI a) (h5 : σ 85 5 = nI b) : DOES σ ρ 118 n := by
  obtain ⟨M, hM, eM⟩ := R.2.2.1
  have e3 : σ (22 * 2) 3 = nI M := (RT_3 R).trans eM
  have h8 := RT_8 R
  have k0 : ρ 95 0 = nI m := R.1.1.1
  have l112 : ¬ (118 : Int32) = 112 := by decide
  have l114 : ¬ (118 : Int32) = 114 := by decide
  have ec : F_X3_fulfil σ 2 = bd2 (F_X4_tellVillage σ 2 (nI a) (nI b)) fun s r => ck (r = 0 ∨ r = 1) <| some (s, r) := by
    unfold F_X3_fulfil
    rw [e3, h3, if_neg l112, if_neg l114, if_pos rfl, if_neg l112, if_neg l114, if_pos rfl, h4, h5]
    by_cases z : nI M ≤ (0 : Int32)
    · rw [if_pos z]
    · rw [if_neg z]
  have er : F_X8_comes ρ 118 = if nI m ≤ nI a then (some (ρ, 0)) else (if nI b ≤ 2 then some ((stm ρ 95 (16 + 3 * a) (nI b)), 1) else (some (ρ, 0))) := by
    have x5 : ix 121 ((14 + (3 * nI a)) + 2) = some (16 + 3 * a) ∨ 9 ≤ a := by
      by_cases q : a < 9
      · exact Or.inl (ix16 q)
      · exact Or.inr (by omega)
    have w : F_X8_comes ρ 118 = if nI m ≤ nI a then (some (ρ, 0)) else (if nI b ≤ 2 then (ix 121 ((14 + (3 * nI a)) + 2)).bind fun k_127 => some ((stm ρ 95 k_127 (nI b)), 1) else (some (ρ, 0))) := by
      unfold F_X8_comes
      rw [show ρ 95 2 = nI M from eM, if_neg l112, if_neg l114, if_pos rfl, if_neg l112, if_neg l114, if_pos rfl, n0, n1, k0]
      by_cases z : nI M ≤ (0 : Int32)
      · rw [if_pos z]
      · rw [if_neg z]
    rw [w]
    rcases x5 with x5 | x9
    · rw [x5, Option.bind_some]
    · have w : nI m ≤ nI a := nI_le (by omega) (by omega)
      rw [if_pos w, if_pos w]
  by_cases q : a < m ∧ b ≤ 2
  · refine Or.inr ⟨stm σ (22 * 2 + 4) a (nI b), stm ρ 95 (16 + 3 * a) (nI b), m, len, n, by rw [ec, vil_y R q, bd2_s, ck_t _ (Or.inr rfl)], ?_, ?_, FrC_road (fun i hi => stm_ne _ _ _ (by omega)), fun i hi => stm_ne _ _ _ hi⟩
    · rw [er, if_neg (nI_ge q.1 (by omega)), if_pos (show nI b ≤ (2 : Int32) from nI_le (a := b) (b := 2) q.2 (by decide))]
    · rw [stm_row]; exact RT_vil R q.1 q.2
  · refine Or.inl ⟨by rw [ec, vil_x R q ha hb, bd2_s, ck_t _ (Or.inl rfl)], ?_⟩
    rw [er]
    by_cases q2 : a < m
    · rw [if_neg (nI_ge q2 (by omega)), if_neg (show ¬ nI b ≤ (2 : Int32) from nI_ge (a := 2) (b := b) (by omega) (by omega))]
    · rw [if_pos (nI_le (by omega) (by omega))]
theorem ful_120 (R : RT σ 2 (ρ 95) m len n) {a b c : Nat} (ha : a ≤ 9) (hb : b ≤ 9) (hc : c ≤ 9) (n0 : ρ 102 0 = nI a) (n1 : ρ 102 1 = nI b) (n2 : ρ 102 2 = nI c) (h3 : σ 85 3 = 120) (h4 : σ 85 4 = nI a) (h5 : σ 85 5 = nI b) (h6 : σ 85 6 = nI c) : DOES σ ρ 120 n := by
  obtain ⟨M, hM, eM⟩ := R.2.2.1
  have e3 : σ (22 * 2) 3 = nI M := (RT_3 R).trans eM
  have l112 : ¬ (120 : Int32) = 112 := by decide
  have l114 : ¬ (120 : Int32) = 114 := by decide
  have l118 : ¬ (120 : Int32) = 118 := by decide
  have ec : F_X3_fulfil σ 2 = bd2 (F_X4_tellRule σ 2 (nI a) (nI b) (nI c)) fun s r => ck (r = 0 ∨ r = 1) <| some (s, r) := by
    unfold F_X3_fulfil
    rw [e3, h3, if_neg l112, if_neg l114, if_neg l118, if_pos rfl, if_neg l112, if_neg l114, if_neg l118, if_pos rfl, h4, h5, h6]
    by_cases z : nI M ≤ (0 : Int32)
    · rw [if_pos z]
    · rw [if_neg z]
  have er : F_X8_comes ρ 120 = if 2 < nI a then (some (ρ, 0)) else (if nI b ≤ 7 then some ((stm (stm ρ 95 (38 + 2 * a) (nI b)) 95 (39 + 2 * a) (nI c)), 1) else (some (ρ, 0))) := by
    have w : F_X8_comes ρ 120 = if 2 < nI a then (some (ρ, 0)) else (if nI b ≤ 7 then ((ix 121 (38 + (2 * nI a))).bind fun k_152 => (ix 121 ((38 + (2 * nI a)) + 1)).bind fun k_153 => some ((stm (stm ρ 95 k_152 (nI b)) 95 k_153 ((stm ρ 95 k_152 (nI b)) 102 2)), 1)) else (some (ρ, 0))) := by
      unfold F_X8_comes
      rw [show ρ 95 2 = nI M from eM, if_neg l112, if_neg l114, if_neg l118, if_pos rfl, if_neg l112, if_neg l114, if_neg l118, if_pos rfl, n0, n1]
      by_cases z : nI M ≤ (0 : Int32)
      · rw [if_pos z]
      · rw [if_neg z]
    rw [w]
    by_cases q : a < 3
    · have g : ∀ (j : Nat) (v : Int32), stm ρ 95 j v 102 2 = nI c := fun j v => by rw [stm_ne _ _ _ (by omega)]; exact n2
      rw [ix38 q, Option.bind_some, ix39 q, Option.bind_some, g]
    · have w : 2 < nI a := nI_lt (a := 2) (b := a) (by omega) (by omega)
      rw [if_pos w, if_pos w]
  by_cases q : a < 3 ∧ b < 8
  · refine Or.inr ⟨stm (stm σ (22 * 2 + 11) a (nI b)) (22 * 2 + 12) a (nI c), stm (stm ρ 95 (38 + 2 * a) (nI b)) 95 (39 + 2 * a) (nI c), m, len, n, by rw [ec, tellRule_c q.1 q.2 hc, bd2_s, ck_t _ (Or.inr rfl)], ?_, ?_, FrC_road (fun i hi => by rw [stm_ne _ _ _ (by omega), stm_ne _ _ _ (by omega)]), fun i hi => by rw [stm_ne _ _ _ hi, stm_ne _ _ _ hi]⟩
    · rw [er, if_neg (show ¬ (2 : Int32) < nI a from nI_nlt (a := 2) (b := a) (by omega) (by decide)), if_pos (show nI b ≤ (7 : Int32) from nI_le (a := b) (b := 7) (by omega) (by decide))]
    · refine RT_rule R q.1 q.2 hc (fun i h1 h2 => by rw [stm_ne _ _ _ h2, stm_ne _ _ _ h1]) ?_ ?_ ?_
      · rw [stm_ne _ _ _ (by omega), stm_row]
      · rw [stm_row, stm_ne _ _ _ (by omega)]
      · rw [stm_row, stm_row]
  · refine Or.inl ⟨by rw [ec, rule_x (fun w => q ⟨w.1, w.2.1⟩) ha hb hc, bd2_s, ck_t _ (Or.inl rfl)], ?_⟩
    rw [er]
    by_cases q2 : a < 3
    · rw [if_neg (show ¬ (2 : Int32) < nI a from nI_nlt (a := 2) (b := a) (by omega) (by decide)), if_neg (show ¬ nI b ≤ (7 : Int32) from nI_ge (a := 7) (b := b) (by omega) (by omega))]
    · rw [if_pos (show 2 < nI a from nI_lt (a := 2) (b := a) (by omega) (by omega))]
theorem ful_cart (R : RT σ 2 (ρ 95) m len n) (L : LZ σ 2) {W : Int32} (u : Bool) (hW : W = (if u then 117 else 100)) {a b c l : Nat} (ha : a ≤ 999) (hb : b ≤ 9) (hc : c ≤ 999) (hl : l ≤ 1) (n0 : ρ 102 0 = nI a) (n1 : ρ 102 1 = nI b) (n2 : ρ 102 2 = nI l) (n3 : ρ 102 3 = nI c) (h3 : σ 85 3 = W) (h4 : σ 85 4 = nI a) (h5 : σ 85 5 = nI b) (h6 : σ 85 6 = nI c) (h7 : σ 85 7 = nI l) : DOES σ ρ W n := by
  obtain ⟨M, hM, eM⟩ := R.2.2.1
  have e3 : σ (22 * 2) 3 = nI M := (RT_3 R).trans eM
  have k1 : ρ 95 1 = nI n := RT_n R
  have hn7 := RT_7 R
  have l112 : ¬ W = 112 := by rw [hW]; cases u <;> decide
  have l114 : ¬ W = 114 := by rw [hW]; cases u <;> decide
  have l118 : ¬ W = 118 := by rw [hW]; cases u <;> decide
  have l120 : ¬ W = 120 := by rw [hW]; cases u <;> decide
  by_cases z : M = 0
  · subst z
    have z0 : nI 0 ≤ (0 : Int32) := by decide
    have ec : F_X3_fulfil σ 2 = bd2 (F_X6_addCart σ 2 (bI u) (nI a) (nI b) (nI l) (nI c)) fun s r => if r = 0 then (some (s, 0)) else (some (s, 1)) := by
      unfold F_X3_fulfil
      rw [e3, if_pos z0, h3, if_neg l112, if_neg l114, if_neg l118, if_neg l120, h4, h5, h6, h7, hW]
      cases u
      · rw [if_neg (show ¬ (if false = true then (117 : Int32) else 100) = 117 by decide)]; rfl
      · rw [if_pos (show (if true = true then (117 : Int32) else 100) = 117 from rfl)]; rfl
    by_cases q : n < 7 ∧ a ≤ 199 ∧ b ≤ 3 ∧ c ≤ 99
    · obtain ⟨q1, q2, q3, q4⟩ := q
      obtain ⟨ρ1, g1, g2, g3, g4, g5⟩ := cart_r (ρ := ρ) q1 k1 (if u then 1 else -1) (nI a) (nI b)
      obtain ⟨σ1, d1, d2, d3, d4⟩ := cart_c R q1 (a := a) (b := b) (c := c) (l := l) q2 q3 q4 hl u
      rw [n2, n3] at g4
      refine Or.inr ⟨σ1, ρ1, m, len, n + 1, by rw [ec, d1, bd2_s, if_neg i10], ?_, RT_cart R L q1 q3 q4 hl rfl d2 d3 d4 g3 g4 g5, ⟨fun i hi => d4 i (by omega) (by omega), fun j hj => ?_, ?_, ?_⟩, g2⟩
      · unfold F_X8_comes
        rw [show ρ 95 2 = nI 0 from eM, if_pos z0, if_neg l112, if_neg l114, if_neg l118, if_neg l120, n0, n1, n3, if_neg (show ¬ (199 : Int32) < nI a from nI_nlt (a := 199) (b := a) q2 (by decide)), if_neg (show ¬ (3 : Int32) < nI b from nI_nlt (a := 3) (b := b) q3 (by decide)), if_neg (show ¬ (99 : Int32) < nI c from nI_nlt (a := 99) (b := c) q4 (by decide)), if_neg (show ¬ ρ 95 1 = (7 : Int32) from fun w => by have := nI_inj (a := n) (b := 7) (k1.symm.trans w) (by omega) (by omega); omega), hW]
        cases u
        · rw [if_neg (show ¬ (if false = true then (117 : Int32) else 100) = 117 by decide)]; exact g1
        · rw [if_pos (show (if true = true then (117 : Int32) else 100) = 117 from rfl)]; exact g1
      · by_cases w : j = n
        · subst w
          rw [d2]; simp (disch := omega) only [upd_ne]
          exact rbeg_lo _ (by omega)
        · rw [d4 _ (by omega) (by omega)]
      · rw [d3, upd_ne _ _ (by omega)]
      · rw [d3, upd_ne _ _ (by omega)]
    · refine Or.inl ⟨by rw [ec, cart_x0 R _ _ q ha hb hc, bd2_s, if_pos rfl], ?_⟩
      unfold F_X8_comes
      rw [show ρ 95 2 = nI 0 from eM, if_pos z0, if_neg l112, if_neg l114, if_neg l118, if_neg l120, n0, n1, n3]
      by_cases q2 : a ≤ 199
      · rw [if_neg (show ¬ (199 : Int32) < nI a from nI_nlt (a := 199) (b := a) q2 (by decide))]
        by_cases q3 : b ≤ 3
        · rw [if_neg (show ¬ (3 : Int32) < nI b from nI_nlt (a := 3) (b := b) q3 (by decide))]
          by_cases q4 : c ≤ 99
          · rw [if_neg (show ¬ (99 : Int32) < nI c from nI_nlt (a := 99) (b := c) q4 (by decide)), if_pos (show ρ 95 1 = (7 : Int32) by rw [k1, show n = 7 by omega]; rfl)]
          · rw [if_pos (show (99 : Int32) < nI c from nI_lt (a := 99) (b := c) (by omega) (by omega))]
        · rw [if_pos (show (3 : Int32) < nI b from nI_lt (a := 3) (b := b) (by omega) (by omega))]
      · rw [if_pos (show (199 : Int32) < nI a from nI_lt (a := 199) (b := a) (by omega) (by omega))]
  · have zz : ¬ nI M ≤ (0 : Int32) := nI_ge (a := 0) (b := M) (by omega) (by omega)
    refine Or.inl ⟨?_, ?_⟩
    · unfold F_X3_fulfil
      rw [e3, if_neg zz, h3, if_neg l112, if_neg l114, if_neg l118, if_neg l120]
    · unfold F_X8_comes
      rw [show ρ 95 2 = nI M from eM, if_neg zz, if_neg l112, if_neg l114, if_neg l118, if_neg l120]
/-- what a statement does -/
theorem fulfil_p (R : RT σ 2 (ρ 95) m len n) (L : LZ σ 2) {W : Int32} {a b c l : Nat} (hL : LET W a b c l) (hN : NUM (ρ 102) W a b c l) (h3 : σ 85 3 = W) (h4 : σ 85 4 = nI a) (h5 : σ 85 5 = nI b) (h6 : σ 85 6 = nI c) (h7 : σ 85 7 = nI l) : DOES σ ρ W n := by
  obtain ⟨n0, n1, n2, n3⟩ := hN
  rcases hL with ⟨hW, ha, hb, hc⟩ | ⟨hW, ha, hb, hc, hl⟩
  · rcases hW with rfl | rfl | rfl | rfl
    · exact ful_112 R ha hb n0 n1 h3 h4 h5
    · exact ful_114 R ha hb n0 n1 h3 h4 h5
    · exact ful_118 R ha hb n0 n1 h3 h4 h5
    · exact ful_120 R ha hb hc n0 n1 (n2 rfl) h3 h4 h5 h6
  · have nn := n3 hW
    rcases hW with hW | hW
    · exact ful_cart R L true hW ha hb hc hl n0 n1 nn.1 nn.2 h3 h4 h5 h6 h7
    · exact ful_cart R L false hW ha hb hc hl n0 n1 nn.1 nn.2 h3 h4 h5 h6 h7
/-- the class's alone -/
theorem fulfil_t {k : Nat → Int32} (R : RT σ 2 k m len n) (L : LZ σ 2) {W : Int32} {a b c l : Nat} (hL : LET W a b c l) (h3 : σ 85 3 = W) (h4 : σ 85 4 = nI a) (h5 : σ 85 5 = nI b) (h6 : σ 85 6 = nI c) (h7 : σ 85 7 = nI l) : F_X3_fulfil σ 2 = some (σ, 0) ∨ ∃ (σ' : Mem) (k' : Nat → Int32) (m' : Nat) (len' : Nat → Nat) (n' : Nat), F_X3_fulfil σ 2 = some (σ', 1) ∧ RT σ' 2 k' m' len' n' ∧ FrC 2 σ σ' := by
  let q : Nat → Int32 := fun j => if j = 0 then nI a else if j = 1 then nI b else if j = 2 then (if W = 120 then nI c else nI l) else nI c
  let ρ : Mem := fun i => if i = 95 then k else q
  have hN : NUM (ρ 102) W a b c l := by
    refine ⟨rfl, rfl, fun w => ?_, fun w => ⟨?_, rfl⟩⟩
    · show (if W = 120 then nI c else nI l) = nI c
      rw [if_pos w]
    · show (if W = 120 then nI c else nI l) = nI l
      rw [if_neg (fun x => by rw [x] at w; exact absurd w (by decide))]
  have R' : RT σ 2 (ρ 95) m len n := R
  rcases fulfil_p R' L hL hN h3 h4 h5 h6 h7 with ⟨x, -⟩ | ⟨σ', ρ', m', len', n', x, -, y, z, -⟩
  · exact Or.inl x
  · exact Or.inr ⟨σ', ρ' 95, m', len', n', x, y, z⟩
end FU
end
section
/-! reading a road's text: both sides -/
def SFq (T : Nat → Int32) (z p q : Nat) : Prop := q ≤ 1000 ∧ (∀ d σ, CS σ d z T p false → ∃ σ', F_X3_readStatement σ = some σ' ∧ CS σ' d z T q true ∧ ∀ i, i ≠ 85 → σ' i = σ i) ∧ (∀ d ρ, RS ρ d z T p → ∃ ρ', F_X8_readsStatement ρ = some (ρ', 0) ∧ RS ρ' d z T q ∧ KF ρ ρ')
def SKq (T : Nat → Int32) (z p q : Nat) (L : Int32) (a b c l : Nat) : Prop := (p < q ∧ q ≤ z ∧ p < z ∧ T p = L ∧ LET L a b c l) ∧ (∀ d σ, CS σ d z T p false → ∃ σ', F_X3_readStatement σ = some σ' ∧ CS σ' d z T q false ∧ (∀ i, i ≠ 85 → σ' i = σ i) ∧ σ' 85 3 = L ∧ σ' 85 4 = nI a ∧ σ' 85 5 = nI b ∧ σ' 85 6 = nI c ∧ σ' 85 7 = nI l) ∧ (∀ d ρ, RS ρ d z T p → ∃ ρ', F_X8_readsStatement ρ = some (ρ', 1) ∧ RS ρ' d z T q ∧ KF ρ ρ' ∧ NUM (ρ' 102) L a b c l)
def BAD (T : Nat → Int32) (z : Nat) : Nat → Nat → Nat → Prop
  | 0, p, q => SFq T z p q
  | e + 1, p, q => ∃ (p' : Nat) (L : Int32) (a b c l : Nat), SKq T z p p' L a b c l ∧ p' < z ∧ BAD T z e p' q
/-- k + 1 statements from p to the end -/
def GOOD (T : Nat → Int32) (z : Nat) : Nat → Nat → Prop
  | 0, p => ∃ (L : Int32) (a b c l : Nat), SKq T z p z L a b c l
  | k + 1, p => ∃ (p' : Nat) (L : Int32) (a b c l : Nat), SKq T z p p' L a b c l ∧ p' < z ∧ GOOD T z k p'
theorem parse_all {T : Nat → Int32} {z : Nat} (hz : z ≤ 100) : ∀ e p, z - p ≤ e → p ≤ z → (∃ g q, q ≤ 1000 ∧ BAD T z g p q) ∨ ∃ k, p + k < z ∧ GOOD T z k p := by
  intro e
  induction e with
  | zero =>
    intro p h1 h2
    rcases stmt (T := T) hz h2 with ⟨q, h⟩ | ⟨q, L, a, b, c, l, h⟩
    · exact Or.inl ⟨0, q, h.1, h⟩
    · exact absurd h.1.2.2.1 (by omega)
  | succ e ih =>
    intro p h1 h2
    rcases stmt (T := T) hz h2 with ⟨q, h⟩ | ⟨q, L, a, b, c, l, h⟩
    · exact Or.inl ⟨0, q, h.1, h⟩
    · have h' : SKq T z p q L a b c l := h
      have pq := h.1.1
      have qz := h.1.2.1
      by_cases w : q < z
      · rcases ih q (by omega) qz with ⟨g, r, r1, B⟩ | ⟨k, k1, G⟩
        · exact Or.inl ⟨g + 1, r, r1, q, L, a, b, c, l, h', w, B⟩
        · exact Or.inr ⟨k + 1, by omega, q, L, a, b, c, l, h', w, G⟩
      · obtain rfl : q = z := by omega
        exact Or.inr ⟨0, by omega, L, a, b, c, l, h'⟩
/-- what the class's reading may change -/
def MX (σ σ' : Mem) : Prop := (∀ i, i < 44 ∨ 66 ≤ i → i ≠ 85 → σ' i = σ i) ∧ σ' 44 8 = σ 44 8 ∧ σ' 44 9 = σ 44 9
def KG (ρ ρ' : Mem) : Prop := (∀ i, i ≠ 91 → i ≠ 95 → i ≠ 102 → ρ' i = ρ i) ∧ ρ' 91 10 = ρ 91 10
section RO
variable {σ σ' σ'' ρ ρ' ρ'' : Mem} {d z p m n : Nat} {T : Nat → Int32} {k : Nat → Int32} {len : Nat → Nat}
theorem MX_rf (σ : Mem) : MX σ σ := ⟨fun _ _ _ => rfl, rfl, rfl⟩
theorem MX_tr (h : MX σ σ') (h' : MX σ' σ'') : MX σ σ'' := ⟨fun i h1 h2 => (h'.1 i h1 h2).trans (h.1 i h1 h2), h'.2.1.trans h.2.1, h'.2.2.trans h.2.2⟩
theorem MX_85 (h : ∀ i, i ≠ 85 → σ' i = σ i) : MX σ σ' := ⟨fun i _ h2 => h i h2, by rw [h 44 (by omega)], by rw [h 44 (by omega)]⟩
theorem MX_fr (h : FrC 2 σ σ') : MX σ σ' := ⟨fun i h1 _ => h.1 i (by omega), h.2.2.1, h.2.2.2⟩
theorem KG_tr (h : KG ρ ρ') (h' : KG ρ' ρ'') : KG ρ ρ'' := ⟨fun i h1 h2 h3 => (h'.1 i h1 h2 h3).trans (h.1 i h1 h2 h3), h'.2.trans h.2⟩
theorem KG_kf (h : KF ρ ρ') : KG ρ ρ' := ⟨fun i h1 _ h3 => h.1 i h1 h3, h.2 10 (by omega) (by omega)⟩
theorem KG_95 (h : ∀ i, i ≠ 95 → ρ' i = ρ i) : KG ρ ρ' := ⟨fun i _ h2 _ => h i h2, by rw [h 91 (by omega)]⟩
theorem CS_fr {br : Bool} (C : CS σ d z T p br) (f : FrC 2 σ σ') : CS σ' d z T p br := by
  obtain ⟨⟨hd, hz, hp⟩, h0, h4, hT, h1, h2⟩ := C
  have e := fun i (h : 66 ≤ i) => f.1 i (by omega)
  refine ⟨⟨hd, hz, hp⟩, ?_, ?_, ?_, ?_, ?_⟩
  · rw [e 85 (by omega)]; exact h0
  · rw [e (68 + d) (by omega)]; exact h4
  · rw [e (76 + d) (by omega)]; exact hT
  · rw [e 85 (by omega)]; exact h1
  · rw [e 85 (by omega)]; exact h2
theorem RS_95 (R : RS ρ d z T p) (h : ∀ i, i ≠ 95 → ρ' i = ρ i) : RS ρ' d z T p := by
  unfold RS at R ⊢
  rw [h 91 (by omega), h 99 (by omega)]
  exact R
theorem RT_85 (R : RT σ 2 k m len n) (h : ∀ i, i ≠ 85 → σ' i = σ i) : RT σ' 2 k m len n := RT_cc R (fun i h1 h2 => h i (by omega))
theorem LZ_85 (L : LZ σ 2) (h : ∀ i, i ≠ 85 → σ' i = σ i) : LZ σ' 2 := LZ_cc L (fun i h1 h2 => h i (by omega))
/-- one more statement of the class's loop -/
theorem read_1 (C : CS σ d z T p false) {v5 : Nat} (h5 : v5 ≤ 100) (hv : v5 = 0 ∨ p < z) (nn : Nat) (v4 v3 : Int32) : F_X3_read_23 d 2 (nn + 1) σ (nI v5) v4 v3 = (F_X3_readStatement σ).bind fun s7 => if (s7 85 2) = 0 then (if 0 ≤ v4 then (F_X3_read_23 d 2 nn s7 (nI (v5 + 1)) v4 (v3 + 1)) else (bd2 (F_X3_fulfil s7 2) fun s10 r11 => if r11 = 0 then (F_X3_read_23 d 2 nn s10 (nI (v5 + 1)) (nI p) (v3 + 1)) else (F_X3_read_23 d 2 nn s10 (nI (v5 + 1)) v4 (v3 + 1)))) else (some (s7, ((-1000) - (s7 85 1)))) := by
  have t := tx_c C
  obtain ⟨⟨hd, hz, hp⟩, h0, h4, hT, h1, h2⟩ := C
  rw [F_X3_read_23, if_neg (show ¬ (100 : Int32) < nI v5 from nI_nlt (a := 100) (b := v5) h5 (by decide)), h2, if_pos (show bI false = 0 from rfl), h1, nI_1]
  by_cases z0 : v5 = 0
  · subst z0
    rw [if_pos (show nI 0 = 0 from rfl)]
  · have pz : p < z := by omega
    rw [if_neg (nI_ne0 (by omega) (by omega)), t, Option.bind_some, h4, if_neg (nI_ge pz (by omega))]
theorem read_e (C : CS σ d z T z false) {v5 : Nat} (h5 : v5 ≤ 100) (hv : 1 ≤ v5) (nn : Nat) (v4 v3 : Int32) : F_X3_read_23 d 2 (nn + 1) σ (nI v5) v4 v3 = if 0 ≤ v4 then (some (σ, ((-2000) - v4))) else (some (σ, v3)) := by
  have t := tx_c C
  obtain ⟨⟨hd, hz, hp⟩, h0, h4, hT, h1, h2⟩ := C
  rw [F_X3_read_23, if_neg (show ¬ (100 : Int32) < nI v5 from nI_nlt (a := 100) (b := v5) h5 (by decide)), h2, if_pos (show bI false = 0 from rfl), h1, if_neg (nI_ne0 (by omega) (by omega)), t, Option.bind_some, h4, if_pos (nI_le (Nat.le_refl _) (by omega))]
theorem fault_b {q : Nat} (hz : z ≤ 100) : ∀ (g p : Nat) (B : BAD T z g p q) (σ : Mem) (v5 nn f : Nat) (v3 : Int32), CS σ d z T p false → v5 ≤ p → (v5 = 0 ∨ p < z) → z - p < nn → f ≤ 1000 → ∃ σ', F_X3_read_23 d 2 nn σ (nI v5) (nI f) v3 = some (σ', -1000 - nI q) ∧ ∀ i, i ≠ 85 → σ' i = σ i := by
  intro g
  induction g with
  | zero =>
    intro p S σ v5 nn f v3 C h5 hv hn hf
    obtain ⟨nn, rfl⟩ : ∃ j, nn = j + 1 := ⟨nn - 1, by omega⟩
    obtain ⟨σ1, a1, a2, a3⟩ := S.2.1 d σ C
    refine ⟨σ1, ?_, a3⟩
    rw [read_1 C (by omega) hv, a1, Option.bind_some, a2.2.2.2.2.2, if_neg (show ¬ bI true = 0 by decide), a2.2.2.2.2.1]
  | succ g ih =>
    rintro p ⟨p', L, a, b, c, l, S, hp', B⟩ σ v5 nn f v3 C h5 hv hn hf
    obtain ⟨nn, rfl⟩ : ∃ j, nn = j + 1 := ⟨nn - 1, by omega⟩
    have s1 := S.1
    obtain ⟨σ1, a1, a2, a3, -⟩ := S.2.1 d σ C
    obtain ⟨σ2, b1, b2⟩ := ih p' B σ1 (v5 + 1) nn f (v3 + 1) a2 (by omega) (Or.inr hp') (by omega) hf
    refine ⟨σ2, ?_, fun i hi => (b2 i hi).trans (a3 i hi)⟩
    rw [read_1 C (by omega) hv, a1, Option.bind_some, a2.2.2.2.2.2, if_pos (show bI false = 0 from rfl), if_pos (show (0 : Int32) ≤ nI f from nI_le (a := 0) (b := f) (by omega) (by omega))]
    exact b1
theorem fault_g (hz : z ≤ 100) : ∀ (k p : Nat) (B : GOOD T z k p) (σ : Mem) (v5 nn f : Nat) (v3 : Int32), CS σ d z T p false → v5 ≤ p → z - p + 1 < nn → f ≤ 1000 → ∃ σ', F_X3_read_23 d 2 nn σ (nI v5) (nI f) v3 = some (σ', -2000 - nI f) ∧ ∀ i, i ≠ 85 → σ' i = σ i := by
  intro g
  induction g with
  | zero =>
    rintro p ⟨L, a, b, c, l, S⟩ σ v5 nn f v3 C h5 hn hf
    obtain ⟨nn, rfl⟩ : ∃ j, nn = j + 2 := ⟨nn - 2, by omega⟩
    have s1 := S.1
    obtain ⟨σ1, a1, a2, a3, -⟩ := S.2.1 d σ C
    have f0 : (0 : Int32) ≤ nI f := nI_le (a := 0) (b := f) (by omega) (by omega)
    refine ⟨σ1, ?_, a3⟩
    rw [read_1 C (by omega) (Or.inr s1.2.2.1), a1, Option.bind_some, a2.2.2.2.2.2, if_pos (show bI false = 0 from rfl), if_pos f0, read_e a2 (by omega) (by omega), if_pos f0]
  | succ g ih =>
    rintro p ⟨p', L, a, b, c, l, S, hp', B⟩ σ v5 nn f v3 C h5 hn hf
    obtain ⟨nn, rfl⟩ : ∃ j, nn = j + 1 := ⟨nn - 1, by omega⟩
    have s1 := S.1
    obtain ⟨σ1, a1, a2, a3, -⟩ := S.2.1 d σ C
    obtain ⟨σ2, b1, b2⟩ := ih p' B σ1 (v5 + 1) nn f (v3 + 1) a2 (by omega) (by omega) hf
    refine ⟨σ2, ?_, fun i hi => (b2 i hi).trans (a3 i hi)⟩
    rw [read_1 C (by omega) (Or.inr s1.2.2.1), a1, Option.bind_some, a2.2.2.2.2.2, if_pos (show bI false = 0 from rfl), if_pos (show (0 : Int32) ≤ nI f from nI_le (a := 0) (b := f) (by omega) (by omega))]
    exact b1
/-- the class reads a text that breaks -/
theorem run_b {q : Nat} (hz : z ≤ 100) : ∀ (g p : Nat) (B : BAD T z g p q) (σ : Mem) (v5 nn m n : Nat) (v3 : Int32) (k : Nat → Int32) (len : Nat → Nat), CS σ d z T p false → RT σ 2 k m len n → LZ σ 2 → v5 ≤ p → (v5 = 0 ∨ p < z) → z - p < nn → ∃ σ', F_X3_read_23 d 2 nn σ (nI v5) (-1) v3 = some (σ', -1000 - nI q) ∧ MX σ σ' := by
  have n1 : ¬ (0 : Int32) ≤ -1 := by decide
  intro g
  induction g with
  | zero =>
    intro p S σ v5 nn m n v3 k len C R L h5 hv hn
    obtain ⟨nn, rfl⟩ : ∃ j, nn = j + 1 := ⟨nn - 1, by omega⟩
    obtain ⟨σ1, a1, a2, a3⟩ := S.2.1 d σ C
    refine ⟨σ1, ?_, MX_85 a3⟩
    rw [read_1 C (by omega) hv, a1, Option.bind_some, a2.2.2.2.2.2, if_neg (show ¬ bI true = 0 by decide), a2.2.2.2.2.1]
  | succ g ih =>
    rintro p ⟨p', W, a, b, c, l, S, hp', B⟩ σ v5 nn m n v3 k len C R L h5 hv hn
    obtain ⟨nn, rfl⟩ : ∃ j, nn = j + 1 := ⟨nn - 1, by omega⟩
    have s1 := S.1
    have hp := C.1.2.2
    obtain ⟨σ1, a1, a2, a3, a4, a5, a6, a7, a8⟩ := S.2.1 d σ C
    have st := read_1 C (v5 := v5) (by omega) hv nn (-1) v3
    rw [a1, Option.bind_some, a2.2.2.2.2.2, if_pos (show bI false = 0 from rfl), if_neg n1] at st
    rcases fulfil_t (RT_85 R a3) (LZ_85 L a3) s1.2.2.2.2 a4 a5 a6 a7 a8 with x | ⟨σ2, k', m', len', n', x, y, w⟩
    · obtain ⟨σ3, b1, b2⟩ := fault_b (d := d) hz g p' B σ1 (v5 + 1) nn _ (v3 + 1) a2 (by omega) (Or.inr hp') (by omega) hp
      rw [x, bd2_s, if_pos rfl] at st
      exact ⟨σ3, st.trans b1, MX_85 (fun i hi => (b2 i hi).trans (a3 i hi))⟩
    · obtain ⟨σ3, b1, b2⟩ := ih p' B σ2 (v5 + 1) nn m' n' (v3 + 1) k' len' (CS_fr a2 w) y (LZ_fr (LZ_85 L a3) w) (by omega) (Or.inr hp') (by omega)
      rw [x, bd2_s, if_neg i10] at st
      exact ⟨σ3, st.trans b1, MX_tr (MX_85 a3) (MX_tr (MX_fr w) b2)⟩
end RO
end
section
/-! the call of a road's text -/
section RR
variable {σ σ' σ'' ρ ρ' ρ'' : Mem} {d z p m n : Nat} {T : Nat → Int32} {k : Nat → Int32} {len : Nat → Nat}
theorem pass_b {q : Nat} {x1 v2 : Int32} (hz : z ≤ 100) : ∀ (g p : Nat) (B : BAD T z g p q) (ρ : Mem) (nn : Nat) (v3 : Int32), RS ρ d z T p → p ≤ z → z - p < nn → ∃ ρ', F_X8_road_38 x1 nn ρ v3 v2 = some (ρ', -1000 - nI q) ∧ KF ρ ρ' := by
  intro g
  induction g with
  | zero =>
    intro p S ρ nn v3 R hp hn
    obtain ⟨nn, rfl⟩ : ∃ j, nn = j + 1 := ⟨nn - 1, by omega⟩
    obtain ⟨ρ1, a1, a2, a3⟩ := S.2.2 d ρ R
    refine ⟨ρ1, ?_, a3⟩
    rw [F_X8_road_38, a1, bd2_s, if_pos rfl, a2.2.2.2.2]
  | succ g ih =>
    rintro p ⟨p', W, a, b, c, l, S, hp', B⟩ ρ nn v3 R hp hn
    obtain ⟨nn, rfl⟩ : ∃ j, nn = j + 1 := ⟨nn - 1, by omega⟩
    have s1 := S.1
    obtain ⟨ρ1, a1, a2, a3, -⟩ := S.2.2 d ρ R
    obtain ⟨ρ2, b1, b2⟩ := ih p' B ρ1 nn (v3 + 1) a2 (by omega) (by omega)
    refine ⟨ρ2, ?_, KF_tr a3 b2⟩
    rw [F_X8_road_38, a1, bd2_s, if_neg i10, a2.2.2.2.2, a2.2.2.1, if_pos (nI_lt hp' (by omega))]
    exact b1
theorem pass_g {x1 v2 : Int32} (hz : z ≤ 100) : ∀ (k p : Nat) (B : GOOD T z k p) (ρ : Mem) (nn j : Nat), RS ρ d z T p → z - p < nn → ∃ ρ', F_X8_road_38 x1 nn ρ (nI j) v2 = F_X8_road_71 x1 FU ρ' 0 (nI (j + k + 1)) v2 ∧ RS ρ' d z T z ∧ KF ρ ρ' := by
  intro k
  induction k with
  | zero =>
    rintro p ⟨W, a, b, c, l, S⟩ ρ nn j R hn
    obtain ⟨nn, rfl⟩ : ∃ j, nn = j + 1 := ⟨nn - 1, by omega⟩
    obtain ⟨ρ1, a1, a2, a3, -⟩ := S.2.2 d ρ R
    refine ⟨ρ1, ?_, a2, a3⟩
    rw [F_X8_road_38, a1, bd2_s, if_neg i10, a2.2.2.2.2, a2.2.2.1, if_neg (nI_nlt (Nat.le_refl _) (by omega)), nI_1]
  | succ k ih =>
    rintro p ⟨p', W, a, b, c, l, S, hp', B⟩ ρ nn j R hn
    obtain ⟨nn, rfl⟩ : ∃ j, nn = j + 1 := ⟨nn - 1, by omega⟩
    have s1 := S.1
    obtain ⟨ρ1, a1, a2, a3, -⟩ := S.2.2 d ρ R
    obtain ⟨ρ2, b1, b2, b3⟩ := ih p' B ρ1 nn (j + 1) a2 (by omega)
    refine ⟨ρ2, ?_, b2, KF_tr a3 b3⟩
    rw [F_X8_road_38, a1, bd2_s, if_neg i10, a2.2.2.2.2, a2.2.2.1, if_pos (nI_lt hp' (by omega)), nI_1, b1, show j + 1 + k + 1 = j + (k + 1) + 1 by omega]
theorem r154_l {x1 v3 v2 : Int32} : ∀ (d j nn : Nat) (ρ : Mem), j + d = 121 → d < nn → (∀ q, q < j → ρ 92 q = ρ 95 q) → ∃ ρ' : Mem, F_X8_road_154 x1 nn ρ (nI j) v3 v2 = some (ρ', v3) ∧ (∀ i, i ≠ 92 → ρ' i = ρ i) ∧ ∀ q, q < 121 → ρ' 92 q = ρ 95 q := by
  intro d
  induction d with
  | zero =>
    intro j nn ρ e1 e2 hq
    obtain rfl : j = 121 := by omega
    obtain ⟨nn, rfl⟩ : ∃ j, nn = j + 1 := ⟨nn - 1, by omega⟩
    rw [F_X8_road_154, if_pos (show (121 : Int32) ≤ nI 121 by decide)]
    exact ⟨ρ, rfl, fun _ _ => rfl, hq⟩
  | succ d ih =>
    intro j nn ρ e1 e2 hq
    obtain ⟨nn, rfl⟩ : ∃ j, nn = j + 1 := ⟨nn - 1, by omega⟩
    have e95 : stm ρ 92 j (ρ 95 j) 95 = ρ 95 := stm_ne _ _ _ (by omega)
    obtain ⟨ρ', i1, i2, i3⟩ := ih (j + 1) nn (stm ρ 92 j (ρ 95 j)) (by omega) (by omega) (fun q hq2 => by
      rw [e95, stm_row]
      by_cases e : q = j
      · subst e; rw [upd_at]
      · rw [upd_ne _ _ e]; exact hq q (by omega))
    rw [F_X8_road_154, if_neg (show ¬ (121 : Int32) ≤ nI j from nI_ge (a := j) (b := 121) (by omega) (by decide)), ix_nI (by omega) (by decide), Option.bind_some, Option.bind_some, nI_1]
    rw [e95] at i3
    exact ⟨ρ', i1, fun i h1 => by rw [i2 i h1, stm_ne _ _ _ h1], i3⟩
theorem r71_l {x1 v3 v2 : Int32} : ∀ (d j nn : Nat) (ρ : Mem), j + d = 121 → d < nn → (∀ q, q < j → ρ 95 q = ρ 92 q) → ∃ (ρ' : Mem) (v4 : Int32), F_X8_road_71 x1 nn ρ (nI j) v3 v2 = F_X8_road_103 x1 FU (stm ρ' 91 12 0) v4 v3 v2 ∧ (∀ i, i ≠ 95 → ρ' i = ρ i) ∧ ∀ q, q < 121 → ρ' 95 q = ρ 92 q := by
  intro d
  induction d with
  | zero =>
    intro j nn ρ e1 e2 hq
    obtain rfl : j = 121 := by omega
    obtain ⟨nn, rfl⟩ : ∃ j, nn = j + 1 := ⟨nn - 1, by omega⟩
    rw [F_X8_road_71, if_pos (show (121 : Int32) ≤ nI 121 by decide)]
    exact ⟨ρ, nI 121, rfl, fun _ _ => rfl, hq⟩
  | succ d ih =>
    intro j nn ρ e1 e2 hq
    obtain ⟨nn, rfl⟩ : ∃ j, nn = j + 1 := ⟨nn - 1, by omega⟩
    have e92 : stm ρ 95 j (ρ 92 j) 92 = ρ 92 := stm_ne _ _ _ (by omega)
    obtain ⟨ρ', v4, i1, i2, i3⟩ := ih (j + 1) nn (stm ρ 95 j (ρ 92 j)) (by omega) (by omega) (fun q hq2 => by
      rw [e92, stm_row]
      by_cases e : q = j
      · subst e; rw [upd_at]
      · rw [upd_ne _ _ e]; exact hq q (by omega))
    rw [F_X8_road_71, if_neg (show ¬ (121 : Int32) ≤ nI j from nI_ge (a := j) (b := 121) (by omega) (by decide)), ix_nI (by omega) (by decide), Option.bind_some, Option.bind_some, nI_1]
    rw [e92] at i3
    exact ⟨ρ', v4, i1, fun i h1 => by rw [i2 i h1, stm_ne _ _ _ h1], i3⟩
/-- both sides do a text that is well written -/
theorem sim_g {x1 v3 v2 : Int32} (hz : z ≤ 100) : ∀ (k p : Nat) (B : GOOD T z k p) (σ ρ : Mem) (v5 nn nr j m n : Nat) (v4 : Int32) (len : Nat → Nat), CS σ d z T p false → RS ρ d z T p → RT σ 2 (ρ 95) m len n → LZ σ 2 → v5 ≤ p → z - p + 1 < nn → z - p + 1 < nr → ∃ σ', MX σ σ' ∧ ((∃ (f : Nat) (ρ' : Mem), f ≤ 1000 ∧ F_X3_read_23 d 2 nn σ (nI v5) (-1) (nI j) = some (σ', -2000 - nI f) ∧ F_X8_road_103 x1 nr ρ v4 v3 v2 = some (ρ', -2000 - nI f) ∧ KG ρ ρ') ∨ ∃ (ρ' : Mem) (m' : Nat) (len' : Nat → Nat) (n' : Nat), F_X3_read_23 d 2 nn σ (nI v5) (-1) (nI j) = some (σ', nI (j + k + 1)) ∧ F_X8_road_103 x1 nr ρ v4 v3 v2 = F_X8_road_154 x1 FU ρ' 0 v3 v2 ∧ KG ρ ρ' ∧ RT σ' 2 (ρ' 95) m' len' n' ∧ LZ σ' 2) := by
  have n1 : ¬ (0 : Int32) ≤ -1 := by decide
  -- one statement on both sides
  have one : ∀ (p p' : Nat) (W : Int32) (a b c l : Nat), SKq T z p p' W a b c l → ∀ (σ ρ : Mem) (v5 nn nr j m n : Nat) (v4 : Int32) (len : Nat → Nat), CS σ d z T p false → RS ρ d z T p → RT σ 2 (ρ 95) m len n → LZ σ 2 → v5 ≤ p → (∃ σ1 ρ1, CS σ1 d z T p' false ∧ MX σ σ1 ∧ KG ρ ρ1 ∧ F_X3_read_23 d 2 (nn + 1) σ (nI v5) (-1) (nI j) = F_X3_read_23 d 2 nn σ1 (nI (v5 + 1)) (nI p) (nI (j + 1)) ∧ F_X8_road_103 x1 (nr + 1) ρ v4 v3 v2 = some (ρ1, -2000 - nI p)) ∨ ∃ (σ1 ρ1 : Mem) (m' : Nat) (len' : Nat → Nat) (n' : Nat) (v4' : Int32), CS σ1 d z T p' false ∧ RS ρ1 d z T p' ∧ RT σ1 2 (ρ1 95) m' len' n' ∧ LZ σ1 2 ∧ MX σ σ1 ∧ KG ρ ρ1 ∧ F_X3_read_23 d 2 (nn + 1) σ (nI v5) (-1) (nI j) = F_X3_read_23 d 2 nn σ1 (nI (v5 + 1)) (-1) (nI (j + 1)) ∧ F_X8_road_103 x1 (nr + 1) ρ v4 v3 v2 = F_X8_road_103 x1 nr ρ1 v4' v3 v2 := by
    intro p p' W a b c l S σ ρ v5 nn nr j m n v4 len C Rr R L h5
    have s1 := S.1
    obtain ⟨σ1, a1, a2, a3, a4, a5, a6, a7, a8⟩ := S.2.1 d σ C
    obtain ⟨ρ1, b1, b2, b3, b4⟩ := S.2.2 d ρ Rr
    have st := read_1 C (v5 := v5) (by omega) (Or.inr s1.2.2.1) nn (-1) (nI j)
    rw [a1, Option.bind_some, a2.2.2.2.2.2, if_pos (show bI false = 0 from rfl), if_neg n1, nI_1] at st
    have sr : F_X8_road_103 x1 (nr + 1) ρ v4 v3 v2 = bd2 (F_X8_comes ρ1 W) fun s r => if r = 0 then (some (s, ((-2000) - nI p))) else (F_X8_road_103 x1 nr s (nI p) v3 v2) := by
      rw [F_X8_road_103, Rr.2.2.2.2, Rr.2.2.1, if_neg (nI_ge s1.2.2.1 (by omega)), here_r Rr, if_pos s1.2.2.1, s1.2.2.2.1, Option.bind_some, b1, bd2_s]
    have R1 : RT σ1 2 (ρ1 95) m len n := by
      rw [b3.1 95 (by omega) (by omega)]; exact RT_85 R a3
    rcases fulfil_p R1 (LZ_85 L a3) s1.2.2.2.2 b4 a4 a5 a6 a7 a8 with ⟨x, y⟩ | ⟨σ2, ρ2, m', len', n', x, y, u, w, v⟩
    · rw [x, bd2_s, if_pos rfl] at st
      rw [y, bd2_s, if_pos rfl] at sr
      exact Or.inl ⟨σ1, ρ1, a2, MX_85 a3, KG_kf b3, st, sr⟩
    · rw [x, bd2_s, if_neg i10] at st
      rw [y, bd2_s, if_neg i10] at sr
      exact Or.inr ⟨σ2, ρ2, m', len', n', nI p, CS_fr a2 w, RS_95 b2 v, u, LZ_fr (LZ_85 L a3) w, MX_tr (MX_85 a3) (MX_fr w), KG_tr (KG_kf b3) (KG_95 v), st, sr⟩
  intro k
  induction k with
  | zero =>
    rintro p ⟨W, a, b, c, l, S⟩ σ ρ v5 nn nr j m n v4 len C Rr R L h5 hn hr
    obtain ⟨nn, rfl⟩ : ∃ j, nn = j + 2 := ⟨nn - 2, by omega⟩
    obtain ⟨nr, rfl⟩ : ∃ j, nr = j + 2 := ⟨nr - 2, by omega⟩
    have s1 := S.1
    rcases one p z W a b c l S σ ρ v5 (nn + 1) (nr + 1) j m n v4 len C Rr R L h5 with ⟨σ1, ρ1, c1, c2, c3, c4, c5⟩ | ⟨σ1, ρ1, m', len', n', v4', c1, c2, c3, c4, c5, c6, c7, c8⟩
    · refine ⟨σ1, c2, Or.inl ⟨p, ρ1, by omega, ?_, c5, c3⟩⟩
      rw [c4, read_e c1 (by omega) (by omega), if_pos (show (0 : Int32) ≤ nI p from nI_le (a := 0) (b := p) (by omega) (by omega))]
    · refine ⟨σ1, c5, Or.inr ⟨ρ1, m', len', n', ?_, ?_, c6, c3, c4⟩⟩
      · rw [c7, read_e c1 (by omega) (by omega), if_neg n1]
      · rw [c8, F_X8_road_103, c2.2.2.2.2, c2.2.2.1, if_pos (nI_le (Nat.le_refl _) (by omega))]
  | succ k ih =>
    rintro p ⟨p', W, a, b, c, l, S, hp', B⟩ σ ρ v5 nn nr j m n v4 len C Rr R L h5 hn hr
    obtain ⟨nn, rfl⟩ : ∃ j, nn = j + 1 := ⟨nn - 1, by omega⟩
    obtain ⟨nr, rfl⟩ : ∃ j, nr = j + 1 := ⟨nr - 1, by omega⟩
    have s1 := S.1
    rcases one p p' W a b c l S σ ρ v5 nn nr j m n v4 len C Rr R L h5 with ⟨σ1, ρ1, c1, c2, c3, c4, c5⟩ | ⟨σ1, ρ1, m', len', n', v4', c1, c2, c3, c4, c5, c6, c7, c8⟩
    · obtain ⟨σ2, e1, e2⟩ := fault_g (d := d) hz k p' B σ1 (v5 + 1) nn p (nI (j + 1)) c1 (by omega) (by omega) (by omega)
      exact ⟨σ2, MX_tr c2 (MX_85 e2), Or.inl ⟨p, ρ1, by omega, c4.trans e1, c5, c3⟩⟩
    · obtain ⟨σ2, e1, e2⟩ := ih p' B σ1 ρ1 (v5 + 1) nn nr (j + 1) m' n' v4' len' c1 c2 c3 c4 (by omega) (by omega) (by omega)
      refine ⟨σ2, MX_tr c5 e1, ?_⟩
      rcases e2 with ⟨f, ρ2, f0, f1, f2, f3⟩ | ⟨ρ2, m2, len2, n2, f1, f2, f3, f4, f5⟩
      · exact Or.inl ⟨f, ρ2, f0, c7.trans f1, c8.trans f2, KG_tr c6 f3⟩
      · refine Or.inr ⟨ρ2, m2, len2, n2, ?_, c8.trans f2, KG_tr c6 f3, f4, f5⟩
        rw [c7, f1, show j + 1 + k + 1 = j + (k + 1) + 1 by omega]
end RR
end
section
/-! the call of a road's text: its end -/
theorem RS_0 {ρ : Mem} {d z : Nat} (hd : d < 8) (hz : z ≤ 100) (e : ρ 98 d = nI z) : RS (stm (stm (stm ρ 91 13 (100 * nI d)) 91 14 ((stm ρ 91 13 (100 * nI d)) 98 d)) 91 12 0) d z (fun i => ρ 99 (100 * d + i)) 0 := by
  have e1 : stm ρ 91 13 (100 * nI d) 98 d = nI z := by rw [stm_ne _ _ _ (by omega)]; exact e
  refine ⟨⟨hd, hz, by omega⟩, ?_, ?_, fun i hi => ?_, ?_⟩
  · simp only [stm_row]; simp (disch := omega) only [upd_ne, upd_at]
    exact nI_mul (a := 100) (b := d)
  · rw [e1]; simp only [stm_row]; simp (disch := omega) only [upd_ne, upd_at]
  · simp (disch := omega) only [stm_ne]
  · simp only [stm_row]; rw [upd_at]; rfl
theorem call_road (x : Int32) : CALL (fun σ => F_X7_road σ x) (fun σ => F_X8_road σ x) := by
  intro σ ρ I
  obtain ⟨⟨m, len, n, R⟩, L, w, G, S⟩ := I
  have I : INV σ ρ := ⟨⟨m, len, n, R⟩, L, w, G, S⟩
  have no : ∀ {r : Int32}, ∃ σ' r' ρ', some (σ, r) = some (σ', r') ∧ some (ρ, r) = some (ρ', r') ∧ INV σ' ρ' ∧ CF σ σ' ∧ RF ρ ρ' := fun {r} => ⟨σ, r, ρ, rfl, rfl, I, fun _ _ => rfl, fun _ _ => rfl⟩
  show ∃ σ' r ρ', F_X7_road σ x = some (σ', r) ∧ F_X8_road ρ x = some (ρ', r) ∧ _
  unfold F_X7_road F_X8_road F_X8_wrongRow
  rcases shelf_x (ρ := ρ) x with ⟨h1, h2⟩ | ⟨d, hd, rfl, h1, h2⟩
  · rw [if_pos h1, h2, Option.bind_some, if_pos rfl]; exact no
  rw [if_neg h1, h2, ix_nI hd (by decide)]
  simp only [obs, i10, if_false]
  have hSH := S
  obtain ⟨⟨s1, s2⟩, s3, s4, ⟨s5, z, hz, ez⟩, s6⟩ := S d hd
  rw [holdsBytes_c hSH hd, s1, if_neg (show ¬ (0 : Int32) < 0 by decide)]
  simp only [obs]
  by_cases k0 : ρ 96 d = 0
  · rw [if_pos k0, if_pos k0]; exact no
  rw [if_neg k0, if_neg k0]
  by_cases k1 : ρ 96 d = 2
  rotate_left
  · rw [if_neg k1, decide_eq_false (fun h => k1 h.1), Option.bind_some]; exact no
  rw [if_pos k1]
  by_cases k2 : ρ 97 d = 0
  rotate_left
  · rw [if_neg k2, decide_eq_false (fun h => k2 h.2), Option.bind_some]; exact no
  rw [if_pos k2, decide_eq_true ⟨k1, k2⟩, Option.bind_some, if_pos (show (0 : Int32) = 0 from rfl), if_neg (show ¬ bI true = 0 by decide), ck_t _ (RT_b R)]
  -- the text
  have R2 : RT (tcpy σ 2 0) 2 (ρ 92) m len n := RT_cpy R (by omega)
  have L2 : LZ (tcpy σ 2 0) 2 := fun j hj => by rw [tcpy_c (by omega) hj (by omega)]; exact L j hj
  have M2 := MC_tcpy (σ := σ) w
  have e68 : ∀ i, 66 ≤ i → tcpy σ 2 0 i = σ i := fun i hi => tcpy_ne σ (by omega)
  have C0 : CS (stm (stm (stm (tcpy σ 2 0) 85 0 (nI (68 + d))) 85 1 0) 85 2 0) d z (fun i => ρ 99 (100 * d + i)) 0 false := by
    refine ⟨⟨hd, hz, by omega⟩, ?_, ?_, fun i hi => ?_, ?_, ?_⟩
    · simp only [stm_row]; simp (disch := omega) only [upd_ne, upd_at]
    · simp (disch := omega) only [stm_ne]
      rw [e68 (68 + d) (by omega)]; exact s5.trans ez
    · simp (disch := omega) only [stm_ne]
      rw [e68 (76 + d) (by omega)]; exact s6 i (by omega)
    · simp only [stm_row]; simp (disch := omega) only [upd_ne, upd_at]; rfl
    · simp only [stm_row]; rw [upd_at]; rfl
  have R0 := RS_0 (ρ := ρ) hd hz ez
  have f85 : ∀ i, i ≠ 85 → stm (stm (stm (tcpy σ 2 0) 85 0 (nI (68 + d))) 85 1 0) 85 2 0 i = tcpy σ 2 0 i := fun i hi => by rw [stm_ne _ _ _ hi, stm_ne _ _ _ hi, stm_ne _ _ _ hi]
  have R2' := RT_85 R2 f85
  have L2' := LZ_85 L2 f85
  -- what holds after a text that did nothing
  have fin : ∀ (σ' ρ' : Mem), MX (stm (stm (stm (tcpy σ 2 0) 85 0 (nI (68 + d))) 85 1 0) 85 2 0) σ' → KG ρ ρ' → INV σ' ρ' ∧ CF σ σ' ∧ RF ρ ρ' := by
    intro σ' ρ' hM hK
    have c : ∀ i, i < 44 ∨ 66 ≤ i → i ≠ 85 → σ' i = σ i := fun i h1 h2 => (hM.1 i h1 h2).trans ((f85 i h2).trans (tcpy_ne σ (by omega)))
    obtain ⟨⟨w1, w2⟩, -⟩ := w
    refine ⟨⟨⟨m, len, n, ?_⟩, LZ_cc L (fun i _ h2 => c i (by omega) (by omega)), ⟨⟨by rw [c 0 (by omega) (by omega)]; exact w1, by rw [c 0 (by omega) (by omega)]; exact w2⟩, hM.2.1.trans ?_, hM.2.2.trans ?_⟩, IMG_cc G (fun i _ h2 => c i (by omega) (by omega)) (c 66 (by omega) (by omega)) (hK.1 93 (by omega) (by omega) (by omega)) hK.2, SH_cc hSH (fun i h1 h2 => c i (by omega) (by omega)) (fun i h1 h2 => hK.1 i (by omega) (by omega) (by omega))⟩, fun i hi => c i (by omega) (by omega), fun i hi => hK.1 i (by omega) (by omega) (by omega)⟩
    · rw [hK.1 92 (by omega) (by omega) (by omega)]
      exact RT_cc R (fun i _ h2 => c i (by omega) (by omega))
    · rw [f85 44 (by omega)]; exact M2.2.1
    · rw [f85 44 (by omega)]; exact M2.2.2
  have K0 : KG ρ (stm (stm (stm ρ 91 13 (100 * nI d)) 91 14 ((stm ρ 91 13 (100 * nI d)) 98 d)) 91 12 0) := ⟨fun i h1 _ _ => by rw [stm_ne _ _ _ h1, stm_ne _ _ _ h1, stm_ne _ _ _ h1], by simp only [stm_row]; simp (disch := omega) only [upd_ne]⟩
  rcases parse_all (T := fun i => ρ 99 (100 * d + i)) hz z 0 (by omega) (by omega) with ⟨g, q, hq, B⟩ | ⟨k, hk, B⟩
  · -- it breaks
    obtain ⟨σ', a1, a2⟩ := run_b (d := d) hz g 0 B _ 0 FU m n 0 _ len C0 R2' L2' (by omega) (Or.inl rfl) (Nat.lt_of_le_of_lt (show z - 0 ≤ 100 by omega) (by decide))
    have a1' : F_X3_read (tcpy σ 2 0) d 2 = some (σ', -1000 - nI q) := a1
    obtain ⟨ρ', b1, b2⟩ := pass_b (d := d) (x1 := nI d) (v2 := 0) hz g 0 B _ FU 0 R0 (by omega) (Nat.lt_of_le_of_lt (show z - 0 ≤ 100 by omega) (by decide))
    have neg : -1000 - nI q ≤ (0 : Int32) := by
      have z1 : (-1000 : Int32).toInt = -1000 := by decide
      have e := nI_toInt (n := q) (by omega)
      rw [i32_le, t_sub (by rw [e, z1]; omega) (by rw [e, z1]; omega), e, z1, show (0 : Int32).toInt = 0 by decide]
      omega
    rw [a1', bd2_s, if_pos neg, b1]
    obtain ⟨i1, i2, i3⟩ := fin σ' ρ' a2 (KG_tr K0 (KG_kf b2))
    exact ⟨_, _, _, rfl, rfl, i1, i2, i3⟩
  · obtain ⟨ρ1, b1, b2, b3⟩ := pass_g (d := d) (x1 := nI d) (v2 := 0) hz k 0 B _ FU 0 R0 (Nat.lt_of_le_of_lt (show z - 0 ≤ 100 by omega) (by decide))
    have b1' : F_X8_road_38 (nI d) FU (stm (stm (stm ρ 91 13 (100 * nI d)) 91 14 ((stm ρ 91 13 (100 * nI d)) 98 d)) 91 12 0) 0 0 = F_X8_road_71 (nI d) FU ρ1 0 (nI (0 + k + 1)) 0 := b1
    obtain ⟨ρ2, v4, c1, c2, c3⟩ := r71_l (x1 := nI d) (v3 := nI (0 + k + 1)) (v2 := 0) 121 0 FU ρ1 (by omega) (by decide) (fun q hq => absurd hq (Nat.not_lt_zero _))
    have c1' : F_X8_road_71 (nI d) FU ρ1 0 (nI (0 + k + 1)) 0 = F_X8_road_103 (nI d) FU (stm ρ2 91 12 0) v4 (nI (0 + k + 1)) 0 := c1
    have K2 : KG ρ (stm ρ2 91 12 0) := KG_tr K0 (KG_tr (KG_kf b3) (KG_tr (KG_95 c2) ⟨fun i h1 _ _ => stm_ne _ _ _ h1, by rw [stm_row, upd_ne _ _ (by omega)]⟩))
    have R3 : RS (stm ρ2 91 12 0) d z (fun i => ρ 99 (100 * d + i)) 0 := by
      obtain ⟨⟨q1, q2, -⟩, q4, q5, q6, -⟩ := RS_95 b2 c2
      refine ⟨⟨q1, q2, by omega⟩, ?_, ?_, fun i hi => ?_, ?_⟩
      · rw [stm_row, upd_ne _ _ (by omega)]; exact q4
      · rw [stm_row, upd_ne _ _ (by omega)]; exact q5
      · rw [stm_ne _ _ _ (by omega)]; exact q6 i hi
      · rw [stm_row, upd_at]; rfl
    have e92 : ρ1 92 = ρ 92 := (b3.1 92 (by omega) (by omega)).trans (K0.1 92 (by omega) (by omega) (by omega))
    have R4 : RT (stm (stm (stm (tcpy σ 2 0) 85 0 (nI (68 + d))) 85 1 0) 85 2 0) 2 (stm ρ2 91 12 0 95) m len n := by
      rw [stm_ne _ _ _ (by omega)]
      exact RT_121 R2' (fun q hq => by rw [c3 q hq, e92])
    obtain ⟨σ', a1, a2⟩ := sim_g (x1 := nI d) (v3 := nI (0 + k + 1)) (v2 := 0) hz k 0 B _ _ 0 FU FU 0 m n v4 len C0 R3 R4 L2' (by omega) (Nat.lt_of_le_of_lt (show z - 0 + 1 ≤ 101 by omega) (by decide)) (Nat.lt_of_le_of_lt (show z - 0 + 1 ≤ 101 by omega) (by decide))
    rw [b1', c1']
    rcases a2 with ⟨f, ρ3, f0, f1, f2, f3⟩ | ⟨ρ3, m', len', n', f1, f2, f3, f4, f5⟩
    · have f1' : F_X3_read (tcpy σ 2 0) d 2 = some (σ', -2000 - nI f) := f1
      have neg : -2000 - nI f ≤ (0 : Int32) := by
        have z1 : (-2000 : Int32).toInt = -2000 := by decide
        have e := nI_toInt (n := f) (by omega)
        rw [i32_le, t_sub (by rw [e, z1]; omega) (by rw [e, z1]; omega), e, z1, show (0 : Int32).toInt = 0 by decide]
        omega
      rw [f1', bd2_s, if_pos neg, f2]
      obtain ⟨i1, i2, i3⟩ := fin σ' ρ3 a1 (KG_tr K2 f3)
      exact ⟨_, _, _, rfl, rfl, i1, i2, i3⟩
    · have f1' : F_X3_read (tcpy σ 2 0) d 2 = some (σ', nI (0 + k + 1)) := f1
      obtain ⟨ρ4, g1, g2, g3⟩ := r154_l (x1 := nI d) (v3 := nI (0 + k + 1)) (v2 := 0) 121 0 FU ρ3 (by omega) (by decide) (fun q hq => absurd hq (Nat.not_lt_zero _))
      have g1' : F_X8_road_154 (nI d) FU ρ3 0 (nI (0 + k + 1)) 0 = some (ρ4, nI (0 + k + 1)) := g1
      rw [f1', bd2_s, if_neg (show ¬ nI (0 + k + 1) ≤ (0 : Int32) from nI_ge (a := 0) (b := 0 + k + 1) (by omega) (by omega)), ck_t _ (RT_b f4), f2, g1']
      have c : ∀ i, i < 44 ∨ 66 ≤ i → i ≠ 85 → σ' i = σ i := fun i h1 h2 => (a1.1 i h1 h2).trans ((f85 i h2).trans (tcpy_ne σ (by omega)))
      have c' : ∀ i, 22 ≤ i → i < 44 ∨ 66 ≤ i → i ≠ 85 → tcpy σ' 0 2 i = σ i := fun i h0 h1 h2 => (tcpy_ne σ' (by omega)).trans (c i h1 h2)
      have K4 : ∀ i, i ≠ 91 → i ≠ 92 → i ≠ 95 → i ≠ 102 → ρ4 i = ρ i := fun i h1 h2 h3 h4 => (g2 i h2).trans ((f3.1 i h1 h3 h4).trans (K2.1 i h1 h3 h4))
      have R5 : RT (tcpy σ' 0 2) 0 (ρ4 92) m' len' n' := RT_121 (RT_cpy (t := 0) f4 (by omega)) g3
      have e0 : tcpy σ' 0 2 0 = upd (upd (upd (upd (σ' 0) 2 (σ' 44 2)) 3 (σ' 44 3)) 4 (σ' 44 4)) 5 (σ' 44 5) := tcpy_0 (t := 0) (u := 2) (by omega)
      have e44 : tcpy σ' 0 2 44 = σ' 44 := tcpy_ne σ' (by omega)
      obtain ⟨⟨w1, w2⟩, -⟩ := w
      refine ⟨_, _, _, rfl, rfl, ⟨⟨m', len', n', R5⟩, fun j hj => ?_, ⟨⟨?_, ?_⟩, ?_, ?_⟩, IMG_cc G (fun i h1 h2 => c' i h1 (by omega) (by omega)) (c' 66 (by omega) (by omega) (by omega)) (K4 93 (by omega) (by omega) (by omega) (by omega)) ?_, SH_cc hSH (fun i h1 h2 => c' i (by omega) (by omega) (by omega)) (fun i h1 h2 => K4 i (by omega) (by omega) (by omega) (by omega))⟩, fun i hi => c' i (by omega) (by omega) (by omega), fun i hi => K4 i (by omega) (by omega) (by omega) (by omega)⟩
      · rw [tcpy_c (by omega) hj (by omega)]; exact f5 j hj
      · rw [e0]; simp (disch := omega) only [upd_ne]; rw [c 0 (by omega) (by omega)]; exact w1
      · rw [e0]; simp (disch := omega) only [upd_ne]; rw [c 0 (by omega) (by omega)]; exact w2
      · rw [e44, a1.2.1, f85 44 (by omega)]; exact M2.2.1
      · rw [e44, a1.2.2, f85 44 (by omega)]; exact M2.2.2
      · rw [g2 91 (by omega), f3.2, K2.2]
end
