/-! statements of a road's text -/
def LET (L : Int32) (a b c l : Nat) : Prop := ((L = 112 ∨ L = 114 ∨ L = 118 ∨ L = 120) ∧ a ≤ 9 ∧ b ≤ 9 ∧ c ≤ 9) ∨ ((L = 117 ∨ L = 100) ∧ a ≤ 999 ∧ b ≤ 9 ∧ c ≤ 999 ∧ l ≤ 1)
def NUM (r : Nat → Int32) (L : Int32) (a b c l : Nat) : Prop := r 0 = nI a ∧ r 1 = nI b ∧ (L = 120 → r 2 = nI c) ∧ ((L = 117 ∨ L = 100) → r 2 = nI l ∧ r 3 = nI c)
def SFAIL (T : Nat → Int32) (z p : Nat) : Prop := ∃ q : Nat, q ≤ 1000 ∧ (∀ d σ, CS σ d z T p false → ∃ σ', F_X3_readStatement σ = some σ' ∧ CS σ' d z T q true ∧ ∀ i, i ≠ 85 → σ' i = σ i) ∧ (∀ d ρ, RS ρ d z T p → ∃ ρ', F_X8_readsStatement ρ = some (ρ', 0) ∧ RS ρ' d z T q ∧ KF ρ ρ')
def SOK (T : Nat → Int32) (z p : Nat) : Prop := ∃ (q : Nat) (L : Int32) (a b c l : Nat), (p < q ∧ q ≤ z ∧ p < z ∧ T p = L ∧ LET L a b c l) ∧ (∀ d σ, CS σ d z T p false → ∃ σ', F_X3_readStatement σ = some σ' ∧ CS σ' d z T q false ∧ (∀ i, i ≠ 85 → σ' i = σ i) ∧ σ' 85 3 = L ∧ σ' 85 4 = nI a ∧ σ' 85 5 = nI b ∧ σ' 85 6 = nI c ∧ σ' 85 7 = nI l) ∧ (∀ d ρ, RS ρ d z T p → ∃ ρ', F_X8_readsStatement ρ = some (ρ', 1) ∧ RS ρ' d z T q ∧ KF ρ ρ' ∧ NUM (ρ' 102) L a b c l)
theorem numb_b {σ : Mem} {d z p : Nat} {T : Nat → Int32} (C : CS σ d z T p true) : ∃ σ', F_X3_number σ = some (σ', 0) ∧ CS σ' d z T p true ∧ KE σ σ' := by
  obtain ⟨σ', a1, a2, a3⟩ := digit_b C
  refine ⟨σ', ?_, a2, a3⟩
  unfold F_X3_number
  rw [a1, bd2_s, if_pos rfl]
section ST
variable {T : Nat → Int32} {z p : Nat}
theorem st_112 (hz : z ≤ 100) (hp : p < z) (hL : T p = 112) : SFAIL T z p ∨ SOK T z p := by
  by_cases h1 : dg T z (p + 1)
  rotate_left
  · refine Or.inl ⟨p + 1, by omega, fun d σ C => ?_, fun d ρ R => ?_⟩
    · have en := next_c C
      rw [if_pos hp, hL] at en
      have C0 := CS_o (CS_o (CS_o (CS_o (CS_o C (j := 3) (v := 112) (by omega)) (j := 4) (v := 0) (by omega)) (j := 5) (v := 0) (by omega)) (j := 6) (v := 0) (by omega)) (j := 7) (v := 0) (by omega)
      have F3 : (stm (stm (stm (stm (stm σ 85 3 112) 85 4 0) 85 5 0) 85 6 0) 85 7 0) 85 3 = 112 := by simp only [stm_row]; simp (disch := omega) only [upd_ne, upd_at]
      obtain ⟨C1, K1⟩ := CS_at C0 hp
      obtain ⟨s1, a1, E1, k1⟩ := digit_n C1 h1
      have D2 := CS_o E1 (j := 4) (v := 0) (by omega)
      have a3 := skips_b (s := 104) D2
      obtain ⟨s4, a4, E4, k4⟩ := want_b (s := 59) D2
      refine ⟨_, ?_, E4, fun i hi => ?_⟩
      · unfold F_X3_readStatement
        rw [en, Option.bind_some, F3, if_neg (show ¬ (112 : Int32) = 100 by decide), if_pos (show (112 : Int32) = 112 from rfl)]
        unfold F_X3_readPiece
        rw [a1, bd2_s, a3, bd2_s, if_pos rfl, Option.bind_some, a4, Option.bind_some]
      · rw [k4.1 i hi, stm_ne _ _ _ hi, k1.1 i hi, K1.1 i hi, stm_ne _ _ _ hi, stm_ne _ _ _ hi, stm_ne _ _ _ hi, stm_ne _ _ _ hi, stm_ne _ _ _ hi]
    · have en := here_r R
      rw [if_pos hp, hL] at en
      obtain ⟨R0, K0⟩ := RS_t R (v := 0)
      obtain ⟨R1, K1⟩ := RS_at R0 hp
      have t0 : (stm (stm ρ 91 15 0) 91 12 (stm ρ 91 15 0 91 12 + 1)) 91 15 = nI 0 := by rw [stm_row, upd_ne _ _ (by omega), stm_row, upd_at]; rfl
      refine ⟨_, ?_, R1, (KF_tr K0 K1)⟩
      · unfold F_X8_readsStatement
        rw [en, Option.bind_some, if_neg (show ¬ (112 : Int32) = 100 by decide), if_pos (show (112 : Int32) = 112 from rfl), readsD_n R1 h1, bd2_s, if_pos rfl]
  have b1 := (dv_e h1).2.1
  by_cases h2 : sg T z (p + 2) 104
  · by_cases h3 : dg T z (p + 3)
    rotate_left
    · refine Or.inl ⟨p + 3, by omega, fun d σ C => ?_, fun d ρ R => ?_⟩
      · have en := next_c C
        rw [if_pos hp, hL] at en
        have C0 := CS_o (CS_o (CS_o (CS_o (CS_o C (j := 3) (v := 112) (by omega)) (j := 4) (v := 0) (by omega)) (j := 5) (v := 0) (by omega)) (j := 6) (v := 0) (by omega)) (j := 7) (v := 0) (by omega)
        have F3 : (stm (stm (stm (stm (stm σ 85 3 112) 85 4 0) 85 5 0) 85 6 0) 85 7 0) 85 3 = 112 := by simp only [stm_row]; simp (disch := omega) only [upd_ne, upd_at]
        obtain ⟨C1, K1⟩ := CS_at C0 hp
        obtain ⟨s1, a1, E1, k1⟩ := digit_y C1 h1
        have D2 := CS_o E1 (j := 4) (v := (nI (dv T (p + 1)))) (by omega)
        obtain ⟨s3, a3, E3, k3⟩ := skips_y D2 h2
        obtain ⟨s4, a4, E4, k4⟩ := digit_n E3 h3
        have D5 := CS_o E4 (j := 5) (v := 0) (by omega)
        obtain ⟨s6, a6, E6, k6⟩ := want_b (s := 59) D5
        refine ⟨_, ?_, E6, fun i hi => ?_⟩
        · unfold F_X3_readStatement
          rw [en, Option.bind_some, F3, if_neg (show ¬ (112 : Int32) = 100 by decide), if_pos (show (112 : Int32) = 112 from rfl)]
          unfold F_X3_readPiece
          rw [a1, bd2_s, a3, bd2_s, if_neg i10, a4, bd2_s, Option.bind_some, a6, Option.bind_some]
        · rw [k6.1 i hi, stm_ne _ _ _ hi, k4.1 i hi, k3.1 i hi, stm_ne _ _ _ hi, k1.1 i hi, K1.1 i hi, stm_ne _ _ _ hi, stm_ne _ _ _ hi, stm_ne _ _ _ hi, stm_ne _ _ _ hi, stm_ne _ _ _ hi]
      · have en := here_r R
        rw [if_pos hp, hL] at en
        obtain ⟨R0, K0⟩ := RS_t R (v := 0)
        obtain ⟨R1, K1⟩ := RS_at R0 hp
        have t0 : (stm (stm ρ 91 15 0) 91 12 (stm ρ 91 15 0 91 12 + 1)) 91 15 = nI 0 := by rw [stm_row, upd_ne _ _ (by omega), stm_row, upd_at]; rfl
        obtain ⟨r1, b1, R11, L1, u1, t1⟩ := readsD_y R1 h1 (by omega) t0
        obtain ⟨R12, L2⟩ := RS_o R11 (j := 1) (v := 0)
        have t2 : stm r1 102 1 0 91 15 = nI 1 := by rw [stm_ne _ _ _ (by omega)]; exact t1
        obtain ⟨r3, b3, R13, L3, u3, t3⟩ := takes_y R12 h2
        have t3 := t3.trans t2
        refine ⟨_, ?_, R13, (KF_tr K0 (KF_tr K1 (KF_tr L1 (KF_tr L2 L3))))⟩
        · unfold F_X8_readsStatement
          rw [en, Option.bind_some, if_neg (show ¬ (112 : Int32) = 100 by decide), if_pos (show (112 : Int32) = 112 from rfl), b1, bd2_s, if_neg i10, b3, bd2_s, if_neg i10, readsD_n R13 h3, bd2_s, if_pos rfl]
    have b2 := (dv_e h3).2.1
    by_cases hq : sg T z (p + 4) 59
    rotate_left
    · refine Or.inl ⟨p + 4, by omega, fun d σ C => ?_, fun d ρ R => ?_⟩
      · have en := next_c C
        rw [if_pos hp, hL] at en
        have C0 := CS_o (CS_o (CS_o (CS_o (CS_o C (j := 3) (v := 112) (by omega)) (j := 4) (v := 0) (by omega)) (j := 5) (v := 0) (by omega)) (j := 6) (v := 0) (by omega)) (j := 7) (v := 0) (by omega)
        have F3 : (stm (stm (stm (stm (stm σ 85 3 112) 85 4 0) 85 5 0) 85 6 0) 85 7 0) 85 3 = 112 := by simp only [stm_row]; simp (disch := omega) only [upd_ne, upd_at]
        obtain ⟨C1, K1⟩ := CS_at C0 hp
        obtain ⟨s1, a1, E1, k1⟩ := digit_y C1 h1
        have D2 := CS_o E1 (j := 4) (v := (nI (dv T (p + 1)))) (by omega)
        obtain ⟨s3, a3, E3, k3⟩ := skips_y D2 h2
        obtain ⟨s4, a4, E4, k4⟩ := digit_y E3 h3
        have D5 := CS_o E4 (j := 5) (v := (nI (dv T (p + 3)))) (by omega)
        obtain ⟨s6, a6, E6, k6⟩ := want_n D5 hq (by decide)
        refine ⟨_, ?_, E6, fun i hi => ?_⟩
        · unfold F_X3_readStatement
          rw [en, Option.bind_some, F3, if_neg (show ¬ (112 : Int32) = 100 by decide), if_pos (show (112 : Int32) = 112 from rfl)]
          unfold F_X3_readPiece
          rw [a1, bd2_s, a3, bd2_s, if_neg i10, a4, bd2_s, Option.bind_some, a6, Option.bind_some]
        · rw [k6.1 i hi, stm_ne _ _ _ hi, k4.1 i hi, k3.1 i hi, stm_ne _ _ _ hi, k1.1 i hi, K1.1 i hi, stm_ne _ _ _ hi, stm_ne _ _ _ hi, stm_ne _ _ _ hi, stm_ne _ _ _ hi, stm_ne _ _ _ hi]
      · have en := here_r R
        rw [if_pos hp, hL] at en
        obtain ⟨R0, K0⟩ := RS_t R (v := 0)
        obtain ⟨R1, K1⟩ := RS_at R0 hp
        have t0 : (stm (stm ρ 91 15 0) 91 12 (stm ρ 91 15 0 91 12 + 1)) 91 15 = nI 0 := by rw [stm_row, upd_ne _ _ (by omega), stm_row, upd_at]; rfl
        obtain ⟨r1, b1, R11, L1, u1, t1⟩ := readsD_y R1 h1 (by omega) t0
        obtain ⟨R12, L2⟩ := RS_o R11 (j := 1) (v := 0)
        have t2 : stm r1 102 1 0 91 15 = nI 1 := by rw [stm_ne _ _ _ (by omega)]; exact t1
        obtain ⟨r3, b3, R13, L3, u3, t3⟩ := takes_y R12 h2
        have t3 := t3.trans t2
        obtain ⟨r4, b4, R14, L4, u4, t4⟩ := readsD_y R13 h3 (by omega) t3
        refine ⟨_, ?_, R14, (KF_tr K0 (KF_tr K1 (KF_tr L1 (KF_tr L2 (KF_tr L3 L4)))))⟩
        · unfold F_X8_readsStatement
          rw [en, Option.bind_some, if_neg (show ¬ (112 : Int32) = 100 by decide), if_pos (show (112 : Int32) = 112 from rfl), b1, bd2_s, if_neg i10, b3, bd2_s, if_neg i10, b4, bd2_s, if_neg i10, takes_n R14 hq (by decide), bd2_s, ck_t _ (by decide)]
    · refine Or.inr ⟨p + 5, 112, dv T (p + 1), dv T (p + 3), 0, 0, ⟨by omega, by have := hq.1; omega, hp, hL, Or.inl ⟨Or.inl rfl, b1, b2, by omega⟩⟩, fun d σ C => ?_, fun d ρ R => ?_⟩
      · have en := next_c C
        rw [if_pos hp, hL] at en
        have C0 := CS_o (CS_o (CS_o (CS_o (CS_o C (j := 3) (v := 112) (by omega)) (j := 4) (v := 0) (by omega)) (j := 5) (v := 0) (by omega)) (j := 6) (v := 0) (by omega)) (j := 7) (v := 0) (by omega)
        have F3 : (stm (stm (stm (stm (stm σ 85 3 112) 85 4 0) 85 5 0) 85 6 0) 85 7 0) 85 3 = 112 := by simp only [stm_row]; simp (disch := omega) only [upd_ne, upd_at]
        obtain ⟨C1, K1⟩ := CS_at C0 hp
        obtain ⟨s1, a1, E1, k1⟩ := digit_y C1 h1
        have D2 := CS_o E1 (j := 4) (v := (nI (dv T (p + 1)))) (by omega)
        obtain ⟨s3, a3, E3, k3⟩ := skips_y D2 h2
        obtain ⟨s4, a4, E4, k4⟩ := digit_y E3 h3
        have D5 := CS_o E4 (j := 5) (v := (nI (dv T (p + 3)))) (by omega)
        obtain ⟨s6, a6, E6, k6⟩ := want_y D5 hq
        refine ⟨_, ?_, E6, fun i hi => ?_, ?_, ?_, ?_, ?_, ?_⟩
        · unfold F_X3_readStatement
          rw [en, Option.bind_some, F3, if_neg (show ¬ (112 : Int32) = 100 by decide), if_pos (show (112 : Int32) = 112 from rfl)]
          unfold F_X3_readPiece
          rw [a1, bd2_s, a3, bd2_s, if_neg i10, a4, bd2_s, Option.bind_some, a6, Option.bind_some]
        · rw [k6.1 i hi, stm_ne _ _ _ hi, k4.1 i hi, k3.1 i hi, stm_ne _ _ _ hi, k1.1 i hi, K1.1 i hi, stm_ne _ _ _ hi, stm_ne _ _ _ hi, stm_ne _ _ _ hi, stm_ne _ _ _ hi, stm_ne _ _ _ hi]
        · rw [k6.2 3 (by omega) (by omega), stm_row, upd_ne _ _ (by omega), k4.2 3 (by omega) (by omega), k3.2 3 (by omega) (by omega), stm_row, upd_ne _ _ (by omega), k1.2 3 (by omega) (by omega), K1.2 3 (by omega) (by omega)]; simp only [stm_row]; simp (disch := omega) only [upd_ne, upd_at]
        · rw [k6.2 4 (by omega) (by omega), stm_row, upd_ne _ _ (by omega), k4.2 4 (by omega) (by omega), k3.2 4 (by omega) (by omega), stm_row, upd_at]
        · rw [k6.2 5 (by omega) (by omega), stm_row, upd_at]
        · rw [k6.2 6 (by omega) (by omega), stm_row, upd_ne _ _ (by omega), k4.2 6 (by omega) (by omega), k3.2 6 (by omega) (by omega), stm_row, upd_ne _ _ (by omega), k1.2 6 (by omega) (by omega), K1.2 6 (by omega) (by omega)]; simp only [stm_row]; simp (disch := omega) only [upd_ne, upd_at]; rfl
        · rw [k6.2 7 (by omega) (by omega), stm_row, upd_ne _ _ (by omega), k4.2 7 (by omega) (by omega), k3.2 7 (by omega) (by omega), stm_row, upd_ne _ _ (by omega), k1.2 7 (by omega) (by omega), K1.2 7 (by omega) (by omega)]; simp only [stm_row]; simp (disch := omega) only [upd_ne, upd_at]; rfl
      · have en := here_r R
        rw [if_pos hp, hL] at en
        obtain ⟨R0, K0⟩ := RS_t R (v := 0)
        obtain ⟨R1, K1⟩ := RS_at R0 hp
        have t0 : (stm (stm ρ 91 15 0) 91 12 (stm ρ 91 15 0 91 12 + 1)) 91 15 = nI 0 := by rw [stm_row, upd_ne _ _ (by omega), stm_row, upd_at]; rfl
        obtain ⟨r1, b1, R11, L1, u1, t1⟩ := readsD_y R1 h1 (by omega) t0
        obtain ⟨R12, L2⟩ := RS_o R11 (j := 1) (v := 0)
        have t2 : stm r1 102 1 0 91 15 = nI 1 := by rw [stm_ne _ _ _ (by omega)]; exact t1
        obtain ⟨r3, b3, R13, L3, u3, t3⟩ := takes_y R12 h2
        have t3 := t3.trans t2
        obtain ⟨r4, b4, R14, L4, u4, t4⟩ := readsD_y R13 h3 (by omega) t3
        obtain ⟨r5, b5, R15, L5, u5, t5⟩ := takes_y R14 hq
        have t5 := t5.trans t4
        refine ⟨_, ?_, R15, (KF_tr K0 (KF_tr K1 (KF_tr L1 (KF_tr L2 (KF_tr L3 (KF_tr L4 L5)))))), ?_, ?_, ?_, ?_⟩
        · unfold F_X8_readsStatement
          rw [en, Option.bind_some, if_neg (show ¬ (112 : Int32) = 100 by decide), if_pos (show (112 : Int32) = 112 from rfl), b1, bd2_s, if_neg i10, b3, bd2_s, if_neg i10, b4, bd2_s, if_neg i10, b5, bd2_s, ck_t _ (by decide)]
        · rw [u5, u4, upd_ne _ _ (by omega), u3, stm_row, upd_ne _ _ (by omega), u1, upd_at]
        · rw [u5, u4, upd_at]
        · intro q; exact absurd q (by decide)
        · intro q; exact absurd q (by decide)
  · by_cases hq : sg T z (p + 2) 59
    rotate_left
    · refine Or.inl ⟨p + 2, by omega, fun d σ C => ?_, fun d ρ R => ?_⟩
      · have en := next_c C
        rw [if_pos hp, hL] at en
        have C0 := CS_o (CS_o (CS_o (CS_o (CS_o C (j := 3) (v := 112) (by omega)) (j := 4) (v := 0) (by omega)) (j := 5) (v := 0) (by omega)) (j := 6) (v := 0) (by omega)) (j := 7) (v := 0) (by omega)
        have F3 : (stm (stm (stm (stm (stm σ 85 3 112) 85 4 0) 85 5 0) 85 6 0) 85 7 0) 85 3 = 112 := by simp only [stm_row]; simp (disch := omega) only [upd_ne, upd_at]
        obtain ⟨C1, K1⟩ := CS_at C0 hp
        obtain ⟨s1, a1, E1, k1⟩ := digit_y C1 h1
        have D2 := CS_o E1 (j := 4) (v := (nI (dv T (p + 1)))) (by omega)
        have a3 := skips_n D2 h2 (by decide)
        obtain ⟨s4, a4, E4, k4⟩ := want_n D2 hq (by decide)
        refine ⟨_, ?_, E4, fun i hi => ?_⟩
        · unfold F_X3_readStatement
          rw [en, Option.bind_some, F3, if_neg (show ¬ (112 : Int32) = 100 by decide), if_pos (show (112 : Int32) = 112 from rfl)]
          unfold F_X3_readPiece
          rw [a1, bd2_s, a3, bd2_s, if_pos rfl, Option.bind_some, a4, Option.bind_some]
        · rw [k4.1 i hi, stm_ne _ _ _ hi, k1.1 i hi, K1.1 i hi, stm_ne _ _ _ hi, stm_ne _ _ _ hi, stm_ne _ _ _ hi, stm_ne _ _ _ hi, stm_ne _ _ _ hi]
      · have en := here_r R
        rw [if_pos hp, hL] at en
        obtain ⟨R0, K0⟩ := RS_t R (v := 0)
        obtain ⟨R1, K1⟩ := RS_at R0 hp
        have t0 : (stm (stm ρ 91 15 0) 91 12 (stm ρ 91 15 0 91 12 + 1)) 91 15 = nI 0 := by rw [stm_row, upd_ne _ _ (by omega), stm_row, upd_at]; rfl
        obtain ⟨r1, b1, R11, L1, u1, t1⟩ := readsD_y R1 h1 (by omega) t0
        obtain ⟨R12, L2⟩ := RS_o R11 (j := 1) (v := 0)
        have t2 : stm r1 102 1 0 91 15 = nI 1 := by rw [stm_ne _ _ _ (by omega)]; exact t1
        refine ⟨_, ?_, R12, (KF_tr K0 (KF_tr K1 (KF_tr L1 L2)))⟩
        · unfold F_X8_readsStatement
          rw [en, Option.bind_some, if_neg (show ¬ (112 : Int32) = 100 by decide), if_pos (show (112 : Int32) = 112 from rfl), b1, bd2_s, if_neg i10, takes_n R12 h2 (by decide), bd2_s, if_pos rfl, takes_n R12 hq (by decide), bd2_s, ck_t _ (by decide)]
    · refine Or.inr ⟨p + 3, 112, dv T (p + 1), 0, 0, 0, ⟨by omega, by have := hq.1; omega, hp, hL, Or.inl ⟨Or.inl rfl, b1, by omega, by omega⟩⟩, fun d σ C => ?_, fun d ρ R => ?_⟩
      · have en := next_c C
        rw [if_pos hp, hL] at en
        have C0 := CS_o (CS_o (CS_o (CS_o (CS_o C (j := 3) (v := 112) (by omega)) (j := 4) (v := 0) (by omega)) (j := 5) (v := 0) (by omega)) (j := 6) (v := 0) (by omega)) (j := 7) (v := 0) (by omega)
        have F3 : (stm (stm (stm (stm (stm σ 85 3 112) 85 4 0) 85 5 0) 85 6 0) 85 7 0) 85 3 = 112 := by simp only [stm_row]; simp (disch := omega) only [upd_ne, upd_at]
        obtain ⟨C1, K1⟩ := CS_at C0 hp
        obtain ⟨s1, a1, E1, k1⟩ := digit_y C1 h1
        have D2 := CS_o E1 (j := 4) (v := (nI (dv T (p + 1)))) (by omega)
        have a3 := skips_n D2 h2 (by decide)
        obtain ⟨s4, a4, E4, k4⟩ := want_y D2 hq
        refine ⟨_, ?_, E4, fun i hi => ?_, ?_, ?_, ?_, ?_, ?_⟩
        · unfold F_X3_readStatement
          rw [en, Option.bind_some, F3, if_neg (show ¬ (112 : Int32) = 100 by decide), if_pos (show (112 : Int32) = 112 from rfl)]
          unfold F_X3_readPiece
          rw [a1, bd2_s, a3, bd2_s, if_pos rfl, Option.bind_some, a4, Option.bind_some]
        · rw [k4.1 i hi, stm_ne _ _ _ hi, k1.1 i hi, K1.1 i hi, stm_ne _ _ _ hi, stm_ne _ _ _ hi, stm_ne _ _ _ hi, stm_ne _ _ _ hi, stm_ne _ _ _ hi]
        · rw [k4.2 3 (by omega) (by omega), stm_row, upd_ne _ _ (by omega), k1.2 3 (by omega) (by omega), K1.2 3 (by omega) (by omega)]; simp only [stm_row]; simp (disch := omega) only [upd_ne, upd_at]
        · rw [k4.2 4 (by omega) (by omega), stm_row, upd_at]
        · rw [k4.2 5 (by omega) (by omega), stm_row, upd_ne _ _ (by omega), k1.2 5 (by omega) (by omega), K1.2 5 (by omega) (by omega)]; simp only [stm_row]; simp (disch := omega) only [upd_ne, upd_at]; rfl
        · rw [k4.2 6 (by omega) (by omega), stm_row, upd_ne _ _ (by omega), k1.2 6 (by omega) (by omega), K1.2 6 (by omega) (by omega)]; simp only [stm_row]; simp (disch := omega) only [upd_ne, upd_at]; rfl
        · rw [k4.2 7 (by omega) (by omega), stm_row, upd_ne _ _ (by omega), k1.2 7 (by omega) (by omega), K1.2 7 (by omega) (by omega)]; simp only [stm_row]; simp (disch := omega) only [upd_ne, upd_at]; rfl
      · have en := here_r R
        rw [if_pos hp, hL] at en
        obtain ⟨R0, K0⟩ := RS_t R (v := 0)
        obtain ⟨R1, K1⟩ := RS_at R0 hp
        have t0 : (stm (stm ρ 91 15 0) 91 12 (stm ρ 91 15 0 91 12 + 1)) 91 15 = nI 0 := by rw [stm_row, upd_ne _ _ (by omega), stm_row, upd_at]; rfl
        obtain ⟨r1, b1, R11, L1, u1, t1⟩ := readsD_y R1 h1 (by omega) t0
        obtain ⟨R12, L2⟩ := RS_o R11 (j := 1) (v := 0)
        have t2 : stm r1 102 1 0 91 15 = nI 1 := by rw [stm_ne _ _ _ (by omega)]; exact t1
        obtain ⟨r3, b3, R13, L3, u3, t3⟩ := takes_y R12 hq
        have t3 := t3.trans t2
        refine ⟨_, ?_, R13, (KF_tr K0 (KF_tr K1 (KF_tr L1 (KF_tr L2 L3)))), ?_, ?_, ?_, ?_⟩
        · unfold F_X8_readsStatement
          rw [en, Option.bind_some, if_neg (show ¬ (112 : Int32) = 100 by decide), if_pos (show (112 : Int32) = 112 from rfl), b1, bd2_s, if_neg i10, takes_n R12 h2 (by decide), bd2_s, if_pos rfl, b3, bd2_s, ck_t _ (by decide)]
        · rw [u3, stm_row, upd_ne _ _ (by omega), u1, upd_at]
        · rw [u3, stm_row, upd_at]; rfl
        · intro q; exact absurd q (by decide)
        · intro q; exact absurd q (by decide)
theorem st_114 (hz : z ≤ 100) (hp : p < z) (hL : T p = 114) : SFAIL T z p ∨ SOK T z p := by
  by_cases h1 : dg T z (p + 1)
  rotate_left
  · refine Or.inl ⟨p + 1, by omega, fun d σ C => ?_, fun d ρ R => ?_⟩
    · have en := next_c C
      rw [if_pos hp, hL] at en
      have C0 := CS_o (CS_o (CS_o (CS_o (CS_o C (j := 3) (v := 114) (by omega)) (j := 4) (v := 0) (by omega)) (j := 5) (v := 0) (by omega)) (j := 6) (v := 0) (by omega)) (j := 7) (v := 0) (by omega)
      have F3 : (stm (stm (stm (stm (stm σ 85 3 114) 85 4 0) 85 5 0) 85 6 0) 85 7 0) 85 3 = 114 := by simp only [stm_row]; simp (disch := omega) only [upd_ne, upd_at]
      obtain ⟨C1, K1⟩ := CS_at C0 hp
      obtain ⟨s1, a1, E1, k1⟩ := digit_n C1 h1
      have D2 := CS_o E1 (j := 4) (v := 0) (by omega)
      obtain ⟨s3, a3, E3, k3⟩ := want_b (s := 32) D2
      obtain ⟨s4, a4, E4, k4⟩ := digit_b E3
      have D5 := CS_o E4 (j := 5) (v := 0) (by omega)
      have a6 : (stm s4 85 5 0) 85 3 = 114 := by rw [stm_row, upd_ne _ _ (by omega), k4.2 3 (by omega) (by omega), k3.2 3 (by omega) (by omega), stm_row, upd_ne _ _ (by omega), k1.2 3 (by omega) (by omega), K1.2 3 (by omega) (by omega)]; exact F3
      obtain ⟨s7, a7, E7, k7⟩ := want_b (s := 59) D5
      refine ⟨_, ?_, E7, fun i hi => ?_⟩
      · unfold F_X3_readStatement
        rw [en, Option.bind_some, F3, if_neg (show ¬ (114 : Int32) = 100 by decide), if_neg (show ¬ (114 : Int32) = 112 by decide), if_pos (show (114 : Int32) = 114 from rfl)]
        unfold F_X3_readPair
        rw [a1, bd2_s, a3, Option.bind_some, a4, bd2_s, a6, if_neg (by decide), Option.bind_some, a7, Option.bind_some]
      · rw [k7.1 i hi, stm_ne _ _ _ hi, k4.1 i hi, k3.1 i hi, stm_ne _ _ _ hi, k1.1 i hi, K1.1 i hi, stm_ne _ _ _ hi, stm_ne _ _ _ hi, stm_ne _ _ _ hi, stm_ne _ _ _ hi, stm_ne _ _ _ hi]
    · have en := here_r R
      rw [if_pos hp, hL] at en
      obtain ⟨R0, K0⟩ := RS_t R (v := 0)
      obtain ⟨R1, K1⟩ := RS_at R0 hp
      have t0 : (stm (stm ρ 91 15 0) 91 12 (stm ρ 91 15 0 91 12 + 1)) 91 15 = nI 0 := by rw [stm_row, upd_ne _ _ (by omega), stm_row, upd_at]; rfl
      refine ⟨_, ?_, R1, (KF_tr K0 K1)⟩
      · unfold F_X8_readsStatement
        rw [en, Option.bind_some, if_neg (show ¬ (114 : Int32) = 100 by decide), if_neg (show ¬ (114 : Int32) = 112 by decide), if_pos (show (114 : Int32) = 114 from rfl), readsD_n R1 h1, bd2_s, if_pos rfl]
  have b1 := (dv_e h1).2.1
  by_cases h2 : sg T z (p + 2) 32
  rotate_left
  · refine Or.inl ⟨p + 2, by omega, fun d σ C => ?_, fun d ρ R => ?_⟩
    · have en := next_c C
      rw [if_pos hp, hL] at en
      have C0 := CS_o (CS_o (CS_o (CS_o (CS_o C (j := 3) (v := 114) (by omega)) (j := 4) (v := 0) (by omega)) (j := 5) (v := 0) (by omega)) (j := 6) (v := 0) (by omega)) (j := 7) (v := 0) (by omega)
      have F3 : (stm (stm (stm (stm (stm σ 85 3 114) 85 4 0) 85 5 0) 85 6 0) 85 7 0) 85 3 = 114 := by simp only [stm_row]; simp (disch := omega) only [upd_ne, upd_at]
      obtain ⟨C1, K1⟩ := CS_at C0 hp
      obtain ⟨s1, a1, E1, k1⟩ := digit_y C1 h1
      have D2 := CS_o E1 (j := 4) (v := (nI (dv T (p + 1)))) (by omega)
      obtain ⟨s3, a3, E3, k3⟩ := want_n D2 h2 (by decide)
      obtain ⟨s4, a4, E4, k4⟩ := digit_b E3
      have D5 := CS_o E4 (j := 5) (v := 0) (by omega)
      have a6 : (stm s4 85 5 0) 85 3 = 114 := by rw [stm_row, upd_ne _ _ (by omega), k4.2 3 (by omega) (by omega), k3.2 3 (by omega) (by omega), stm_row, upd_ne _ _ (by omega), k1.2 3 (by omega) (by omega), K1.2 3 (by omega) (by omega)]; exact F3
      obtain ⟨s7, a7, E7, k7⟩ := want_b (s := 59) D5
      refine ⟨_, ?_, E7, fun i hi => ?_⟩
      · unfold F_X3_readStatement
        rw [en, Option.bind_some, F3, if_neg (show ¬ (114 : Int32) = 100 by decide), if_neg (show ¬ (114 : Int32) = 112 by decide), if_pos (show (114 : Int32) = 114 from rfl)]
        unfold F_X3_readPair
        rw [a1, bd2_s, a3, Option.bind_some, a4, bd2_s, a6, if_neg (by decide), Option.bind_some, a7, Option.bind_some]
      · rw [k7.1 i hi, stm_ne _ _ _ hi, k4.1 i hi, k3.1 i hi, stm_ne _ _ _ hi, k1.1 i hi, K1.1 i hi, stm_ne _ _ _ hi, stm_ne _ _ _ hi, stm_ne _ _ _ hi, stm_ne _ _ _ hi, stm_ne _ _ _ hi]
    · have en := here_r R
      rw [if_pos hp, hL] at en
      obtain ⟨R0, K0⟩ := RS_t R (v := 0)
      obtain ⟨R1, K1⟩ := RS_at R0 hp
      have t0 : (stm (stm ρ 91 15 0) 91 12 (stm ρ 91 15 0 91 12 + 1)) 91 15 = nI 0 := by rw [stm_row, upd_ne _ _ (by omega), stm_row, upd_at]; rfl
      obtain ⟨r1, b1, R11, L1, u1, t1⟩ := readsD_y R1 h1 (by omega) t0
      refine ⟨_, ?_, R11, (KF_tr K0 (KF_tr K1 L1))⟩
      · unfold F_X8_readsStatement
        rw [en, Option.bind_some, if_neg (show ¬ (114 : Int32) = 100 by decide), if_neg (show ¬ (114 : Int32) = 112 by decide), if_pos (show (114 : Int32) = 114 from rfl), b1, bd2_s, if_neg i10, takes_n R11 h2 (by decide), bd2_s, if_pos rfl]
  by_cases h3 : dg T z (p + 3)
  rotate_left
  · refine Or.inl ⟨p + 3, by omega, fun d σ C => ?_, fun d ρ R => ?_⟩
    · have en := next_c C
      rw [if_pos hp, hL] at en
      have C0 := CS_o (CS_o (CS_o (CS_o (CS_o C (j := 3) (v := 114) (by omega)) (j := 4) (v := 0) (by omega)) (j := 5) (v := 0) (by omega)) (j := 6) (v := 0) (by omega)) (j := 7) (v := 0) (by omega)
      have F3 : (stm (stm (stm (stm (stm σ 85 3 114) 85 4 0) 85 5 0) 85 6 0) 85 7 0) 85 3 = 114 := by simp only [stm_row]; simp (disch := omega) only [upd_ne, upd_at]
      obtain ⟨C1, K1⟩ := CS_at C0 hp
      obtain ⟨s1, a1, E1, k1⟩ := digit_y C1 h1
      have D2 := CS_o E1 (j := 4) (v := (nI (dv T (p + 1)))) (by omega)
      obtain ⟨s3, a3, E3, k3⟩ := want_y D2 h2
      obtain ⟨s4, a4, E4, k4⟩ := digit_n E3 h3
      have D5 := CS_o E4 (j := 5) (v := 0) (by omega)
      have a6 : (stm s4 85 5 0) 85 3 = 114 := by rw [stm_row, upd_ne _ _ (by omega), k4.2 3 (by omega) (by omega), k3.2 3 (by omega) (by omega), stm_row, upd_ne _ _ (by omega), k1.2 3 (by omega) (by omega), K1.2 3 (by omega) (by omega)]; exact F3
      obtain ⟨s7, a7, E7, k7⟩ := want_b (s := 59) D5
      refine ⟨_, ?_, E7, fun i hi => ?_⟩
      · unfold F_X3_readStatement
        rw [en, Option.bind_some, F3, if_neg (show ¬ (114 : Int32) = 100 by decide), if_neg (show ¬ (114 : Int32) = 112 by decide), if_pos (show (114 : Int32) = 114 from rfl)]
        unfold F_X3_readPair
        rw [a1, bd2_s, a3, Option.bind_some, a4, bd2_s, a6, if_neg (by decide), Option.bind_some, a7, Option.bind_some]
      · rw [k7.1 i hi, stm_ne _ _ _ hi, k4.1 i hi, k3.1 i hi, stm_ne _ _ _ hi, k1.1 i hi, K1.1 i hi, stm_ne _ _ _ hi, stm_ne _ _ _ hi, stm_ne _ _ _ hi, stm_ne _ _ _ hi, stm_ne _ _ _ hi]
    · have en := here_r R
      rw [if_pos hp, hL] at en
      obtain ⟨R0, K0⟩ := RS_t R (v := 0)
      obtain ⟨R1, K1⟩ := RS_at R0 hp
      have t0 : (stm (stm ρ 91 15 0) 91 12 (stm ρ 91 15 0 91 12 + 1)) 91 15 = nI 0 := by rw [stm_row, upd_ne _ _ (by omega), stm_row, upd_at]; rfl
      obtain ⟨r1, b1, R11, L1, u1, t1⟩ := readsD_y R1 h1 (by omega) t0
      obtain ⟨r2, b2, R12, L2, u2, t2⟩ := takes_y R11 h2
      have t2 := t2.trans t1
      refine ⟨_, ?_, R12, (KF_tr K0 (KF_tr K1 (KF_tr L1 L2)))⟩
      · unfold F_X8_readsStatement
        rw [en, Option.bind_some, if_neg (show ¬ (114 : Int32) = 100 by decide), if_neg (show ¬ (114 : Int32) = 112 by decide), if_pos (show (114 : Int32) = 114 from rfl), b1, bd2_s, if_neg i10, b2, bd2_s, if_neg i10, readsD_n R12 h3, bd2_s, if_pos rfl]
  have b2 := (dv_e h3).2.1
  by_cases hq : sg T z (p + 4) 59
  rotate_left
  · refine Or.inl ⟨p + 4, by omega, fun d σ C => ?_, fun d ρ R => ?_⟩
    · have en := next_c C
      rw [if_pos hp, hL] at en
      have C0 := CS_o (CS_o (CS_o (CS_o (CS_o C (j := 3) (v := 114) (by omega)) (j := 4) (v := 0) (by omega)) (j := 5) (v := 0) (by omega)) (j := 6) (v := 0) (by omega)) (j := 7) (v := 0) (by omega)
      have F3 : (stm (stm (stm (stm (stm σ 85 3 114) 85 4 0) 85 5 0) 85 6 0) 85 7 0) 85 3 = 114 := by simp only [stm_row]; simp (disch := omega) only [upd_ne, upd_at]
      obtain ⟨C1, K1⟩ := CS_at C0 hp
      obtain ⟨s1, a1, E1, k1⟩ := digit_y C1 h1
      have D2 := CS_o E1 (j := 4) (v := (nI (dv T (p + 1)))) (by omega)
      obtain ⟨s3, a3, E3, k3⟩ := want_y D2 h2
      obtain ⟨s4, a4, E4, k4⟩ := digit_y E3 h3
      have D5 := CS_o E4 (j := 5) (v := (nI (dv T (p + 3)))) (by omega)
      have a6 : (stm s4 85 5 (nI (dv T (p + 3)))) 85 3 = 114 := by rw [stm_row, upd_ne _ _ (by omega), k4.2 3 (by omega) (by omega), k3.2 3 (by omega) (by omega), stm_row, upd_ne _ _ (by omega), k1.2 3 (by omega) (by omega), K1.2 3 (by omega) (by omega)]; exact F3
      obtain ⟨s7, a7, E7, k7⟩ := want_n D5 hq (by decide)
      refine ⟨_, ?_, E7, fun i hi => ?_⟩
      · unfold F_X3_readStatement
        rw [en, Option.bind_some, F3, if_neg (show ¬ (114 : Int32) = 100 by decide), if_neg (show ¬ (114 : Int32) = 112 by decide), if_pos (show (114 : Int32) = 114 from rfl)]
        unfold F_X3_readPair
        rw [a1, bd2_s, a3, Option.bind_some, a4, bd2_s, a6, if_neg (by decide), Option.bind_some, a7, Option.bind_some]
      · rw [k7.1 i hi, stm_ne _ _ _ hi, k4.1 i hi, k3.1 i hi, stm_ne _ _ _ hi, k1.1 i hi, K1.1 i hi, stm_ne _ _ _ hi, stm_ne _ _ _ hi, stm_ne _ _ _ hi, stm_ne _ _ _ hi, stm_ne _ _ _ hi]
    · have en := here_r R
      rw [if_pos hp, hL] at en
      obtain ⟨R0, K0⟩ := RS_t R (v := 0)
      obtain ⟨R1, K1⟩ := RS_at R0 hp
      have t0 : (stm (stm ρ 91 15 0) 91 12 (stm ρ 91 15 0 91 12 + 1)) 91 15 = nI 0 := by rw [stm_row, upd_ne _ _ (by omega), stm_row, upd_at]; rfl
      obtain ⟨r1, b1, R11, L1, u1, t1⟩ := readsD_y R1 h1 (by omega) t0
      obtain ⟨r2, b2, R12, L2, u2, t2⟩ := takes_y R11 h2
      have t2 := t2.trans t1
      obtain ⟨r3, b3, R13, L3, u3, t3⟩ := readsD_y R12 h3 (by omega) t2
      refine ⟨_, ?_, R13, (KF_tr K0 (KF_tr K1 (KF_tr L1 (KF_tr L2 L3))))⟩
      · unfold F_X8_readsStatement
        rw [en, Option.bind_some, if_neg (show ¬ (114 : Int32) = 100 by decide), if_neg (show ¬ (114 : Int32) = 112 by decide), if_pos (show (114 : Int32) = 114 from rfl), b1, bd2_s, if_neg i10, b2, bd2_s, if_neg i10, b3, bd2_s, if_neg i10, takes_n R13 hq (by decide), bd2_s, if_pos rfl]
  · refine Or.inr ⟨p + 5, 114, dv T (p + 1), dv T (p + 3), 0, 0, ⟨by omega, by have := hq.1; omega, hp, hL, Or.inl ⟨Or.inr (Or.inl rfl), b1, b2, by omega⟩⟩, fun d σ C => ?_, fun d ρ R => ?_⟩
    · have en := next_c C
      rw [if_pos hp, hL] at en
      have C0 := CS_o (CS_o (CS_o (CS_o (CS_o C (j := 3) (v := 114) (by omega)) (j := 4) (v := 0) (by omega)) (j := 5) (v := 0) (by omega)) (j := 6) (v := 0) (by omega)) (j := 7) (v := 0) (by omega)
      have F3 : (stm (stm (stm (stm (stm σ 85 3 114) 85 4 0) 85 5 0) 85 6 0) 85 7 0) 85 3 = 114 := by simp only [stm_row]; simp (disch := omega) only [upd_ne, upd_at]
      obtain ⟨C1, K1⟩ := CS_at C0 hp
      obtain ⟨s1, a1, E1, k1⟩ := digit_y C1 h1
      have D2 := CS_o E1 (j := 4) (v := (nI (dv T (p + 1)))) (by omega)
      obtain ⟨s3, a3, E3, k3⟩ := want_y D2 h2
      obtain ⟨s4, a4, E4, k4⟩ := digit_y E3 h3
      have D5 := CS_o E4 (j := 5) (v := (nI (dv T (p + 3)))) (by omega)
      have a6 : (stm s4 85 5 (nI (dv T (p + 3)))) 85 3 = 114 := by rw [stm_row, upd_ne _ _ (by omega), k4.2 3 (by omega) (by omega), k3.2 3 (by omega) (by omega), stm_row, upd_ne _ _ (by omega), k1.2 3 (by omega) (by omega), K1.2 3 (by omega) (by omega)]; exact F3
      obtain ⟨s7, a7, E7, k7⟩ := want_y D5 hq
      refine ⟨_, ?_, E7, fun i hi => ?_, ?_, ?_, ?_, ?_, ?_⟩
      · unfold F_X3_readStatement
        rw [en, Option.bind_some, F3, if_neg (show ¬ (114 : Int32) = 100 by decide), if_neg (show ¬ (114 : Int32) = 112 by decide), if_pos (show (114 : Int32) = 114 from rfl)]
        unfold F_X3_readPair
        rw [a1, bd2_s, a3, Option.bind_some, a4, bd2_s, a6, if_neg (by decide), Option.bind_some, a7, Option.bind_some]
      · rw [k7.1 i hi, stm_ne _ _ _ hi, k4.1 i hi, k3.1 i hi, stm_ne _ _ _ hi, k1.1 i hi, K1.1 i hi, stm_ne _ _ _ hi, stm_ne _ _ _ hi, stm_ne _ _ _ hi, stm_ne _ _ _ hi, stm_ne _ _ _ hi]
      · rw [k7.2 3 (by omega) (by omega), stm_row, upd_ne _ _ (by omega), k4.2 3 (by omega) (by omega), k3.2 3 (by omega) (by omega), stm_row, upd_ne _ _ (by omega), k1.2 3 (by omega) (by omega), K1.2 3 (by omega) (by omega)]; simp only [stm_row]; simp (disch := omega) only [upd_ne, upd_at]
      · rw [k7.2 4 (by omega) (by omega), stm_row, upd_ne _ _ (by omega), k4.2 4 (by omega) (by omega), k3.2 4 (by omega) (by omega), stm_row, upd_at]
      · rw [k7.2 5 (by omega) (by omega), stm_row, upd_at]
      · rw [k7.2 6 (by omega) (by omega), stm_row, upd_ne _ _ (by omega), k4.2 6 (by omega) (by omega), k3.2 6 (by omega) (by omega), stm_row, upd_ne _ _ (by omega), k1.2 6 (by omega) (by omega), K1.2 6 (by omega) (by omega)]; simp only [stm_row]; simp (disch := omega) only [upd_ne, upd_at]; rfl
      · rw [k7.2 7 (by omega) (by omega), stm_row, upd_ne _ _ (by omega), k4.2 7 (by omega) (by omega), k3.2 7 (by omega) (by omega), stm_row, upd_ne _ _ (by omega), k1.2 7 (by omega) (by omega), K1.2 7 (by omega) (by omega)]; simp only [stm_row]; simp (disch := omega) only [upd_ne, upd_at]; rfl
    · have en := here_r R
      rw [if_pos hp, hL] at en
      obtain ⟨R0, K0⟩ := RS_t R (v := 0)
      obtain ⟨R1, K1⟩ := RS_at R0 hp
      have t0 : (stm (stm ρ 91 15 0) 91 12 (stm ρ 91 15 0 91 12 + 1)) 91 15 = nI 0 := by rw [stm_row, upd_ne _ _ (by omega), stm_row, upd_at]; rfl
      obtain ⟨r1, b1, R11, L1, u1, t1⟩ := readsD_y R1 h1 (by omega) t0
      obtain ⟨r2, b2, R12, L2, u2, t2⟩ := takes_y R11 h2
      have t2 := t2.trans t1
      obtain ⟨r3, b3, R13, L3, u3, t3⟩ := readsD_y R12 h3 (by omega) t2
      obtain ⟨r4, b4, R14, L4, u4, t4⟩ := takes_y R13 hq
      have t4 := t4.trans t3
      refine ⟨_, ?_, R14, (KF_tr K0 (KF_tr K1 (KF_tr L1 (KF_tr L2 (KF_tr L3 L4))))), ?_, ?_, ?_, ?_⟩
      · unfold F_X8_readsStatement
        rw [en, Option.bind_some, if_neg (show ¬ (114 : Int32) = 100 by decide), if_neg (show ¬ (114 : Int32) = 112 by decide), if_pos (show (114 : Int32) = 114 from rfl), b1, bd2_s, if_neg i10, b2, bd2_s, if_neg i10, b3, bd2_s, if_neg i10, b4, bd2_s, if_neg i10]
      · rw [u4, u3, upd_ne _ _ (by omega), u2, u1, upd_at]
      · rw [u4, u3, upd_at]
      · intro q; exact absurd q (by decide)
      · intro q; exact absurd q (by decide)
theorem st_118 (hz : z ≤ 100) (hp : p < z) (hL : T p = 118) : SFAIL T z p ∨ SOK T z p := by
  by_cases h1 : dg T z (p + 1)
  rotate_left
  · refine Or.inl ⟨p + 1, by omega, fun d σ C => ?_, fun d ρ R => ?_⟩
    · have en := next_c C
      rw [if_pos hp, hL] at en
      have C0 := CS_o (CS_o (CS_o (CS_o (CS_o C (j := 3) (v := 118) (by omega)) (j := 4) (v := 0) (by omega)) (j := 5) (v := 0) (by omega)) (j := 6) (v := 0) (by omega)) (j := 7) (v := 0) (by omega)
      have F3 : (stm (stm (stm (stm (stm σ 85 3 118) 85 4 0) 85 5 0) 85 6 0) 85 7 0) 85 3 = 118 := by simp only [stm_row]; simp (disch := omega) only [upd_ne, upd_at]
      obtain ⟨C1, K1⟩ := CS_at C0 hp
      obtain ⟨s1, a1, E1, k1⟩ := digit_n C1 h1
      have D2 := CS_o E1 (j := 4) (v := 0) (by omega)
      obtain ⟨s3, a3, E3, k3⟩ := want_b (s := 32) D2
      obtain ⟨s4, a4, E4, k4⟩ := digit_b E3
      have D5 := CS_o E4 (j := 5) (v := 0) (by omega)
      have a6 : (stm s4 85 5 0) 85 3 = 118 := by rw [stm_row, upd_ne _ _ (by omega), k4.2 3 (by omega) (by omega), k3.2 3 (by omega) (by omega), stm_row, upd_ne _ _ (by omega), k1.2 3 (by omega) (by omega), K1.2 3 (by omega) (by omega)]; exact F3
      obtain ⟨s7, a7, E7, k7⟩ := want_b (s := 59) D5
      refine ⟨_, ?_, E7, fun i hi => ?_⟩
      · unfold F_X3_readStatement
        rw [en, Option.bind_some, F3, if_neg (show ¬ (118 : Int32) = 100 by decide), if_neg (show ¬ (118 : Int32) = 112 by decide), if_neg (show ¬ (118 : Int32) = 114 by decide), if_neg (show ¬ (118 : Int32) = 117 by decide), if_pos (show (118 : Int32) = 118 from rfl)]
        unfold F_X3_readPair
        rw [a1, bd2_s, a3, Option.bind_some, a4, bd2_s, a6, if_neg (by decide), Option.bind_some, a7, Option.bind_some]
      · rw [k7.1 i hi, stm_ne _ _ _ hi, k4.1 i hi, k3.1 i hi, stm_ne _ _ _ hi, k1.1 i hi, K1.1 i hi, stm_ne _ _ _ hi, stm_ne _ _ _ hi, stm_ne _ _ _ hi, stm_ne _ _ _ hi, stm_ne _ _ _ hi]
    · have en := here_r R
      rw [if_pos hp, hL] at en
      obtain ⟨R0, K0⟩ := RS_t R (v := 0)
      obtain ⟨R1, K1⟩ := RS_at R0 hp
      have t0 : (stm (stm ρ 91 15 0) 91 12 (stm ρ 91 15 0 91 12 + 1)) 91 15 = nI 0 := by rw [stm_row, upd_ne _ _ (by omega), stm_row, upd_at]; rfl
      refine ⟨_, ?_, R1, (KF_tr K0 K1)⟩
      · unfold F_X8_readsStatement
        rw [en, Option.bind_some, if_neg (show ¬ (118 : Int32) = 100 by decide), if_neg (show ¬ (118 : Int32) = 112 by decide), if_neg (show ¬ (118 : Int32) = 114 by decide), if_neg (show ¬ (118 : Int32) = 117 by decide), if_pos (show (118 : Int32) = 118 from rfl), readsD_n R1 h1, bd2_s, if_pos rfl]
  have b1 := (dv_e h1).2.1
  by_cases h2 : sg T z (p + 2) 32
  rotate_left
  · refine Or.inl ⟨p + 2, by omega, fun d σ C => ?_, fun d ρ R => ?_⟩
    · have en := next_c C
      rw [if_pos hp, hL] at en
      have C0 := CS_o (CS_o (CS_o (CS_o (CS_o C (j := 3) (v := 118) (by omega)) (j := 4) (v := 0) (by omega)) (j := 5) (v := 0) (by omega)) (j := 6) (v := 0) (by omega)) (j := 7) (v := 0) (by omega)
      have F3 : (stm (stm (stm (stm (stm σ 85 3 118) 85 4 0) 85 5 0) 85 6 0) 85 7 0) 85 3 = 118 := by simp only [stm_row]; simp (disch := omega) only [upd_ne, upd_at]
      obtain ⟨C1, K1⟩ := CS_at C0 hp
      obtain ⟨s1, a1, E1, k1⟩ := digit_y C1 h1
      have D2 := CS_o E1 (j := 4) (v := (nI (dv T (p + 1)))) (by omega)
      obtain ⟨s3, a3, E3, k3⟩ := want_n D2 h2 (by decide)
      obtain ⟨s4, a4, E4, k4⟩ := digit_b E3
      have D5 := CS_o E4 (j := 5) (v := 0) (by omega)
      have a6 : (stm s4 85 5 0) 85 3 = 118 := by rw [stm_row, upd_ne _ _ (by omega), k4.2 3 (by omega) (by omega), k3.2 3 (by omega) (by omega), stm_row, upd_ne _ _ (by omega), k1.2 3 (by omega) (by omega), K1.2 3 (by omega) (by omega)]; exact F3
      obtain ⟨s7, a7, E7, k7⟩ := want_b (s := 59) D5
      refine ⟨_, ?_, E7, fun i hi => ?_⟩
      · unfold F_X3_readStatement
        rw [en, Option.bind_some, F3, if_neg (show ¬ (118 : Int32) = 100 by decide), if_neg (show ¬ (118 : Int32) = 112 by decide), if_neg (show ¬ (118 : Int32) = 114 by decide), if_neg (show ¬ (118 : Int32) = 117 by decide), if_pos (show (118 : Int32) = 118 from rfl)]
        unfold F_X3_readPair
        rw [a1, bd2_s, a3, Option.bind_some, a4, bd2_s, a6, if_neg (by decide), Option.bind_some, a7, Option.bind_some]
      · rw [k7.1 i hi, stm_ne _ _ _ hi, k4.1 i hi, k3.1 i hi, stm_ne _ _ _ hi, k1.1 i hi, K1.1 i hi, stm_ne _ _ _ hi, stm_ne _ _ _ hi, stm_ne _ _ _ hi, stm_ne _ _ _ hi, stm_ne _ _ _ hi]
    · have en := here_r R
      rw [if_pos hp, hL] at en
      obtain ⟨R0, K0⟩ := RS_t R (v := 0)
      obtain ⟨R1, K1⟩ := RS_at R0 hp
      have t0 : (stm (stm ρ 91 15 0) 91 12 (stm ρ 91 15 0 91 12 + 1)) 91 15 = nI 0 := by rw [stm_row, upd_ne _ _ (by omega), stm_row, upd_at]; rfl
      obtain ⟨r1, b1, R11, L1, u1, t1⟩ := readsD_y R1 h1 (by omega) t0
      refine ⟨_, ?_, R11, (KF_tr K0 (KF_tr K1 L1))⟩
      · unfold F_X8_readsStatement
        rw [en, Option.bind_some, if_neg (show ¬ (118 : Int32) = 100 by decide), if_neg (show ¬ (118 : Int32) = 112 by decide), if_neg (show ¬ (118 : Int32) = 114 by decide), if_neg (show ¬ (118 : Int32) = 117 by decide), if_pos (show (118 : Int32) = 118 from rfl), b1, bd2_s, if_neg i10, takes_n R11 h2 (by decide), bd2_s, if_pos rfl]
  by_cases h3 : dg T z (p + 3)
  rotate_left
  · refine Or.inl ⟨p + 3, by omega, fun d σ C => ?_, fun d ρ R => ?_⟩
    · have en := next_c C
      rw [if_pos hp, hL] at en
      have C0 := CS_o (CS_o (CS_o (CS_o (CS_o C (j := 3) (v := 118) (by omega)) (j := 4) (v := 0) (by omega)) (j := 5) (v := 0) (by omega)) (j := 6) (v := 0) (by omega)) (j := 7) (v := 0) (by omega)
      have F3 : (stm (stm (stm (stm (stm σ 85 3 118) 85 4 0) 85 5 0) 85 6 0) 85 7 0) 85 3 = 118 := by simp only [stm_row]; simp (disch := omega) only [upd_ne, upd_at]
      obtain ⟨C1, K1⟩ := CS_at C0 hp
      obtain ⟨s1, a1, E1, k1⟩ := digit_y C1 h1
      have D2 := CS_o E1 (j := 4) (v := (nI (dv T (p + 1)))) (by omega)
      obtain ⟨s3, a3, E3, k3⟩ := want_y D2 h2
      obtain ⟨s4, a4, E4, k4⟩ := digit_n E3 h3
      have D5 := CS_o E4 (j := 5) (v := 0) (by omega)
      have a6 : (stm s4 85 5 0) 85 3 = 118 := by rw [stm_row, upd_ne _ _ (by omega), k4.2 3 (by omega) (by omega), k3.2 3 (by omega) (by omega), stm_row, upd_ne _ _ (by omega), k1.2 3 (by omega) (by omega), K1.2 3 (by omega) (by omega)]; exact F3
      obtain ⟨s7, a7, E7, k7⟩ := want_b (s := 59) D5
      refine ⟨_, ?_, E7, fun i hi => ?_⟩
      · unfold F_X3_readStatement
        rw [en, Option.bind_some, F3, if_neg (show ¬ (118 : Int32) = 100 by decide), if_neg (show ¬ (118 : Int32) = 112 by decide), if_neg (show ¬ (118 : Int32) = 114 by decide), if_neg (show ¬ (118 : Int32) = 117 by decide), if_pos (show (118 : Int32) = 118 from rfl)]
        unfold F_X3_readPair
        rw [a1, bd2_s, a3, Option.bind_some, a4, bd2_s, a6, if_neg (by decide), Option.bind_some, a7, Option.bind_some]
      · rw [k7.1 i hi, stm_ne _ _ _ hi, k4.1 i hi, k3.1 i hi, stm_ne _ _ _ hi, k1.1 i hi, K1.1 i hi, stm_ne _ _ _ hi, stm_ne _ _ _ hi, stm_ne _ _ _ hi, stm_ne _ _ _ hi, stm_ne _ _ _ hi]
    · have en := here_r R
      rw [if_pos hp, hL] at en
      obtain ⟨R0, K0⟩ := RS_t R (v := 0)
      obtain ⟨R1, K1⟩ := RS_at R0 hp
      have t0 : (stm (stm ρ 91 15 0) 91 12 (stm ρ 91 15 0 91 12 + 1)) 91 15 = nI 0 := by rw [stm_row, upd_ne _ _ (by omega), stm_row, upd_at]; rfl
      obtain ⟨r1, b1, R11, L1, u1, t1⟩ := readsD_y R1 h1 (by omega) t0
      obtain ⟨r2, b2, R12, L2, u2, t2⟩ := takes_y R11 h2
      have t2 := t2.trans t1
      refine ⟨_, ?_, R12, (KF_tr K0 (KF_tr K1 (KF_tr L1 L2)))⟩
      · unfold F_X8_readsStatement
        rw [en, Option.bind_some, if_neg (show ¬ (118 : Int32) = 100 by decide), if_neg (show ¬ (118 : Int32) = 112 by decide), if_neg (show ¬ (118 : Int32) = 114 by decide), if_neg (show ¬ (118 : Int32) = 117 by decide), if_pos (show (118 : Int32) = 118 from rfl), b1, bd2_s, if_neg i10, b2, bd2_s, if_neg i10, readsD_n R12 h3, bd2_s, if_pos rfl]
  have b2 := (dv_e h3).2.1
  by_cases hq : sg T z (p + 4) 59
  rotate_left
  · refine Or.inl ⟨p + 4, by omega, fun d σ C => ?_, fun d ρ R => ?_⟩
    · have en := next_c C
      rw [if_pos hp, hL] at en
      have C0 := CS_o (CS_o (CS_o (CS_o (CS_o C (j := 3) (v := 118) (by omega)) (j := 4) (v := 0) (by omega)) (j := 5) (v := 0) (by omega)) (j := 6) (v := 0) (by omega)) (j := 7) (v := 0) (by omega)
      have F3 : (stm (stm (stm (stm (stm σ 85 3 118) 85 4 0) 85 5 0) 85 6 0) 85 7 0) 85 3 = 118 := by simp only [stm_row]; simp (disch := omega) only [upd_ne, upd_at]
      obtain ⟨C1, K1⟩ := CS_at C0 hp
      obtain ⟨s1, a1, E1, k1⟩ := digit_y C1 h1
      have D2 := CS_o E1 (j := 4) (v := (nI (dv T (p + 1)))) (by omega)
      obtain ⟨s3, a3, E3, k3⟩ := want_y D2 h2
      obtain ⟨s4, a4, E4, k4⟩ := digit_y E3 h3
      have D5 := CS_o E4 (j := 5) (v := (nI (dv T (p + 3)))) (by omega)
      have a6 : (stm s4 85 5 (nI (dv T (p + 3)))) 85 3 = 118 := by rw [stm_row, upd_ne _ _ (by omega), k4.2 3 (by omega) (by omega), k3.2 3 (by omega) (by omega), stm_row, upd_ne _ _ (by omega), k1.2 3 (by omega) (by omega), K1.2 3 (by omega) (by omega)]; exact F3
      obtain ⟨s7, a7, E7, k7⟩ := want_n D5 hq (by decide)
      refine ⟨_, ?_, E7, fun i hi => ?_⟩
      · unfold F_X3_readStatement
        rw [en, Option.bind_some, F3, if_neg (show ¬ (118 : Int32) = 100 by decide), if_neg (show ¬ (118 : Int32) = 112 by decide), if_neg (show ¬ (118 : Int32) = 114 by decide), if_neg (show ¬ (118 : Int32) = 117 by decide), if_pos (show (118 : Int32) = 118 from rfl)]
        unfold F_X3_readPair
        rw [a1, bd2_s, a3, Option.bind_some, a4, bd2_s, a6, if_neg (by decide), Option.bind_some, a7, Option.bind_some]
      · rw [k7.1 i hi, stm_ne _ _ _ hi, k4.1 i hi, k3.1 i hi, stm_ne _ _ _ hi, k1.1 i hi, K1.1 i hi, stm_ne _ _ _ hi, stm_ne _ _ _ hi, stm_ne _ _ _ hi, stm_ne _ _ _ hi, stm_ne _ _ _ hi]
    · have en := here_r R
      rw [if_pos hp, hL] at en
      obtain ⟨R0, K0⟩ := RS_t R (v := 0)
      obtain ⟨R1, K1⟩ := RS_at R0 hp
      have t0 : (stm (stm ρ 91 15 0) 91 12 (stm ρ 91 15 0 91 12 + 1)) 91 15 = nI 0 := by rw [stm_row, upd_ne _ _ (by omega), stm_row, upd_at]; rfl
      obtain ⟨r1, b1, R11, L1, u1, t1⟩ := readsD_y R1 h1 (by omega) t0
      obtain ⟨r2, b2, R12, L2, u2, t2⟩ := takes_y R11 h2
      have t2 := t2.trans t1
      obtain ⟨r3, b3, R13, L3, u3, t3⟩ := readsD_y R12 h3 (by omega) t2
      refine ⟨_, ?_, R13, (KF_tr K0 (KF_tr K1 (KF_tr L1 (KF_tr L2 L3))))⟩
      · unfold F_X8_readsStatement
        rw [en, Option.bind_some, if_neg (show ¬ (118 : Int32) = 100 by decide), if_neg (show ¬ (118 : Int32) = 112 by decide), if_neg (show ¬ (118 : Int32) = 114 by decide), if_neg (show ¬ (118 : Int32) = 117 by decide), if_pos (show (118 : Int32) = 118 from rfl), b1, bd2_s, if_neg i10, b2, bd2_s, if_neg i10, b3, bd2_s, if_neg i10, takes_n R13 hq (by decide), bd2_s, if_pos rfl]
  · refine Or.inr ⟨p + 5, 118, dv T (p + 1), dv T (p + 3), 0, 0, ⟨by omega, by have := hq.1; omega, hp, hL, Or.inl ⟨Or.inr (Or.inr (Or.inl rfl)), b1, b2, by omega⟩⟩, fun d σ C => ?_, fun d ρ R => ?_⟩
    · have en := next_c C
      rw [if_pos hp, hL] at en
      have C0 := CS_o (CS_o (CS_o (CS_o (CS_o C (j := 3) (v := 118) (by omega)) (j := 4) (v := 0) (by omega)) (j := 5) (v := 0) (by omega)) (j := 6) (v := 0) (by omega)) (j := 7) (v := 0) (by omega)
      have F3 : (stm (stm (stm (stm (stm σ 85 3 118) 85 4 0) 85 5 0) 85 6 0) 85 7 0) 85 3 = 118 := by simp only [stm_row]; simp (disch := omega) only [upd_ne, upd_at]
      obtain ⟨C1, K1⟩ := CS_at C0 hp
      obtain ⟨s1, a1, E1, k1⟩ := digit_y C1 h1
      have D2 := CS_o E1 (j := 4) (v := (nI (dv T (p + 1)))) (by omega)
      obtain ⟨s3, a3, E3, k3⟩ := want_y D2 h2
      obtain ⟨s4, a4, E4, k4⟩ := digit_y E3 h3
      have D5 := CS_o E4 (j := 5) (v := (nI (dv T (p + 3)))) (by omega)
      have a6 : (stm s4 85 5 (nI (dv T (p + 3)))) 85 3 = 118 := by rw [stm_row, upd_ne _ _ (by omega), k4.2 3 (by omega) (by omega), k3.2 3 (by omega) (by omega), stm_row, upd_ne _ _ (by omega), k1.2 3 (by omega) (by omega), K1.2 3 (by omega) (by omega)]; exact F3
      obtain ⟨s7, a7, E7, k7⟩ := want_y D5 hq
      refine ⟨_, ?_, E7, fun i hi => ?_, ?_, ?_, ?_, ?_, ?_⟩
      · unfold F_X3_readStatement
        rw [en, Option.bind_some, F3, if_neg (show ¬ (118 : Int32) = 100 by decide), if_neg (show ¬ (118 : Int32) = 112 by decide), if_neg (show ¬ (118 : Int32) = 114 by decide), if_neg (show ¬ (118 : Int32) = 117 by decide), if_pos (show (118 : Int32) = 118 from rfl)]
        unfold F_X3_readPair
        rw [a1, bd2_s, a3, Option.bind_some, a4, bd2_s, a6, if_neg (by decide), Option.bind_some, a7, Option.bind_some]
      · rw [k7.1 i hi, stm_ne _ _ _ hi, k4.1 i hi, k3.1 i hi, stm_ne _ _ _ hi, k1.1 i hi, K1.1 i hi, stm_ne _ _ _ hi, stm_ne _ _ _ hi, stm_ne _ _ _ hi, stm_ne _ _ _ hi, stm_ne _ _ _ hi]
      · rw [k7.2 3 (by omega) (by omega), stm_row, upd_ne _ _ (by omega), k4.2 3 (by omega) (by omega), k3.2 3 (by omega) (by omega), stm_row, upd_ne _ _ (by omega), k1.2 3 (by omega) (by omega), K1.2 3 (by omega) (by omega)]; simp only [stm_row]; simp (disch := omega) only [upd_ne, upd_at]
      · rw [k7.2 4 (by omega) (by omega), stm_row, upd_ne _ _ (by omega), k4.2 4 (by omega) (by omega), k3.2 4 (by omega) (by omega), stm_row, upd_at]
      · rw [k7.2 5 (by omega) (by omega), stm_row, upd_at]
      · rw [k7.2 6 (by omega) (by omega), stm_row, upd_ne _ _ (by omega), k4.2 6 (by omega) (by omega), k3.2 6 (by omega) (by omega), stm_row, upd_ne _ _ (by omega), k1.2 6 (by omega) (by omega), K1.2 6 (by omega) (by omega)]; simp only [stm_row]; simp (disch := omega) only [upd_ne, upd_at]; rfl
      · rw [k7.2 7 (by omega) (by omega), stm_row, upd_ne _ _ (by omega), k4.2 7 (by omega) (by omega), k3.2 7 (by omega) (by omega), stm_row, upd_ne _ _ (by omega), k1.2 7 (by omega) (by omega), K1.2 7 (by omega) (by omega)]; simp only [stm_row]; simp (disch := omega) only [upd_ne, upd_at]; rfl
    · have en := here_r R
      rw [if_pos hp, hL] at en
      obtain ⟨R0, K0⟩ := RS_t R (v := 0)
      obtain ⟨R1, K1⟩ := RS_at R0 hp
      have t0 : (stm (stm ρ 91 15 0) 91 12 (stm ρ 91 15 0 91 12 + 1)) 91 15 = nI 0 := by rw [stm_row, upd_ne _ _ (by omega), stm_row, upd_at]; rfl
      obtain ⟨r1, b1, R11, L1, u1, t1⟩ := readsD_y R1 h1 (by omega) t0
      obtain ⟨r2, b2, R12, L2, u2, t2⟩ := takes_y R11 h2
      have t2 := t2.trans t1
      obtain ⟨r3, b3, R13, L3, u3, t3⟩ := readsD_y R12 h3 (by omega) t2
      obtain ⟨r4, b4, R14, L4, u4, t4⟩ := takes_y R13 hq
      have t4 := t4.trans t3
      refine ⟨_, ?_, R14, (KF_tr K0 (KF_tr K1 (KF_tr L1 (KF_tr L2 (KF_tr L3 L4))))), ?_, ?_, ?_, ?_⟩
      · unfold F_X8_readsStatement
        rw [en, Option.bind_some, if_neg (show ¬ (118 : Int32) = 100 by decide), if_neg (show ¬ (118 : Int32) = 112 by decide), if_neg (show ¬ (118 : Int32) = 114 by decide), if_neg (show ¬ (118 : Int32) = 117 by decide), if_pos (show (118 : Int32) = 118 from rfl), b1, bd2_s, if_neg i10, b2, bd2_s, if_neg i10, b3, bd2_s, if_neg i10, b4, bd2_s, if_neg i10]
      · rw [u4, u3, upd_ne _ _ (by omega), u2, u1, upd_at]
      · rw [u4, u3, upd_at]
      · intro q; exact absurd q (by decide)
      · intro q; exact absurd q (by decide)
theorem st_120 (hz : z ≤ 100) (hp : p < z) (hL : T p = 120) : SFAIL T z p ∨ SOK T z p := by
  by_cases h1 : dg T z (p + 1)
  rotate_left
  · refine Or.inl ⟨p + 1, by omega, fun d σ C => ?_, fun d ρ R => ?_⟩
    · have en := next_c C
      rw [if_pos hp, hL] at en
      have C0 := CS_o (CS_o (CS_o (CS_o (CS_o C (j := 3) (v := 120) (by omega)) (j := 4) (v := 0) (by omega)) (j := 5) (v := 0) (by omega)) (j := 6) (v := 0) (by omega)) (j := 7) (v := 0) (by omega)
      have F3 : (stm (stm (stm (stm (stm σ 85 3 120) 85 4 0) 85 5 0) 85 6 0) 85 7 0) 85 3 = 120 := by simp only [stm_row]; simp (disch := omega) only [upd_ne, upd_at]
      obtain ⟨C1, K1⟩ := CS_at C0 hp
      obtain ⟨s1, a1, E1, k1⟩ := digit_n C1 h1
      have D2 := CS_o E1 (j := 4) (v := 0) (by omega)
      obtain ⟨s3, a3, E3, k3⟩ := want_b (s := 32) D2
      obtain ⟨s4, a4, E4, k4⟩ := digit_b E3
      have D5 := CS_o E4 (j := 5) (v := 0) (by omega)
      have a6 : (stm s4 85 5 0) 85 3 = 120 := by rw [stm_row, upd_ne _ _ (by omega), k4.2 3 (by omega) (by omega), k3.2 3 (by omega) (by omega), stm_row, upd_ne _ _ (by omega), k1.2 3 (by omega) (by omega), K1.2 3 (by omega) (by omega)]; exact F3
      obtain ⟨s7, a7, E7, k7⟩ := digit_b D5
      have D8 := CS_o E7 (j := 6) (v := 0) (by omega)
      obtain ⟨s9, a9, E9, k9⟩ := want_b (s := 59) D8
      refine ⟨_, ?_, E9, fun i hi => ?_⟩
      · unfold F_X3_readStatement
        rw [en, Option.bind_some, F3, if_neg (show ¬ (120 : Int32) = 100 by decide), if_neg (show ¬ (120 : Int32) = 112 by decide), if_neg (show ¬ (120 : Int32) = 114 by decide), if_neg (show ¬ (120 : Int32) = 117 by decide), if_neg (show ¬ (120 : Int32) = 118 by decide), if_pos (show (120 : Int32) = 120 from rfl)]
        unfold F_X3_readPair
        rw [a1, bd2_s, a3, Option.bind_some, a4, bd2_s, a6, if_pos rfl, a7, bd2_s, Option.bind_some, a9, Option.bind_some]
      · rw [k9.1 i hi, stm_ne _ _ _ hi, k7.1 i hi, stm_ne _ _ _ hi, k4.1 i hi, k3.1 i hi, stm_ne _ _ _ hi, k1.1 i hi, K1.1 i hi, stm_ne _ _ _ hi, stm_ne _ _ _ hi, stm_ne _ _ _ hi, stm_ne _ _ _ hi, stm_ne _ _ _ hi]
    · have en := here_r R
      rw [if_pos hp, hL] at en
      obtain ⟨R0, K0⟩ := RS_t R (v := 0)
      obtain ⟨R1, K1⟩ := RS_at R0 hp
      have t0 : (stm (stm ρ 91 15 0) 91 12 (stm ρ 91 15 0 91 12 + 1)) 91 15 = nI 0 := by rw [stm_row, upd_ne _ _ (by omega), stm_row, upd_at]; rfl
      refine ⟨_, ?_, R1, (KF_tr K0 K1)⟩
      · unfold F_X8_readsStatement
        rw [en, Option.bind_some, if_neg (show ¬ (120 : Int32) = 100 by decide), if_neg (show ¬ (120 : Int32) = 112 by decide), if_neg (show ¬ (120 : Int32) = 114 by decide), if_neg (show ¬ (120 : Int32) = 117 by decide), if_neg (show ¬ (120 : Int32) = 118 by decide), if_pos (show (120 : Int32) = 120 from rfl), readsD_n R1 h1, bd2_s, if_pos rfl]
  have b1 := (dv_e h1).2.1
  by_cases h2 : sg T z (p + 2) 32
  rotate_left
  · refine Or.inl ⟨p + 2, by omega, fun d σ C => ?_, fun d ρ R => ?_⟩
    · have en := next_c C
      rw [if_pos hp, hL] at en
      have C0 := CS_o (CS_o (CS_o (CS_o (CS_o C (j := 3) (v := 120) (by omega)) (j := 4) (v := 0) (by omega)) (j := 5) (v := 0) (by omega)) (j := 6) (v := 0) (by omega)) (j := 7) (v := 0) (by omega)
      have F3 : (stm (stm (stm (stm (stm σ 85 3 120) 85 4 0) 85 5 0) 85 6 0) 85 7 0) 85 3 = 120 := by simp only [stm_row]; simp (disch := omega) only [upd_ne, upd_at]
      obtain ⟨C1, K1⟩ := CS_at C0 hp
      obtain ⟨s1, a1, E1, k1⟩ := digit_y C1 h1
      have D2 := CS_o E1 (j := 4) (v := (nI (dv T (p + 1)))) (by omega)
      obtain ⟨s3, a3, E3, k3⟩ := want_n D2 h2 (by decide)
      obtain ⟨s4, a4, E4, k4⟩ := digit_b E3
      have D5 := CS_o E4 (j := 5) (v := 0) (by omega)
      have a6 : (stm s4 85 5 0) 85 3 = 120 := by rw [stm_row, upd_ne _ _ (by omega), k4.2 3 (by omega) (by omega), k3.2 3 (by omega) (by omega), stm_row, upd_ne _ _ (by omega), k1.2 3 (by omega) (by omega), K1.2 3 (by omega) (by omega)]; exact F3
      obtain ⟨s7, a7, E7, k7⟩ := digit_b D5
      have D8 := CS_o E7 (j := 6) (v := 0) (by omega)
      obtain ⟨s9, a9, E9, k9⟩ := want_b (s := 59) D8
      refine ⟨_, ?_, E9, fun i hi => ?_⟩
      · unfold F_X3_readStatement
        rw [en, Option.bind_some, F3, if_neg (show ¬ (120 : Int32) = 100 by decide), if_neg (show ¬ (120 : Int32) = 112 by decide), if_neg (show ¬ (120 : Int32) = 114 by decide), if_neg (show ¬ (120 : Int32) = 117 by decide), if_neg (show ¬ (120 : Int32) = 118 by decide), if_pos (show (120 : Int32) = 120 from rfl)]
        unfold F_X3_readPair
        rw [a1, bd2_s, a3, Option.bind_some, a4, bd2_s, a6, if_pos rfl, a7, bd2_s, Option.bind_some, a9, Option.bind_some]
      · rw [k9.1 i hi, stm_ne _ _ _ hi, k7.1 i hi, stm_ne _ _ _ hi, k4.1 i hi, k3.1 i hi, stm_ne _ _ _ hi, k1.1 i hi, K1.1 i hi, stm_ne _ _ _ hi, stm_ne _ _ _ hi, stm_ne _ _ _ hi, stm_ne _ _ _ hi, stm_ne _ _ _ hi]
    · have en := here_r R
      rw [if_pos hp, hL] at en
      obtain ⟨R0, K0⟩ := RS_t R (v := 0)
      obtain ⟨R1, K1⟩ := RS_at R0 hp
      have t0 : (stm (stm ρ 91 15 0) 91 12 (stm ρ 91 15 0 91 12 + 1)) 91 15 = nI 0 := by rw [stm_row, upd_ne _ _ (by omega), stm_row, upd_at]; rfl
      obtain ⟨r1, b1, R11, L1, u1, t1⟩ := readsD_y R1 h1 (by omega) t0
      refine ⟨_, ?_, R11, (KF_tr K0 (KF_tr K1 L1))⟩
      · unfold F_X8_readsStatement
        rw [en, Option.bind_some, if_neg (show ¬ (120 : Int32) = 100 by decide), if_neg (show ¬ (120 : Int32) = 112 by decide), if_neg (show ¬ (120 : Int32) = 114 by decide), if_neg (show ¬ (120 : Int32) = 117 by decide), if_neg (show ¬ (120 : Int32) = 118 by decide), if_pos (show (120 : Int32) = 120 from rfl), b1, bd2_s, if_neg i10, takes_n R11 h2 (by decide), bd2_s, if_pos rfl]
  by_cases h3 : dg T z (p + 3)
  rotate_left
  · refine Or.inl ⟨p + 3, by omega, fun d σ C => ?_, fun d ρ R => ?_⟩
    · have en := next_c C
      rw [if_pos hp, hL] at en
      have C0 := CS_o (CS_o (CS_o (CS_o (CS_o C (j := 3) (v := 120) (by omega)) (j := 4) (v := 0) (by omega)) (j := 5) (v := 0) (by omega)) (j := 6) (v := 0) (by omega)) (j := 7) (v := 0) (by omega)
      have F3 : (stm (stm (stm (stm (stm σ 85 3 120) 85 4 0) 85 5 0) 85 6 0) 85 7 0) 85 3 = 120 := by simp only [stm_row]; simp (disch := omega) only [upd_ne, upd_at]
      obtain ⟨C1, K1⟩ := CS_at C0 hp
      obtain ⟨s1, a1, E1, k1⟩ := digit_y C1 h1
      have D2 := CS_o E1 (j := 4) (v := (nI (dv T (p + 1)))) (by omega)
      obtain ⟨s3, a3, E3, k3⟩ := want_y D2 h2
      obtain ⟨s4, a4, E4, k4⟩ := digit_n E3 h3
      have D5 := CS_o E4 (j := 5) (v := 0) (by omega)
      have a6 : (stm s4 85 5 0) 85 3 = 120 := by rw [stm_row, upd_ne _ _ (by omega), k4.2 3 (by omega) (by omega), k3.2 3 (by omega) (by omega), stm_row, upd_ne _ _ (by omega), k1.2 3 (by omega) (by omega), K1.2 3 (by omega) (by omega)]; exact F3
      obtain ⟨s7, a7, E7, k7⟩ := digit_b D5
      have D8 := CS_o E7 (j := 6) (v := 0) (by omega)
      obtain ⟨s9, a9, E9, k9⟩ := want_b (s := 59) D8
      refine ⟨_, ?_, E9, fun i hi => ?_⟩
      · unfold F_X3_readStatement
        rw [en, Option.bind_some, F3, if_neg (show ¬ (120 : Int32) = 100 by decide), if_neg (show ¬ (120 : Int32) = 112 by decide), if_neg (show ¬ (120 : Int32) = 114 by decide), if_neg (show ¬ (120 : Int32) = 117 by decide), if_neg (show ¬ (120 : Int32) = 118 by decide), if_pos (show (120 : Int32) = 120 from rfl)]
        unfold F_X3_readPair
        rw [a1, bd2_s, a3, Option.bind_some, a4, bd2_s, a6, if_pos rfl, a7, bd2_s, Option.bind_some, a9, Option.bind_some]
      · rw [k9.1 i hi, stm_ne _ _ _ hi, k7.1 i hi, stm_ne _ _ _ hi, k4.1 i hi, k3.1 i hi, stm_ne _ _ _ hi, k1.1 i hi, K1.1 i hi, stm_ne _ _ _ hi, stm_ne _ _ _ hi, stm_ne _ _ _ hi, stm_ne _ _ _ hi, stm_ne _ _ _ hi]
    · have en := here_r R
      rw [if_pos hp, hL] at en
      obtain ⟨R0, K0⟩ := RS_t R (v := 0)
      obtain ⟨R1, K1⟩ := RS_at R0 hp
      have t0 : (stm (stm ρ 91 15 0) 91 12 (stm ρ 91 15 0 91 12 + 1)) 91 15 = nI 0 := by rw [stm_row, upd_ne _ _ (by omega), stm_row, upd_at]; rfl
      obtain ⟨r1, b1, R11, L1, u1, t1⟩ := readsD_y R1 h1 (by omega) t0
      obtain ⟨r2, b2, R12, L2, u2, t2⟩ := takes_y R11 h2
      have t2 := t2.trans t1
      refine ⟨_, ?_, R12, (KF_tr K0 (KF_tr K1 (KF_tr L1 L2)))⟩
      · unfold F_X8_readsStatement
        rw [en, Option.bind_some, if_neg (show ¬ (120 : Int32) = 100 by decide), if_neg (show ¬ (120 : Int32) = 112 by decide), if_neg (show ¬ (120 : Int32) = 114 by decide), if_neg (show ¬ (120 : Int32) = 117 by decide), if_neg (show ¬ (120 : Int32) = 118 by decide), if_pos (show (120 : Int32) = 120 from rfl), b1, bd2_s, if_neg i10, b2, bd2_s, if_neg i10, readsD_n R12 h3, bd2_s, if_pos rfl]
  have b2 := (dv_e h3).2.1
  by_cases h4 : dg T z (p + 4)
  rotate_left
  · refine Or.inl ⟨p + 4, by omega, fun d σ C => ?_, fun d ρ R => ?_⟩
    · have en := next_c C
      rw [if_pos hp, hL] at en
      have C0 := CS_o (CS_o (CS_o (CS_o (CS_o C (j := 3) (v := 120) (by omega)) (j := 4) (v := 0) (by omega)) (j := 5) (v := 0) (by omega)) (j := 6) (v := 0) (by omega)) (j := 7) (v := 0) (by omega)
      have F3 : (stm (stm (stm (stm (stm σ 85 3 120) 85 4 0) 85 5 0) 85 6 0) 85 7 0) 85 3 = 120 := by simp only [stm_row]; simp (disch := omega) only [upd_ne, upd_at]
      obtain ⟨C1, K1⟩ := CS_at C0 hp
      obtain ⟨s1, a1, E1, k1⟩ := digit_y C1 h1
      have D2 := CS_o E1 (j := 4) (v := (nI (dv T (p + 1)))) (by omega)
      obtain ⟨s3, a3, E3, k3⟩ := want_y D2 h2
      obtain ⟨s4, a4, E4, k4⟩ := digit_y E3 h3
      have D5 := CS_o E4 (j := 5) (v := (nI (dv T (p + 3)))) (by omega)
      have a6 : (stm s4 85 5 (nI (dv T (p + 3)))) 85 3 = 120 := by rw [stm_row, upd_ne _ _ (by omega), k4.2 3 (by omega) (by omega), k3.2 3 (by omega) (by omega), stm_row, upd_ne _ _ (by omega), k1.2 3 (by omega) (by omega), K1.2 3 (by omega) (by omega)]; exact F3
      obtain ⟨s7, a7, E7, k7⟩ := digit_n D5 h4
      have D8 := CS_o E7 (j := 6) (v := 0) (by omega)
      obtain ⟨s9, a9, E9, k9⟩ := want_b (s := 59) D8
      refine ⟨_, ?_, E9, fun i hi => ?_⟩
      · unfold F_X3_readStatement
        rw [en, Option.bind_some, F3, if_neg (show ¬ (120 : Int32) = 100 by decide), if_neg (show ¬ (120 : Int32) = 112 by decide), if_neg (show ¬ (120 : Int32) = 114 by decide), if_neg (show ¬ (120 : Int32) = 117 by decide), if_neg (show ¬ (120 : Int32) = 118 by decide), if_pos (show (120 : Int32) = 120 from rfl)]
        unfold F_X3_readPair
        rw [a1, bd2_s, a3, Option.bind_some, a4, bd2_s, a6, if_pos rfl, a7, bd2_s, Option.bind_some, a9, Option.bind_some]
      · rw [k9.1 i hi, stm_ne _ _ _ hi, k7.1 i hi, stm_ne _ _ _ hi, k4.1 i hi, k3.1 i hi, stm_ne _ _ _ hi, k1.1 i hi, K1.1 i hi, stm_ne _ _ _ hi, stm_ne _ _ _ hi, stm_ne _ _ _ hi, stm_ne _ _ _ hi, stm_ne _ _ _ hi]
    · have en := here_r R
      rw [if_pos hp, hL] at en
      obtain ⟨R0, K0⟩ := RS_t R (v := 0)
      obtain ⟨R1, K1⟩ := RS_at R0 hp
      have t0 : (stm (stm ρ 91 15 0) 91 12 (stm ρ 91 15 0 91 12 + 1)) 91 15 = nI 0 := by rw [stm_row, upd_ne _ _ (by omega), stm_row, upd_at]; rfl
      obtain ⟨r1, b1, R11, L1, u1, t1⟩ := readsD_y R1 h1 (by omega) t0
      obtain ⟨r2, b2, R12, L2, u2, t2⟩ := takes_y R11 h2
      have t2 := t2.trans t1
      obtain ⟨r3, b3, R13, L3, u3, t3⟩ := readsD_y R12 h3 (by omega) t2
      refine ⟨_, ?_, R13, (KF_tr K0 (KF_tr K1 (KF_tr L1 (KF_tr L2 L3))))⟩
      · unfold F_X8_readsStatement
        rw [en, Option.bind_some, if_neg (show ¬ (120 : Int32) = 100 by decide), if_neg (show ¬ (120 : Int32) = 112 by decide), if_neg (show ¬ (120 : Int32) = 114 by decide), if_neg (show ¬ (120 : Int32) = 117 by decide), if_neg (show ¬ (120 : Int32) = 118 by decide), if_pos (show (120 : Int32) = 120 from rfl), b1, bd2_s, if_neg i10, b2, bd2_s, if_neg i10, b3, bd2_s, if_neg i10, readsD_n R13 h4, bd2_s, if_pos rfl]
  have b3 := (dv_e h4).2.1
  by_cases hq : sg T z (p + 5) 59
  rotate_left
  · refine Or.inl ⟨p + 5, by omega, fun d σ C => ?_, fun d ρ R => ?_⟩
    · have en := next_c C
      rw [if_pos hp, hL] at en
      have C0 := CS_o (CS_o (CS_o (CS_o (CS_o C (j := 3) (v := 120) (by omega)) (j := 4) (v := 0) (by omega)) (j := 5) (v := 0) (by omega)) (j := 6) (v := 0) (by omega)) (j := 7) (v := 0) (by omega)
      have F3 : (stm (stm (stm (stm (stm σ 85 3 120) 85 4 0) 85 5 0) 85 6 0) 85 7 0) 85 3 = 120 := by simp only [stm_row]; simp (disch := omega) only [upd_ne, upd_at]
      obtain ⟨C1, K1⟩ := CS_at C0 hp
      obtain ⟨s1, a1, E1, k1⟩ := digit_y C1 h1
      have D2 := CS_o E1 (j := 4) (v := (nI (dv T (p + 1)))) (by omega)
      obtain ⟨s3, a3, E3, k3⟩ := want_y D2 h2
      obtain ⟨s4, a4, E4, k4⟩ := digit_y E3 h3
      have D5 := CS_o E4 (j := 5) (v := (nI (dv T (p + 3)))) (by omega)
      have a6 : (stm s4 85 5 (nI (dv T (p + 3)))) 85 3 = 120 := by rw [stm_row, upd_ne _ _ (by omega), k4.2 3 (by omega) (by omega), k3.2 3 (by omega) (by omega), stm_row, upd_ne _ _ (by omega), k1.2 3 (by omega) (by omega), K1.2 3 (by omega) (by omega)]; exact F3
      obtain ⟨s7, a7, E7, k7⟩ := digit_y D5 h4
      have D8 := CS_o E7 (j := 6) (v := (nI (dv T (p + 4)))) (by omega)
      obtain ⟨s9, a9, E9, k9⟩ := want_n D8 hq (by decide)
      refine ⟨_, ?_, E9, fun i hi => ?_⟩
      · unfold F_X3_readStatement
        rw [en, Option.bind_some, F3, if_neg (show ¬ (120 : Int32) = 100 by decide), if_neg (show ¬ (120 : Int32) = 112 by decide), if_neg (show ¬ (120 : Int32) = 114 by decide), if_neg (show ¬ (120 : Int32) = 117 by decide), if_neg (show ¬ (120 : Int32) = 118 by decide), if_pos (show (120 : Int32) = 120 from rfl)]
        unfold F_X3_readPair
        rw [a1, bd2_s, a3, Option.bind_some, a4, bd2_s, a6, if_pos rfl, a7, bd2_s, Option.bind_some, a9, Option.bind_some]
      · rw [k9.1 i hi, stm_ne _ _ _ hi, k7.1 i hi, stm_ne _ _ _ hi, k4.1 i hi, k3.1 i hi, stm_ne _ _ _ hi, k1.1 i hi, K1.1 i hi, stm_ne _ _ _ hi, stm_ne _ _ _ hi, stm_ne _ _ _ hi, stm_ne _ _ _ hi, stm_ne _ _ _ hi]
    · have en := here_r R
      rw [if_pos hp, hL] at en
      obtain ⟨R0, K0⟩ := RS_t R (v := 0)
      obtain ⟨R1, K1⟩ := RS_at R0 hp
      have t0 : (stm (stm ρ 91 15 0) 91 12 (stm ρ 91 15 0 91 12 + 1)) 91 15 = nI 0 := by rw [stm_row, upd_ne _ _ (by omega), stm_row, upd_at]; rfl
      obtain ⟨r1, b1, R11, L1, u1, t1⟩ := readsD_y R1 h1 (by omega) t0
      obtain ⟨r2, b2, R12, L2, u2, t2⟩ := takes_y R11 h2
      have t2 := t2.trans t1
      obtain ⟨r3, b3, R13, L3, u3, t3⟩ := readsD_y R12 h3 (by omega) t2
      obtain ⟨r4, b4, R14, L4, u4, t4⟩ := readsD_y R13 h4 (by omega) t3
      refine ⟨_, ?_, R14, (KF_tr K0 (KF_tr K1 (KF_tr L1 (KF_tr L2 (KF_tr L3 L4)))))⟩
      · unfold F_X8_readsStatement
        rw [en, Option.bind_some, if_neg (show ¬ (120 : Int32) = 100 by decide), if_neg (show ¬ (120 : Int32) = 112 by decide), if_neg (show ¬ (120 : Int32) = 114 by decide), if_neg (show ¬ (120 : Int32) = 117 by decide), if_neg (show ¬ (120 : Int32) = 118 by decide), if_pos (show (120 : Int32) = 120 from rfl), b1, bd2_s, if_neg i10, b2, bd2_s, if_neg i10, b3, bd2_s, if_neg i10, b4, bd2_s, if_neg i10, takes_n R14 hq (by decide), bd2_s, if_pos rfl]
  · refine Or.inr ⟨p + 6, 120, dv T (p + 1), dv T (p + 3), dv T (p + 4), 0, ⟨by omega, by have := hq.1; omega, hp, hL, Or.inl ⟨Or.inr (Or.inr (Or.inr rfl)), b1, b2, b3⟩⟩, fun d σ C => ?_, fun d ρ R => ?_⟩
    · have en := next_c C
      rw [if_pos hp, hL] at en
      have C0 := CS_o (CS_o (CS_o (CS_o (CS_o C (j := 3) (v := 120) (by omega)) (j := 4) (v := 0) (by omega)) (j := 5) (v := 0) (by omega)) (j := 6) (v := 0) (by omega)) (j := 7) (v := 0) (by omega)
      have F3 : (stm (stm (stm (stm (stm σ 85 3 120) 85 4 0) 85 5 0) 85 6 0) 85 7 0) 85 3 = 120 := by simp only [stm_row]; simp (disch := omega) only [upd_ne, upd_at]
      obtain ⟨C1, K1⟩ := CS_at C0 hp
      obtain ⟨s1, a1, E1, k1⟩ := digit_y C1 h1
      have D2 := CS_o E1 (j := 4) (v := (nI (dv T (p + 1)))) (by omega)
      obtain ⟨s3, a3, E3, k3⟩ := want_y D2 h2
      obtain ⟨s4, a4, E4, k4⟩ := digit_y E3 h3
      have D5 := CS_o E4 (j := 5) (v := (nI (dv T (p + 3)))) (by omega)
      have a6 : (stm s4 85 5 (nI (dv T (p + 3)))) 85 3 = 120 := by rw [stm_row, upd_ne _ _ (by omega), k4.2 3 (by omega) (by omega), k3.2 3 (by omega) (by omega), stm_row, upd_ne _ _ (by omega), k1.2 3 (by omega) (by omega), K1.2 3 (by omega) (by omega)]; exact F3
      obtain ⟨s7, a7, E7, k7⟩ := digit_y D5 h4
      have D8 := CS_o E7 (j := 6) (v := (nI (dv T (p + 4)))) (by omega)
      obtain ⟨s9, a9, E9, k9⟩ := want_y D8 hq
      refine ⟨_, ?_, E9, fun i hi => ?_, ?_, ?_, ?_, ?_, ?_⟩
      · unfold F_X3_readStatement
        rw [en, Option.bind_some, F3, if_neg (show ¬ (120 : Int32) = 100 by decide), if_neg (show ¬ (120 : Int32) = 112 by decide), if_neg (show ¬ (120 : Int32) = 114 by decide), if_neg (show ¬ (120 : Int32) = 117 by decide), if_neg (show ¬ (120 : Int32) = 118 by decide), if_pos (show (120 : Int32) = 120 from rfl)]
        unfold F_X3_readPair
        rw [a1, bd2_s, a3, Option.bind_some, a4, bd2_s, a6, if_pos rfl, a7, bd2_s, Option.bind_some, a9, Option.bind_some]
      · rw [k9.1 i hi, stm_ne _ _ _ hi, k7.1 i hi, stm_ne _ _ _ hi, k4.1 i hi, k3.1 i hi, stm_ne _ _ _ hi, k1.1 i hi, K1.1 i hi, stm_ne _ _ _ hi, stm_ne _ _ _ hi, stm_ne _ _ _ hi, stm_ne _ _ _ hi, stm_ne _ _ _ hi]
      · rw [k9.2 3 (by omega) (by omega), stm_row, upd_ne _ _ (by omega), k7.2 3 (by omega) (by omega), stm_row, upd_ne _ _ (by omega), k4.2 3 (by omega) (by omega), k3.2 3 (by omega) (by omega), stm_row, upd_ne _ _ (by omega), k1.2 3 (by omega) (by omega), K1.2 3 (by omega) (by omega)]; simp only [stm_row]; simp (disch := omega) only [upd_ne, upd_at]
      · rw [k9.2 4 (by omega) (by omega), stm_row, upd_ne _ _ (by omega), k7.2 4 (by omega) (by omega), stm_row, upd_ne _ _ (by omega), k4.2 4 (by omega) (by omega), k3.2 4 (by omega) (by omega), stm_row, upd_at]
      · rw [k9.2 5 (by omega) (by omega), stm_row, upd_ne _ _ (by omega), k7.2 5 (by omega) (by omega), stm_row, upd_at]
      · rw [k9.2 6 (by omega) (by omega), stm_row, upd_at]
      · rw [k9.2 7 (by omega) (by omega), stm_row, upd_ne _ _ (by omega), k7.2 7 (by omega) (by omega), stm_row, upd_ne _ _ (by omega), k4.2 7 (by omega) (by omega), k3.2 7 (by omega) (by omega), stm_row, upd_ne _ _ (by omega), k1.2 7 (by omega) (by omega), K1.2 7 (by omega) (by omega)]; simp only [stm_row]; simp (disch := omega) only [upd_ne, upd_at]; rfl
    · have en := here_r R
      rw [if_pos hp, hL] at en
      obtain ⟨R0, K0⟩ := RS_t R (v := 0)
      obtain ⟨R1, K1⟩ := RS_at R0 hp
      have t0 : (stm (stm ρ 91 15 0) 91 12 (stm ρ 91 15 0 91 12 + 1)) 91 15 = nI 0 := by rw [stm_row, upd_ne _ _ (by omega), stm_row, upd_at]; rfl
      obtain ⟨r1, b1, R11, L1, u1, t1⟩ := readsD_y R1 h1 (by omega) t0
      obtain ⟨r2, b2, R12, L2, u2, t2⟩ := takes_y R11 h2
      have t2 := t2.trans t1
      obtain ⟨r3, b3, R13, L3, u3, t3⟩ := readsD_y R12 h3 (by omega) t2
      obtain ⟨r4, b4, R14, L4, u4, t4⟩ := readsD_y R13 h4 (by omega) t3
      obtain ⟨r5, b5, R15, L5, u5, t5⟩ := takes_y R14 hq
      have t5 := t5.trans t4
      refine ⟨_, ?_, R15, (KF_tr K0 (KF_tr K1 (KF_tr L1 (KF_tr L2 (KF_tr L3 (KF_tr L4 L5)))))), ?_, ?_, ?_, ?_⟩
      · unfold F_X8_readsStatement
        rw [en, Option.bind_some, if_neg (show ¬ (120 : Int32) = 100 by decide), if_neg (show ¬ (120 : Int32) = 112 by decide), if_neg (show ¬ (120 : Int32) = 114 by decide), if_neg (show ¬ (120 : Int32) = 117 by decide), if_neg (show ¬ (120 : Int32) = 118 by decide), if_pos (show (120 : Int32) = 120 from rfl), b1, bd2_s, if_neg i10, b2, bd2_s, if_neg i10, b3, bd2_s, if_neg i10, b4, bd2_s, if_neg i10, b5, bd2_s, if_neg i10]
      · rw [u5, u4, upd_ne _ _ (by omega), u3, upd_ne _ _ (by omega), u2, u1, upd_at]
      · rw [u5, u4, upd_ne _ _ (by omega), u3, upd_at]
      · intro _; rw [u5, u4, upd_at]
      · intro q; exact absurd q (by decide)
theorem st_117 (hz : z ≤ 100) (hp : p < z) (hL : T p = 117) : SFAIL T z p ∨ SOK T z p := by
  by_cases h1 : dg T z (p + 1)
  rotate_left
  · refine Or.inl ⟨p + 1, by omega, fun d σ C => ?_, fun d ρ R => ?_⟩
    · have en := next_c C
      rw [if_pos hp, hL] at en
      have C0 := CS_o (CS_o (CS_o (CS_o (CS_o C (j := 3) (v := 117) (by omega)) (j := 4) (v := 0) (by omega)) (j := 5) (v := 0) (by omega)) (j := 6) (v := 0) (by omega)) (j := 7) (v := 0) (by omega)
      have F3 : (stm (stm (stm (stm (stm σ 85 3 117) 85 4 0) 85 5 0) 85 6 0) 85 7 0) 85 3 = 117 := by simp only [stm_row]; simp (disch := omega) only [upd_ne, upd_at]
      obtain ⟨C1, K1⟩ := CS_at C0 hp
      obtain ⟨s1, a1, E1, k1⟩ := numb_n C1 h1
      have D2 := CS_o E1 (j := 4) (v := 0) (by omega)
      obtain ⟨s3, a3, E3, k3⟩ := want_b (s := 32) D2
      obtain ⟨s4, a4, E4, k4⟩ := digit_b E3
      have D5 := CS_o E4 (j := 5) (v := 0) (by omega)
      have a6 := skips_b (s := 108) D5
      have D7 := CS_o D5 (j := 7) (v := 0) (by omega)
      have a8 := skips_b (s := 119) D7
      obtain ⟨s9, a9, E9, k9⟩ := want_b (s := 59) D7
      refine ⟨_, ?_, E9, fun i hi => ?_⟩
      · unfold F_X3_readStatement
        rw [en, Option.bind_some, F3, if_neg (show ¬ (117 : Int32) = 100 by decide), if_neg (show ¬ (117 : Int32) = 112 by decide), if_neg (show ¬ (117 : Int32) = 114 by decide), if_pos (show (117 : Int32) = 117 from rfl)]
        unfold F_X3_readCart
        rw [a1, bd2_s, a3, Option.bind_some, a4, bd2_s, a6, bd2_s, ck_t _ (by decide), a8, bd2_s, if_pos rfl, Option.bind_some, a9, Option.bind_some]
      · rw [k9.1 i hi, stm_ne _ _ _ hi, stm_ne _ _ _ hi, k4.1 i hi, k3.1 i hi, stm_ne _ _ _ hi, k1.1 i hi, K1.1 i hi, stm_ne _ _ _ hi, stm_ne _ _ _ hi, stm_ne _ _ _ hi, stm_ne _ _ _ hi, stm_ne _ _ _ hi]
    · have en := here_r R
      rw [if_pos hp, hL] at en
      obtain ⟨R0, K0⟩ := RS_t R (v := 0)
      obtain ⟨R1, K1⟩ := RS_at R0 hp
      have t0 : (stm (stm ρ 91 15 0) 91 12 (stm ρ 91 15 0 91 12 + 1)) 91 15 = nI 0 := by rw [stm_row, upd_ne _ _ (by omega), stm_row, upd_at]; rfl
      refine ⟨_, ?_, R1, (KF_tr K0 K1)⟩
      · unfold F_X8_readsStatement
        rw [en, Option.bind_some, if_neg (show ¬ (117 : Int32) = 100 by decide), if_neg (show ¬ (117 : Int32) = 112 by decide), if_neg (show ¬ (117 : Int32) = 114 by decide), if_pos (show (117 : Int32) = 117 from rfl), numb_rn R1 h1, bd2_s, if_pos rfl]
  obtain ⟨q1, va, l1, m1, b1, cl1, rf1⟩ := numb h1 hz
  by_cases h2 : sg T z q1 32
  rotate_left
  · refine Or.inl ⟨q1, by omega, fun d σ C => ?_, fun d ρ R => ?_⟩
    · have en := next_c C
      rw [if_pos hp, hL] at en
      have C0 := CS_o (CS_o (CS_o (CS_o (CS_o C (j := 3) (v := 117) (by omega)) (j := 4) (v := 0) (by omega)) (j := 5) (v := 0) (by omega)) (j := 6) (v := 0) (by omega)) (j := 7) (v := 0) (by omega)
      have F3 : (stm (stm (stm (stm (stm σ 85 3 117) 85 4 0) 85 5 0) 85 6 0) 85 7 0) 85 3 = 117 := by simp only [stm_row]; simp (disch := omega) only [upd_ne, upd_at]
      obtain ⟨C1, K1⟩ := CS_at C0 hp
      obtain ⟨s1, a1, E1, k1⟩ := cl1 d _ C1
      have D2 := CS_o E1 (j := 4) (v := (nI va)) (by omega)
      obtain ⟨s3, a3, E3, k3⟩ := want_n D2 h2 (by decide)
      obtain ⟨s4, a4, E4, k4⟩ := digit_b E3
      have D5 := CS_o E4 (j := 5) (v := 0) (by omega)
      have a6 := skips_b (s := 108) D5
      have D7 := CS_o D5 (j := 7) (v := 0) (by omega)
      have a8 := skips_b (s := 119) D7
      obtain ⟨s9, a9, E9, k9⟩ := want_b (s := 59) D7
      refine ⟨_, ?_, E9, fun i hi => ?_⟩
      · unfold F_X3_readStatement
        rw [en, Option.bind_some, F3, if_neg (show ¬ (117 : Int32) = 100 by decide), if_neg (show ¬ (117 : Int32) = 112 by decide), if_neg (show ¬ (117 : Int32) = 114 by decide), if_pos (show (117 : Int32) = 117 from rfl)]
        unfold F_X3_readCart
        rw [a1, bd2_s, a3, Option.bind_some, a4, bd2_s, a6, bd2_s, ck_t _ (by decide), a8, bd2_s, if_pos rfl, Option.bind_some, a9, Option.bind_some]
      · rw [k9.1 i hi, stm_ne _ _ _ hi, stm_ne _ _ _ hi, k4.1 i hi, k3.1 i hi, stm_ne _ _ _ hi, k1.1 i hi, K1.1 i hi, stm_ne _ _ _ hi, stm_ne _ _ _ hi, stm_ne _ _ _ hi, stm_ne _ _ _ hi, stm_ne _ _ _ hi]
    · have en := here_r R
      rw [if_pos hp, hL] at en
      obtain ⟨R0, K0⟩ := RS_t R (v := 0)
      obtain ⟨R1, K1⟩ := RS_at R0 hp
      have t0 : (stm (stm ρ 91 15 0) 91 12 (stm ρ 91 15 0 91 12 + 1)) 91 15 = nI 0 := by rw [stm_row, upd_ne _ _ (by omega), stm_row, upd_at]; rfl
      obtain ⟨r1, b1, R11, L1, u1, t1⟩ := rf1 d _ 0 (by omega) R1 t0
      refine ⟨_, ?_, R11, (KF_tr K0 (KF_tr K1 L1))⟩
      · unfold F_X8_readsStatement
        rw [en, Option.bind_some, if_neg (show ¬ (117 : Int32) = 100 by decide), if_neg (show ¬ (117 : Int32) = 112 by decide), if_neg (show ¬ (117 : Int32) = 114 by decide), if_pos (show (117 : Int32) = 117 from rfl), b1, bd2_s, if_neg i10, takes_n R11 h2 (by decide), bd2_s, if_pos rfl]
  by_cases h3 : dg T z (q1 + 1)
  rotate_left
  · refine Or.inl ⟨q1 + 1, by omega, fun d σ C => ?_, fun d ρ R => ?_⟩
    · have en := next_c C
      rw [if_pos hp, hL] at en
      have C0 := CS_o (CS_o (CS_o (CS_o (CS_o C (j := 3) (v := 117) (by omega)) (j := 4) (v := 0) (by omega)) (j := 5) (v := 0) (by omega)) (j := 6) (v := 0) (by omega)) (j := 7) (v := 0) (by omega)
      have F3 : (stm (stm (stm (stm (stm σ 85 3 117) 85 4 0) 85 5 0) 85 6 0) 85 7 0) 85 3 = 117 := by simp only [stm_row]; simp (disch := omega) only [upd_ne, upd_at]
      obtain ⟨C1, K1⟩ := CS_at C0 hp
      obtain ⟨s1, a1, E1, k1⟩ := cl1 d _ C1
      have D2 := CS_o E1 (j := 4) (v := (nI va)) (by omega)
      obtain ⟨s3, a3, E3, k3⟩ := want_y D2 h2
      obtain ⟨s4, a4, E4, k4⟩ := digit_n E3 h3
      have D5 := CS_o E4 (j := 5) (v := 0) (by omega)
      have a6 := skips_b (s := 108) D5
      have D7 := CS_o D5 (j := 7) (v := 0) (by omega)
      have a8 := skips_b (s := 119) D7
      obtain ⟨s9, a9, E9, k9⟩ := want_b (s := 59) D7
      refine ⟨_, ?_, E9, fun i hi => ?_⟩
      · unfold F_X3_readStatement
        rw [en, Option.bind_some, F3, if_neg (show ¬ (117 : Int32) = 100 by decide), if_neg (show ¬ (117 : Int32) = 112 by decide), if_neg (show ¬ (117 : Int32) = 114 by decide), if_pos (show (117 : Int32) = 117 from rfl)]
        unfold F_X3_readCart
        rw [a1, bd2_s, a3, Option.bind_some, a4, bd2_s, a6, bd2_s, ck_t _ (by decide), a8, bd2_s, if_pos rfl, Option.bind_some, a9, Option.bind_some]
      · rw [k9.1 i hi, stm_ne _ _ _ hi, stm_ne _ _ _ hi, k4.1 i hi, k3.1 i hi, stm_ne _ _ _ hi, k1.1 i hi, K1.1 i hi, stm_ne _ _ _ hi, stm_ne _ _ _ hi, stm_ne _ _ _ hi, stm_ne _ _ _ hi, stm_ne _ _ _ hi]
    · have en := here_r R
      rw [if_pos hp, hL] at en
      obtain ⟨R0, K0⟩ := RS_t R (v := 0)
      obtain ⟨R1, K1⟩ := RS_at R0 hp
      have t0 : (stm (stm ρ 91 15 0) 91 12 (stm ρ 91 15 0 91 12 + 1)) 91 15 = nI 0 := by rw [stm_row, upd_ne _ _ (by omega), stm_row, upd_at]; rfl
      obtain ⟨r1, b1, R11, L1, u1, t1⟩ := rf1 d _ 0 (by omega) R1 t0
      obtain ⟨r2, b2, R12, L2, u2, t2⟩ := takes_y R11 h2
      have t2 := t2.trans t1
      refine ⟨_, ?_, R12, (KF_tr K0 (KF_tr K1 (KF_tr L1 L2)))⟩
      · unfold F_X8_readsStatement
        rw [en, Option.bind_some, if_neg (show ¬ (117 : Int32) = 100 by decide), if_neg (show ¬ (117 : Int32) = 112 by decide), if_neg (show ¬ (117 : Int32) = 114 by decide), if_pos (show (117 : Int32) = 117 from rfl), b1, bd2_s, if_neg i10, b2, bd2_s, if_neg i10, readsD_n R12 h3, bd2_s, if_pos rfl]
  have b2 := (dv_e h3).2.1
  by_cases h4 : sg T z (q1 + 2) 108
  · by_cases h5 : sg T z (q1 + 3) 119
    · by_cases h6 : dg T z (q1 + 4)
      rotate_left
      · refine Or.inl ⟨q1 + 4, by omega, fun d σ C => ?_, fun d ρ R => ?_⟩
        · have en := next_c C
          rw [if_pos hp, hL] at en
          have C0 := CS_o (CS_o (CS_o (CS_o (CS_o C (j := 3) (v := 117) (by omega)) (j := 4) (v := 0) (by omega)) (j := 5) (v := 0) (by omega)) (j := 6) (v := 0) (by omega)) (j := 7) (v := 0) (by omega)
          have F3 : (stm (stm (stm (stm (stm σ 85 3 117) 85 4 0) 85 5 0) 85 6 0) 85 7 0) 85 3 = 117 := by simp only [stm_row]; simp (disch := omega) only [upd_ne, upd_at]
          obtain ⟨C1, K1⟩ := CS_at C0 hp
          obtain ⟨s1, a1, E1, k1⟩ := cl1 d _ C1
          have D2 := CS_o E1 (j := 4) (v := (nI va)) (by omega)
          obtain ⟨s3, a3, E3, k3⟩ := want_y D2 h2
          obtain ⟨s4, a4, E4, k4⟩ := digit_y E3 h3
          have D5 := CS_o E4 (j := 5) (v := (nI (dv T (q1 + 1)))) (by omega)
          obtain ⟨s6, a6, E6, k6⟩ := skips_y D5 h4
          have D7 := CS_o E6 (j := 7) (v := 1) (by omega)
          obtain ⟨s8, a8, E8, k8⟩ := skips_y D7 h5
          obtain ⟨s9, a9, E9, k9⟩ := numb_n E8 h6
          have D10 := CS_o E9 (j := 6) (v := 0) (by omega)
          obtain ⟨s11, a11, E11, k11⟩ := want_b (s := 59) D10
          refine ⟨_, ?_, E11, fun i hi => ?_⟩
          · unfold F_X3_readStatement
            rw [en, Option.bind_some, F3, if_neg (show ¬ (117 : Int32) = 100 by decide), if_neg (show ¬ (117 : Int32) = 112 by decide), if_neg (show ¬ (117 : Int32) = 114 by decide), if_pos (show (117 : Int32) = 117 from rfl)]
            unfold F_X3_readCart
            rw [a1, bd2_s, a3, Option.bind_some, a4, bd2_s, a6, bd2_s, ck_t _ (by decide), a8, bd2_s, if_neg i10, a9, bd2_s, Option.bind_some, a11, Option.bind_some]
          · rw [k11.1 i hi, stm_ne _ _ _ hi, k9.1 i hi, k8.1 i hi, stm_ne _ _ _ hi, k6.1 i hi, stm_ne _ _ _ hi, k4.1 i hi, k3.1 i hi, stm_ne _ _ _ hi, k1.1 i hi, K1.1 i hi, stm_ne _ _ _ hi, stm_ne _ _ _ hi, stm_ne _ _ _ hi, stm_ne _ _ _ hi, stm_ne _ _ _ hi]
        · have en := here_r R
          rw [if_pos hp, hL] at en
          obtain ⟨R0, K0⟩ := RS_t R (v := 0)
          obtain ⟨R1, K1⟩ := RS_at R0 hp
          have t0 : (stm (stm ρ 91 15 0) 91 12 (stm ρ 91 15 0 91 12 + 1)) 91 15 = nI 0 := by rw [stm_row, upd_ne _ _ (by omega), stm_row, upd_at]; rfl
          obtain ⟨r1, b1, R11, L1, u1, t1⟩ := rf1 d _ 0 (by omega) R1 t0
          obtain ⟨r2, b2, R12, L2, u2, t2⟩ := takes_y R11 h2
          have t2 := t2.trans t1
          obtain ⟨r3, b3, R13, L3, u3, t3⟩ := readsD_y R12 h3 (by omega) t2
          obtain ⟨r4, b4, R14, L4, u4, t4⟩ := takes_y R13 h4
          have t4 := t4.trans t3
          obtain ⟨R15, L5⟩ := RS_o R14 (j := 2) (v := 1)
          have t5 : stm r4 102 2 1 91 15 = nI 2 := by rw [stm_ne _ _ _ (by omega)]; exact t4
          obtain ⟨R16, L6⟩ := RS_o R15 (j := 3) (v := 0)
          have t6 : stm (stm r4 102 2 1) 102 3 0 91 15 = nI 2 := by rw [stm_ne _ _ _ (by omega)]; exact t5
          obtain ⟨R17, L7⟩ := RS_t R16 (v := 3)
          have t7 : stm (stm (stm r4 102 2 1) 102 3 0) 91 15 3 91 15 = nI 3 := by rw [stm_row, upd_at]; rfl
          obtain ⟨r8, b8, R18, L8, u8, t8⟩ := takes_y R17 h5
          have t8 := t8.trans t7
          refine ⟨_, ?_, R18, (KF_tr K0 (KF_tr K1 (KF_tr L1 (KF_tr L2 (KF_tr L3 (KF_tr L4 (KF_tr L5 (KF_tr L6 (KF_tr L7 L8)))))))))⟩
          · unfold F_X8_readsStatement
            rw [en, Option.bind_some, if_neg (show ¬ (117 : Int32) = 100 by decide), if_neg (show ¬ (117 : Int32) = 112 by decide), if_neg (show ¬ (117 : Int32) = 114 by decide), if_pos (show (117 : Int32) = 117 from rfl), b1, bd2_s, if_neg i10, b2, bd2_s, if_neg i10, b3, bd2_s, if_neg i10, b4, bd2_s, if_neg i10, b8, bd2_s, if_neg i10, numb_rn R18 h6, bd2_s, if_pos rfl]
      obtain ⟨q2, vb, l2, m2, b3, cl2, rf2⟩ := numb h6 hz
      by_cases hq : sg T z q2 59
      rotate_left
      · refine Or.inl ⟨q2, by omega, fun d σ C => ?_, fun d ρ R => ?_⟩
        · have en := next_c C
          rw [if_pos hp, hL] at en
          have C0 := CS_o (CS_o (CS_o (CS_o (CS_o C (j := 3) (v := 117) (by omega)) (j := 4) (v := 0) (by omega)) (j := 5) (v := 0) (by omega)) (j := 6) (v := 0) (by omega)) (j := 7) (v := 0) (by omega)
          have F3 : (stm (stm (stm (stm (stm σ 85 3 117) 85 4 0) 85 5 0) 85 6 0) 85 7 0) 85 3 = 117 := by simp only [stm_row]; simp (disch := omega) only [upd_ne, upd_at]
          obtain ⟨C1, K1⟩ := CS_at C0 hp
          obtain ⟨s1, a1, E1, k1⟩ := cl1 d _ C1
          have D2 := CS_o E1 (j := 4) (v := (nI va)) (by omega)
          obtain ⟨s3, a3, E3, k3⟩ := want_y D2 h2
          obtain ⟨s4, a4, E4, k4⟩ := digit_y E3 h3
          have D5 := CS_o E4 (j := 5) (v := (nI (dv T (q1 + 1)))) (by omega)
          obtain ⟨s6, a6, E6, k6⟩ := skips_y D5 h4
          have D7 := CS_o E6 (j := 7) (v := 1) (by omega)
          obtain ⟨s8, a8, E8, k8⟩ := skips_y D7 h5
          obtain ⟨s9, a9, E9, k9⟩ := cl2 d _ E8
          have D10 := CS_o E9 (j := 6) (v := (nI vb)) (by omega)
          obtain ⟨s11, a11, E11, k11⟩ := want_n D10 hq (by decide)
          refine ⟨_, ?_, E11, fun i hi => ?_⟩
          · unfold F_X3_readStatement
            rw [en, Option.bind_some, F3, if_neg (show ¬ (117 : Int32) = 100 by decide), if_neg (show ¬ (117 : Int32) = 112 by decide), if_neg (show ¬ (117 : Int32) = 114 by decide), if_pos (show (117 : Int32) = 117 from rfl)]
            unfold F_X3_readCart
            rw [a1, bd2_s, a3, Option.bind_some, a4, bd2_s, a6, bd2_s, ck_t _ (by decide), a8, bd2_s, if_neg i10, a9, bd2_s, Option.bind_some, a11, Option.bind_some]
          · rw [k11.1 i hi, stm_ne _ _ _ hi, k9.1 i hi, k8.1 i hi, stm_ne _ _ _ hi, k6.1 i hi, stm_ne _ _ _ hi, k4.1 i hi, k3.1 i hi, stm_ne _ _ _ hi, k1.1 i hi, K1.1 i hi, stm_ne _ _ _ hi, stm_ne _ _ _ hi, stm_ne _ _ _ hi, stm_ne _ _ _ hi, stm_ne _ _ _ hi]
        · have en := here_r R
          rw [if_pos hp, hL] at en
          obtain ⟨R0, K0⟩ := RS_t R (v := 0)
          obtain ⟨R1, K1⟩ := RS_at R0 hp
          have t0 : (stm (stm ρ 91 15 0) 91 12 (stm ρ 91 15 0 91 12 + 1)) 91 15 = nI 0 := by rw [stm_row, upd_ne _ _ (by omega), stm_row, upd_at]; rfl
          obtain ⟨r1, b1, R11, L1, u1, t1⟩ := rf1 d _ 0 (by omega) R1 t0
          obtain ⟨r2, b2, R12, L2, u2, t2⟩ := takes_y R11 h2
          have t2 := t2.trans t1
          obtain ⟨r3, b3, R13, L3, u3, t3⟩ := readsD_y R12 h3 (by omega) t2
          obtain ⟨r4, b4, R14, L4, u4, t4⟩ := takes_y R13 h4
          have t4 := t4.trans t3
          obtain ⟨R15, L5⟩ := RS_o R14 (j := 2) (v := 1)
          have t5 : stm r4 102 2 1 91 15 = nI 2 := by rw [stm_ne _ _ _ (by omega)]; exact t4
          obtain ⟨R16, L6⟩ := RS_o R15 (j := 3) (v := 0)
          have t6 : stm (stm r4 102 2 1) 102 3 0 91 15 = nI 2 := by rw [stm_ne _ _ _ (by omega)]; exact t5
          obtain ⟨R17, L7⟩ := RS_t R16 (v := 3)
          have t7 : stm (stm (stm r4 102 2 1) 102 3 0) 91 15 3 91 15 = nI 3 := by rw [stm_row, upd_at]; rfl
          obtain ⟨r8, b8, R18, L8, u8, t8⟩ := takes_y R17 h5
          have t8 := t8.trans t7
          obtain ⟨r9, b9, R19, L9, u9, t9⟩ := rf2 d _ 3 (by omega) R18 t8
          refine ⟨_, ?_, R19, (KF_tr K0 (KF_tr K1 (KF_tr L1 (KF_tr L2 (KF_tr L3 (KF_tr L4 (KF_tr L5 (KF_tr L6 (KF_tr L7 (KF_tr L8 L9))))))))))⟩
          · unfold F_X8_readsStatement
            rw [en, Option.bind_some, if_neg (show ¬ (117 : Int32) = 100 by decide), if_neg (show ¬ (117 : Int32) = 112 by decide), if_neg (show ¬ (117 : Int32) = 114 by decide), if_pos (show (117 : Int32) = 117 from rfl), b1, bd2_s, if_neg i10, b2, bd2_s, if_neg i10, b3, bd2_s, if_neg i10, b4, bd2_s, if_neg i10, b8, bd2_s, if_neg i10, b9, bd2_s, if_neg i10, takes_n R19 hq (by decide), bd2_s, ck_t _ (by decide)]
      · refine Or.inr ⟨q2 + 1, 117, va, dv T (q1 + 1), vb, 1, ⟨by omega, by have := hq.1; omega, hp, hL, Or.inr ⟨Or.inl rfl, b1, b2, b3, by omega⟩⟩, fun d σ C => ?_, fun d ρ R => ?_⟩
        · have en := next_c C
          rw [if_pos hp, hL] at en
          have C0 := CS_o (CS_o (CS_o (CS_o (CS_o C (j := 3) (v := 117) (by omega)) (j := 4) (v := 0) (by omega)) (j := 5) (v := 0) (by omega)) (j := 6) (v := 0) (by omega)) (j := 7) (v := 0) (by omega)
          have F3 : (stm (stm (stm (stm (stm σ 85 3 117) 85 4 0) 85 5 0) 85 6 0) 85 7 0) 85 3 = 117 := by simp only [stm_row]; simp (disch := omega) only [upd_ne, upd_at]
          obtain ⟨C1, K1⟩ := CS_at C0 hp
          obtain ⟨s1, a1, E1, k1⟩ := cl1 d _ C1
          have D2 := CS_o E1 (j := 4) (v := (nI va)) (by omega)
          obtain ⟨s3, a3, E3, k3⟩ := want_y D2 h2
          obtain ⟨s4, a4, E4, k4⟩ := digit_y E3 h3
          have D5 := CS_o E4 (j := 5) (v := (nI (dv T (q1 + 1)))) (by omega)
          obtain ⟨s6, a6, E6, k6⟩ := skips_y D5 h4
          have D7 := CS_o E6 (j := 7) (v := 1) (by omega)
          obtain ⟨s8, a8, E8, k8⟩ := skips_y D7 h5
          obtain ⟨s9, a9, E9, k9⟩ := cl2 d _ E8
          have D10 := CS_o E9 (j := 6) (v := (nI vb)) (by omega)
          obtain ⟨s11, a11, E11, k11⟩ := want_y D10 hq
          refine ⟨_, ?_, E11, fun i hi => ?_, ?_, ?_, ?_, ?_, ?_⟩
          · unfold F_X3_readStatement
            rw [en, Option.bind_some, F3, if_neg (show ¬ (117 : Int32) = 100 by decide), if_neg (show ¬ (117 : Int32) = 112 by decide), if_neg (show ¬ (117 : Int32) = 114 by decide), if_pos (show (117 : Int32) = 117 from rfl)]
            unfold F_X3_readCart
            rw [a1, bd2_s, a3, Option.bind_some, a4, bd2_s, a6, bd2_s, ck_t _ (by decide), a8, bd2_s, if_neg i10, a9, bd2_s, Option.bind_some, a11, Option.bind_some]
          · rw [k11.1 i hi, stm_ne _ _ _ hi, k9.1 i hi, k8.1 i hi, stm_ne _ _ _ hi, k6.1 i hi, stm_ne _ _ _ hi, k4.1 i hi, k3.1 i hi, stm_ne _ _ _ hi, k1.1 i hi, K1.1 i hi, stm_ne _ _ _ hi, stm_ne _ _ _ hi, stm_ne _ _ _ hi, stm_ne _ _ _ hi, stm_ne _ _ _ hi]
          · rw [k11.2 3 (by omega) (by omega), stm_row, upd_ne _ _ (by omega), k9.2 3 (by omega) (by omega), k8.2 3 (by omega) (by omega), stm_row, upd_ne _ _ (by omega), k6.2 3 (by omega) (by omega), stm_row, upd_ne _ _ (by omega), k4.2 3 (by omega) (by omega), k3.2 3 (by omega) (by omega), stm_row, upd_ne _ _ (by omega), k1.2 3 (by omega) (by omega), K1.2 3 (by omega) (by omega)]; simp only [stm_row]; simp (disch := omega) only [upd_ne, upd_at]
          · rw [k11.2 4 (by omega) (by omega), stm_row, upd_ne _ _ (by omega), k9.2 4 (by omega) (by omega), k8.2 4 (by omega) (by omega), stm_row, upd_ne _ _ (by omega), k6.2 4 (by omega) (by omega), stm_row, upd_ne _ _ (by omega), k4.2 4 (by omega) (by omega), k3.2 4 (by omega) (by omega), stm_row, upd_at]
          · rw [k11.2 5 (by omega) (by omega), stm_row, upd_ne _ _ (by omega), k9.2 5 (by omega) (by omega), k8.2 5 (by omega) (by omega), stm_row, upd_ne _ _ (by omega), k6.2 5 (by omega) (by omega), stm_row, upd_at]
          · rw [k11.2 6 (by omega) (by omega), stm_row, upd_at]
          · rw [k11.2 7 (by omega) (by omega), stm_row, upd_ne _ _ (by omega), k9.2 7 (by omega) (by omega), k8.2 7 (by omega) (by omega), stm_row, upd_at]; rfl
        · have en := here_r R
          rw [if_pos hp, hL] at en
          obtain ⟨R0, K0⟩ := RS_t R (v := 0)
          obtain ⟨R1, K1⟩ := RS_at R0 hp
          have t0 : (stm (stm ρ 91 15 0) 91 12 (stm ρ 91 15 0 91 12 + 1)) 91 15 = nI 0 := by rw [stm_row, upd_ne _ _ (by omega), stm_row, upd_at]; rfl
          obtain ⟨r1, b1, R11, L1, u1, t1⟩ := rf1 d _ 0 (by omega) R1 t0
          obtain ⟨r2, b2, R12, L2, u2, t2⟩ := takes_y R11 h2
          have t2 := t2.trans t1
          obtain ⟨r3, b3, R13, L3, u3, t3⟩ := readsD_y R12 h3 (by omega) t2
          obtain ⟨r4, b4, R14, L4, u4, t4⟩ := takes_y R13 h4
          have t4 := t4.trans t3
          obtain ⟨R15, L5⟩ := RS_o R14 (j := 2) (v := 1)
          have t5 : stm r4 102 2 1 91 15 = nI 2 := by rw [stm_ne _ _ _ (by omega)]; exact t4
          obtain ⟨R16, L6⟩ := RS_o R15 (j := 3) (v := 0)
          have t6 : stm (stm r4 102 2 1) 102 3 0 91 15 = nI 2 := by rw [stm_ne _ _ _ (by omega)]; exact t5
          obtain ⟨R17, L7⟩ := RS_t R16 (v := 3)
          have t7 : stm (stm (stm r4 102 2 1) 102 3 0) 91 15 3 91 15 = nI 3 := by rw [stm_row, upd_at]; rfl
          obtain ⟨r8, b8, R18, L8, u8, t8⟩ := takes_y R17 h5
          have t8 := t8.trans t7
          obtain ⟨r9, b9, R19, L9, u9, t9⟩ := rf2 d _ 3 (by omega) R18 t8
          obtain ⟨r10, b10, R20, L10, u10, t10⟩ := takes_y R19 hq
          have t10 := t10.trans t9
          refine ⟨_, ?_, R20, (KF_tr K0 (KF_tr K1 (KF_tr L1 (KF_tr L2 (KF_tr L3 (KF_tr L4 (KF_tr L5 (KF_tr L6 (KF_tr L7 (KF_tr L8 (KF_tr L9 L10))))))))))), ?_, ?_, ?_, ?_⟩
          · unfold F_X8_readsStatement
            rw [en, Option.bind_some, if_neg (show ¬ (117 : Int32) = 100 by decide), if_neg (show ¬ (117 : Int32) = 112 by decide), if_neg (show ¬ (117 : Int32) = 114 by decide), if_pos (show (117 : Int32) = 117 from rfl), b1, bd2_s, if_neg i10, b2, bd2_s, if_neg i10, b3, bd2_s, if_neg i10, b4, bd2_s, if_neg i10, b8, bd2_s, if_neg i10, b9, bd2_s, if_neg i10, b10, bd2_s, ck_t _ (by decide)]
          · rw [u10, u9, upd_ne _ _ (by omega), u8, stm_ne _ _ _ (by omega), stm_row, upd_ne _ _ (by omega), stm_row, upd_ne _ _ (by omega), u4, u3, upd_ne _ _ (by omega), u2, u1, upd_at]
          · rw [u10, u9, upd_ne _ _ (by omega), u8, stm_ne _ _ _ (by omega), stm_row, upd_ne _ _ (by omega), stm_row, upd_ne _ _ (by omega), u4, u3, upd_at]
          · intro q; exact absurd q (by decide)
          · intro _
            refine ⟨?_, ?_⟩
            · rw [u10, u9, upd_ne _ _ (by omega), u8, stm_ne _ _ _ (by omega), stm_row, upd_ne _ _ (by omega), stm_row, upd_at]; rfl
            · rw [u10, u9, upd_at]
    · by_cases hq : sg T z (q1 + 3) 59
      rotate_left
      · refine Or.inl ⟨q1 + 3, by omega, fun d σ C => ?_, fun d ρ R => ?_⟩
        · have en := next_c C
          rw [if_pos hp, hL] at en
          have C0 := CS_o (CS_o (CS_o (CS_o (CS_o C (j := 3) (v := 117) (by omega)) (j := 4) (v := 0) (by omega)) (j := 5) (v := 0) (by omega)) (j := 6) (v := 0) (by omega)) (j := 7) (v := 0) (by omega)
          have F3 : (stm (stm (stm (stm (stm σ 85 3 117) 85 4 0) 85 5 0) 85 6 0) 85 7 0) 85 3 = 117 := by simp only [stm_row]; simp (disch := omega) only [upd_ne, upd_at]
          obtain ⟨C1, K1⟩ := CS_at C0 hp
          obtain ⟨s1, a1, E1, k1⟩ := cl1 d _ C1
          have D2 := CS_o E1 (j := 4) (v := (nI va)) (by omega)
          obtain ⟨s3, a3, E3, k3⟩ := want_y D2 h2
          obtain ⟨s4, a4, E4, k4⟩ := digit_y E3 h3
          have D5 := CS_o E4 (j := 5) (v := (nI (dv T (q1 + 1)))) (by omega)
          obtain ⟨s6, a6, E6, k6⟩ := skips_y D5 h4
          have D7 := CS_o E6 (j := 7) (v := 1) (by omega)
          have a8 := skips_n D7 h5 (by decide)
          obtain ⟨s9, a9, E9, k9⟩ := want_n D7 hq (by decide)
          refine ⟨_, ?_, E9, fun i hi => ?_⟩
          · unfold F_X3_readStatement
            rw [en, Option.bind_some, F3, if_neg (show ¬ (117 : Int32) = 100 by decide), if_neg (show ¬ (117 : Int32) = 112 by decide), if_neg (show ¬ (117 : Int32) = 114 by decide), if_pos (show (117 : Int32) = 117 from rfl)]
            unfold F_X3_readCart
            rw [a1, bd2_s, a3, Option.bind_some, a4, bd2_s, a6, bd2_s, ck_t _ (by decide), a8, bd2_s, if_pos rfl, Option.bind_some, a9, Option.bind_some]
          · rw [k9.1 i hi, stm_ne _ _ _ hi, k6.1 i hi, stm_ne _ _ _ hi, k4.1 i hi, k3.1 i hi, stm_ne _ _ _ hi, k1.1 i hi, K1.1 i hi, stm_ne _ _ _ hi, stm_ne _ _ _ hi, stm_ne _ _ _ hi, stm_ne _ _ _ hi, stm_ne _ _ _ hi]
        · have en := here_r R
          rw [if_pos hp, hL] at en
          obtain ⟨R0, K0⟩ := RS_t R (v := 0)
          obtain ⟨R1, K1⟩ := RS_at R0 hp
          have t0 : (stm (stm ρ 91 15 0) 91 12 (stm ρ 91 15 0 91 12 + 1)) 91 15 = nI 0 := by rw [stm_row, upd_ne _ _ (by omega), stm_row, upd_at]; rfl
          obtain ⟨r1, b1, R11, L1, u1, t1⟩ := rf1 d _ 0 (by omega) R1 t0
          obtain ⟨r2, b2, R12, L2, u2, t2⟩ := takes_y R11 h2
          have t2 := t2.trans t1
          obtain ⟨r3, b3, R13, L3, u3, t3⟩ := readsD_y R12 h3 (by omega) t2
          obtain ⟨r4, b4, R14, L4, u4, t4⟩ := takes_y R13 h4
          have t4 := t4.trans t3
          obtain ⟨R15, L5⟩ := RS_o R14 (j := 2) (v := 1)
          have t5 : stm r4 102 2 1 91 15 = nI 2 := by rw [stm_ne _ _ _ (by omega)]; exact t4
          obtain ⟨R16, L6⟩ := RS_o R15 (j := 3) (v := 0)
          have t6 : stm (stm r4 102 2 1) 102 3 0 91 15 = nI 2 := by rw [stm_ne _ _ _ (by omega)]; exact t5
          obtain ⟨R17, L7⟩ := RS_t R16 (v := 3)
          have t7 : stm (stm (stm r4 102 2 1) 102 3 0) 91 15 3 91 15 = nI 3 := by rw [stm_row, upd_at]; rfl
          refine ⟨_, ?_, R17, (KF_tr K0 (KF_tr K1 (KF_tr L1 (KF_tr L2 (KF_tr L3 (KF_tr L4 (KF_tr L5 (KF_tr L6 L7))))))))⟩
          · unfold F_X8_readsStatement
            rw [en, Option.bind_some, if_neg (show ¬ (117 : Int32) = 100 by decide), if_neg (show ¬ (117 : Int32) = 112 by decide), if_neg (show ¬ (117 : Int32) = 114 by decide), if_pos (show (117 : Int32) = 117 from rfl), b1, bd2_s, if_neg i10, b2, bd2_s, if_neg i10, b3, bd2_s, if_neg i10, b4, bd2_s, if_neg i10, takes_n R17 h5 (by decide), bd2_s, if_pos rfl, takes_n R17 hq (by decide), bd2_s, ck_t _ (by decide)]
      · refine Or.inr ⟨q1 + 4, 117, va, dv T (q1 + 1), 0, 1, ⟨by omega, by have := hq.1; omega, hp, hL, Or.inr ⟨Or.inl rfl, b1, b2, by omega, by omega⟩⟩, fun d σ C => ?_, fun d ρ R => ?_⟩
        · have en := next_c C
          rw [if_pos hp, hL] at en
          have C0 := CS_o (CS_o (CS_o (CS_o (CS_o C (j := 3) (v := 117) (by omega)) (j := 4) (v := 0) (by omega)) (j := 5) (v := 0) (by omega)) (j := 6) (v := 0) (by omega)) (j := 7) (v := 0) (by omega)
          have F3 : (stm (stm (stm (stm (stm σ 85 3 117) 85 4 0) 85 5 0) 85 6 0) 85 7 0) 85 3 = 117 := by simp only [stm_row]; simp (disch := omega) only [upd_ne, upd_at]
          obtain ⟨C1, K1⟩ := CS_at C0 hp
          obtain ⟨s1, a1, E1, k1⟩ := cl1 d _ C1
          have D2 := CS_o E1 (j := 4) (v := (nI va)) (by omega)
          obtain ⟨s3, a3, E3, k3⟩ := want_y D2 h2
          obtain ⟨s4, a4, E4, k4⟩ := digit_y E3 h3
          have D5 := CS_o E4 (j := 5) (v := (nI (dv T (q1 + 1)))) (by omega)
          obtain ⟨s6, a6, E6, k6⟩ := skips_y D5 h4
          have D7 := CS_o E6 (j := 7) (v := 1) (by omega)
          have a8 := skips_n D7 h5 (by decide)
          obtain ⟨s9, a9, E9, k9⟩ := want_y D7 hq
          refine ⟨_, ?_, E9, fun i hi => ?_, ?_, ?_, ?_, ?_, ?_⟩
          · unfold F_X3_readStatement
            rw [en, Option.bind_some, F3, if_neg (show ¬ (117 : Int32) = 100 by decide), if_neg (show ¬ (117 : Int32) = 112 by decide), if_neg (show ¬ (117 : Int32) = 114 by decide), if_pos (show (117 : Int32) = 117 from rfl)]
            unfold F_X3_readCart
            rw [a1, bd2_s, a3, Option.bind_some, a4, bd2_s, a6, bd2_s, ck_t _ (by decide), a8, bd2_s, if_pos rfl, Option.bind_some, a9, Option.bind_some]
          · rw [k9.1 i hi, stm_ne _ _ _ hi, k6.1 i hi, stm_ne _ _ _ hi, k4.1 i hi, k3.1 i hi, stm_ne _ _ _ hi, k1.1 i hi, K1.1 i hi, stm_ne _ _ _ hi, stm_ne _ _ _ hi, stm_ne _ _ _ hi, stm_ne _ _ _ hi, stm_ne _ _ _ hi]
          · rw [k9.2 3 (by omega) (by omega), stm_row, upd_ne _ _ (by omega), k6.2 3 (by omega) (by omega), stm_row, upd_ne _ _ (by omega), k4.2 3 (by omega) (by omega), k3.2 3 (by omega) (by omega), stm_row, upd_ne _ _ (by omega), k1.2 3 (by omega) (by omega), K1.2 3 (by omega) (by omega)]; simp only [stm_row]; simp (disch := omega) only [upd_ne, upd_at]
          · rw [k9.2 4 (by omega) (by omega), stm_row, upd_ne _ _ (by omega), k6.2 4 (by omega) (by omega), stm_row, upd_ne _ _ (by omega), k4.2 4 (by omega) (by omega), k3.2 4 (by omega) (by omega), stm_row, upd_at]
          · rw [k9.2 5 (by omega) (by omega), stm_row, upd_ne _ _ (by omega), k6.2 5 (by omega) (by omega), stm_row, upd_at]
          · rw [k9.2 6 (by omega) (by omega), stm_row, upd_ne _ _ (by omega), k6.2 6 (by omega) (by omega), stm_row, upd_ne _ _ (by omega), k4.2 6 (by omega) (by omega), k3.2 6 (by omega) (by omega), stm_row, upd_ne _ _ (by omega), k1.2 6 (by omega) (by omega), K1.2 6 (by omega) (by omega)]; simp only [stm_row]; simp (disch := omega) only [upd_ne, upd_at]; rfl
          · rw [k9.2 7 (by omega) (by omega), stm_row, upd_at]; rfl
        · have en := here_r R
          rw [if_pos hp, hL] at en
          obtain ⟨R0, K0⟩ := RS_t R (v := 0)
          obtain ⟨R1, K1⟩ := RS_at R0 hp
          have t0 : (stm (stm ρ 91 15 0) 91 12 (stm ρ 91 15 0 91 12 + 1)) 91 15 = nI 0 := by rw [stm_row, upd_ne _ _ (by omega), stm_row, upd_at]; rfl
          obtain ⟨r1, b1, R11, L1, u1, t1⟩ := rf1 d _ 0 (by omega) R1 t0
          obtain ⟨r2, b2, R12, L2, u2, t2⟩ := takes_y R11 h2
          have t2 := t2.trans t1
          obtain ⟨r3, b3, R13, L3, u3, t3⟩ := readsD_y R12 h3 (by omega) t2
          obtain ⟨r4, b4, R14, L4, u4, t4⟩ := takes_y R13 h4
          have t4 := t4.trans t3
          obtain ⟨R15, L5⟩ := RS_o R14 (j := 2) (v := 1)
          have t5 : stm r4 102 2 1 91 15 = nI 2 := by rw [stm_ne _ _ _ (by omega)]; exact t4
          obtain ⟨R16, L6⟩ := RS_o R15 (j := 3) (v := 0)
          have t6 : stm (stm r4 102 2 1) 102 3 0 91 15 = nI 2 := by rw [stm_ne _ _ _ (by omega)]; exact t5
          obtain ⟨R17, L7⟩ := RS_t R16 (v := 3)
          have t7 : stm (stm (stm r4 102 2 1) 102 3 0) 91 15 3 91 15 = nI 3 := by rw [stm_row, upd_at]; rfl
          obtain ⟨r8, b8, R18, L8, u8, t8⟩ := takes_y R17 hq
          have t8 := t8.trans t7
          refine ⟨_, ?_, R18, (KF_tr K0 (KF_tr K1 (KF_tr L1 (KF_tr L2 (KF_tr L3 (KF_tr L4 (KF_tr L5 (KF_tr L6 (KF_tr L7 L8))))))))), ?_, ?_, ?_, ?_⟩
          · unfold F_X8_readsStatement
            rw [en, Option.bind_some, if_neg (show ¬ (117 : Int32) = 100 by decide), if_neg (show ¬ (117 : Int32) = 112 by decide), if_neg (show ¬ (117 : Int32) = 114 by decide), if_pos (show (117 : Int32) = 117 from rfl), b1, bd2_s, if_neg i10, b2, bd2_s, if_neg i10, b3, bd2_s, if_neg i10, b4, bd2_s, if_neg i10, takes_n R17 h5 (by decide), bd2_s, if_pos rfl, b8, bd2_s, ck_t _ (by decide)]
          · rw [u8, stm_ne _ _ _ (by omega), stm_row, upd_ne _ _ (by omega), stm_row, upd_ne _ _ (by omega), u4, u3, upd_ne _ _ (by omega), u2, u1, upd_at]
          · rw [u8, stm_ne _ _ _ (by omega), stm_row, upd_ne _ _ (by omega), stm_row, upd_ne _ _ (by omega), u4, u3, upd_at]
          · intro q; exact absurd q (by decide)
          · intro _
            refine ⟨?_, ?_⟩
            · rw [u8, stm_ne _ _ _ (by omega), stm_row, upd_ne _ _ (by omega), stm_row, upd_at]; rfl
            · rw [u8, stm_ne _ _ _ (by omega), stm_row, upd_at]; rfl
  · by_cases h5 : sg T z (q1 + 2) 119
    · by_cases h6 : dg T z (q1 + 3)
      rotate_left
      · refine Or.inl ⟨q1 + 3, by omega, fun d σ C => ?_, fun d ρ R => ?_⟩
        · have en := next_c C
          rw [if_pos hp, hL] at en
          have C0 := CS_o (CS_o (CS_o (CS_o (CS_o C (j := 3) (v := 117) (by omega)) (j := 4) (v := 0) (by omega)) (j := 5) (v := 0) (by omega)) (j := 6) (v := 0) (by omega)) (j := 7) (v := 0) (by omega)
          have F3 : (stm (stm (stm (stm (stm σ 85 3 117) 85 4 0) 85 5 0) 85 6 0) 85 7 0) 85 3 = 117 := by simp only [stm_row]; simp (disch := omega) only [upd_ne, upd_at]
          obtain ⟨C1, K1⟩ := CS_at C0 hp
          obtain ⟨s1, a1, E1, k1⟩ := cl1 d _ C1
          have D2 := CS_o E1 (j := 4) (v := (nI va)) (by omega)
          obtain ⟨s3, a3, E3, k3⟩ := want_y D2 h2
          obtain ⟨s4, a4, E4, k4⟩ := digit_y E3 h3
          have D5 := CS_o E4 (j := 5) (v := (nI (dv T (q1 + 1)))) (by omega)
          have a6 := skips_n D5 h4 (by decide)
          have D7 := CS_o D5 (j := 7) (v := 0) (by omega)
          obtain ⟨s8, a8, E8, k8⟩ := skips_y D7 h5
          obtain ⟨s9, a9, E9, k9⟩ := numb_n E8 h6
          have D10 := CS_o E9 (j := 6) (v := 0) (by omega)
          obtain ⟨s11, a11, E11, k11⟩ := want_b (s := 59) D10
          refine ⟨_, ?_, E11, fun i hi => ?_⟩
          · unfold F_X3_readStatement
            rw [en, Option.bind_some, F3, if_neg (show ¬ (117 : Int32) = 100 by decide), if_neg (show ¬ (117 : Int32) = 112 by decide), if_neg (show ¬ (117 : Int32) = 114 by decide), if_pos (show (117 : Int32) = 117 from rfl)]
            unfold F_X3_readCart
            rw [a1, bd2_s, a3, Option.bind_some, a4, bd2_s, a6, bd2_s, ck_t _ (by decide), a8, bd2_s, if_neg i10, a9, bd2_s, Option.bind_some, a11, Option.bind_some]
          · rw [k11.1 i hi, stm_ne _ _ _ hi, k9.1 i hi, k8.1 i hi, stm_ne _ _ _ hi, stm_ne _ _ _ hi, k4.1 i hi, k3.1 i hi, stm_ne _ _ _ hi, k1.1 i hi, K1.1 i hi, stm_ne _ _ _ hi, stm_ne _ _ _ hi, stm_ne _ _ _ hi, stm_ne _ _ _ hi, stm_ne _ _ _ hi]
        · have en := here_r R
          rw [if_pos hp, hL] at en
          obtain ⟨R0, K0⟩ := RS_t R (v := 0)
          obtain ⟨R1, K1⟩ := RS_at R0 hp
          have t0 : (stm (stm ρ 91 15 0) 91 12 (stm ρ 91 15 0 91 12 + 1)) 91 15 = nI 0 := by rw [stm_row, upd_ne _ _ (by omega), stm_row, upd_at]; rfl
          obtain ⟨r1, b1, R11, L1, u1, t1⟩ := rf1 d _ 0 (by omega) R1 t0
          obtain ⟨r2, b2, R12, L2, u2, t2⟩ := takes_y R11 h2
          have t2 := t2.trans t1
          obtain ⟨r3, b3, R13, L3, u3, t3⟩ := readsD_y R12 h3 (by omega) t2
          obtain ⟨R14, L4⟩ := RS_o R13 (j := 2) (v := 0)
          have t4 : stm r3 102 2 0 91 15 = nI 2 := by rw [stm_ne _ _ _ (by omega)]; exact t3
          obtain ⟨R15, L5⟩ := RS_o R14 (j := 3) (v := 0)
          have t5 : stm (stm r3 102 2 0) 102 3 0 91 15 = nI 2 := by rw [stm_ne _ _ _ (by omega)]; exact t4
          obtain ⟨R16, L6⟩ := RS_t R15 (v := 3)
          have t6 : stm (stm (stm r3 102 2 0) 102 3 0) 91 15 3 91 15 = nI 3 := by rw [stm_row, upd_at]; rfl
          obtain ⟨r7, b7, R17, L7, u7, t7⟩ := takes_y R16 h5
          have t7 := t7.trans t6
          refine ⟨_, ?_, R17, (KF_tr K0 (KF_tr K1 (KF_tr L1 (KF_tr L2 (KF_tr L3 (KF_tr L4 (KF_tr L5 (KF_tr L6 L7))))))))⟩
          · unfold F_X8_readsStatement
            rw [en, Option.bind_some, if_neg (show ¬ (117 : Int32) = 100 by decide), if_neg (show ¬ (117 : Int32) = 112 by decide), if_neg (show ¬ (117 : Int32) = 114 by decide), if_pos (show (117 : Int32) = 117 from rfl), b1, bd2_s, if_neg i10, b2, bd2_s, if_neg i10, b3, bd2_s, if_neg i10, takes_n R13 h4 (by decide), bd2_s, if_pos rfl, b7, bd2_s, if_neg i10, numb_rn R17 h6, bd2_s, if_pos rfl]
      obtain ⟨q2, vb, l2, m2, b3, cl2, rf2⟩ := numb h6 hz
      by_cases hq : sg T z q2 59
      rotate_left
      · refine Or.inl ⟨q2, by omega, fun d σ C => ?_, fun d ρ R => ?_⟩
        · have en := next_c C
          rw [if_pos hp, hL] at en
          have C0 := CS_o (CS_o (CS_o (CS_o (CS_o C (j := 3) (v := 117) (by omega)) (j := 4) (v := 0) (by omega)) (j := 5) (v := 0) (by omega)) (j := 6) (v := 0) (by omega)) (j := 7) (v := 0) (by omega)
          have F3 : (stm (stm (stm (stm (stm σ 85 3 117) 85 4 0) 85 5 0) 85 6 0) 85 7 0) 85 3 = 117 := by simp only [stm_row]; simp (disch := omega) only [upd_ne, upd_at]
          obtain ⟨C1, K1⟩ := CS_at C0 hp
          obtain ⟨s1, a1, E1, k1⟩ := cl1 d _ C1
          have D2 := CS_o E1 (j := 4) (v := (nI va)) (by omega)
          obtain ⟨s3, a3, E3, k3⟩ := want_y D2 h2
          obtain ⟨s4, a4, E4, k4⟩ := digit_y E3 h3
          have D5 := CS_o E4 (j := 5) (v := (nI (dv T (q1 + 1)))) (by omega)
          have a6 := skips_n D5 h4 (by decide)
          have D7 := CS_o D5 (j := 7) (v := 0) (by omega)
          obtain ⟨s8, a8, E8, k8⟩ := skips_y D7 h5
          obtain ⟨s9, a9, E9, k9⟩ := cl2 d _ E8
          have D10 := CS_o E9 (j := 6) (v := (nI vb)) (by omega)
          obtain ⟨s11, a11, E11, k11⟩ := want_n D10 hq (by decide)
          refine ⟨_, ?_, E11, fun i hi => ?_⟩
          · unfold F_X3_readStatement
            rw [en, Option.bind_some, F3, if_neg (show ¬ (117 : Int32) = 100 by decide), if_neg (show ¬ (117 : Int32) = 112 by decide), if_neg (show ¬ (117 : Int32) = 114 by decide), if_pos (show (117 : Int32) = 117 from rfl)]
            unfold F_X3_readCart
            rw [a1, bd2_s, a3, Option.bind_some, a4, bd2_s, a6, bd2_s, ck_t _ (by decide), a8, bd2_s, if_neg i10, a9, bd2_s, Option.bind_some, a11, Option.bind_some]
          · rw [k11.1 i hi, stm_ne _ _ _ hi, k9.1 i hi, k8.1 i hi, stm_ne _ _ _ hi, stm_ne _ _ _ hi, k4.1 i hi, k3.1 i hi, stm_ne _ _ _ hi, k1.1 i hi, K1.1 i hi, stm_ne _ _ _ hi, stm_ne _ _ _ hi, stm_ne _ _ _ hi, stm_ne _ _ _ hi, stm_ne _ _ _ hi]
        · have en := here_r R
          rw [if_pos hp, hL] at en
          obtain ⟨R0, K0⟩ := RS_t R (v := 0)
          obtain ⟨R1, K1⟩ := RS_at R0 hp
          have t0 : (stm (stm ρ 91 15 0) 91 12 (stm ρ 91 15 0 91 12 + 1)) 91 15 = nI 0 := by rw [stm_row, upd_ne _ _ (by omega), stm_row, upd_at]; rfl
          obtain ⟨r1, b1, R11, L1, u1, t1⟩ := rf1 d _ 0 (by omega) R1 t0
          obtain ⟨r2, b2, R12, L2, u2, t2⟩ := takes_y R11 h2
          have t2 := t2.trans t1
          obtain ⟨r3, b3, R13, L3, u3, t3⟩ := readsD_y R12 h3 (by omega) t2
          obtain ⟨R14, L4⟩ := RS_o R13 (j := 2) (v := 0)
          have t4 : stm r3 102 2 0 91 15 = nI 2 := by rw [stm_ne _ _ _ (by omega)]; exact t3
          obtain ⟨R15, L5⟩ := RS_o R14 (j := 3) (v := 0)
          have t5 : stm (stm r3 102 2 0) 102 3 0 91 15 = nI 2 := by rw [stm_ne _ _ _ (by omega)]; exact t4
          obtain ⟨R16, L6⟩ := RS_t R15 (v := 3)
          have t6 : stm (stm (stm r3 102 2 0) 102 3 0) 91 15 3 91 15 = nI 3 := by rw [stm_row, upd_at]; rfl
          obtain ⟨r7, b7, R17, L7, u7, t7⟩ := takes_y R16 h5
          have t7 := t7.trans t6
          obtain ⟨r8, b8, R18, L8, u8, t8⟩ := rf2 d _ 3 (by omega) R17 t7
          refine ⟨_, ?_, R18, (KF_tr K0 (KF_tr K1 (KF_tr L1 (KF_tr L2 (KF_tr L3 (KF_tr L4 (KF_tr L5 (KF_tr L6 (KF_tr L7 L8)))))))))⟩
          · unfold F_X8_readsStatement
            rw [en, Option.bind_some, if_neg (show ¬ (117 : Int32) = 100 by decide), if_neg (show ¬ (117 : Int32) = 112 by decide), if_neg (show ¬ (117 : Int32) = 114 by decide), if_pos (show (117 : Int32) = 117 from rfl), b1, bd2_s, if_neg i10, b2, bd2_s, if_neg i10, b3, bd2_s, if_neg i10, takes_n R13 h4 (by decide), bd2_s, if_pos rfl, b7, bd2_s, if_neg i10, b8, bd2_s, if_neg i10, takes_n R18 hq (by decide), bd2_s, ck_t _ (by decide)]
      · refine Or.inr ⟨q2 + 1, 117, va, dv T (q1 + 1), vb, 0, ⟨by omega, by have := hq.1; omega, hp, hL, Or.inr ⟨Or.inl rfl, b1, b2, b3, by omega⟩⟩, fun d σ C => ?_, fun d ρ R => ?_⟩
        · have en := next_c C
          rw [if_pos hp, hL] at en
          have C0 := CS_o (CS_o (CS_o (CS_o (CS_o C (j := 3) (v := 117) (by omega)) (j := 4) (v := 0) (by omega)) (j := 5) (v := 0) (by omega)) (j := 6) (v := 0) (by omega)) (j := 7) (v := 0) (by omega)
          have F3 : (stm (stm (stm (stm (stm σ 85 3 117) 85 4 0) 85 5 0) 85 6 0) 85 7 0) 85 3 = 117 := by simp only [stm_row]; simp (disch := omega) only [upd_ne, upd_at]
          obtain ⟨C1, K1⟩ := CS_at C0 hp
          obtain ⟨s1, a1, E1, k1⟩ := cl1 d _ C1
          have D2 := CS_o E1 (j := 4) (v := (nI va)) (by omega)
          obtain ⟨s3, a3, E3, k3⟩ := want_y D2 h2
          obtain ⟨s4, a4, E4, k4⟩ := digit_y E3 h3
          have D5 := CS_o E4 (j := 5) (v := (nI (dv T (q1 + 1)))) (by omega)
          have a6 := skips_n D5 h4 (by decide)
          have D7 := CS_o D5 (j := 7) (v := 0) (by omega)
          obtain ⟨s8, a8, E8, k8⟩ := skips_y D7 h5
          obtain ⟨s9, a9, E9, k9⟩ := cl2 d _ E8
          have D10 := CS_o E9 (j := 6) (v := (nI vb)) (by omega)
          obtain ⟨s11, a11, E11, k11⟩ := want_y D10 hq
          refine ⟨_, ?_, E11, fun i hi => ?_, ?_, ?_, ?_, ?_, ?_⟩
          · unfold F_X3_readStatement
            rw [en, Option.bind_some, F3, if_neg (show ¬ (117 : Int32) = 100 by decide), if_neg (show ¬ (117 : Int32) = 112 by decide), if_neg (show ¬ (117 : Int32) = 114 by decide), if_pos (show (117 : Int32) = 117 from rfl)]
            unfold F_X3_readCart
            rw [a1, bd2_s, a3, Option.bind_some, a4, bd2_s, a6, bd2_s, ck_t _ (by decide), a8, bd2_s, if_neg i10, a9, bd2_s, Option.bind_some, a11, Option.bind_some]
          · rw [k11.1 i hi, stm_ne _ _ _ hi, k9.1 i hi, k8.1 i hi, stm_ne _ _ _ hi, stm_ne _ _ _ hi, k4.1 i hi, k3.1 i hi, stm_ne _ _ _ hi, k1.1 i hi, K1.1 i hi, stm_ne _ _ _ hi, stm_ne _ _ _ hi, stm_ne _ _ _ hi, stm_ne _ _ _ hi, stm_ne _ _ _ hi]
          · rw [k11.2 3 (by omega) (by omega), stm_row, upd_ne _ _ (by omega), k9.2 3 (by omega) (by omega), k8.2 3 (by omega) (by omega), stm_row, upd_ne _ _ (by omega), stm_row, upd_ne _ _ (by omega), k4.2 3 (by omega) (by omega), k3.2 3 (by omega) (by omega), stm_row, upd_ne _ _ (by omega), k1.2 3 (by omega) (by omega), K1.2 3 (by omega) (by omega)]; simp only [stm_row]; simp (disch := omega) only [upd_ne, upd_at]
          · rw [k11.2 4 (by omega) (by omega), stm_row, upd_ne _ _ (by omega), k9.2 4 (by omega) (by omega), k8.2 4 (by omega) (by omega), stm_row, upd_ne _ _ (by omega), stm_row, upd_ne _ _ (by omega), k4.2 4 (by omega) (by omega), k3.2 4 (by omega) (by omega), stm_row, upd_at]
          · rw [k11.2 5 (by omega) (by omega), stm_row, upd_ne _ _ (by omega), k9.2 5 (by omega) (by omega), k8.2 5 (by omega) (by omega), stm_row, upd_ne _ _ (by omega), stm_row, upd_at]
          · rw [k11.2 6 (by omega) (by omega), stm_row, upd_at]
          · rw [k11.2 7 (by omega) (by omega), stm_row, upd_ne _ _ (by omega), k9.2 7 (by omega) (by omega), k8.2 7 (by omega) (by omega), stm_row, upd_at]; rfl
        · have en := here_r R
          rw [if_pos hp, hL] at en
          obtain ⟨R0, K0⟩ := RS_t R (v := 0)
          obtain ⟨R1, K1⟩ := RS_at R0 hp
          have t0 : (stm (stm ρ 91 15 0) 91 12 (stm ρ 91 15 0 91 12 + 1)) 91 15 = nI 0 := by rw [stm_row, upd_ne _ _ (by omega), stm_row, upd_at]; rfl
          obtain ⟨r1, b1, R11, L1, u1, t1⟩ := rf1 d _ 0 (by omega) R1 t0
          obtain ⟨r2, b2, R12, L2, u2, t2⟩ := takes_y R11 h2
          have t2 := t2.trans t1
          obtain ⟨r3, b3, R13, L3, u3, t3⟩ := readsD_y R12 h3 (by omega) t2
          obtain ⟨R14, L4⟩ := RS_o R13 (j := 2) (v := 0)
          have t4 : stm r3 102 2 0 91 15 = nI 2 := by rw [stm_ne _ _ _ (by omega)]; exact t3
          obtain ⟨R15, L5⟩ := RS_o R14 (j := 3) (v := 0)
          have t5 : stm (stm r3 102 2 0) 102 3 0 91 15 = nI 2 := by rw [stm_ne _ _ _ (by omega)]; exact t4
          obtain ⟨R16, L6⟩ := RS_t R15 (v := 3)
          have t6 : stm (stm (stm r3 102 2 0) 102 3 0) 91 15 3 91 15 = nI 3 := by rw [stm_row, upd_at]; rfl
          obtain ⟨r7, b7, R17, L7, u7, t7⟩ := takes_y R16 h5
          have t7 := t7.trans t6
          obtain ⟨r8, b8, R18, L8, u8, t8⟩ := rf2 d _ 3 (by omega) R17 t7
          obtain ⟨r9, b9, R19, L9, u9, t9⟩ := takes_y R18 hq
          have t9 := t9.trans t8
          refine ⟨_, ?_, R19, (KF_tr K0 (KF_tr K1 (KF_tr L1 (KF_tr L2 (KF_tr L3 (KF_tr L4 (KF_tr L5 (KF_tr L6 (KF_tr L7 (KF_tr L8 L9)))))))))), ?_, ?_, ?_, ?_⟩
          · unfold F_X8_readsStatement
            rw [en, Option.bind_some, if_neg (show ¬ (117 : Int32) = 100 by decide), if_neg (show ¬ (117 : Int32) = 112 by decide), if_neg (show ¬ (117 : Int32) = 114 by decide), if_pos (show (117 : Int32) = 117 from rfl), b1, bd2_s, if_neg i10, b2, bd2_s, if_neg i10, b3, bd2_s, if_neg i10, takes_n R13 h4 (by decide), bd2_s, if_pos rfl, b7, bd2_s, if_neg i10, b8, bd2_s, if_neg i10, b9, bd2_s, ck_t _ (by decide)]
          · rw [u9, u8, upd_ne _ _ (by omega), u7, stm_ne _ _ _ (by omega), stm_row, upd_ne _ _ (by omega), stm_row, upd_ne _ _ (by omega), u3, upd_ne _ _ (by omega), u2, u1, upd_at]
          · rw [u9, u8, upd_ne _ _ (by omega), u7, stm_ne _ _ _ (by omega), stm_row, upd_ne _ _ (by omega), stm_row, upd_ne _ _ (by omega), u3, upd_at]
          · intro q; exact absurd q (by decide)
          · intro _
            refine ⟨?_, ?_⟩
            · rw [u9, u8, upd_ne _ _ (by omega), u7, stm_ne _ _ _ (by omega), stm_row, upd_ne _ _ (by omega), stm_row, upd_at]; rfl
            · rw [u9, u8, upd_at]
    · by_cases hq : sg T z (q1 + 2) 59
      rotate_left
      · refine Or.inl ⟨q1 + 2, by omega, fun d σ C => ?_, fun d ρ R => ?_⟩
        · have en := next_c C
          rw [if_pos hp, hL] at en
          have C0 := CS_o (CS_o (CS_o (CS_o (CS_o C (j := 3) (v := 117) (by omega)) (j := 4) (v := 0) (by omega)) (j := 5) (v := 0) (by omega)) (j := 6) (v := 0) (by omega)) (j := 7) (v := 0) (by omega)
          have F3 : (stm (stm (stm (stm (stm σ 85 3 117) 85 4 0) 85 5 0) 85 6 0) 85 7 0) 85 3 = 117 := by simp only [stm_row]; simp (disch := omega) only [upd_ne, upd_at]
          obtain ⟨C1, K1⟩ := CS_at C0 hp
          obtain ⟨s1, a1, E1, k1⟩ := cl1 d _ C1
          have D2 := CS_o E1 (j := 4) (v := (nI va)) (by omega)
          obtain ⟨s3, a3, E3, k3⟩ := want_y D2 h2
          obtain ⟨s4, a4, E4, k4⟩ := digit_y E3 h3
          have D5 := CS_o E4 (j := 5) (v := (nI (dv T (q1 + 1)))) (by omega)
          have a6 := skips_n D5 h4 (by decide)
          have D7 := CS_o D5 (j := 7) (v := 0) (by omega)
          have a8 := skips_n D7 h5 (by decide)
          obtain ⟨s9, a9, E9, k9⟩ := want_n D7 hq (by decide)
          refine ⟨_, ?_, E9, fun i hi => ?_⟩
          · unfold F_X3_readStatement
            rw [en, Option.bind_some, F3, if_neg (show ¬ (117 : Int32) = 100 by decide), if_neg (show ¬ (117 : Int32) = 112 by decide), if_neg (show ¬ (117 : Int32) = 114 by decide), if_pos (show (117 : Int32) = 117 from rfl)]
            unfold F_X3_readCart
            rw [a1, bd2_s, a3, Option.bind_some, a4, bd2_s, a6, bd2_s, ck_t _ (by decide), a8, bd2_s, if_pos rfl, Option.bind_some, a9, Option.bind_some]
          · rw [k9.1 i hi, stm_ne _ _ _ hi, stm_ne _ _ _ hi, k4.1 i hi, k3.1 i hi, stm_ne _ _ _ hi, k1.1 i hi, K1.1 i hi, stm_ne _ _ _ hi, stm_ne _ _ _ hi, stm_ne _ _ _ hi, stm_ne _ _ _ hi, stm_ne _ _ _ hi]
        · have en := here_r R
          rw [if_pos hp, hL] at en
          obtain ⟨R0, K0⟩ := RS_t R (v := 0)
          obtain ⟨R1, K1⟩ := RS_at R0 hp
          have t0 : (stm (stm ρ 91 15 0) 91 12 (stm ρ 91 15 0 91 12 + 1)) 91 15 = nI 0 := by rw [stm_row, upd_ne _ _ (by omega), stm_row, upd_at]; rfl
          obtain ⟨r1, b1, R11, L1, u1, t1⟩ := rf1 d _ 0 (by omega) R1 t0
          obtain ⟨r2, b2, R12, L2, u2, t2⟩ := takes_y R11 h2
          have t2 := t2.trans t1
          obtain ⟨r3, b3, R13, L3, u3, t3⟩ := readsD_y R12 h3 (by omega) t2
          obtain ⟨R14, L4⟩ := RS_o R13 (j := 2) (v := 0)
          have t4 : stm r3 102 2 0 91 15 = nI 2 := by rw [stm_ne _ _ _ (by omega)]; exact t3
          obtain ⟨R15, L5⟩ := RS_o R14 (j := 3) (v := 0)
          have t5 : stm (stm r3 102 2 0) 102 3 0 91 15 = nI 2 := by rw [stm_ne _ _ _ (by omega)]; exact t4
          obtain ⟨R16, L6⟩ := RS_t R15 (v := 3)
          have t6 : stm (stm (stm r3 102 2 0) 102 3 0) 91 15 3 91 15 = nI 3 := by rw [stm_row, upd_at]; rfl
          refine ⟨_, ?_, R16, (KF_tr K0 (KF_tr K1 (KF_tr L1 (KF_tr L2 (KF_tr L3 (KF_tr L4 (KF_tr L5 L6)))))))⟩
          · unfold F_X8_readsStatement
            rw [en, Option.bind_some, if_neg (show ¬ (117 : Int32) = 100 by decide), if_neg (show ¬ (117 : Int32) = 112 by decide), if_neg (show ¬ (117 : Int32) = 114 by decide), if_pos (show (117 : Int32) = 117 from rfl), b1, bd2_s, if_neg i10, b2, bd2_s, if_neg i10, b3, bd2_s, if_neg i10, takes_n R13 h4 (by decide), bd2_s, if_pos rfl, takes_n R16 h5 (by decide), bd2_s, if_pos rfl, takes_n R16 hq (by decide), bd2_s, ck_t _ (by decide)]
      · refine Or.inr ⟨q1 + 3, 117, va, dv T (q1 + 1), 0, 0, ⟨by omega, by have := hq.1; omega, hp, hL, Or.inr ⟨Or.inl rfl, b1, b2, by omega, by omega⟩⟩, fun d σ C => ?_, fun d ρ R => ?_⟩
        · have en := next_c C
          rw [if_pos hp, hL] at en
          have C0 := CS_o (CS_o (CS_o (CS_o (CS_o C (j := 3) (v := 117) (by omega)) (j := 4) (v := 0) (by omega)) (j := 5) (v := 0) (by omega)) (j := 6) (v := 0) (by omega)) (j := 7) (v := 0) (by omega)
          have F3 : (stm (stm (stm (stm (stm σ 85 3 117) 85 4 0) 85 5 0) 85 6 0) 85 7 0) 85 3 = 117 := by simp only [stm_row]; simp (disch := omega) only [upd_ne, upd_at]
          obtain ⟨C1, K1⟩ := CS_at C0 hp
          obtain ⟨s1, a1, E1, k1⟩ := cl1 d _ C1
          have D2 := CS_o E1 (j := 4) (v := (nI va)) (by omega)
          obtain ⟨s3, a3, E3, k3⟩ := want_y D2 h2
          obtain ⟨s4, a4, E4, k4⟩ := digit_y E3 h3
          have D5 := CS_o E4 (j := 5) (v := (nI (dv T (q1 + 1)))) (by omega)
          have a6 := skips_n D5 h4 (by decide)
          have D7 := CS_o D5 (j := 7) (v := 0) (by omega)
          have a8 := skips_n D7 h5 (by decide)
          obtain ⟨s9, a9, E9, k9⟩ := want_y D7 hq
          refine ⟨_, ?_, E9, fun i hi => ?_, ?_, ?_, ?_, ?_, ?_⟩
          · unfold F_X3_readStatement
            rw [en, Option.bind_some, F3, if_neg (show ¬ (117 : Int32) = 100 by decide), if_neg (show ¬ (117 : Int32) = 112 by decide), if_neg (show ¬ (117 : Int32) = 114 by decide), if_pos (show (117 : Int32) = 117 from rfl)]
            unfold F_X3_readCart
            rw [a1, bd2_s, a3, Option.bind_some, a4, bd2_s, a6, bd2_s, ck_t _ (by decide), a8, bd2_s, if_pos rfl, Option.bind_some, a9, Option.bind_some]
          · rw [k9.1 i hi, stm_ne _ _ _ hi, stm_ne _ _ _ hi, k4.1 i hi, k3.1 i hi, stm_ne _ _ _ hi, k1.1 i hi, K1.1 i hi, stm_ne _ _ _ hi, stm_ne _ _ _ hi, stm_ne _ _ _ hi, stm_ne _ _ _ hi, stm_ne _ _ _ hi]
          · rw [k9.2 3 (by omega) (by omega), stm_row, upd_ne _ _ (by omega), stm_row, upd_ne _ _ (by omega), k4.2 3 (by omega) (by omega), k3.2 3 (by omega) (by omega), stm_row, upd_ne _ _ (by omega), k1.2 3 (by omega) (by omega), K1.2 3 (by omega) (by omega)]; simp only [stm_row]; simp (disch := omega) only [upd_ne, upd_at]
          · rw [k9.2 4 (by omega) (by omega), stm_row, upd_ne _ _ (by omega), stm_row, upd_ne _ _ (by omega), k4.2 4 (by omega) (by omega), k3.2 4 (by omega) (by omega), stm_row, upd_at]
          · rw [k9.2 5 (by omega) (by omega), stm_row, upd_ne _ _ (by omega), stm_row, upd_at]
          · rw [k9.2 6 (by omega) (by omega), stm_row, upd_ne _ _ (by omega), stm_row, upd_ne _ _ (by omega), k4.2 6 (by omega) (by omega), k3.2 6 (by omega) (by omega), stm_row, upd_ne _ _ (by omega), k1.2 6 (by omega) (by omega), K1.2 6 (by omega) (by omega)]; simp only [stm_row]; simp (disch := omega) only [upd_ne, upd_at]; rfl
          · rw [k9.2 7 (by omega) (by omega), stm_row, upd_at]; rfl
        · have en := here_r R
          rw [if_pos hp, hL] at en
          obtain ⟨R0, K0⟩ := RS_t R (v := 0)
          obtain ⟨R1, K1⟩ := RS_at R0 hp
          have t0 : (stm (stm ρ 91 15 0) 91 12 (stm ρ 91 15 0 91 12 + 1)) 91 15 = nI 0 := by rw [stm_row, upd_ne _ _ (by omega), stm_row, upd_at]; rfl
          obtain ⟨r1, b1, R11, L1, u1, t1⟩ := rf1 d _ 0 (by omega) R1 t0
          obtain ⟨r2, b2, R12, L2, u2, t2⟩ := takes_y R11 h2
          have t2 := t2.trans t1
          obtain ⟨r3, b3, R13, L3, u3, t3⟩ := readsD_y R12 h3 (by omega) t2
          obtain ⟨R14, L4⟩ := RS_o R13 (j := 2) (v := 0)
          have t4 : stm r3 102 2 0 91 15 = nI 2 := by rw [stm_ne _ _ _ (by omega)]; exact t3
          obtain ⟨R15, L5⟩ := RS_o R14 (j := 3) (v := 0)
          have t5 : stm (stm r3 102 2 0) 102 3 0 91 15 = nI 2 := by rw [stm_ne _ _ _ (by omega)]; exact t4
          obtain ⟨R16, L6⟩ := RS_t R15 (v := 3)
          have t6 : stm (stm (stm r3 102 2 0) 102 3 0) 91 15 3 91 15 = nI 3 := by rw [stm_row, upd_at]; rfl
          obtain ⟨r7, b7, R17, L7, u7, t7⟩ := takes_y R16 hq
          have t7 := t7.trans t6
          refine ⟨_, ?_, R17, (KF_tr K0 (KF_tr K1 (KF_tr L1 (KF_tr L2 (KF_tr L3 (KF_tr L4 (KF_tr L5 (KF_tr L6 L7)))))))), ?_, ?_, ?_, ?_⟩
          · unfold F_X8_readsStatement
            rw [en, Option.bind_some, if_neg (show ¬ (117 : Int32) = 100 by decide), if_neg (show ¬ (117 : Int32) = 112 by decide), if_neg (show ¬ (117 : Int32) = 114 by decide), if_pos (show (117 : Int32) = 117 from rfl), b1, bd2_s, if_neg i10, b2, bd2_s, if_neg i10, b3, bd2_s, if_neg i10, takes_n R13 h4 (by decide), bd2_s, if_pos rfl, takes_n R16 h5 (by decide), bd2_s, if_pos rfl, b7, bd2_s, ck_t _ (by decide)]
          · rw [u7, stm_ne _ _ _ (by omega), stm_row, upd_ne _ _ (by omega), stm_row, upd_ne _ _ (by omega), u3, upd_ne _ _ (by omega), u2, u1, upd_at]
          · rw [u7, stm_ne _ _ _ (by omega), stm_row, upd_ne _ _ (by omega), stm_row, upd_ne _ _ (by omega), u3, upd_at]
          · intro q; exact absurd q (by decide)
          · intro _
            refine ⟨?_, ?_⟩
            · rw [u7, stm_ne _ _ _ (by omega), stm_row, upd_ne _ _ (by omega), stm_row, upd_at]; rfl
            · rw [u7, stm_ne _ _ _ (by omega), stm_row, upd_at]; rfl
theorem st_100 (hz : z ≤ 100) (hp : p < z) (hL : T p = 100) : SFAIL T z p ∨ SOK T z p := by
  by_cases h1 : dg T z (p + 1)
  rotate_left
  · refine Or.inl ⟨p + 1, by omega, fun d σ C => ?_, fun d ρ R => ?_⟩
    · have en := next_c C
      rw [if_pos hp, hL] at en
      have C0 := CS_o (CS_o (CS_o (CS_o (CS_o C (j := 3) (v := 100) (by omega)) (j := 4) (v := 0) (by omega)) (j := 5) (v := 0) (by omega)) (j := 6) (v := 0) (by omega)) (j := 7) (v := 0) (by omega)
      have F3 : (stm (stm (stm (stm (stm σ 85 3 100) 85 4 0) 85 5 0) 85 6 0) 85 7 0) 85 3 = 100 := by simp only [stm_row]; simp (disch := omega) only [upd_ne, upd_at]
      obtain ⟨C1, K1⟩ := CS_at C0 hp
      obtain ⟨s1, a1, E1, k1⟩ := numb_n C1 h1
      have D2 := CS_o E1 (j := 4) (v := 0) (by omega)
      obtain ⟨s3, a3, E3, k3⟩ := want_b (s := 32) D2
      obtain ⟨s4, a4, E4, k4⟩ := digit_b E3
      have D5 := CS_o E4 (j := 5) (v := 0) (by omega)
      have a6 := skips_b (s := 108) D5
      have D7 := CS_o D5 (j := 7) (v := 0) (by omega)
      have a8 := skips_b (s := 119) D7
      obtain ⟨s9, a9, E9, k9⟩ := want_b (s := 59) D7
      refine ⟨_, ?_, E9, fun i hi => ?_⟩
      · unfold F_X3_readStatement
        rw [en, Option.bind_some, F3, if_pos (show (100 : Int32) = 100 from rfl)]
        unfold F_X3_readCart
        rw [a1, bd2_s, a3, Option.bind_some, a4, bd2_s, a6, bd2_s, ck_t _ (by decide), a8, bd2_s, if_pos rfl, Option.bind_some, a9, Option.bind_some]
      · rw [k9.1 i hi, stm_ne _ _ _ hi, stm_ne _ _ _ hi, k4.1 i hi, k3.1 i hi, stm_ne _ _ _ hi, k1.1 i hi, K1.1 i hi, stm_ne _ _ _ hi, stm_ne _ _ _ hi, stm_ne _ _ _ hi, stm_ne _ _ _ hi, stm_ne _ _ _ hi]
    · have en := here_r R
      rw [if_pos hp, hL] at en
      obtain ⟨R0, K0⟩ := RS_t R (v := 0)
      obtain ⟨R1, K1⟩ := RS_at R0 hp
      have t0 : (stm (stm ρ 91 15 0) 91 12 (stm ρ 91 15 0 91 12 + 1)) 91 15 = nI 0 := by rw [stm_row, upd_ne _ _ (by omega), stm_row, upd_at]; rfl
      refine ⟨_, ?_, R1, (KF_tr K0 K1)⟩
      · unfold F_X8_readsStatement
        rw [en, Option.bind_some, if_pos (show (100 : Int32) = 100 from rfl), numb_rn R1 h1, bd2_s, if_pos rfl]
  obtain ⟨q1, va, l1, m1, b1, cl1, rf1⟩ := numb h1 hz
  by_cases h2 : sg T z q1 32
  rotate_left
  · refine Or.inl ⟨q1, by omega, fun d σ C => ?_, fun d ρ R => ?_⟩
    · have en := next_c C
      rw [if_pos hp, hL] at en
      have C0 := CS_o (CS_o (CS_o (CS_o (CS_o C (j := 3) (v := 100) (by omega)) (j := 4) (v := 0) (by omega)) (j := 5) (v := 0) (by omega)) (j := 6) (v := 0) (by omega)) (j := 7) (v := 0) (by omega)
      have F3 : (stm (stm (stm (stm (stm σ 85 3 100) 85 4 0) 85 5 0) 85 6 0) 85 7 0) 85 3 = 100 := by simp only [stm_row]; simp (disch := omega) only [upd_ne, upd_at]
      obtain ⟨C1, K1⟩ := CS_at C0 hp
      obtain ⟨s1, a1, E1, k1⟩ := cl1 d _ C1
      have D2 := CS_o E1 (j := 4) (v := (nI va)) (by omega)
      obtain ⟨s3, a3, E3, k3⟩ := want_n D2 h2 (by decide)
      obtain ⟨s4, a4, E4, k4⟩ := digit_b E3
      have D5 := CS_o E4 (j := 5) (v := 0) (by omega)
      have a6 := skips_b (s := 108) D5
      have D7 := CS_o D5 (j := 7) (v := 0) (by omega)
      have a8 := skips_b (s := 119) D7
      obtain ⟨s9, a9, E9, k9⟩ := want_b (s := 59) D7
      refine ⟨_, ?_, E9, fun i hi => ?_⟩
      · unfold F_X3_readStatement
        rw [en, Option.bind_some, F3, if_pos (show (100 : Int32) = 100 from rfl)]
        unfold F_X3_readCart
        rw [a1, bd2_s, a3, Option.bind_some, a4, bd2_s, a6, bd2_s, ck_t _ (by decide), a8, bd2_s, if_pos rfl, Option.bind_some, a9, Option.bind_some]
      · rw [k9.1 i hi, stm_ne _ _ _ hi, stm_ne _ _ _ hi, k4.1 i hi, k3.1 i hi, stm_ne _ _ _ hi, k1.1 i hi, K1.1 i hi, stm_ne _ _ _ hi, stm_ne _ _ _ hi, stm_ne _ _ _ hi, stm_ne _ _ _ hi, stm_ne _ _ _ hi]
    · have en := here_r R
      rw [if_pos hp, hL] at en
      obtain ⟨R0, K0⟩ := RS_t R (v := 0)
      obtain ⟨R1, K1⟩ := RS_at R0 hp
      have t0 : (stm (stm ρ 91 15 0) 91 12 (stm ρ 91 15 0 91 12 + 1)) 91 15 = nI 0 := by rw [stm_row, upd_ne _ _ (by omega), stm_row, upd_at]; rfl
      obtain ⟨r1, b1, R11, L1, u1, t1⟩ := rf1 d _ 0 (by omega) R1 t0
      refine ⟨_, ?_, R11, (KF_tr K0 (KF_tr K1 L1))⟩
      · unfold F_X8_readsStatement
        rw [en, Option.bind_some, if_pos (show (100 : Int32) = 100 from rfl), b1, bd2_s, if_neg i10, takes_n R11 h2 (by decide), bd2_s, if_pos rfl]
  by_cases h3 : dg T z (q1 + 1)
  rotate_left
  · refine Or.inl ⟨q1 + 1, by omega, fun d σ C => ?_, fun d ρ R => ?_⟩
    · have en := next_c C
      rw [if_pos hp, hL] at en
      have C0 := CS_o (CS_o (CS_o (CS_o (CS_o C (j := 3) (v := 100) (by omega)) (j := 4) (v := 0) (by omega)) (j := 5) (v := 0) (by omega)) (j := 6) (v := 0) (by omega)) (j := 7) (v := 0) (by omega)
      have F3 : (stm (stm (stm (stm (stm σ 85 3 100) 85 4 0) 85 5 0) 85 6 0) 85 7 0) 85 3 = 100 := by simp only [stm_row]; simp (disch := omega) only [upd_ne, upd_at]
      obtain ⟨C1, K1⟩ := CS_at C0 hp
      obtain ⟨s1, a1, E1, k1⟩ := cl1 d _ C1
      have D2 := CS_o E1 (j := 4) (v := (nI va)) (by omega)
      obtain ⟨s3, a3, E3, k3⟩ := want_y D2 h2
      obtain ⟨s4, a4, E4, k4⟩ := digit_n E3 h3
      have D5 := CS_o E4 (j := 5) (v := 0) (by omega)
      have a6 := skips_b (s := 108) D5
      have D7 := CS_o D5 (j := 7) (v := 0) (by omega)
      have a8 := skips_b (s := 119) D7
      obtain ⟨s9, a9, E9, k9⟩ := want_b (s := 59) D7
      refine ⟨_, ?_, E9, fun i hi => ?_⟩
      · unfold F_X3_readStatement
        rw [en, Option.bind_some, F3, if_pos (show (100 : Int32) = 100 from rfl)]
        unfold F_X3_readCart
        rw [a1, bd2_s, a3, Option.bind_some, a4, bd2_s, a6, bd2_s, ck_t _ (by decide), a8, bd2_s, if_pos rfl, Option.bind_some, a9, Option.bind_some]
      · rw [k9.1 i hi, stm_ne _ _ _ hi, stm_ne _ _ _ hi, k4.1 i hi, k3.1 i hi, stm_ne _ _ _ hi, k1.1 i hi, K1.1 i hi, stm_ne _ _ _ hi, stm_ne _ _ _ hi, stm_ne _ _ _ hi, stm_ne _ _ _ hi, stm_ne _ _ _ hi]
    · have en := here_r R
      rw [if_pos hp, hL] at en
      obtain ⟨R0, K0⟩ := RS_t R (v := 0)
      obtain ⟨R1, K1⟩ := RS_at R0 hp
      have t0 : (stm (stm ρ 91 15 0) 91 12 (stm ρ 91 15 0 91 12 + 1)) 91 15 = nI 0 := by rw [stm_row, upd_ne _ _ (by omega), stm_row, upd_at]; rfl
      obtain ⟨r1, b1, R11, L1, u1, t1⟩ := rf1 d _ 0 (by omega) R1 t0
      obtain ⟨r2, b2, R12, L2, u2, t2⟩ := takes_y R11 h2
      have t2 := t2.trans t1
      refine ⟨_, ?_, R12, (KF_tr K0 (KF_tr K1 (KF_tr L1 L2)))⟩
      · unfold F_X8_readsStatement
        rw [en, Option.bind_some, if_pos (show (100 : Int32) = 100 from rfl), b1, bd2_s, if_neg i10, b2, bd2_s, if_neg i10, readsD_n R12 h3, bd2_s, if_pos rfl]
  have b2 := (dv_e h3).2.1
  by_cases h4 : sg T z (q1 + 2) 108
  · by_cases h5 : sg T z (q1 + 3) 119
    · by_cases h6 : dg T z (q1 + 4)
      rotate_left
      · refine Or.inl ⟨q1 + 4, by omega, fun d σ C => ?_, fun d ρ R => ?_⟩
        · have en := next_c C
          rw [if_pos hp, hL] at en
          have C0 := CS_o (CS_o (CS_o (CS_o (CS_o C (j := 3) (v := 100) (by omega)) (j := 4) (v := 0) (by omega)) (j := 5) (v := 0) (by omega)) (j := 6) (v := 0) (by omega)) (j := 7) (v := 0) (by omega)
          have F3 : (stm (stm (stm (stm (stm σ 85 3 100) 85 4 0) 85 5 0) 85 6 0) 85 7 0) 85 3 = 100 := by simp only [stm_row]; simp (disch := omega) only [upd_ne, upd_at]
          obtain ⟨C1, K1⟩ := CS_at C0 hp
          obtain ⟨s1, a1, E1, k1⟩ := cl1 d _ C1
          have D2 := CS_o E1 (j := 4) (v := (nI va)) (by omega)
          obtain ⟨s3, a3, E3, k3⟩ := want_y D2 h2
          obtain ⟨s4, a4, E4, k4⟩ := digit_y E3 h3
          have D5 := CS_o E4 (j := 5) (v := (nI (dv T (q1 + 1)))) (by omega)
          obtain ⟨s6, a6, E6, k6⟩ := skips_y D5 h4
          have D7 := CS_o E6 (j := 7) (v := 1) (by omega)
          obtain ⟨s8, a8, E8, k8⟩ := skips_y D7 h5
          obtain ⟨s9, a9, E9, k9⟩ := numb_n E8 h6
          have D10 := CS_o E9 (j := 6) (v := 0) (by omega)
          obtain ⟨s11, a11, E11, k11⟩ := want_b (s := 59) D10
          refine ⟨_, ?_, E11, fun i hi => ?_⟩
          · unfold F_X3_readStatement
            rw [en, Option.bind_some, F3, if_pos (show (100 : Int32) = 100 from rfl)]
            unfold F_X3_readCart
            rw [a1, bd2_s, a3, Option.bind_some, a4, bd2_s, a6, bd2_s, ck_t _ (by decide), a8, bd2_s, if_neg i10, a9, bd2_s, Option.bind_some, a11, Option.bind_some]
          · rw [k11.1 i hi, stm_ne _ _ _ hi, k9.1 i hi, k8.1 i hi, stm_ne _ _ _ hi, k6.1 i hi, stm_ne _ _ _ hi, k4.1 i hi, k3.1 i hi, stm_ne _ _ _ hi, k1.1 i hi, K1.1 i hi, stm_ne _ _ _ hi, stm_ne _ _ _ hi, stm_ne _ _ _ hi, stm_ne _ _ _ hi, stm_ne _ _ _ hi]
        · have en := here_r R
          rw [if_pos hp, hL] at en
          obtain ⟨R0, K0⟩ := RS_t R (v := 0)
          obtain ⟨R1, K1⟩ := RS_at R0 hp
          have t0 : (stm (stm ρ 91 15 0) 91 12 (stm ρ 91 15 0 91 12 + 1)) 91 15 = nI 0 := by rw [stm_row, upd_ne _ _ (by omega), stm_row, upd_at]; rfl
          obtain ⟨r1, b1, R11, L1, u1, t1⟩ := rf1 d _ 0 (by omega) R1 t0
          obtain ⟨r2, b2, R12, L2, u2, t2⟩ := takes_y R11 h2
          have t2 := t2.trans t1
          obtain ⟨r3, b3, R13, L3, u3, t3⟩ := readsD_y R12 h3 (by omega) t2
          obtain ⟨r4, b4, R14, L4, u4, t4⟩ := takes_y R13 h4
          have t4 := t4.trans t3
          obtain ⟨R15, L5⟩ := RS_o R14 (j := 2) (v := 1)
          have t5 : stm r4 102 2 1 91 15 = nI 2 := by rw [stm_ne _ _ _ (by omega)]; exact t4
          obtain ⟨R16, L6⟩ := RS_o R15 (j := 3) (v := 0)
          have t6 : stm (stm r4 102 2 1) 102 3 0 91 15 = nI 2 := by rw [stm_ne _ _ _ (by omega)]; exact t5
          obtain ⟨R17, L7⟩ := RS_t R16 (v := 3)
          have t7 : stm (stm (stm r4 102 2 1) 102 3 0) 91 15 3 91 15 = nI 3 := by rw [stm_row, upd_at]; rfl
          obtain ⟨r8, b8, R18, L8, u8, t8⟩ := takes_y R17 h5
          have t8 := t8.trans t7
          refine ⟨_, ?_, R18, (KF_tr K0 (KF_tr K1 (KF_tr L1 (KF_tr L2 (KF_tr L3 (KF_tr L4 (KF_tr L5 (KF_tr L6 (KF_tr L7 L8)))))))))⟩
          · unfold F_X8_readsStatement
            rw [en, Option.bind_some, if_pos (show (100 : Int32) = 100 from rfl), b1, bd2_s, if_neg i10, b2, bd2_s, if_neg i10, b3, bd2_s, if_neg i10, b4, bd2_s, if_neg i10, b8, bd2_s, if_neg i10, numb_rn R18 h6, bd2_s, if_pos rfl]
      obtain ⟨q2, vb, l2, m2, b3, cl2, rf2⟩ := numb h6 hz
      by_cases hq : sg T z q2 59
      rotate_left
      · refine Or.inl ⟨q2, by omega, fun d σ C => ?_, fun d ρ R => ?_⟩
        · have en := next_c C
          rw [if_pos hp, hL] at en
          have C0 := CS_o (CS_o (CS_o (CS_o (CS_o C (j := 3) (v := 100) (by omega)) (j := 4) (v := 0) (by omega)) (j := 5) (v := 0) (by omega)) (j := 6) (v := 0) (by omega)) (j := 7) (v := 0) (by omega)
          have F3 : (stm (stm (stm (stm (stm σ 85 3 100) 85 4 0) 85 5 0) 85 6 0) 85 7 0) 85 3 = 100 := by simp only [stm_row]; simp (disch := omega) only [upd_ne, upd_at]
          obtain ⟨C1, K1⟩ := CS_at C0 hp
          obtain ⟨s1, a1, E1, k1⟩ := cl1 d _ C1
          have D2 := CS_o E1 (j := 4) (v := (nI va)) (by omega)
          obtain ⟨s3, a3, E3, k3⟩ := want_y D2 h2
          obtain ⟨s4, a4, E4, k4⟩ := digit_y E3 h3
          have D5 := CS_o E4 (j := 5) (v := (nI (dv T (q1 + 1)))) (by omega)
          obtain ⟨s6, a6, E6, k6⟩ := skips_y D5 h4
          have D7 := CS_o E6 (j := 7) (v := 1) (by omega)
          obtain ⟨s8, a8, E8, k8⟩ := skips_y D7 h5
          obtain ⟨s9, a9, E9, k9⟩ := cl2 d _ E8
          have D10 := CS_o E9 (j := 6) (v := (nI vb)) (by omega)
          obtain ⟨s11, a11, E11, k11⟩ := want_n D10 hq (by decide)
          refine ⟨_, ?_, E11, fun i hi => ?_⟩
          · unfold F_X3_readStatement
            rw [en, Option.bind_some, F3, if_pos (show (100 : Int32) = 100 from rfl)]
            unfold F_X3_readCart
            rw [a1, bd2_s, a3, Option.bind_some, a4, bd2_s, a6, bd2_s, ck_t _ (by decide), a8, bd2_s, if_neg i10, a9, bd2_s, Option.bind_some, a11, Option.bind_some]
          · rw [k11.1 i hi, stm_ne _ _ _ hi, k9.1 i hi, k8.1 i hi, stm_ne _ _ _ hi, k6.1 i hi, stm_ne _ _ _ hi, k4.1 i hi, k3.1 i hi, stm_ne _ _ _ hi, k1.1 i hi, K1.1 i hi, stm_ne _ _ _ hi, stm_ne _ _ _ hi, stm_ne _ _ _ hi, stm_ne _ _ _ hi, stm_ne _ _ _ hi]
        · have en := here_r R
          rw [if_pos hp, hL] at en
          obtain ⟨R0, K0⟩ := RS_t R (v := 0)
          obtain ⟨R1, K1⟩ := RS_at R0 hp
          have t0 : (stm (stm ρ 91 15 0) 91 12 (stm ρ 91 15 0 91 12 + 1)) 91 15 = nI 0 := by rw [stm_row, upd_ne _ _ (by omega), stm_row, upd_at]; rfl
          obtain ⟨r1, b1, R11, L1, u1, t1⟩ := rf1 d _ 0 (by omega) R1 t0
          obtain ⟨r2, b2, R12, L2, u2, t2⟩ := takes_y R11 h2
          have t2 := t2.trans t1
          obtain ⟨r3, b3, R13, L3, u3, t3⟩ := readsD_y R12 h3 (by omega) t2
          obtain ⟨r4, b4, R14, L4, u4, t4⟩ := takes_y R13 h4
          have t4 := t4.trans t3
          obtain ⟨R15, L5⟩ := RS_o R14 (j := 2) (v := 1)
          have t5 : stm r4 102 2 1 91 15 = nI 2 := by rw [stm_ne _ _ _ (by omega)]; exact t4
          obtain ⟨R16, L6⟩ := RS_o R15 (j := 3) (v := 0)
          have t6 : stm (stm r4 102 2 1) 102 3 0 91 15 = nI 2 := by rw [stm_ne _ _ _ (by omega)]; exact t5
          obtain ⟨R17, L7⟩ := RS_t R16 (v := 3)
          have t7 : stm (stm (stm r4 102 2 1) 102 3 0) 91 15 3 91 15 = nI 3 := by rw [stm_row, upd_at]; rfl
          obtain ⟨r8, b8, R18, L8, u8, t8⟩ := takes_y R17 h5
          have t8 := t8.trans t7
          obtain ⟨r9, b9, R19, L9, u9, t9⟩ := rf2 d _ 3 (by omega) R18 t8
          refine ⟨_, ?_, R19, (KF_tr K0 (KF_tr K1 (KF_tr L1 (KF_tr L2 (KF_tr L3 (KF_tr L4 (KF_tr L5 (KF_tr L6 (KF_tr L7 (KF_tr L8 L9))))))))))⟩
          · unfold F_X8_readsStatement
            rw [en, Option.bind_some, if_pos (show (100 : Int32) = 100 from rfl), b1, bd2_s, if_neg i10, b2, bd2_s, if_neg i10, b3, bd2_s, if_neg i10, b4, bd2_s, if_neg i10, b8, bd2_s, if_neg i10, b9, bd2_s, if_neg i10, takes_n R19 hq (by decide), bd2_s, ck_t _ (by decide)]
      · refine Or.inr ⟨q2 + 1, 100, va, dv T (q1 + 1), vb, 1, ⟨by omega, by have := hq.1; omega, hp, hL, Or.inr ⟨Or.inr rfl, b1, b2, b3, by omega⟩⟩, fun d σ C => ?_, fun d ρ R => ?_⟩
        · have en := next_c C
          rw [if_pos hp, hL] at en
          have C0 := CS_o (CS_o (CS_o (CS_o (CS_o C (j := 3) (v := 100) (by omega)) (j := 4) (v := 0) (by omega)) (j := 5) (v := 0) (by omega)) (j := 6) (v := 0) (by omega)) (j := 7) (v := 0) (by omega)
          have F3 : (stm (stm (stm (stm (stm σ 85 3 100) 85 4 0) 85 5 0) 85 6 0) 85 7 0) 85 3 = 100 := by simp only [stm_row]; simp (disch := omega) only [upd_ne, upd_at]
          obtain ⟨C1, K1⟩ := CS_at C0 hp
          obtain ⟨s1, a1, E1, k1⟩ := cl1 d _ C1
          have D2 := CS_o E1 (j := 4) (v := (nI va)) (by omega)
          obtain ⟨s3, a3, E3, k3⟩ := want_y D2 h2
          obtain ⟨s4, a4, E4, k4⟩ := digit_y E3 h3
          have D5 := CS_o E4 (j := 5) (v := (nI (dv T (q1 + 1)))) (by omega)
          obtain ⟨s6, a6, E6, k6⟩ := skips_y D5 h4
          have D7 := CS_o E6 (j := 7) (v := 1) (by omega)
          obtain ⟨s8, a8, E8, k8⟩ := skips_y D7 h5
          obtain ⟨s9, a9, E9, k9⟩ := cl2 d _ E8
          have D10 := CS_o E9 (j := 6) (v := (nI vb)) (by omega)
          obtain ⟨s11, a11, E11, k11⟩ := want_y D10 hq
          refine ⟨_, ?_, E11, fun i hi => ?_, ?_, ?_, ?_, ?_, ?_⟩
          · unfold F_X3_readStatement
            rw [en, Option.bind_some, F3, if_pos (show (100 : Int32) = 100 from rfl)]
            unfold F_X3_readCart
            rw [a1, bd2_s, a3, Option.bind_some, a4, bd2_s, a6, bd2_s, ck_t _ (by decide), a8, bd2_s, if_neg i10, a9, bd2_s, Option.bind_some, a11, Option.bind_some]
          · rw [k11.1 i hi, stm_ne _ _ _ hi, k9.1 i hi, k8.1 i hi, stm_ne _ _ _ hi, k6.1 i hi, stm_ne _ _ _ hi, k4.1 i hi, k3.1 i hi, stm_ne _ _ _ hi, k1.1 i hi, K1.1 i hi, stm_ne _ _ _ hi, stm_ne _ _ _ hi, stm_ne _ _ _ hi, stm_ne _ _ _ hi, stm_ne _ _ _ hi]
          · rw [k11.2 3 (by omega) (by omega), stm_row, upd_ne _ _ (by omega), k9.2 3 (by omega) (by omega), k8.2 3 (by omega) (by omega), stm_row, upd_ne _ _ (by omega), k6.2 3 (by omega) (by omega), stm_row, upd_ne _ _ (by omega), k4.2 3 (by omega) (by omega), k3.2 3 (by omega) (by omega), stm_row, upd_ne _ _ (by omega), k1.2 3 (by omega) (by omega), K1.2 3 (by omega) (by omega)]; simp only [stm_row]; simp (disch := omega) only [upd_ne, upd_at]
          · rw [k11.2 4 (by omega) (by omega), stm_row, upd_ne _ _ (by omega), k9.2 4 (by omega) (by omega), k8.2 4 (by omega) (by omega), stm_row, upd_ne _ _ (by omega), k6.2 4 (by omega) (by omega), stm_row, upd_ne _ _ (by omega), k4.2 4 (by omega) (by omega), k3.2 4 (by omega) (by omega), stm_row, upd_at]
          · rw [k11.2 5 (by omega) (by omega), stm_row, upd_ne _ _ (by omega), k9.2 5 (by omega) (by omega), k8.2 5 (by omega) (by omega), stm_row, upd_ne _ _ (by omega), k6.2 5 (by omega) (by omega), stm_row, upd_at]
          · rw [k11.2 6 (by omega) (by omega), stm_row, upd_at]
          · rw [k11.2 7 (by omega) (by omega), stm_row, upd_ne _ _ (by omega), k9.2 7 (by omega) (by omega), k8.2 7 (by omega) (by omega), stm_row, upd_at]; rfl
        · have en := here_r R
          rw [if_pos hp, hL] at en
          obtain ⟨R0, K0⟩ := RS_t R (v := 0)
          obtain ⟨R1, K1⟩ := RS_at R0 hp
          have t0 : (stm (stm ρ 91 15 0) 91 12 (stm ρ 91 15 0 91 12 + 1)) 91 15 = nI 0 := by rw [stm_row, upd_ne _ _ (by omega), stm_row, upd_at]; rfl
          obtain ⟨r1, b1, R11, L1, u1, t1⟩ := rf1 d _ 0 (by omega) R1 t0
          obtain ⟨r2, b2, R12, L2, u2, t2⟩ := takes_y R11 h2
          have t2 := t2.trans t1
          obtain ⟨r3, b3, R13, L3, u3, t3⟩ := readsD_y R12 h3 (by omega) t2
          obtain ⟨r4, b4, R14, L4, u4, t4⟩ := takes_y R13 h4
          have t4 := t4.trans t3
          obtain ⟨R15, L5⟩ := RS_o R14 (j := 2) (v := 1)
          have t5 : stm r4 102 2 1 91 15 = nI 2 := by rw [stm_ne _ _ _ (by omega)]; exact t4
          obtain ⟨R16, L6⟩ := RS_o R15 (j := 3) (v := 0)
          have t6 : stm (stm r4 102 2 1) 102 3 0 91 15 = nI 2 := by rw [stm_ne _ _ _ (by omega)]; exact t5
          obtain ⟨R17, L7⟩ := RS_t R16 (v := 3)
          have t7 : stm (stm (stm r4 102 2 1) 102 3 0) 91 15 3 91 15 = nI 3 := by rw [stm_row, upd_at]; rfl
          obtain ⟨r8, b8, R18, L8, u8, t8⟩ := takes_y R17 h5
          have t8 := t8.trans t7
          obtain ⟨r9, b9, R19, L9, u9, t9⟩ := rf2 d _ 3 (by omega) R18 t8
          obtain ⟨r10, b10, R20, L10, u10, t10⟩ := takes_y R19 hq
          have t10 := t10.trans t9
          refine ⟨_, ?_, R20, (KF_tr K0 (KF_tr K1 (KF_tr L1 (KF_tr L2 (KF_tr L3 (KF_tr L4 (KF_tr L5 (KF_tr L6 (KF_tr L7 (KF_tr L8 (KF_tr L9 L10))))))))))), ?_, ?_, ?_, ?_⟩
          · unfold F_X8_readsStatement
            rw [en, Option.bind_some, if_pos (show (100 : Int32) = 100 from rfl), b1, bd2_s, if_neg i10, b2, bd2_s, if_neg i10, b3, bd2_s, if_neg i10, b4, bd2_s, if_neg i10, b8, bd2_s, if_neg i10, b9, bd2_s, if_neg i10, b10, bd2_s, ck_t _ (by decide)]
          · rw [u10, u9, upd_ne _ _ (by omega), u8, stm_ne _ _ _ (by omega), stm_row, upd_ne _ _ (by omega), stm_row, upd_ne _ _ (by omega), u4, u3, upd_ne _ _ (by omega), u2, u1, upd_at]
          · rw [u10, u9, upd_ne _ _ (by omega), u8, stm_ne _ _ _ (by omega), stm_row, upd_ne _ _ (by omega), stm_row, upd_ne _ _ (by omega), u4, u3, upd_at]
          · intro q; exact absurd q (by decide)
          · intro _
            refine ⟨?_, ?_⟩
            · rw [u10, u9, upd_ne _ _ (by omega), u8, stm_ne _ _ _ (by omega), stm_row, upd_ne _ _ (by omega), stm_row, upd_at]; rfl
            · rw [u10, u9, upd_at]
    · by_cases hq : sg T z (q1 + 3) 59
      rotate_left
      · refine Or.inl ⟨q1 + 3, by omega, fun d σ C => ?_, fun d ρ R => ?_⟩
        · have en := next_c C
          rw [if_pos hp, hL] at en
          have C0 := CS_o (CS_o (CS_o (CS_o (CS_o C (j := 3) (v := 100) (by omega)) (j := 4) (v := 0) (by omega)) (j := 5) (v := 0) (by omega)) (j := 6) (v := 0) (by omega)) (j := 7) (v := 0) (by omega)
          have F3 : (stm (stm (stm (stm (stm σ 85 3 100) 85 4 0) 85 5 0) 85 6 0) 85 7 0) 85 3 = 100 := by simp only [stm_row]; simp (disch := omega) only [upd_ne, upd_at]
          obtain ⟨C1, K1⟩ := CS_at C0 hp
          obtain ⟨s1, a1, E1, k1⟩ := cl1 d _ C1
          have D2 := CS_o E1 (j := 4) (v := (nI va)) (by omega)
          obtain ⟨s3, a3, E3, k3⟩ := want_y D2 h2
          obtain ⟨s4, a4, E4, k4⟩ := digit_y E3 h3
          have D5 := CS_o E4 (j := 5) (v := (nI (dv T (q1 + 1)))) (by omega)
          obtain ⟨s6, a6, E6, k6⟩ := skips_y D5 h4
          have D7 := CS_o E6 (j := 7) (v := 1) (by omega)
          have a8 := skips_n D7 h5 (by decide)
          obtain ⟨s9, a9, E9, k9⟩ := want_n D7 hq (by decide)
          refine ⟨_, ?_, E9, fun i hi => ?_⟩
          · unfold F_X3_readStatement
            rw [en, Option.bind_some, F3, if_pos (show (100 : Int32) = 100 from rfl)]
            unfold F_X3_readCart
            rw [a1, bd2_s, a3, Option.bind_some, a4, bd2_s, a6, bd2_s, ck_t _ (by decide), a8, bd2_s, if_pos rfl, Option.bind_some, a9, Option.bind_some]
          · rw [k9.1 i hi, stm_ne _ _ _ hi, k6.1 i hi, stm_ne _ _ _ hi, k4.1 i hi, k3.1 i hi, stm_ne _ _ _ hi, k1.1 i hi, K1.1 i hi, stm_ne _ _ _ hi, stm_ne _ _ _ hi, stm_ne _ _ _ hi, stm_ne _ _ _ hi, stm_ne _ _ _ hi]
        · have en := here_r R
          rw [if_pos hp, hL] at en
          obtain ⟨R0, K0⟩ := RS_t R (v := 0)
          obtain ⟨R1, K1⟩ := RS_at R0 hp
          have t0 : (stm (stm ρ 91 15 0) 91 12 (stm ρ 91 15 0 91 12 + 1)) 91 15 = nI 0 := by rw [stm_row, upd_ne _ _ (by omega), stm_row, upd_at]; rfl
          obtain ⟨r1, b1, R11, L1, u1, t1⟩ := rf1 d _ 0 (by omega) R1 t0
          obtain ⟨r2, b2, R12, L2, u2, t2⟩ := takes_y R11 h2
          have t2 := t2.trans t1
          obtain ⟨r3, b3, R13, L3, u3, t3⟩ := readsD_y R12 h3 (by omega) t2
          obtain ⟨r4, b4, R14, L4, u4, t4⟩ := takes_y R13 h4
          have t4 := t4.trans t3
          obtain ⟨R15, L5⟩ := RS_o R14 (j := 2) (v := 1)
          have t5 : stm r4 102 2 1 91 15 = nI 2 := by rw [stm_ne _ _ _ (by omega)]; exact t4
          obtain ⟨R16, L6⟩ := RS_o R15 (j := 3) (v := 0)
          have t6 : stm (stm r4 102 2 1) 102 3 0 91 15 = nI 2 := by rw [stm_ne _ _ _ (by omega)]; exact t5
          obtain ⟨R17, L7⟩ := RS_t R16 (v := 3)
          have t7 : stm (stm (stm r4 102 2 1) 102 3 0) 91 15 3 91 15 = nI 3 := by rw [stm_row, upd_at]; rfl
          refine ⟨_, ?_, R17, (KF_tr K0 (KF_tr K1 (KF_tr L1 (KF_tr L2 (KF_tr L3 (KF_tr L4 (KF_tr L5 (KF_tr L6 L7))))))))⟩
          · unfold F_X8_readsStatement
            rw [en, Option.bind_some, if_pos (show (100 : Int32) = 100 from rfl), b1, bd2_s, if_neg i10, b2, bd2_s, if_neg i10, b3, bd2_s, if_neg i10, b4, bd2_s, if_neg i10, takes_n R17 h5 (by decide), bd2_s, if_pos rfl, takes_n R17 hq (by decide), bd2_s, ck_t _ (by decide)]
      · refine Or.inr ⟨q1 + 4, 100, va, dv T (q1 + 1), 0, 1, ⟨by omega, by have := hq.1; omega, hp, hL, Or.inr ⟨Or.inr rfl, b1, b2, by omega, by omega⟩⟩, fun d σ C => ?_, fun d ρ R => ?_⟩
        · have en := next_c C
          rw [if_pos hp, hL] at en
          have C0 := CS_o (CS_o (CS_o (CS_o (CS_o C (j := 3) (v := 100) (by omega)) (j := 4) (v := 0) (by omega)) (j := 5) (v := 0) (by omega)) (j := 6) (v := 0) (by omega)) (j := 7) (v := 0) (by omega)
          have F3 : (stm (stm (stm (stm (stm σ 85 3 100) 85 4 0) 85 5 0) 85 6 0) 85 7 0) 85 3 = 100 := by simp only [stm_row]; simp (disch := omega) only [upd_ne, upd_at]
          obtain ⟨C1, K1⟩ := CS_at C0 hp
          obtain ⟨s1, a1, E1, k1⟩ := cl1 d _ C1
          have D2 := CS_o E1 (j := 4) (v := (nI va)) (by omega)
          obtain ⟨s3, a3, E3, k3⟩ := want_y D2 h2
          obtain ⟨s4, a4, E4, k4⟩ := digit_y E3 h3
          have D5 := CS_o E4 (j := 5) (v := (nI (dv T (q1 + 1)))) (by omega)
          obtain ⟨s6, a6, E6, k6⟩ := skips_y D5 h4
          have D7 := CS_o E6 (j := 7) (v := 1) (by omega)
          have a8 := skips_n D7 h5 (by decide)
          obtain ⟨s9, a9, E9, k9⟩ := want_y D7 hq
          refine ⟨_, ?_, E9, fun i hi => ?_, ?_, ?_, ?_, ?_, ?_⟩
          · unfold F_X3_readStatement
            rw [en, Option.bind_some, F3, if_pos (show (100 : Int32) = 100 from rfl)]
            unfold F_X3_readCart
            rw [a1, bd2_s, a3, Option.bind_some, a4, bd2_s, a6, bd2_s, ck_t _ (by decide), a8, bd2_s, if_pos rfl, Option.bind_some, a9, Option.bind_some]
          · rw [k9.1 i hi, stm_ne _ _ _ hi, k6.1 i hi, stm_ne _ _ _ hi, k4.1 i hi, k3.1 i hi, stm_ne _ _ _ hi, k1.1 i hi, K1.1 i hi, stm_ne _ _ _ hi, stm_ne _ _ _ hi, stm_ne _ _ _ hi, stm_ne _ _ _ hi, stm_ne _ _ _ hi]
          · rw [k9.2 3 (by omega) (by omega), stm_row, upd_ne _ _ (by omega), k6.2 3 (by omega) (by omega), stm_row, upd_ne _ _ (by omega), k4.2 3 (by omega) (by omega), k3.2 3 (by omega) (by omega), stm_row, upd_ne _ _ (by omega), k1.2 3 (by omega) (by omega), K1.2 3 (by omega) (by omega)]; simp only [stm_row]; simp (disch := omega) only [upd_ne, upd_at]
          · rw [k9.2 4 (by omega) (by omega), stm_row, upd_ne _ _ (by omega), k6.2 4 (by omega) (by omega), stm_row, upd_ne _ _ (by omega), k4.2 4 (by omega) (by omega), k3.2 4 (by omega) (by omega), stm_row, upd_at]
          · rw [k9.2 5 (by omega) (by omega), stm_row, upd_ne _ _ (by omega), k6.2 5 (by omega) (by omega), stm_row, upd_at]
          · rw [k9.2 6 (by omega) (by omega), stm_row, upd_ne _ _ (by omega), k6.2 6 (by omega) (by omega), stm_row, upd_ne _ _ (by omega), k4.2 6 (by omega) (by omega), k3.2 6 (by omega) (by omega), stm_row, upd_ne _ _ (by omega), k1.2 6 (by omega) (by omega), K1.2 6 (by omega) (by omega)]; simp only [stm_row]; simp (disch := omega) only [upd_ne, upd_at]; rfl
          · rw [k9.2 7 (by omega) (by omega), stm_row, upd_at]; rfl
        · have en := here_r R
          rw [if_pos hp, hL] at en
          obtain ⟨R0, K0⟩ := RS_t R (v := 0)
          obtain ⟨R1, K1⟩ := RS_at R0 hp
          have t0 : (stm (stm ρ 91 15 0) 91 12 (stm ρ 91 15 0 91 12 + 1)) 91 15 = nI 0 := by rw [stm_row, upd_ne _ _ (by omega), stm_row, upd_at]; rfl
          obtain ⟨r1, b1, R11, L1, u1, t1⟩ := rf1 d _ 0 (by omega) R1 t0
          obtain ⟨r2, b2, R12, L2, u2, t2⟩ := takes_y R11 h2
          have t2 := t2.trans t1
          obtain ⟨r3, b3, R13, L3, u3, t3⟩ := readsD_y R12 h3 (by omega) t2
          obtain ⟨r4, b4, R14, L4, u4, t4⟩ := takes_y R13 h4
          have t4 := t4.trans t3
          obtain ⟨R15, L5⟩ := RS_o R14 (j := 2) (v := 1)
          have t5 : stm r4 102 2 1 91 15 = nI 2 := by rw [stm_ne _ _ _ (by omega)]; exact t4
          obtain ⟨R16, L6⟩ := RS_o R15 (j := 3) (v := 0)
          have t6 : stm (stm r4 102 2 1) 102 3 0 91 15 = nI 2 := by rw [stm_ne _ _ _ (by omega)]; exact t5
          obtain ⟨R17, L7⟩ := RS_t R16 (v := 3)
          have t7 : stm (stm (stm r4 102 2 1) 102 3 0) 91 15 3 91 15 = nI 3 := by rw [stm_row, upd_at]; rfl
          obtain ⟨r8, b8, R18, L8, u8, t8⟩ := takes_y R17 hq
          have t8 := t8.trans t7
          refine ⟨_, ?_, R18, (KF_tr K0 (KF_tr K1 (KF_tr L1 (KF_tr L2 (KF_tr L3 (KF_tr L4 (KF_tr L5 (KF_tr L6 (KF_tr L7 L8))))))))), ?_, ?_, ?_, ?_⟩
          · unfold F_X8_readsStatement
            rw [en, Option.bind_some, if_pos (show (100 : Int32) = 100 from rfl), b1, bd2_s, if_neg i10, b2, bd2_s, if_neg i10, b3, bd2_s, if_neg i10, b4, bd2_s, if_neg i10, takes_n R17 h5 (by decide), bd2_s, if_pos rfl, b8, bd2_s, ck_t _ (by decide)]
          · rw [u8, stm_ne _ _ _ (by omega), stm_row, upd_ne _ _ (by omega), stm_row, upd_ne _ _ (by omega), u4, u3, upd_ne _ _ (by omega), u2, u1, upd_at]
          · rw [u8, stm_ne _ _ _ (by omega), stm_row, upd_ne _ _ (by omega), stm_row, upd_ne _ _ (by omega), u4, u3, upd_at]
          · intro q; exact absurd q (by decide)
          · intro _
            refine ⟨?_, ?_⟩
            · rw [u8, stm_ne _ _ _ (by omega), stm_row, upd_ne _ _ (by omega), stm_row, upd_at]; rfl
            · rw [u8, stm_ne _ _ _ (by omega), stm_row, upd_at]; rfl
  · by_cases h5 : sg T z (q1 + 2) 119
    · by_cases h6 : dg T z (q1 + 3)
      rotate_left
      · refine Or.inl ⟨q1 + 3, by omega, fun d σ C => ?_, fun d ρ R => ?_⟩
        · have en := next_c C
          rw [if_pos hp, hL] at en
          have C0 := CS_o (CS_o (CS_o (CS_o (CS_o C (j := 3) (v := 100) (by omega)) (j := 4) (v := 0) (by omega)) (j := 5) (v := 0) (by omega)) (j := 6) (v := 0) (by omega)) (j := 7) (v := 0) (by omega)
          have F3 : (stm (stm (stm (stm (stm σ 85 3 100) 85 4 0) 85 5 0) 85 6 0) 85 7 0) 85 3 = 100 := by simp only [stm_row]; simp (disch := omega) only [upd_ne, upd_at]
          obtain ⟨C1, K1⟩ := CS_at C0 hp
          obtain ⟨s1, a1, E1, k1⟩ := cl1 d _ C1
          have D2 := CS_o E1 (j := 4) (v := (nI va)) (by omega)
          obtain ⟨s3, a3, E3, k3⟩ := want_y D2 h2
          obtain ⟨s4, a4, E4, k4⟩ := digit_y E3 h3
          have D5 := CS_o E4 (j := 5) (v := (nI (dv T (q1 + 1)))) (by omega)
          have a6 := skips_n D5 h4 (by decide)
          have D7 := CS_o D5 (j := 7) (v := 0) (by omega)
          obtain ⟨s8, a8, E8, k8⟩ := skips_y D7 h5
          obtain ⟨s9, a9, E9, k9⟩ := numb_n E8 h6
          have D10 := CS_o E9 (j := 6) (v := 0) (by omega)
          obtain ⟨s11, a11, E11, k11⟩ := want_b (s := 59) D10
          refine ⟨_, ?_, E11, fun i hi => ?_⟩
          · unfold F_X3_readStatement
            rw [en, Option.bind_some, F3, if_pos (show (100 : Int32) = 100 from rfl)]
            unfold F_X3_readCart
            rw [a1, bd2_s, a3, Option.bind_some, a4, bd2_s, a6, bd2_s, ck_t _ (by decide), a8, bd2_s, if_neg i10, a9, bd2_s, Option.bind_some, a11, Option.bind_some]
          · rw [k11.1 i hi, stm_ne _ _ _ hi, k9.1 i hi, k8.1 i hi, stm_ne _ _ _ hi, stm_ne _ _ _ hi, k4.1 i hi, k3.1 i hi, stm_ne _ _ _ hi, k1.1 i hi, K1.1 i hi, stm_ne _ _ _ hi, stm_ne _ _ _ hi, stm_ne _ _ _ hi, stm_ne _ _ _ hi, stm_ne _ _ _ hi]
        · have en := here_r R
          rw [if_pos hp, hL] at en
          obtain ⟨R0, K0⟩ := RS_t R (v := 0)
          obtain ⟨R1, K1⟩ := RS_at R0 hp
          have t0 : (stm (stm ρ 91 15 0) 91 12 (stm ρ 91 15 0 91 12 + 1)) 91 15 = nI 0 := by rw [stm_row, upd_ne _ _ (by omega), stm_row, upd_at]; rfl
          obtain ⟨r1, b1, R11, L1, u1, t1⟩ := rf1 d _ 0 (by omega) R1 t0
          obtain ⟨r2, b2, R12, L2, u2, t2⟩ := takes_y R11 h2
          have t2 := t2.trans t1
          obtain ⟨r3, b3, R13, L3, u3, t3⟩ := readsD_y R12 h3 (by omega) t2
          obtain ⟨R14, L4⟩ := RS_o R13 (j := 2) (v := 0)
          have t4 : stm r3 102 2 0 91 15 = nI 2 := by rw [stm_ne _ _ _ (by omega)]; exact t3
          obtain ⟨R15, L5⟩ := RS_o R14 (j := 3) (v := 0)
          have t5 : stm (stm r3 102 2 0) 102 3 0 91 15 = nI 2 := by rw [stm_ne _ _ _ (by omega)]; exact t4
          obtain ⟨R16, L6⟩ := RS_t R15 (v := 3)
          have t6 : stm (stm (stm r3 102 2 0) 102 3 0) 91 15 3 91 15 = nI 3 := by rw [stm_row, upd_at]; rfl
          obtain ⟨r7, b7, R17, L7, u7, t7⟩ := takes_y R16 h5
          have t7 := t7.trans t6
          refine ⟨_, ?_, R17, (KF_tr K0 (KF_tr K1 (KF_tr L1 (KF_tr L2 (KF_tr L3 (KF_tr L4 (KF_tr L5 (KF_tr L6 L7))))))))⟩
          · unfold F_X8_readsStatement
            rw [en, Option.bind_some, if_pos (show (100 : Int32) = 100 from rfl), b1, bd2_s, if_neg i10, b2, bd2_s, if_neg i10, b3, bd2_s, if_neg i10, takes_n R13 h4 (by decide), bd2_s, if_pos rfl, b7, bd2_s, if_neg i10, numb_rn R17 h6, bd2_s, if_pos rfl]
      obtain ⟨q2, vb, l2, m2, b3, cl2, rf2⟩ := numb h6 hz
      by_cases hq : sg T z q2 59
      rotate_left
      · refine Or.inl ⟨q2, by omega, fun d σ C => ?_, fun d ρ R => ?_⟩
        · have en := next_c C
          rw [if_pos hp, hL] at en
          have C0 := CS_o (CS_o (CS_o (CS_o (CS_o C (j := 3) (v := 100) (by omega)) (j := 4) (v := 0) (by omega)) (j := 5) (v := 0) (by omega)) (j := 6) (v := 0) (by omega)) (j := 7) (v := 0) (by omega)
          have F3 : (stm (stm (stm (stm (stm σ 85 3 100) 85 4 0) 85 5 0) 85 6 0) 85 7 0) 85 3 = 100 := by simp only [stm_row]; simp (disch := omega) only [upd_ne, upd_at]
          obtain ⟨C1, K1⟩ := CS_at C0 hp
          obtain ⟨s1, a1, E1, k1⟩ := cl1 d _ C1
          have D2 := CS_o E1 (j := 4) (v := (nI va)) (by omega)
          obtain ⟨s3, a3, E3, k3⟩ := want_y D2 h2
          obtain ⟨s4, a4, E4, k4⟩ := digit_y E3 h3
          have D5 := CS_o E4 (j := 5) (v := (nI (dv T (q1 + 1)))) (by omega)
          have a6 := skips_n D5 h4 (by decide)
          have D7 := CS_o D5 (j := 7) (v := 0) (by omega)
          obtain ⟨s8, a8, E8, k8⟩ := skips_y D7 h5
          obtain ⟨s9, a9, E9, k9⟩ := cl2 d _ E8
          have D10 := CS_o E9 (j := 6) (v := (nI vb)) (by omega)
          obtain ⟨s11, a11, E11, k11⟩ := want_n D10 hq (by decide)
          refine ⟨_, ?_, E11, fun i hi => ?_⟩
          · unfold F_X3_readStatement
            rw [en, Option.bind_some, F3, if_pos (show (100 : Int32) = 100 from rfl)]
            unfold F_X3_readCart
            rw [a1, bd2_s, a3, Option.bind_some, a4, bd2_s, a6, bd2_s, ck_t _ (by decide), a8, bd2_s, if_neg i10, a9, bd2_s, Option.bind_some, a11, Option.bind_some]
          · rw [k11.1 i hi, stm_ne _ _ _ hi, k9.1 i hi, k8.1 i hi, stm_ne _ _ _ hi, stm_ne _ _ _ hi, k4.1 i hi, k3.1 i hi, stm_ne _ _ _ hi, k1.1 i hi, K1.1 i hi, stm_ne _ _ _ hi, stm_ne _ _ _ hi, stm_ne _ _ _ hi, stm_ne _ _ _ hi, stm_ne _ _ _ hi]
        · have en := here_r R
          rw [if_pos hp, hL] at en
          obtain ⟨R0, K0⟩ := RS_t R (v := 0)
          obtain ⟨R1, K1⟩ := RS_at R0 hp
          have t0 : (stm (stm ρ 91 15 0) 91 12 (stm ρ 91 15 0 91 12 + 1)) 91 15 = nI 0 := by rw [stm_row, upd_ne _ _ (by omega), stm_row, upd_at]; rfl
          obtain ⟨r1, b1, R11, L1, u1, t1⟩ := rf1 d _ 0 (by omega) R1 t0
          obtain ⟨r2, b2, R12, L2, u2, t2⟩ := takes_y R11 h2
          have t2 := t2.trans t1
          obtain ⟨r3, b3, R13, L3, u3, t3⟩ := readsD_y R12 h3 (by omega) t2
          obtain ⟨R14, L4⟩ := RS_o R13 (j := 2) (v := 0)
          have t4 : stm r3 102 2 0 91 15 = nI 2 := by rw [stm_ne _ _ _ (by omega)]; exact t3
          obtain ⟨R15, L5⟩ := RS_o R14 (j := 3) (v := 0)
          have t5 : stm (stm r3 102 2 0) 102 3 0 91 15 = nI 2 := by rw [stm_ne _ _ _ (by omega)]; exact t4
          obtain ⟨R16, L6⟩ := RS_t R15 (v := 3)
          have t6 : stm (stm (stm r3 102 2 0) 102 3 0) 91 15 3 91 15 = nI 3 := by rw [stm_row, upd_at]; rfl
          obtain ⟨r7, b7, R17, L7, u7, t7⟩ := takes_y R16 h5
          have t7 := t7.trans t6
          obtain ⟨r8, b8, R18, L8, u8, t8⟩ := rf2 d _ 3 (by omega) R17 t7
          refine ⟨_, ?_, R18, (KF_tr K0 (KF_tr K1 (KF_tr L1 (KF_tr L2 (KF_tr L3 (KF_tr L4 (KF_tr L5 (KF_tr L6 (KF_tr L7 L8)))))))))⟩
          · unfold F_X8_readsStatement
            rw [en, Option.bind_some, if_pos (show (100 : Int32) = 100 from rfl), b1, bd2_s, if_neg i10, b2, bd2_s, if_neg i10, b3, bd2_s, if_neg i10, takes_n R13 h4 (by decide), bd2_s, if_pos rfl, b7, bd2_s, if_neg i10, b8, bd2_s, if_neg i10, takes_n R18 hq (by decide), bd2_s, ck_t _ (by decide)]
      · refine Or.inr ⟨q2 + 1, 100, va, dv T (q1 + 1), vb, 0, ⟨by omega, by have := hq.1; omega, hp, hL, Or.inr ⟨Or.inr rfl, b1, b2, b3, by omega⟩⟩, fun d σ C => ?_, fun d ρ R => ?_⟩
        · have en := next_c C
          rw [if_pos hp, hL] at en
          have C0 := CS_o (CS_o (CS_o (CS_o (CS_o C (j := 3) (v := 100) (by omega)) (j := 4) (v := 0) (by omega)) (j := 5) (v := 0) (by omega)) (j := 6) (v := 0) (by omega)) (j := 7) (v := 0) (by omega)
          have F3 : (stm (stm (stm (stm (stm σ 85 3 100) 85 4 0) 85 5 0) 85 6 0) 85 7 0) 85 3 = 100 := by simp only [stm_row]; simp (disch := omega) only [upd_ne, upd_at]
          obtain ⟨C1, K1⟩ := CS_at C0 hp
          obtain ⟨s1, a1, E1, k1⟩ := cl1 d _ C1
          have D2 := CS_o E1 (j := 4) (v := (nI va)) (by omega)
          obtain ⟨s3, a3, E3, k3⟩ := want_y D2 h2
          obtain ⟨s4, a4, E4, k4⟩ := digit_y E3 h3
          have D5 := CS_o E4 (j := 5) (v := (nI (dv T (q1 + 1)))) (by omega)
          have a6 := skips_n D5 h4 (by decide)
          have D7 := CS_o D5 (j := 7) (v := 0) (by omega)
          obtain ⟨s8, a8, E8, k8⟩ := skips_y D7 h5
          obtain ⟨s9, a9, E9, k9⟩ := cl2 d _ E8
          have D10 := CS_o E9 (j := 6) (v := (nI vb)) (by omega)
          obtain ⟨s11, a11, E11, k11⟩ := want_y D10 hq
          refine ⟨_, ?_, E11, fun i hi => ?_, ?_, ?_, ?_, ?_, ?_⟩
          · unfold F_X3_readStatement
            rw [en, Option.bind_some, F3, if_pos (show (100 : Int32) = 100 from rfl)]
            unfold F_X3_readCart
            rw [a1, bd2_s, a3, Option.bind_some, a4, bd2_s, a6, bd2_s, ck_t _ (by decide), a8, bd2_s, if_neg i10, a9, bd2_s, Option.bind_some, a11, Option.bind_some]
          · rw [k11.1 i hi, stm_ne _ _ _ hi, k9.1 i hi, k8.1 i hi, stm_ne _ _ _ hi, stm_ne _ _ _ hi, k4.1 i hi, k3.1 i hi, stm_ne _ _ _ hi, k1.1 i hi, K1.1 i hi, stm_ne _ _ _ hi, stm_ne _ _ _ hi, stm_ne _ _ _ hi, stm_ne _ _ _ hi, stm_ne _ _ _ hi]
          · rw [k11.2 3 (by omega) (by omega), stm_row, upd_ne _ _ (by omega), k9.2 3 (by omega) (by omega), k8.2 3 (by omega) (by omega), stm_row, upd_ne _ _ (by omega), stm_row, upd_ne _ _ (by omega), k4.2 3 (by omega) (by omega), k3.2 3 (by omega) (by omega), stm_row, upd_ne _ _ (by omega), k1.2 3 (by omega) (by omega), K1.2 3 (by omega) (by omega)]; simp only [stm_row]; simp (disch := omega) only [upd_ne, upd_at]
          · rw [k11.2 4 (by omega) (by omega), stm_row, upd_ne _ _ (by omega), k9.2 4 (by omega) (by omega), k8.2 4 (by omega) (by omega), stm_row, upd_ne _ _ (by omega), stm_row, upd_ne _ _ (by omega), k4.2 4 (by omega) (by omega), k3.2 4 (by omega) (by omega), stm_row, upd_at]
          · rw [k11.2 5 (by omega) (by omega), stm_row, upd_ne _ _ (by omega), k9.2 5 (by omega) (by omega), k8.2 5 (by omega) (by omega), stm_row, upd_ne _ _ (by omega), stm_row, upd_at]
          · rw [k11.2 6 (by omega) (by omega), stm_row, upd_at]
          · rw [k11.2 7 (by omega) (by omega), stm_row, upd_ne _ _ (by omega), k9.2 7 (by omega) (by omega), k8.2 7 (by omega) (by omega), stm_row, upd_at]; rfl
        · have en := here_r R
          rw [if_pos hp, hL] at en
          obtain ⟨R0, K0⟩ := RS_t R (v := 0)
          obtain ⟨R1, K1⟩ := RS_at R0 hp
          have t0 : (stm (stm ρ 91 15 0) 91 12 (stm ρ 91 15 0 91 12 + 1)) 91 15 = nI 0 := by rw [stm_row, upd_ne _ _ (by omega), stm_row, upd_at]; rfl
          obtain ⟨r1, b1, R11, L1, u1, t1⟩ := rf1 d _ 0 (by omega) R1 t0
          obtain ⟨r2, b2, R12, L2, u2, t2⟩ := takes_y R11 h2
          have t2 := t2.trans t1
          obtain ⟨r3, b3, R13, L3, u3, t3⟩ := readsD_y R12 h3 (by omega) t2
          obtain ⟨R14, L4⟩ := RS_o R13 (j := 2) (v := 0)
          have t4 : stm r3 102 2 0 91 15 = nI 2 := by rw [stm_ne _ _ _ (by omega)]; exact t3
          obtain ⟨R15, L5⟩ := RS_o R14 (j := 3) (v := 0)
          have t5 : stm (stm r3 102 2 0) 102 3 0 91 15 = nI 2 := by rw [stm_ne _ _ _ (by omega)]; exact t4
          obtain ⟨R16, L6⟩ := RS_t R15 (v := 3)
          have t6 : stm (stm (stm r3 102 2 0) 102 3 0) 91 15 3 91 15 = nI 3 := by rw [stm_row, upd_at]; rfl
          obtain ⟨r7, b7, R17, L7, u7, t7⟩ := takes_y R16 h5
          have t7 := t7.trans t6
          obtain ⟨r8, b8, R18, L8, u8, t8⟩ := rf2 d _ 3 (by omega) R17 t7
          obtain ⟨r9, b9, R19, L9, u9, t9⟩ := takes_y R18 hq
          have t9 := t9.trans t8
          refine ⟨_, ?_, R19, (KF_tr K0 (KF_tr K1 (KF_tr L1 (KF_tr L2 (KF_tr L3 (KF_tr L4 (KF_tr L5 (KF_tr L6 (KF_tr L7 (KF_tr L8 L9)))))))))), ?_, ?_, ?_, ?_⟩
          · unfold F_X8_readsStatement
            rw [en, Option.bind_some, if_pos (show (100 : Int32) = 100 from rfl), b1, bd2_s, if_neg i10, b2, bd2_s, if_neg i10, b3, bd2_s, if_neg i10, takes_n R13 h4 (by decide), bd2_s, if_pos rfl, b7, bd2_s, if_neg i10, b8, bd2_s, if_neg i10, b9, bd2_s, ck_t _ (by decide)]
          · rw [u9, u8, upd_ne _ _ (by omega), u7, stm_ne _ _ _ (by omega), stm_row, upd_ne _ _ (by omega), stm_row, upd_ne _ _ (by omega), u3, upd_ne _ _ (by omega), u2, u1, upd_at]
          · rw [u9, u8, upd_ne _ _ (by omega), u7, stm_ne _ _ _ (by omega), stm_row, upd_ne _ _ (by omega), stm_row, upd_ne _ _ (by omega), u3, upd_at]
          · intro q; exact absurd q (by decide)
          · intro _
            refine ⟨?_, ?_⟩
            · rw [u9, u8, upd_ne _ _ (by omega), u7, stm_ne _ _ _ (by omega), stm_row, upd_ne _ _ (by omega), stm_row, upd_at]; rfl
            · rw [u9, u8, upd_at]
    · by_cases hq : sg T z (q1 + 2) 59
      rotate_left
      · refine Or.inl ⟨q1 + 2, by omega, fun d σ C => ?_, fun d ρ R => ?_⟩
        · have en := next_c C
          rw [if_pos hp, hL] at en
          have C0 := CS_o (CS_o (CS_o (CS_o (CS_o C (j := 3) (v := 100) (by omega)) (j := 4) (v := 0) (by omega)) (j := 5) (v := 0) (by omega)) (j := 6) (v := 0) (by omega)) (j := 7) (v := 0) (by omega)
          have F3 : (stm (stm (stm (stm (stm σ 85 3 100) 85 4 0) 85 5 0) 85 6 0) 85 7 0) 85 3 = 100 := by simp only [stm_row]; simp (disch := omega) only [upd_ne, upd_at]
          obtain ⟨C1, K1⟩ := CS_at C0 hp
          obtain ⟨s1, a1, E1, k1⟩ := cl1 d _ C1
          have D2 := CS_o E1 (j := 4) (v := (nI va)) (by omega)
          obtain ⟨s3, a3, E3, k3⟩ := want_y D2 h2
          obtain ⟨s4, a4, E4, k4⟩ := digit_y E3 h3
          have D5 := CS_o E4 (j := 5) (v := (nI (dv T (q1 + 1)))) (by omega)
          have a6 := skips_n D5 h4 (by decide)
          have D7 := CS_o D5 (j := 7) (v := 0) (by omega)
          have a8 := skips_n D7 h5 (by decide)
          obtain ⟨s9, a9, E9, k9⟩ := want_n D7 hq (by decide)
          refine ⟨_, ?_, E9, fun i hi => ?_⟩
          · unfold F_X3_readStatement
            rw [en, Option.bind_some, F3, if_pos (show (100 : Int32) = 100 from rfl)]
            unfold F_X3_readCart
            rw [a1, bd2_s, a3, Option.bind_some, a4, bd2_s, a6, bd2_s, ck_t _ (by decide), a8, bd2_s, if_pos rfl, Option.bind_some, a9, Option.bind_some]
          · rw [k9.1 i hi, stm_ne _ _ _ hi, stm_ne _ _ _ hi, k4.1 i hi, k3.1 i hi, stm_ne _ _ _ hi, k1.1 i hi, K1.1 i hi, stm_ne _ _ _ hi, stm_ne _ _ _ hi, stm_ne _ _ _ hi, stm_ne _ _ _ hi, stm_ne _ _ _ hi]
        · have en := here_r R
          rw [if_pos hp, hL] at en
          obtain ⟨R0, K0⟩ := RS_t R (v := 0)
          obtain ⟨R1, K1⟩ := RS_at R0 hp
          have t0 : (stm (stm ρ 91 15 0) 91 12 (stm ρ 91 15 0 91 12 + 1)) 91 15 = nI 0 := by rw [stm_row, upd_ne _ _ (by omega), stm_row, upd_at]; rfl
          obtain ⟨r1, b1, R11, L1, u1, t1⟩ := rf1 d _ 0 (by omega) R1 t0
          obtain ⟨r2, b2, R12, L2, u2, t2⟩ := takes_y R11 h2
          have t2 := t2.trans t1
          obtain ⟨r3, b3, R13, L3, u3, t3⟩ := readsD_y R12 h3 (by omega) t2
          obtain ⟨R14, L4⟩ := RS_o R13 (j := 2) (v := 0)
          have t4 : stm r3 102 2 0 91 15 = nI 2 := by rw [stm_ne _ _ _ (by omega)]; exact t3
          obtain ⟨R15, L5⟩ := RS_o R14 (j := 3) (v := 0)
          have t5 : stm (stm r3 102 2 0) 102 3 0 91 15 = nI 2 := by rw [stm_ne _ _ _ (by omega)]; exact t4
          obtain ⟨R16, L6⟩ := RS_t R15 (v := 3)
          have t6 : stm (stm (stm r3 102 2 0) 102 3 0) 91 15 3 91 15 = nI 3 := by rw [stm_row, upd_at]; rfl
          refine ⟨_, ?_, R16, (KF_tr K0 (KF_tr K1 (KF_tr L1 (KF_tr L2 (KF_tr L3 (KF_tr L4 (KF_tr L5 L6)))))))⟩
          · unfold F_X8_readsStatement
            rw [en, Option.bind_some, if_pos (show (100 : Int32) = 100 from rfl), b1, bd2_s, if_neg i10, b2, bd2_s, if_neg i10, b3, bd2_s, if_neg i10, takes_n R13 h4 (by decide), bd2_s, if_pos rfl, takes_n R16 h5 (by decide), bd2_s, if_pos rfl, takes_n R16 hq (by decide), bd2_s, ck_t _ (by decide)]
      · refine Or.inr ⟨q1 + 3, 100, va, dv T (q1 + 1), 0, 0, ⟨by omega, by have := hq.1; omega, hp, hL, Or.inr ⟨Or.inr rfl, b1, b2, by omega, by omega⟩⟩, fun d σ C => ?_, fun d ρ R => ?_⟩
        · have en := next_c C
          rw [if_pos hp, hL] at en
          have C0 := CS_o (CS_o (CS_o (CS_o (CS_o C (j := 3) (v := 100) (by omega)) (j := 4) (v := 0) (by omega)) (j := 5) (v := 0) (by omega)) (j := 6) (v := 0) (by omega)) (j := 7) (v := 0) (by omega)
          have F3 : (stm (stm (stm (stm (stm σ 85 3 100) 85 4 0) 85 5 0) 85 6 0) 85 7 0) 85 3 = 100 := by simp only [stm_row]; simp (disch := omega) only [upd_ne, upd_at]
          obtain ⟨C1, K1⟩ := CS_at C0 hp
          obtain ⟨s1, a1, E1, k1⟩ := cl1 d _ C1
          have D2 := CS_o E1 (j := 4) (v := (nI va)) (by omega)
          obtain ⟨s3, a3, E3, k3⟩ := want_y D2 h2
          obtain ⟨s4, a4, E4, k4⟩ := digit_y E3 h3
          have D5 := CS_o E4 (j := 5) (v := (nI (dv T (q1 + 1)))) (by omega)
          have a6 := skips_n D5 h4 (by decide)
          have D7 := CS_o D5 (j := 7) (v := 0) (by omega)
          have a8 := skips_n D7 h5 (by decide)
          obtain ⟨s9, a9, E9, k9⟩ := want_y D7 hq
          refine ⟨_, ?_, E9, fun i hi => ?_, ?_, ?_, ?_, ?_, ?_⟩
          · unfold F_X3_readStatement
            rw [en, Option.bind_some, F3, if_pos (show (100 : Int32) = 100 from rfl)]
            unfold F_X3_readCart
            rw [a1, bd2_s, a3, Option.bind_some, a4, bd2_s, a6, bd2_s, ck_t _ (by decide), a8, bd2_s, if_pos rfl, Option.bind_some, a9, Option.bind_some]
          · rw [k9.1 i hi, stm_ne _ _ _ hi, stm_ne _ _ _ hi, k4.1 i hi, k3.1 i hi, stm_ne _ _ _ hi, k1.1 i hi, K1.1 i hi, stm_ne _ _ _ hi, stm_ne _ _ _ hi, stm_ne _ _ _ hi, stm_ne _ _ _ hi, stm_ne _ _ _ hi]
          · rw [k9.2 3 (by omega) (by omega), stm_row, upd_ne _ _ (by omega), stm_row, upd_ne _ _ (by omega), k4.2 3 (by omega) (by omega), k3.2 3 (by omega) (by omega), stm_row, upd_ne _ _ (by omega), k1.2 3 (by omega) (by omega), K1.2 3 (by omega) (by omega)]; simp only [stm_row]; simp (disch := omega) only [upd_ne, upd_at]
          · rw [k9.2 4 (by omega) (by omega), stm_row, upd_ne _ _ (by omega), stm_row, upd_ne _ _ (by omega), k4.2 4 (by omega) (by omega), k3.2 4 (by omega) (by omega), stm_row, upd_at]
          · rw [k9.2 5 (by omega) (by omega), stm_row, upd_ne _ _ (by omega), stm_row, upd_at]
          · rw [k9.2 6 (by omega) (by omega), stm_row, upd_ne _ _ (by omega), stm_row, upd_ne _ _ (by omega), k4.2 6 (by omega) (by omega), k3.2 6 (by omega) (by omega), stm_row, upd_ne _ _ (by omega), k1.2 6 (by omega) (by omega), K1.2 6 (by omega) (by omega)]; simp only [stm_row]; simp (disch := omega) only [upd_ne, upd_at]; rfl
          · rw [k9.2 7 (by omega) (by omega), stm_row, upd_at]; rfl
        · have en := here_r R
          rw [if_pos hp, hL] at en
          obtain ⟨R0, K0⟩ := RS_t R (v := 0)
          obtain ⟨R1, K1⟩ := RS_at R0 hp
          have t0 : (stm (stm ρ 91 15 0) 91 12 (stm ρ 91 15 0 91 12 + 1)) 91 15 = nI 0 := by rw [stm_row, upd_ne _ _ (by omega), stm_row, upd_at]; rfl
          obtain ⟨r1, b1, R11, L1, u1, t1⟩ := rf1 d _ 0 (by omega) R1 t0
          obtain ⟨r2, b2, R12, L2, u2, t2⟩ := takes_y R11 h2
          have t2 := t2.trans t1
          obtain ⟨r3, b3, R13, L3, u3, t3⟩ := readsD_y R12 h3 (by omega) t2
          obtain ⟨R14, L4⟩ := RS_o R13 (j := 2) (v := 0)
          have t4 : stm r3 102 2 0 91 15 = nI 2 := by rw [stm_ne _ _ _ (by omega)]; exact t3
          obtain ⟨R15, L5⟩ := RS_o R14 (j := 3) (v := 0)
          have t5 : stm (stm r3 102 2 0) 102 3 0 91 15 = nI 2 := by rw [stm_ne _ _ _ (by omega)]; exact t4
          obtain ⟨R16, L6⟩ := RS_t R15 (v := 3)
          have t6 : stm (stm (stm r3 102 2 0) 102 3 0) 91 15 3 91 15 = nI 3 := by rw [stm_row, upd_at]; rfl
          obtain ⟨r7, b7, R17, L7, u7, t7⟩ := takes_y R16 hq
          have t7 := t7.trans t6
          refine ⟨_, ?_, R17, (KF_tr K0 (KF_tr K1 (KF_tr L1 (KF_tr L2 (KF_tr L3 (KF_tr L4 (KF_tr L5 (KF_tr L6 L7)))))))), ?_, ?_, ?_, ?_⟩
          · unfold F_X8_readsStatement
            rw [en, Option.bind_some, if_pos (show (100 : Int32) = 100 from rfl), b1, bd2_s, if_neg i10, b2, bd2_s, if_neg i10, b3, bd2_s, if_neg i10, takes_n R13 h4 (by decide), bd2_s, if_pos rfl, takes_n R16 h5 (by decide), bd2_s, if_pos rfl, b7, bd2_s, ck_t _ (by decide)]
          · rw [u7, stm_ne _ _ _ (by omega), stm_row, upd_ne _ _ (by omega), stm_row, upd_ne _ _ (by omega), u3, upd_ne _ _ (by omega), u2, u1, upd_at]
          · rw [u7, stm_ne _ _ _ (by omega), stm_row, upd_ne _ _ (by omega), stm_row, upd_ne _ _ (by omega), u3, upd_at]
          · intro q; exact absurd q (by decide)
          · intro _
            refine ⟨?_, ?_⟩
            · rw [u7, stm_ne _ _ _ (by omega), stm_row, upd_ne _ _ (by omega), stm_row, upd_at]; rfl
            · rw [u7, stm_ne _ _ _ (by omega), stm_row, upd_at]; rfl
theorem stmt (hz : z ≤ 100) (hpz : p ≤ z) : SFAIL T z p ∨ SOK T z p := by
  have no : (∀ L : Int32, L = 100 ∨ L = 112 ∨ L = 114 ∨ L = 117 ∨ L = 118 ∨ L = 120 → ¬ sg T z p L) → SFAIL T z p := by
    intro h
    refine ⟨p, by omega, fun d σ C => ?_, fun d ρ R => ?_⟩
    · have n1 : ∀ L : Int32, (L = 100 ∨ L = 112 ∨ L = 114 ∨ L = 117 ∨ L = 118 ∨ L = 120) → ¬ (if p < z then T p else 0) = L := by
        intro L hL q
        by_cases k : p < z
        · rw [if_pos k] at q; exact h L hL ⟨k, q⟩
        · rw [if_neg k] at q
          rcases hL with w | w | w | w | w | w <;> rw [w] at q <;> exact absurd q (by decide)
      have C0 := CS_o (CS_o (CS_o (CS_o (CS_o C (j := 3) (v := if p < z then T p else 0) (by omega)) (j := 4) (v := 0) (by omega)) (j := 5) (v := 0) (by omega)) (j := 6) (v := 0) (by omega)) (j := 7) (v := 0) (by omega)
      have F3 : (stm (stm (stm (stm (stm σ 85 3 (if p < z then T p else 0)) 85 4 0) 85 5 0) 85 6 0) 85 7 0) 85 3 = if p < z then T p else 0 := by simp only [stm_row]; simp (disch := omega) only [upd_ne, upd_at]
      obtain ⟨C1, K1⟩ := CS_br C0
      obtain ⟨s2, a2, C2, K2⟩ := want_b (s := 59) C1
      refine ⟨s2, ?_, C2, fun i hi => ?_⟩
      · unfold F_X3_readStatement
        rw [next_c C, Option.bind_some, F3, if_neg (n1 100 (by decide)), if_neg (n1 112 (by decide)), if_neg (n1 114 (by decide)), if_neg (n1 117 (by decide)), if_neg (n1 118 (by decide)), if_neg (n1 120 (by decide)), a2, Option.bind_some]
      · rw [K2.1 i hi, K1.1 i hi, stm_ne _ _ _ hi, stm_ne _ _ _ hi, stm_ne _ _ _ hi, stm_ne _ _ _ hi, stm_ne _ _ _ hi]
    · have n1 : ∀ L : Int32, (L = 100 ∨ L = 112 ∨ L = 114 ∨ L = 117 ∨ L = 118 ∨ L = 120) → ¬ (if p < z then T p else -1000) = L := by
        intro L hL q
        by_cases k : p < z
        · rw [if_pos k] at q; exact h L hL ⟨k, q⟩
        · rw [if_neg k] at q
          rcases hL with w | w | w | w | w | w <;> rw [w] at q <;> exact absurd q (by decide)
      obtain ⟨R0, K0⟩ := RS_t R (v := 0)
      refine ⟨_, ?_, R0, K0⟩
      unfold F_X8_readsStatement
      rw [here_r R, Option.bind_some, if_neg (n1 100 (by decide)), if_neg (n1 112 (by decide)), if_neg (n1 114 (by decide)), if_neg (n1 117 (by decide)), if_neg (n1 118 (by decide)), if_neg (n1 120 (by decide))]
  by_cases h1 : sg T z p 100
  · exact st_100 hz h1.1 h1.2
  by_cases h2 : sg T z p 112
  · exact st_112 hz h2.1 h2.2
  by_cases h3 : sg T z p 114
  · exact st_114 hz h3.1 h3.2
  by_cases h4 : sg T z p 117
  · exact st_117 hz h4.1 h4.2
  by_cases h5 : sg T z p 118
  · exact st_118 hz h5.1 h5.2
  by_cases h6 : sg T z p 120
  · exact st_120 hz h6.1 h6.2
  refine Or.inl (no (fun L hL => ?_))
  rcases hL with rfl | rfl | rfl | rfl | rfl | rfl
  · exact h1
  · exact h2
  · exact h3
  · exact h4
  · exact h5
  · exact h6
end ST
