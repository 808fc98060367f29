/-! reading a text: numbers, statements -/
section NB
theorem numb {T : Nat → Int32} {z p : Nat} (h : dg T z p) (hz : z ≤ 100) : ∃ q v : Nat, p < q ∧ q ≤ z ∧ v ≤ 999 ∧ (∀ d σ, CS σ d z T p false → ∃ σ', F_X3_number σ = some (σ', nI v) ∧ CS σ' d z T q false ∧ KE σ σ') ∧ (∀ d ρ w, w < 5 → RS ρ d z T p → ρ 91 15 = nI w → ∃ ρ', F_X8_readsNumber ρ = some (ρ', 1) ∧ RS ρ' d z T q ∧ KF ρ ρ' ∧ ρ' 102 = upd (ρ 102) w (nI v) ∧ ρ' 91 15 = nI (w + 1)) := by
  obtain ⟨v1, v2, v3⟩ := dv_e h
  have hlt := h.1
  -- the class, from the first digit on
  have cl0 : ∀ σ σ1 q v σ', F_X3_digit σ = some (σ1, nI (dv T p)) → ¬ nI (dv T p) = 0 → F_X3_number_13 FU σ1 0 (nI (dv T p)) = some (σ', nI v) → (q : Nat) = q → F_X3_number σ = some (σ', nI v) := by
    intro σ σ1 q v σ' e1 e2 e3 _
    unfold F_X3_number
    rw [e1, bd2_s, if_neg e2, e3]
  have rf0 : ∀ (ρ ρ1 : Mem) (w : Nat) (x : Option (Mem × Int32)), w < 5 → F_X8_readsDigit ρ = some (ρ1, 1) → ρ1 102 = upd (ρ 102) w (nI (dv T p)) → ρ1 91 15 = nI (w + 1) → F_X8_readsNumber_23 FU ρ1 1 (nI (dv T p)) = x → F_X8_readsNumber ρ = x := by
    intro ρ ρ1 w x hw e1 e2 e3 e4
    unfold F_X8_readsNumber
    rw [e1, bd2_s, if_neg i10, e3, nI_pred, ix_nI hw (by decide), Option.bind_some, e2, upd_at, e4]
  have fin : ∀ (d : Nat) (ρ1 : Mem) (q w v : Nat), w < 5 → RS ρ1 d z T q → ρ1 91 15 = nI (w + 1) → ((ix 5 ((ρ1 91 15) - 1)).bind fun k_7 => some ((stm ρ1 102 k_7 (nI v)), (1 : Int32))) = some (stm ρ1 102 w (nI v), 1) ∧ RS (stm ρ1 102 w (nI v)) d z T q ∧ KF ρ1 (stm ρ1 102 w (nI v)) ∧ stm ρ1 102 w (nI v) 102 = upd (ρ1 102) w (nI v) ∧ stm ρ1 102 w (nI v) 91 15 = nI (w + 1) := by
    intro d ρ1 q w v hw R e
    obtain ⟨a1, a2⟩ := RS_o R (j := w) (v := nI v)
    exact ⟨by rw [e, nI_pred, ix_nI hw (by decide), Option.bind_some], a1, a2, stm_row _ _ _ _, by rw [stm_ne _ _ _ (by omega)]; exact e⟩
  have uu : ∀ (r : Nat → Int32) (w : Nat) (a b : Int32), upd (upd r w a) w b = upd r w b := by
    intro r w a b
    funext i
    simp only [upd]
    by_cases e : i = w
    · simp [e]
    · simp [e]
  have c3 : ∀ k : Nat, k < 3 → ¬ (3 : Int32) ≤ nI k := fun k hk => nI_ge (a := k) (b := 3) hk (by decide)
  have c2 : ∀ k : Nat, k < 2 → ¬ (2 : Int32) ≤ nI k := fun k hk => nI_ge (a := k) (b := 2) hk (by decide)
  have ad : ∀ (a : Nat) (x y : Int32), x - 48 = y → ((10 * nI a + x) - 48) = 10 * nI a + y := by
    intro a x y e
    rw [Int32.sub_eq_add_neg, Int32.add_assoc, ← Int32.sub_eq_add_neg, e]
  have tn : ∀ a b : Nat, (10 : Int32) * nI a + nI b = nI (10 * a + b) := fun a b => by rw [show (10 : Int32) = nI 10 from rfl, nI_mul, nI_add]
  by_cases h0 : dv T p = 0
  · refine ⟨p + 1, 0, by omega, by omega, by omega, fun d σ C => ?_, fun d ρ w hw R ht => ?_⟩
    · obtain ⟨σ1, a1, a2, a3⟩ := digit_y C h
      refine ⟨σ1, ?_, a2, a3⟩
      unfold F_X3_number
      rw [a1, bd2_s, if_pos (show nI (dv T p) = 0 by rw [h0]; rfl)]; rfl
    · obtain ⟨ρ1, a1, a2, a3, a4, a5⟩ := readsD_y R h hw ht
      obtain ⟨f1, f2, f3, f4, f5⟩ := fin d ρ1 (p + 1) w 0 hw a2 a5
      refine ⟨_, rf0 ρ ρ1 w _ hw a1 a4 a5 ?_, f2, KF_tr a3 f3, ?_, f5⟩
      · show F_X8_readsNumber_23 (1999 + 1) ρ1 (nI 1) (nI (dv T p)) = _
        rw [F_X8_readsNumber_23, if_neg (c3 1 (by omega)), h0, if_pos (show nI 0 ≤ 0 by decide), f1]
      · rw [f4, a4, uu]
  have n0 : ¬ nI (dv T p) = 0 := nI_ne0 (by omega) (by omega)
  have p0 : ¬ nI (dv T p) ≤ 0 := nI_nle (by omega) (by omega)
  by_cases h1 : dg T z (p + 1)
  rotate_left
  · refine ⟨p + 1, dv T p, by omega, by omega, by omega, fun d σ C => ?_, fun d ρ w hw R ht => ?_⟩
    · obtain ⟨σ1, a1, a2, a3⟩ := digit_y C h
      refine ⟨σ1, cl0 σ σ1 0 _ σ1 a1 n0 ?_ rfl, a2, a3⟩
      show F_X3_number_13 (1999 + 1) σ1 (nI 0) (nI (dv T p)) = _
      rw [F_X3_number_13, if_neg (c2 0 (by omega)), hasDigit_n a2 h1, Option.bind_some, if_pos rfl]
    · obtain ⟨ρ1, a1, a2, a3, a4, a5⟩ := readsD_y R h hw ht
      obtain ⟨f1, f2, f3, f4, f5⟩ := fin d ρ1 (p + 1) w (dv T p) hw a2 a5
      refine ⟨_, rf0 ρ ρ1 w _ hw a1 a4 a5 ?_, f2, KF_tr a3 f3, ?_, f5⟩
      · show F_X8_readsNumber_23 (1999 + 1) ρ1 (nI 1) (nI (dv T p)) = _
        rw [F_X8_readsNumber_23, if_neg (c3 1 (by omega)), if_neg p0, isDigit_n a2 h1, Option.bind_some, if_pos rfl, f1]
      · rw [f4, a4, uu]
  obtain ⟨w1, w2, -⟩ := dv_e h1
  have hlt1 := h1.1
  have p1 : ¬ nI (10 * dv T p + dv T (p + 1)) ≤ 0 := nI_nle (by omega) (by omega)
  by_cases h2 : dg T z (p + 2)
  rotate_left
  · refine ⟨p + 2, 10 * dv T p + dv T (p + 1), by omega, by omega, by omega, fun d σ C => ?_, fun d ρ w hw R ht => ?_⟩
    · obtain ⟨σ1, a1, a2, a3⟩ := digit_y C h
      obtain ⟨σ2, b1, b2, b3⟩ := digit_y a2 h1
      refine ⟨σ2, cl0 σ σ1 0 _ σ2 a1 n0 ?_ rfl, b2, KE_tr a3 b3⟩
      show F_X3_number_13 (1998 + 1 + 1) σ1 (nI 0) (nI (dv T p)) = _
      rw [F_X3_number_13, if_neg (c2 0 (by omega)), hasDigit_y a2 h1, Option.bind_some, if_neg i10, b1, bd2_s, tn, nI_1, F_X3_number_13, if_neg (c2 1 (by omega)), hasDigit_n b2 h2, Option.bind_some, if_pos rfl]
    · obtain ⟨ρ1, a1, a2, a3, a4, a5⟩ := readsD_y R h hw ht
      obtain ⟨b2, b3⟩ := RS_at a2 hlt1
      have b5 : stm ρ1 91 12 (ρ1 91 12 + 1) 91 15 = nI (w + 1) := by rw [stm_row, upd_ne _ _ (by omega)]; exact a5
      obtain ⟨f1, f2, f3, f4, f5⟩ := fin d _ (p + 2) w (10 * dv T p + dv T (p + 1)) hw b2 b5
      refine ⟨_, rf0 ρ ρ1 w _ hw a1 a4 a5 ?_, f2, KF_tr a3 (KF_tr b3 f3), ?_, f5⟩
      · show F_X8_readsNumber_23 (1998 + 1 + 1) ρ1 (nI 1) (nI (dv T p)) = _
        rw [F_X8_readsNumber_23, if_neg (c3 1 (by omega)), if_neg p0, isDigit_y a2 h1, Option.bind_some, if_neg i10, here_r a2, if_pos hlt1, Option.bind_some, ad _ _ _ w1, tn, nI_1, F_X8_readsNumber_23, if_neg (c3 2 (by omega)), if_neg p1, isDigit_n b2 h2, Option.bind_some, if_pos rfl, f1]
      · rw [f4, stm_ne _ _ _ (by omega), a4, uu]
  obtain ⟨x1, x2, -⟩ := dv_e h2
  have hlt2 := h2.1
  refine ⟨p + 3, 10 * (10 * dv T p + dv T (p + 1)) + dv T (p + 2), by omega, by omega, by omega, fun d σ C => ?_, fun d ρ w hw R ht => ?_⟩
  · obtain ⟨σ1, a1, a2, a3⟩ := digit_y C h
    obtain ⟨σ2, b1, b2, b3⟩ := digit_y a2 h1
    obtain ⟨σ3, g1, g2, g3⟩ := digit_y b2 h2
    refine ⟨σ3, cl0 σ σ1 0 _ σ3 a1 n0 ?_ rfl, g2, KE_tr a3 (KE_tr b3 g3)⟩
    show F_X3_number_13 (1997 + 1 + 1 + 1) σ1 (nI 0) (nI (dv T p)) = _
    rw [F_X3_number_13, if_neg (c2 0 (by omega)), hasDigit_y a2 h1, Option.bind_some, if_neg i10, b1, bd2_s, tn, nI_1, F_X3_number_13, if_neg (c2 1 (by omega)), hasDigit_y b2 h2, Option.bind_some, if_neg i10, g1, bd2_s, tn, nI_1, F_X3_number_13, if_pos (show (2 : Int32) ≤ nI 2 by decide)]
  · obtain ⟨ρ1, a1, a2, a3, a4, a5⟩ := readsD_y R h hw ht
    obtain ⟨b2, b3⟩ := RS_at a2 hlt1
    obtain ⟨g2, g3⟩ := RS_at b2 hlt2
    have g5 : stm (stm ρ1 91 12 (ρ1 91 12 + 1)) 91 12 (stm ρ1 91 12 (ρ1 91 12 + 1) 91 12 + 1) 91 15 = nI (w + 1) := by rw [stm_row, upd_ne _ _ (by omega), stm_row, upd_ne _ _ (by omega)]; exact a5
    obtain ⟨f1, f2, f3, f4, f5⟩ := fin d _ (p + 3) w (10 * (10 * dv T p + dv T (p + 1)) + dv T (p + 2)) hw g2 g5
    refine ⟨_, rf0 ρ ρ1 w _ hw a1 a4 a5 ?_, f2, KF_tr a3 (KF_tr b3 (KF_tr g3 f3)), ?_, f5⟩
    · show F_X8_readsNumber_23 (1997 + 1 + 1 + 1) ρ1 (nI 1) (nI (dv T p)) = _
      rw [F_X8_readsNumber_23, if_neg (c3 1 (by omega)), if_neg p0, isDigit_y a2 h1, Option.bind_some, if_neg i10, here_r a2, if_pos hlt1, Option.bind_some, ad _ _ _ w1, tn, nI_1, F_X8_readsNumber_23, if_neg (c3 2 (by omega)), if_neg p1, isDigit_y b2 h2, Option.bind_some, if_neg i10, here_r b2, if_pos hlt2, Option.bind_some, ad _ _ _ x1, tn, nI_1, F_X8_readsNumber_23, if_pos (show (3 : Int32) ≤ nI 3 by decide), f1]
    · rw [f4, stm_ne _ _ _ (by omega), stm_ne _ _ _ (by omega), a4, uu]
theorem numb_n {σ : Mem} {d z p : Nat} {T : Nat → Int32} (C : CS σ d z T p false) (h : ¬ dg T z p) : ∃ σ', F_X3_number σ = some (σ', 0) ∧ CS σ' d z T p true ∧ KE σ σ' := by
  obtain ⟨σ', a1, a2, a3⟩ := digit_n C h
  refine ⟨σ', ?_, a2, a3⟩
  unfold F_X3_number
  rw [a1, bd2_s, if_pos rfl]
theorem numb_rn {ρ : Mem} {d z p : Nat} {T : Nat → Int32} (R : RS ρ d z T p) (h : ¬ dg T z p) : F_X8_readsNumber ρ = some (ρ, 0) := by
  unfold F_X8_readsNumber
  rw [readsD_n R h, bd2_s, if_pos rfl]
end NB
