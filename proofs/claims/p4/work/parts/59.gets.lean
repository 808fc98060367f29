/-! calls that only tell -/
section GE
theorem call_piece (x y : Int32) : CALR (fun σ => F_X7_piece σ x y) (fun σ => F_X8_piece σ x y) := by
  intro σ ρ I
  obtain ⟨⟨m, len, n, R⟩, -⟩ := I
  have h8 := RT_8 R
  have e0 : σ 1 0 = nI m := (RT_R R).1
  show ∃ r, F_X7_piece σ x y = some r ∧ F_X8_piece ρ x y = some r
  unfold F_X7_piece F_X8_piece F_X8_isPiece
  rw [e0, VS_m (RT_V R)]
  rcases rng (x := x) m (by omega) with ⟨h1, h2, h3⟩ | ⟨p, hp, rfl, g1, g2, g3, g4⟩
  · rw [if_pos h2, Option.bind_some, if_pos rfl]
    refine ⟨-1, ?_, rfl⟩
    by_cases k : x < 0
    · rw [if_pos k]
    · rw [if_neg k, if_neg (h3 k)]
  · have gg : ¬ (nI p < 0 ∨ nI m - 1 < nI p) := fun q => q.elim g1 g4
    have d3 := (RT_R R).2.2.1 p hp
    have d5 := ((RT_R R).2.2.2.2.1 p (by omega)).1
    have c0 : σ 2 p = ρ 92 (14 + 3 * p) := d3.1
    have c1 : σ 3 p = ρ 92 (15 + 3 * p) := d3.2.1
    have c2 : σ 4 p = ρ 92 (16 + 3 * p) := d3.2.2
    have c3 : σ 6 p = nI (PS len p) := d5
    rw [if_neg gg, if_neg g1, if_pos g2, Option.bind_some, if_neg i10, ix_nI (n := 8) (show p < 8 by omega) (by decide), ix_nI (n := 9) (show p < 9 by omega) (by decide), Option.bind_some, Option.bind_some, Option.bind_some, Option.bind_some, c0, c1, c2, c3, spotOf_r (RT_V R) (by omega)]
    rcases rng (x := y) 4 (by omega) with ⟨h1, h2, h3⟩ | ⟨j, hj, rfl, k1, k2, k3, k4⟩
    · have n0 : ¬ y = 0 := fun q => by subst q; exact absurd (h3 (by decide)) (by decide)
      have n1 : ¬ y = 1 := fun q => by subst q; exact absurd (h3 (by decide)) (by decide)
      have n2 : ¬ y = 2 := fun q => by subst q; exact absurd (h3 (by decide)) (by decide)
      have n3 : ¬ y = 3 := fun q => by subst q; exact absurd (h3 (by decide)) (by decide)
      rw [if_neg n0, if_neg n1, if_neg n2, if_neg n3, if_pos (show y < 0 ∨ (3 : Int32) < y from h2)]
      exact ⟨-1, rfl, rfl⟩
    · rw [show ix 121 ((14 + (3 * nI p)) + nI j) = some (14 + j + 3 * p) by rw [ql14, ql3, nI_mul, nI_add, nI_add, show 14 + 3 * p + j = 14 + j + 3 * p by omega]; exact ix_nI (by omega) (by decide)]
      have hj4 : j = 0 ∨ j = 1 ∨ j = 2 ∨ j = 3 := by omega
      rcases hj4 with rfl | rfl | rfl | rfl
      · exact ⟨_, rfl, rfl⟩
      · exact ⟨_, rfl, rfl⟩
      · exact ⟨_, rfl, rfl⟩
      · exact ⟨_, rfl, rfl⟩
theorem call_room (x : Int32) : CALR (fun σ => F_X7_room σ x) (fun σ => F_X8_room σ x) := by
  intro σ ρ I
  obtain ⟨⟨m, len, n, R⟩, -⟩ := I
  have h8 := RT_8 R
  have e0 : σ 1 0 = nI m := (RT_R R).1
  show ∃ r, F_X7_room σ x = some r ∧ F_X8_room ρ x = some r
  unfold F_X7_room F_X8_room
  rw [e0, VS_m (RT_V R)]
  by_cases hm : nI m = 0
  · rw [if_pos hm, if_pos hm]; exact ⟨_, rfl, rfl⟩
  · have hm0 : 0 < m := by
      rcases Nat.eq_zero_or_pos m with q | q
      · subst q; exact absurd rfl hm
      · exact q
    rw [if_neg hm, if_neg hm]
    rcases rng (x := x) (m + 1) (by omega) with ⟨h1, h2, h3⟩ | ⟨p, hp, rfl, g1, g2, g3, g4⟩
    · have e1 : nI (m + 1) - 1 = nI m := nI_pred m
      rw [e1] at h2
      rw [if_pos h2]
      refine ⟨-1, ?_, rfl⟩
      by_cases k : x < 0
      · rw [if_pos k]
      · rw [if_neg k, if_neg (Int32.not_le.mpr (h2.resolve_left k))]
    · have e1 : nI (m + 1) - 1 = nI m := nI_pred m
      rw [e1] at g4
      rw [if_neg g1, if_pos (Int32.not_lt.mp g4), if_neg (show ¬ (nI p < 0 ∨ nI m < nI p) from fun q => q.elim g1 g4), isBetween_c R (show p ≤ m by omega), Option.bind_some]
      by_cases k0 : p = 0
      · subst k0
        rw [if_pos (show nI 0 = 0 from rfl), decide_eq_false (by omega), bI_f, if_pos rfl]
        exact ⟨_, rfl, rfl⟩
      · rw [if_neg (nI_ne0 (by omega) (by omega))]
        by_cases k1 : p = m
        · subst k1
          rw [if_pos rfl, decide_eq_false (by omega), bI_f, if_pos rfl]
          exact ⟨_, rfl, rfl⟩
        · have c : σ 5 p = ρ 92 (5 + p) := (RT_R R).2.2.2.1 p (by omega) (by omega)
          rw [if_neg (fun q => k1 (nI_inj q (by omega) (by omega))), decide_eq_true (by omega), bI_t, if_neg i10, ix_nI (n := 9) (show p < 9 by omega) (by decide), Option.bind_some, c, ix5 (by omega), Option.bind_some]
          exact ⟨_, rfl, rfl⟩
theorem call_cart (x y : Int32) : CALR (fun σ => F_X7_cart σ x y) (fun σ => F_X8_cart σ x y) := by
  intro σ ρ I
  obtain ⟨⟨m, len, n, R⟩, -⟩ := I
  have h7 := RT_7 R
  show ∃ r, F_X7_cart σ x y = some r ∧ F_X8_cart ρ x y = some r
  unfold F_X7_cart F_X8_cart
  rcases cart_x R x with ⟨h1, h2⟩ | ⟨c, hc, rfl, h1, h2⟩
  · rw [if_pos h1, h2, Option.bind_some, if_pos rfl]; exact ⟨_, rfl, rfl⟩
  · have c7 : c < 7 := by omega
    have C := RT_C R hc
    have u : (if σ (22 * 0 + 15 + c) 0 = 0 then some (0 : Int32) else some 1) = if ρ 92 (44 + 11 * c) ≤ 0 then some 0 else some 1 := by
      rcases C.1 with ⟨q1, q2⟩ | ⟨q1, q2⟩ <;> rw [q1, q2] <;> decide
    have l : (if σ (22 * 0 + 15 + c) 1 = 0 then some (0 : Int32) else some 1) = some (ρ 92 (46 + 11 * c)) := by
      rw [C.2.1.1]
      rcases (RT_K R hc).2.1 with q | q <;> rw [q] <;> decide
    rw [if_neg h1, h2, Option.bind_some, if_neg i10, ix_nI c7 (by decide), Option.bind_some, get0 c7, get1 c7, get2 c7, get3 c7, get4 c7, u, l, C.2.1.2.1, C.2.1.2.2.1, C.2.1.2.2.2.1, Option.bind_some, Option.bind_some, Option.bind_some, Option.bind_some, Option.bind_some]
    by_cases k0 : y = 0
    · (repeat rw [if_pos k0])
      by_cases q : ρ 92 (44 + 11 * c) ≤ 0
      · rw [if_pos q]; exact ⟨_, rfl, rfl⟩
      · rw [if_neg q]; exact ⟨_, rfl, rfl⟩
    (repeat rw [if_neg k0])
    by_cases k1 : y = 1
    · (repeat rw [if_pos k1]); exact ⟨_, rfl, rfl⟩
    (repeat rw [if_neg k1])
    by_cases k2 : y = 2
    · (repeat rw [if_pos k2]); exact ⟨_, rfl, rfl⟩
    (repeat rw [if_neg k2])
    by_cases k3 : y = 3
    · (repeat rw [if_pos k3]); exact ⟨_, rfl, rfl⟩
    (repeat rw [if_neg k3])
    by_cases k4 : y = 4
    · (repeat rw [if_pos k4]); exact ⟨_, rfl, rfl⟩
    (repeat rw [if_neg k4]); exact ⟨_, rfl, rfl⟩
theorem call_village (x y : Int32) : CALR (fun σ => F_X7_village σ x y) (fun σ => F_X8_village σ x y) := by
  intro σ ρ I
  obtain ⟨⟨m, len, n, R⟩, -⟩ := I
  show ∃ r, F_X7_village σ x y = some r ∧ F_X8_village ρ x y = some r
  unfold F_X7_village F_X8_village
  rcases vill_x (ρ := ρ) x with ⟨h1, h2⟩ | ⟨v, hv, rfl, h0, h1, h2⟩
  · rw [h2, Option.bind_some, if_pos rfl]
    refine ⟨-1, ?_, rfl⟩
    by_cases k : x < 0
    · rw [if_pos k]
    · rw [if_neg k, if_neg (h1 k)]
  · have d := (RT_R R).2.2.2.2.2.2.2 v hv
    have c1 : σ 11 v = ρ 92 (38 + 2 * v) := d.1
    have c2 : σ 12 v = ρ 92 (39 + 2 * v) := d.2
    rw [h2, Option.bind_some, if_neg i10, if_neg h0, if_pos h1, ix_nI hv (by decide), Option.bind_some, Option.bind_some, c1, c2]
    rcases rng (x := y) 2 (by omega) with ⟨h1, h2, h3⟩ | ⟨j, hj, rfl, k1, k2, k3, k4⟩
    · have n0 : ¬ y = 0 := fun q => by subst q; exact absurd (h3 (by decide)) (by decide)
      have n1 : ¬ y = 1 := fun q => by subst q; exact absurd (h3 (by decide)) (by decide)
      rw [if_neg n0, if_neg n1, if_pos (show y < 0 ∨ (1 : Int32) < y from h2)]
      exact ⟨-1, rfl, rfl⟩
    · have hj2 : j = 0 ∨ j = 1 := by omega
      rw [if_neg (show ¬ (nI j < 0 ∨ 1 < nI j) from fun q => q.elim k1 k4)]
      rcases hj2 with rfl | rfl
      · rw [show ix 121 ((38 + (2 * nI v)) + nI 0) = some (38 + 2 * v) by rw [ql38, ql2, nI_mul, nI_add, nI_add]; exact ix_nI (by omega) (by decide)]
        exact ⟨_, rfl, rfl⟩
      · rw [show ix 121 ((38 + (2 * nI v)) + nI 1) = some (39 + 2 * v) by rw [ql38, ql2, nI_mul, nI_add, nI_add, show 38 + 2 * v + 1 = 39 + 2 * v by omega]; exact ix_nI (by omega) (by decide)]
        exact ⟨_, rfl, rfl⟩
theorem call_where (x y : Int32) : ∀ σ ρ, INV σ ρ → ∃ r r', F_X7_where σ x y = some r ∧ F_X8_where ρ x y = some r' := by
  intro σ ρ I
  obtain ⟨⟨m, len, n, R⟩, -⟩ := I
  have h7 := RT_7 R
  unfold F_X7_where F_X8_where
  rcases cart_x R x with ⟨h1, h2⟩ | ⟨c, hc, rfl, h1, h2⟩
  · rw [if_pos h1, h2, Option.bind_some, if_pos rfl]; exact ⟨_, _, rfl, rfl⟩
  · have c7 : c < 7 := by omega
    rw [if_neg h1, h2, Option.bind_some, if_neg i10, ix_nI c7 (by decide), Option.bind_some, get5 c7, get6 c7, get7 c7, get8 c7, get9 c7, Option.bind_some, Option.bind_some, Option.bind_some, Option.bind_some, Option.bind_some]
    by_cases k0 : y = 0
    · (repeat rw [if_pos k0]); exact ⟨_, _, rfl, rfl⟩
    (repeat rw [if_neg k0])
    by_cases k1 : y = 1
    · (repeat rw [if_pos k1])
      by_cases q : σ (22 * 0 + 15 + c) 7 = 0 <;> by_cases q2 : ρ 92 (50 + 11 * c) ≤ 0
      · rw [if_pos q, if_pos q2]; exact ⟨_, _, rfl, rfl⟩
      · rw [if_pos q, if_neg q2]; exact ⟨_, _, rfl, rfl⟩
      · rw [if_neg q, if_pos q2]; exact ⟨_, _, rfl, rfl⟩
      · rw [if_neg q, if_neg q2]; exact ⟨_, _, rfl, rfl⟩
    (repeat rw [if_neg k1])
    by_cases k2 : y = 2
    · (repeat rw [if_pos k2]); exact ⟨_, _, rfl, rfl⟩
    (repeat rw [if_neg k2])
    by_cases k3 : y = 3
    · (repeat rw [if_pos k3]); exact ⟨_, _, rfl, rfl⟩
    (repeat rw [if_neg k3])
    by_cases k4 : y = 4
    · (repeat rw [if_pos k4]); exact ⟨_, _, rfl, rfl⟩
    (repeat rw [if_neg k4]); exact ⟨_, _, rfl, rfl⟩
theorem call_state (x : Int32) : CALR (fun σ => F_X7_state σ x) (fun σ => F_X8_state σ x) := by
  intro σ ρ I
  obtain ⟨⟨m, len, n, R⟩, -⟩ := I
  show ∃ r, F_X7_state σ x = some r ∧ F_X8_state ρ x = some r
  obtain ⟨s1, a1, a2⟩ := allBacked_p R
  obtain ⟨s2, b1, b2⟩ := allWaited_p R
  obtain ⟨b, c1, c2⟩ := stands_p R
  have m3 : (-3 : Int32).toInt = -3 := by decide
  have e3 : σ 0 3 = ρ 92 2 := RT_3 R
  have e5 : σ 0 5 = ρ 92 4 := RT_5 R
  unfold F_X7_state F_X8_state
  rw [a1, a2, b1, b2, c1, c2, howMany_c R, doneOf_r (RT_n R) (RT_7 R), e3, e5, m3]
  simp only [obs]
  by_cases k0 : x = 0
  · (repeat rw [if_pos k0]); exact ⟨_, rfl, rfl⟩
  (repeat rw [if_neg k0])
  by_cases k1 : x = 1
  · (repeat rw [if_pos k1]); exact ⟨_, rfl, rfl⟩
  (repeat rw [if_neg k1])
  by_cases k2 : x = 2
  · (repeat rw [if_pos k2]); exact ⟨_, rfl, rfl⟩
  (repeat rw [if_neg k2])
  by_cases k3 : x = 3
  · (repeat rw [if_pos k3]); exact ⟨_, rfl, rfl⟩
  (repeat rw [if_neg k3])
  by_cases k4 : x = 4
  · (repeat rw [if_pos k4])
    cases b with
    | false => exact ⟨_, rfl, rfl⟩
    | true => exact ⟨_, rfl, rfl⟩
  (repeat rw [if_neg k4])
  by_cases k5 : x = 5
  · (repeat rw [if_pos k5]); exact ⟨_, rfl, rfl⟩
  (repeat rw [if_neg k5]); exact ⟨_, rfl, rfl⟩
end GE
