section
/-! calls that only tell -/
section GE
theorem call_piece (x y : Int32) : CALR (fun σ => F_X7_piece σ x y) (fun σ => F_X8_piece σ x y) := by
  intro σ ρ I
  obtain ⟨⟨m, len, n, R⟩, -⟩ := I
  have h8 := RT_8 R
  have e0 : σ 1 0 = nI m := (RT_R R).1
  show ∃ r, F_X7_piece σ x y = some r ∧ F_X8_piece ρ x y = some r
  unfold F_X7_piece F_X8_piece F_X8_isPiece
  rw [e0, VS_m (RT_V R)]
  rcases rng (x := x) m (by omega) with ⟨h1, h2, h3⟩ | ⟨p, hp, rfl, g1, g2, g3, g4⟩
  · rw [if_pos h2, Option.bind_some, if_pos rfl]
    refine ⟨-1, ?_, rfl⟩
    by_cases k : x < 0
    · rw [if_pos k]
    · rw [if_neg k, if_neg (h3 k)]
  · have gg : ¬ (nI p < 0 ∨ nI m - 1 < nI p) := fun q => q.elim g1 g4
    have d3 := (RT_R R).2.2.1 p hp
    have d5 := ((RT_R R).2.2.2.2.1 p (by omega)).1
    have c0 : σ 2 p = ρ 92 (14 + 3 * p) := d3.1
    have c1 : σ 3 p = ρ 92 (15 + 3 * p) := d3.2.1
    have c2 : σ 4 p = ρ 92 (16 + 3 * p) := d3.2.2
    have c3 : σ 6 p = nI (PS len p) := d5
    rw [if_neg gg, if_neg g1, if_pos g2, Option.bind_some, if_neg i10, ix_nI (n := 8) (show p < 8 by omega) (by decide), ix_nI (n := 9) (show p < 9 by omega) (by decide), Option.bind_some, Option.bind_some, Option.bind_some, Option.bind_some, c0, c1, c2, c3, spotOf_r (RT_V R) (by omega)]
    rcases rng (x := y) 4 (by omega) with ⟨h1, h2, h3⟩ | ⟨j, hj, rfl, k1, k2, k3, k4⟩
    · have n0 : ¬ y = 0 := fun q => by subst q; exact absurd (h3 (by decide)) (by decide)
      have n1 : ¬ y = 1 := fun q => by subst q; exact absurd (h3 (by decide)) (by decide)
      have n2 : ¬ y = 2 := fun q => by subst q; exact absurd (h3 (by decide)) (by decide)
      have n3 : ¬ y = 3 := fun q => by subst q; exact absurd (h3 (by decide)) (by decide)
      rw [if_neg n0, if_neg n1, if_neg n2, if_neg n3, if_pos (show y < 0 ∨ (3 : Int32) < y from h2)]
      exact ⟨-1, rfl, rfl⟩
    · rw [show ix 121 ((14 + (3 * nI p)) + nI j) = some (14 + j + 3 * p) by rw [ql14, ql3, nI_mul, nI_add, nI_add, show 14 + 3 * p + j = 14 + j + 3 * p by omega]; exact ix_nI (by omega) (by decide)]
      have hj4 : j = 0 ∨ j = 1 ∨ j = 2 ∨ j = 3 := by omega
      rcases hj4 with rfl | rfl | rfl | rfl
      · exact ⟨_, rfl, rfl⟩
      · exact ⟨_, rfl, rfl⟩
      · exact ⟨_, rfl, rfl⟩
      · exact ⟨_, rfl, rfl⟩
theorem call_room (x : Int32) : CALR (fun σ => F_X7_room σ x) (fun σ => F_X8_room σ x) := by
  intro σ ρ I
  obtain ⟨⟨m, len, n, R⟩, -⟩ := I
  have h8 := RT_8 R
  have e0 : σ 1 0 = nI m := (RT_R R).1
  show ∃ r, F_X7_room σ x = some r ∧ F_X8_room ρ x = some r
  unfold F_X7_room F_X8_room
  rw [e0, VS_m (RT_V R)]
  by_cases hm : nI m = 0
  · rw [if_pos hm, if_pos hm]; exact ⟨_, rfl, rfl⟩
  · have hm0 : 0 < m := by
      rcases Nat.eq_zero_or_pos m with q | q
      · subst q; exact absurd rfl hm
      · exact q
    rw [if_neg hm, if_neg hm]
    rcases rng (x := x) (m + 1) (by omega) with ⟨h1, h2, h3⟩ | ⟨p, hp, rfl, g1, g2, g3, g4⟩
    · have e1 : nI (m + 1) - 1 = nI m := nI_pred m
      rw [e1] at h2
      rw [if_pos h2]
      refine ⟨-1, ?_, rfl⟩
      by_cases k : x < 0
      · rw [if_pos k]
      · rw [if_neg k, if_neg (Int32.not_le.mpr (h2.resolve_left k))]
    · have e1 : nI (m + 1) - 1 = nI m := nI_pred m
      rw [e1] at g4
      rw [if_neg g1, if_pos (Int32.not_lt.mp g4), if_neg (show ¬ (nI p < 0 ∨ nI m < nI p) from fun q => q.elim g1 g4), isBetween_c R (show p ≤ m by omega), Option.bind_some]
      by_cases k0 : p = 0
      · subst k0
        rw [if_pos (show nI 0 = 0 from rfl), decide_eq_false (by omega), bI_f, if_pos rfl]
        exact ⟨_, rfl, rfl⟩
      · rw [if_neg (nI_ne0 (by omega) (by omega))]
        by_cases k1 : p = m
        · subst k1
          rw [if_pos rfl, decide_eq_false (by omega), bI_f, if_pos rfl]
          exact ⟨_, rfl, rfl⟩
        · have c : σ 5 p = ρ 92 (5 + p) := (RT_R R).2.2.2.1 p (by omega) (by omega)
          rw [if_neg (fun q => k1 (nI_inj q (by omega) (by omega))), decide_eq_true (by omega), bI_t, if_neg i10, ix_nI (n := 9) (show p < 9 by omega) (by decide), Option.bind_some, c, ix5 (by omega), Option.bind_some]
          exact ⟨_, rfl, rfl⟩
theorem call_cart (x y : Int32) : CALR (fun σ => F_X7_cart σ x y) (fun σ => F_X8_cart σ x y) := by
  intro σ ρ I
  obtain ⟨⟨m, len, n, R⟩, -⟩ := I
  have h7 := RT_7 R
  show ∃ r, F_X7_cart σ x y = some r ∧ F_X8_cart ρ x y = some r
  unfold F_X7_cart F_X8_cart
  rcases cart_x R x with ⟨h1, h2⟩ | ⟨c, hc, rfl, h1, h2⟩
  · rw [if_pos h1, h2, Option.bind_some, if_pos rfl]; exact ⟨_, rfl, rfl⟩
  · have c7 : c < 7 := by omega
    have C := RT_C R hc
    have u : (if σ (22 * 0 + 15 + c) 0 = 0 then some (0 : Int32) else some 1) = if ρ 92 (44 + 11 * c) ≤ 0 then some 0 else some 1 := by
      rcases C.1 with ⟨q1, q2⟩ | ⟨q1, q2⟩ <;> rw [q1, q2] <;> decide
    have l : (if σ (22 * 0 + 15 + c) 1 = 0 then some (0 : Int32) else some 1) = some (ρ 92 (46 + 11 * c)) := by
      rw [C.2.1.1]
      rcases (RT_K R hc).2.1 with q | q <;> rw [q] <;> decide
    rw [if_neg h1, h2, Option.bind_some, if_neg i10, ix_nI c7 (by decide), Option.bind_some, get0 c7, get1 c7, get2 c7, get3 c7, get4 c7, u, l, C.2.1.2.1, C.2.1.2.2.1, C.2.1.2.2.2.1, Option.bind_some, Option.bind_some, Option.bind_some, Option.bind_some, Option.bind_some]
    by_cases k0 : y = 0
    · (repeat rw [if_pos k0])
      by_cases q : ρ 92 (44 + 11 * c) ≤ 0
      · rw [if_pos q]; exact ⟨_, rfl, rfl⟩
      · rw [if_neg q]; exact ⟨_, rfl, rfl⟩
    (repeat rw [if_neg k0])
    by_cases k1 : y = 1
    · (repeat rw [if_pos k1]); exact ⟨_, rfl, rfl⟩
    (repeat rw [if_neg k1])
    by_cases k2 : y = 2
    · (repeat rw [if_pos k2]); exact ⟨_, rfl, rfl⟩
    (repeat rw [if_neg k2])
    by_cases k3 : y = 3
    · (repeat rw [if_pos k3]); exact ⟨_, rfl, rfl⟩
    (repeat rw [if_neg k3])
    by_cases k4 : y = 4
    · (repeat rw [if_pos k4]); exact ⟨_, rfl, rfl⟩
    (repeat rw [if_neg k4]); exact ⟨_, rfl, rfl⟩
theorem call_village (x y : Int32) : CALR (fun σ => F_X7_village σ x y) (fun σ => F_X8_village σ x y) := by
  intro σ ρ I
  obtain ⟨⟨m, len, n, R⟩, -⟩ := I
  show ∃ r, F_X7_village σ x y = some r ∧ F_X8_village ρ x y = some r
  unfold F_X7_village F_X8_village
  rcases vill_x (ρ := ρ) x with ⟨h1, h2⟩ | ⟨v, hv, rfl, h0, h1, h2⟩
  · rw [h2, Option.bind_some, if_pos rfl]
    refine ⟨-1, ?_, rfl⟩
    by_cases k : x < 0
    · rw [if_pos k]
    · rw [if_neg k, if_neg (h1 k)]
  · have d := (RT_R R).2.2.2.2.2.2.2 v hv
    have c1 : σ 11 v = ρ 92 (38 + 2 * v) := d.1
    have c2 : σ 12 v = ρ 92 (39 + 2 * v) := d.2
    rw [h2, Option.bind_some, if_neg i10, if_neg h0, if_pos h1, ix_nI hv (by decide), Option.bind_some, Option.bind_some, c1, c2]
    rcases rng (x := y) 2 (by omega) with ⟨h1, h2, h3⟩ | ⟨j, hj, rfl, k1, k2, k3, k4⟩
    · have n0 : ¬ y = 0 := fun q => by subst q; exact absurd (h3 (by decide)) (by decide)
      have n1 : ¬ y = 1 := fun q => by subst q; exact absurd (h3 (by decide)) (by decide)
      rw [if_neg n0, if_neg n1, if_pos (show y < 0 ∨ (1 : Int32) < y from h2)]
      exact ⟨-1, rfl, rfl⟩
    · have hj2 : j = 0 ∨ j = 1 := by omega
      rw [if_neg (show ¬ (nI j < 0 ∨ 1 < nI j) from fun q => q.elim k1 k4)]
      rcases hj2 with rfl | rfl
      · rw [show ix 121 ((38 + (2 * nI v)) + nI 0) = some (38 + 2 * v) by rw [ql38, ql2, nI_mul, nI_add, nI_add]; exact ix_nI (by omega) (by decide)]
        exact ⟨_, rfl, rfl⟩
      · rw [show ix 121 ((38 + (2 * nI v)) + nI 1) = some (39 + 2 * v) by rw [ql38, ql2, nI_mul, nI_add, nI_add, show 38 + 2 * v + 1 = 39 + 2 * v by omega]; exact ix_nI (by omega) (by decide)]
        exact ⟨_, rfl, rfl⟩
theorem call_where (x y : Int32) : ∀ σ ρ, INV σ ρ → ∃ r r', F_X7_where σ x y = some r ∧ F_X8_where ρ x y = some r' := by
  intro σ ρ I
  obtain ⟨⟨m, len, n, R⟩, -⟩ := I
  have h7 := RT_7 R
  unfold F_X7_where F_X8_where
  rcases cart_x R x with ⟨h1, h2⟩ | ⟨c, hc, rfl, h1, h2⟩
  · rw [if_pos h1, h2, Option.bind_some, if_pos rfl]; exact ⟨_, _, rfl, rfl⟩
  · have c7 : c < 7 := by omega
    rw [if_neg h1, h2, Option.bind_some, if_neg i10, ix_nI c7 (by decide), Option.bind_some, get5 c7, get6 c7, get7 c7, get8 c7, get9 c7, Option.bind_some, Option.bind_some, Option.bind_some, Option.bind_some, Option.bind_some]
    by_cases k0 : y = 0
    · (repeat rw [if_pos k0]); exact ⟨_, _, rfl, rfl⟩
    (repeat rw [if_neg k0])
    by_cases k1 : y = 1
    · (repeat rw [if_pos k1])
      by_cases q : σ (22 * 0 + 15 + c) 7 = 0 <;> by_cases q2 : ρ 92 (50 + 11 * c) ≤ 0
      · rw [if_pos q, if_pos q2]; exact ⟨_, _, rfl, rfl⟩
      · rw [if_pos q, if_neg q2]; exact ⟨_, _, rfl, rfl⟩
      · rw [if_neg q, if_pos q2]; exact ⟨_, _, rfl, rfl⟩
      · rw [if_neg q, if_neg q2]; exact ⟨_, _, rfl, rfl⟩
    (repeat rw [if_neg k1])
    by_cases k2 : y = 2
    · (repeat rw [if_pos k2]); exact ⟨_, _, rfl, rfl⟩
    (repeat rw [if_neg k2])
    by_cases k3 : y = 3
    · (repeat rw [if_pos k3]); exact ⟨_, _, rfl, rfl⟩
    (repeat rw [if_neg k3])
    by_cases k4 : y = 4
    · (repeat rw [if_pos k4]); exact ⟨_, _, rfl, rfl⟩
    (repeat rw [if_neg k4]); exact ⟨_, _, rfl, rfl⟩
theorem call_state (x : Int32) : CALR (fun σ => F_X7_state σ x) (fun σ => F_X8_state σ x) := by
  intro σ ρ I
  obtain ⟨⟨m, len, n, R⟩, -⟩ := I
  show ∃ r, F_X7_state σ x = some r ∧ F_X8_state ρ x = some r
  obtain ⟨s1, a1, a2⟩ := allBacked_p R
  obtain ⟨s2, b1, b2⟩ := allWaited_p R
  obtain ⟨b, c1, c2⟩ := stands_p R
  have m3 : (-3 : Int32).toInt = -3 := by decide
  have e3 : σ 0 3 = ρ 92 2 := RT_3 R
  have e5 : σ 0 5 = ρ 92 4 := RT_5 R
  unfold F_X7_state F_X8_state
  rw [a1, a2, b1, b2, c1, c2, howMany_c R, doneOf_r (RT_n R) (RT_7 R), e3, e5, m3]
  simp only [obs]
  by_cases k0 : x = 0
  · (repeat rw [if_pos k0]); exact ⟨_, rfl, rfl⟩
  (repeat rw [if_neg k0])
  by_cases k1 : x = 1
  · (repeat rw [if_pos k1]); exact ⟨_, rfl, rfl⟩
  (repeat rw [if_neg k1])
  by_cases k2 : x = 2
  · (repeat rw [if_pos k2]); exact ⟨_, rfl, rfl⟩
  (repeat rw [if_neg k2])
  by_cases k3 : x = 3
  · (repeat rw [if_pos k3]); exact ⟨_, rfl, rfl⟩
  (repeat rw [if_neg k3])
  by_cases k4 : x = 4
  · (repeat rw [if_pos k4])
    cases b with
    | false => exact ⟨_, rfl, rfl⟩
    | true => exact ⟨_, rfl, rfl⟩
  (repeat rw [if_neg k4])
  by_cases k5 : x = 5
  · (repeat rw [if_pos k5]); exact ⟨_, rfl, rfl⟩
  (repeat rw [if_neg k5]); exact ⟨_, rfl, rfl⟩
end GE
end
section
/-! enters, yields, count, words -/
section G2
theorem call_enters (x : Int32) : CALR (fun σ => F_X7_enters σ x) (fun σ => F_X8_enters σ x) := by
  intro σ ρ I
  obtain ⟨⟨m, len, n, R⟩, -⟩ := I
  have h7 := RT_7 R
  have h8 := RT_8 R
  have V := RT_V R
  show ∃ r, F_X7_enters σ x = some r ∧ F_X8_enters ρ x = some r
  unfold F_X7_enters F_X8_enters
  rcases cart_x R x with ⟨h1, h2⟩ | ⟨c, hc, rfl, h1, h2⟩
  · rw [if_pos h1, h2, Option.bind_some, if_pos rfl]; exact ⟨_, rfl, rfl⟩
  · have c7 : c < 7 := by omega
    have C := RT_C R hc
    rw [if_neg h1, h2, Option.bind_some, if_neg i10, ix_nI c7 (by decide), Option.bind_some, C.2.2.1, isOn_r c7, get5 c7, get0 c7]
    simp only [obs]
    rcases (RT_K R hc).2.2.2.2 with hs | hs | ⟨x, hs, hx, hup, hdn⟩
    · rw [hs, placeOf_neg im2, Option.bind_some, if_neg (show ¬ (0 : Int32) ≤ -1 by decide), if_pos im2, Option.bind_some, if_pos rfl]; exact ⟨_, rfl, rfl⟩
    · rw [hs, placeOf_neg im3, Option.bind_some, if_neg (show ¬ (0 : Int32) ≤ -1 by decide), if_pos im3, Option.bind_some, if_pos rfl]; exact ⟨_, rfl, rfl⟩
    · have h72 := RT_72 R (Nat.le_refl m)
      rw [hs, if_neg (show ¬ nI x < 0 from nI_pos (by omega)), Option.bind_some, if_neg i10]
      rcases spot_cases hx with ⟨q, hq, e⟩ | ⟨q, hq, g1, g2⟩
      · subst e
        rw [placeOf_at R hq, placeAt_at V hq, Option.bind_some, Option.bind_some, if_pos (nI_pos' (by omega)), if_pos (nI_pos' (by omega))]
        have fin : ∀ b : Bool, (∃ r, ((some (bI b)).bind fun r_4 => if r_4 = 0 then some (0 : Int32) else some 1) = some r ∧ ((some (bI b)).bind fun r_12 => if r_12 = 0 then some (0 : Int32) else some 1) = some r) := by
          intro b; cases b <;> exact ⟨_, rfl, rfl⟩
        rcases (RT_K R hc).1 with hw | hw
        · obtain ⟨p, q1, q2, q3, q4, q5⟩ := ahead_up R hc hw hs (hup hw)
          have hqm : q < m := by
            rcases Nat.lt_or_ge q m with z | z
            · exact z
            · have := PS_mono (len := len) z
              have := hup hw
              omega
          have hqp : q = p := by
            have := PS_lt (VS_b V) (show q < q + 1 by omega) (show q + 1 ≤ m by omega)
            exact PS_un (len := len) (x := PS len q) (by omega) (by omega) q2 q3
          subst hqp
          obtain ⟨v, hv, ev⟩ := vil3 (VS_vil V q1)
          obtain ⟨b, l1, l2⟩ := enters_up R hc hw q1 hs hv ev q4
          rw [l1, hw, q5, Option.bind_some, Option.bind_some, ix16 (by omega), Option.bind_some, ev, l2]
          exact fin b
        · obtain ⟨p, q1, q2, q3, q4, q5⟩ := ahead_dn R hc hw hs hx (hdn hw)
          have hqp : q = p + 1 := by
            refine PS_inj (VS_b V) hq (by omega) ?_
            rcases Nat.lt_or_ge p q with z | z
            · have := PS_mono (len := len) (show p + 1 ≤ q by omega)
              omega
            · have := PS_mono (len := len) z
              omega
          subst hqp
          obtain ⟨v, hv, ev⟩ := vil3 (VS_vil V q1)
          obtain ⟨b, l1, l2⟩ := enters_dn R hc hw q1 hs hv ev q4
          rw [l1, hw, q5, Option.bind_some, Option.bind_some, ix16 (by omega), Option.bind_some, ev, l2]
          exact fin b
      · rw [placeOf_in R hq g1 g2, placeAt_no V hq g1 g2, Option.bind_some, Option.bind_some, if_neg (show ¬ (0 : Int32) ≤ -1 by decide), if_neg (show ¬ (0 : Int32) ≤ -4 by decide)]
        exact ⟨_, rfl, rfl⟩
theorem call_yields (x y z : Int32) : CALR (fun σ => F_X7_yields σ x y z) (fun σ => F_X8_yields σ x y z) := by
  intro σ ρ I
  obtain ⟨⟨m, len, n, R⟩, -⟩ := I
  have h7 := RT_7 R
  have h8 := RT_8 R
  have V := RT_V R
  show ∃ r, F_X7_yields σ x y z = some r ∧ F_X8_yields ρ x y z = some r
  unfold F_X7_yields F_X8_yields
  rcases cart_x R x with ⟨h1, h2⟩ | ⟨A, hA, rfl, h1, h2⟩
  · rw [if_pos h1, h2, Option.bind_some, if_pos rfl]
    rcases cart_x R y with ⟨h3, h4⟩ | ⟨B, hB, rfl, h3, h4⟩
    · rw [if_pos h3]; exact ⟨_, rfl, rfl⟩
    · rw [if_neg h3, ix_nI (n := 7) (show B < 7 by omega) (by decide), Option.bind_some]; exact ⟨_, rfl, rfl⟩
  rw [if_neg h1, h2, Option.bind_some, if_neg i10, ix_nI (n := 7) (show A < 7 by omega) (by decide), Option.bind_some]
  rcases cart_x R y with ⟨h3, h4⟩ | ⟨B, hB, rfl, h3, h4⟩
  · rw [if_pos h3, h4, Option.bind_some, if_pos rfl]; exact ⟨_, rfl, rfl⟩
  rw [if_neg h3, h4, Option.bind_some, if_neg i10, ix_nI (n := 7) (show B < 7 by omega) (by decide), Option.bind_some]
  by_cases hne : nI A = nI B
  · rw [if_pos hne, if_pos hne]; exact ⟨_, rfl, rfl⟩
  have hne' : A ≠ B := fun q => hne (by rw [q])
  rw [if_neg hne, if_neg hne]
  rcases vill_x (ρ := ρ) z with ⟨h5, h6⟩ | ⟨v, hv, rfl, h5, h5', h6⟩
  · rw [h6, Option.bind_some, if_pos rfl]
    by_cases k : z < 0
    · rw [if_pos k]; exact ⟨_, rfl, rfl⟩
    · rw [if_neg k, if_neg (h5 k)]; exact ⟨_, rfl, rfl⟩
  have CA := RT_C R hA
  have CB := RT_C R hB
  have A7 : A < 7 := by omega
  have B7 : B < 7 := by omega
  rw [h6, Option.bind_some, if_neg i10, if_neg h5, if_pos h5', isOn_r A7, isOn_r B7, get0 A7, get0 B7, get5 A7, CA.2.2.1, CB.2.2.1]
  simp only [obs]
  have ew : σ (22 * 0 + 15 + A) 0 = σ (22 * 0 + 15 + B) 0 ↔ ρ 92 (44 + 11 * A) = ρ 92 (44 + 11 * B) := by
    rcases CA.1 with ⟨q1, q2⟩ | ⟨q1, q2⟩ <;> rcases CB.1 with ⟨q3, q4⟩ | ⟨q3, q4⟩ <;> rw [q1, q2, q3, q4] <;> decide
  by_cases kA : ρ 92 (49 + 11 * A) < 0
  · rw [if_pos kA, if_pos kA, Option.bind_some, if_pos rfl]
    by_cases q : σ (22 * 0 + 15 + A) 0 = σ (22 * 0 + 15 + B) 0
    · rw [if_pos q]; exact ⟨_, rfl, rfl⟩
    · rw [if_neg q]; exact ⟨_, rfl, rfl⟩
  rw [if_neg kA, if_neg kA, Option.bind_some, if_neg i10]
  by_cases kB : ρ 92 (49 + 11 * B) < 0
  · rw [if_pos kB, if_neg (Int32.not_le.mpr kB), Option.bind_some, if_pos rfl]
    by_cases q : σ (22 * 0 + 15 + A) 0 = σ (22 * 0 + 15 + B) 0
    · rw [if_pos q]; exact ⟨_, rfl, rfl⟩
    · rw [if_neg q]; exact ⟨_, rfl, rfl⟩
  rw [if_neg kB, if_pos (Int32.not_lt.mp kB), Option.bind_some, if_neg i10]
  by_cases kw : ρ 92 (44 + 11 * A) = ρ 92 (44 + 11 * B)
  · rw [if_pos (ew.mpr kw), if_pos kw]; exact ⟨_, rfl, rfl⟩
  rw [if_neg (fun q => kw (ew.mp q)), if_neg kw]
  have road : ∀ c, c < n → ¬ ρ 92 (49 + 11 * c) < 0 → ∃ x : Nat, ρ 92 (49 + 11 * c) = nI x ∧ x ≤ PS len m ∧ (ρ 92 (44 + 11 * c) = 1 → x < PS len m) ∧ (ρ 92 (44 + 11 * c) = -1 → 0 < x) := by
    intro c hc k
    rcases (RT_K R hc).2.2.2.2 with q | q | q
    · exact absurd (by rw [q]; exact im2) k
    · exact absurd (by rw [q]; exact im3) k
    · exact q
  obtain ⟨xA, sA, lA, uA, dA⟩ := road A hA kA
  obtain ⟨xB, sB, lB, uB, dB⟩ := road B hB kB
  have opp : ρ 92 (44 + 11 * A) = 1 ∧ ρ 92 (44 + 11 * B) = -1 ∨ ρ 92 (44 + 11 * A) = -1 ∧ ρ 92 (44 + 11 * B) = 1 := by
    rcases (RT_K R hA).1 with q | q <;> rcases (RT_K R hB).1 with q' | q'
    · exact absurd (q.trans q'.symm) kw
    · exact Or.inl ⟨q, q'⟩
    · exact Or.inr ⟨q, q'⟩
    · exact absurd (q.trans q'.symm) kw
  rw [sA]
  rcases spot_cases lA with ⟨q, hq, e⟩ | ⟨q, hq, g1, g2⟩
  · obtain ⟨w, w1, w2, -⟩ := backer_p R (piece := -4) (hill := 0) hA hB hne' hv sA sB lA lB opp (Or.inl ⟨rfl, rfl⟩)
    subst e
    rw [placeOf_at R hq, placeAt_at V hq, Option.bind_some, Option.bind_some, if_neg (show ¬ nI q < 0 from nI_pos (by omega)), if_neg (show ¬ nI q < 0 from nI_pos (by omega)), w1, w2]
    exact ⟨_, rfl, rfl⟩
  · obtain ⟨w, w1, w2, -⟩ := backer_p R (piece := nI q) (hill := ρ 92 (15 + 3 * q)) hA hB hne' hv sA sB lA lB opp (Or.inr ⟨q, hq, rfl, rfl⟩)
    have hpa : F_X6_pieceAhead σ 0 (22 * 0 + 15 + A) = some (nI q) := by
      rcases (RT_K R hA).1 with z | z
      · obtain ⟨p', q1, q2, q3, q4, -⟩ := ahead_up R hA z sA (uA z)
        rw [q4, PS_un (len := len) (p := p') (q := q) (x := xA) q2 q3 (by omega) g2]
      · obtain ⟨p', q1, q2, q3, q4, -⟩ := ahead_dn R hA z sA lA (dA z)
        rw [q4, PS_un (len := len) (p := p') (q := q) (x := xA - 1) (by omega) (by omega) (by omega) (by omega)]
    rw [placeOf_in R hq g1 g2, placeAt_no V hq g1 g2, Option.bind_some, Option.bind_some, if_pos im1, if_pos im4, hpa, Option.bind_some, hillOf_c R hq, Option.bind_some, pieceUp V (by decide) hq (by omega) g2, Option.bind_some, w1, w2]
    exact ⟨_, rfl, rfl⟩
theorem allRoom_l {σ ρ : Mem} {m n : Nat} {len : Nat → Nat} {x : Int32} (R : RT σ 0 (ρ 92) m len n) : ∀ (d p nn nn2 : Nat) (v : Int32), 1 ≤ p → p + d = 9 → d < nn → d < nn2 → ∃ s, F_X4_allRoom_4 σ 0 nn (nI p) v = some s ∧ F_X8_count_64 ρ x nn2 (nI p) v = some s := by
  have h8 := RT_8 R
  have e0 : σ (22 * 0 + 1) 0 = nI m := (RT_R R).1
  intro d
  induction d with
  | zero =>
    intro p nn nn2 v h1 e1 e2 e3
    obtain ⟨nn, rfl⟩ : ∃ j, nn = j + 1 := ⟨nn - 1, by omega⟩
    obtain ⟨nn2, rfl⟩ : ∃ j, nn2 = j + 1 := ⟨nn2 - 1, by omega⟩
    rw [F_X4_allRoom_4, F_X8_count_64, e0, VS_m (RT_V R), if_pos (nI_le (by omega) (by omega)), if_pos (nI_le (by omega) (by omega))]
    exact ⟨_, rfl, rfl⟩
  | succ d ih =>
    intro p nn nn2 v h1 e1 e2 e3
    obtain ⟨nn, rfl⟩ : ∃ j, nn = j + 1 := ⟨nn - 1, by omega⟩
    obtain ⟨nn2, rfl⟩ : ∃ j, nn2 = j + 1 := ⟨nn2 - 1, by omega⟩
    rw [F_X4_allRoom_4, F_X8_count_64, e0, VS_m (RT_V R)]
    by_cases k : nI m ≤ nI p
    · rw [if_pos k, if_pos k]; exact ⟨_, rfl, rfl⟩
    · have hp : p < m := nI_ltof k (by omega)
      have c : σ (22 * 0 + 5) p = ρ 92 (5 + p) := (RT_R R).2.2.2.1 p h1 (by omega)
      rw [if_neg k, if_neg k, ix_nI (n := 9) (show p < 9 by omega) (by decide), Option.bind_some, c, ix5 (by omega), Option.bind_some, nI_1]
      exact ih (p + 1) nn nn2 _ (by omega) (by omega) (by omega) (by omega)
theorem onroad_l {σ ρ : Mem} {m n : Nat} {len : Nat → Nat} {x : Int32} (R : RT σ 0 (ρ 92) m len n) : ∀ (d j nn v : Nat), j + d = n → d < nn → v + occ (spk (ρ 92)) (-2) j + occ (spk (ρ 92)) (-3) j = j → ∃ w : Nat, F_X8_count_95 ρ x nn (nI j) (nI v) = some (nI w) ∧ w + occ (spk (ρ 92)) (-2) n + occ (spk (ρ 92)) (-3) n = n := by
  have h7 := RT_7 R
  intro d
  induction d with
  | zero =>
    intro j nn v e1 e2 e3
    obtain rfl : j = n := by omega
    obtain ⟨nn, rfl⟩ : ∃ j, nn = j + 1 := ⟨nn - 1, by omega⟩
    rw [F_X8_count_95, RT_n R, if_pos (nI_le (Nat.le_refl _) (by omega))]
    exact ⟨v, rfl, e3⟩
  | succ d ih =>
    intro j nn v e1 e2 e3
    obtain ⟨nn, rfl⟩ : ∃ j, nn = j + 1 := ⟨nn - 1, by omega⟩
    have m2 : (-2 : Int32).toInt = -2 := by decide
    have m3 : (-3 : Int32).toInt = -3 := by decide
    rw [F_X8_count_95, RT_n R, if_neg (nI_ge (by omega) (by omega)), isOn_r (by omega), nI_1]
    rcases (RT_K R (show j < n by omega)).2.2.2.2 with hs | hs | ⟨x, hs, hx, -, -⟩
    · have s1 : spk (ρ 92) j = -2 := by show (ρ 92 (49 + 11 * j)).toInt = -2; rw [hs, m2]
      rw [hs, if_pos im2, Option.bind_some, if_pos rfl, Int32.add_zero]
      refine ih (j + 1) nn v (by omega) (by omega) ?_
      simp only [occ, s1, if_true]
      simp
      omega
    · have s1 : spk (ρ 92) j = -3 := by show (ρ 92 (49 + 11 * j)).toInt = -3; rw [hs, m3]
      rw [hs, if_pos im3, Option.bind_some, if_pos rfl, Int32.add_zero]
      refine ih (j + 1) nn v (by omega) (by omega) ?_
      simp only [occ, s1, if_true]
      simp
      omega
    · have h72 := RT_72 R (Nat.le_refl m)
      have s1 : spk (ρ 92) j = x := spk_n hs (by omega)
      have n2 : ¬ (x : Int) = -2 := by omega
      have n3 : ¬ (x : Int) = -3 := by omega
      rw [hs, if_neg (show ¬ nI x < 0 from nI_pos (by omega)), Option.bind_some, if_neg i10, nI_1]
      refine ih (j + 1) nn (v + 1) (by omega) (by omega) ?_
      simp only [occ, s1, n2, n3, if_false]
      omega
theorem call_count (x : Int32) : CALR (fun σ => F_X7_count σ x) (fun σ => F_X8_count σ x) := by
  intro σ ρ I
  obtain ⟨⟨m, len, n, R⟩, -⟩ := I
  have h7 := RT_7 R
  have fu : n < FU := Nat.lt_of_le_of_lt h7 (by decide)
  show ∃ r, F_X7_count σ x = some r ∧ F_X8_count ρ x = some r
  obtain ⟨s1, a1, a2⟩ := allRoom_l (x := x) R 8 1 FU FU 0 (by omega) (by omega) (by decide) (by decide)
  obtain ⟨s2, b1, b2⟩ := allWorth_p R
  obtain ⟨w, c1, c2⟩ := onroad_l (x := x) R n 0 FU 0 (by omega) fu rfl
  have m2 : (-2 : Int32).toInt = -2 := by decide
  have m3 : (-3 : Int32).toInt = -3 := by decide
  have e0 : σ 1 0 = nI m := (RT_R R).1
  have e1 : σ 1 1 = nI (PS len m) := (RT_R R).2.1
  have e2 : σ 0 2 = nI n := RT_2 R
  have ea : F_X4_allRoom σ 0 = some s1 := a1
  have ec : F_X8_count_95 ρ x FU 0 0 = some (nI w) := c1
  have er : F_X8_count_64 ρ x FU 1 0 = some s1 := a2
  have ew : (nI n - nI (occ (spk (ρ 92)) (-2) n)) - nI (occ (spk (ρ 92)) (-3) n) = nI w := by
    rw [nI_sub (by omega), nI_sub (by omega)]
    congr 1
    omega
  unfold F_X7_count F_X8_count
  rw [e0, e1, e2, VS_m (RT_V R), RT_n R, endOf_r (RT_V R), ea, ec, er, b1, b2, howMany_c R, howMany_c R, m2, m3]
  simp only [obs, ew]
  by_cases k0 : x = 0
  · (repeat rw [if_pos k0]); exact ⟨_, rfl, rfl⟩
  (repeat rw [if_neg k0])
  by_cases k1 : x = 1
  · (repeat rw [if_pos k1]); exact ⟨_, rfl, rfl⟩
  (repeat rw [if_neg k1])
  by_cases k2 : x = 2
  · (repeat rw [if_pos k2]); exact ⟨_, rfl, rfl⟩
  (repeat rw [if_neg k2])
  by_cases k3 : x = 3
  · (repeat rw [if_pos k3]); exact ⟨_, rfl, rfl⟩
  (repeat rw [if_neg k3])
  by_cases k4 : x = 4
  · (repeat rw [if_pos k4]); exact ⟨_, rfl, rfl⟩
  (repeat rw [if_neg k4])
  by_cases k5 : x = 5
  · (repeat rw [if_pos k5]); exact ⟨_, rfl, rfl⟩
  (repeat rw [if_neg k5])
  exact ⟨_, rfl, rfl⟩
theorem call_words (x : Int32) : CALR (fun σ => F_X7_words σ x) (fun σ => F_X8_words σ x) := by
  intro σ ρ I
  have S := I.2.2.2.2
  show ∃ r, F_X7_words σ x = some r ∧ F_X8_words ρ x = some r
  unfold F_X7_words F_X8_words F_X8_wrongRule
  rcases shelf_x (ρ := ρ) x with ⟨h1, h2⟩ | ⟨d, hd, rfl, h1, h2⟩
  · rw [if_pos h1, h2, Option.bind_some, if_pos rfl]; exact ⟨-1, rfl, rfl⟩
  · obtain ⟨⟨s1, s2⟩, s3, -, -, -⟩ := S d hd
    rw [if_neg h1, h2, Option.bind_some, if_neg i10, ix_nI hd (by decide), Option.bind_some, Option.bind_some, Option.bind_some, Option.bind_some, Option.bind_some, s1]
    rcases s2 with q | q | q <;> rw [q]
    · exact ⟨-11, rfl, rfl⟩
    · obtain ⟨t1, t2, -, -⟩ := s3 q
      rw [t1, t2, if_neg i10, if_pos rfl, if_neg i10, if_pos rfl, Option.bind_some, if_pos rfl, show F_X7_wordsOf σ (ρ 100 d) (ρ 101 d) = F_X8_wordsBy ρ (ρ 100 d) (ρ 101 d) from rfl]
      unfold F_X8_wordsBy
      generalize ρ 100 d = K
      repeat' split
      all_goals exact ⟨_, rfl, rfl⟩
    · exact ⟨-12, rfl, rfl⟩
end G2
end
section
/-! calls that change: backs, rule, go, anew, image, restore -/
section SE
variable {σ σ' ρ ρ' : Mem} {t a m n : Nat} {k k' : Nat → Int32} {len : Nat → Nat}
/-- what lies beside the traffic now stays -/
theorem INV_now (I : INV σ ρ) (hc : ∀ i, 22 ≤ i → σ' i = σ i) (hr : ∀ i, i ≠ 92 → i ≠ 91 → ρ' i = ρ i) (h91 : ρ' 91 10 = ρ 91 10) (R : RT σ' 0 (ρ' 92) m len n) (L : LZ σ' 0) (w8 : σ' 0 8 = σ 0 8) (w9 : σ' 0 9 = σ 0 9) : INV σ' ρ' := by
  obtain ⟨-, -, ⟨⟨w1, w2⟩, w3, w4⟩, G, S⟩ := I
  refine ⟨⟨m, len, n, R⟩, L, ⟨⟨w8.trans w1, w9.trans w2⟩, ?_⟩, IMG_cc G (fun i h1 _ => hc i h1) (hc 66 (by omega)) (hr 93 (by omega) (by omega)) h91, SH_cc S (fun i h1 _ => hc i (by omega)) (fun i h1 _ => hr i (by omega) (by omega))⟩
  rw [hc 44 (by omega)]
  exact ⟨w3, w4⟩
theorem RT_bks (R : RT σ t k m len n) {c b : Nat} (hc : c < n) (hb : b ≤ 3) : RT (stm σ (22 * t + 15 + c) 3 (nI b)) t (upd k (47 + 11 * c) (nI b)) m len n := by
  have h7 := RT_7 R
  obtain ⟨V, ⟨hn, -⟩, ⟨M, hM, eM⟩, K, D, ⟨f2, f3, f4, f5⟩, W, hbb, hon, hz⟩ := R
  have h1 : ∀ i, i ≠ 22 * t + 15 + c → stm σ (22 * t + 15 + c) 3 (nI b) i = σ i := fun i hi => stm_ne _ _ _ hi
  have h2 : ∀ j, j ≠ 47 + 11 * c → upd k (47 + 11 * c) (nI b) j = k j := fun j hj => upd_ne _ _ hj
  refine ⟨VS_cg V (fun j hj _ _ _ _ => h2 j (by omega)), ⟨(h2 1 (by omega)).trans hn, h7⟩, ⟨M, hM, (h2 2 (by omega)).trans eM⟩, fun j hj => ?_, ?_, ?_, fun j hj => ?_, fun j hj q hq12 hq4 => ?_, fun s hs => ?_, fun j hj => ?_⟩
  · obtain ⟨q1, q2, q3, q4, q5⟩ := K j hj
    refine ⟨?_, ?_, ?_, ?_, ?_⟩
    · rw [h2 (44 + 11 * j) (by omega)]; exact q1
    · rw [h2 (46 + 11 * j) (by omega)]; exact q2
    · by_cases e : j = c
      · subst e; exact ⟨b, hb, upd_at _ _ _⟩
      · rw [h2 (47 + 11 * j) (by omega)]; exact q3
    · rw [h2 (48 + 11 * j) (by omega)]; exact q4
    · rw [h2 (44 + 11 * j) (by omega), h2 (49 + 11 * j) (by omega)]; exact q5
  · have h8 := V.1.2
    obtain ⟨d1, d2, d3, d4, d5, d6, d7, d8⟩ := D
    refine ⟨?_, ?_, fun p hp => ?_, fun p hp hp2 => ?_, fun p hp => ?_, fun p x hp hx hx2 => ?_, fun p x hp hx hx2 => ?_, fun v hv => ?_⟩
    · rw [h1 (22 * t + 1) (by omega)]; exact d1
    · rw [h1 (22 * t + 1) (by omega)]; exact d2
    · rw [h1 (22 * t + 2) (by omega), h1 (22 * t + 3) (by omega), h1 (22 * t + 4) (by omega), h2 (14 + 3 * p) (by omega), h2 (15 + 3 * p) (by omega), h2 (16 + 3 * p) (by omega)]; exact d3 p hp
    · rw [h1 (22 * t + 5) (by omega), h2 (5 + p) (by omega)]; exact d4 p hp hp2
    · rw [h1 (22 * t + 6) (by omega), h1 (22 * t + 7) (by omega), h1 (22 * t + 9) (by omega), h1 (22 * t + 10) (by omega)]; exact d5 p hp
    · rw [h1 (22 * t + 7) (by omega), h1 (22 * t + 9) (by omega), h1 (22 * t + 10) (by omega)]; exact d6 p x hp hx hx2
    · rw [h1 (22 * t + 8) (by omega)]; exact d7 p x hp hx hx2
    · rw [h1 (22 * t + 11) (by omega), h1 (22 * t + 12) (by omega), h2 (38 + 2 * v) (by omega), h2 (39 + 2 * v) (by omega)]; exact d8 v hv
  · rw [h1 (22 * t) (by omega), h2 1 (by omega), h2 2 (by omega), h2 3 (by omega), h2 4 (by omega)]; exact ⟨f2, f3, f4, f5⟩
  · by_cases e : j = c
    · subst e
      obtain ⟨w1, ⟨w2, w3, w4, w5, w6⟩, w7⟩ := W j hj
      rw [stm_row]
      unfold CW
      simp (disch := omega) only [upd_at, upd_ne]
      exact ⟨w1, ⟨w2, w3, trivial, w5, w6⟩, w7⟩
    · have w := W j hj
      unfold CW at w ⊢
      rw [h1 (22 * t + 15 + j) (by omega), h2 (44 + 11 * j) (by omega), h2 (45 + 11 * j) (by omega), h2 (46 + 11 * j) (by omega), h2 (47 + 11 * j) (by omega), h2 (48 + 11 * j) (by omega), h2 (49 + 11 * j) (by omega), h2 (50 + 11 * j) (by omega), h2 (51 + 11 * j) (by omega), h2 (52 + 11 * j) (by omega), h2 (53 + 11 * j) (by omega), h2 (54 + 11 * j) (by omega)]
      exact w
  · by_cases e : j = c
    · subst e
      rw [stm_row, upd_ne _ _ (by omega)]; exact hbb j hj q hq12 hq4
    · rw [h1 (22 * t + 15 + j) (by omega)]; exact hbb j hj q hq12 hq4
  · rw [h1 (22 * t + 14) (by omega), hon s hs, occ_cg (fun i hi => ?_)]
    show (k (49 + 11 * i)).toInt = (upd k (47 + 11 * c) (nI b) (49 + 11 * i)).toInt
    rw [h2 (49 + 11 * i) (by omega)]
  · rw [h2 (49 + 11 * j) (by omega), h2 (51 + 11 * j) (by omega)]; exact hz j hj
theorem call_backs (x y : Int32) : CALL (fun σ => F_X7_backs σ x y) (fun σ => F_X8_backs σ x y) := by
  intro σ ρ I
  obtain ⟨⟨m, len, n, R⟩, L, w, G, S⟩ := I
  have I : INV σ ρ := ⟨⟨m, len, n, R⟩, L, w, G, S⟩
  have h7 := RT_7 R
  show ∃ σ' r ρ', F_X7_backs σ x y = some (σ', r) ∧ F_X8_backs ρ x y = some (ρ', r) ∧ _
  unfold F_X7_backs F_X8_backs
  rcases cart_x R x with ⟨h1, h2⟩ | ⟨c, hc, rfl, h1, h2⟩
  · rw [if_pos h1, h2, Option.bind_some, if_pos rfl]; exact ⟨σ, -1, ρ, rfl, rfl, I, fun _ _ => rfl, fun _ _ => rfl⟩
  · have c7 : c < 7 := by omega
    rw [if_neg h1, h2, Option.bind_some, if_neg i10, ix_nI c7 (by decide), Option.bind_some]
    rcases rng (x := y) 4 (by omega) with ⟨k1, k2, k3⟩ | ⟨b, hb, rfl, g1, g2, g3, g4⟩
    · rw [if_pos (show y < 0 ∨ (3 : Int32) < y from k2)]
      refine ⟨σ, -1, ρ, ?_, rfl, I, fun _ _ => rfl, fun _ _ => rfl⟩
      by_cases q : y < 0
      · rw [if_pos q]
      · have q2 : (3 : Int32) < y := k2.resolve_left q
        rw [if_neg q, if_neg (Int32.not_le.mpr q2)]
    · have g4' : ¬ (3 : Int32) < nI b := g4
      have e3 : σ (22 * 0 + 15 + c) 3 = ρ 92 (47 + 11 * c) := (RT_C R hc).2.1.2.2.1
      rw [if_neg g1, if_pos (Int32.not_lt.mp g4'), if_neg (show ¬ (nI b < 0 ∨ (3 : Int32) < nI b) from fun q => q.elim g1 g4'), get3 c7, Option.bind_some, puts3 c7, Option.bind_some, e3]
      refine ⟨_, _, _, rfl, rfl, INV_now (m := m) (len := len) (n := n) I (fun i hi => stm_ne _ _ _ (by omega)) (fun i h1 _ => stm_ne _ _ _ h1) (by rw [stm_ne _ _ _ (by omega)]) ?_ (fun j hj => ?_) (by rw [stm_ne _ _ _ (by omega)]) (by rw [stm_ne _ _ _ (by omega)]), fun i hi => stm_ne _ _ _ (by omega), fun i hi => stm_ne _ _ _ (by omega)⟩
      · rw [stm_row]; exact RT_bks R hc (by omega)
      · by_cases e : j = c
        · subst e; rw [stm_row, upd_ne _ _ (by omega)]; exact L j hj
        · rw [stm_ne _ _ _ (by omega)]; exact L j hj
theorem RT_rule (R : RT σ t k m len n) {v q f : Nat} (hv : v < 3) (hq : q < 8) (hf : f ≤ 9) (h1 : ∀ i, i ≠ 22 * t + 11 → i ≠ 22 * t + 12 → σ' i = σ i) (h11 : σ' (22 * t + 11) = upd (σ (22 * t + 11)) v (nI q)) (h12 : σ' (22 * t + 12) = upd (σ (22 * t + 12)) v (nI f)) (hk : k' = upd (upd k (38 + 2 * v) (nI q)) (39 + 2 * v) (nI f)) : RT σ' t k' m len n := by
  have h7 := RT_7 R
  obtain ⟨V, ⟨hn, -⟩, ⟨M, hM, eM⟩, K, D, ⟨f2, f3, f4, f5⟩, W, hbb, hon, hz⟩ := R
  have h8 := V.1.2
  have h2 : ∀ j, j ≠ 38 + 2 * v → j ≠ 39 + 2 * v → k' j = k j := fun j q1 q2 => by rw [hk, upd_ne _ _ q2, upd_ne _ _ q1]
  have e1 : k' (38 + 2 * v) = nI q := by rw [hk, upd_ne _ _ (by omega), upd_at]
  have e2 : k' (39 + 2 * v) = nI f := by rw [hk, upd_at]
  refine ⟨?_, ⟨(h2 1 (by omega) (by omega)).trans hn, h7⟩, ⟨M, hM, (h2 2 (by omega) (by omega)).trans eM⟩, fun j hj => ?_, ?_, ?_, fun j hj => ?_, fun j hj q hq12 hq4 => ?_, fun s hs => ?_, fun j hj => ?_⟩
  · obtain ⟨⟨v1, v2⟩, v3, v4, v5, v6, v7⟩ := V
    refine ⟨⟨(h2 0 (by omega) (by omega)).trans v1, v2⟩, fun p hp => (h2 _ (by omega) (by omega)).trans (v3 p hp), v4, fun p hp => ?_, fun p hp hp8 => ?_, fun w hw => ?_⟩
    · rw [h2 (15 + 3 * p) (by omega) (by omega), h2 (16 + 3 * p) (by omega) (by omega)]; exact v5 p hp
    · rw [h2 (5 + p) (by omega) (by omega)]; exact v6 p hp hp8
    · by_cases e : w = v
      · subst e
        rw [e1, e2, nI_toInt (by omega), nI_toInt (by omega)]; omega
      · rw [h2 (38 + 2 * w) (by omega) (by omega), h2 (39 + 2 * w) (by omega) (by omega)]; exact v7 w hw
  · have q := K j hj
    unfold KO at q ⊢
    rw [h2 (44 + 11 * j) (by omega) (by omega), h2 (46 + 11 * j) (by omega) (by omega), h2 (47 + 11 * j) (by omega) (by omega), h2 (48 + 11 * j) (by omega) (by omega), h2 (49 + 11 * j) (by omega) (by omega)]
    exact q
  · obtain ⟨d1, d2, d3, d4, d5, d6, d7, d8⟩ := D
    refine ⟨?_, ?_, fun p hp => ?_, fun p hp hp2 => ?_, fun p hp => ?_, fun p x hp hx hx2 => ?_, fun p x hp hx hx2 => ?_, fun w hw => ?_⟩
    · rw [h1 (22 * t + 1) (by omega) (by omega)]; exact d1
    · rw [h1 (22 * t + 1) (by omega) (by omega)]; exact d2
    · rw [h1 (22 * t + 2) (by omega) (by omega), h1 (22 * t + 3) (by omega) (by omega), h1 (22 * t + 4) (by omega) (by omega), h2 (14 + 3 * p) (by omega) (by omega), h2 (15 + 3 * p) (by omega) (by omega), h2 (16 + 3 * p) (by omega) (by omega)]; exact d3 p hp
    · rw [h1 (22 * t + 5) (by omega) (by omega), h2 (5 + p) (by omega) (by omega)]; exact d4 p hp hp2
    · rw [h1 (22 * t + 6) (by omega) (by omega), h1 (22 * t + 7) (by omega) (by omega), h1 (22 * t + 9) (by omega) (by omega), h1 (22 * t + 10) (by omega) (by omega)]; exact d5 p hp
    · rw [h1 (22 * t + 7) (by omega) (by omega), h1 (22 * t + 9) (by omega) (by omega), h1 (22 * t + 10) (by omega) (by omega)]; exact d6 p x hp hx hx2
    · rw [h1 (22 * t + 8) (by omega) (by omega)]; exact d7 p x hp hx hx2
    · rw [h11, h12]
      by_cases e : w = v
      · subst e
        rw [upd_at, upd_at, e1, e2]; exact ⟨rfl, rfl⟩
      · rw [upd_ne _ _ e, upd_ne _ _ e, h2 (38 + 2 * w) (by omega) (by omega), h2 (39 + 2 * w) (by omega) (by omega)]; exact d8 w hw
  · rw [h1 (22 * t) (by omega) (by omega), h2 1 (by omega) (by omega), h2 2 (by omega) (by omega), h2 3 (by omega) (by omega), h2 4 (by omega) (by omega)]; exact ⟨f2, f3, f4, f5⟩
  · have w := W j hj
    unfold CW at w ⊢
    rw [h1 (22 * t + 15 + j) (by omega) (by omega), h2 (44 + 11 * j) (by omega) (by omega), h2 (45 + 11 * j) (by omega) (by omega), h2 (46 + 11 * j) (by omega) (by omega), h2 (47 + 11 * j) (by omega) (by omega), h2 (48 + 11 * j) (by omega) (by omega), h2 (49 + 11 * j) (by omega) (by omega), h2 (50 + 11 * j) (by omega) (by omega), h2 (51 + 11 * j) (by omega) (by omega), h2 (52 + 11 * j) (by omega) (by omega), h2 (53 + 11 * j) (by omega) (by omega), h2 (54 + 11 * j) (by omega) (by omega)]
    exact w
  · rw [h1 (22 * t + 15 + j) (by omega) (by omega)]; exact hbb j hj q hq12 hq4
  · rw [h1 (22 * t + 14) (by omega) (by omega), hon s hs, occ_cg (fun i hi => ?_)]
    show (k (49 + 11 * i)).toInt = (k' (49 + 11 * i)).toInt
    rw [h2 (49 + 11 * i) (by omega) (by omega)]
  · rw [h2 (49 + 11 * j) (by omega) (by omega), h2 (51 + 11 * j) (by omega) (by omega)]; exact hz j hj
/-- tellRule of the class where all is in range -/
theorem tellRule_c {v q f : Nat} (hv : v < 3) (hq : q < 8) (hf : f ≤ 9) : F_X4_tellRule σ t (nI v) (nI q) (nI f) = some (stm (stm σ (22 * t + 11) v (nI q)) (22 * t + 12) v (nI f), 1) := by
  unfold F_X4_tellRule
  rw [if_neg (nI_pos (by omega)), if_neg (show ¬ (3 : Int32) ≤ nI v from nI_ge (a := v) (b := 3) hv (by decide)), if_neg (nI_pos (by omega)), if_pos (show nI q < (8 : Int32) from nI_lt (a := q) (b := 8) hq (by decide)), if_neg (nI_pos (by omega)), if_pos (show nI f ≤ (9 : Int32) from nI_le (a := f) (b := 9) hf (by decide)), ix_nI hv (by decide), Option.bind_some, Option.bind_some]
theorem call_rule (x y : Int32) : CALL (fun σ => F_X7_rule σ x y) (fun σ => F_X8_rule σ x y) := by
  intro σ ρ I
  obtain ⟨⟨m, len, n, R⟩, L, w, G, S⟩ := I
  have I : INV σ ρ := ⟨⟨m, len, n, R⟩, L, w, G, S⟩
  show ∃ σ' r ρ', F_X7_rule σ x y = some (σ', r) ∧ F_X8_rule ρ x y = some (ρ', r) ∧ _
  unfold F_X7_rule F_X8_rule F_X8_wrongRule
  rcases shelf_x (ρ := ρ) x with ⟨h1, h2⟩ | ⟨d, hd, rfl, h1, h2⟩
  · rw [if_pos h1, h2, Option.bind_some, if_pos rfl]; exact ⟨σ, -1, ρ, rfl, rfl, I, fun _ _ => rfl, fun _ _ => rfl⟩
  obtain ⟨⟨s1, s2⟩, s3, -, -, -⟩ := S d hd
  rw [if_neg h1, h2, Option.bind_some, if_neg i10, ix_nI hd (by decide), Option.bind_some]
  rcases vill_x (ρ := ρ) y with ⟨h5, h6⟩ | ⟨v, hv, rfl, h5, h5', h6⟩
  · rw [h6, Option.bind_some, if_pos rfl]
    refine ⟨σ, -1, ρ, ?_, rfl, I, fun _ _ => rfl, fun _ _ => rfl⟩
    by_cases q : y < 0
    · rw [if_pos q]
    · rw [if_neg q, if_neg (h5 q)]
  rw [h6, Option.bind_some, if_neg i10, if_neg h5, if_pos h5', s1, Option.bind_some, if_neg i10, Option.bind_some, Option.bind_some]
  rcases s2 with q | q | q <;> rw [q]
  · exact ⟨σ, -11, ρ, rfl, rfl, I, fun _ _ => rfl, fun _ _ => rfl⟩
  · obtain ⟨t1, t2, ⟨q8, hq8, eq8⟩, ⟨f, hf, ef⟩⟩ := s3 q
    rw [if_neg i10, if_pos rfl, if_neg i10, if_pos rfl, Option.bind_some, if_pos rfl, t1, t2, ix38 hv, ix39 hv, eq8, ef, tellRule_c hv hq8 hf]
    simp only [obs, bd2_s]
    have c1 : stm (stm σ (22 * 0 + 11) v (nI q8)) (22 * 0 + 12) v (nI f) (68 + d) 1 = nI q8 := by rw [stm_ne _ _ _ (by omega), stm_ne _ _ _ (by omega), t1, eq8]
    have r1 : stm ρ 92 (38 + 2 * v) (ρ 100 d) 101 d = nI f := by rw [stm_ne _ _ _ (by omega)]; exact ef
    have r2 : ∀ z1 z2, stm (stm ρ 92 (38 + 2 * v) z1) 92 (39 + 2 * v) z2 100 d = nI q8 := fun z1 z2 => by rw [stm_ne _ _ _ (by omega), stm_ne _ _ _ (by omega)]; exact eq8
    rw [c1, r1, r2, eq8]
    refine ⟨_, _, _, rfl, rfl, INV_now (m := m) (len := len) (n := n) I (fun i hi => by rw [stm_ne _ _ _ (by omega), stm_ne _ _ _ (by omega)]) (fun i h1 _ => by rw [stm_ne _ _ _ h1, stm_ne _ _ _ h1]) (by rw [stm_ne _ _ _ (by omega), stm_ne _ _ _ (by omega)]) ?_ (fun j hj => ?_) (by rw [stm_ne _ _ _ (by omega), stm_ne _ _ _ (by omega)]) (by rw [stm_ne _ _ _ (by omega), stm_ne _ _ _ (by omega)]), fun i hi => by rw [stm_ne _ _ _ (by omega), stm_ne _ _ _ (by omega)], fun i hi => by rw [stm_ne _ _ _ (by omega), stm_ne _ _ _ (by omega)]⟩
    · refine RT_rule R hv hq8 hf (fun i i1 i2 => by rw [stm_ne _ _ _ i2, stm_ne _ _ _ i1]) (by rw [stm_ne _ _ _ (by omega), stm_row]) (by rw [stm_row, stm_ne _ _ _ (by omega)]) (by rw [stm_row, stm_row])
    · rw [stm_ne _ _ _ (by omega), stm_ne _ _ _ (by omega)]; exact L j hj
  · exact ⟨σ, -12, ρ, rfl, rfl, I, fun _ _ => rfl, fun _ _ => rfl⟩
theorem INV_MST (I : INV σ ρ) (h : MST σ ρ σ' ρ' 0 92 m len n) : INV σ' ρ' ∧ CF σ σ' ∧ RF ρ ρ' := by
  obtain ⟨R, -, ⟨c1, c2, c3, c4⟩, ⟨r1, r2⟩, -⟩ := h
  refine ⟨INV_now I (fun i hi => c1 i (by omega)) (fun i h1 h2 => r1 i h1 h2) (r2 10 (by omega) (by omega)) R (fun j hj => (c2 j hj).trans (I.2.1 j hj)) c3 c4, fun i hi => c1 i (by omega), fun i hi => r1 i (by omega) (by omega)⟩
theorem isEmpty_p (R : RT σ 0 (ρ 92) m len n) : ∃ b, F_X7_cannotRun σ = some (bI b) ∧ F_X8_isEmpty ρ = some (bI b) ∧ (b = false → 0 < m ∧ 0 < n) := by
  have h7 := RT_7 R
  have h8 := RT_8 R
  have e0 : σ 1 0 = nI m := (RT_R R).1
  have e2 : σ 0 2 = nI n := RT_2 R
  unfold F_X7_cannotRun F_X8_isEmpty
  rw [e0, e2, VS_m (RT_V R), RT_n R]
  by_cases k1 : nI m = 0
  · rw [if_pos k1]; exact ⟨true, rfl, rfl, nofun⟩
  · rw [if_neg k1]
    by_cases k2 : nI n = 0
    · rw [if_pos k2]; exact ⟨true, rfl, rfl, nofun⟩
    · rw [if_neg k2]
      refine ⟨false, rfl, rfl, fun _ => ⟨?_, ?_⟩⟩
      · rcases Nat.eq_zero_or_pos m with q | q
        · subst q; exact absurd rfl k1
        · exact q
      · rcases Nat.eq_zero_or_pos n with q | q
        · subst q; exact absurd rfl k2
        · exact q
theorem call_go (x : Int32) : CALL (fun σ => F_X7_go σ x) (fun σ => F_X8_go σ x) := by
  intro σ ρ I
  obtain ⟨⟨m, len, n, R⟩, L, w, G, S⟩ := I
  have I : INV σ ρ := ⟨⟨m, len, n, R⟩, L, w, G, S⟩
  show ∃ σ' r ρ', F_X7_go σ x = some (σ', r) ∧ F_X8_go ρ x = some (ρ', r) ∧ _
  obtain ⟨b, e1, e2, e3⟩ := isEmpty_p R
  obtain ⟨be, d1, d2, d3⟩ := isEnded_p R
  unfold F_X7_go F_X8_go
  rw [e1, e2, d1, d2]
  simp only [obs]
  by_cases k1 : x < 1
  · rw [if_pos k1, if_pos (Or.inl k1)]; exact ⟨σ, -1, ρ, rfl, rfl, I, fun _ _ => rfl, fun _ _ => rfl⟩
  by_cases k2 : x ≤ 200
  · rw [if_neg k1, if_pos k2, if_neg (show ¬ (x < 1 ∨ (200 : Int32) < x) from fun q => q.elim k1 (fun q => absurd k2 (Int32.not_le.mpr q)))]
    cases b with
    | true => rw [bI_t, if_neg i10, if_neg i10]; exact ⟨σ, -3, ρ, rfl, rfl, I, fun _ _ => rfl, fun _ _ => rfl⟩
    | false =>
      rw [bI_f, if_pos rfl, if_pos rfl]
      cases be with
      | true => rw [bI_t, if_neg i10, if_neg i10]; exact ⟨σ, -3, ρ, rfl, rfl, I, fun _ _ => rfl, fun _ _ => rfl⟩
      | false =>
        rw [bI_f, if_pos rfl, if_pos rfl]
        obtain ⟨σ', ρ', v, q1, q2, q3⟩ := go_l (x := x) 201 FU FU 0 σ ρ R (Or.inl w.1) (e3 rfl).1 (by omega) k2 (by decide) (by decide)
        obtain ⟨i1, i2, i3⟩ := INV_MST I q3
        exact ⟨σ', v, ρ', q1, q2, i1, i2, i3⟩
  · rw [if_neg k1, if_neg k2, if_pos (Or.inr (Int32.not_le.mp k2))]; exact ⟨σ, -1, ρ, rfl, rfl, I, fun _ _ => rfl, fun _ _ => rfl⟩
theorem call_anew : CALL (fun σ => F_X7_anew σ) (fun σ => F_X8_anew σ) := by
  intro σ ρ I
  obtain ⟨⟨m, len, n, R⟩, L, w, G, S⟩ := I
  have I : INV σ ρ := ⟨⟨m, len, n, R⟩, L, w, G, S⟩
  show ∃ σ' r ρ', F_X7_anew σ = some (σ', r) ∧ F_X8_anew ρ = some (ρ', r) ∧ _
  obtain ⟨ρ', g1, g2, g3, g4⟩ := anews_r (ρ := ρ) (a := 92) (RT_n R) (RT_7 R)
  have R' : RT (tbeg σ 0) 0 (ρ' 92) m len n := tbeg_p (RTS_cg (RTS_of R) g3) g4
  have c := FrC_tbeg (σ := σ) (t := 0)
  unfold F_X7_anew F_X8_anew
  rw [g1, Option.bind_some, show tbeg σ 0 0 2 = nI n from RT_2 (σ := tbeg σ 0) (t := 0) R', RT_n R']
  exact ⟨_, _, _, rfl, rfl, INV_now I (fun i hi => c.1 i (by omega)) (fun i h1 _ => g2 i h1) (by rw [g2 91 (by omega)]) R' (fun j hj => (c.2.1 j hj).trans (L j hj)) c.2.2.1 c.2.2.2, fun i hi => c.1 i (by omega), fun i hi => g2 i (by omega)⟩
theorem image_l {m n : Nat} : ∀ (d j nn : Nat) (ρ : Mem), j + d = 121 → d < nn → (∀ q, q < j → ρ 93 q = ρ 92 q) → ∃ ρ' : Mem, F_X8_image_2 nn ρ (nI j) = some (ρ', ρ 92 2) ∧ (∀ i, i ≠ 93 → i ≠ 91 → ρ' i = ρ i) ∧ (∀ j, j ≠ 10 → ρ' 91 j = ρ 91 j) ∧ ρ' 91 10 = 1 ∧ ∀ q, q < 121 → ρ' 93 q = ρ 92 q := by
  intro d
  induction d with
  | zero =>
    intro j nn ρ e1 e2 hq
    obtain rfl : j = 121 := by omega
    obtain ⟨nn, rfl⟩ : ∃ j, nn = j + 1 := ⟨nn - 1, by omega⟩
    rw [F_X8_image_2, if_pos (show (121 : Int32) ≤ nI 121 by decide)]
    exact ⟨_, by rw [stm_ne _ _ _ (by omega)], fun i _ h2 => stm_ne _ _ _ h2, fun j h => by rw [stm_row, upd_ne _ _ h], by rw [stm_row, upd_at], fun q h => by rw [stm_ne _ _ _ (by omega)]; exact hq q h⟩
  | succ d ih =>
    intro j nn ρ e1 e2 hq
    obtain ⟨nn, rfl⟩ : ∃ j, nn = j + 1 := ⟨nn - 1, by omega⟩
    have e92 : stm ρ 93 j (ρ 92 j) 92 = ρ 92 := stm_ne _ _ _ (by omega)
    obtain ⟨ρ', i1, i2, i3, i4, i5⟩ := ih (j + 1) nn (stm ρ 93 j (ρ 92 j)) (by omega) (by omega) (fun q hq2 => by
      rw [e92, stm_row]
      by_cases e : q = j
      · subst e; rw [upd_at]
      · rw [upd_ne _ _ e]; exact hq q (by omega))
    rw [F_X8_image_2, if_neg (show ¬ (121 : Int32) ≤ nI j from nI_ge (a := j) (b := 121) (by omega) (by decide)), ix_nI (by omega) (by decide), Option.bind_some, Option.bind_some, nI_1]
    rw [e92] at i1 i5
    exact ⟨ρ', i1, fun i h1 h2 => by rw [i2 i h1 h2, stm_ne _ _ _ h1], fun q h => by rw [i3 q h, stm_ne _ _ _ (by omega)], i4, i5⟩
theorem restore_l : ∀ (d j nn : Nat) (ρ : Mem), j + d = 121 → d < nn → (∀ q, q < j → ρ 92 q = ρ 93 q) → ∃ ρ' : Mem, F_X8_restore_12 nn ρ (nI j) = some (ρ', ρ' 92 2) ∧ (∀ i, i ≠ 92 → ρ' i = ρ i) ∧ ∀ q, q < 121 → ρ' 92 q = ρ 93 q := by
  intro d
  induction d with
  | zero =>
    intro j nn ρ e1 e2 hq
    obtain rfl : j = 121 := by omega
    obtain ⟨nn, rfl⟩ : ∃ j, nn = j + 1 := ⟨nn - 1, by omega⟩
    rw [F_X8_restore_12, if_pos (show (121 : Int32) ≤ nI 121 by decide)]
    exact ⟨ρ, rfl, fun _ _ => rfl, hq⟩
  | succ d ih =>
    intro j nn ρ e1 e2 hq
    obtain ⟨nn, rfl⟩ : ∃ j, nn = j + 1 := ⟨nn - 1, by omega⟩
    have e93 : stm ρ 92 j (ρ 93 j) 93 = ρ 93 := stm_ne _ _ _ (by omega)
    obtain ⟨ρ', i1, i2, i3⟩ := ih (j + 1) nn (stm ρ 92 j (ρ 93 j)) (by omega) (by omega) (fun q hq2 => by
      rw [e93, stm_row]
      by_cases e : q = j
      · subst e; rw [upd_at]
      · rw [upd_ne _ _ e]; exact hq q (by omega))
    rw [F_X8_restore_12, if_neg (show ¬ (121 : Int32) ≤ nI j from nI_ge (a := j) (b := 121) (by omega) (by decide)), ix_nI (by omega) (by decide), Option.bind_some, Option.bind_some, nI_1]
    rw [e93] at i3
    exact ⟨ρ', i1, fun i h1 => by rw [i2 i h1, stm_ne _ _ _ h1], i3⟩
/-- a row of the same 121 cells is as good -/
theorem RT_121 (R : RT σ t k m len n) (h : ∀ q, q < 121 → k' q = k q) : RT σ t k' m len n := by
  have h7 := RT_7 R
  obtain ⟨V, ⟨hn, -⟩, ⟨M, hM, eM⟩, K, D, f, W, hbb, hon, hz⟩ := R
  have h8 := V.1.2
  refine ⟨VS_cg V (fun j hj _ _ _ _ => h j (by omega)), ⟨(h 1 (by omega)).trans hn, h7⟩, ⟨M, hM, (h 2 (by omega)).trans eM⟩, fun j hj => ?_, ?_, by rw [h 1 (by omega), h 2 (by omega), h 3 (by omega), h 4 (by omega)]; exact f, fun j hj => ?_, hbb, fun s hs => ?_, fun j hj => ?_⟩
  · have q := K j hj
    unfold KO at q ⊢
    rw [h (44 + 11 * j) (by omega), h (46 + 11 * j) (by omega), h (47 + 11 * j) (by omega), h (48 + 11 * j) (by omega), h (49 + 11 * j) (by omega)]
    exact q
  · obtain ⟨d1, d2, d3, d4, d5, d6, d7, d8⟩ := D
    refine ⟨d1, d2, fun p hp => ?_, fun p hp hp2 => ?_, d5, d6, d7, fun v hv => ?_⟩
    · rw [h (14 + 3 * p) (by omega), h (15 + 3 * p) (by omega), h (16 + 3 * p) (by omega)]; exact d3 p hp
    · rw [h (5 + p) (by omega)]; exact d4 p hp hp2
    · rw [h (38 + 2 * v) (by omega), h (39 + 2 * v) (by omega)]; exact d8 v hv
  · have w := W j hj
    unfold CW at w ⊢
    rw [h (44 + 11 * j) (by omega), h (45 + 11 * j) (by omega), h (46 + 11 * j) (by omega), h (47 + 11 * j) (by omega), h (48 + 11 * j) (by omega), h (49 + 11 * j) (by omega), h (50 + 11 * j) (by omega), h (51 + 11 * j) (by omega), h (52 + 11 * j) (by omega), h (53 + 11 * j) (by omega), h (54 + 11 * j) (by omega)]
    exact w
  · rw [hon s hs, occ_cg (fun i hi => ?_)]
    show (k (49 + 11 * i)).toInt = (k' (49 + 11 * i)).toInt
    rw [h (49 + 11 * i) (by omega)]
  · rw [h (49 + 11 * j) (by omega), h (51 + 11 * j) (by omega)]; exact hz j hj
theorem call_image : CALL (fun σ => F_X7_image σ) (fun σ => F_X8_image σ) := by
  intro σ ρ I
  obtain ⟨⟨m, len, n, R⟩, L, w, G, S⟩ := I
  show ∃ σ' r ρ', F_X7_image σ = some (σ', r) ∧ F_X8_image ρ = some (ρ', r) ∧ _
  obtain ⟨ρ', g1, g2, g3, g4, g5⟩ := image_l (m := m) (n := n) 121 0 FU ρ (by omega) (by decide) (fun q hq => absurd hq (Nat.not_lt_zero _))
  have g1' : F_X8_image ρ = some (ρ', ρ 92 2) := g1
  unfold F_X7_image
  have hc : ∀ i, i < 22 ∨ 44 ≤ i → i ≠ 66 → stm (tcpy σ 1 0) 66 3 1 i = σ i := fun i hi h66 => by rw [stm_ne _ _ _ h66, tcpy_ne σ (by omega)]
  have h66 : stm (tcpy σ 1 0) 66 3 1 66 3 = 1 := by rw [stm_row, upd_at]
  rw [ck_t _ (RT_b R), g1', hc 0 (by omega) (by omega), show σ 0 3 = ρ 92 2 from RT_3 R]
  refine ⟨_, _, _, rfl, rfl, ⟨⟨m, len, n, ?_⟩, LZ_cc L (fun i h1 h2 => hc i (by omega) (by omega)), ?_, Or.inr ⟨h66, g4, m, len, n, ?_, ?_⟩, SH_cc S (fun i h1 h2 => hc i (by omega) (by omega)) (fun i h1 h2 => g2 i (by omega) (by omega))⟩, fun i hi => hc i (by omega) (by omega), fun i hi => g2 i (by omega) (by omega)⟩
  · rw [g2 92 (by omega) (by omega)]
    exact RT_cc R (fun i h1 h2 => hc i (by omega) (by omega))
  · unfold WN
    rw [hc 0 (by omega) (by omega), hc 44 (by omega) (by omega)]; exact w
  · refine RT_121 (k := ρ 92) ?_ g5
    refine RT_cc (RT_cpy (t := 1) R (by omega)) (fun i h1 h2 => stm_ne _ _ _ (by omega))
  · intro j hj
    rw [stm_ne _ _ _ (by omega), tcpy_c (by omega) hj (by omega)]; exact L j hj
theorem call_restore : CALL (fun σ => F_X7_restore σ) (fun σ => F_X8_restore σ) := by
  intro σ ρ I
  obtain ⟨⟨m, len, n, R⟩, L, w, G, S⟩ := I
  have I : INV σ ρ := ⟨⟨m, len, n, R⟩, L, w, G, S⟩
  show ∃ σ' r ρ', F_X7_restore σ = some (σ', r) ∧ F_X8_restore ρ = some (ρ', r) ∧ _
  unfold F_X7_restore F_X8_restore
  rcases G with ⟨i1, i2⟩ | ⟨i1, i2, m1, len1, n1, R1, L1⟩
  · rw [i1, i2, if_pos rfl, if_pos rfl]; exact ⟨σ, -3, ρ, rfl, rfl, I, fun _ _ => rfl, fun _ _ => rfl⟩
  · obtain ⟨ρ', g1, g2, g3⟩ := restore_l 121 0 FU ρ (by omega) (by decide) (fun q hq => absurd hq (Nat.not_lt_zero _))
    have g1' : F_X8_restore_12 FU ρ 0 = some (ρ', ρ' 92 2) := g1
    have R' : RT (tcpy σ 0 1) 0 (ρ' 92) m1 len1 n1 := RT_121 (RT_cpy (t := 0) R1 (by omega)) g3
    have hc : ∀ i, 22 ≤ i → tcpy σ 0 1 i = σ i := fun i hi => tcpy_ne σ (by omega)
    have e0 : tcpy σ 0 1 0 = upd (upd (upd (upd (σ 0) 2 (σ 22 2)) 3 (σ 22 3)) 4 (σ 22 4)) 5 (σ 22 5) := tcpy_0 (t := 0) (u := 1) (by omega)
    rw [i1, i2, if_neg i10, if_neg i10, ck_t _ (RT_b R1), g1', show tcpy σ 0 1 0 3 = ρ' 92 2 from RT_3 (σ := tcpy σ 0 1) (t := 0) R']
    refine ⟨_, _, _, rfl, rfl, INV_now I hc (fun i h1 _ => g2 i h1) (by rw [g2 91 (by omega)]) R' (fun j hj => ?_) ?_ ?_, fun i hi => hc i (by omega), fun i hi => g2 i (by omega)⟩
    · rw [tcpy_c (by omega) hj (by omega)]; exact L1 j hj
    · rw [e0]; simp (disch := omega) only [upd_ne]
    · rw [e0]; simp (disch := omega) only [upd_ne]
end SE
end
section
/-! shelves: keep, row, put, copy -/
section SV
variable {σ σ' ρ ρ' : Mem}
def SD (σ ρ : Mem) (d : Nat) : Prop := (σ (68 + d) 0 = ρ 96 d ∧ (ρ 96 d = 0 ∨ ρ 96 d = 1 ∨ ρ 96 d = 2)) ∧ (ρ 96 d = 1 → σ (68 + d) 1 = ρ 100 d ∧ σ (68 + d) 2 = ρ 101 d ∧ (∃ q : Nat, q < 8 ∧ ρ 100 d = nI q) ∧ (∃ f : Nat, f ≤ 9 ∧ ρ 101 d = nI f)) ∧ σ (68 + d) 3 = ρ 97 d ∧ (σ (68 + d) 4 = ρ 98 d ∧ ∃ z : Nat, z ≤ 100 ∧ ρ 98 d = nI z) ∧ ∀ i, i < 100 → σ (76 + d) i = ρ 99 (100 * d + i)
theorem SH_one (S : SH σ ρ) {d : Nat} (hd : d < 8) (h : SD σ' ρ' d) (h1 : ∀ i, i ≠ 68 + d → i ≠ 76 + d → σ' i = σ i) (h2 : ∀ e, e ≠ d → ρ' 96 e = ρ 96 e ∧ ρ' 97 e = ρ 97 e ∧ ρ' 98 e = ρ 98 e ∧ ρ' 100 e = ρ 100 e ∧ ρ' 101 e = ρ 101 e) (h3 : ∀ q, ¬ (100 * d ≤ q ∧ q < 100 * d + 100) → ρ' 99 q = ρ 99 q) : SH σ' ρ' := by
  intro e he
  by_cases k : e = d
  · subst k; exact h
  · have s := S e he
    obtain ⟨a1, a2, a3, a4, a5⟩ := h2 e k
    rw [h1 (68 + e) (by omega) (by omega), a1, a2, a3, a4, a5]
    refine ⟨s.1, s.2.1, s.2.2.1, s.2.2.2.1, fun i hi => ?_⟩
    rw [h1 (76 + e) (by omega) (by omega), h3 (100 * e + i) (by omega)]
    exact s.2.2.2.2 i hi
theorem INV_sh (I : INV σ ρ) (S : SH σ' ρ') (h1 : ∀ i, i < 68 ∨ 84 ≤ i → σ' i = σ i) (h2 : ∀ i, i < 96 → ρ' i = ρ i) : INV σ' ρ' ∧ CF σ σ' ∧ RF ρ ρ' := by
  obtain ⟨⟨m, len, n, R⟩, L, ⟨⟨w1, w2⟩, w3, w4⟩, G, -⟩ := I
  refine ⟨⟨⟨m, len, n, ?_⟩, LZ_cc L (fun i _ _ => h1 i (by omega)), ?_, IMG_cc G (fun i _ _ => h1 i (by omega)) (h1 66 (by omega)) (h2 93 (by omega)) (by rw [h2 91 (by omega)]), S⟩, fun i hi => h1 i (by omega), fun i hi => h2 i (by omega)⟩
  · rw [h2 92 (by omega)]
    exact RT_cc R (fun i _ _ => h1 i (by omega))
  · unfold WN
    rw [h1 0 (by omega), h1 44 (by omega)]
    exact ⟨⟨w1, w2⟩, w3, w4⟩
theorem call_keep (x y z u : Int32) : CALL (fun σ => F_X7_keep σ x y z u) (fun σ => F_X8_keep σ x y z u) := by
  intro σ ρ I
  have S := I.2.2.2.2
  have no : ∀ {r : Int32}, ∃ σ' r' ρ', some (σ, r) = some (σ', r') ∧ some (ρ, r) = some (ρ', r') ∧ INV σ' ρ' ∧ CF σ σ' ∧ RF ρ ρ' := fun {r} => ⟨σ, r, ρ, rfl, rfl, I, fun _ _ => rfl, fun _ _ => rfl⟩
  show ∃ σ' r ρ', F_X7_keep σ x y z u = some (σ', r) ∧ F_X8_keep ρ x y z u = some (ρ', r) ∧ _
  unfold F_X7_keep F_X8_keep
  rcases shelf_x (ρ := ρ) x with ⟨h1, h2⟩ | ⟨d, hd, rfl, h1, h2⟩
  · rw [if_pos h1, h2, Option.bind_some, if_pos rfl]; exact no
  rw [if_neg h1, h2, Option.bind_some, if_neg i10, ix_nI hd (by decide)]
  simp only [obs]
  obtain ⟨⟨s1, s2⟩, s3, s4, s5, s6⟩ := S d hd
  rcases rng (x := y) 2 (by omega) with ⟨k1, k2, k3⟩ | ⟨b, hb, rfl, g1, g2, g3, g4⟩
  · rw [if_pos (show y < 0 ∨ (1 : Int32) < y from k2)]
    by_cases q : y < 0
    · rw [if_pos q]; exact no
    · have q2 : (1 : Int32) < y := k2.resolve_left q
      rw [if_neg q, if_neg (Int32.not_le.mpr q2)]; exact no
  · have g4' : ¬ (1 : Int32) < nI b := g4
    rw [if_neg g1, if_pos (Int32.not_lt.mp g4'), if_neg (show ¬ (nI b < 0 ∨ (1 : Int32) < nI b) from fun q => q.elim g1 g4')]
    have hb2 : b = 0 ∨ b = 1 := by omega
    have q1 : ∀ (v w : Int32) (i : Nat), i ≠ 96 → i ≠ 100 → i ≠ 101 → stm (stm (stm ρ 96 d v) 100 d w) 101 d u i = ρ i := fun v w i e1 e2 e3 => by rw [stm_ne _ _ _ e3, stm_ne _ _ _ e2, stm_ne _ _ _ e1]
    have q2 : ∀ (v w : Int32), stm (stm (stm ρ 96 d v) 100 d w) 101 d u 96 = upd (ρ 96) d v := fun v w => by rw [stm_ne _ _ _ (by omega), stm_ne _ _ _ (by omega), stm_row]
    have q3 : ∀ (v w : Int32), stm (stm (stm ρ 96 d v) 100 d w) 101 d u 100 = upd (ρ 100) d w := fun v w => by rw [stm_ne _ _ _ (by omega), stm_row, stm_ne _ _ _ (by omega)]
    have q4 : ∀ (v w : Int32), stm (stm (stm ρ 96 d v) 100 d w) 101 d u 101 = upd (ρ 101) d u := fun v w => by rw [stm_row, stm_ne _ _ _ (by omega), stm_ne _ _ _ (by omega)]
    have q5 : ∀ (v w : Int32) (e : Nat), e ≠ d → stm (stm (stm ρ 96 d v) 100 d w) 101 d u 96 e = ρ 96 e ∧ stm (stm (stm ρ 96 d v) 100 d w) 101 d u 97 e = ρ 97 e ∧ stm (stm (stm ρ 96 d v) 100 d w) 101 d u 98 e = ρ 98 e ∧ stm (stm (stm ρ 96 d v) 100 d w) 101 d u 100 e = ρ 100 e ∧ stm (stm (stm ρ 96 d v) 100 d w) 101 d u 101 e = ρ 101 e := fun v w e he => by
      rw [q2, q3, q4, q1 v w 97 (by omega) (by omega) (by omega), q1 v w 98 (by omega) (by omega) (by omega), upd_ne _ _ he, upd_ne _ _ he, upd_ne _ _ he]
      exact ⟨rfl, rfl, rfl, rfl, rfl⟩
    rcases hb2 with rfl | rfl
    · rw [if_pos (show nI 0 = 0 from rfl), if_neg (show ¬ nI 0 = 1 by decide)]
      suffices hSD : SD (stm σ (68 + d) 0 0) (stm (stm (stm ρ 96 d (nI 0)) 100 d z) 101 d u) d by
        obtain ⟨j1, j2, j3⟩ := INV_sh I (σ' := stm σ (68 + d) 0 0) (ρ' := stm (stm (stm ρ 96 d (nI 0)) 100 d z) 101 d u) (SH_one S hd hSD (fun i h1 _ => stm_ne _ _ _ h1) (q5 _ _) (fun q _ => by rw [q1 _ _ 99 (by omega) (by omega) (by omega)])) (fun i hi => stm_ne _ _ _ (by omega)) (fun i hi => q1 _ _ i (by omega) (by omega) (by omega))
        exact ⟨_, _, _, rfl, rfl, j1, j2, j3⟩
      · refine ⟨⟨?_, Or.inl ?_⟩, fun q => ?_, ?_, ?_, fun i hi => ?_⟩
        · rw [q2, upd_at, stm_row, upd_at]; rfl
        · rw [q2, upd_at]; rfl
        · rw [q2, upd_at] at q; exact absurd q (by decide)
        · rw [q1 _ _ 97 (by omega) (by omega) (by omega), stm_row, upd_ne _ _ (by omega)]; exact s4
        · rw [q1 _ _ 98 (by omega) (by omega) (by omega), stm_row, upd_ne _ _ (by omega)]; exact s5
        · rw [q1 _ _ 99 (by omega) (by omega) (by omega), stm_ne _ _ _ (by omega)]; exact s6 i hi
    · rw [if_neg (show ¬ nI 1 = 0 by decide), if_pos (show nI 1 = 1 from rfl)]
      rcases rng (x := z) 8 (by omega) with ⟨k1, k2, k3⟩ | ⟨K, hK, rfl, f1, f2, f3, f4⟩
      · rw [if_pos (show z < 0 ∨ (7 : Int32) < z from k2)]
        by_cases q : z < 0
        · rw [if_pos q]; exact no
        · rw [if_neg q, if_pos (show (8 : Int32) ≤ z from Int32.not_lt.mp (k3 q))]; exact no
      rw [if_neg f1, if_neg (show ¬ (8 : Int32) ≤ nI K from f3), if_neg (show ¬ (nI K < 0 ∨ (7 : Int32) < nI K) from fun q => q.elim f1 f4)]
      rcases rng (x := u) 10 (by omega) with ⟨k1, k2, k3⟩ | ⟨f, hf, rfl, e1, e2, e3, e4⟩
      · rw [if_pos (show u < 0 ∨ (9 : Int32) < u from k2)]
        by_cases q : u < 0
        · rw [if_pos q]; exact no
        · have q2 : (9 : Int32) < u := k2.resolve_left q
          rw [if_neg q, if_neg (Int32.not_le.mpr q2)]; exact no
      have e4' : ¬ (9 : Int32) < nI f := e4
      rw [if_neg e1, if_pos (Int32.not_lt.mp e4'), if_neg (show ¬ (nI f < 0 ∨ (9 : Int32) < nI f) from fun q => q.elim e1 e4')]
      have c0 : ∀ i, i ≠ 68 + d → stm (stm (stm σ (68 + d) 0 1) (68 + d) 1 (nI K)) (68 + d) 2 (nI f) i = σ i := fun i hi => by rw [stm_ne _ _ _ hi, stm_ne _ _ _ hi, stm_ne _ _ _ hi]
      have c1 : stm (stm (stm σ (68 + d) 0 1) (68 + d) 1 (nI K)) (68 + d) 2 (nI f) (68 + d) = upd (upd (upd (σ (68 + d)) 0 1) 1 (nI K)) 2 (nI f) := by rw [stm_row, stm_row, stm_row]
      suffices hSD : SD (stm (stm (stm σ (68 + d) 0 1) (68 + d) 1 (nI K)) (68 + d) 2 (nI f)) (stm (stm (stm ρ 96 d (nI 1)) 100 d (nI K)) 101 d (nI f)) d by
        obtain ⟨j1, j2, j3⟩ := INV_sh I (σ' := stm (stm (stm σ (68 + d) 0 1) (68 + d) 1 (nI K)) (68 + d) 2 (nI f)) (ρ' := stm (stm (stm ρ 96 d (nI 1)) 100 d (nI K)) 101 d (nI f)) (SH_one S hd hSD (fun i h1 _ => c0 i h1) (q5 _ _) (fun q _ => by rw [q1 _ _ 99 (by omega) (by omega) (by omega)])) (fun i hi => c0 i (by omega)) (fun i hi => q1 _ _ i (by omega) (by omega) (by omega))
        exact ⟨_, _, _, rfl, rfl, j1, j2, j3⟩
      · refine ⟨⟨?_, Or.inr (Or.inl ?_)⟩, fun _ => ⟨?_, ?_, ⟨K, hK, ?_⟩, f, by omega, ?_⟩, ?_, ?_, fun i hi => ?_⟩
        · rw [q2, upd_at, c1]; simp (disch := omega) only [upd_at, upd_ne]; rfl
        · rw [q2, upd_at]; rfl
        · rw [q3, upd_at, c1]; simp (disch := omega) only [upd_at, upd_ne]
        · rw [q4, upd_at, c1]; simp (disch := omega) only [upd_at]
        · rw [q3, upd_at]
        · rw [q4, upd_at]
        · rw [q1 _ _ 97 (by omega) (by omega) (by omega), c1]; simp (disch := omega) only [upd_ne]; exact s4
        · rw [q1 _ _ 98 (by omega) (by omega) (by omega), c1]; simp (disch := omega) only [upd_ne]; exact s5
        · rw [q1 _ _ 99 (by omega) (by omega) (by omega), c0 _ (by omega)]; exact s6 i hi
theorem becomeRow_l {d : Nat} {x y : Int32} : ∀ (e j nn : Nat) (σ : Mem), j + e = 100 → e < nn → (∀ i, i < j → σ (76 + d) i = 0) → ∃ σ', F_X5_becomeRow_17 d x y nn σ (nI j) = some σ' ∧ (∀ i, i ≠ 76 + d → σ' i = σ i) ∧ ∀ i, i < 100 → σ' (76 + d) i = 0 := by
  intro e
  induction e with
  | zero =>
    intro j nn σ e1 e2 h
    obtain rfl : j = 100 := by omega
    obtain ⟨nn, rfl⟩ : ∃ j, nn = j + 1 := ⟨nn - 1, by omega⟩
    rw [F_X5_becomeRow_17, if_pos (show (100 : Int32) ≤ nI 100 by decide)]
    exact ⟨σ, rfl, fun _ _ => rfl, h⟩
  | succ e ih =>
    intro j nn σ e1 e2 h
    obtain ⟨nn, rfl⟩ : ∃ j, nn = j + 1 := ⟨nn - 1, by omega⟩
    obtain ⟨σ', i1, i2, i3⟩ := ih (j + 1) nn (stm σ (76 + d) j 0) (by omega) (by omega) (fun i hi => by
      rw [stm_row]
      by_cases q : i = j
      · subst q; rw [upd_at]
      · rw [upd_ne _ _ q]; exact h i (by omega))
    rw [F_X5_becomeRow_17, if_neg (show ¬ (100 : Int32) ≤ nI j from nI_ge (a := j) (b := 100) (by omega) (by decide)), ix_nI (by omega) (by decide), Option.bind_some, nI_1]
    exact ⟨σ', i1, fun i hi => (i2 i hi).trans (stm_ne _ _ _ hi), i3⟩
theorem ix99 {d i : Nat} (hd : d < 8) (hi : i < 100) : ix 800 ((100 * nI d) + nI i) = some (100 * d + i) := by
  rw [show (100 : Int32) = nI 100 from rfl, nI_mul, nI_add]; exact ix_nI (by omega) (by decide)
theorem row58_l {d : Nat} {y z : Int32} (hd : d < 8) : ∀ (e j nn : Nat) (ρ : Mem), j + e = 100 → e < nn → (∀ i, i < j → ρ 99 (100 * d + i) = 0) → ∃ ρ', F_X8_row_58 (nI d) y z nn ρ (nI j) = some (ρ', 0) ∧ (∀ i, i ≠ 99 → ρ' i = ρ i) ∧ (∀ i, i < 100 → ρ' 99 (100 * d + i) = 0) ∧ ∀ q, ¬ (100 * d ≤ q ∧ q < 100 * d + 100) → ρ' 99 q = ρ 99 q := by
  intro e
  induction e with
  | zero =>
    intro j nn ρ e1 e2 h
    obtain rfl : j = 100 := by omega
    obtain ⟨nn, rfl⟩ : ∃ j, nn = j + 1 := ⟨nn - 1, by omega⟩
    rw [F_X8_row_58, if_pos (show (100 : Int32) ≤ nI 100 by decide)]
    exact ⟨ρ, rfl, fun _ _ => rfl, h, fun _ _ => rfl⟩
  | succ e ih =>
    intro j nn ρ e1 e2 h
    obtain ⟨nn, rfl⟩ : ∃ j, nn = j + 1 := ⟨nn - 1, by omega⟩
    obtain ⟨ρ', i1, i2, i3, i4⟩ := ih (j + 1) nn (stm ρ 99 (100 * d + j) 0) (by omega) (by omega) (fun i hi => by
      rw [stm_row]
      by_cases q : i = j
      · subst q; rw [upd_at]
      · rw [upd_ne _ _ (by omega)]; exact h i (by omega))
    rw [F_X8_row_58, if_neg (show ¬ (100 : Int32) ≤ nI j from nI_ge (a := j) (b := 100) (by omega) (by decide)), ix99 hd (by omega), Option.bind_some, nI_1]
    exact ⟨ρ', i1, fun i hi => (i2 i hi).trans (stm_ne _ _ _ hi), i3, fun q hq => by rw [i4 q hq, stm_row, upd_ne _ _ (by omega)]⟩
theorem call_row (x y z : Int32) : CALL (fun σ => F_X7_row σ x y z) (fun σ => F_X8_row σ x y z) := by
  intro σ ρ I
  have S := I.2.2.2.2
  have no : ∀ {r : Int32}, ∃ σ' r' ρ', some (σ, r) = some (σ', r') ∧ some (ρ, r) = some (ρ', r') ∧ INV σ' ρ' ∧ CF σ σ' ∧ RF ρ ρ' := fun {r} => ⟨σ, r, ρ, rfl, rfl, I, fun _ _ => rfl, fun _ _ => rfl⟩
  show ∃ σ' r ρ', F_X7_row σ x y z = some (σ', r) ∧ F_X8_row ρ x y z = some (ρ', r) ∧ _
  unfold F_X7_row F_X8_row
  rcases shelf_x (ρ := ρ) x with ⟨h1, h2⟩ | ⟨d, hd, rfl, h1, h2⟩
  · rw [if_pos h1, h2, Option.bind_some, if_pos rfl]; exact no
  rw [if_neg h1, h2, Option.bind_some, if_neg i10, ix_nI hd (by decide)]
  simp only [obs]
  rcases rng (x := y) 3 (by omega) with ⟨k1, k2, k3⟩ | ⟨b, hb, rfl, g1, g2, g3, g4⟩
  · rw [if_pos (show y < 0 ∨ (2 : Int32) < y from k2)]
    by_cases q : y < 0
    · rw [if_pos q]; exact no
    · have q2 : (2 : Int32) < y := k2.resolve_left q
      rw [if_neg q, if_pos q2]; exact no
  have g4' : ¬ (2 : Int32) < nI b := g4
  rw [if_neg g1, if_neg g4', if_neg (show ¬ (nI b < 0 ∨ (2 : Int32) < nI b) from fun q => q.elim g1 g4')]
  by_cases k1 : z ≤ 100
  · by_cases k2 : 0 ≤ z
    · obtain ⟨s, hs, rfl⟩ := nI_of2 (M := 100) (n := 100) (by decide) (Int32.not_lt.mpr k2) k1
      obtain ⟨σ', a1, a2, a3⟩ := becomeRow_l (d := d) (x := nI b) (y := nI s) 100 0 FU (stm (stm (stm σ (68 + d) 0 2) (68 + d) 3 (nI b)) (68 + d) 4 (nI s)) (by omega) (by decide) (fun i hi => absurd hi (Nat.not_lt_zero _))
      obtain ⟨ρ', b1, b2, b3, b4⟩ := row58_l (d := d) (y := nI b) (z := nI s) hd 100 0 FU (stm (stm (stm ρ 96 d 2) 97 d (nI b)) 98 d (nI s)) (by omega) (by decide) (fun i hi => absurd hi (Nat.not_lt_zero _))
      have a1' : F_X5_becomeRow σ d (nI b) (nI s) = some σ' := a1
      have b1' : F_X8_row_58 (nI d) (nI b) (nI s) FU (stm (stm (stm ρ 96 d 2) 97 d (nI b)) 98 d (nI s)) 0 = some (ρ', 0) := b1
      repeat rw [if_pos k1]
      repeat rw [if_pos k2]
      rw [a1', b1', Option.bind_some]
      have c0 : ∀ i, i ≠ 68 + d → i ≠ 76 + d → σ' i = σ i := fun i h1 h2 => by rw [a2 i h2, stm_ne _ _ _ h1, stm_ne _ _ _ h1, stm_ne _ _ _ h1]
      have c1 : σ' (68 + d) = upd (upd (upd (σ (68 + d)) 0 2) 3 (nI b)) 4 (nI s) := by rw [a2 _ (by omega), stm_row, stm_row, stm_row]
      have r0 : ∀ i, i ≠ 96 → i ≠ 97 → i ≠ 98 → i ≠ 99 → ρ' i = ρ i := fun i h1 h2 h3 h4 => by rw [b2 i h4, stm_ne _ _ _ h3, stm_ne _ _ _ h2, stm_ne _ _ _ h1]
      have r6 : ρ' 96 = upd (ρ 96) d 2 := by rw [b2 96 (by omega), stm_ne _ _ _ (by omega), stm_ne _ _ _ (by omega), stm_row]
      have r7 : ρ' 97 = upd (ρ 97) d (nI b) := by rw [b2 97 (by omega), stm_ne _ _ _ (by omega), stm_row, stm_ne _ _ _ (by omega)]
      have r8 : ρ' 98 = upd (ρ 98) d (nI s) := by rw [b2 98 (by omega), stm_row, stm_ne _ _ _ (by omega), stm_ne _ _ _ (by omega)]
      have y1 : ∀ e, e ≠ d → ρ' 96 e = ρ 96 e ∧ ρ' 97 e = ρ 97 e ∧ ρ' 98 e = ρ 98 e ∧ ρ' 100 e = ρ 100 e ∧ ρ' 101 e = ρ 101 e := fun e he => by
        rw [r6, r7, r8, upd_ne _ _ he, upd_ne _ _ he, upd_ne _ _ he, r0 100 (by omega) (by omega) (by omega) (by omega), r0 101 (by omega) (by omega) (by omega) (by omega)]
        exact ⟨rfl, rfl, rfl, rfl, rfl⟩
      have y2 : ∀ q, ¬ (100 * d ≤ q ∧ q < 100 * d + 100) → ρ' 99 q = ρ 99 q := fun q hq => by
        rw [b4 q hq, stm_ne _ _ _ (by omega), stm_ne _ _ _ (by omega), stm_ne _ _ _ (by omega)]
      suffices hSD : SD σ' ρ' d by
        obtain ⟨j1, j2, j3⟩ := INV_sh I (σ' := σ') (ρ' := ρ') (SH_one S hd hSD c0 y1 y2) (fun i hi => c0 i (by omega) (by omega)) (fun i hi => r0 i (by omega) (by omega) (by omega) (by omega))
        exact ⟨_, _, _, rfl, rfl, j1, j2, j3⟩
      · refine ⟨⟨?_, Or.inr (Or.inr ?_)⟩, fun q => ?_, ?_, ⟨?_, s, hs, ?_⟩, fun i hi => ?_⟩
        · rw [r6, upd_at, c1]; simp (disch := omega) only [upd_at, upd_ne]
        · rw [r6, upd_at]
        · rw [r6, upd_at] at q; exact absurd q (by decide)
        · rw [r7, upd_at, c1]; simp (disch := omega) only [upd_at, upd_ne]
        · rw [r8, upd_at, c1, upd_at]
        · rw [r8, upd_at]
        · rw [a3 i hi, b3 i hi]
    · repeat rw [if_pos k1]
      repeat rw [if_neg k2]
      exact no
  · repeat rw [if_neg k1]
    exact no
theorem call_put (x y z : Int32) : CALL (fun σ => F_X7_put σ x y z) (fun σ => F_X8_put σ x y z) := by
  intro σ ρ I
  have S := I.2.2.2.2
  have no : ∀ {r : Int32}, ∃ σ' r' ρ', some (σ, r) = some (σ', r') ∧ some (ρ, r) = some (ρ', r') ∧ INV σ' ρ' ∧ CF σ σ' ∧ RF ρ ρ' := fun {r} => ⟨σ, r, ρ, rfl, rfl, I, fun _ _ => rfl, fun _ _ => rfl⟩
  show ∃ σ' r ρ', F_X7_put σ x y z = some (σ', r) ∧ F_X8_put ρ x y z = some (ρ', r) ∧ _
  unfold F_X7_put F_X8_put F_X8_wrongRow
  rcases shelf_x (ρ := ρ) x with ⟨h1, h2⟩ | ⟨d, hd, rfl, h1, h2⟩
  · rw [if_pos h1, h2, Option.bind_some, if_pos rfl]; exact no
  obtain ⟨⟨s1, s2⟩, s3, s4, ⟨s5, zz, hz, ez⟩, s6⟩ := S d hd
  rw [if_neg h1, h2, ix_nI hd (by decide)]
  simp only [obs, i10, if_false, s1]
  rcases s2 with q | q | q <;> rw [q]
  · exact no
  · exact no
  · rw [if_neg (show ¬ (2 : Int32) = 0 by decide), if_pos rfl, if_neg (show ¬ (2 : Int32) = 0 by decide), if_pos rfl, if_pos (show (-1 : Int32) < 0 by decide), Option.bind_some, if_pos rfl, ez]
    unfold F_X5_hasElement F_X5_lowestBits
    rw [s5, ez, s4]
    rcases rng (x := y) zz (by omega) with ⟨k1, k2, k3⟩ | ⟨b, hb, rfl, g1, g2, g3, g4⟩
    · rw [if_pos k2]
      by_cases q : y < 0
      · rw [if_pos q, Option.bind_some, if_pos rfl]; exact no
      · rw [if_neg q, if_pos (k1.resolve_left q), Option.bind_some, if_pos rfl]; exact no
    · rw [if_neg (show ¬ (nI b < 0 ∨ nI zz - 1 < nI b) from fun q => q.elim g1 g4), if_neg g1, if_neg g3, if_neg (show ¬ (100 : Int32) ≤ nI b from nI_ge (a := b) (b := 100) (by omega) (by decide)), Option.bind_some, if_neg i10, ix_nI (n := 100) (show b < 100 by omega) (by decide), ix99 hd (show b < 100 by omega)]
      simp only [obs]
      have fin : ∀ v : Int32, ∃ σ' r' ρ', some (stm σ (76 + d) b v, (0 : Int32)) = some (σ', r') ∧ some (stm ρ 99 (100 * d + b) v, (0 : Int32)) = some (ρ', r') ∧ INV σ' ρ' ∧ CF σ σ' ∧ RF ρ ρ' := by
        intro v
        have y0 : ∀ i, i ≠ 99 → stm ρ 99 (100 * d + b) v i = ρ i := fun i hi => stm_ne _ _ _ hi
        have y1 : ∀ e, e ≠ d → stm ρ 99 (100 * d + b) v 96 e = ρ 96 e ∧ stm ρ 99 (100 * d + b) v 97 e = ρ 97 e ∧ stm ρ 99 (100 * d + b) v 98 e = ρ 98 e ∧ stm ρ 99 (100 * d + b) v 100 e = ρ 100 e ∧ stm ρ 99 (100 * d + b) v 101 e = ρ 101 e := fun e he => by
          rw [y0 96 (by omega), y0 97 (by omega), y0 98 (by omega), y0 100 (by omega), y0 101 (by omega)]
          exact ⟨rfl, rfl, rfl, rfl, rfl⟩
        have y2 : ∀ q, ¬ (100 * d ≤ q ∧ q < 100 * d + 100) → stm ρ 99 (100 * d + b) v 99 q = ρ 99 q := fun q hq => by
          rw [stm_row, upd_ne _ _ (by omega)]
        suffices hSD : SD (stm σ (76 + d) b v) (stm ρ 99 (100 * d + b) v) d by
          obtain ⟨j1, j2, j3⟩ := INV_sh I (σ' := stm σ (76 + d) b v) (ρ' := stm ρ 99 (100 * d + b) v) (SH_one S hd hSD (fun i _ h2 => stm_ne _ _ _ h2) y1 y2) (fun i hi => stm_ne _ _ _ (by omega)) (fun i hi => stm_ne _ _ _ (by omega))
          exact ⟨_, _, _, rfl, rfl, j1, j2, j3⟩
        · have s := S d hd
          have e1 : stm σ (76 + d) b v (68 + d) = σ (68 + d) := stm_ne _ _ _ (by omega)
          have e2 : ∀ i, i ≠ 99 → stm ρ 99 (100 * d + b) v i = ρ i := fun i hi => stm_ne _ _ _ hi
          unfold SD
          rw [e1, e2 96 (by omega), e2 97 (by omega), e2 98 (by omega), e2 100 (by omega), e2 101 (by omega)]
          refine ⟨s.1, s.2.1, s.2.2.1, s.2.2.2.1, fun i hi => ?_⟩
          rw [stm_row, stm_row]
          by_cases w : i = b
          · subst w; rw [upd_at, upd_at]
          · rw [upd_ne _ _ w, upd_ne _ _ (by omega)]; exact s6 i hi
      by_cases t0 : ρ 97 d = 0
      · repeat rw [if_pos t0]
        exact fin _
      · repeat rw [if_neg t0]
        by_cases t1 : ρ 97 d = 1
        · repeat rw [if_pos t1]
          exact fin _
        · repeat rw [if_neg t1]
          exact fin _
end SV
end
section
/-! copy -/
section CY
variable {σ σ' ρ ρ' : Mem}
theorem ix99b {d i a : Nat} (hd : d < 8) (hi : i + a < 100) : ix 800 (((100 * nI d) + nI i) + nI a) = some (100 * d + i + a) := by
  rw [show (100 : Int32) = nI 100 from rfl, nI_mul, nI_add, nI_add]; exact ix_nI (by omega) (by decide)
/-- the reference copies element by element, from the end where that is needed -/
theorem copy_l {d e i j n : Nat} (ρ0 : Mem) (hd : d < 8) (he : e < 8) (hi : i + n ≤ 100) (hj : j + n ≤ 100) : ∀ (q k nn : Nat) (ρ : Mem), k + q = n → q < nn → (∀ b, b ≠ 99 → ρ b = ρ0 b) → (∀ b, ρ 99 b = if (i ≤ j ∧ 100 * e + j + (n - k) ≤ b ∧ b < 100 * e + j + n) ∨ (¬ i ≤ j ∧ 100 * e + j ≤ b ∧ b < 100 * e + j + k) then ρ0 99 (100 * d + i + (b - (100 * e + j))) else ρ0 99 b) →
    ∃ ρ', F_X8_copy_122 (nI d) (nI i) (nI e) (nI j) (nI n) nn ρ (nI k) = some (ρ', nI n) ∧ (∀ b, b ≠ 99 → ρ' b = ρ0 b) ∧ ∀ b, ρ' 99 b = if 100 * e + j ≤ b ∧ b < 100 * e + j + n then ρ0 99 (100 * d + i + (b - (100 * e + j))) else ρ0 99 b := by
  intro q
  induction q with
  | zero =>
    intro k nn ρ e1 e2 h1 h2
    obtain rfl : k = n := by omega
    obtain ⟨nn, rfl⟩ : ∃ j, nn = j + 1 := ⟨nn - 1, by omega⟩
    rw [F_X8_copy_122, if_pos (nI_le (Nat.le_refl _) (by omega))]
    refine ⟨ρ, rfl, h1, fun b => ?_⟩
    rw [h2 b]
    by_cases w : 100 * e + j ≤ b ∧ b < 100 * e + j + k
    · rw [if_pos (by omega), if_pos w]
    · rw [if_neg (by omega), if_neg w]
  | succ q ih =>
    intro k nn ρ e1 e2 h1 h2
    obtain ⟨nn, rfl⟩ : ∃ j, nn = j + 1 := ⟨nn - 1, by omega⟩
    rw [F_X8_copy_122, if_neg (nI_ge (by omega) (by omega))]
    by_cases c : i ≤ j
    · have ea : (nI n - 1) - nI k = nI (n - 1 - k) := by rw [nI_sub1 (by omega), nI_sub (by omega)]
      rw [if_pos (nI_le c (by omega)), ea, ix99b hd (by omega), ix99b he (by omega), Option.bind_some, Option.bind_some, nI_1]
      refine ih (k + 1) nn _ (by omega) (by omega) (fun b hb => by rw [stm_ne _ _ _ hb]; exact h1 b hb) (fun b => ?_)
      rw [stm_row]
      have src : ρ 99 (100 * d + i + (n - 1 - k)) = ρ0 99 (100 * d + i + (n - 1 - k)) := by
        rw [h2, if_neg (by omega)]
      by_cases w : b = 100 * e + j + (n - 1 - k)
      · subst w
        rw [upd_at, src, if_pos (by omega), show 100 * e + j + (n - 1 - k) - (100 * e + j) = n - 1 - k by omega]
      · rw [upd_ne _ _ w, h2]
        by_cases w2 : 100 * e + j + (n - k) ≤ b ∧ b < 100 * e + j + n
        · rw [if_pos (by omega), if_pos (by omega)]
        · rw [if_neg (by omega), if_neg (by omega)]
    · rw [if_neg (nI_ge (by omega) (by omega)), ix99b hd (by omega), ix99b he (by omega), Option.bind_some, Option.bind_some, nI_1]
      refine ih (k + 1) nn _ (by omega) (by omega) (fun b hb => by rw [stm_ne _ _ _ hb]; exact h1 b hb) (fun b => ?_)
      rw [stm_row]
      have src : ρ 99 (100 * d + i + k) = ρ0 99 (100 * d + i + k) := by
        rw [h2, if_neg (by omega)]
      by_cases w : b = 100 * e + j + k
      · subst w
        rw [upd_at, src, if_pos (by omega), show 100 * e + j + k - (100 * e + j) = k by omega]
      · rw [upd_ne _ _ w, h2]
        by_cases w2 : 100 * e + j ≤ b ∧ b < 100 * e + j + k
        · rw [if_pos (by omega), if_pos (by omega)]
        · rw [if_neg (by omega), if_neg (by omega)]
theorem hasEl_c {d z : Nat} {x n : Int32} (hs : σ (68 + d) 4 = nI z) (hz : z ≤ 100) : F_X5_hasElements σ d x n = some (bI (decide (0 ≤ x.toInt ∧ 0 ≤ n.toInt ∧ x.toInt + n.toInt ≤ z))) := by
  have z0 : (0 : Int32).toInt = 0 := by decide
  unfold F_X5_hasElements
  rw [hs]
  by_cases k1 : x < 0
  · rw [if_pos k1]
    rw [i32_lt, z0] at k1
    rw [decide_eq_false (by omega)]; rfl
  rw [if_neg k1]
  rw [i32_lt, z0] at k1
  by_cases k2 : n < 0
  · rw [if_pos k2]
    rw [i32_lt, z0] at k2
    rw [decide_eq_false (by omega)]; rfl
  rw [if_neg k2]
  rw [i32_lt, z0] at k2
  by_cases k3 : nI z < n
  · rw [if_pos k3]
    rw [i32_lt, nI_toInt (by omega)] at k3
    rw [decide_eq_false (by omega)]; rfl
  rw [if_neg k3]
  rw [i32_lt, nI_toInt (by omega)] at k3
  have hs2 : (nI z - n).toInt = (z : Int) - n.toInt := by
    rw [t_sub (by rw [nI_toInt (by omega)]; omega) (by rw [nI_toInt (by omega)]; omega), nI_toInt (by omega)]
  by_cases k4 : nI z - n < x
  · rw [if_pos k4]
    rw [i32_lt, hs2] at k4
    rw [decide_eq_false (by omega)]; rfl
  · rw [if_neg k4]
    rw [i32_lt, hs2] at k4
    rw [decide_eq_true (by omega)]; rfl
theorem call_copy (x i y j n : Int32) : CALL (fun σ => F_X7_copy σ x i y j n) (fun σ => F_X8_copy σ x i y j n) := by
  intro σ ρ I
  have S := I.2.2.2.2
  have no : ∀ {r : Int32}, ∃ σ' r' ρ', some (σ, r) = some (σ', r') ∧ some (ρ, r) = some (ρ', r') ∧ INV σ' ρ' ∧ CF σ σ' ∧ RF ρ ρ' := fun {r} => ⟨σ, r, ρ, rfl, rfl, I, fun _ _ => rfl, fun _ _ => rfl⟩
  show ∃ σ' r ρ', F_X7_copy σ x i y j n = some (σ', r) ∧ F_X8_copy ρ x i y j n = some (ρ', r) ∧ _
  unfold F_X7_copy F_X8_copy
  rcases shelf_x (ρ := ρ) x with ⟨h1, h2⟩ | ⟨d, hd, rfl, h1, h2⟩
  · rw [if_pos h1, h2, Option.bind_some, if_pos rfl]
    rcases shelf_x (ρ := ρ) y with ⟨h3, h4⟩ | ⟨e, he, rfl, h3, h4⟩
    · rw [if_pos h3]; exact no
    · rw [if_neg h3, ix_nI he (by decide), Option.bind_some]; exact no
  rcases shelf_x (ρ := ρ) y with ⟨h3, h4⟩ | ⟨e, he, rfl, h3, h4⟩
  · rw [if_neg h1, h2, ix_nI hd (by decide), Option.bind_some, Option.bind_some, if_neg i10, if_pos h3, h4, Option.bind_some, if_pos rfl]; exact no
  obtain ⟨⟨s1, s2⟩, s3, s4, ⟨s5, zd, hzd, ezd⟩, s6⟩ := S d hd
  obtain ⟨⟨t1, t2⟩, t3, t4, ⟨t5, ze, hze, eze⟩, t6⟩ := S e he
  rw [if_neg h1, h2, ix_nI hd (by decide), h4, ix_nI he (by decide)]
  simp only [obs, i10, h3, if_false, s1, t1, s4, t4, ezd, eze]
  by_cases k1 : ρ 96 d = 0
  · repeat rw [if_pos k1]
    exact no
  repeat rw [if_neg k1]
  by_cases k2 : ρ 96 e = 0
  · repeat rw [if_pos k2]
    exact no
  repeat rw [if_neg k2]
  by_cases k3 : ρ 96 d = 2
  rotate_left
  · repeat rw [if_neg k3]
    exact no
  repeat rw [if_pos k3]
  by_cases k4 : ρ 96 e = 2
  rotate_left
  · repeat rw [if_neg k4]
    exact no
  repeat rw [if_pos k4]
  by_cases k5 : ρ 97 d = ρ 97 e
  rotate_left
  · repeat rw [if_neg k5]
    exact no
  repeat rw [if_pos k5]
  rw [hasEl_c (s5.trans ezd) hzd, hasEl_c (t5.trans eze) hze]
  simp only [obs]
  have z0 : (0 : Int32).toInt = 0 := by decide
  have b0 : ∀ b : Bool, b = false → bI b = 0 := fun b h => by rw [h]; rfl
  have b1 : ∀ b : Bool, b = true → ¬ bI b = 0 := fun b h => by rw [h]; decide
  by_cases k6 : n < 0
  · rw [if_pos k6, if_pos (b0 _ (decide_eq_false (fun q => by rw [i32_lt, z0] at k6; omega)))]; exact no
  rw [if_neg k6]
  rw [i32_lt, z0] at k6
  by_cases k7 : i < 0
  · rw [if_pos k7, if_pos (b0 _ (decide_eq_false (fun q => by rw [i32_lt, z0] at k7; omega)))]; exact no
  rw [if_neg k7]
  rw [i32_lt, z0] at k7
  by_cases k8 : j < 0
  · rw [if_pos k8, if_pos (b0 (decide (0 ≤ j.toInt ∧ _)) (decide_eq_false (fun q => by rw [i32_lt, z0] at k8; omega)))]
    by_cases g : bI (decide (0 ≤ i.toInt ∧ 0 ≤ n.toInt ∧ i.toInt + n.toInt ≤ (zd : Int))) = 0
    · rw [if_pos g]; exact no
    · rw [if_neg g]; exact no
  rw [if_neg k8]
  rw [i32_lt, z0] at k8
  have li := Int32.toInt_lt i
  have lj := Int32.toInt_lt j
  have hs1 : (nI zd - i).toInt = (zd : Int) - i.toInt := by
    rw [t_sub (by rw [nI_toInt (by omega)]; omega) (by rw [nI_toInt (by omega)]; omega), nI_toInt (by omega)]
  have hs2 : (nI ze - j).toInt = (ze : Int) - j.toInt := by
    rw [t_sub (by rw [nI_toInt (by omega)]; omega) (by rw [nI_toInt (by omega)]; omega), nI_toInt (by omega)]
  by_cases k9 : nI zd - i < n
  · rw [if_pos k9, if_pos (b0 _ (decide_eq_false (fun q => by rw [i32_lt, hs1] at k9; omega)))]; exact no
  rw [if_neg k9]
  rw [i32_lt, hs1] at k9
  rw [if_neg (b1 (decide (0 ≤ i.toInt ∧ _)) (decide_eq_true (by omega)))]
  by_cases k10 : n ≤ nI ze - j
  rotate_left
  · rw [if_neg k10, if_pos (b0 _ (decide_eq_false (fun q => by rw [i32_le, hs2] at k10; omega)))]; exact no
  rw [if_pos k10]
  rw [i32_le, hs2] at k10
  rw [if_neg (b1 (decide (0 ≤ j.toInt ∧ _)) (decide_eq_true (by omega)))]
  rw [ck_t _ (show cpok i j n 100 100 from ⟨by omega, by omega, by omega, by omega, by omega⟩)]
  obtain ⟨i', hi', rfl⟩ : ∃ i' : Nat, i' ≤ 100 ∧ i = nI i' := ⟨i.toInt.toNat, by omega, nI_i (by omega) (by omega)⟩
  obtain ⟨j', hj', rfl⟩ : ∃ j' : Nat, j' ≤ 100 ∧ j = nI j' := ⟨j.toInt.toNat, by omega, nI_i (by omega) (by omega)⟩
  obtain ⟨n', hn', rfl⟩ : ∃ n' : Nat, n' ≤ 100 ∧ n = nI n' := ⟨n.toInt.toNat, by omega, nI_i (by omega) (by omega)⟩
  rw [nI_toInt (show i' < 2 ^ 31 by omega), nI_toInt (show n' < 2 ^ 31 by omega)] at k9
  rw [nI_toInt (show j' < 2 ^ 31 by omega), nI_toInt (show n' < 2 ^ 31 by omega)] at k10
  rw [nI_clamp (show i' < 2 ^ 31 by omega), nI_clamp (show j' < 2 ^ 31 by omega), nI_clamp (show n' < 2 ^ 31 by omega)]
  obtain ⟨ρ', a1, a2, a3⟩ := copy_l (d := d) (e := e) (i := i') (j := j') (n := n') ρ hd he (by omega) (by omega) n' 0 FU ρ (by omega) (Nat.lt_of_le_of_lt (show n' ≤ 100 by omega) (by decide)) (fun _ _ => rfl) (fun b => by rw [if_neg (by omega)])
  have a1' : F_X8_copy_122 (nI d) (nI i') (nI e) (nI j') (nI n') FU ρ 0 = some (ρ', nI n') := a1
  have c0 : ∀ b, b ≠ 76 + e → cpm σ (76 + d) i' (76 + e) j' n' b = σ b := fun b hb => by simp [cpm, hb]
  have c1 : ∀ b, cpm σ (76 + d) i' (76 + e) j' n' (76 + e) b = if j' ≤ b ∧ b < j' + n' then σ (76 + d) (i' + (b - j')) else σ (76 + e) b := fun b => by simp [cpm, va_cpy]
  have hSD : SD (cpm σ (76 + d) i' (76 + e) j' n') ρ' e := by
    have s := S e he
    unfold SD
    rw [c0 (68 + e) (by omega), a2 96 (by omega), a2 97 (by omega), a2 98 (by omega), a2 100 (by omega), a2 101 (by omega)]
    refine ⟨s.1, s.2.1, s.2.2.1, s.2.2.2.1, fun b hb => ?_⟩
    rw [c1, a3]
    by_cases w : j' ≤ b ∧ b < j' + n'
    · rw [if_pos w, if_pos (by omega), s6 _ (by omega), show 100 * d + i' + (100 * e + b - (100 * e + j')) = 100 * d + (i' + (b - j')) by omega]
    · rw [if_neg w, if_neg (by omega)]; exact t6 b hb
  obtain ⟨j1, j2, j3⟩ := INV_sh I (σ' := cpm σ (76 + d) i' (76 + e) j' n') (ρ' := ρ') (SH_one S he hSD (fun b _ h => c0 b h) (fun q hq => by rw [a2 96 (by omega), a2 97 (by omega), a2 98 (by omega), a2 100 (by omega), a2 101 (by omega)]; exact ⟨rfl, rfl, rfl, rfl, rfl⟩) (fun q hq => by rw [a3, if_neg (by omega)])) (fun b hb => c0 b (by omega)) (fun b hb => a2 b (by omega))
  exact ⟨_, _, _, rfl, a1', j1, j2, j3⟩
end CY
end
section
/-! runs in mind: what the calls share -/
def KX (P : Nat → Prop) (k k' : Nat → Int32) : Prop := ∀ j, st2 j → ¬ P j → k' j = k j
def P0 : Nat → Prop := fun _ => False
theorem KX_0 {k k' : Nat → Int32} : KX P0 k k' ↔ K2 k k' := ⟨fun h j hj => h j hj id, fun h j hj _ => h j hj⟩
theorem KX_s {P : Nat → Prop} {k k' : Nat → Int32} (h : KX P k k') : KX P k' k := fun j hj hp => (h j hj hp).symm
theorem KX_tr {P : Nat → Prop} {k k' k'' : Nat → Int32} (h : KX P k k') (h' : KX P k' k'') : KX P k k'' := fun j hj hp => (h' j hj hp).trans (h j hj hp)
theorem KX_w {P Q : Nat → Prop} {k k' : Nat → Int32} (h : KX P k k') (hw : ∀ j, P j → Q j) : KX Q k k' := fun j hj hp => h j hj (fun q => hp (hw j q))
theorem KX_of {P : Nat → Prop} {k k' : Nat → Int32} (h : K2 k k') : KX P k k' := fun j hj _ => h j hj
def MC (σ0 σ : Mem) : Prop := (∀ i, i < 44 ∨ 66 ≤ i → i ≠ 84 → σ i = σ0 i) ∧ σ 44 8 = -4 ∧ σ 44 9 = -4
def MR (ρ0 ρ : Mem) : Prop := (∀ i, i ≠ 94 → i ≠ 91 → ρ i = ρ0 i) ∧ ρ 91 10 = ρ0 91 10
section MD
variable {σ0 σ σ' ρ0 ρ ρ' : Mem} {t a m n : Nat} {k k' : Nat → Int32} {len : Nat → Nat}
theorem INV_mind (I : INV σ ρ) (hc : MC σ σ') (hr : MR ρ ρ') : INV σ' ρ' ∧ CF σ σ' ∧ RF ρ ρ' := by
  obtain ⟨⟨m, len, n, R⟩, L, ⟨⟨w1, w2⟩, w3, w4⟩, G, S⟩ := I
  have c := fun i (h : i < 44) => hc.1 i (Or.inl h) (by omega)
  refine ⟨⟨⟨m, len, n, ?_⟩, LZ_cc L (fun i _ h2 => c i (by omega)), ⟨⟨by rw [c 0 (by omega)]; exact w1, by rw [c 0 (by omega)]; exact w2⟩, hc.2⟩, IMG_cc G (fun i _ h2 => c i (by omega)) (hc.1 66 (by omega) (by omega)) (hr.1 93 (by omega) (by omega)) hr.2, SH_cc S (fun i h1 h2 => hc.1 i (by omega) (by omega)) (fun i h1 h2 => hr.1 i (by omega) (by omega))⟩, fun i hi => hc.1 i (by omega) (by omega), fun i hi => hr.1 i (by omega) (by omega)⟩
  rw [hr.1 92 (by omega) (by omega)]
  exact RT_cc R (fun i _ h2 => c i (by omega))
theorem MC_rf (W : WN σ) : MC σ σ := ⟨fun _ _ _ => rfl, W.2⟩
theorem MR_rf (ρ : Mem) : MR ρ ρ := ⟨fun _ _ _ => rfl, rfl⟩
theorem MC_tcpy (W : WN σ) : MC σ (tcpy σ 2 0) := by
  have e := tcpy_0 (σ := σ) (t := 2) (u := 0) (by omega)
  refine ⟨fun i hi _ => tcpy_ne σ (by omega), ?_, ?_⟩
  · show tcpy σ 2 0 (22 * 2) 8 = -4
    rw [e]; simp (disch := omega) only [upd_ne]; exact W.2.1
  · show tcpy σ 2 0 (22 * 2) 9 = -4
    rw [e]; simp (disch := omega) only [upd_ne]; exact W.2.2
theorem RTS_tcpy (R : RT σ 0 (ρ 92) m len n) : RTS (tcpy σ 2 0) 2 (ρ 92) m len n := RTS_of (RT_cpy R (by omega))
theorem MC_fr (h : MC σ0 σ) (f : FrC 2 σ σ') : MC σ0 σ' := ⟨fun i hi h84 => (f.1 i (by omega)).trans (h.1 i hi h84), f.2.2.1.trans h.2.1, f.2.2.2.trans h.2.2⟩
theorem MC_st (h : MC σ0 σ) {i j : Nat} {v : Int32} (hi : 44 ≤ i ∧ i < 66) (hj : i = 44 → j ≠ 8 ∧ j ≠ 9) : MC σ0 (stm σ i j v) := by
  refine ⟨fun q hq h84 => by rw [stm_ne _ _ _ (by omega)]; exact h.1 q hq h84, ?_, ?_⟩
  · by_cases e : 44 = i
    · subst e; rw [stm_row, upd_ne _ _ (by have := hj rfl; omega)]; exact h.2.1
    · rw [stm_ne _ _ _ e]; exact h.2.1
  · by_cases e : 44 = i
    · subst e; rw [stm_row, upd_ne _ _ (by have := hj rfl; omega)]; exact h.2.2
    · rw [stm_ne _ _ _ e]; exact h.2.2
theorem MR_fr (h : MR ρ0 ρ) (f : FrR 94 ρ ρ') : MR ρ0 ρ' := ⟨fun i h1 h2 => (f.1 i h1 h2).trans (h.1 i h1 h2), (f.2 10 (by omega) (by omega)).trans h.2⟩
theorem MR_op (h : MR ρ0 ρ) (f : OPD ρ ρ' n) : MR ρ0 ρ' := ⟨fun i h1 h2 => (f.1 i h1 h2).trans (h.1 i h1 h2), (f.2.1 10 (by omega) (by omega) (by omega)).trans h.2⟩
theorem MR_st (h : MR ρ0 ρ) {j : Nat} {v : Int32} : MR ρ0 (stm ρ 94 j v) := ⟨fun i h1 h2 => by rw [stm_ne _ _ _ h1]; exact h.1 i h1 h2, by rw [stm_ne _ _ _ (by omega)]; exact h.2⟩
/-- a cell of the reference's row that is static: still at the beginning -/
theorem BG_st (B : BG (ρ 94) n) {j : Nat} {v : Int32} (h : st2 j) : BG (stm ρ 94 j v 94) n := by
  have e : ∀ q, ¬ st2 q → stm ρ 94 j v 94 q = ρ 94 q := fun q hq => by
    have w : q ≠ j := fun w => hq (by rw [w]; exact h)
    rw [stm_row, upd_ne _ _ w]
  obtain ⟨⟨b2, b3, b4⟩, bc⟩ := B
  refine ⟨⟨?_, ?_, ?_⟩, fun c hc => ?_⟩
  · rw [e 2 (by unfold st2; omega)]; exact b2
  · rw [e 3 (by unfold st2; omega)]; exact b3
  · rw [e 4 (by unfold st2; omega)]; exact b4
  · rw [e (49 + 11 * c) (by unfold st2; omega), e (50 + 11 * c) (by unfold st2; omega), e (51 + 11 * c) (by unfold st2; omega), e (52 + 11 * c) (by unfold st2; omega), e (53 + 11 * c) (by unfold st2; omega)]
    exact bc c hc
/-- lateness told -/
theorem RTS_late (S : RTS σ 2 k m len n) {c : Nat} (hc : c < n) (v : Int32) : RTS (stm σ (22 * 2 + 15 + c) 5 v) 2 (upd k (54 + 11 * c) v) m len n := by
  obtain ⟨V, ⟨hn, h7⟩, K, D, f2, W, hb⟩ := S
  have h8 := V.1.2
  have e : ∀ j, j ≠ 54 + 11 * c → upd k (54 + 11 * c) v j = k j := fun j hj => upd_ne _ _ hj
  have h1 : ∀ i, i ≠ 22 * 2 + 15 + c → stm σ (22 * 2 + 15 + c) 5 v i = σ i := fun i hi => stm_ne _ _ _ hi
  refine ⟨VS_cg V (fun j hj _ _ _ _ => e j (by omega)), ⟨(e 1 (by omega)).trans hn, h7⟩, fun j hj => ?_, ?_, by rw [h1 (22 * 2) (by omega)]; exact f2.trans (e 1 (by omega)).symm, fun j hj => ?_, fun j hj b h12 h4 => ?_⟩
  · have q := K j hj
    unfold KOS at q ⊢
    rw [e (44 + 11 * j) (by omega), e (46 + 11 * j) (by omega), e (47 + 11 * j) (by omega), e (48 + 11 * j) (by omega)]
    exact q
  · obtain ⟨d1, d2, d3, d4, d5, d6, d7, d8⟩ := D
    unfold RD
    rw [h1 (22 * 2 + 1) (by omega), h1 (22 * 2 + 2) (by omega), h1 (22 * 2 + 3) (by omega), h1 (22 * 2 + 4) (by omega), h1 (22 * 2 + 5) (by omega), h1 (22 * 2 + 6) (by omega), h1 (22 * 2 + 7) (by omega), h1 (22 * 2 + 8) (by omega), h1 (22 * 2 + 9) (by omega), h1 (22 * 2 + 10) (by omega), h1 (22 * 2 + 11) (by omega), h1 (22 * 2 + 12) (by omega)]
    refine ⟨d1, d2, fun p hp => ?_, fun p hp hp2 => ?_, d5, d6, d7, fun v hv => ?_⟩
    · rw [e (14 + 3 * p) (by omega), e (15 + 3 * p) (by omega), e (16 + 3 * p) (by omega)]; exact d3 p hp
    · rw [e (5 + p) (by omega)]; exact d4 p hp hp2
    · rw [e (38 + 2 * v) (by omega), e (39 + 2 * v) (by omega)]; exact d8 v hv
  · have q := W j hj
    unfold CWS at q ⊢
    by_cases w : j = c
    · subst w
      rw [stm_row]
      simp (disch := omega) only [upd_at, upd_ne]
      exact ⟨q.1, q.2.1, q.2.2.1, q.2.2.2.1, q.2.2.2.2.1, trivial⟩
    · rw [h1 _ (by omega), e (44 + 11 * j) (by omega), e (45 + 11 * j) (by omega), e (46 + 11 * j) (by omega), e (47 + 11 * j) (by omega), e (48 + 11 * j) (by omega), e (54 + 11 * j) (by omega)]
      exact q
  · by_cases w : j = c
    · subst w
      rw [stm_row, upd_ne _ _ (by omega)]; exact hb j hj b h12 h4
    · rw [h1 _ (by omega)]; exact hb j hj b h12 h4
/-- a cart that can't back -/
theorem RTS_bk0 (S : RTS σ 2 k m len n) {c : Nat} (hc : c < n) : RTS (stm σ (22 * 2 + 15 + c) 3 0) 2 (upd k (47 + 11 * c) 0) m len n := by
  obtain ⟨V, ⟨hn, h7⟩, K, D, f2, W, hb⟩ := S
  have h8 := V.1.2
  have e : ∀ j, j ≠ 47 + 11 * c → upd k (47 + 11 * c) 0 j = k j := fun j hj => upd_ne _ _ hj
  have h1 : ∀ i, i ≠ 22 * 2 + 15 + c → stm σ (22 * 2 + 15 + c) 3 0 i = σ i := fun i hi => stm_ne _ _ _ hi
  refine ⟨VS_cg V (fun j hj _ _ _ _ => e j (by omega)), ⟨(e 1 (by omega)).trans hn, h7⟩, fun j hj => ?_, ?_, by rw [h1 (22 * 2) (by omega)]; exact f2.trans (e 1 (by omega)).symm, fun j hj => ?_, fun j hj b h12 h4 => ?_⟩
  · obtain ⟨q1, q2, q3, q4⟩ := K j hj
    refine ⟨by rw [e (44 + 11 * j) (by omega)]; exact q1, by rw [e (46 + 11 * j) (by omega)]; exact q2, ?_, by rw [e (48 + 11 * j) (by omega)]; exact q4⟩
    by_cases w : j = c
    · subst w; exact ⟨0, by omega, by rw [upd_at]; rfl⟩
    · rw [e (47 + 11 * j) (by omega)]; exact q3
  · obtain ⟨d1, d2, d3, d4, d5, d6, d7, d8⟩ := D
    unfold RD
    rw [h1 (22 * 2 + 1) (by omega), h1 (22 * 2 + 2) (by omega), h1 (22 * 2 + 3) (by omega), h1 (22 * 2 + 4) (by omega), h1 (22 * 2 + 5) (by omega), h1 (22 * 2 + 6) (by omega), h1 (22 * 2 + 7) (by omega), h1 (22 * 2 + 8) (by omega), h1 (22 * 2 + 9) (by omega), h1 (22 * 2 + 10) (by omega), h1 (22 * 2 + 11) (by omega), h1 (22 * 2 + 12) (by omega)]
    refine ⟨d1, d2, fun p hp => ?_, fun p hp hp2 => ?_, d5, d6, d7, fun v hv => ?_⟩
    · rw [e (14 + 3 * p) (by omega), e (15 + 3 * p) (by omega), e (16 + 3 * p) (by omega)]; exact d3 p hp
    · rw [e (5 + p) (by omega)]; exact d4 p hp hp2
    · rw [e (38 + 2 * v) (by omega), e (39 + 2 * v) (by omega)]; exact d8 v hv
  · have q := W j hj
    unfold CWS at q ⊢
    by_cases w : j = c
    · subst w
      rw [stm_row]
      simp (disch := omega) only [upd_at, upd_ne]
      exact ⟨q.1, q.2.1, q.2.2.1, trivial, q.2.2.2.2.1, q.2.2.2.2.2⟩
    · rw [h1 _ (by omega), e (44 + 11 * j) (by omega), e (45 + 11 * j) (by omega), e (46 + 11 * j) (by omega), e (47 + 11 * j) (by omega), e (48 + 11 * j) (by omega), e (54 + 11 * j) (by omega)]
      exact q
  · by_cases w : j = c
    · subst w
      rw [stm_row, upd_ne _ _ (by omega)]; exact hb j hj b h12 h4
    · rw [h1 _ (by omega)]; exact hb j hj b h12 h4
/-- room told -/
theorem RTS_room (S : RTS σ 2 k m len n) {p r : Nat} (hp : 1 ≤ p) (hpm : p < m) (hr : r ≤ 4) : RTS (stm σ (22 * 2 + 5) p (nI r)) 2 (upd k (5 + p) (nI r)) m len n := by
  obtain ⟨V, ⟨hn, h7⟩, K, D, f2, W, hb⟩ := S
  have h8 := V.1.2
  have e : ∀ j, j ≠ 5 + p → upd k (5 + p) (nI r) j = k j := fun j hj => upd_ne _ _ hj
  have h1 : ∀ i, i ≠ 22 * 2 + 5 → stm σ (22 * 2 + 5) p (nI r) i = σ i := fun i hi => stm_ne _ _ _ hi
  refine ⟨?_, ⟨(e 1 (by omega)).trans hn, h7⟩, fun j hj => ?_, ?_, by rw [h1 (22 * 2) (by omega)]; exact f2.trans (e 1 (by omega)).symm, fun j hj => ?_, fun j hj b h12 h4 => ?_⟩
  · obtain ⟨⟨v1, v2⟩, v3, v4, v5, v6, v7⟩ := V
    refine ⟨⟨(e 0 (by omega)).trans v1, v2⟩, fun q hq => (e _ (by omega)).trans (v3 q hq), v4, fun q hq => ?_, fun q hq hq8 => ?_, fun v hv => ?_⟩
    · rw [e (15 + 3 * q) (by omega), e (16 + 3 * q) (by omega)]; exact v5 q hq
    · by_cases w : q = p
      · subst w
        rw [upd_at, nI_toInt (by omega)]
        exact ⟨by omega, fun h => absurd h (by omega)⟩
      · rw [e (5 + q) (by omega)]; exact v6 q hq hq8
    · rw [e (38 + 2 * v) (by omega), e (39 + 2 * v) (by omega)]; exact v7 v hv
  · have q := K j hj
    unfold KOS at q ⊢
    rw [e (44 + 11 * j) (by omega), e (46 + 11 * j) (by omega), e (47 + 11 * j) (by omega), e (48 + 11 * j) (by omega)]
    exact q
  · obtain ⟨d1, d2, d3, d4, d5, d6, d7, d8⟩ := D
    unfold RD
    rw [h1 (22 * 2 + 1) (by omega), h1 (22 * 2 + 2) (by omega), h1 (22 * 2 + 3) (by omega), h1 (22 * 2 + 4) (by omega), h1 (22 * 2 + 6) (by omega), h1 (22 * 2 + 7) (by omega), h1 (22 * 2 + 8) (by omega), h1 (22 * 2 + 9) (by omega), h1 (22 * 2 + 10) (by omega), h1 (22 * 2 + 11) (by omega), h1 (22 * 2 + 12) (by omega)]
    refine ⟨d1, d2, fun q hq => ?_, fun q hq hq2 => ?_, d5, d6, d7, fun v hv => ?_⟩
    · rw [e (14 + 3 * q) (by omega), e (15 + 3 * q) (by omega), e (16 + 3 * q) (by omega)]; exact d3 q hq
    · rw [stm_row]
      by_cases w : q = p
      · subst w; rw [upd_at, upd_at]
      · rw [upd_ne _ _ w, e (5 + q) (by omega)]; exact d4 q hq hq2
    · rw [e (38 + 2 * v) (by omega), e (39 + 2 * v) (by omega)]; exact d8 v hv
  · have q := W j hj
    unfold CWS at q ⊢
    rw [h1 _ (by omega), e (44 + 11 * j) (by omega), e (45 + 11 * j) (by omega), e (46 + 11 * j) (by omega), e (47 + 11 * j) (by omega), e (48 + 11 * j) (by omega), e (54 + 11 * j) (by omega)]
    exact q
  · rw [h1 _ (by omega)]; exact hb j hj b h12 h4
/-- all villages by one rule -/
def PR : Nat → Prop := fun j => 38 ≤ j ∧ j < 44
theorem RTS_rule1 (S : RTS σ 2 k m len n) {v q f : Nat} (hv : v < 3) (hq : q < 8) (hf : f ≤ 9) : RTS (stm (stm σ (22 * 2 + 11) v (nI q)) (22 * 2 + 12) v (nI f)) 2 (upd (upd k (38 + 2 * v) (nI q)) (39 + 2 * v) (nI f)) m len n := by
  obtain ⟨V, ⟨hn, h7⟩, K, D, f2, W, hb⟩ := S
  have h8 := V.1.2
  have e : ∀ j, j ≠ 38 + 2 * v → j ≠ 39 + 2 * v → upd (upd k (38 + 2 * v) (nI q)) (39 + 2 * v) (nI f) j = k j := fun j q1 q2 => by rw [upd_ne _ _ q2, upd_ne _ _ q1]
  have e1 : upd (upd k (38 + 2 * v) (nI q)) (39 + 2 * v) (nI f) (38 + 2 * v) = nI q := by rw [upd_ne _ _ (by omega), upd_at]
  have e2 : upd (upd k (38 + 2 * v) (nI q)) (39 + 2 * v) (nI f) (39 + 2 * v) = nI f := upd_at _ _ _
  have h1 : ∀ i, i ≠ 22 * 2 + 11 → i ≠ 22 * 2 + 12 → stm (stm σ (22 * 2 + 11) v (nI q)) (22 * 2 + 12) v (nI f) i = σ i := fun i q1 q2 => by rw [stm_ne _ _ _ q2, stm_ne _ _ _ q1]
  have h11 : stm (stm σ (22 * 2 + 11) v (nI q)) (22 * 2 + 12) v (nI f) (22 * 2 + 11) = upd (σ (22 * 2 + 11)) v (nI q) := by rw [stm_ne _ _ _ (by omega), stm_row]
  have h12 : stm (stm σ (22 * 2 + 11) v (nI q)) (22 * 2 + 12) v (nI f) (22 * 2 + 12) = upd (σ (22 * 2 + 12)) v (nI f) := by rw [stm_row, stm_ne _ _ _ (by omega)]
  refine ⟨?_, ⟨(e 1 (by omega) (by omega)).trans hn, h7⟩, fun j hj => ?_, ?_, by rw [h1 (22 * 2) (by omega) (by omega)]; exact f2.trans (e 1 (by omega) (by omega)).symm, fun j hj => ?_, fun j hj b h12 h4 => ?_⟩
  · obtain ⟨⟨v1, v2⟩, v3, v4, v5, v6, v7⟩ := V
    refine ⟨⟨(e 0 (by omega) (by omega)).trans v1, v2⟩, fun p hp => (e _ (by omega) (by omega)).trans (v3 p hp), v4, fun p hp => ?_, fun p hp hp8 => ?_, fun w hw => ?_⟩
    · rw [e (15 + 3 * p) (by omega) (by omega), e (16 + 3 * p) (by omega) (by omega)]; exact v5 p hp
    · rw [e (5 + p) (by omega) (by omega)]; exact v6 p hp hp8
    · by_cases z : w = v
      · subst z
        rw [e1, e2, nI_toInt (by omega), nI_toInt (by omega)]; omega
      · rw [e (38 + 2 * w) (by omega) (by omega), e (39 + 2 * w) (by omega) (by omega)]; exact v7 w hw
  · have q := K j hj
    unfold KOS at q ⊢
    rw [e (44 + 11 * j) (by omega) (by omega), e (46 + 11 * j) (by omega) (by omega), e (47 + 11 * j) (by omega) (by omega), e (48 + 11 * j) (by omega) (by omega)]
    exact q
  · obtain ⟨d1, d2, d3, d4, d5, d6, d7, d8⟩ := D
    unfold RD
    rw [h1 (22 * 2 + 1) (by omega) (by omega), h1 (22 * 2 + 2) (by omega) (by omega), h1 (22 * 2 + 3) (by omega) (by omega), h1 (22 * 2 + 4) (by omega) (by omega), h1 (22 * 2 + 5) (by omega) (by omega), h1 (22 * 2 + 6) (by omega) (by omega), h1 (22 * 2 + 7) (by omega) (by omega), h1 (22 * 2 + 8) (by omega) (by omega), h1 (22 * 2 + 9) (by omega) (by omega), h1 (22 * 2 + 10) (by omega) (by omega), h11, h12]
    refine ⟨d1, d2, fun p hp => ?_, fun p hp hp2 => ?_, d5, d6, d7, fun w hw => ?_⟩
    · rw [e (14 + 3 * p) (by omega) (by omega), e (15 + 3 * p) (by omega) (by omega), e (16 + 3 * p) (by omega) (by omega)]; exact d3 p hp
    · rw [e (5 + p) (by omega) (by omega)]; exact d4 p hp hp2
    · by_cases z : w = v
      · subst z; rw [upd_at, upd_at, e1, e2]; exact ⟨rfl, rfl⟩
      · rw [upd_ne _ _ z, upd_ne _ _ z, e (38 + 2 * w) (by omega) (by omega), e (39 + 2 * w) (by omega) (by omega)]; exact d8 w hw
  · have q := W j hj
    unfold CWS at q ⊢
    rw [h1 _ (by omega) (by omega), e (44 + 11 * j) (by omega) (by omega), e (45 + 11 * j) (by omega) (by omega), e (46 + 11 * j) (by omega) (by omega), e (47 + 11 * j) (by omega) (by omega), e (48 + 11 * j) (by omega) (by omega), e (54 + 11 * j) (by omega) (by omega)]
    exact q
  · rw [h1 _ (by omega) (by omega)]; exact hb j hj b h12 h4
theorem ruleAll_c (S : RTS σ 2 k m len n) (M : MC σ0 σ) {q f : Nat} (hq : q < 8) (hf : f ≤ 9) : ∃ σ' k', F_X7_ruleAllInMind σ (nI q) (nI f) = some σ' ∧ RTS σ' 2 k' m len n ∧ MC σ0 σ' ∧ σ' 84 = σ 84 ∧ KX PR k k' ∧ ∀ v, v < 3 → k' (38 + 2 * v) = nI q ∧ k' (39 + 2 * v) = nI f := by
  have st : ∀ (v nn : Nat) (σ : Mem), v < 3 → F_X7_ruleAllInMind_2 (nI q) (nI f) (nn + 1) σ (nI v) = F_X7_ruleAllInMind_2 (nI q) (nI f) nn (stm (stm σ (22 * 2 + 11) v (nI q)) (22 * 2 + 12) v (nI f)) (nI (v + 1)) := by
    intro v nn σ hv
    rw [F_X7_ruleAllInMind_2, if_neg (show ¬ (3 : Int32) ≤ nI v from nI_ge (a := v) (b := 3) hv (by decide)), tellRule_c hv hq hf, bd2_s, nI_1]
  have mc : ∀ (v : Nat) (σ : Mem), MC σ0 σ → MC σ0 (stm (stm σ (22 * 2 + 11) v (nI q)) (22 * 2 + 12) v (nI f)) := fun v σ h => MC_st (MC_st h (by omega) (by omega)) (by omega) (by omega)
  refine ⟨_, _, ?_, RTS_rule1 (RTS_rule1 (RTS_rule1 S (show 0 < 3 by omega) hq hf) (show 1 < 3 by omega) hq hf) (show 2 < 3 by omega) hq hf, mc _ _ (mc _ _ (mc _ _ M)), by rw [stm_ne _ _ _ (by omega), stm_ne _ _ _ (by omega), stm_ne _ _ _ (by omega), stm_ne _ _ _ (by omega), stm_ne _ _ _ (by omega), stm_ne _ _ _ (by omega)], fun j hj hp => ?_, fun v hv => ?_⟩
  · show F_X7_ruleAllInMind_2 (nI q) (nI f) (1996 + 1 + 1 + 1 + 1) σ (nI 0) = _
    rw [st 0 _ _ (by omega), st 1 _ _ (by omega), st 2 _ _ (by omega), F_X7_ruleAllInMind_2, if_pos (show (3 : Int32) ≤ nI (2 + 1) by decide)]
  · unfold PR at hp
    simp (disch := omega) only [upd_ne]
  · have hv3 : v = 0 ∨ v = 1 ∨ v = 2 := by omega
    rcases hv3 with rfl | rfl | rfl
    · simp (disch := omega) only [upd_ne, upd_at, and_self]
    · simp (disch := omega) only [upd_ne, upd_at, and_self]
    · simp (disch := omega) only [upd_ne, upd_at, and_self]
theorem allBy_r (B : BG (ρ 94) n) (M : MR ρ0 ρ) {q f : Nat} : ∃ ρ', F_X8_allBy ρ (nI q) (nI f) = some ρ' ∧ MR ρ0 ρ' ∧ (∀ j, ρ' 91 j = ρ 91 j) ∧ BG (ρ' 94) n ∧ KX PR (ρ 94) (ρ' 94) ∧ ∀ v, v < 3 → ρ' 94 (38 + 2 * v) = nI q ∧ ρ' 94 (39 + 2 * v) = nI f := by
  have st : ∀ (v nn : Nat) (ρ : Mem), v < 3 → F_X8_allBy_2 (nI q) (nI f) (nn + 1) ρ (nI v) = F_X8_allBy_2 (nI q) (nI f) nn (stm (stm ρ 94 (38 + 2 * v) (nI q)) 94 (39 + 2 * v) (nI f)) (nI (v + 1)) := by
    intro v nn ρ hv
    rw [F_X8_allBy_2, if_neg (show ¬ (3 : Int32) ≤ nI v from nI_ge (a := v) (b := 3) hv (by decide)), ix38 hv, Option.bind_some, ix39 hv, Option.bind_some, nI_1]
  refine ⟨stm (stm (stm (stm (stm (stm ρ 94 (38 + 2 * 0) (nI q)) 94 (39 + 2 * 0) (nI f)) 94 (38 + 2 * 1) (nI q)) 94 (39 + 2 * 1) (nI f)) 94 (38 + 2 * 2) (nI q)) 94 (39 + 2 * 2) (nI f), ?_, MR_st (MR_st (MR_st (MR_st (MR_st (MR_st M))))), fun j => ?_, ?_, fun j hj hp => ?_, fun v hv => ?_⟩
  · show F_X8_allBy_2 (nI q) (nI f) (1996 + 1 + 1 + 1 + 1) ρ (nI 0) = _
    rw [st 0 _ _ (by omega), st 1 _ _ (by omega), st 2 _ _ (by omega), F_X8_allBy_2, if_pos (show (3 : Int32) ≤ nI (2 + 1) by decide)]
  · rw [stm_ne _ _ _ (by omega), stm_ne _ _ _ (by omega), stm_ne _ _ _ (by omega), stm_ne _ _ _ (by omega), stm_ne _ _ _ (by omega), stm_ne _ _ _ (by omega)]
  · exact BG_st (BG_st (BG_st (BG_st (BG_st (BG_st B (by unfold st2; omega)) (by unfold st2; omega)) (by unfold st2; omega)) (by unfold st2; omega)) (by unfold st2; omega)) (by unfold st2; omega)
  · unfold PR at hp
    simp only [stm_row]
    simp (disch := omega) only [upd_ne]
  · have hv3 : v = 0 ∨ v = 1 ∨ v = 2 := by omega
    simp only [stm_row]
    rcases hv3 with rfl | rfl | rfl
    · simp (disch := omega) only [upd_ne, upd_at, and_self]
    · simp (disch := omega) only [upd_ne, upd_at, and_self]
    · simp (disch := omega) only [upd_ne, upd_at, and_self]
/-- a run of both, nobody watched -/
theorem run_k (S : RTS σ 2 k m len n) (hk : K2 k (ρ 94)) (B : BG (ρ 94) n) (hm : 0 < m) (M : MC σ0 σ) (N : MR ρ0 ρ) : ∃ σ' ρ' v, F_X7_costInMind σ = some (σ', v) ∧ F_X8_costs ρ = some (ρ', v) ∧ RT σ' 2 (ρ' 94) m len n ∧ RTS σ' 2 (ρ' 94) m len n ∧ K2 k (ρ' 94) ∧ MC σ0 σ' ∧ MR ρ0 ρ' ∧ σ' 84 = σ 84 := by
  obtain ⟨σ', ρ', v, q1, q2, q3⟩ := run_p (RTS_cg S hk) B (Or.inl M.2) hm
  exact ⟨σ', ρ', v, q1, q2, q3.1, RTS_of q3.1, K2_tr hk q3.2.2.2.2, MC_fr M q3.2.2.1, MR_fr N q3.2.2.2.1, q3.2.2.1.1 84 (by omega)⟩
/-- the reference opens a run while the class holds k in mind -/
theorem open_k {P : Nat → Prop} (N : MR ρ0 ρ) (hn : ρ0 92 1 = nI n) (h7 : n ≤ 7) (hk : KX P (ρ0 92) k) : ∃ ρ', F_X8_opens ρ = some ρ' ∧ MR ρ0 ρ' ∧ BG (ρ' 94) n ∧ KX P k (ρ' 94) ∧ K2 (ρ0 92) (ρ' 94) := by
  have e := N.1 92 (by omega) (by omega)
  obtain ⟨ρ', g1, g2⟩ := opens_r (ρ := ρ) (n := n) (by rw [e]; exact hn) h7
  have h5 : K2 (ρ0 92) (ρ' 94) := by have := g2.2.2.2.1; rw [e] at this; exact this
  exact ⟨ρ', g1, MR_op N g2, g2.2.2.2.2, KX_tr (KX_s hk) (KX_of h5), h5⟩
/-- by one rule: the class rules all, the reference opens and rules all; a run -/
theorem by_k (S : RTS σ 2 k m len n) (hm : 0 < m) (M : MC σ0 σ) (N : MR ρ0 ρ) (hn : ρ0 92 1 = nI n) (hk : KX PR (ρ0 92) k) {q f : Nat} (hq : q < 8) (hf : f ≤ 9) : ∃ σ1 σ' ρ' v k', F_X7_ruleAllInMind σ (nI q) (nI f) = some σ1 ∧ F_X7_costInMind σ1 = some (σ', v) ∧ F_X8_costBy ρ (nI q) (nI f) = some (ρ', v) ∧ RT σ' 2 (ρ' 94) m len n ∧ RTS σ' 2 k' m len n ∧ KX PR (ρ0 92) k' ∧ MC σ0 σ' ∧ MR ρ0 ρ' ∧ σ' 84 = σ 84 := by
  have h7 : n ≤ 7 := S.2.1.2
  obtain ⟨σ1, k1, a1, a2, a3, a84, a4, a5⟩ := ruleAll_c S M hq hf
  obtain ⟨ρ1, b1, b2, b3, b4, b5⟩ := open_k N hn h7 hk
  obtain ⟨ρ2, c1, c2, c3, c4, c5, c6⟩ := allBy_r (q := q) (f := f) b3 b2
  have hk2 : K2 k1 (ρ2 94) := by
    intro j hj
    by_cases p : PR j
    · unfold PR at p
      have : ∃ v, v < 3 ∧ (j = 38 + 2 * v ∨ j = 39 + 2 * v) := ⟨(j - 38) / 2, by omega, by omega⟩
      obtain ⟨v, hv, rfl | rfl⟩ := this
      · rw [(c6 v hv).1, (a5 v hv).1]
      · rw [(c6 v hv).2, (a5 v hv).2]
    · rw [c5 j hj p, b4 j hj p, a4 j hj p]
  obtain ⟨σ', ρ', v, d1, d2, d3, d4, d5, d6, d7, d84⟩ := run_k a2 hk2 c4 hm a3 c2
  refine ⟨σ1, σ', ρ', v, ρ' 94, a1, d1, ?_, d3, d4, ?_, d6, d7, d84.trans a84⟩
  · unfold F_X8_costBy
    rw [b1, Option.bind_some, c1, Option.bind_some, d2, bd2_s]
  · exact KX_tr (KX_tr hk a4) (KX_of d5)
/-! the least of what is offered -/
def OF (σ : Mem) (b l : Int32) : Prop := σ 84 0 = b ∧ (b = -4 ∧ σ 84 1 = -4 ∨ 0 ≤ b ∧ σ 84 1 = l)
theorem begin_c (M : MC σ0 σ) : ∃ σ', F_X1_begin σ = some σ' ∧ MC σ0 σ' ∧ (∀ i, i ≠ 84 → σ' i = σ i) ∧ OF σ' (-4) 0 := by
  refine ⟨_, rfl, ⟨fun i h1 h2 => by rw [stm_ne _ _ _ h2, stm_ne _ _ _ h2]; exact M.1 i h1 h2, by rw [stm_ne _ _ _ (by omega), stm_ne _ _ _ (by omega)]; exact M.2.1, by rw [stm_ne _ _ _ (by omega), stm_ne _ _ _ (by omega)]; exact M.2.2⟩, fun i hi => by rw [stm_ne _ _ _ hi, stm_ne _ _ _ hi], ?_⟩
  refine ⟨?_, Or.inl ⟨rfl, ?_⟩⟩
  · rw [stm_row, upd_ne _ _ (by omega), stm_row, upd_at]
  · rw [stm_row, upd_at]
/-- offered: the class's cells and the reference's two ints, by the reference's two tests -/
theorem offer_c (M : MC σ0 σ) {b l key v : Int32} (h : OF σ b l) (hk : 0 ≤ key) : ∃ σ', F_X1_offer σ key v = some σ' ∧ MC σ0 σ' ∧ (∀ i, i ≠ 84 → σ' i = σ i) ∧ (b < 0 → OF σ' key v) ∧ (¬ b < 0 → v < l → OF σ' key v) ∧ (¬ b < 0 → ¬ v < l → OF σ' b l) := by
  have mset : MC σ0 (stm (stm σ 84 0 key) 84 1 v) := ⟨fun i h1 h2 => by rw [stm_ne _ _ _ h2, stm_ne _ _ _ h2]; exact M.1 i h1 h2, by rw [stm_ne _ _ _ (by omega), stm_ne _ _ _ (by omega)]; exact M.2.1, by rw [stm_ne _ _ _ (by omega), stm_ne _ _ _ (by omega)]; exact M.2.2⟩
  have oset : OF (stm (stm σ 84 0 key) 84 1 v) key v := ⟨by rw [stm_row, upd_ne _ _ (by omega), stm_row, upd_at], Or.inr ⟨hk, by rw [stm_row, upd_at]⟩⟩
  have fset : ∀ i, i ≠ 84 → stm (stm σ 84 0 key) 84 1 v i = σ i := fun i hi => by rw [stm_ne _ _ _ hi, stm_ne _ _ _ hi]
  unfold F_X1_offer
  obtain ⟨h1, ⟨rfl, h2⟩ | ⟨h2, h3⟩⟩ := h
  · rw [h1, if_pos rfl]
    exact ⟨_, rfl, mset, fset, fun _ => oset, fun q => absurd im4 q, fun q => absurd im4 q⟩
  · have hb : ¬ b < 0 := Int32.not_lt.mpr h2
    have hb4 : ¬ b = -4 := fun q => hb (by rw [q]; exact im4)
    rw [h1, if_neg hb4, h3]
    by_cases k : v < l
    · rw [if_pos k]
      exact ⟨_, rfl, mset, fset, fun q => absurd q hb, fun _ _ => oset, fun _ q => absurd k q⟩
    · rw [if_neg k]
      exact ⟨_, rfl, M, fun _ _ => rfl, fun q => absurd q hb, fun _ q => absurd q k, fun _ _ => ⟨h1, Or.inr ⟨h2, h3⟩⟩⟩
theorem OF_cg {b l : Int32} (h : OF σ b l) (e : σ' 84 = σ 84) : OF σ' b l := by
  unfold OF at h ⊢
  rw [e]; exact h
theorem RTS_cc (S : RTS σ 2 k m len n) (h : ∀ i, 44 ≤ i → i < 66 → σ' i = σ i) : RTS σ' 2 k m len n := by
  obtain ⟨V, hn, K, D, f2, W, hb⟩ := S
  refine ⟨V, hn, K, ?_, by rw [h (22 * 2) (by omega) (by omega)]; exact f2, fun c hc => by rw [h (22 * 2 + 15 + c) (by omega) (by omega)]; exact W c hc, fun j hj b h1 h2 => by rw [h (22 * 2 + 15 + j) (by omega) (by omega)]; exact hb j hj b h1 h2⟩
  unfold RD at D ⊢
  rw [h (22 * 2 + 1) (by omega) (by omega), h (22 * 2 + 2) (by omega) (by omega), h (22 * 2 + 3) (by omega) (by omega), h (22 * 2 + 4) (by omega) (by omega), h (22 * 2 + 5) (by omega) (by omega), h (22 * 2 + 6) (by omega) (by omega), h (22 * 2 + 7) (by omega) (by omega), h (22 * 2 + 8) (by omega) (by omega), h (22 * 2 + 9) (by omega) (by omega), h (22 * 2 + 10) (by omega) (by omega), h (22 * 2 + 11) (by omega) (by omega), h (22 * 2 + 12) (by omega) (by omega)]
  exact D
end MD
end
section
/-! calls of runs in mind: hours, heard, shortest, fit -/
section RU
variable {m n : Nat} {len : Nat → Nat}
theorem x01 (x : Int32) : ((x < 0 ∨ 1 < x) ∧ ¬ x = 0 ∧ ¬ x = 1) ∨ (¬ (x < 0 ∨ 1 < x) ∧ (x = 0 ∨ x = 1)) := by
  rcases rng (x := x) 2 (by omega) with ⟨h1, h2, h3⟩ | ⟨j, hj, rfl, k1, k2, k3, k4⟩
  · refine Or.inl ⟨h2, fun q => ?_, fun q => ?_⟩
    · subst q; exact absurd (h3 (by decide)) (by decide)
    · subst q; exact absurd (h3 (by decide)) (by decide)
  · refine Or.inr ⟨fun q => q.elim k1 k4, ?_⟩
    have : j = 0 ∨ j = 1 := by omega
    rcases this with rfl | rfl
    · exact Or.inl rfl
    · exact Or.inr rfl
/-- what is told in the end: the key or the cost -/
theorem tell_k {σ : Mem} {b l x : Int32} (h : OF σ b l) (hb : 0 ≤ b) : (if x = 0 then some (σ, σ 84 0) else some (σ, σ 84 1)) = some (σ, if x = 0 then b else l) := by
  obtain ⟨h1, h2⟩ := h
  have h3 : σ 84 1 = l := by
    rcases h2 with ⟨q, -⟩ | ⟨-, q⟩
    · rw [q] at hb; exact absurd hb (by decide)
    · exact q
  by_cases k : x = 0
  · rw [if_pos k, if_pos k, h1]
  · rw [if_neg k, if_neg k, h3]
theorem hours_l {σ0 ρ0 : Mem} {x : Int32} (hm : 0 < m) (hn : ρ0 92 1 = nI n) : ∀ (d j nn nn2 : Nat) (σ ρ : Mem) (k : Nat → Int32) (b l : Int32), j + d = 10 → d < nn → d < nn2 → RTS σ 2 k m len n → KX PR (ρ0 92) k → MC σ0 σ → MR ρ0 ρ → OF σ b l → (j = 0 ∨ 0 ≤ b) → ∃ σ' ρ' r, F_X7_hours_41 x nn σ (nI j) = some (σ', r) ∧ F_X7_hours_41b x nn σ (nI j) = some (σ', r) ∧ F_X8_hours_30 x nn2 ρ (nI j) l b = some (ρ', r) ∧ MC σ0 σ' ∧ MR ρ0 ρ' := by
  intro d
  induction d with
  | zero =>
    intro j nn nn2 σ ρ k b l e1 e2 e3 S hk M N O hb
    obtain rfl : j = 10 := by omega
    obtain ⟨nn, rfl⟩ : ∃ j, nn = j + 1 := ⟨nn - 1, by omega⟩
    obtain ⟨nn2, rfl⟩ : ∃ j, nn2 = j + 1 := ⟨nn2 - 1, by omega⟩
    have hb0 := hb.resolve_left (by omega)
    rw [F_X7_hours_41, F_X7_hours_41b, F_X8_hours_30, if_pos (show (9 : Int32) < nI 10 by decide), if_pos (show (10 : Int32) ≤ nI 10 by decide), tell_k O hb0]
    refine ⟨σ, ρ, _, rfl, rfl, ?_, M, N⟩
    by_cases q : x = 0
    · rw [if_pos q, if_pos q]
    · rw [if_neg q, if_neg q]
  | succ d ih =>
    intro j nn nn2 σ ρ k b l e1 e2 e3 S hk M N O hb
    obtain ⟨nn, rfl⟩ : ∃ j, nn = j + 1 := ⟨nn - 1, by omega⟩
    obtain ⟨nn2, rfl⟩ : ∃ j, nn2 = j + 1 := ⟨nn2 - 1, by omega⟩
    obtain ⟨σ1, σ2, ρ2, v, k', a1, a2, a3, -, a5, a6, a7, a8, a84⟩ := by_k (q := 3) (f := j) S hm M N hn hk (by omega) (by omega)
    have a1' : F_X7_ruleAllInMind σ 3 (nI j) = some σ1 := a1
    have a3' : F_X8_costBy ρ 3 (nI j) = some (ρ2, v) := a3
    have j0 : 0 ≤ nI j := nI_pos' (by omega)
    obtain ⟨σ3, o1, o2, o3, o4, o5, o6⟩ := offer_c (v := v) a7 (OF_cg O a84) j0
    have S3 := RTS_cc (σ' := σ3) a5 (fun i h1 h2 => o3 i (by omega))
    have n9 : ¬ (9 : Int32) < nI j := nI_nlt (a := 9) (b := j) (by omega) (by decide)
    have n10 : ¬ (10 : Int32) ≤ nI j := nI_ge (a := j) (b := 10) (by omega) (by decide)
    rw [F_X7_hours_41, F_X7_hours_41b, F_X8_hours_30, if_neg n9, if_neg n9, if_neg n10, a1', Option.bind_some, Option.bind_some, a2, bd2_s, bd2_s, o1, Option.bind_some, Option.bind_some, a3', bd2_s, nI_1]
    by_cases q1 : b < 0
    · rw [if_pos q1]
      exact ih (j + 1) nn nn2 σ3 ρ2 k' _ _ (by omega) (by omega) (by omega) S3 a6 o2 a8 (o4 q1) (Or.inr j0)
    · rw [if_neg q1]
      by_cases q2 : v < l
      · rw [if_pos q2]
        exact ih (j + 1) nn nn2 σ3 ρ2 k' _ _ (by omega) (by omega) (by omega) S3 a6 o2 a8 (o5 q1 q2) (Or.inr j0)
      · rw [if_neg q2]
        exact ih (j + 1) nn nn2 σ3 ρ2 k' _ _ (by omega) (by omega) (by omega) S3 a6 o2 a8 (o6 q1 q2) (Or.inr (Int32.not_lt.mp q1))
theorem call_hours (x : Int32) : CALL (fun σ => F_X7_hours σ x) (fun σ => F_X8_hours σ x) := by
  intro σ ρ I
  obtain ⟨⟨m, len, n, R⟩, L, w, G, S⟩ := I
  have I : INV σ ρ := ⟨⟨m, len, n, R⟩, L, w, G, S⟩
  have no : ∀ {r : Int32}, ∃ σ' r' ρ', some (σ, r) = some (σ', r') ∧ some (ρ, r) = some (ρ', r') ∧ INV σ' ρ' ∧ CF σ σ' ∧ RF ρ ρ' := fun {r} => ⟨σ, r, ρ, rfl, rfl, I, fun _ _ => rfl, fun _ _ => rfl⟩
  show ∃ σ' r ρ', F_X7_hours σ x = some (σ', r) ∧ F_X8_hours ρ x = some (ρ', r) ∧ _
  unfold F_X7_hours F_X8_hours
  obtain ⟨b, e1, e2, e3⟩ := isEmpty_p R
  rw [e1, e2, ck_t _ (RT_b R), ck_t _ (RT_b R)]
  simp only [obs]
  rcases x01 x with ⟨h1, h2, h3⟩ | ⟨h1, h2⟩
  · rw [if_pos h1, if_neg h2, if_neg h3]; exact no
  · rw [if_neg h1]
    cases b with
    | true =>
      rcases h2 with rfl | rfl
      · rw [if_pos rfl, bI_t, if_neg i10]; exact no
      · rw [if_neg i10, if_pos rfl, bI_t, if_neg i10]; exact no
    | false =>
      obtain ⟨σ1, g1, g2, g3, g4⟩ := begin_c (MC_tcpy (σ := σ) w)
      obtain ⟨σ', ρ', r, a1, a2, a3, a4, a5⟩ := hours_l (x := x) (e3 rfl).1 (RT_n R) 10 0 FU FU σ1 ρ (ρ 92) (-4) 0 (by omega) (by decide) (by decide) (RTS_cc (RTS_tcpy R) (fun i h1 h2 => g3 i (by omega))) (KX_of (K2_rf _)) g2 (MR_rf ρ) g4 (Or.inl rfl)
      have a1' : F_X7_hours_41 x FU σ1 0 = some (σ', r) := a1
      have a2' : F_X7_hours_41b x FU σ1 0 = some (σ', r) := a2
      have a3' : F_X8_hours_30 x FU ρ 0 0 (-4) = some (ρ', r) := a3
      rw [bI_f, g1]
      simp only [obs, a1', a2', a3', if_true]
      obtain ⟨i1, i2, i3⟩ := INV_mind I a4 a5
      rcases h2 with rfl | rfl
      · rw [if_pos rfl]; exact ⟨_, _, _, rfl, rfl, i1, i2, i3⟩
      · rw [if_neg i10, if_pos rfl]; exact ⟨_, _, _, rfl, rfl, i1, i2, i3⟩
theorem call_heard (x : Int32) : CALL (fun σ => F_X7_heard σ x) (fun σ => F_X8_heard σ x) := by
  intro σ ρ I
  obtain ⟨⟨m, len, n, R⟩, L, w, G, S⟩ := I
  have I : INV σ ρ := ⟨⟨m, len, n, R⟩, L, w, G, S⟩
  have no : ∀ {r : Int32}, ∃ σ' r' ρ', some (σ, r) = some (σ', r') ∧ some (ρ, r) = some (ρ', r') ∧ INV σ' ρ' ∧ CF σ σ' ∧ RF ρ ρ' := fun {r} => ⟨σ, r, ρ, rfl, rfl, I, fun _ _ => rfl, fun _ _ => rfl⟩
  show ∃ σ' r ρ', F_X7_heard σ x = some (σ', r) ∧ F_X8_heard ρ x = some (ρ', r) ∧ _
  unfold F_X7_heard F_X8_heard
  obtain ⟨b, e1, e2, e3⟩ := isEmpty_p R
  rw [e1, e2, ck_t _ (RT_b R)]
  simp only [obs]
  rcases rng (x := x) 10 (by omega) with ⟨k1, k2, k3⟩ | ⟨f, hf, rfl, g1, g2, g3, g4⟩
  · rw [if_pos (show x < 0 ∨ (9 : Int32) < x from k2)]
    by_cases q : x < 0
    · rw [if_pos q]; exact no
    · have q2 : (9 : Int32) < x := k2.resolve_left q
      rw [if_neg q, if_neg (Int32.not_le.mpr q2)]; exact no
  · have g4' : ¬ (9 : Int32) < nI f := g4
    rw [if_neg g1, if_pos (Int32.not_lt.mp g4'), if_neg (show ¬ (nI f < 0 ∨ (9 : Int32) < nI f) from fun q => q.elim g1 g4')]
    cases b with
    | true => rw [bI_t, if_neg i10, if_neg i10]; exact no
    | false =>
      have hm := (e3 rfl).1
      obtain ⟨σ1, σ2, ρ2, v, k', a1, a2, a3, -, a5, a6, a7, a8, -⟩ := by_k (q := 4) (f := 0) (RTS_tcpy R) hm (MC_tcpy (σ := σ) w) (MR_rf ρ) (RT_n R) (KX_of (K2_rf _)) (by omega) (by omega)
      obtain ⟨σ3, σ4, ρ4, v2, k'', b1, b2, b3, -, b5, b6, b7, b8, -⟩ := by_k (q := 4) (f := f) a5 hm a7 a8 (RT_n R) a6 (by omega) (by omega)
      have a1' : F_X7_ruleAllInMind (tcpy σ 2 0) 4 0 = some σ1 := a1
      have a3' : F_X8_costBy ρ 4 0 = some (ρ2, v) := a3
      have b1' : F_X7_ruleAllInMind σ2 4 (nI f) = some σ3 := b1
      have b3' : F_X8_costBy ρ2 4 (nI f) = some (ρ4, v2) := b3
      obtain ⟨i1, i2, i3⟩ := INV_mind I b7 b8
      rw [bI_f, if_pos rfl, if_pos rfl, a1', Option.bind_some, a2, bd2_s, b1', Option.bind_some, b2, bd2_s, a3', bd2_s, b3', bd2_s]
      exact ⟨_, _, _, rfl, rfl, i1, i2, i3⟩
end RU
end
section
/-! fit, shortest, more, ever, stubborn, met -/
section R2
variable {m n : Nat} {len : Nat → Nat}
theorem isWithin_l {σ : Mem} {d z : Nat} {lo hi : Int32} (hs : σ (68 + d) 4 = nI z) (hz : z ≤ 100) : ∀ (q j nn : Nat), j + q = z → q < nn → F_X5_isWithin_2 σ d lo hi nn (nI j) = some (bI (decide (∀ i, i < z → j ≤ i → ¬ σ (76 + d) i < lo ∧ σ (76 + d) i ≤ hi))) := by
  intro q
  induction q with
  | zero =>
    intro j nn e1 e2
    obtain rfl : j = z := by omega
    obtain ⟨nn, rfl⟩ : ∃ j, nn = j + 1 := ⟨nn - 1, by omega⟩
    rw [F_X5_isWithin_2, hs, if_pos (nI_le (Nat.le_refl _) (by omega)), decide_eq_true (fun i h1 h2 => absurd h2 (by omega)), bI_t]
  | succ q ih =>
    intro j nn e1 e2
    obtain ⟨nn, rfl⟩ : ∃ j, nn = j + 1 := ⟨nn - 1, by omega⟩
    rw [F_X5_isWithin_2, hs, if_neg (nI_ge (by omega) (by omega)), if_neg (show ¬ (100 : Int32) ≤ nI j from nI_ge (a := j) (b := 100) (by omega) (by decide)), ix_nI (show j < 100 by omega) (by decide), Option.bind_some, Option.bind_some, nI_1, ih (j + 1) nn (by omega) (by omega)]
    by_cases k1 : σ (76 + d) j < lo
    · rw [if_pos k1, decide_eq_false (fun h => (h j (by omega) (Nat.le_refl _)).1 k1), bI_f]
    rw [if_neg k1]
    by_cases k2 : σ (76 + d) j ≤ hi
    · rw [if_pos k2]
      congr 2
      refine decide_eq_decide.mpr ⟨fun h i h1 h2 => ?_, fun h i h1 h2 => h i h1 (by omega)⟩
      by_cases e : i = j
      · subst e; exact ⟨k1, k2⟩
      · exact h i h1 (by omega)
    · rw [if_neg k2, decide_eq_false (fun h => k2 (h j (by omega) (Nat.le_refl _)).2), bI_f]
theorem isWithin_c {σ : Mem} {d z : Nat} {lo hi : Int32} (hs : σ (68 + d) 4 = nI z) (hz : z ≤ 100) : F_X5_isWithin σ d lo hi = some (bI (decide (∀ i, i < z → 0 ≤ i → ¬ σ (76 + d) i < lo ∧ σ (76 + d) i ≤ hi))) :=
  isWithin_l hs hz z 0 FU (by omega) (Nat.lt_of_le_of_lt hz (by decide))
theorem fit49_l {ρ : Mem} {d z : Nat} {x v3 : Int32} (hd : d < 8) (hs : ρ 98 d = nI z) (hz : z ≤ 100) : ∀ (q j nn : Nat), j + q = z → q < nn → F_X8_fit_49 (nI d) x nn ρ (nI j) v3 = if (∀ i, i < z → j ≤ i → ¬ (ρ 99 (100 * d + i) < 0 ∨ 7 < ρ 99 (100 * d + i))) then ((F_X8_isEmpty ρ).bind fun r_12 => if r_12 = 0 then (F_X8_fit_112 (nI d) x FU ρ 0 0 (-4) v3) else (some (ρ, (-3)))) else some (ρ, -13) := by
  intro q
  induction q with
  | zero =>
    intro j nn e1 e2
    obtain rfl : j = z := by omega
    obtain ⟨nn, rfl⟩ : ∃ j, nn = j + 1 := ⟨nn - 1, by omega⟩
    rw [F_X8_fit_49, ix_nI hd (by decide), Option.bind_some, hs, if_pos (nI_le (Nat.le_refl _) (by omega)), if_pos (fun i h1 h2 => absurd h2 (by omega))]
  | succ q ih =>
    intro j nn e1 e2
    obtain ⟨nn, rfl⟩ : ∃ j, nn = j + 1 := ⟨nn - 1, by omega⟩
    rw [F_X8_fit_49, ix_nI hd (by decide), Option.bind_some, hs, if_neg (nI_ge (by omega) (by omega)), ix99 hd (by omega), Option.bind_some, nI_1, ih (j + 1) nn (by omega) (by omega)]
    by_cases k1 : ρ 99 (100 * d + j) < 0 ∨ 7 < ρ 99 (100 * d + j)
    · rw [if_pos k1, if_neg (fun h => h j (by omega) (Nat.le_refl _) k1)]
    · rw [if_neg k1]
      by_cases k2 : ∀ i, i < z → j + 1 ≤ i → ¬ (ρ 99 (100 * d + i) < 0 ∨ 7 < ρ 99 (100 * d + i))
      · rw [if_pos k2, if_pos (fun i h1 h2 => by
          by_cases e : i = j
          · subst e; exact k1
          · exact k2 i h1 (by omega))]
      · rw [if_neg k2, if_neg (fun h => k2 (fun i h1 h2 => h i h1 (by omega)))]
theorem fit_l {σ0 ρ0 : Mem} {d z f : Nat} {v3 x : Int32} (hm : 0 < m) (hn : ρ0 92 1 = nI n) (hd : d < 8) (hz : z ≤ 100) (hf : f ≤ 9) (c4 : σ0 (68 + d) 4 = nI z) (r4 : ρ0 98 d = nI z) (hv : ∀ i, i < z → σ0 (76 + d) i = ρ0 99 (100 * d + i) ∧ ∃ q : Nat, q < 8 ∧ ρ0 99 (100 * d + i) = nI q) : ∀ (e j nn nn2 : Nat) (σ ρ : Mem) (k : Nat → Int32) (b l : Int32), j + e = z → e < nn → e < nn2 → RTS σ 2 k m len n → KX PR (ρ0 92) k → MC σ0 σ → MR ρ0 ρ → OF σ b l → ∃ σ' ρ' r, F_X7_fit_93 x (nI f) nn σ (nI j) d = some (σ', r) ∧ F_X8_fit_112 (nI d) (nI f) nn2 ρ (nI j) l b v3 = some (ρ', r) ∧ MC σ0 σ' ∧ MR ρ0 ρ' := by
  intro e
  induction e with
  | zero =>
    intro j nn nn2 σ ρ k b l e1 e2 e3 S hk M N O
    obtain rfl : j = z := by omega
    obtain ⟨nn, rfl⟩ : ∃ j, nn = j + 1 := ⟨nn - 1, by omega⟩
    obtain ⟨nn2, rfl⟩ : ∃ j, nn2 = j + 1 := ⟨nn2 - 1, by omega⟩
    rw [F_X7_fit_93, F_X8_fit_112, M.1 (68 + d) (by omega) (by omega), c4, if_pos (nI_le (Nat.le_refl _) (by omega)), ix_nI hd (by decide), Option.bind_some, N.1 98 (by omega) (by omega), r4, if_pos (nI_le (Nat.le_refl _) (by omega)), O.1]
    exact ⟨σ, ρ, _, rfl, rfl, M, N⟩
  | succ e ih =>
    intro j nn nn2 σ ρ k b l e1 e2 e3 S hk M N O
    obtain ⟨nn, rfl⟩ : ∃ j, nn = j + 1 := ⟨nn - 1, by omega⟩
    obtain ⟨nn2, rfl⟩ : ∃ j, nn2 = j + 1 := ⟨nn2 - 1, by omega⟩
    obtain ⟨v1, q, hq, v2⟩ := hv j (by omega)
    obtain ⟨σ1, σ2, ρ2, v, k', a1, a2, a3, -, a5, a6, a7, a8, a84⟩ := by_k (q := q) (f := f) S hm M N hn hk hq hf
    have j0 : 0 ≤ nI j := nI_pos' (by omega)
    obtain ⟨σ3, o1, o2, o3, o4, o5, o6⟩ := offer_c (v := v) a7 (OF_cg O a84) j0
    have S3 := RTS_cc (σ' := σ3) a5 (fun i h1 h2 => o3 i (by omega))
    rw [F_X7_fit_93, F_X8_fit_112, M.1 (68 + d) (by omega) (by omega), c4, if_neg (nI_ge (by omega) (by omega)), if_neg (show ¬ (100 : Int32) ≤ nI j from nI_ge (a := j) (b := 100) (by omega) (by decide)), ix_nI (n := 100) (show j < 100 by omega) (by decide), Option.bind_some, M.1 (76 + d) (by omega) (by omega), v1, v2, a1, Option.bind_some, a2, bd2_s, o1, Option.bind_some, ix_nI hd (by decide), Option.bind_some, N.1 98 (by omega) (by omega), r4, if_neg (nI_ge (by omega) (by omega)), ix99 hd (by omega), Option.bind_some, N.1 99 (by omega) (by omega), v2, a3, bd2_s, nI_1]
    by_cases q1 : b < 0
    · rw [if_pos q1]
      exact ih (j + 1) nn nn2 σ3 ρ2 k' _ _ (by omega) (by omega) (by omega) S3 a6 o2 a8 (o4 q1)
    · rw [if_neg q1]
      by_cases q2 : v < l
      · rw [if_pos q2]
        exact ih (j + 1) nn nn2 σ3 ρ2 k' _ _ (by omega) (by omega) (by omega) S3 a6 o2 a8 (o5 q1 q2)
      · rw [if_neg q2]
        exact ih (j + 1) nn nn2 σ3 ρ2 k' _ _ (by omega) (by omega) (by omega) S3 a6 o2 a8 (o6 q1 q2)
theorem holdsBytes_c {σ ρ : Mem} {d : Nat} (S : SH σ ρ) (hd : d < 8) : F_X5_holdsBytes σ d = some (bI (decide (ρ 96 d = 2 ∧ ρ 97 d = 0))) := by
  obtain ⟨⟨s1, -⟩, -, s4, -, -⟩ := S d hd
  unfold F_X5_holdsBytes
  rw [s1, s4]
  by_cases k1 : ρ 96 d = 2
  · rw [if_pos k1]
    by_cases k2 : ρ 97 d = 0
    · rw [if_pos k2, decide_eq_true ⟨k1, k2⟩]; rfl
    · rw [if_neg k2, decide_eq_false (fun h => k2 h.2)]; rfl
  · rw [if_neg k1, decide_eq_false (fun h => k1 h.1)]; rfl
theorem call_fit (x y : Int32) : CALL (fun σ => F_X7_fit σ x y) (fun σ => F_X8_fit σ x y) := by
  intro σ ρ I
  obtain ⟨⟨m, len, n, R⟩, L, w, G, S⟩ := I
  have I : INV σ ρ := ⟨⟨m, len, n, R⟩, L, w, G, S⟩
  have no : ∀ {r : Int32}, ∃ σ' r' ρ', some (σ, r) = some (σ', r') ∧ some (ρ, r) = some (ρ', r') ∧ INV σ' ρ' ∧ CF σ σ' ∧ RF ρ ρ' := fun {r} => ⟨σ, r, ρ, rfl, rfl, I, fun _ _ => rfl, fun _ _ => rfl⟩
  show ∃ σ' r ρ', F_X7_fit σ x y = some (σ', r) ∧ F_X8_fit ρ x y = some (ρ', r) ∧ _
  unfold F_X7_fit F_X8_fit F_X8_wrongRow
  obtain ⟨b, e1, e2, e3⟩ := isEmpty_p R
  rcases shelf_x (ρ := ρ) x with ⟨h1, h2⟩ | ⟨d, hd, rfl, h1, h2⟩
  · rw [if_pos h1, h2, Option.bind_some, if_pos rfl]; exact no
  rw [if_neg h1, h2, ix_nI hd (by decide)]
  simp only [obs, i10, if_false]
  rcases rng (x := y) 10 (by omega) with ⟨k1, k2, k3⟩ | ⟨f, hf, rfl, g1, g2, g3, g4⟩
  · rw [if_pos (show y < 0 ∨ (9 : Int32) < y from k2)]
    by_cases q : y < 0
    · rw [if_pos q]; exact no
    · have q2 : (9 : Int32) < y := k2.resolve_left q
      rw [if_neg q, if_neg (Int32.not_le.mpr q2)]; exact no
  have g4' : ¬ (9 : Int32) < nI f := g4
  rw [if_neg g1, if_pos (Int32.not_lt.mp g4'), if_neg (show ¬ (nI f < 0 ∨ (9 : Int32) < nI f) from fun q => q.elim g1 g4')]
  have hSH := S
  obtain ⟨⟨s1, s2⟩, s3, s4, ⟨s5, z, hz, ez⟩, s6⟩ := S d hd
  rw [holdsBytes_c hSH hd, s1, s5, ez, isWithin_c (s5.trans ez) hz, e1, ck_t _ (RT_b R), if_neg (show ¬ (0 : Int32) < 0 by decide)]
  simp only [obs]
  by_cases k1 : ρ 96 d = 0
  · rw [if_pos k1, if_pos k1, Option.bind_some, if_neg (by decide)]; exact no
  rw [if_neg k1, if_neg k1]
  by_cases k2 : ρ 96 d = 2
  rotate_left
  · rw [if_neg k2, Option.bind_some, if_neg (show ¬ (-12 : Int32) = 0 by decide), decide_eq_false (fun h => k2 h.1), bI_f, if_pos rfl]; exact no
  rw [if_pos k2]
  by_cases k3 : ρ 97 d = 0
  rotate_left
  · rw [if_neg k3, Option.bind_some, if_neg (show ¬ (-12 : Int32) = 0 by decide), decide_eq_false (fun h => k3 h.2), bI_f, if_pos rfl]; exact no
  rw [if_pos k3, Option.bind_some, if_pos rfl, decide_eq_true ⟨k2, k3⟩, bI_t, if_neg i10]
  by_cases k4 : nI z = 0
  · rw [if_pos k4, if_pos k4]; exact no
  rw [if_neg k4, if_neg k4]
  have f49 := fit49_l (x := nI f) (v3 := 0) hd ez hz z 0 FU (by omega) (Nat.lt_of_le_of_lt hz (by decide))
  have f49' : F_X8_fit_49 (nI d) (nI f) FU ρ 0 0 = _ := f49
  rw [f49', e2]
  by_cases k5 : ∀ i, i < z → 0 ≤ i → ¬ (ρ 99 (100 * d + i) < 0 ∨ 7 < ρ 99 (100 * d + i))
  rotate_left
  · rw [if_neg k5, decide_eq_false (fun h => k5 (fun i hi _ q => by
      have h2 := h i hi (Nat.zero_le _)
      rw [s6 i (by omega)] at h2
      rcases q with q | q
      · exact h2.1 q
      · exact absurd h2.2 (Int32.not_le.mpr q))), bI_f, if_pos rfl]
    exact no
  rw [if_pos k5, decide_eq_true (fun i hi _ => by
      rw [s6 i (by omega)]
      have h2 := k5 i hi (Nat.zero_le _)
      exact ⟨fun q => h2 (Or.inl q), Int32.not_lt.mp (fun q => h2 (Or.inr q))⟩), bI_t, if_neg i10]
  cases b with
  | true => rw [bI_t, Option.bind_some, if_neg i10, if_neg i10]; exact no
  | false =>
    obtain ⟨σ1, g1, g2, g3, g4⟩ := begin_c (MC_tcpy (σ := σ) w)
    obtain ⟨σ', ρ', r, a1, a3, a4, a5⟩ := fit_l (x := nI d) (v3 := 0) (e3 rfl).1 (RT_n R) hd hz (show f ≤ 9 by omega) (s5.trans ez) ez (fun i hi => ⟨s6 i (by omega), by
        have h2 := k5 i hi (Nat.zero_le _)
        rcases rng (x := ρ 99 (100 * d + i)) 8 (by omega) with ⟨w1, w2, w3⟩ | ⟨q, hq, eq, -⟩
        · exact absurd w2 h2
        · exact ⟨q, hq, eq⟩⟩) z 0 FU FU σ1 ρ (ρ 92) (-4) 0 (by omega) (Nat.lt_of_le_of_lt hz (by decide)) (Nat.lt_of_le_of_lt hz (by decide)) (RTS_cc (RTS_tcpy R) (fun i h1 h2 => g3 i (by omega))) (KX_of (K2_rf _)) g2 (MR_rf ρ) g4
    have a1' : F_X7_fit_93 (nI d) (nI f) FU σ1 0 d = some (σ', r) := a1
    have a3' : F_X8_fit_112 (nI d) (nI f) FU ρ 0 0 (-4) 0 = some (ρ', r) := a3
    obtain ⟨i1, i2, i3⟩ := INV_mind I a4 a5
    rw [bI_f, Option.bind_some, if_pos rfl, if_pos rfl, g1, Option.bind_some, a1', a3']
    exact ⟨_, _, _, rfl, rfl, i1, i2, i3⟩
theorem words_t (a b : Int32) : ∃ w, (∀ σ, F_X7_wordsOf σ a b = some w) ∧ ∀ ρ, F_X8_wordsBy ρ a b = some w := by
  have h : ∃ w, F_X7_wordsOf (fun _ _ => 0) a b = some w := by
    unfold F_X7_wordsOf
    repeat' split
    all_goals exact ⟨_, rfl⟩
  obtain ⟨w, h⟩ := h
  exact ⟨w, fun σ => h, fun ρ => h⟩
theorem short_l {σ0 ρ0 : Mem} {K : Nat} (hm : 0 < m) (hn : ρ0 92 1 = nI n) (hK : K < 8) (kc : Mem → Int32 → Option (Mem × Int32)) (kr : Mem → Int32 → Int32 → Int32 → Option (Mem × Int32)) : ∀ (d j nn nn2 : Nat) (σ ρ : Mem) (k : Nat → Int32) (b l : Int32), j + d = 5 → d < nn → d < nn2 → RTS σ 2 k m len n → KX PR (ρ0 92) k → MC σ0 σ → MR ρ0 ρ → OF σ b l → ∃ σ' ρ' k' b' l', F_X7_shortest_38 kc nn σ (nI j) (nI K) = kc σ' (nI (K + 1)) ∧ F_X8_shortest_26 kr nn2 ρ (nI j) (nI K) l b = kr ρ' (nI (K + 1)) l' b' ∧ RTS σ' 2 k' m len n ∧ KX PR (ρ0 92) k' ∧ MC σ0 σ' ∧ MR ρ0 ρ' ∧ OF σ' b' l' := by
  intro d
  induction d with
  | zero =>
    intro j nn nn2 σ ρ k b l e1 e2 e3 S hk M N O
    obtain rfl : j = 5 := by omega
    obtain ⟨nn, rfl⟩ : ∃ j, nn = j + 1 := ⟨nn - 1, by omega⟩
    obtain ⟨nn2, rfl⟩ : ∃ j, nn2 = j + 1 := ⟨nn2 - 1, by omega⟩
    rw [F_X7_shortest_38, F_X8_shortest_26, if_pos (show (4 : Int32) < nI 5 by decide), if_pos (show (5 : Int32) ≤ nI 5 by decide), nI_1]
    exact ⟨σ, ρ, k, b, l, rfl, rfl, S, hk, M, N, O⟩
  | succ d ih =>
    intro j nn nn2 σ ρ k b l e1 e2 e3 S hk M N O
    obtain ⟨nn, rfl⟩ : ∃ j, nn = j + 1 := ⟨nn - 1, by omega⟩
    obtain ⟨nn2, rfl⟩ : ∃ j, nn2 = j + 1 := ⟨nn2 - 1, by omega⟩
    obtain ⟨σ1, σ2, ρ2, v, k', a1, a2, a3, aR, a5, a6, a7, a8, a84⟩ := by_k (q := K) (f := j) S hm M N hn hk hK (by omega)
    obtain ⟨bs, t1, t2⟩ := stands_p aR
    obtain ⟨wd, w1, w2⟩ := words_t (nI K) (nI j)
    have ek : (10 : Int32) * nI K + nI j = nI (10 * K + j) := by rw [show (10 : Int32) = nI 10 from rfl, nI_mul, nI_add]
    have j0 : 0 ≤ nI (10 * K + j) := nI_pos' (by omega)
    obtain ⟨σ3, o1, o2, o3, o4, o5, o6⟩ := offer_c (v := wd) a7 (OF_cg O a84) j0
    have S3 := RTS_cc (σ' := σ3) a5 (fun i h1 h2 => o3 i (by omega))
    have n4 : ¬ (4 : Int32) < nI j := nI_nlt (a := 4) (b := j) (by omega) (by decide)
    have n5 : ¬ (5 : Int32) ≤ nI j := nI_ge (a := j) (b := 5) (by omega) (by decide)
    rw [F_X7_shortest_38, F_X8_shortest_26, if_neg n4, if_neg n5, a1, Option.bind_some, a2, bd2_s, t1, Option.bind_some, w1, w2, ek, Option.bind_some, Option.bind_some, o1, Option.bind_some, a3, bd2_s, t2, Option.bind_some, nI_1]
    by_cases q1 : b < 0
    · rw [if_pos q1]
      cases bs with
      | false =>
        rw [bI_f, if_pos rfl, if_pos rfl]
        exact ih (j + 1) nn nn2 σ3 ρ2 k' _ _ (by omega) (by omega) (by omega) S3 a6 o2 a8 (o4 q1)
      | true =>
        rw [bI_t, if_neg i10, if_neg i10]
        exact ih (j + 1) nn nn2 σ2 ρ2 k' _ _ (by omega) (by omega) (by omega) a5 a6 a7 a8 (OF_cg O a84)
    · rw [if_neg q1]
      by_cases q2 : wd < l
      · rw [if_pos q2]
        cases bs with
        | false =>
          rw [bI_f, if_pos rfl, if_pos rfl]
          exact ih (j + 1) nn nn2 σ3 ρ2 k' _ _ (by omega) (by omega) (by omega) S3 a6 o2 a8 (o5 q1 q2)
        | true =>
          rw [bI_t, if_neg i10, if_neg i10]
          exact ih (j + 1) nn nn2 σ2 ρ2 k' _ _ (by omega) (by omega) (by omega) a5 a6 a7 a8 (OF_cg O a84)
      · rw [if_neg q2]
        cases bs with
        | false =>
          rw [bI_f, if_pos rfl]
          exact ih (j + 1) nn nn2 σ3 ρ k' _ _ (by omega) (by omega) (by omega) S3 a6 o2 N (o6 q1 q2)
        | true =>
          rw [bI_t, if_neg i10]
          exact ih (j + 1) nn nn2 σ2 ρ k' _ _ (by omega) (by omega) (by omega) a5 a6 a7 N (OF_cg O a84)
theorem short_o {σ0 ρ0 : Mem} (hm : 0 < m) (hn : ρ0 92 1 = nI n) : ∀ (d K nn nn2 : Nat) (σ ρ : Mem) (k : Nat → Int32) (b l : Int32), K + d = 8 → d < nn → d < nn2 → RTS σ 2 k m len n → KX PR (ρ0 92) k → MC σ0 σ → MR ρ0 ρ → OF σ b l → ∃ σ' ρ' r, F_X7_shortest_30 nn σ (nI K) = some (σ', r) ∧ F_X8_shortest_17 nn2 ρ (nI K) l b = some (ρ', r) ∧ MC σ0 σ' ∧ MR ρ0 ρ' := by
  intro d
  induction d with
  | zero =>
    intro j nn nn2 σ ρ k b l e1 e2 e3 S hk M N O
    obtain rfl : j = 8 := by omega
    obtain ⟨nn, rfl⟩ : ∃ j, nn = j + 1 := ⟨nn - 1, by omega⟩
    obtain ⟨nn2, rfl⟩ : ∃ j, nn2 = j + 1 := ⟨nn2 - 1, by omega⟩
    rw [F_X7_shortest_30, F_X8_shortest_17, if_pos (show (8 : Int32) ≤ nI 8 by decide), if_pos (show (8 : Int32) ≤ nI 8 by decide), O.1]
    exact ⟨σ, ρ, _, rfl, rfl, M, N⟩
  | succ d ih =>
    intro j nn nn2 σ ρ k b l e1 e2 e3 S hk M N O
    obtain ⟨nn, rfl⟩ : ∃ j, nn = j + 1 := ⟨nn - 1, by omega⟩
    obtain ⟨nn2, rfl⟩ : ∃ j, nn2 = j + 1 := ⟨nn2 - 1, by omega⟩
    have n8 : ¬ (8 : Int32) ≤ nI j := nI_ge (a := j) (b := 8) (by omega) (by decide)
    obtain ⟨σ', ρ', k', b', l', c1, c2, c3, c4, c5, c6, c7⟩ := short_l (K := j) hm hn (by omega) (fun σ v1 => F_X7_shortest_30 nn σ v1) (fun σ v3 v2 v1 => F_X8_shortest_17 nn2 σ v3 v2 v1) 5 0 FU FU σ ρ k b l (by omega) (by decide) (by decide) S hk M N O
    obtain ⟨σ2, ρ2, r, d1, d2, d3, d4⟩ := ih (j + 1) nn nn2 σ' ρ' k' b' l' (by omega) (by omega) (by omega) c3 c4 c5 c6 c7
    rw [F_X7_shortest_30, F_X8_shortest_17, if_neg n8, if_neg n8]
    exact ⟨σ2, ρ2, r, c1.trans d1, c2.trans d2, d3, d4⟩
theorem call_shortest : CALL (fun σ => F_X7_shortest σ) (fun σ => F_X8_shortest σ) := by
  intro σ ρ I
  obtain ⟨⟨m, len, n, R⟩, L, w, G, S⟩ := I
  have I : INV σ ρ := ⟨⟨m, len, n, R⟩, L, w, G, S⟩
  have no : ∀ {r : Int32}, ∃ σ' r' ρ', some (σ, r) = some (σ', r') ∧ some (ρ, r) = some (ρ', r') ∧ INV σ' ρ' ∧ CF σ σ' ∧ RF ρ ρ' := fun {r} => ⟨σ, r, ρ, rfl, rfl, I, fun _ _ => rfl, fun _ _ => rfl⟩
  show ∃ σ' r ρ', F_X7_shortest σ = some (σ', r) ∧ F_X8_shortest ρ = some (ρ', r) ∧ _
  unfold F_X7_shortest F_X8_shortest
  obtain ⟨b, e1, e2, e3⟩ := isEmpty_p R
  rw [e1, e2, ck_t _ (RT_b R), Option.bind_some, Option.bind_some]
  cases b with
  | true => rw [bI_t, if_neg i10, if_neg i10]; exact no
  | false =>
    obtain ⟨σ1, g1, g2, g3, g4⟩ := begin_c (MC_tcpy (σ := σ) w)
    obtain ⟨σ', ρ', r, a1, a3, a4, a5⟩ := short_o (e3 rfl).1 (RT_n R) 8 0 FU FU σ1 ρ (ρ 92) (-4) 0 (by omega) (by decide) (by decide) (RTS_cc (RTS_tcpy R) (fun i h1 h2 => g3 i (by omega))) (KX_of (K2_rf _)) g2 (MR_rf ρ) g4
    have a1' : F_X7_shortest_30 FU σ1 0 = some (σ', r) := a1
    have a3' : F_X8_shortest_17 FU ρ 0 0 (-4) = some (ρ', r) := a3
    obtain ⟨i1, i2, i3⟩ := INV_mind I a4 a5
    rw [bI_f, if_pos rfl, if_pos rfl, g1, Option.bind_some, a1', a3']
    exact ⟨_, _, _, rfl, rfl, i1, i2, i3⟩
end R2
end
section
/-! more, ever, stubborn, met -/
section R3
variable {m n : Nat} {len : Nat → Nat}
theorem more_l {σ0 ρ0 : Mem} {x : Int32} (hm : 0 < m) (hn : ρ0 92 1 = nI n) (hmm : ρ0 92 0 = nI m) (hx : x = 0 ∨ x = 1) : ∀ (d p nn nn2 : Nat) (σ ρ : Mem) (k : Nat → Int32) (b l : Int32), 1 ≤ p → p + d = 9 → d < nn → d < nn2 → RTS σ 2 k m len n → K2 (ρ0 92) k → MC σ0 σ → MR ρ0 ρ → OF σ b l → ∃ σ' ρ' r, F_X7_more_41 x nn σ (nI p) = some (σ', r) ∧ F_X7_more_41b x nn σ (nI p) = some (σ', r) ∧ F_X8_more_30 x nn2 ρ (nI p) l b = some (ρ', r) ∧ MC σ0 σ' ∧ MR ρ0 ρ' := by
  intro d
  have fin : ∀ (σ ρ : Mem) (b l : Int32), OF σ b l → MC σ0 σ → MR ρ0 ρ → ∃ σ' ρ' r, (if x = 0 then some (σ, σ 84 0) else some (σ, σ 84 1)) = some (σ', r) ∧ (if b < 0 then (some (ρ, b)) else (if x = 0 then (some (ρ, b)) else (some (ρ, l)))) = some (ρ', r) ∧ MC σ0 σ' ∧ MR ρ0 ρ' := by
    intro σ ρ b l O M N
    obtain ⟨o1, ⟨rfl, o2⟩ | ⟨o2, o3⟩⟩ := O
    · rw [o1, o2, if_pos im4]
      exact ⟨σ, ρ, -4, by rcases hx with rfl | rfl <;> rfl, rfl, M, N⟩
    · rw [o1, o3, if_neg (Int32.not_lt.mpr o2)]
      rcases hx with rfl | rfl
      · rw [if_pos rfl, if_pos rfl]; exact ⟨σ, ρ, _, rfl, rfl, M, N⟩
      · rw [if_neg i10, if_neg i10]; exact ⟨σ, ρ, _, rfl, rfl, M, N⟩
  induction d with
  | zero =>
    intro p nn nn2 σ ρ k b l h1 e1 e2 e3 S hk M N O
    obtain ⟨nn, rfl⟩ : ∃ j, nn = j + 1 := ⟨nn - 1, by omega⟩
    obtain ⟨nn2, rfl⟩ : ∃ j, nn2 = j + 1 := ⟨nn2 - 1, by omega⟩
    have h8 : m ≤ 8 := S.1.1.2
    have e0 : σ 45 0 = nI m := S.2.2.2.1.1
    rw [F_X7_more_41, F_X7_more_41b, F_X8_more_30, e0, N.1 92 (by omega) (by omega), hmm, if_pos (nI_le (show m ≤ p by omega) (by omega)), if_pos (nI_le (show m ≤ p by omega) (by omega)), if_pos (nI_le (show m ≤ p by omega) (by omega))]
    obtain ⟨σ', ρ', r, f1, f2, f3, f4⟩ := fin σ ρ b l O M N
    exact ⟨σ', ρ', r, f1, f1, f2, f3, f4⟩
  | succ d ih =>
    intro p nn nn2 σ ρ k b l h1 e1 e2 e3 S hk M N O
    obtain ⟨nn, rfl⟩ : ∃ j, nn = j + 1 := ⟨nn - 1, by omega⟩
    obtain ⟨nn2, rfl⟩ : ∃ j, nn2 = j + 1 := ⟨nn2 - 1, by omega⟩
    have h7 : n ≤ 7 := S.2.1.2
    have h8 : m ≤ 8 := S.1.1.2
    have e0 : σ 45 0 = nI m := S.2.2.2.1.1
    rw [F_X7_more_41, F_X7_more_41b, F_X8_more_30, e0, N.1 92 (by omega) (by omega), hmm]
    by_cases k1 : nI m ≤ nI p
    · rw [if_pos k1, if_pos k1, if_pos k1]
      obtain ⟨σ', ρ', r, f1, f2, f3, f4⟩ := fin σ ρ b l O M N
      exact ⟨σ', ρ', r, f1, f1, f2, f3, f4⟩
    have hp : p < m := nI_ltof k1 (by omega)
    have room : σ 49 p = k (5 + p) := S.2.2.2.1.2.2.2.1 p h1 (by omega)
    have rk : k (5 + p) = ρ0 92 (5 + p) := hk _ (by unfold st2; omega)
    obtain ⟨r, hr, er⟩ : ∃ r : Nat, r ≤ 4 ∧ ρ0 92 (5 + p) = nI r := by
      have v := VS_room S.1 h1 (show p ≤ 8 by omega)
      rw [rk] at v
      exact ⟨(ρ0 92 (5 + p)).toInt.toNat, by omega, nI_i v.1 (by omega)⟩
    have n8 : ¬ (8 : Int32) ≤ nI p := nI_ge (a := p) (b := 8) (by omega) (by decide)
    rw [if_neg k1, if_neg k1, if_neg k1, if_neg n8, if_neg n8, ix_nI (n := 9) (show p < 9 by omega) (by decide), ix5 (by omega)]
    simp only [obs, room, rk, er, nI_1]
    by_cases k2 : r = 4
    · subst k2
      rw [if_neg (show ¬ nI 4 < 4 by decide), if_neg (show ¬ nI 4 < 4 by decide), if_pos (show nI 4 = 4 from rfl)]
      exact ih (p + 1) nn nn2 σ ρ k b l (by omega) (by omega) (by omega) (by omega) S hk M N O
    · rw [if_pos (show nI r < (4 : Int32) from nI_lt (a := r) (b := 4) (by omega) (by decide)), if_pos (show nI r < (4 : Int32) from nI_lt (a := r) (b := 4) (by omega) (by decide)), if_neg (show ¬ nI r = (4 : Int32) from fun q => k2 (nI_inj (b := 4) q (by omega) (by decide)))]
      have S1 : RTS (stm σ 49 p (nI (r + 1))) 2 (upd k (5 + p) (nI (r + 1))) m len n := RTS_room S h1 hp (by omega)
      have M1 : MC σ0 (stm σ 49 p (nI (r + 1))) := MC_st M (by omega) (by omega)
      obtain ⟨ρ1, b1, b2, b3, b4, b5⟩ := open_k N hn h7 (KX_of (P := P0) hk)
      have g1 : ρ1 94 (5 + p) = nI r := (b5 _ (by unfold st2; omega)).trans er
      have hk2 : K2 (upd k (5 + p) (nI (r + 1))) (stm ρ1 94 (5 + p) (nI (r + 1)) 94) := by
        intro j hj
        rw [stm_row]
        by_cases q : j = 5 + p
        · subst q; rw [upd_at, upd_at]
        · rw [upd_ne _ _ q, upd_ne _ _ q]; exact b4 j hj id
      obtain ⟨σ2, ρ2, v, c1, c2, -, c4, c5, c6, c7, c84⟩ := run_k S1 hk2 (BG_st b3 (by unfold st2; omega)) hm M1 (MR_st b2)
      obtain ⟨σ3, o1, o2, o3, o4, o5, o6⟩ := offer_c (key := nI p) (v := v) c6 (OF_cg O (c84.trans (stm_ne _ _ _ (by omega)))) (nI_pos' (by omega))
      have S3 := RTS_cc (σ' := σ3) c4 (fun i h1 h2 => o3 i (by omega))
      have room3 : σ3 49 p = nI (r + 1) := by
        have q1 : σ3 49 p = ρ2 94 (5 + p) := S3.2.2.2.1.2.2.2.1 p h1 (by omega)
        rw [q1, c5 _ (by unfold st2; omega), upd_at]
      have S4 : RTS (stm σ3 49 p (nI r)) 2 (upd (ρ2 94) (5 + p) (nI r)) m len n := RTS_room S3 h1 hp hr
      have hk4 : K2 (ρ0 92) (upd (ρ2 94) (5 + p) (nI r)) := by
        intro j hj
        by_cases q : j = 5 + p
        · subst q; rw [upd_at, er]
        · rw [upd_ne _ _ q, c5 j hj, upd_ne _ _ q]; exact hk j hj
      have M4 : MC σ0 (stm σ3 49 p (nI r)) := MC_st o2 (by omega) (by omega)
      have O4 : ∀ {b l : Int32}, OF σ3 b l → OF (stm σ3 49 p (nI r)) b l := fun h => OF_cg h (stm_ne _ _ _ (by omega))
      rw [b1, Option.bind_some, g1, nI_1, c1, bd2_s, bd2_s, o1, Option.bind_some, Option.bind_some, room3, nI_pred, c2, bd2_s]
      by_cases q1 : b < 0
      · rw [if_pos q1]
        exact ih (p + 1) nn nn2 _ ρ2 _ _ _ (by omega) (by omega) (by omega) (by omega) S4 hk4 M4 c7 (O4 (o4 q1))
      · rw [if_neg q1]
        by_cases q2 : v < l
        · rw [if_pos q2]
          exact ih (p + 1) nn nn2 _ ρ2 _ _ _ (by omega) (by omega) (by omega) (by omega) S4 hk4 M4 c7 (O4 (o5 q1 q2))
        · rw [if_neg q2]
          exact ih (p + 1) nn nn2 _ ρ2 _ _ _ (by omega) (by omega) (by omega) (by omega) S4 hk4 M4 c7 (O4 (o6 q1 q2))
theorem call_more (x : Int32) : CALL (fun σ => F_X7_more σ x) (fun σ => F_X8_more σ x) := by
  intro σ ρ I
  obtain ⟨⟨m, len, n, R⟩, L, w, G, S⟩ := I
  have I : INV σ ρ := ⟨⟨m, len, n, R⟩, L, w, G, S⟩
  have no : ∀ {r : Int32}, ∃ σ' r' ρ', some (σ, r) = some (σ', r') ∧ some (ρ, r) = some (ρ', r') ∧ INV σ' ρ' ∧ CF σ σ' ∧ RF ρ ρ' := fun {r} => ⟨σ, r, ρ, rfl, rfl, I, fun _ _ => rfl, fun _ _ => rfl⟩
  show ∃ σ' r ρ', F_X7_more σ x = some (σ', r) ∧ F_X8_more ρ x = some (ρ', r) ∧ _
  unfold F_X7_more F_X8_more
  obtain ⟨b, e1, e2, e3⟩ := isEmpty_p R
  rw [e1, e2, ck_t _ (RT_b R), ck_t _ (RT_b R)]
  simp only [obs]
  rcases x01 x with ⟨h1, h2, h3⟩ | ⟨h1, h2⟩
  · rw [if_pos h1, if_neg h2, if_neg h3]; exact no
  · rw [if_neg h1]
    cases b with
    | true =>
      rcases h2 with rfl | rfl
      · rw [if_pos rfl, bI_t, if_neg i10]; exact no
      · rw [if_neg i10, if_pos rfl, bI_t, if_neg i10]; exact no
    | false =>
      obtain ⟨σ1, g1, g2, g3, g4⟩ := begin_c (MC_tcpy (σ := σ) w)
      obtain ⟨σ', ρ', r, a1, a2, a3, a4, a5⟩ := more_l (x := x) (e3 rfl).1 (RT_n R) (VS_m (RT_V R)) h2 8 1 FU FU σ1 ρ (ρ 92) (-4) 0 (by omega) (by omega) (by decide) (by decide) (RTS_cc (RTS_tcpy R) (fun i h1 h2 => g3 i (by omega))) (K2_rf _) g2 (MR_rf ρ) g4
      have a1' : F_X7_more_41 x FU σ1 1 = some (σ', r) := a1
      have a2' : F_X7_more_41b x FU σ1 1 = some (σ', r) := a2
      have a3' : F_X8_more_30 x FU ρ 1 0 (-4) = some (ρ', r) := a3
      rw [bI_f, g1]
      simp only [obs, a1', a2', a3', if_true]
      obtain ⟨i1, i2, i3⟩ := INV_mind I a4 a5
      rcases h2 with rfl | rfl
      · rw [if_pos rfl]; exact ⟨_, _, _, rfl, rfl, i1, i2, i3⟩
      · rw [if_neg i10, if_pos rfl]; exact ⟨_, _, _, rfl, rfl, i1, i2, i3⟩
/-- late by v, one cart -/
def PL (c : Nat) : Nat → Prop := fun j => j = 54 + 11 * c
theorem late_k {σ0 σ ρ0 ρ : Mem} {k : Nat → Int32} {c : Nat} {v : Int32} (S : RTS σ 2 k m len n) (hm : 0 < m) (M : MC σ0 σ) (N : MR ρ0 ρ) (hn : ρ0 92 1 = nI n) (hc : c < n) (hk : KX (PL c) (ρ0 92) k) : ∃ ρ1 σ' ρ' r, F_X8_opens ρ = some ρ1 ∧ F_X7_costInMind (stm σ (22 * 2 + 15 + c) 5 v) = some (σ', r) ∧ F_X8_costs (stm ρ1 94 (54 + 11 * c) v) = some (ρ', r) ∧ RT σ' 2 (ρ' 94) m len n ∧ KX (PL c) (ρ0 92) (ρ' 94) ∧ MC σ0 σ' ∧ MR ρ0 ρ' := by
  have h7 : n ≤ 7 := S.2.1.2
  obtain ⟨ρ1, b1, b2, b3, b4, b5⟩ := open_k N hn h7 hk
  have hk2 : K2 (upd k (54 + 11 * c) v) (stm ρ1 94 (54 + 11 * c) v 94) := by
    intro j hj
    rw [stm_row]
    by_cases q : j = 54 + 11 * c
    · subst q; rw [upd_at, upd_at]
    · rw [upd_ne _ _ q, upd_ne _ _ q]; exact b4 j hj q
  obtain ⟨σ2, ρ2, r, c1, c2, c3, c4, c5, c6, c7, -⟩ := run_k (RTS_late S hc v) hk2 (BG_st b3 (by unfold st2; omega)) hm (MC_st M (by omega) (by omega)) (MR_st b2)
  exact ⟨ρ1, σ2, ρ2, r, b1, c1, c2, c3, fun j hj hp => by rw [c5 j hj, upd_ne _ _ hp]; exact hk j hj hp, c6, c7⟩
theorem ever_l {σ0 ρ0 : Mem} {x : Int32} {c : Nat} (hm : 0 < m) (hn : ρ0 92 1 = nI n) (hc : c < n) : ∀ (d j nn nn2 : Nat) (σ ρ : Mem) (k : Nat → Int32), j + d = 41 → d < nn → d < nn2 → RTS σ 2 k m len n → KX (PL c) (ρ0 92) k → MC σ0 σ → MR ρ0 ρ → ∃ σ' ρ' r, F_X7_ever_57 x nn σ (nI j) (22 * 2 + 15 + c) = some (σ', r) ∧ F_X8_ever_24 (nI c) nn2 ρ (nI j) = some (ρ', r) ∧ MC σ0 σ' ∧ MR ρ0 ρ' := by
  intro d
  induction d with
  | zero =>
    intro j nn nn2 σ ρ k e1 e2 e3 S hk M N
    obtain rfl : j = 41 := by omega
    obtain ⟨nn, rfl⟩ : ∃ j, nn = j + 1 := ⟨nn - 1, by omega⟩
    obtain ⟨nn2, rfl⟩ : ∃ j, nn2 = j + 1 := ⟨nn2 - 1, by omega⟩
    rw [F_X7_ever_57, F_X8_ever_24, if_pos (show (40 : Int32) < nI 41 by decide), if_pos (show (40 : Int32) < nI 41 by decide)]
    exact ⟨σ, ρ, _, rfl, rfl, M, N⟩
  | succ d ih =>
    intro j nn nn2 σ ρ k e1 e2 e3 S hk M N
    obtain ⟨nn, rfl⟩ : ∃ j, nn = j + 1 := ⟨nn - 1, by omega⟩
    obtain ⟨nn2, rfl⟩ : ∃ j, nn2 = j + 1 := ⟨nn2 - 1, by omega⟩
    have h7 : n ≤ 7 := S.2.1.2
    obtain ⟨ρ1, σ2, ρ2, r, a1, a2, a3, a4, a5, a6, a7⟩ := late_k (v := nI j) S hm M N hn hc hk
    obtain ⟨bs, t1, t2⟩ := stands_p a4
    have n40 : ¬ (40 : Int32) < nI j := nI_nlt (a := 40) (b := j) (by omega) (by decide)
    rw [F_X7_ever_57, F_X8_ever_24, if_neg n40, if_neg n40, a2, bd2_s, t1, Option.bind_some, a1, Option.bind_some, puts10 (by omega), Option.bind_some, a3, bd2_s, t2, Option.bind_some, nI_1]
    cases bs with
    | false =>
      rw [bI_f, if_pos rfl, if_pos rfl]
      exact ih (j + 1) nn nn2 σ2 ρ2 (ρ2 94) (by omega) (by omega) (by omega) (RTS_of a4) a5 a6 a7
    | true =>
      rw [bI_t, if_neg i10, if_neg i10]
      exact ⟨σ2, ρ2, _, rfl, rfl, a6, a7⟩
theorem cart_x2 {σ : Mem} {k : Nat → Int32} (S : RTS σ 2 k m len n) {c : Nat} (hc : c < n) : ¬ (nI c < 0 ∨ σ (22 * 2) 2 ≤ nI c ∨ 7 ≤ nI c) := by
  have h7 : n ≤ 7 := S.2.1.2
  exact nocart rfl (by omega) (by rw [S.2.2.2.2.1, S.2.1.1]; exact nI_lt hc (by omega))
theorem call_ever (x : Int32) : CALL (fun σ => F_X7_ever σ x) (fun σ => F_X8_ever σ x) := by
  intro σ ρ I
  obtain ⟨⟨m, len, n, R⟩, L, w, G, S⟩ := I
  have I : INV σ ρ := ⟨⟨m, len, n, R⟩, L, w, G, S⟩
  have h7 := RT_7 R
  have h8 := RT_8 R
  have no : ∀ {r : Int32}, ∃ σ' r' ρ', some (σ, r) = some (σ', r') ∧ some (ρ, r) = some (ρ', r') ∧ INV σ' ρ' ∧ CF σ σ' ∧ RF ρ ρ' := fun {r} => ⟨σ, r, ρ, rfl, rfl, I, fun _ _ => rfl, fun _ _ => rfl⟩
  show ∃ σ' r ρ', F_X7_ever σ x = some (σ', r) ∧ F_X8_ever ρ x = some (ρ', r) ∧ _
  unfold F_X7_ever F_X8_ever
  have e0 : σ 1 0 = nI m := (RT_R R).1
  rw [e0, VS_m (RT_V R), ck_t _ (RT_b R)]
  rcases cart_x R x with ⟨h1, h2⟩ | ⟨c, hc, rfl, h1, h2⟩
  · rw [if_pos h1, h2, Option.bind_some, if_pos rfl]; exact no
  rw [if_neg h1, h2, Option.bind_some, if_neg i10, ix_nI (n := 7) (show c < 7 by omega) (by decide), Option.bind_some]
  by_cases hm : nI m = 0
  · rw [if_pos hm, if_pos hm]; exact no
  have hm0 : 0 < m := by
    rcases Nat.eq_zero_or_pos m with q | q
    · subst q; exact absurd rfl hm
    · exact q
  have ST := RTS_tcpy R
  rw [if_neg hm, if_neg hm, if_neg (cart_x2 ST hc), Option.bind_some]
  obtain ⟨σ', ρ', r, a1, a2, a3, a4⟩ := ever_l (x := nI c) hm0 (RT_n R) hc 41 0 FU FU (tcpy σ 2 0) ρ (ρ 92) (by omega) (by decide) (by decide) ST (KX_of (K2_rf _)) (MC_tcpy w) (MR_rf ρ)
  have a1' : F_X7_ever_57 (nI c) FU (tcpy σ 2 0) 0 (22 * 2 + 15 + c) = some (σ', r) := a1
  have a2' : F_X8_ever_24 (nI c) FU ρ 0 = some (ρ', r) := a2
  obtain ⟨i1, i2, i3⟩ := INV_mind I a3 a4
  rw [a1', a2']
  exact ⟨_, _, _, rfl, rfl, i1, i2, i3⟩
theorem call_stubborn (x : Int32) : CALL (fun σ => F_X7_stubborn σ x) (fun σ => F_X8_stubborn σ x) := by
  intro σ ρ I
  obtain ⟨⟨m, len, n, R⟩, L, w, G, S⟩ := I
  have I : INV σ ρ := ⟨⟨m, len, n, R⟩, L, w, G, S⟩
  have h7 := RT_7 R
  have h8 := RT_8 R
  have no : ∀ {r : Int32}, ∃ σ' r' ρ', some (σ, r) = some (σ', r') ∧ some (ρ, r) = some (ρ', r') ∧ INV σ' ρ' ∧ CF σ σ' ∧ RF ρ ρ' := fun {r} => ⟨σ, r, ρ, rfl, rfl, I, fun _ _ => rfl, fun _ _ => rfl⟩
  show ∃ σ' r ρ', F_X7_stubborn σ x = some (σ', r) ∧ F_X8_stubborn ρ x = some (ρ', r) ∧ _
  unfold F_X7_stubborn F_X8_stubborn
  have e0 : σ 1 0 = nI m := (RT_R R).1
  rw [e0, VS_m (RT_V R), ck_t _ (RT_b R)]
  rcases cart_x R x with ⟨h1, h2⟩ | ⟨c, hc, rfl, h1, h2⟩
  · rw [if_pos h1, h2, Option.bind_some, if_pos rfl]; exact no
  rw [if_neg h1, h2, Option.bind_some, if_neg i10, ix_nI (n := 7) (show c < 7 by omega) (by decide), Option.bind_some]
  by_cases hm : nI m = 0
  · rw [if_pos hm, if_pos hm]; exact no
  have hm0 : 0 < m := by
    rcases Nat.eq_zero_or_pos m with q | q
    · subst q; exact absurd rfl hm
    · exact q
  obtain ⟨ρ1, b1, b2, b3, b4, b5⟩ := open_k (MR_rf ρ) (RT_n R) h7 (KX_of (P := P0) (K2_rf (ρ 92)))
  obtain ⟨σ2, ρ2, v, c1, c2, -, c4, c5, c6, c7, -⟩ := run_k (RTS_tcpy R) b5 b3 hm0 (MC_tcpy (σ := σ) w) b2
  obtain ⟨ρ3, d1, d2, d3, d4, d5⟩ := open_k (P := P0) c7 (RT_n R) h7 (KX_of c5)
  have hk2 : K2 (upd (ρ2 94) (47 + 11 * c) 0) (stm ρ3 94 (47 + 11 * c) 0 94) := by
    intro j hj
    rw [stm_row]
    by_cases q : j = 47 + 11 * c
    · subst q; rw [upd_at, upd_at]
    · rw [upd_ne _ _ q, upd_ne _ _ q]; exact d4 j hj id
  obtain ⟨σ4, ρ4, v2, f1, f2, -, f4, f5, f6, f7, -⟩ := run_k (RTS_bk0 c4 hc) hk2 (BG_st d3 (by unfold st2; omega)) hm0 (MC_st c6 (by omega) (by omega)) (MR_st d2)
  obtain ⟨i1, i2, i3⟩ := INV_mind I f6 f7
  rw [if_neg hm, if_neg hm, c1, bd2_s, if_neg (cart_x2 c4 hc), Option.bind_some, f1, bd2_s, b1, Option.bind_some, c2, bd2_s, d1, Option.bind_some, puts3 (by omega), Option.bind_some, f2, bd2_s]
  exact ⟨_, _, _, rfl, rfl, i1, i2, i3⟩
theorem call_met (x y : Int32) : CALL (fun σ => F_X7_met σ x y) (fun σ => F_X8_met σ x y) := by
  intro σ ρ I
  obtain ⟨⟨m, len, n, R⟩, L, w, G, S⟩ := I
  have I : INV σ ρ := ⟨⟨m, len, n, R⟩, L, w, G, S⟩
  have h7 := RT_7 R
  have h8 := RT_8 R
  have no : ∀ {r : Int32}, ∃ σ' r' ρ', some (σ, r) = some (σ', r') ∧ some (ρ, r) = some (ρ', r') ∧ INV σ' ρ' ∧ CF σ σ' ∧ RF ρ ρ' := fun {r} => ⟨σ, r, ρ, rfl, rfl, I, fun _ _ => rfl, fun _ _ => rfl⟩
  show ∃ σ' r ρ', F_X7_met σ x y = some (σ', r) ∧ F_X8_met ρ x y = some (ρ', r) ∧ _
  unfold F_X7_met F_X8_met
  have e0 : σ 1 0 = nI m := (RT_R R).1
  rw [e0, VS_m (RT_V R), ck_t _ (RT_b R)]
  rcases cart_x R x with ⟨h1, h2⟩ | ⟨A, hA, rfl, h1, h2⟩
  · rw [if_pos h1, h2, Option.bind_some, if_pos rfl]; exact no
  rw [if_neg h1, h2, Option.bind_some, if_neg i10, ix_nI (n := 7) (show A < 7 by omega) (by decide), Option.bind_some]
  rcases cart_x R y with ⟨h3, h4⟩ | ⟨B, hB, rfl, h3, h4⟩
  · rw [if_pos h3, h4, Option.bind_some, if_pos rfl]; exact no
  rw [if_neg h3, h4, Option.bind_some, if_neg i10, ix_nI (n := 7) (show B < 7 by omega) (by decide), Option.bind_some]
  by_cases hne : nI A = nI B
  · rw [if_pos hne, if_pos hne]; exact no
  rw [if_neg hne, if_neg hne]
  by_cases hm : nI m = 0
  · rw [if_pos hm, if_pos hm]; exact no
  have hm0 : 0 < m := by
    rcases Nat.eq_zero_or_pos m with q | q
    · subst q; exact absurd rfl hm
    · exact q
  rw [if_neg hm, if_neg hm]
  unfold F_X6_watch
  obtain ⟨ρ1, g1, g2, g3, g4, g5, g6⟩ := opens_r (ρ := ρ) (RT_n R) h7
  have hA4 : ¬ nI A = -4 := nI_neN (by omega) (by decide)
  have cw0 : ∀ i, i ≠ 22 * 2 → stm (stm (stm (tcpy σ 2 0) (22 * 2) 8 (nI A)) (22 * 2) 9 (nI B)) (22 * 2) 10 (-4) i = tcpy σ 2 0 i := fun i hi => by rw [stm_ne _ _ _ hi, stm_ne _ _ _ hi, stm_ne _ _ _ hi]
  have cw1 : stm (stm (stm (tcpy σ 2 0) (22 * 2) 8 (nI A)) (22 * 2) 9 (nI B)) (22 * 2) 10 (-4) (22 * 2) = upd (upd (upd (tcpy σ 2 0 (22 * 2)) 8 (nI A)) 9 (nI B)) 10 (-4) := by rw [stm_row, stm_row, stm_row]
  have r94 : stm (stm ρ1 91 17 (nI A)) 91 18 (nI B) 94 = ρ1 94 := by rw [stm_ne _ _ _ (by omega), stm_ne _ _ _ (by omega)]
  have r91 : stm (stm ρ1 91 17 (nI A)) 91 18 (nI B) 91 = upd (upd (ρ1 91) 17 (nI A)) 18 (nI B) := by rw [stm_row, stm_row]
  have SW : RTS (stm (stm (stm (tcpy σ 2 0) (22 * 2) 8 (nI A)) (22 * 2) 9 (nI B)) (22 * 2) 10 (-4)) 2 (stm (stm ρ1 91 17 (nI A)) 91 18 (nI B) 94) m len n := by
    rw [r94]
    obtain ⟨V, hn', K, D, f2, W, hb⟩ := RTS_cg (RTS_tcpy R) g5
    refine ⟨V, hn', K, ?_, by rw [cw1]; simp (disch := omega) only [upd_ne]; exact f2, fun c hc => by rw [cw0 _ (by omega)]; exact W c hc, fun j hj b h1 h2 => by rw [cw0 _ (by omega)]; exact hb j hj b h1 h2⟩
    unfold RD at D ⊢
    rw [cw0 (22 * 2 + 1) (by omega), cw0 (22 * 2 + 2) (by omega), cw0 (22 * 2 + 3) (by omega), cw0 (22 * 2 + 4) (by omega), cw0 (22 * 2 + 5) (by omega), cw0 (22 * 2 + 6) (by omega), cw0 (22 * 2 + 7) (by omega), cw0 (22 * 2 + 8) (by omega), cw0 (22 * 2 + 9) (by omega), cw0 (22 * 2 + 10) (by omega), cw0 (22 * 2 + 11) (by omega), cw0 (22 * 2 + 12) (by omega)]
    exact D
  have WWt : WW (stm (stm (stm (tcpy σ 2 0) (22 * 2) 8 (nI A)) (22 * 2) 9 (nI B)) (22 * 2) 10 (-4)) (stm (stm ρ1 91 17 (nI A)) 91 18 (nI B)) 2 := by
    unfold WW
    rw [cw1, r91]
    simp (disch := omega) only [upd_ne, upd_at]
    exact Or.inr ⟨trivial, trivial, g4.2.2.symm, Or.inl g4.2.2⟩
  obtain ⟨σ', ρ', v, q1, q2, q3⟩ := run_p SW (by rw [r94]; exact g6) WWt hm0
  have MCt := MC_tcpy (σ := σ) w
  have ans : σ' 44 10 = ρ' 91 19 := by
    rcases q3.2.1 with ⟨z, -⟩ | ⟨-, -, z, -⟩
    · have z2 : σ' (22 * 2) 8 = nI A := by
        rw [q3.2.2.1.2.2.1, cw1]; simp (disch := omega) only [upd_ne, upd_at]
      exact absurd (z2.symm.trans z) hA4
    · exact z
  have mc : MC σ (stm (stm (stm σ' (22 * 2) 8 (-4)) (22 * 2) 9 (-4)) (22 * 2) 10 (-4)) := by
    refine ⟨fun i hi h84 => ?_, ?_, ?_⟩
    · rw [stm_ne _ _ _ (by omega), stm_ne _ _ _ (by omega), stm_ne _ _ _ (by omega), q3.2.2.1.1 i (by omega), cw0 i (by omega)]; exact MCt.1 i hi h84
    · show stm (stm (stm σ' (22 * 2) 8 (-4)) (22 * 2) 9 (-4)) (22 * 2) 10 (-4) (22 * 2) 8 = -4
      simp only [stm_row]
      simp (disch := omega) only [upd_ne, upd_at]
    · show stm (stm (stm σ' (22 * 2) 8 (-4)) (22 * 2) 9 (-4)) (22 * 2) 10 (-4) (22 * 2) 9 = -4
      simp only [stm_row]
      simp (disch := omega) only [upd_ne, upd_at]
  have mr : MR ρ ρ' := by
    refine ⟨fun i h1 h2 => ?_, ?_⟩
    · rw [q3.2.2.2.1.1 i h1 h2, stm_ne _ _ _ h2, stm_ne _ _ _ h2]; exact g2 i h1 h2
    · rw [q3.2.2.2.1.2 10 (by omega) (by omega), r91]
      simp (disch := omega) only [upd_ne]
      exact g3 10 (by omega) (by omega) (by omega)
  obtain ⟨i1, i2, i3⟩ := INV_mind I mc mr
  rw [Option.bind_some, q1, bd2_s, Option.bind_some, g1, Option.bind_some, q2, bd2_s, ans]
  exact ⟨_, _, _, rfl, rfl, i1, i2, i3⟩
end R3
end
section
/-! best, days -/
section R4
variable {m n : Nat} {len : Nat → Nat}
def PQ (j v : Nat) : Nat → Prop := fun q => ∃ c, j ≤ c ∧ c < v ∧ q = 54 + 11 * c
theorem KX_late {k k' : Nat → Int32} {j v : Nat} {x : Int32} (h : KX (PQ j v) k k') : KX (PQ (j + 1) v) (upd k (54 + 11 * j) x) (upd k' (54 + 11 * j) x) := by
  intro q hq hp
  by_cases e : q = 54 + 11 * j
  · subst e; rw [upd_at, upd_at]
  · rw [upd_ne _ _ e, upd_ne _ _ e]
    exact h q hq (fun ⟨c, h1, h2, h3⟩ => hp ⟨c, by
      have : c ≠ j := fun z => e (by rw [← z]; exact h3)
      omega, h2, h3⟩)
theorem KX_one {k : Nat → Int32} {j v c : Nat} {x : Int32} (hj : j ≤ c) (hv : c < v) : KX (PQ j v) k (upd k (54 + 11 * c) x) := fun q _ hp => upd_ne _ _ (fun e => hp ⟨c, hj, hv, e⟩)
theorem PQ_0 {j : Nat} : ∀ q, PQ j j q → P0 q := fun q ⟨c, h1, h2, _⟩ => absurd h1 (by omega)
theorem BG_sc {ρ : Mem} {c : Nat} {v : Int32} (B : BG (ρ 94) n) (hc : c < 7) : BG (stm ρ 94 (54 + 11 * c) v 94) n := BG_st B (by unfold st2; omega)
/-- the inner loops of best -/
theorem best_i {σ0 ρ0 : Mem} {x code l b : Int32} {var : Nat} (hm : 0 < m) (hv : var ≤ n) (kc kcb : Mem → Int32 → Int32 → Option (Mem × Int32)) (kr krb : Mem → Int32 → Int32 → Int32 → Int32 → Option (Mem × Int32)) : ∀ (d j nn nn2 : Nat) (σ ρ : Mem) (k : Nat → Int32), j + d = var → d < nn → d < nn2 → RTS σ 2 k m len n → KX (PQ j var) k (ρ 94) → KX (PQ 0 var) (ρ0 92) k → BG (ρ 94) n → MC σ0 σ → MR ρ0 ρ → ∃ σ' ρ' v, F_X7_best_65 x kc nn σ (nI j) code (nI var) = (F_X1_offer σ' code v).bind (fun s => kc s (code + 1) (nI var)) ∧ F_X7_best_65b x kcb nn σ (nI j) code (nI var) = (F_X1_offer σ' code v).bind (fun s => kcb s (code + 1) (nI var)) ∧ F_X8_best_69 x kr nn2 ρ (nI j) code l b (nI var) = (if b < 0 then (kr ρ' (code + 1) v code (nI var)) else (if v < l then (kr ρ' (code + 1) v code (nI var)) else (kr ρ' (code + 1) l b (nI var)))) ∧ F_X8_best_69b x krb nn2 ρ (nI j) code l b (nI var) = (if b < 0 then (krb ρ' (code + 1) v code (nI var)) else (if v < l then (krb ρ' (code + 1) v code (nI var)) else (krb ρ' (code + 1) l b (nI var)))) ∧ RTS σ' 2 (ρ' 94) m len n ∧ KX (PQ 0 var) (ρ0 92) (ρ' 94) ∧ MC σ0 σ' ∧ MR ρ0 ρ' ∧ σ' 84 = σ 84 := by
  intro d
  induction d with
  | zero =>
    intro j nn nn2 σ ρ k e1 e2 e3 S hk h0 B M N
    have h7 : n ≤ 7 := S.2.1.2
    obtain rfl : j = var := by omega
    obtain ⟨nn, rfl⟩ : ∃ j, nn = j + 1 := ⟨nn - 1, by omega⟩
    obtain ⟨nn2, rfl⟩ : ∃ j, nn2 = j + 1 := ⟨nn2 - 1, by omega⟩
    obtain ⟨σ2, ρ2, v, c1, c2, -, c4, c5, c6, c7, c84⟩ := run_k S (KX_0.mp (KX_w hk PQ_0)) B hm M N
    rw [F_X7_best_65, F_X7_best_65b, F_X8_best_69, F_X8_best_69b, if_pos (nI_le (Nat.le_refl _) (by omega)), if_pos (nI_le (Nat.le_refl _) (by omega)), if_pos (nI_le (Nat.le_refl _) (by omega)), if_pos (nI_le (Nat.le_refl _) (by omega)), c1, bd2_s, bd2_s, c2, bd2_s, bd2_s]
    exact ⟨σ2, ρ2, v, rfl, rfl, rfl, rfl, c4, KX_tr h0 (KX_of c5), c6, c7, c84⟩
  | succ d ih =>
    intro j nn nn2 σ ρ k e1 e2 e3 S hk h0 B M N
    have h7 : n ≤ 7 := S.2.1.2
    obtain ⟨nn, rfl⟩ : ∃ j, nn = j + 1 := ⟨nn - 1, by omega⟩
    obtain ⟨nn2, rfl⟩ : ∃ j, nn2 = j + 1 := ⟨nn2 - 1, by omega⟩
    have vj : ¬ nI var ≤ nI j := nI_ge (by omega) (by omega)
    have c7 : j < 7 := by omega
    rw [F_X7_best_65, F_X7_best_65b, F_X8_best_69, F_X8_best_69b, if_neg vj, if_neg vj, if_neg vj, if_neg vj, ix_nI c7 (by decide), Option.bind_some, Option.bind_some, puts10 c7, Option.bind_some, Option.bind_some, nI_1]
    obtain ⟨σ', ρ', v, q1, q2, q3, q4, q5, q6, q7, q8, q9⟩ := ih (j + 1) nn nn2 (stm σ (22 * 2 + 15 + j) 5 (5 * ((code >>> ((2 * nI j) &&& 31)) &&& 3))) (stm ρ 94 (54 + 11 * j) (5 * ((code >>> ((2 * nI j) &&& 31)) &&& 3))) _ (by omega) (by omega) (by omega) (RTS_late S (show j < n by omega) _) (by rw [stm_row]; exact KX_late hk) (KX_tr h0 (KX_one (Nat.zero_le _) (by omega))) (BG_sc B c7) (MC_st M (by omega) (by omega)) (MR_st N)
    exact ⟨σ', ρ', v, q1, q2, q3, q4, q5, q6, q7, q8, q9.trans (stm_ne _ _ _ (by omega))⟩
theorem pw4 {v : Nat} (h : v ≤ 4) : (1 : Int32) <<< ((2 * nI v) &&& 31) = nI (4 ^ v) := by
  have : v = 0 ∨ v = 1 ∨ v = 2 ∨ v = 3 ∨ v = 4 := by omega
  rcases this with rfl | rfl | rfl | rfl | rfl <;> decide
theorem best_o {σ0 ρ0 : Mem} {x : Int32} {var : Nat} (hm : 0 < m) (hv : var ≤ n) (hv4 : var ≤ 4) (hn : ρ0 92 1 = nI n) (h7 : n ≤ 7) : ∀ (d j nn nn2 : Nat) (σ ρ : Mem) (k : Nat → Int32) (b l : Int32), j + d = 4 ^ var → d < nn → d < nn2 → RTS σ 2 k m len n → KX (PQ 0 var) (ρ0 92) k → MC σ0 σ → MR ρ0 ρ → OF σ b l → (j = 0 ∨ 0 ≤ b) → ∃ σ' ρ' r, F_X7_best_53 x nn σ (nI j) (nI var) = some (σ', r) ∧ F_X7_best_53b x nn σ (nI j) (nI var) = some (σ', r) ∧ F_X8_best_52 x nn2 ρ (nI j) l b (nI var) = some (ρ', r) ∧ F_X8_best_52b x nn2 ρ (nI j) l b (nI var) = some (ρ', r) ∧ MC σ0 σ' ∧ MR ρ0 ρ' := by
  have h256 : 4 ^ var ≤ 4 ^ 4 := Nat.pow_le_pow_right (by omega) hv4
  have h1 : 1 ≤ 4 ^ var := Nat.one_le_pow _ _ (by omega)
  have h44 : (4 : Nat) ^ 4 = 256 := rfl
  intro d
  induction d with
  | zero =>
    intro j nn nn2 σ ρ k b l e1 e2 e3 S hk M N O hb
    obtain rfl : j = 4 ^ var := by omega
    obtain ⟨nn, rfl⟩ : ∃ j, nn = j + 1 := ⟨nn - 1, by omega⟩
    obtain ⟨nn2, rfl⟩ : ∃ j, nn2 = j + 1 := ⟨nn2 - 1, by omega⟩
    have hb0 := hb.resolve_left (by omega)
    have le : nI (4 ^ var) ≤ nI (4 ^ var) := nI_le (Nat.le_refl _) (by omega)
    rw [F_X7_best_53, F_X7_best_53b, F_X8_best_52, F_X8_best_52b, pw4 hv4]
    repeat rw [if_pos le]
    rw [tell_k O hb0]
    refine ⟨σ, ρ, _, rfl, rfl, ?_, ?_, M, N⟩
    · by_cases q : x = 0
      · rw [if_pos q, if_pos q]
      · rw [if_neg q, if_neg q]
    · by_cases q : x = 0
      · rw [if_pos q, if_pos q]
      · rw [if_neg q, if_neg q]
  | succ d ih =>
    intro j nn nn2 σ ρ k b l e1 e2 e3 S hk M N O hb
    obtain ⟨nn, rfl⟩ : ∃ j, nn = j + 1 := ⟨nn - 1, by omega⟩
    obtain ⟨nn2, rfl⟩ : ∃ j, nn2 = j + 1 := ⟨nn2 - 1, by omega⟩
    have nle : ¬ nI (4 ^ var) ≤ nI j := nI_ge (by omega) (by omega)
    have fu : var < FU := Nat.lt_of_le_of_lt hv4 (by decide)
    obtain ⟨ρ1, b1, b2, b3, b4, b5⟩ := open_k N hn h7 hk
    obtain ⟨σ2, ρ2, v, a1, a2, a3, a4, a5, a6, a7, a8, a84⟩ := best_i (x := x) (code := nI j) (l := l) (b := b) hm hv (fun σ v3 v2 => F_X7_best_53 x nn σ v3 v2) (fun σ v3 v2 => F_X7_best_53b x nn σ v3 v2) (fun σ v5 v4 v3 v2 => F_X8_best_52 x nn2 σ v5 v4 v3 v2) (fun σ v5 v4 v3 v2 => F_X8_best_52b x nn2 σ v5 v4 v3 v2) var 0 FU FU σ ρ1 k (by omega) fu fu S b4 hk b3 M b2
    have a1' : F_X7_best_65 x (fun σ v3 v2 => F_X7_best_53 x nn σ v3 v2) FU σ 0 (nI j) (nI var) = _ := a1
    have a2' : F_X7_best_65b x (fun σ v3 v2 => F_X7_best_53b x nn σ v3 v2) FU σ 0 (nI j) (nI var) = _ := a2
    have a3' : F_X8_best_69 x (fun σ v5 v4 v3 v2 => F_X8_best_52 x nn2 σ v5 v4 v3 v2) FU ρ1 0 (nI j) l b (nI var) = _ := a3
    have a4' : F_X8_best_69b x (fun σ v5 v4 v3 v2 => F_X8_best_52b x nn2 σ v5 v4 v3 v2) FU ρ1 0 (nI j) l b (nI var) = _ := a4
    have j0 : 0 ≤ nI j := nI_pos' (by omega)
    obtain ⟨σ3, o1, o2, o3, o4, o5, o6⟩ := offer_c (v := v) a7 (OF_cg O a84) j0
    have S3 := RTS_cc (σ' := σ3) a5 (fun i h1 h2 => o3 i (by omega))
    rw [F_X7_best_53, F_X7_best_53b, F_X8_best_52, F_X8_best_52b, pw4 hv4]
    repeat rw [if_neg nle]
    rw [b1, Option.bind_some, Option.bind_some, a1', a2', a3', a4', o1, Option.bind_some, Option.bind_some, nI_1]
    by_cases q1 : b < 0
    · repeat rw [if_pos q1]
      exact ih (j + 1) nn nn2 σ3 ρ2 _ _ _ (by omega) (by omega) (by omega) S3 a6 o2 a8 (o4 q1) (Or.inr j0)
    · repeat rw [if_neg q1]
      by_cases q2 : v < l
      · repeat rw [if_pos q2]
        exact ih (j + 1) nn nn2 σ3 ρ2 _ _ _ (by omega) (by omega) (by omega) S3 a6 o2 a8 (o5 q1 q2) (Or.inr j0)
      · repeat rw [if_neg q2]
        exact ih (j + 1) nn nn2 σ3 ρ2 _ _ _ (by omega) (by omega) (by omega) S3 a6 o2 a8 (o6 q1 q2) (Or.inr (Int32.not_lt.mp q1))
theorem call_best (x : Int32) : CALL (fun σ => F_X7_best σ x) (fun σ => F_X8_best σ x) := by
  intro σ ρ I
  obtain ⟨⟨m, len, n, R⟩, L, w, G, S⟩ := I
  have I : INV σ ρ := ⟨⟨m, len, n, R⟩, L, w, G, S⟩
  have h7 := RT_7 R
  have no : ∀ {r : Int32}, ∃ σ' r' ρ', some (σ, r) = some (σ', r') ∧ some (ρ, r) = some (ρ', r') ∧ INV σ' ρ' ∧ CF σ σ' ∧ RF ρ ρ' := fun {r} => ⟨σ, r, ρ, rfl, rfl, I, fun _ _ => rfl, fun _ _ => rfl⟩
  show ∃ σ' r ρ', F_X7_best σ x = some (σ', r) ∧ F_X8_best ρ x = some (ρ', r) ∧ _
  unfold F_X7_best F_X8_best
  obtain ⟨b, e1, e2, e3⟩ := isEmpty_p R
  rw [e1, e2, ck_t _ (RT_b R), ck_t _ (RT_b R)]
  simp only [obs]
  rcases x01 x with ⟨h1, h2, h3⟩ | ⟨h1, h2⟩
  · rw [if_pos h1, if_neg h2, if_neg h3]; exact no
  · rw [if_neg h1]
    cases b with
    | true =>
      rcases h2 with rfl | rfl
      · rw [if_pos rfl, bI_t, if_neg i10]; exact no
      · rw [if_neg i10, if_pos rfl, bI_t, if_neg i10]; exact no
    | false =>
      have ST := RTS_tcpy R
      have ec : tcpy σ 2 0 44 2 = nI n := ST.2.2.2.2.1.trans (RT_n R)
      obtain ⟨σ1, g1, g2, g3, g4⟩ := begin_c (MC_tcpy (σ := σ) w)
      have go : ∀ var, var ≤ n → var ≤ 4 → ∃ σ' ρ' r, F_X7_best_53 x FU σ1 0 (nI var) = some (σ', r) ∧ F_X7_best_53b x FU σ1 0 (nI var) = some (σ', r) ∧ F_X8_best_52 x FU ρ 0 0 (-4) (nI var) = some (ρ', r) ∧ F_X8_best_52b x FU ρ 0 0 (-4) (nI var) = some (ρ', r) ∧ MC σ σ' ∧ MR ρ ρ' := by
        intro var v1 v2
        have h256 : 4 ^ var ≤ 4 ^ 4 := Nat.pow_le_pow_right (by omega) v2
        have fu : 4 ^ var < FU := Nat.lt_of_le_of_lt h256 (by decide)
        exact best_o (x := x) (e3 rfl).1 v1 v2 (RT_n R) h7 (4 ^ var) 0 FU FU σ1 ρ (ρ 92) (-4) 0 (by omega) fu fu (RTS_cc ST (fun i h1 h2 => g3 i (by omega))) (KX_of (K2_rf _)) g2 (MR_rf ρ) g4 (Or.inl rfl)
      rw [bI_f, g1, ec, RT_n R]
      simp only [obs, if_true]
      by_cases k4 : n < 4
      · have c1 : nI n < (4 : Int32) := nI_lt (a := n) (b := 4) k4 (by decide)
        obtain ⟨σ', ρ', r, a1, a2, a3, a4, a5, a6⟩ := go n (Nat.le_refl _) (by omega)
        obtain ⟨i1, i2, i3⟩ := INV_mind I a5 a6
        repeat rw [if_pos c1]
        rw [if_neg (show ¬ (4 : Int32) ≤ nI n from Int32.not_le.mpr c1), a1, a2, a4]
        rcases h2 with rfl | rfl
        · rw [if_pos rfl]; exact ⟨_, _, _, rfl, rfl, i1, i2, i3⟩
        · rw [if_neg i10, if_pos rfl]; exact ⟨_, _, _, rfl, rfl, i1, i2, i3⟩
      · have c1 : ¬ nI n < (4 : Int32) := nI_nlt (a := n) (b := 4) (by omega) (by omega)
        obtain ⟨σ', ρ', r, a1, a2, a3, a4, a5, a6⟩ := go 4 (by omega) (Nat.le_refl _)
        have a1' : F_X7_best_53 x FU σ1 0 4 = some (σ', r) := a1
        have a2' : F_X7_best_53b x FU σ1 0 4 = some (σ', r) := a2
        have a3' : F_X8_best_52 x FU ρ 0 0 (-4) 4 = some (ρ', r) := a3
        obtain ⟨i1, i2, i3⟩ := INV_mind I a5 a6
        repeat rw [if_neg c1]
        rw [if_pos (show (4 : Int32) ≤ nI n from Int32.not_lt.mp c1), a1', a2', a3']
        rcases h2 with rfl | rfl
        · rw [if_pos rfl]; exact ⟨_, _, _, rfl, rfl, i1, i2, i3⟩
        · rw [if_neg i10, if_pos rfl]; exact ⟨_, _, _, rfl, rfl, i1, i2, i3⟩
theorem m31 (s : Int32) : (s &&& 2147483647) >>> ((16 : Int32) &&& 31) = (s &&& 2147483647) / 65536 := by
  have h : (s &&& 2147483647).toBitVec.msb = false := by
    rw [Int32.toBitVec_and, BitVec.msb_and, show (2147483647 : Int32).toBitVec.msb = false by decide, Bool.and_false]
  have h2 : (s &&& 2147483647).toInt = (s &&& 2147483647).toBitVec.toNat := BitVec.toInt_eq_toNat_of_msb h
  have h3 := Int32.toInt_lt (s &&& 2147483647)
  obtain ⟨q, hq, e⟩ : ∃ q : Nat, q < 2147483648 ∧ s &&& 2147483647 = nI q := ⟨(s &&& 2147483647).toInt.toNat, by omega, nI_i (by omega) (by omega)⟩
  rw [e, pk_shrN hq _ 16 (by decide), show (65536 : Int32) = nI 65536 from rfl, pk_div hq (by omega) (by omega)]
theorem days_i {σ0 ρ0 : Mem} {x1 x2 x3 day cost : Int32} (hm : 0 < m) (hx2 : ¬ x2 = 0) (hn : ρ0 92 1 = nI n) (kc : Mem → Int32 → Int32 → Option (Mem × Int32)) (kr : Mem → Int32 → Int32 → Option (Mem × Int32)) : ∀ (d j nn nn2 : Nat) (σ ρ : Mem) (k : Nat → Int32) (seed : Int32), j + d = n → d < nn → d < nn2 → RTS σ 2 k m len n → KX (PQ j n) k (ρ 94) → KX (PQ 0 n) (ρ0 92) k → BG (ρ 94) n → MC σ0 σ → MR ρ0 ρ → ∃ σ' ρ' v, F_X7_days_65 x1 x2 x3 kc nn σ (nI j) seed day cost = kc σ' (day + 1) (cost + v) ∧ F_X8_days_61 x1 x2 x3 kr nn2 ρ (nI j) seed day cost = kr ρ' (day + 1) (cost + v) ∧ RTS σ' 2 (ρ' 94) m len n ∧ KX (PQ 0 n) (ρ0 92) (ρ' 94) ∧ MC σ0 σ' ∧ MR ρ0 ρ' := by
  intro d
  induction d with
  | zero =>
    intro j nn nn2 σ ρ k seed e1 e2 e3 S hk h0 B M N
    have h7 : n ≤ 7 := S.2.1.2
    obtain rfl : j = n := by omega
    obtain ⟨nn, rfl⟩ : ∃ j, nn = j + 1 := ⟨nn - 1, by omega⟩
    obtain ⟨nn2, rfl⟩ : ∃ j, nn2 = j + 1 := ⟨nn2 - 1, by omega⟩
    obtain ⟨σ2, ρ2, v, c1, c2, -, c4, c5, c6, c7, -⟩ := run_k S (KX_0.mp (KX_w hk PQ_0)) B hm M N
    have ec : σ 44 2 = nI j := S.2.2.2.2.1.trans S.2.1.1
    rw [F_X7_days_65, F_X8_days_61, ec, N.1 92 (by omega) (by omega), hn, if_pos (nI_le (Nat.le_refl _) (by omega)), if_pos (nI_le (Nat.le_refl _) (by omega)), c1, bd2_s, c2, bd2_s]
    exact ⟨σ2, ρ2, v, rfl, rfl, c4, KX_tr h0 (KX_of c5), c6, c7⟩
  | succ d ih =>
    intro j nn nn2 σ ρ k seed e1 e2 e3 S hk h0 B M N
    have h7 : n ≤ 7 := S.2.1.2
    obtain ⟨nn, rfl⟩ : ∃ j, nn = j + 1 := ⟨nn - 1, by omega⟩
    obtain ⟨nn2, rfl⟩ : ∃ j, nn2 = j + 1 := ⟨nn2 - 1, by omega⟩
    have ec : σ 44 2 = nI n := S.2.2.2.2.1.trans S.2.1.1
    have vj : ¬ nI n ≤ nI j := nI_ge (by omega) (by omega)
    have c7 : j < 7 := by omega
    rw [F_X7_days_65, F_X8_days_61, ec, N.1 92 (by omega) (by omega), hn, if_neg vj, if_neg vj, ix_nI c7 (by decide), Option.bind_some, ck_t _ hx2, ck_t _ hx2, puts10 c7, Option.bind_some, m31, nI_1]
    exact ih (j + 1) nn nn2 _ _ _ _ (by omega) (by omega) (by omega) (RTS_late S (show j < n by omega) _) (by rw [stm_row]; exact KX_late hk) (KX_tr h0 (KX_one (Nat.zero_le _) (by omega))) (BG_sc B c7) (MC_st M (by omega) (by omega)) (MR_st N)
theorem days_o {σ0 ρ0 : Mem} {x2 x3 : Int32} {q : Nat} (hm : 0 < m) (hx2 : ¬ x2 = 0) (hn : ρ0 92 1 = nI n) (h7 : n ≤ 7) (hq : q ≤ 5) : ∀ (d j nn nn2 : Nat) (σ ρ : Mem) (k : Nat → Int32) (cost : Int32), j + d = q → d < nn → d < nn2 → RTS σ 2 k m len n → KX (PQ 0 n) (ρ0 92) k → MC σ0 σ → MR ρ0 ρ → ∃ σ' ρ' r, F_X7_days_50 (nI q) x2 x3 nn σ (nI j) cost = some (σ', r) ∧ F_X8_days_42 (nI q) x2 x3 nn2 ρ (nI j) cost = some (ρ', r) ∧ MC σ0 σ' ∧ MR ρ0 ρ' := by
  intro d
  induction d with
  | zero =>
    intro j nn nn2 σ ρ k cost e1 e2 e3 S hk M N
    obtain rfl : j = q := by omega
    obtain ⟨nn, rfl⟩ : ∃ j, nn = j + 1 := ⟨nn - 1, by omega⟩
    obtain ⟨nn2, rfl⟩ : ∃ j, nn2 = j + 1 := ⟨nn2 - 1, by omega⟩
    rw [F_X7_days_50, F_X8_days_42, if_pos (nI_le (Nat.le_refl _) (by omega)), if_pos (nI_le (Nat.le_refl _) (by omega))]
    exact ⟨σ, ρ, _, rfl, rfl, M, N⟩
  | succ d ih =>
    intro j nn nn2 σ ρ k cost e1 e2 e3 S hk M N
    obtain ⟨nn, rfl⟩ : ∃ j, nn = j + 1 := ⟨nn - 1, by omega⟩
    obtain ⟨nn2, rfl⟩ : ∃ j, nn2 = j + 1 := ⟨nn2 - 1, by omega⟩
    have vj : ¬ nI q ≤ nI j := nI_ge (by omega) (by omega)
    have fu : n < FU := Nat.lt_of_le_of_lt h7 (by decide)
    obtain ⟨ρ1, b1, b2, b3, b4, b5⟩ := open_k N hn h7 hk
    obtain ⟨σ2, ρ2, v, a1, a2, a3, a4, a5, a6⟩ := days_i (x1 := nI q) (x3 := x3) (day := nI j) (cost := cost) hm hx2 hn (fun σ v5 v4 => F_X7_days_50 (nI q) x2 x3 nn σ v5 v4) (fun σ v5 v4 => F_X8_days_42 (nI q) x2 x3 nn2 σ v5 v4) n 0 FU FU σ ρ1 k (x3 + nI j) (by omega) fu fu S b4 hk b3 M b2
    have a1' : F_X7_days_65 (nI q) x2 x3 (fun σ v5 v4 => F_X7_days_50 (nI q) x2 x3 nn σ v5 v4) FU σ 0 (x3 + nI j) (nI j) cost = _ := a1
    have a2' : F_X8_days_61 (nI q) x2 x3 (fun σ v5 v4 => F_X8_days_42 (nI q) x2 x3 nn2 σ v5 v4) FU ρ1 0 (x3 + nI j) (nI j) cost = _ := a2
    rw [F_X7_days_50, F_X8_days_42, if_neg vj, if_neg vj, b1, Option.bind_some, a1', a2', nI_1]
    exact ih (j + 1) nn nn2 σ2 ρ2 _ _ (by omega) (by omega) (by omega) a3 a4 a5 a6
theorem call_days (x y z : Int32) : CALL (fun σ => F_X7_days σ x y z) (fun σ => F_X8_days σ x y z) := by
  intro σ ρ I
  obtain ⟨⟨m, len, n, R⟩, L, w, G, S⟩ := I
  have I : INV σ ρ := ⟨⟨m, len, n, R⟩, L, w, G, S⟩
  have h7 := RT_7 R
  have no : ∀ {r : Int32}, ∃ σ' r' ρ', some (σ, r) = some (σ', r') ∧ some (ρ, r) = some (ρ', r') ∧ INV σ' ρ' ∧ CF σ σ' ∧ RF ρ ρ' := fun {r} => ⟨σ, r, ρ, rfl, rfl, I, fun _ _ => rfl, fun _ _ => rfl⟩
  show ∃ σ' r ρ', F_X7_days σ x y z = some (σ', r) ∧ F_X8_days ρ x y z = some (ρ', r) ∧ _
  unfold F_X7_days F_X8_days
  obtain ⟨b, e1, e2, e3⟩ := isEmpty_p R
  rw [e1, e2, ck_t _ (RT_b R)]
  simp only [obs]
  by_cases k1 : x < 1
  · rw [if_pos k1, if_pos (Or.inl k1)]; exact no
  by_cases k2 : 5 < x
  · rw [if_neg k1, if_pos k2, if_pos (Or.inr k2)]; exact no
  rw [if_neg k1, if_neg k2, if_neg (show ¬ (x < 1 ∨ 5 < x) from fun q => q.elim k1 k2)]
  by_cases k3 : y < 1
  · rw [if_pos k3, if_pos (Or.inl k3)]; exact no
  by_cases k4 : y ≤ 60
  rotate_left
  · rw [if_neg k3, if_neg k4, if_pos (Or.inr (Int32.not_le.mp k4))]; exact no
  rw [if_neg k3, if_pos k4, if_neg (show ¬ (y < 1 ∨ 60 < y) from fun q => q.elim k3 (fun q => absurd k4 (Int32.not_le.mpr q)))]
  cases b with
  | true => rw [bI_t, if_neg i10, if_neg i10]; exact no
  | false =>
    have z1 : (1 : Int32).toInt = 1 := by decide
    have z5 : (5 : Int32).toInt = 5 := by decide
    rw [i32_lt, z1] at k1 k3
    rw [i32_lt, z5] at k2
    obtain ⟨q, hq, rfl⟩ : ∃ q : Nat, q ≤ 5 ∧ x = nI q := ⟨x.toInt.toNat, by omega, nI_i (by omega) (by omega)⟩
    have hy : ¬ y = 0 := fun e => by rw [e, show (0 : Int32).toInt = 0 by decide] at k3; omega
    obtain ⟨σ', ρ', r, a1, a2, a3, a4⟩ := days_o (x3 := z) (e3 rfl).1 hy (RT_n R) h7 hq q 0 FU FU (tcpy σ 2 0) ρ (ρ 92) 0 (by omega) (Nat.lt_of_le_of_lt hq (by decide)) (Nat.lt_of_le_of_lt hq (by decide)) (RTS_tcpy R) (KX_of (K2_rf _)) (MC_tcpy w) (MR_rf ρ)
    have a1' : F_X7_days_50 (nI q) y z FU (tcpy σ 2 0) 0 0 = some (σ', r) := a1
    have a2' : F_X8_days_42 (nI q) y z FU ρ 0 0 = some (ρ', r) := a2
    obtain ⟨i1, i2, i3⟩ := INV_mind I a3 a4
    rw [bI_f, if_pos rfl, if_pos rfl, a1', a2']
    exact ⟨_, _, _, rfl, rfl, i1, i2, i3⟩
end R4
end
section
/-! run, judge -/
section R5
variable {m n : Nat} {len : Nat → Nat}
/-- what run answers when the run is over -/
def AN7 (x2 : Int32) (σ_13 : Mem) (r_14 : Int32) : Option (Mem × Int32) := if x2 = 0 then (some (σ_13, r_14)) else (if x2 = 1 then ((F_X6_allBacked σ_13 2).bind fun r_20 => some (σ_13, r_20)) else (if x2 = 2 then ((F_X6_allWaited σ_13 2).bind fun r_22 => some (σ_13, r_22)) else (if x2 = 3 then (some (σ_13, (σ_13 44 3))) else ((F_X6_stands σ_13 2).bind fun r_16 => if r_16 = 0 then (some (σ_13, 0)) else (some (σ_13, 1))))))
def AN8 (x2 : Int32) (σ_15 : Mem) (r_16 : Int32) : Option (Mem × Int32) := if x2 = 0 then (some (σ_15, r_16)) else (if x2 = 1 then ((F_X8_allOf σ_15 94 8).bind fun r_22 => some (σ_15, r_22)) else (if x2 = 2 then ((F_X8_allOf σ_15 94 9).bind fun r_24 => some (σ_15, r_24)) else (if x2 = 3 then (some (σ_15, (σ_15 94 2))) else ((F_X8_stands σ_15 94).bind fun r_18 => if r_18 = 0 then (some (σ_15, 0)) else (some (σ_15, 1))))))
theorem AN_p {σ ρ : Mem} (R : RT σ 2 (ρ 94) m len n) (x v : Int32) : ∃ r, AN7 x σ v = some (σ, r) ∧ AN8 x ρ v = some (ρ, r) := by
  obtain ⟨s1, a1, a2⟩ := allBacked_p R
  obtain ⟨s2, b1, b2⟩ := allWaited_p R
  obtain ⟨b, c1, c2⟩ := stands_p R
  have e3 : σ 44 3 = ρ 94 2 := RT_3 R
  unfold AN7 AN8
  rw [a1, a2, b1, b2, c1, c2, e3]
  simp only [obs]
  by_cases k0 : x = 0
  · (repeat rw [if_pos k0]); exact ⟨_, rfl, rfl⟩
  (repeat rw [if_neg k0])
  by_cases k1 : x = 1
  · (repeat rw [if_pos k1]); exact ⟨_, rfl, rfl⟩
  (repeat rw [if_neg k1])
  by_cases k2 : x = 2
  · (repeat rw [if_pos k2]); exact ⟨_, rfl, rfl⟩
  (repeat rw [if_neg k2])
  by_cases k3 : x = 3
  · (repeat rw [if_pos k3]); exact ⟨_, rfl, rfl⟩
  (repeat rw [if_neg k3])
  cases b with
  | false => exact ⟨_, rfl, rfl⟩
  | true => exact ⟨_, rfl, rfl⟩
/-- lateness as the row tells: the class -/
theorem run7_l {σ0 : Mem} {x1 x2 : Int32} {d z : Nat} {T : Nat → Int32} (hd : d < 8) (hz : z ≤ 100) (c4 : σ0 (68 + d) 4 = nI z) (hT : ∀ c, c < n → T c = if c < z then σ0 (76 + d) c else 0) : ∀ (q j nn : Nat) (σ : Mem) (k : Nat → Int32), j + q = n → q < nn → RTS σ 2 k m len n → MC σ0 σ → (∀ c, c < j → k (54 + 11 * c) = T c) → ∃ σ' k', F_X7_run_80 x1 x2 nn σ (nI j) d = (bd2 (F_X7_costInMind σ') fun s v => AN7 x2 s v) ∧ RTS σ' 2 k' m len n ∧ MC σ0 σ' ∧ KX (PQ 0 n) k k' ∧ ∀ c, c < n → k' (54 + 11 * c) = T c := by
  intro q
  induction q with
  | zero =>
    intro j nn σ k e1 e2 S M h
    have h7 : n ≤ 7 := S.2.1.2
    obtain rfl : j = n := by omega
    obtain ⟨nn, rfl⟩ : ∃ j, nn = j + 1 := ⟨nn - 1, by omega⟩
    have ec : σ 44 2 = nI j := S.2.2.2.2.1.trans S.2.1.1
    refine ⟨σ, k, ?_, S, M, KX_of (K2_rf k), h⟩
    rw [F_X7_run_80, ec, if_pos (nI_le (Nat.le_refl _) (by omega))]
    rfl
  | succ q ih =>
    intro j nn σ k e1 e2 S M h
    have h7 : n ≤ 7 := S.2.1.2
    obtain ⟨nn, rfl⟩ : ∃ j, nn = j + 1 := ⟨nn - 1, by omega⟩
    have ec : σ 44 2 = nI n := S.2.2.2.2.1.trans S.2.1.1
    have nx : ∃ σ' k', F_X7_run_80 x1 x2 nn (stm σ (22 * 2 + 15 + j) 5 (T j)) (nI (j + 1)) d = (bd2 (F_X7_costInMind σ') fun s v => AN7 x2 s v) ∧ RTS σ' 2 k' m len n ∧ MC σ0 σ' ∧ KX (PQ 0 n) k k' ∧ ∀ c, c < n → k' (54 + 11 * c) = T c := by
      obtain ⟨σ', k', i1, i2, i3, i4, i5⟩ := ih (j + 1) nn (stm σ (22 * 2 + 15 + j) 5 (T j)) (upd k (54 + 11 * j) (T j)) (by omega) (by omega) (RTS_late S (show j < n by omega) _) (MC_st M (by omega) (by omega)) (fun c hc => by
        by_cases e : c = j
        · subst e; rw [upd_at]
        · rw [upd_ne _ _ (by omega)]; exact h c (by omega))
      exact ⟨σ', k', i1, i2, i3, KX_tr (KX_one (Nat.zero_le _) (show j < n by omega)) i4, i5⟩
    rw [F_X7_run_80, ec, if_neg (nI_ge (by omega) (by omega)), ix_nI (n := 7) (show j < 7 by omega) (by decide), Option.bind_some, M.1 (68 + d) (by omega) (by omega), c4, ix_nI (n := 100) (show j < 100 by omega) (by decide), Option.bind_some, M.1 (76 + d) (by omega) (by omega), nI_1]
    by_cases k1 : j < z
    · rw [if_neg (nI_ge (by omega) (by omega))]
      rw [hT j (by omega), if_pos k1] at nx
      exact nx
    · rw [if_pos (nI_le (by omega) (by omega))]
      rw [hT j (by omega), if_neg k1] at nx
      exact nx
/-- the reference: late as the row tells, as far as it goes -/
theorem run8_l {ρ0 : Mem} {x2 v3 : Int32} {d z : Nat} {T : Nat → Int32} (hd : d < 8) (hz : z ≤ 100) (h7 : n ≤ 7) (hn : ρ0 92 1 = nI n) (r4 : ρ0 98 d = nI z) (hT : ∀ c, c < n → T c = if c < z then ρ0 99 (100 * d + c) else 0) : ∀ (q j nn : Nat) (ρ : Mem), j + q = n → q < nn → BG (ρ 94) n → MR ρ0 ρ → (∀ c, c < n → ρ 94 (54 + 11 * c) = if c < j then T c else 0) → ∃ ρ', F_X8_run_97 (nI d) x2 nn ρ (nI j) v3 = (bd2 (F_X8_costs ρ') fun s v => AN8 x2 s v) ∧ BG (ρ' 94) n ∧ MR ρ0 ρ' ∧ KX (PQ 0 n) (ρ 94) (ρ' 94) ∧ ∀ c, c < n → ρ' 94 (54 + 11 * c) = T c := by
  intro q
  induction q with
  | zero =>
    intro j nn ρ e1 e2 B N h
    obtain rfl : j = n := by omega
    obtain ⟨nn, rfl⟩ : ∃ j, nn = j + 1 := ⟨nn - 1, by omega⟩
    refine ⟨ρ, ?_, B, N, KX_of (K2_rf _), fun c hc => by rw [h c hc, if_pos hc]⟩
    rw [F_X8_run_97, N.1 92 (by omega) (by omega), hn, if_pos (nI_le (Nat.le_refl _) (by omega))]
    rfl
  | succ q ih =>
    intro j nn ρ e1 e2 B N h
    obtain ⟨nn, rfl⟩ : ∃ j, nn = j + 1 := ⟨nn - 1, by omega⟩
    rw [F_X8_run_97, N.1 92 (by omega) (by omega), hn, if_neg (nI_ge (by omega) (by omega)), ix_nI hd (by decide), Option.bind_some, N.1 98 (by omega) (by omega), r4]
    by_cases k1 : j < z
    · have tj := hT j (by omega)
      rw [if_pos k1] at tj
      rw [if_neg (nI_ge (by omega) (by omega)), ix99 hd (by omega), Option.bind_some, puts10 (by omega), Option.bind_some, N.1 99 (by omega) (by omega), ← tj, nI_1]
      obtain ⟨ρ', i1, i2, i3, i4, i5⟩ := ih (j + 1) nn (stm ρ 94 (54 + 11 * j) (T j)) (by omega) (by omega) (BG_sc B (by omega)) (MR_st N) (fun c hc => by
        rw [stm_row]
        by_cases e : c = j
        · subst e; rw [upd_at, if_pos (by omega)]
        · rw [upd_ne _ _ (by omega), h c hc]
          by_cases e2 : c < j
          · rw [if_pos e2, if_pos (by omega)]
          · rw [if_neg e2, if_neg (by omega)])
      refine ⟨ρ', i1, i2, i3, KX_tr ?_ i4, i5⟩
      rw [stm_row]
      exact KX_one (Nat.zero_le _) (show j < n by omega)
    · rw [if_pos (nI_le (by omega) (by omega))]
      refine ⟨ρ, rfl, B, N, KX_of (K2_rf _), fun c hc => ?_⟩
      rw [h c hc]
      by_cases e2 : c < j
      · rw [if_pos e2]
      · rw [if_neg e2, hT c hc, if_neg (by omega)]
theorem run37_l {ρ : Mem} {d z : Nat} {x v3 : Int32} (hd : d < 8) (hs : ρ 98 d = nI z) (hz : z ≤ 100) : ∀ (q j nn : Nat), j + q = z → q < nn → F_X8_run_37 (nI d) x nn ρ (nI j) v3 = if (∀ i, i < z → j ≤ i → ¬ (ρ 99 (100 * d + i) < 0 ∨ 200 < ρ 99 (100 * d + i))) then ((F_X8_isEmpty ρ).bind fun r_10 => if r_10 = 0 then ((F_X8_opens ρ).bind fun σ_12 => F_X8_run_97 (nI d) x FU σ_12 0 v3) else (some (ρ, (-3)))) else some (ρ, -13) := by
  intro q
  induction q with
  | zero =>
    intro j nn e1 e2
    obtain rfl : j = z := by omega
    obtain ⟨nn, rfl⟩ : ∃ j, nn = j + 1 := ⟨nn - 1, by omega⟩
    rw [F_X8_run_37, ix_nI hd (by decide), Option.bind_some, hs, if_pos (nI_le (Nat.le_refl _) (by omega)), if_pos (fun i h1 h2 => absurd h2 (by omega))]
  | succ q ih =>
    intro j nn e1 e2
    obtain ⟨nn, rfl⟩ : ∃ j, nn = j + 1 := ⟨nn - 1, by omega⟩
    rw [F_X8_run_37, ix_nI hd (by decide), Option.bind_some, hs, if_neg (nI_ge (by omega) (by omega)), ix99 hd (by omega), Option.bind_some, nI_1, ih (j + 1) nn (by omega) (by omega)]
    by_cases k1 : ρ 99 (100 * d + j) < 0 ∨ 200 < ρ 99 (100 * d + j)
    · rw [if_pos k1, if_neg (fun h => h j (by omega) (Nat.le_refl _) k1)]
    · rw [if_neg k1]
      by_cases k2 : ∀ i, i < z → j + 1 ≤ i → ¬ (ρ 99 (100 * d + i) < 0 ∨ 200 < ρ 99 (100 * d + i))
      · rw [if_pos k2, if_pos (fun i h1 h2 => by
          by_cases e : i = j
          · subst e; exact k1
          · exact k2 i h1 (by omega))]
      · rw [if_neg k2, if_neg (fun h => k2 (fun i h1 h2 => h i h1 (by omega)))]
theorem call_run (x y : Int32) : CALL (fun σ => F_X7_run σ x y) (fun σ => F_X8_run σ x y) := by
  intro σ ρ I
  obtain ⟨⟨m, len, n, R⟩, L, w, G, S⟩ := I
  have I : INV σ ρ := ⟨⟨m, len, n, R⟩, L, w, G, S⟩
  have h7 := RT_7 R
  have no : ∀ {r : Int32}, ∃ σ' r' ρ', some (σ, r) = some (σ', r') ∧ some (ρ, r) = some (ρ', r') ∧ INV σ' ρ' ∧ CF σ σ' ∧ RF ρ ρ' := fun {r} => ⟨σ, r, ρ, rfl, rfl, I, fun _ _ => rfl, fun _ _ => rfl⟩
  show ∃ σ' r ρ', F_X7_run σ x y = some (σ', r) ∧ F_X8_run ρ x y = some (ρ', r) ∧ _
  unfold F_X7_run F_X8_run F_X8_wrongRow
  obtain ⟨b, e1, e2, e3⟩ := isEmpty_p R
  rcases shelf_x (ρ := ρ) x with ⟨h1, h2⟩ | ⟨d, hd, rfl, h1, h2⟩
  · rw [if_pos h1, h2, Option.bind_some, if_pos rfl]; exact no
  rw [if_neg h1, h2, ix_nI hd (by decide)]
  simp only [obs, i10, if_false]
  rcases rng (x := y) 5 (by omega) with ⟨k1, k2, k3⟩ | ⟨f, hf, rfl, g1, g2, g3, g4⟩
  · rw [if_pos (show y < 0 ∨ (4 : Int32) < y from k2)]
    by_cases q : y < 0
    · rw [if_pos q]; exact no
    · have q2 : (4 : Int32) < y := k2.resolve_left q
      rw [if_neg q, if_neg (Int32.not_le.mpr q2)]; exact no
  have g4' : ¬ (4 : Int32) < nI f := g4
  rw [if_neg g1, if_pos (Int32.not_lt.mp g4'), if_neg (show ¬ (nI f < 0 ∨ (4 : Int32) < nI f) from fun q => q.elim g1 g4')]
  obtain ⟨⟨s1, s2⟩, s3, s4, ⟨s5, z, hz, ez⟩, s6⟩ := S d hd
  rw [s1, isWithin_c (s5.trans ez) hz, e1, ck_t _ (RT_b R), if_pos (show (-1 : Int32) < 0 by decide)]
  simp only [obs]
  by_cases k1 : ρ 96 d = 0
  · rw [if_pos k1, if_pos k1, Option.bind_some, if_neg (by decide)]; exact no
  rw [if_neg k1, if_neg k1]
  by_cases k2 : ρ 96 d = 2
  rotate_left
  · rw [if_neg k2, if_neg k2, Option.bind_some, if_neg (show ¬ (-12 : Int32) = 0 by decide)]; exact no
  rw [if_pos k2, if_pos k2, Option.bind_some, if_pos rfl]
  have f37 := run37_l (x := nI f) (v3 := 0) hd ez hz z 0 FU (by omega) (Nat.lt_of_le_of_lt hz (by decide))
  have f37' : F_X8_run_37 (nI d) (nI f) FU ρ 0 0 = _ := f37
  rw [f37', e2]
  by_cases k5 : ∀ i, i < z → 0 ≤ i → ¬ (ρ 99 (100 * d + i) < 0 ∨ 200 < ρ 99 (100 * d + i))
  rotate_left
  · rw [if_neg k5, decide_eq_false (fun h => k5 (fun i hi _ q => by
      have h2 := h i hi (Nat.zero_le _)
      rw [s6 i (by omega)] at h2
      rcases q with q | q
      · exact h2.1 q
      · exact absurd h2.2 (Int32.not_le.mpr q))), bI_f, if_pos rfl]
    exact no
  rw [if_pos k5, decide_eq_true (fun i hi _ => by
      rw [s6 i (by omega)]
      have h2 := k5 i hi (Nat.zero_le _)
      exact ⟨fun q => h2 (Or.inl q), Int32.not_lt.mp (fun q => h2 (Or.inr q))⟩), bI_t, if_neg i10]
  cases b with
  | true => rw [bI_t, Option.bind_some, if_neg i10, if_neg i10]; exact no
  | false =>
    have fu : n < FU := Nat.lt_of_le_of_lt h7 (by decide)
    obtain ⟨σ', k', a1, a2, a3, a4, a5⟩ := run7_l (x1 := nI d) (x2 := nI f) (T := fun c => if c < z then σ (76 + d) c else 0) hd hz (s5.trans ez) (fun c _ => rfl) n 0 FU (tcpy σ 2 0) (ρ 92) (by omega) fu (RTS_tcpy R) (MC_tcpy w) (fun c hc => absurd hc (Nat.not_lt_zero _))
    obtain ⟨ρ1, b1, b2, b3, b4, b5⟩ := open_k (MR_rf ρ) (RT_n R) h7 (KX_of (P := P0) (K2_rf (ρ 92)))
    obtain ⟨ρ', c1, c2, c3, c4, c5⟩ := run8_l (x2 := nI f) (v3 := 0) (T := fun c => if c < z then ρ 99 (100 * d + c) else 0) hd hz h7 (RT_n R) ez (fun c _ => rfl) n 0 FU ρ1 (by omega) fu b3 b2 (fun c hc => by
      rw [if_neg (Nat.not_lt_zero _), b5 _ (by unfold st2; omega), ← (RT_C R hc).2.1.2.2.2.2]
      exact L c (by omega))
    have a1' : F_X7_run_80 (nI d) (nI f) FU (tcpy σ 2 0) 0 d = _ := a1
    have c1' : F_X8_run_97 (nI d) (nI f) FU ρ1 0 0 = _ := c1
    have hk2 : K2 k' (ρ' 94) := by
      intro q hq
      by_cases hp : PQ 0 n q
      · obtain ⟨c, -, hc, rfl⟩ := hp
        rw [c5 c hc, a5 c hc]
        by_cases e : c < z
        · rw [if_pos e, if_pos e, s6 c (by omega)]
        · rw [if_neg e, if_neg e]
      · rw [c4 q hq hp, b5 q hq, a4 q hq hp]
    obtain ⟨σ2, ρ2, v, d1, d2, d3, -, -, d6, d7, -⟩ := run_k a2 hk2 c2 (e3 rfl).1 a3 c3
    obtain ⟨r, t1, t2⟩ := AN_p d3 (nI f) v
    obtain ⟨i1, i2, i3⟩ := INV_mind I d6 d7
    rw [bI_f, Option.bind_some, if_pos rfl, if_pos rfl, a1', d1, bd2_s, t1, b1, Option.bind_some, c1', d2, bd2_s, t2]
    exact ⟨_, _, _, rfl, rfl, i1, i2, i3⟩
theorem judge8_l {x y v3 : Int32} : ∀ (d j nn : Nat) (ρ : Mem), j + d = 121 → d < nn → (∀ q, q < j → ρ 94 q = ρ 92 q) → ∃ ρ', F_X8_judge_49b x y nn ρ (nI j) v3 = F_X8_judge_79b x y FU ρ' 0 v3 ∧ (∀ i, i ≠ 94 → ρ' i = ρ i) ∧ ∀ q, q < 121 → ρ' 94 q = ρ 92 q := by
  intro d
  induction d with
  | zero =>
    intro j nn ρ e1 e2 hq
    obtain rfl : j = 121 := by omega
    obtain ⟨nn, rfl⟩ : ∃ j, nn = j + 1 := ⟨nn - 1, by omega⟩
    rw [F_X8_judge_49b, if_pos (show (121 : Int32) ≤ nI 121 by decide)]
    exact ⟨ρ, rfl, fun _ _ => rfl, hq⟩
  | succ d ih =>
    intro j nn ρ e1 e2 hq
    obtain ⟨nn, rfl⟩ : ∃ j, nn = j + 1 := ⟨nn - 1, by omega⟩
    have e92 : stm ρ 94 j (ρ 92 j) 92 = ρ 92 := stm_ne _ _ _ (by omega)
    obtain ⟨ρ', i1, i2, i3⟩ := ih (j + 1) nn (stm ρ 94 j (ρ 92 j)) (by omega) (by omega) (fun q hq2 => by
      rw [e92, stm_row]
      by_cases e : q = j
      · subst e; rw [upd_at]
      · rw [upd_ne _ _ e]; exact hq q (by omega))
    rw [F_X8_judge_49b, if_neg (show ¬ (121 : Int32) ≤ nI j from nI_ge (a := j) (b := 121) (by omega) (by decide)), ix_nI (by omega) (by decide), Option.bind_some, Option.bind_some, nI_1]
    rw [e92] at i3
    exact ⟨ρ', i1, fun i h1 => by rw [i2 i h1, stm_ne _ _ _ h1], i3⟩
theorem least_p {σ ρ : Mem} {d : Nat} (hd : d < 8) (h : σ (68 + d) 3 = ρ 97 d) : ∃ v, F_X5_leastNumber σ d = some v ∧ F_X8_leastOf ρ (nI d) = some v := by
  unfold F_X5_leastNumber F_X8_leastOf
  rw [h, ix_nI hd (by decide), Option.bind_some, Option.bind_some]
  by_cases k0 : ρ 97 d = 0
  · (repeat rw [if_pos k0]); exact ⟨_, rfl, rfl⟩
  (repeat rw [if_neg k0])
  by_cases k1 : ρ 97 d = 1
  · (repeat rw [if_pos k1]); exact ⟨_, rfl, rfl⟩
  (repeat rw [if_neg k1]); exact ⟨_, rfl, rfl⟩
theorem judge_l {σ0 ρ0 : Mem} {x y v3 : Int32} {c d z : Nat} (hm : 0 < m) (hc : c < n) (hd : d < 8) (hz : z ≤ 100) (c3 : σ0 (68 + d) 3 = ρ0 97 d) (c4 : σ0 (68 + d) 4 = nI z) (r4 : ρ0 98 d = nI z) (hv : ∀ i, i < 100 → σ0 (76 + d) i = ρ0 99 (100 * d + i)) : ∀ (q j nn nn2 : Nat) (σ ρ : Mem), j + q = z → q < nn → q < nn2 → RT σ 2 (ρ 94) m len n → MC σ0 σ → MR ρ0 ρ → ∃ σ' ρ' r, F_X7_judge_91 x y nn σ (nI j) (22 * 2 + 15 + c) d = some (σ', r) ∧ F_X8_judge_79b (nI c) (nI d) nn2 ρ (nI j) v3 = some (ρ', r) ∧ MC σ0 σ' ∧ MR ρ0 ρ' := by
  intro q
  induction q with
  | zero =>
    intro j nn nn2 σ ρ e1 e2 e3 R M N
    obtain rfl : j = z := by omega
    obtain ⟨nn, rfl⟩ : ∃ j, nn = j + 1 := ⟨nn - 1, by omega⟩
    obtain ⟨nn2, rfl⟩ : ∃ j, nn2 = j + 1 := ⟨nn2 - 1, by omega⟩
    rw [F_X7_judge_91, F_X8_judge_79b, M.1 (68 + d) (by omega) (by omega), c4, if_pos (nI_le (Nat.le_refl _) (by omega)), ix_nI hd (by decide), Option.bind_some, N.1 98 (by omega) (by omega), r4, if_pos (nI_le (Nat.le_refl _) (by omega))]
    exact ⟨σ, ρ, _, rfl, rfl, M, N⟩
  | succ q ih =>
    intro j nn nn2 σ ρ e1 e2 e3 R M N
    obtain ⟨nn, rfl⟩ : ∃ j, nn = j + 1 := ⟨nn - 1, by omega⟩
    obtain ⟨nn2, rfl⟩ : ∃ j, nn2 = j + 1 := ⟨nn2 - 1, by omega⟩
    have h7 := RT_7 R
    obtain ⟨b, s1, s2, s3⟩ := isEnded_p R
    rw [F_X7_judge_91, F_X8_judge_79b, M.1 (68 + d) (by omega) (by omega), c4, if_neg (nI_ge (by omega) (by omega)), if_neg (show ¬ (100 : Int32) ≤ nI j from nI_ge (a := j) (b := 100) (by omega) (by decide)), ix_nI hd (by decide), N.1 98 (by omega) (by omega), s1, s2, ix_nI (n := 100) (show j < 100 by omega) (by decide), ix99 hd (show j < 100 by omega)]
    simp only [obs, r4, nI_1]
    rw [if_neg (show ¬ nI z ≤ nI j from nI_ge (by omega) (by omega))]
    have step : ∀ (σ ρ : Mem), RT σ 2 (ρ 94) m len n → MC σ0 σ → MR ρ0 ρ → ∃ σ' ρ' r, ((F_X5_leastNumber σ d).bind fun r_20 => if (σ (76 + d) j) = r_20 then (F_X7_judge_91 x y nn σ (nI (j + 1)) (22 * 2 + 15 + c) d) else (if (σ (76 + d) j) = (σ (22 * 2 + 15 + c) 6) then (F_X7_judge_91 x y nn σ (nI (j + 1)) (22 * 2 + 15 + c) d) else (some (σ, nI j)))) = some (σ', r) ∧ ((F_X8_leastOf ρ (nI d)).bind fun r_44 => if (ρ 99 (100 * d + j)) = r_44 then (F_X8_judge_79b (nI c) (nI d) nn2 ρ (nI (j + 1)) v3) else ((F_X8_get ρ 94 (nI c) 5).bind fun r_46 => if (ρ 99 (100 * d + j)) = r_46 then (F_X8_judge_79b (nI c) (nI d) nn2 ρ (nI (j + 1)) v3) else (some (ρ, nI j)))) = some (ρ', r) ∧ MC σ0 σ' ∧ MR ρ0 ρ' := by
      intro σ ρ R M N
      obtain ⟨lv, l1, l2⟩ := least_p (σ := σ) (ρ := ρ) hd (by rw [M.1 (68 + d) (by omega) (by omega), N.1 97 (by omega) (by omega)]; exact c3)
      have e1 : σ (76 + d) j = ρ 99 (100 * d + j) := by rw [M.1 (76 + d) (by omega) (by omega), N.1 99 (by omega) (by omega)]; exact hv j (by omega)
      have e2 : σ (22 * 2 + 15 + c) 6 = ρ 94 (49 + 11 * c) := (RT_C R hc).2.2.1
      rw [l1, l2, Option.bind_some, Option.bind_some, e1, e2, get5 (by omega), Option.bind_some]
      by_cases k1 : ρ 99 (100 * d + j) = lv
      · rw [if_pos k1, if_pos k1]
        exact ih (j + 1) nn nn2 σ ρ (by omega) (by omega) (by omega) R M N
      · rw [if_neg k1, if_neg k1]
        by_cases k2 : ρ 99 (100 * d + j) = ρ 94 (49 + 11 * c)
        · rw [if_pos k2, if_pos k2]
          exact ih (j + 1) nn nn2 σ ρ (by omega) (by omega) (by omega) R M N
        · rw [if_neg k2, if_neg k2]
          exact ⟨σ, ρ, _, rfl, rfl, M, N⟩
    cases b with
    | true =>
      rw [bI_t, if_neg i10, if_neg i10]
      exact step σ ρ R M N
    | false =>
      obtain ⟨σ1, ρ1, g1, g2, g3, -⟩ := minute_p R (Or.inl M.2) (by decide) hm (s3 rfl)
      rw [bI_f, if_pos rfl, if_pos rfl, g1, g2, Option.bind_some, Option.bind_some]
      exact step σ1 ρ1 g3.1 (MC_fr M g3.2.2.1) (MR_fr N g3.2.2.2.1)
theorem call_judge (x y : Int32) : CALL (fun σ => F_X7_judge σ x y) (fun σ => F_X8_judge σ x y) := by
  intro σ ρ I
  obtain ⟨⟨m, len, n, R⟩, L, w, G, S⟩ := I
  have I : INV σ ρ := ⟨⟨m, len, n, R⟩, L, w, G, S⟩
  have h7 := RT_7 R
  have h8 := RT_8 R
  have no : ∀ {r : Int32}, ∃ σ' r' ρ', some (σ, r) = some (σ', r') ∧ some (ρ, r) = some (ρ', r') ∧ INV σ' ρ' ∧ CF σ σ' ∧ RF ρ ρ' := fun {r} => ⟨σ, r, ρ, rfl, rfl, I, fun _ _ => rfl, fun _ _ => rfl⟩
  show ∃ σ' r ρ', F_X7_judge σ x y = some (σ', r) ∧ F_X8_judge ρ x y = some (ρ', r) ∧ _
  unfold F_X7_judge F_X8_judge F_X8_wrongRow
  have e0 : σ 1 0 = nI m := (RT_R R).1
  rcases shelf_x (ρ := ρ) y with ⟨h1, h2⟩ | ⟨d, hd, rfl, h1, h2⟩
  · rw [if_pos h1, h2, Option.bind_some, if_pos rfl]
    rcases cart_x R x with ⟨h3, h4⟩ | ⟨c, hc, rfl, h3, h4⟩
    · rw [h4, Option.bind_some, if_pos rfl]; exact no
    · rw [h4, Option.bind_some, if_neg i10]; exact no
  rw [if_neg h1, h2, ix_nI hd (by decide)]
  simp only [obs, i10, if_false]
  obtain ⟨⟨s1, s2⟩, s3, s4, ⟨s5, z, hz, ez⟩, s6⟩ := S d hd
  rcases cart_x R x with ⟨h3, h4⟩ | ⟨c, hc, rfl, h3, h4⟩
  · rw [if_pos h3, h4, Option.bind_some, if_pos rfl]; exact no
  rw [if_neg h3, h4, ix_nI (n := 7) (show c < 7 by omega) (by decide)]
  simp only [obs, i10, if_false]
  rw [s1, e0, VS_m (RT_V R), ck_t _ (RT_b R), if_pos (show (-1 : Int32) < 0 by decide)]
  by_cases k1 : ρ 96 d = 0
  · rw [if_pos k1, if_pos k1, Option.bind_some, if_neg (show ¬ (-11 : Int32) = 0 by decide), if_neg (show ¬ (-11 : Int32) = 0 by decide)]; exact no
  rw [if_neg k1, if_neg k1]
  by_cases k2 : ρ 96 d = 2
  rotate_left
  · rw [if_neg k2, if_neg k2, Option.bind_some, if_neg (show ¬ (-12 : Int32) = 0 by decide), if_neg (show ¬ (-12 : Int32) = 0 by decide)]; exact no
  rw [if_pos k2, if_pos k2, Option.bind_some, if_pos rfl]
  by_cases hm : nI m = 0
  · rw [if_pos hm, if_pos hm]; exact no
  have hm0 : 0 < m := by
    rcases Nat.eq_zero_or_pos m with q | q
    · subst q; exact absurd rfl hm
    · exact q
  rw [if_neg hm, if_neg hm, if_neg (cart_x2 (RTS_tcpy R) hc), if_pos rfl]
  obtain ⟨ρ1, b1, b2, b3⟩ := judge8_l (x := nI c) (y := nI d) (v3 := 0) 121 0 FU ρ (by omega) (by decide) (fun q hq => absurd hq (Nat.not_lt_zero _))
  have b1' : F_X8_judge_49b (nI c) (nI d) FU ρ 0 0 = _ := b1
  obtain ⟨σ', ρ', r, a1, a2, a3, a4⟩ := judge_l (x := nI c) (y := nI d) (v3 := 0) (ρ0 := ρ) hm0 hc hd hz s4 (s5.trans ez) ez s6 z 0 FU FU (tcpy σ 2 0) ρ1 (by omega) (Nat.lt_of_le_of_lt hz (by decide)) (Nat.lt_of_le_of_lt hz (by decide)) (RT_121 (RT_cpy R (by omega)) b3) (MC_tcpy w) ⟨fun i h1 _ => b2 i h1, by rw [b2 91 (by omega)]⟩
  have a1' : F_X7_judge_91 (nI c) (nI d) FU (tcpy σ 2 0) 0 (22 * 2 + 15 + c) d = _ := a1
  have a2' : F_X8_judge_79b (nI c) (nI d) FU ρ1 0 0 = _ := a2
  obtain ⟨i1, i2, i3⟩ := INV_mind I a3 a4
  rw [a1', b1', a2']
  exact ⟨_, _, _, rfl, rfl, i1, i2, i3⟩
end R5
end
section
/-! reading a text: signs, digits, numbers, both sides -/
def dg (T : Nat → Int32) (z p : Nat) : Prop := p < z ∧ 48 ≤ T p ∧ T p ≤ 57
def sg (T : Nat → Int32) (z p : Nat) (s : Int32) : Prop := p < z ∧ T p = s
noncomputable def dv (T : Nat → Int32) (p : Nat) : Nat := (T p).toInt.toNat - 48
theorem dv_e {T : Nat → Int32} {z p : Nat} (h : dg T z p) : T p - 48 = nI (dv T p) ∧ dv T p ≤ 9 ∧ (dv T p = 0 ↔ T p = 48) := by
  obtain ⟨-, h1, h2⟩ := h
  have z1 : (48 : Int32).toInt = 48 := by decide
  have z2 : (57 : Int32).toInt = 57 := by decide
  rw [i32_le, z1] at h1
  rw [i32_le, z2] at h2
  unfold dv
  have e : (T p - 48).toInt = (T p).toInt - 48 := by rw [t_sub (by rw [z1]; omega) (by rw [z1]; omega), z1]
  refine ⟨nI_i (by omega) (by omega), by omega, ?_⟩
  rw [i32_eq, z1]
  omega
/-- the class's reader at p over text T of z, broken or not -/
def CS (σ : Mem) (d z : Nat) (T : Nat → Int32) (p : Nat) (br : Bool) : Prop := (d < 8 ∧ z ≤ 100 ∧ p ≤ 1000) ∧ σ 85 0 = nI (68 + d) ∧ σ (68 + d) 4 = nI z ∧ (∀ i, i < z → σ (76 + d) i = T i) ∧ σ 85 1 = nI p ∧ σ 85 2 = bI br
/-- the reference's reader -/
def RS (ρ : Mem) (d z : Nat) (T : Nat → Int32) (p : Nat) : Prop := (d < 8 ∧ z ≤ 100 ∧ p ≤ 1000) ∧ ρ 91 13 = nI (100 * d) ∧ ρ 91 14 = nI z ∧ (∀ i, i < z → ρ 99 (100 * d + i) = T i) ∧ ρ 91 12 = nI p
/-- what the class's reading leaves alone: all but the reader's cell; of it the text, letter, numbers -/
def KE (σ σ' : Mem) : Prop := (∀ i, i ≠ 85 → σ' i = σ i) ∧ ∀ j, j ≠ 1 → j ≠ 2 → σ' 85 j = σ 85 j
def KF (ρ ρ' : Mem) : Prop := (∀ i, i ≠ 91 → i ≠ 102 → ρ' i = ρ i) ∧ ∀ j, j ≠ 12 → j ≠ 15 → ρ' 91 j = ρ 91 j
theorem KE_rf (σ : Mem) : KE σ σ := ⟨fun _ _ => rfl, fun _ _ _ => rfl⟩
theorem KE_tr {σ σ' σ'' : Mem} (h : KE σ σ') (h' : KE σ' σ'') : KE σ σ'' := ⟨fun i hi => (h'.1 i hi).trans (h.1 i hi), fun j h1 h2 => (h'.2 j h1 h2).trans (h.2 j h1 h2)⟩
theorem KF_rf (ρ : Mem) : KF ρ ρ := ⟨fun _ _ _ => rfl, fun _ _ _ => rfl⟩
theorem KF_tr {ρ ρ' ρ'' : Mem} (h : KF ρ ρ') (h' : KF ρ' ρ'') : KF ρ ρ'' := ⟨fun i h1 h2 => (h'.1 i h1 h2).trans (h.1 i h1 h2), fun j h1 h2 => (h'.2 j h1 h2).trans (h.2 j h1 h2)⟩
section PA
variable {σ ρ : Mem} {d z p : Nat} {T : Nat → Int32} {br : Bool}
theorem tx_c (C : CS σ d z T p br) : tx σ = some d := by
  have h := C.2.1
  have hd := C.1.1
  unfold tx
  rw [h, nI_toInt (by omega), if_pos (by omega)]
  congr 1
  omega
theorem next_c (C : CS σ d z T p br) : F_X3_next σ = some (if p < z then T p else 0) := by
  obtain ⟨⟨hd, hz, hp⟩, h0, h4, hT, h1, h2⟩ := C
  have t := tx_c (σ := σ) (d := d) (z := z) (T := T) (p := p) (br := br) ⟨⟨hd, hz, hp⟩, h0, h4, hT, h1, h2⟩
  unfold F_X3_next
  rw [h1, if_neg (nI_pos (by omega)), t, Option.bind_some, h4, Option.bind_some]
  by_cases k : p < z
  · rw [if_neg (nI_ge (by omega) (by omega)), if_neg (show ¬ (100 : Int32) ≤ nI p from nI_ge (a := p) (b := 100) (by omega) (by decide)), ix_nI (show p < 100 by omega) (by decide), Option.bind_some, if_pos k, hT p k]
  · rw [if_pos (nI_le (by omega) (by omega)), if_neg k]
theorem CS_at (C : CS σ d z T p false) (hp : p < z) : CS (stm σ 85 1 (σ 85 1 + 1)) d z T (p + 1) false ∧ KE σ (stm σ 85 1 (σ 85 1 + 1)) := by
  obtain ⟨⟨hd, hz, hpp⟩, h0, h4, hT, h1, h2⟩ := C
  refine ⟨⟨⟨hd, hz, by omega⟩, ?_, ?_, fun i hi => ?_, ?_, ?_⟩, fun i hi => stm_ne _ _ _ hi, fun j q1 _ => by rw [stm_row, upd_ne _ _ q1]⟩
  · rw [stm_row, upd_ne _ _ (by omega)]; exact h0
  · rw [stm_ne _ _ _ (by omega)]; exact h4
  · rw [stm_ne _ _ _ (by omega)]; exact hT i hi
  · rw [stm_row, upd_at, h1, nI_1]
  · rw [stm_row, upd_ne _ _ (by omega)]; exact h2
theorem CS_br (C : CS σ d z T p br) : CS (stm σ 85 2 1) d z T p true ∧ KE σ (stm σ 85 2 1) := by
  obtain ⟨⟨hd, hz, hpp⟩, h0, h4, hT, h1, h2⟩ := C
  refine ⟨⟨⟨hd, hz, hpp⟩, ?_, ?_, fun i hi => ?_, ?_, ?_⟩, fun i hi => stm_ne _ _ _ hi, fun j _ q2 => by rw [stm_row, upd_ne _ _ q2]⟩
  · rw [stm_row, upd_ne _ _ (by omega)]; exact h0
  · rw [stm_ne _ _ _ (by omega)]; exact h4
  · rw [stm_ne _ _ _ (by omega)]; exact hT i hi
  · rw [stm_row, upd_ne _ _ (by omega)]; exact h1
  · rw [stm_row, upd_at]; rfl
theorem CS_o (C : CS σ d z T p br) {j : Nat} {v : Int32} (h : 3 ≤ j) : CS (stm σ 85 j v) d z T p br := by
  obtain ⟨⟨hd, hz, hpp⟩, h0, h4, hT, h1, h2⟩ := C
  refine ⟨⟨hd, hz, hpp⟩, ?_, ?_, fun i hi => ?_, ?_, ?_⟩
  · rw [stm_row, upd_ne _ _ (by omega)]; exact h0
  · rw [stm_ne _ _ _ (by omega)]; exact h4
  · rw [stm_ne _ _ _ (by omega)]; exact hT i hi
  · rw [stm_row, upd_ne _ _ (by omega)]; exact h1
  · rw [stm_row, upd_ne _ _ (by omega)]; exact h2
theorem nd_c {s : Int32} (h : ¬ dg T z p) (hs : s = if p < z then T p else 0) : s < 48 ∨ 57 < s := by
  subst hs
  by_cases k : p < z
  · rw [if_pos k]
    by_cases k1 : T p < 48
    · exact Or.inl k1
    · by_cases k2 : 57 < T p
      · exact Or.inr k2
      · exact absurd ⟨k, Int32.not_lt.mp k1, Int32.not_lt.mp k2⟩ h
  · rw [if_neg k]; exact Or.inl (by decide)
/-- a digit of the class -/
theorem digit_y (C : CS σ d z T p false) (h : dg T z p) : ∃ σ', F_X3_digit σ = some (σ', nI (dv T p)) ∧ CS σ' d z T (p + 1) false ∧ KE σ σ' := by
  have e := next_c C
  rw [if_pos h.1] at e
  refine ⟨_, ?_, CS_at C h.1⟩
  unfold F_X3_digit
  rw [e, Option.bind_some, C.2.2.2.2.2, if_pos (show bI false = 0 from rfl), if_neg (Int32.not_lt.mpr h.2.1), if_pos h.2.2, (dv_e h).1]
theorem digit_n (C : CS σ d z T p false) (h : ¬ dg T z p) : ∃ σ', F_X3_digit σ = some (σ', 0) ∧ CS σ' d z T p true ∧ KE σ σ' := by
  refine ⟨_, ?_, CS_br C⟩
  unfold F_X3_digit
  rw [next_c C, Option.bind_some, C.2.2.2.2.2, if_pos (show bI false = 0 from rfl)]
  rcases nd_c h rfl with q | q
  · rw [if_pos q]
  · by_cases q1 : (if p < z then T p else 0) < 48
    · rw [if_pos q1]
    · rw [if_neg q1, if_neg (Int32.not_le.mpr q)]
theorem digit_b (C : CS σ d z T p true) : ∃ σ', F_X3_digit σ = some (σ', 0) ∧ CS σ' d z T p true ∧ KE σ σ' := by
  refine ⟨_, ?_, CS_br C⟩
  unfold F_X3_digit
  rw [next_c C, Option.bind_some, C.2.2.2.2.2, if_neg (show ¬ bI true = 0 from i10)]
theorem skips_y {s : Int32} (C : CS σ d z T p false) (h : sg T z p s) : ∃ σ', F_X3_skips σ s = some (σ', 1) ∧ CS σ' d z T (p + 1) false ∧ KE σ σ' := by
  have e := next_c C
  rw [if_pos h.1, h.2] at e
  refine ⟨_, ?_, CS_at C h.1⟩
  unfold F_X3_skips
  rw [C.2.2.2.2.2, if_pos (show bI false = 0 from rfl), e, Option.bind_some, if_pos rfl]
theorem skips_n {s : Int32} (C : CS σ d z T p false) (h : ¬ sg T z p s) (hs : ¬ s = 0) : F_X3_skips σ s = some (σ, 0) := by
  unfold F_X3_skips
  rw [C.2.2.2.2.2, if_pos (show bI false = 0 from rfl), next_c C, Option.bind_some]
  by_cases k : p < z
  · rw [if_pos k, if_neg (fun q => h ⟨k, q⟩)]
  · rw [if_neg k, if_neg (fun q => hs q.symm)]
theorem skips_b {s : Int32} (C : CS σ d z T p true) : F_X3_skips σ s = some (σ, 0) := by
  unfold F_X3_skips
  rw [C.2.2.2.2.2, if_neg (show ¬ bI true = 0 from i10)]
theorem want_y {s : Int32} (C : CS σ d z T p false) (h : sg T z p s) : ∃ σ', F_X3_want σ s = some σ' ∧ CS σ' d z T (p + 1) false ∧ KE σ σ' := by
  obtain ⟨σ', a1, a2, a3⟩ := skips_y C h
  refine ⟨σ', ?_, a2, a3⟩
  unfold F_X3_want
  rw [a1, bd2_s, if_neg i10]
theorem want_n {s : Int32} (C : CS σ d z T p false) (h : ¬ sg T z p s) (hs : ¬ s = 0) : ∃ σ', F_X3_want σ s = some σ' ∧ CS σ' d z T p true ∧ KE σ σ' := by
  refine ⟨_, ?_, CS_br C⟩
  unfold F_X3_want
  rw [skips_n C h hs, bd2_s, if_pos rfl]
theorem want_b {s : Int32} (C : CS σ d z T p true) : ∃ σ', F_X3_want σ s = some σ' ∧ CS σ' d z T p true ∧ KE σ σ' := by
  refine ⟨_, ?_, CS_br C⟩
  unfold F_X3_want
  rw [skips_b C, bd2_s, if_pos rfl]
theorem hasDigit_y (C : CS σ d z T p false) (h : dg T z p) : F_X3_hasDigit σ = some 1 := by
  have e := next_c C
  rw [if_pos h.1] at e
  unfold F_X3_hasDigit
  rw [C.2.2.2.2.2, if_pos (show bI false = 0 from rfl), e, Option.bind_some, if_neg (Int32.not_lt.mpr h.2.1), Option.bind_some, if_neg (Int32.not_lt.mpr h.2.2)]
theorem hasDigit_n (C : CS σ d z T p false) (h : ¬ dg T z p) : F_X3_hasDigit σ = some 0 := by
  unfold F_X3_hasDigit
  rw [C.2.2.2.2.2, if_pos (show bI false = 0 from rfl), next_c C, Option.bind_some, Option.bind_some]
  rcases nd_c h rfl with q | q
  · rw [if_pos q]
  · by_cases q1 : (if p < z then T p else 0) < 48
    · rw [if_pos q1]
    · rw [if_neg q1, if_pos q]
/-! the reference -/
theorem here_r (R : RS ρ d z T p) : F_X8_here ρ = some (if p < z then T p else -1000) := by
  obtain ⟨⟨hd, hz, hp⟩, h3, h4, hT, h1⟩ := R
  unfold F_X8_here
  rw [h4, h1]
  by_cases k : p < z
  · rw [if_neg (nI_ge (by omega) (by omega)), h3, nI_add, ix_nI (by omega) (by decide), Option.bind_some, if_pos k, hT p k]
  · rw [if_pos (nI_le (by omega) (by omega)), if_neg k]
theorem isDigit_y (R : RS ρ d z T p) (h : dg T z p) : F_X8_isDigit ρ = some 1 := by
  unfold F_X8_isDigit
  rw [here_r R, if_pos h.1, Option.bind_some, if_neg (fun q => q.elim (fun q => absurd q (Int32.not_lt.mpr h.2.1)) (fun q => absurd q (Int32.not_lt.mpr h.2.2)))]
theorem isDigit_n (R : RS ρ d z T p) (h : ¬ dg T z p) : F_X8_isDigit ρ = some 0 := by
  unfold F_X8_isDigit
  rw [here_r R, Option.bind_some]
  by_cases k : p < z
  · have := nd_c (T := T) (z := z) (p := p) h rfl
    rw [if_pos k] at this ⊢
    rw [if_pos this]
  · rw [if_neg k, if_pos (Or.inl (by decide))]
theorem RS_at (R : RS ρ d z T p) (hp : p < z) : RS (stm ρ 91 12 (ρ 91 12 + 1)) d z T (p + 1) ∧ KF ρ (stm ρ 91 12 (ρ 91 12 + 1)) := by
  obtain ⟨⟨hd, hz, hpp⟩, h3, h4, hT, h1⟩ := R
  refine ⟨⟨⟨hd, hz, by omega⟩, ?_, ?_, fun i hi => ?_, ?_⟩, fun i h1 _ => stm_ne _ _ _ h1, fun j h1 _ => by rw [stm_row, upd_ne _ _ h1]⟩
  · rw [stm_row, upd_ne _ _ (by omega)]; exact h3
  · rw [stm_row, upd_ne _ _ (by omega)]; exact h4
  · rw [stm_ne _ _ _ (by omega)]; exact hT i hi
  · rw [stm_row, upd_at, h1, nI_1]
theorem RS_o (R : RS ρ d z T p) {j : Nat} {v : Int32} : RS (stm ρ 102 j v) d z T p ∧ KF ρ (stm ρ 102 j v) := by
  obtain ⟨⟨hd, hz, hpp⟩, h3, h4, hT, h1⟩ := R
  refine ⟨⟨⟨hd, hz, hpp⟩, ?_, ?_, fun i hi => ?_, ?_⟩, fun i _ h2 => stm_ne _ _ _ h2, fun j _ _ => by rw [stm_ne _ _ _ (by omega)]⟩
  · rw [stm_ne _ _ _ (by omega)]; exact h3
  · rw [stm_ne _ _ _ (by omega)]; exact h4
  · rw [stm_ne _ _ _ (by omega)]; exact hT i hi
  · rw [stm_ne _ _ _ (by omega)]; exact h1
theorem RS_t (R : RS ρ d z T p) {v : Int32} : RS (stm ρ 91 15 v) d z T p ∧ KF ρ (stm ρ 91 15 v) := by
  obtain ⟨⟨hd, hz, hpp⟩, h3, h4, hT, h1⟩ := R
  refine ⟨⟨⟨hd, hz, hpp⟩, ?_, ?_, fun i hi => ?_, ?_⟩, fun i h1 _ => stm_ne _ _ _ h1, fun j _ h2 => by rw [stm_row, upd_ne _ _ h2]⟩
  · rw [stm_row, upd_ne _ _ (by omega)]; exact h3
  · rw [stm_row, upd_ne _ _ (by omega)]; exact h4
  · rw [stm_ne _ _ _ (by omega)]; exact hT i hi
  · rw [stm_row, upd_ne _ _ (by omega)]; exact h1
theorem takes_y {s : Int32} (R : RS ρ d z T p) (h : sg T z p s) : ∃ ρ', F_X8_takes ρ s = some (ρ', 1) ∧ RS ρ' d z T (p + 1) ∧ KF ρ ρ' ∧ ρ' 102 = ρ 102 ∧ ρ' 91 15 = ρ 91 15 := by
  obtain ⟨a1, a2⟩ := RS_at R h.1
  refine ⟨_, ?_, a1, a2, stm_ne _ _ _ (by omega), by rw [stm_row, upd_ne _ _ (by omega)]⟩
  unfold F_X8_takes
  rw [here_r R, if_pos h.1, Option.bind_some, if_pos h.2]
theorem takes_n {s : Int32} (R : RS ρ d z T p) (h : ¬ sg T z p s) (hs : ¬ s = -1000) : F_X8_takes ρ s = some (ρ, 0) := by
  unfold F_X8_takes
  rw [here_r R, Option.bind_some]
  by_cases k : p < z
  · rw [if_pos k, if_neg (fun q => h ⟨k, q⟩)]
  · rw [if_neg k, if_neg (fun q => hs q.symm)]
theorem readsD_y {w : Nat} (R : RS ρ d z T p) (h : dg T z p) (hw : w < 5) (ht : ρ 91 15 = nI w) : ∃ ρ', F_X8_readsDigit ρ = some (ρ', 1) ∧ RS ρ' d z T (p + 1) ∧ KF ρ ρ' ∧ ρ' 102 = upd (ρ 102) w (nI (dv T p)) ∧ ρ' 91 15 = nI (w + 1) := by
  obtain ⟨a1, a2⟩ := RS_o R (j := w) (v := nI (dv T p))
  obtain ⟨b1, b2⟩ := RS_t a1 (v := stm ρ 102 w (nI (dv T p)) 91 15 + 1)
  obtain ⟨c1, c2⟩ := RS_at b1 h.1
  refine ⟨_, ?_, c1, KF_tr a2 (KF_tr b2 c2), ?_, ?_⟩
  · unfold F_X8_readsDigit
    rw [isDigit_y R h, Option.bind_some, if_neg i10, here_r R, if_pos h.1, Option.bind_some, ht, ix_nI hw (by decide), Option.bind_some, (dv_e h).1]
  · rw [stm_ne _ _ _ (by omega), stm_ne _ _ _ (by omega), stm_row]
  · rw [stm_row, upd_ne _ _ (by omega), stm_row, upd_at, stm_ne _ _ _ (by omega), ht, nI_1]
theorem readsD_n (R : RS ρ d z T p) (h : ¬ dg T z p) : F_X8_readsDigit ρ = some (ρ, 0) := by
  unfold F_X8_readsDigit
  rw [isDigit_n R h, Option.bind_some, if_pos rfl]
end PA
end
section
/-! reading a text: numbers, statements -/
section NB
theorem numb {T : Nat → Int32} {z p : Nat} (h : dg T z p) (hz : z ≤ 100) : ∃ q v : Nat, p < q ∧ q ≤ z ∧ v ≤ 999 ∧ (∀ d σ, CS σ d z T p false → ∃ σ', F_X3_number σ = some (σ', nI v) ∧ CS σ' d z T q false ∧ KE σ σ') ∧ (∀ d ρ w, w < 5 → RS ρ d z T p → ρ 91 15 = nI w → ∃ ρ', F_X8_readsNumber ρ = some (ρ', 1) ∧ RS ρ' d z T q ∧ KF ρ ρ' ∧ ρ' 102 = upd (ρ 102) w (nI v) ∧ ρ' 91 15 = nI (w + 1)) := by
  obtain ⟨v1, v2, v3⟩ := dv_e h
  have hlt := h.1
  -- the class, from the first digit on
  have cl0 : ∀ σ σ1 q v σ', F_X3_digit σ = some (σ1, nI (dv T p)) → ¬ nI (dv T p) = 0 → F_X3_number_13 FU σ1 0 (nI (dv T p)) = some (σ', nI v) → (q : Nat) = q → F_X3_number σ = some (σ', nI v) := by
    intro σ σ1 q v σ' e1 e2 e3 _
    unfold F_X3_number
    rw [e1, bd2_s, if_neg e2, e3]
  have rf0 : ∀ (ρ ρ1 : Mem) (w : Nat) (x : Option (Mem × Int32)), w < 5 → F_X8_readsDigit ρ = some (ρ1, 1) → ρ1 102 = upd (ρ 102) w (nI (dv T p)) → ρ1 91 15 = nI (w + 1) → F_X8_readsNumber_23 FU ρ1 1 (nI (dv T p)) = x → F_X8_readsNumber ρ = x := by
    intro ρ ρ1 w x hw e1 e2 e3 e4
    unfold F_X8_readsNumber
    rw [e1, bd2_s, if_neg i10, e3, nI_pred, ix_nI hw (by decide), Option.bind_some, e2, upd_at, e4]
  have fin : ∀ (d : Nat) (ρ1 : Mem) (q w v : Nat), w < 5 → RS ρ1 d z T q → ρ1 91 15 = nI (w + 1) → ((ix 5 ((ρ1 91 15) - 1)).bind fun k_7 => some ((stm ρ1 102 k_7 (nI v)), (1 : Int32))) = some (stm ρ1 102 w (nI v), 1) ∧ RS (stm ρ1 102 w (nI v)) d z T q ∧ KF ρ1 (stm ρ1 102 w (nI v)) ∧ stm ρ1 102 w (nI v) 102 = upd (ρ1 102) w (nI v) ∧ stm ρ1 102 w (nI v) 91 15 = nI (w + 1) := by
    intro d ρ1 q w v hw R e
    obtain ⟨a1, a2⟩ := RS_o R (j := w) (v := nI v)
    exact ⟨by rw [e, nI_pred, ix_nI hw (by decide), Option.bind_some], a1, a2, stm_row _ _ _ _, by rw [stm_ne _ _ _ (by omega)]; exact e⟩
  have uu : ∀ (r : Nat → Int32) (w : Nat) (a b : Int32), upd (upd r w a) w b = upd r w b := by
    intro r w a b
    funext i
    simp only [upd]
    by_cases e : i = w
    · simp [e]
    · simp [e]
  have c3 : ∀ k : Nat, k < 3 → ¬ (3 : Int32) ≤ nI k := fun k hk => nI_ge (a := k) (b := 3) hk (by decide)
  have c2 : ∀ k : Nat, k < 2 → ¬ (2 : Int32) ≤ nI k := fun k hk => nI_ge (a := k) (b := 2) hk (by decide)
  have ad : ∀ (a : Nat) (x y : Int32), x - 48 = y → ((10 * nI a + x) - 48) = 10 * nI a + y := by
    intro a x y e
    rw [Int32.sub_eq_add_neg, Int32.add_assoc, ← Int32.sub_eq_add_neg, e]
  have tn : ∀ a b : Nat, (10 : Int32) * nI a + nI b = nI (10 * a + b) := fun a b => by rw [show (10 : Int32) = nI 10 from rfl, nI_mul, nI_add]
  by_cases h0 : dv T p = 0
  · refine ⟨p + 1, 0, by omega, by omega, by omega, fun d σ C => ?_, fun d ρ w hw R ht => ?_⟩
    · obtain ⟨σ1, a1, a2, a3⟩ := digit_y C h
      refine ⟨σ1, ?_, a2, a3⟩
      unfold F_X3_number
      rw [a1, bd2_s, if_pos (show nI (dv T p) = 0 by rw [h0]; rfl)]; rfl
    · obtain ⟨ρ1, a1, a2, a3, a4, a5⟩ := readsD_y R h hw ht
      obtain ⟨f1, f2, f3, f4, f5⟩ := fin d ρ1 (p + 1) w 0 hw a2 a5
      refine ⟨_, rf0 ρ ρ1 w _ hw a1 a4 a5 ?_, f2, KF_tr a3 f3, ?_, f5⟩
      · show F_X8_readsNumber_23 (1999 + 1) ρ1 (nI 1) (nI (dv T p)) = _
        rw [F_X8_readsNumber_23, if_neg (c3 1 (by omega)), h0, if_pos (show nI 0 ≤ 0 by decide), f1]
      · rw [f4, a4, uu]
  have n0 : ¬ nI (dv T p) = 0 := nI_ne0 (by omega) (by omega)
  have p0 : ¬ nI (dv T p) ≤ 0 := nI_nle (by omega) (by omega)
  by_cases h1 : dg T z (p + 1)
  rotate_left
  · refine ⟨p + 1, dv T p, by omega, by omega, by omega, fun d σ C => ?_, fun d ρ w hw R ht => ?_⟩
    · obtain ⟨σ1, a1, a2, a3⟩ := digit_y C h
      refine ⟨σ1, cl0 σ σ1 0 _ σ1 a1 n0 ?_ rfl, a2, a3⟩
      show F_X3_number_13 (1999 + 1) σ1 (nI 0) (nI (dv T p)) = _
      rw [F_X3_number_13, if_neg (c2 0 (by omega)), hasDigit_n a2 h1, Option.bind_some, if_pos rfl]
    · obtain ⟨ρ1, a1, a2, a3, a4, a5⟩ := readsD_y R h hw ht
      obtain ⟨f1, f2, f3, f4, f5⟩ := fin d ρ1 (p + 1) w (dv T p) hw a2 a5
      refine ⟨_, rf0 ρ ρ1 w _ hw a1 a4 a5 ?_, f2, KF_tr a3 f3, ?_, f5⟩
      · show F_X8_readsNumber_23 (1999 + 1) ρ1 (nI 1) (nI (dv T p)) = _
        rw [F_X8_readsNumber_23, if_neg (c3 1 (by omega)), if_neg p0, isDigit_n a2 h1, Option.bind_some, if_pos rfl, f1]
      · rw [f4, a4, uu]
  obtain ⟨w1, w2, -⟩ := dv_e h1
  have hlt1 := h1.1
  have p1 : ¬ nI (10 * dv T p + dv T (p + 1)) ≤ 0 := nI_nle (by omega) (by omega)
  by_cases h2 : dg T z (p + 2)
  rotate_left
  · refine ⟨p + 2, 10 * dv T p + dv T (p + 1), by omega, by omega, by omega, fun d σ C => ?_, fun d ρ w hw R ht => ?_⟩
    · obtain ⟨σ1, a1, a2, a3⟩ := digit_y C h
      obtain ⟨σ2, b1, b2, b3⟩ := digit_y a2 h1
      refine ⟨σ2, cl0 σ σ1 0 _ σ2 a1 n0 ?_ rfl, b2, KE_tr a3 b3⟩
      show F_X3_number_13 (1998 + 1 + 1) σ1 (nI 0) (nI (dv T p)) = _
      rw [F_X3_number_13, if_neg (c2 0 (by omega)), hasDigit_y a2 h1, Option.bind_some, if_neg i10, b1, bd2_s, tn, nI_1, F_X3_number_13, if_neg (c2 1 (by omega)), hasDigit_n b2 h2, Option.bind_some, if_pos rfl]
    · obtain ⟨ρ1, a1, a2, a3, a4, a5⟩ := readsD_y R h hw ht
      obtain ⟨b2, b3⟩ := RS_at a2 hlt1
      have b5 : stm ρ1 91 12 (ρ1 91 12 + 1) 91 15 = nI (w + 1) := by rw [stm_row, upd_ne _ _ (by omega)]; exact a5
      obtain ⟨f1, f2, f3, f4, f5⟩ := fin d _ (p + 2) w (10 * dv T p + dv T (p + 1)) hw b2 b5
      refine ⟨_, rf0 ρ ρ1 w _ hw a1 a4 a5 ?_, f2, KF_tr a3 (KF_tr b3 f3), ?_, f5⟩
      · show F_X8_readsNumber_23 (1998 + 1 + 1) ρ1 (nI 1) (nI (dv T p)) = _
        rw [F_X8_readsNumber_23, if_neg (c3 1 (by omega)), if_neg p0, isDigit_y a2 h1, Option.bind_some, if_neg i10, here_r a2, if_pos hlt1, Option.bind_some, ad _ _ _ w1, tn, nI_1, F_X8_readsNumber_23, if_neg (c3 2 (by omega)), if_neg p1, isDigit_n b2 h2, Option.bind_some, if_pos rfl, f1]
      · rw [f4, stm_ne _ _ _ (by omega), a4, uu]
  obtain ⟨x1, x2, -⟩ := dv_e h2
  have hlt2 := h2.1
  refine ⟨p + 3, 10 * (10 * dv T p + dv T (p + 1)) + dv T (p + 2), by omega, by omega, by omega, fun d σ C => ?_, fun d ρ w hw R ht => ?_⟩
  · obtain ⟨σ1, a1, a2, a3⟩ := digit_y C h
    obtain ⟨σ2, b1, b2, b3⟩ := digit_y a2 h1
    obtain ⟨σ3, g1, g2, g3⟩ := digit_y b2 h2
    refine ⟨σ3, cl0 σ σ1 0 _ σ3 a1 n0 ?_ rfl, g2, KE_tr a3 (KE_tr b3 g3)⟩
    show F_X3_number_13 (1997 + 1 + 1 + 1) σ1 (nI 0) (nI (dv T p)) = _
    rw [F_X3_number_13, if_neg (c2 0 (by omega)), hasDigit_y a2 h1, Option.bind_some, if_neg i10, b1, bd2_s, tn, nI_1, F_X3_number_13, if_neg (c2 1 (by omega)), hasDigit_y b2 h2, Option.bind_some, if_neg i10, g1, bd2_s, tn, nI_1, F_X3_number_13, if_pos (show (2 : Int32) ≤ nI 2 by decide)]
  · obtain ⟨ρ1, a1, a2, a3, a4, a5⟩ := readsD_y R h hw ht
    obtain ⟨b2, b3⟩ := RS_at a2 hlt1
    obtain ⟨g2, g3⟩ := RS_at b2 hlt2
    have g5 : stm (stm ρ1 91 12 (ρ1 91 12 + 1)) 91 12 (stm ρ1 91 12 (ρ1 91 12 + 1) 91 12 + 1) 91 15 = nI (w + 1) := by rw [stm_row, upd_ne _ _ (by omega), stm_row, upd_ne _ _ (by omega)]; exact a5
    obtain ⟨f1, f2, f3, f4, f5⟩ := fin d _ (p + 3) w (10 * (10 * dv T p + dv T (p + 1)) + dv T (p + 2)) hw g2 g5
    refine ⟨_, rf0 ρ ρ1 w _ hw a1 a4 a5 ?_, f2, KF_tr a3 (KF_tr b3 (KF_tr g3 f3)), ?_, f5⟩
    · show F_X8_readsNumber_23 (1997 + 1 + 1 + 1) ρ1 (nI 1) (nI (dv T p)) = _
      rw [F_X8_readsNumber_23, if_neg (c3 1 (by omega)), if_neg p0, isDigit_y a2 h1, Option.bind_some, if_neg i10, here_r a2, if_pos hlt1, Option.bind_some, ad _ _ _ w1, tn, nI_1, F_X8_readsNumber_23, if_neg (c3 2 (by omega)), if_neg p1, isDigit_y b2 h2, Option.bind_some, if_neg i10, here_r b2, if_pos hlt2, Option.bind_some, ad _ _ _ x1, tn, nI_1, F_X8_readsNumber_23, if_pos (show (3 : Int32) ≤ nI 3 by decide), f1]
    · rw [f4, stm_ne _ _ _ (by omega), stm_ne _ _ _ (by omega), a4, uu]
theorem numb_n {σ : Mem} {d z p : Nat} {T : Nat → Int32} (C : CS σ d z T p false) (h : ¬ dg T z p) : ∃ σ', F_X3_number σ = some (σ', 0) ∧ CS σ' d z T p true ∧ KE σ σ' := by
  obtain ⟨σ', a1, a2, a3⟩ := digit_n C h
  refine ⟨σ', ?_, a2, a3⟩
  unfold F_X3_number
  rw [a1, bd2_s, if_pos rfl]
theorem numb_rn {ρ : Mem} {d z p : Nat} {T : Nat → Int32} (R : RS ρ d z T p) (h : ¬ dg T z p) : F_X8_readsNumber ρ = some (ρ, 0) := by
  unfold F_X8_readsNumber
  rw [readsD_n R h, bd2_s, if_pos rfl]
end NB
end
