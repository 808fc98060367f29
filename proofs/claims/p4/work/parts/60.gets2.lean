/-! enters, yields, count, words -/
section G2
theorem call_enters (x : Int32) : CALR (fun σ => F_X7_enters σ x) (fun σ => F_X8_enters σ x) := by
  intro σ ρ I
  obtain ⟨⟨m, len, n, R⟩, -⟩ := I
  have h7 := RT_7 R
  have h8 := RT_8 R
  have V := RT_V R
  show ∃ r, F_X7_enters σ x = some r ∧ F_X8_enters ρ x = some r
  unfold F_X7_enters F_X8_enters
  rcases cart_x R x with ⟨h1, h2⟩ | ⟨c, hc, rfl, h1, h2⟩
  · rw [if_pos h1, h2, Option.bind_some, if_pos rfl]; exact ⟨_, rfl, rfl⟩
  · have c7 : c < 7 := by omega
    have C := RT_C R hc
    rw [if_neg h1, h2, Option.bind_some, if_neg i10, ix_nI c7 (by decide), Option.bind_some, C.2.2.1, isOn_r c7, get5 c7, get0 c7]
    simp only [obs]
    rcases (RT_K R hc).2.2.2.2 with hs | hs | ⟨x, hs, hx, hup, hdn⟩
    · rw [hs, placeOf_neg im2, Option.bind_some, if_neg (show ¬ (0 : Int32) ≤ -1 by decide), if_pos im2, Option.bind_some, if_pos rfl]; exact ⟨_, rfl, rfl⟩
    · rw [hs, placeOf_neg im3, Option.bind_some, if_neg (show ¬ (0 : Int32) ≤ -1 by decide), if_pos im3, Option.bind_some, if_pos rfl]; exact ⟨_, rfl, rfl⟩
    · have h72 := RT_72 R (Nat.le_refl m)
      rw [hs, if_neg (show ¬ nI x < 0 from nI_pos (by omega)), Option.bind_some, if_neg i10]
      rcases spot_cases hx with ⟨q, hq, e⟩ | ⟨q, hq, g1, g2⟩
      · subst e
        rw [placeOf_at R hq, placeAt_at V hq, Option.bind_some, Option.bind_some, if_pos (nI_pos' (by omega)), if_pos (nI_pos' (by omega))]
        have fin : ∀ b : Bool, (∃ r, ((some (bI b)).bind fun r_4 => if r_4 = 0 then some (0 : Int32) else some 1) = some r ∧ ((some (bI b)).bind fun r_12 => if r_12 = 0 then some (0 : Int32) else some 1) = some r) := by
          intro b; cases b <;> exact ⟨_, rfl, rfl⟩
        rcases (RT_K R hc).1 with hw | hw
        · obtain ⟨p, q1, q2, q3, q4, q5⟩ := ahead_up R hc hw hs (hup hw)
          have hqm : q < m := by
            rcases Nat.lt_or_ge q m with z | z
            · exact z
            · have := PS_mono (len := len) z
              have := hup hw
              omega
          have hqp : q = p := by
            have := PS_lt (VS_b V) (show q < q + 1 by omega) (show q + 1 ≤ m by omega)
            exact PS_un (len := len) (x := PS len q) (by omega) (by omega) q2 q3
          subst hqp
          obtain ⟨v, hv, ev⟩ := vil3 (VS_vil V q1)
          obtain ⟨b, l1, l2⟩ := enters_up R hc hw q1 hs hv ev q4
          rw [l1, hw, q5, Option.bind_some, Option.bind_some, ix16 (by omega), Option.bind_some, ev, l2]
          exact fin b
        · obtain ⟨p, q1, q2, q3, q4, q5⟩ := ahead_dn R hc hw hs hx (hdn hw)
          have hqp : q = p + 1 := by
            refine PS_inj (VS_b V) hq (by omega) ?_
            rcases Nat.lt_or_ge p q with z | z
            · have := PS_mono (len := len) (show p + 1 ≤ q by omega)
              omega
            · have := PS_mono (len := len) z
              omega
          subst hqp
          obtain ⟨v, hv, ev⟩ := vil3 (VS_vil V q1)
          obtain ⟨b, l1, l2⟩ := enters_dn R hc hw q1 hs hv ev q4
          rw [l1, hw, q5, Option.bind_some, Option.bind_some, ix16 (by omega), Option.bind_some, ev, l2]
          exact fin b
      · rw [placeOf_in R hq g1 g2, placeAt_no V hq g1 g2, Option.bind_some, Option.bind_some, if_neg (show ¬ (0 : Int32) ≤ -1 by decide), if_neg (show ¬ (0 : Int32) ≤ -4 by decide)]
        exact ⟨_, rfl, rfl⟩
theorem call_yields (x y z : Int32) : CALR (fun σ => F_X7_yields σ x y z) (fun σ => F_X8_yields σ x y z) := by
  intro σ ρ I
  obtain ⟨⟨m, len, n, R⟩, -⟩ := I
  have h7 := RT_7 R
  have h8 := RT_8 R
  have V := RT_V R
  show ∃ r, F_X7_yields σ x y z = some r ∧ F_X8_yields ρ x y z = some r
  unfold F_X7_yields F_X8_yields
  rcases cart_x R x with ⟨h1, h2⟩ | ⟨A, hA, rfl, h1, h2⟩
  · rw [if_pos h1, h2, Option.bind_some, if_pos rfl]
    rcases cart_x R y with ⟨h3, h4⟩ | ⟨B, hB, rfl, h3, h4⟩
    · rw [if_pos h3]; exact ⟨_, rfl, rfl⟩
    · rw [if_neg h3, ix_nI (n := 7) (show B < 7 by omega) (by decide), Option.bind_some]; exact ⟨_, rfl, rfl⟩
  rw [if_neg h1, h2, Option.bind_some, if_neg i10, ix_nI (n := 7) (show A < 7 by omega) (by decide), Option.bind_some]
  rcases cart_x R y with ⟨h3, h4⟩ | ⟨B, hB, rfl, h3, h4⟩
  · rw [if_pos h3, h4, Option.bind_some, if_pos rfl]; exact ⟨_, rfl, rfl⟩
  rw [if_neg h3, h4, Option.bind_some, if_neg i10, ix_nI (n := 7) (show B < 7 by omega) (by decide), Option.bind_some]
  by_cases hne : nI A = nI B
  · rw [if_pos hne, if_pos hne]; exact ⟨_, rfl, rfl⟩
  have hne' : A ≠ B := fun q => hne (by rw [q])
  rw [if_neg hne, if_neg hne]
  rcases vill_x (ρ := ρ) z with ⟨h5, h6⟩ | ⟨v, hv, rfl, h5, h5', h6⟩
  · rw [h6, Option.bind_some, if_pos rfl]
    by_cases k : z < 0
    · rw [if_pos k]; exact ⟨_, rfl, rfl⟩
    · rw [if_neg k, if_neg (h5 k)]; exact ⟨_, rfl, rfl⟩
  have CA := RT_C R hA
  have CB := RT_C R hB
  have A7 : A < 7 := by omega
  have B7 : B < 7 := by omega
  rw [h6, Option.bind_some, if_neg i10, if_neg h5, if_pos h5', isOn_r A7, isOn_r B7, get0 A7, get0 B7, get5 A7, CA.2.2.1, CB.2.2.1]
  simp only [obs]
  have ew : σ (22 * 0 + 15 + A) 0 = σ (22 * 0 + 15 + B) 0 ↔ ρ 92 (44 + 11 * A) = ρ 92 (44 + 11 * B) := by
    rcases CA.1 with ⟨q1, q2⟩ | ⟨q1, q2⟩ <;> rcases CB.1 with ⟨q3, q4⟩ | ⟨q3, q4⟩ <;> rw [q1, q2, q3, q4] <;> decide
  by_cases kA : ρ 92 (49 + 11 * A) < 0
  · rw [if_pos kA, if_pos kA, Option.bind_some, if_pos rfl]
    by_cases q : σ (22 * 0 + 15 + A) 0 = σ (22 * 0 + 15 + B) 0
    · rw [if_pos q]; exact ⟨_, rfl, rfl⟩
    · rw [if_neg q]; exact ⟨_, rfl, rfl⟩
  rw [if_neg kA, if_neg kA, Option.bind_some, if_neg i10]
  by_cases kB : ρ 92 (49 + 11 * B) < 0
  · rw [if_pos kB, if_neg (Int32.not_le.mpr kB), Option.bind_some, if_pos rfl]
    by_cases q : σ (22 * 0 + 15 + A) 0 = σ (22 * 0 + 15 + B) 0
    · rw [if_pos q]; exact ⟨_, rfl, rfl⟩
    · rw [if_neg q]; exact ⟨_, rfl, rfl⟩
  rw [if_neg kB, if_pos (Int32.not_lt.mp kB), Option.bind_some, if_neg i10]
  by_cases kw : ρ 92 (44 + 11 * A) = ρ 92 (44 + 11 * B)
  · rw [if_pos (ew.mpr kw), if_pos kw]; exact ⟨_, rfl, rfl⟩
  rw [if_neg (fun q => kw (ew.mp q)), if_neg kw]
  have road : ∀ c, c < n → ¬ ρ 92 (49 + 11 * c) < 0 → ∃ x : Nat, ρ 92 (49 + 11 * c) = nI x ∧ x ≤ PS len m ∧ (ρ 92 (44 + 11 * c) = 1 → x < PS len m) ∧ (ρ 92 (44 + 11 * c) = -1 → 0 < x) := by
    intro c hc k
    rcases (RT_K R hc).2.2.2.2 with q | q | q
    · exact absurd (by rw [q]; exact im2) k
    · exact absurd (by rw [q]; exact im3) k
    · exact q
  obtain ⟨xA, sA, lA, uA, dA⟩ := road A hA kA
  obtain ⟨xB, sB, lB, uB, dB⟩ := road B hB kB
  have opp : ρ 92 (44 + 11 * A) = 1 ∧ ρ 92 (44 + 11 * B) = -1 ∨ ρ 92 (44 + 11 * A) = -1 ∧ ρ 92 (44 + 11 * B) = 1 := by
    rcases (RT_K R hA).1 with q | q <;> rcases (RT_K R hB).1 with q' | q'
    · exact absurd (q.trans q'.symm) kw
    · exact Or.inl ⟨q, q'⟩
    · exact Or.inr ⟨q, q'⟩
    · exact absurd (q.trans q'.symm) kw
  rw [sA]
  rcases spot_cases lA with ⟨q, hq, e⟩ | ⟨q, hq, g1, g2⟩
  · obtain ⟨w, w1, w2, -⟩ := backer_p R (piece := -4) (hill := 0) hA hB hne' hv sA sB lA lB opp (Or.inl ⟨rfl, rfl⟩)
    subst e
    rw [placeOf_at R hq, placeAt_at V hq, Option.bind_some, Option.bind_some, if_neg (show ¬ nI q < 0 from nI_pos (by omega)), if_neg (show ¬ nI q < 0 from nI_pos (by omega)), w1, w2]
    exact ⟨_, rfl, rfl⟩
  · obtain ⟨w, w1, w2, -⟩ := backer_p R (piece := nI q) (hill := ρ 92 (15 + 3 * q)) hA hB hne' hv sA sB lA lB opp (Or.inr ⟨q, hq, rfl, rfl⟩)
    have hpa : F_X6_pieceAhead σ 0 (22 * 0 + 15 + A) = some (nI q) := by
      rcases (RT_K R hA).1 with z | z
      · obtain ⟨p', q1, q2, q3, q4, -⟩ := ahead_up R hA z sA (uA z)
        rw [q4, PS_un (len := len) (p := p') (q := q) (x := xA) q2 q3 (by omega) g2]
      · obtain ⟨p', q1, q2, q3, q4, -⟩ := ahead_dn R hA z sA lA (dA z)
        rw [q4, PS_un (len := len) (p := p') (q := q) (x := xA - 1) (by omega) (by omega) (by omega) (by omega)]
    rw [placeOf_in R hq g1 g2, placeAt_no V hq g1 g2, Option.bind_some, Option.bind_some, if_pos im1, if_pos im4, hpa, Option.bind_some, hillOf_c R hq, Option.bind_some, pieceUp V (by decide) hq (by omega) g2, Option.bind_some, w1, w2]
    exact ⟨_, rfl, rfl⟩
theorem allRoom_l {σ ρ : Mem} {m n : Nat} {len : Nat → Nat} {x : Int32} (R : RT σ 0 (ρ 92) m len n) : ∀ (d p nn nn2 : Nat) (v : Int32), 1 ≤ p → p + d = 9 → d < nn → d < nn2 → ∃ s, F_X4_allRoom_4 σ 0 nn (nI p) v = some s ∧ F_X8_count_64 ρ x nn2 (nI p) v = some s := by
  have h8 := RT_8 R
  have e0 : σ (22 * 0 + 1) 0 = nI m := (RT_R R).1
  intro d
  induction d with
  | zero =>
    intro p nn nn2 v h1 e1 e2 e3
    obtain ⟨nn, rfl⟩ : ∃ j, nn = j + 1 := ⟨nn - 1, by omega⟩
    obtain ⟨nn2, rfl⟩ : ∃ j, nn2 = j + 1 := ⟨nn2 - 1, by omega⟩
    rw [F_X4_allRoom_4, F_X8_count_64, e0, VS_m (RT_V R), if_pos (nI_le (by omega) (by omega)), if_pos (nI_le (by omega) (by omega))]
    exact ⟨_, rfl, rfl⟩
  | succ d ih =>
    intro p nn nn2 v h1 e1 e2 e3
    obtain ⟨nn, rfl⟩ : ∃ j, nn = j + 1 := ⟨nn - 1, by omega⟩
    obtain ⟨nn2, rfl⟩ : ∃ j, nn2 = j + 1 := ⟨nn2 - 1, by omega⟩
    rw [F_X4_allRoom_4, F_X8_count_64, e0, VS_m (RT_V R)]
    by_cases k : nI m ≤ nI p
    · rw [if_pos k, if_pos k]; exact ⟨_, rfl, rfl⟩
    · have hp : p < m := nI_ltof k (by omega)
      have c : σ (22 * 0 + 5) p = ρ 92 (5 + p) := (RT_R R).2.2.2.1 p h1 (by omega)
      rw [if_neg k, if_neg k, ix_nI (n := 9) (show p < 9 by omega) (by decide), Option.bind_some, c, ix5 (by omega), Option.bind_some, nI_1]
      exact ih (p + 1) nn nn2 _ (by omega) (by omega) (by omega) (by omega)
theorem onroad_l {σ ρ : Mem} {m n : Nat} {len : Nat → Nat} {x : Int32} (R : RT σ 0 (ρ 92) m len n) : ∀ (d j nn v : Nat), j + d = n → d < nn → v + occ (spk (ρ 92)) (-2) j + occ (spk (ρ 92)) (-3) j = j → ∃ w : Nat, F_X8_count_95 ρ x nn (nI j) (nI v) = some (nI w) ∧ w + occ (spk (ρ 92)) (-2) n + occ (spk (ρ 92)) (-3) n = n := by
  have h7 := RT_7 R
  intro d
  induction d with
  | zero =>
    intro j nn v e1 e2 e3
    obtain rfl : j = n := by omega
    obtain ⟨nn, rfl⟩ : ∃ j, nn = j + 1 := ⟨nn - 1, by omega⟩
    rw [F_X8_count_95, RT_n R, if_pos (nI_le (Nat.le_refl _) (by omega))]
    exact ⟨v, rfl, e3⟩
  | succ d ih =>
    intro j nn v e1 e2 e3
    obtain ⟨nn, rfl⟩ : ∃ j, nn = j + 1 := ⟨nn - 1, by omega⟩
    have m2 : (-2 : Int32).toInt = -2 := by decide
    have m3 : (-3 : Int32).toInt = -3 := by decide
    rw [F_X8_count_95, RT_n R, if_neg (nI_ge (by omega) (by omega)), isOn_r (by omega), nI_1]
    rcases (RT_K R (show j < n by omega)).2.2.2.2 with hs | hs | ⟨x, hs, hx, -, -⟩
    · have s1 : spk (ρ 92) j = -2 := by show (ρ 92 (49 + 11 * j)).toInt = -2; rw [hs, m2]
      rw [hs, if_pos im2, Option.bind_some, if_pos rfl, Int32.add_zero]
      refine ih (j + 1) nn v (by omega) (by omega) ?_
      simp only [occ, s1, if_true]
      simp
      omega
    · have s1 : spk (ρ 92) j = -3 := by show (ρ 92 (49 + 11 * j)).toInt = -3; rw [hs, m3]
      rw [hs, if_pos im3, Option.bind_some, if_pos rfl, Int32.add_zero]
      refine ih (j + 1) nn v (by omega) (by omega) ?_
      simp only [occ, s1, if_true]
      simp
      omega
    · have h72 := RT_72 R (Nat.le_refl m)
      have s1 : spk (ρ 92) j = x := spk_n hs (by omega)
      have n2 : ¬ (x : Int) = -2 := by omega
      have n3 : ¬ (x : Int) = -3 := by omega
      rw [hs, if_neg (show ¬ nI x < 0 from nI_pos (by omega)), Option.bind_some, if_neg i10, nI_1]
      refine ih (j + 1) nn (v + 1) (by omega) (by omega) ?_
      simp only [occ, s1, n2, n3, if_false]
      omega
theorem call_count (x : Int32) : CALR (fun σ => F_X7_count σ x) (fun σ => F_X8_count σ x) := by
  intro σ ρ I
  obtain ⟨⟨m, len, n, R⟩, -⟩ := I
  have h7 := RT_7 R
  have fu : n < FU := Nat.lt_of_le_of_lt h7 (by decide)
  show ∃ r, F_X7_count σ x = some r ∧ F_X8_count ρ x = some r
  obtain ⟨s1, a1, a2⟩ := allRoom_l (x := x) R 8 1 FU FU 0 (by omega) (by omega) (by decide) (by decide)
  obtain ⟨s2, b1, b2⟩ := allWorth_p R
  obtain ⟨w, c1, c2⟩ := onroad_l (x := x) R n 0 FU 0 (by omega) fu rfl
  have m2 : (-2 : Int32).toInt = -2 := by decide
  have m3 : (-3 : Int32).toInt = -3 := by decide
  have e0 : σ 1 0 = nI m := (RT_R R).1
  have e1 : σ 1 1 = nI (PS len m) := (RT_R R).2.1
  have e2 : σ 0 2 = nI n := RT_2 R
  have ea : F_X4_allRoom σ 0 = some s1 := a1
  have ec : F_X8_count_95 ρ x FU 0 0 = some (nI w) := c1
  have er : F_X8_count_64 ρ x FU 1 0 = some s1 := a2
  have ew : (nI n - nI (occ (spk (ρ 92)) (-2) n)) - nI (occ (spk (ρ 92)) (-3) n) = nI w := by
    rw [nI_sub (by omega), nI_sub (by omega)]
    congr 1
    omega
  unfold F_X7_count F_X8_count
  rw [e0, e1, e2, VS_m (RT_V R), RT_n R, endOf_r (RT_V R), ea, ec, er, b1, b2, howMany_c R, howMany_c R, m2, m3]
  simp only [obs, ew]
  by_cases k0 : x = 0
  · (repeat rw [if_pos k0]); exact ⟨_, rfl, rfl⟩
  (repeat rw [if_neg k0])
  by_cases k1 : x = 1
  · (repeat rw [if_pos k1]); exact ⟨_, rfl, rfl⟩
  (repeat rw [if_neg k1])
  by_cases k2 : x = 2
  · (repeat rw [if_pos k2]); exact ⟨_, rfl, rfl⟩
  (repeat rw [if_neg k2])
  by_cases k3 : x = 3
  · (repeat rw [if_pos k3]); exact ⟨_, rfl, rfl⟩
  (repeat rw [if_neg k3])
  by_cases k4 : x = 4
  · (repeat rw [if_pos k4]); exact ⟨_, rfl, rfl⟩
  (repeat rw [if_neg k4])
  by_cases k5 : x = 5
  · (repeat rw [if_pos k5]); exact ⟨_, rfl, rfl⟩
  (repeat rw [if_neg k5])
  exact ⟨_, rfl, rfl⟩
theorem call_words (x : Int32) : CALR (fun σ => F_X7_words σ x) (fun σ => F_X8_words σ x) := by
  intro σ ρ I
  have S := I.2.2.2.2
  show ∃ r, F_X7_words σ x = some r ∧ F_X8_words ρ x = some r
  unfold F_X7_words F_X8_words F_X8_wrongRule
  rcases shelf_x (ρ := ρ) x with ⟨h1, h2⟩ | ⟨d, hd, rfl, h1, h2⟩
  · rw [if_pos h1, h2, Option.bind_some, if_pos rfl]; exact ⟨-1, rfl, rfl⟩
  · obtain ⟨⟨s1, s2⟩, s3, -, -, -⟩ := S d hd
    rw [if_neg h1, h2, Option.bind_some, if_neg i10, ix_nI hd (by decide), Option.bind_some, Option.bind_some, Option.bind_some, Option.bind_some, Option.bind_some, s1]
    rcases s2 with q | q | q <;> rw [q]
    · exact ⟨-11, rfl, rfl⟩
    · obtain ⟨t1, t2, -, -⟩ := s3 q
      rw [t1, t2, if_neg i10, if_pos rfl, if_neg i10, if_pos rfl, Option.bind_some, if_pos rfl, show F_X7_wordsOf σ (ρ 100 d) (ρ 101 d) = F_X8_wordsBy ρ (ρ 100 d) (ρ 101 d) from rfl]
      unfold F_X8_wordsBy
      generalize ρ 100 d = K
      repeat' split
      all_goals exact ⟨_, rfl, rfl⟩
    · exact ⟨-12, rfl, rfl⟩
end G2
