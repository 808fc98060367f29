/-! run, judge -/
section R5
variable {m n : Nat} {len : Nat → Nat}
/-- what run answers when the run is over -/
def AN7 (x2 : Int32) (σ_13 : Mem) (r_14 : Int32) : Option (Mem × Int32) := if x2 = 0 then (some (σ_13, r_14)) else (if x2 = 1 then ((F_X6_allBacked σ_13 2).bind fun r_20 => some (σ_13, r_20)) else (if x2 = 2 then ((F_X6_allWaited σ_13 2).bind fun r_22 => some (σ_13, r_22)) else (if x2 = 3 then (some (σ_13, (σ_13 44 3))) else ((F_X6_stands σ_13 2).bind fun r_16 => if r_16 = 0 then (some (σ_13, 0)) else (some (σ_13, 1))))))
def AN8 (x2 : Int32) (σ_15 : Mem) (r_16 : Int32) : Option (Mem × Int32) := if x2 = 0 then (some (σ_15, r_16)) else (if x2 = 1 then ((F_X8_allOf σ_15 94 8).bind fun r_22 => some (σ_15, r_22)) else (if x2 = 2 then ((F_X8_allOf σ_15 94 9).bind fun r_24 => some (σ_15, r_24)) else (if x2 = 3 then (some (σ_15, (σ_15 94 2))) else ((F_X8_stands σ_15 94).bind fun r_18 => if r_18 = 0 then (some (σ_15, 0)) else (some (σ_15, 1))))))
theorem AN_p {σ ρ : Mem} (R : RT σ 2 (ρ 94) m len n) (x v : Int32) : ∃ r, AN7 x σ v = some (σ, r) ∧ AN8 x ρ v = some (ρ, r) := by
  obtain ⟨s1, a1, a2⟩ := allBacked_p R
  obtain ⟨s2, b1, b2⟩ := allWaited_p R
  obtain ⟨b, c1, c2⟩ := stands_p R
  have e3 : σ 44 3 = ρ 94 2 := RT_3 R
  unfold AN7 AN8
  rw [a1, a2, b1, b2, c1, c2, e3]
  simp only [obs]
  by_cases k0 : x = 0
  · (repeat rw [if_pos k0]); exact ⟨_, rfl, rfl⟩
  (repeat rw [if_neg k0])
  by_cases k1 : x = 1
  · (repeat rw [if_pos k1]); exact ⟨_, rfl, rfl⟩
  (repeat rw [if_neg k1])
  by_cases k2 : x = 2
  · (repeat rw [if_pos k2]); exact ⟨_, rfl, rfl⟩
  (repeat rw [if_neg k2])
  by_cases k3 : x = 3
  · (repeat rw [if_pos k3]); exact ⟨_, rfl, rfl⟩
  (repeat rw [if_neg k3])
  cases b with
  | false => exact ⟨_, rfl, rfl⟩
  | true => exact ⟨_, rfl, rfl⟩
/-- lateness as the row tells: the class -/
theorem run7_l {σ0 : Mem} {x1 x2 : Int32} {d z : Nat} {T : Nat → Int32} (hd : d < 8) (hz : z ≤ 100) (c4 : σ0 (68 + d) 4 = nI z) (hT : ∀ c, c < n → T c = if c < z then σ0 (76 + d) c else 0) : ∀ (q j nn : Nat) (σ : Mem) (k : Nat → Int32), j + q = n → q < nn → RTS σ 2 k m len n → MC σ0 σ → (∀ c, c < j → k (54 + 11 * c) = T c) → ∃ σ' k', F_X7_run_80 x1 x2 nn σ (nI j) d = (bd2 (F_X7_costInMind σ') fun s v => AN7 x2 s v) ∧ RTS σ' 2 k' m len n ∧ MC σ0 σ' ∧ KX (PQ 0 n) k k' ∧ ∀ c, c < n → k' (54 + 11 * c) = T c := by
  intro q
  induction q with
  | zero =>
    intro j nn σ k e1 e2 S M h
    have h7 : n ≤ 7 := S.2.1.2
    obtain rfl : j = n := by omega
    obtain ⟨nn, rfl⟩ : ∃ j, nn = j + 1 := ⟨nn - 1, by omega⟩
    have ec : σ 44 2 = nI j := S.2.2.2.2.1.trans S.2.1.1
    refine ⟨σ, k, ?_, S, M, KX_of (K2_rf k), h⟩
    rw [F_X7_run_80, ec, if_pos (nI_le (Nat.le_refl _) (by omega))]
    rfl
  | succ q ih =>
    intro j nn σ k e1 e2 S M h
    have h7 : n ≤ 7 := S.2.1.2
    obtain ⟨nn, rfl⟩ : ∃ j, nn = j + 1 := ⟨nn - 1, by omega⟩
    have ec : σ 44 2 = nI n := S.2.2.2.2.1.trans S.2.1.1
    have nx : ∃ σ' k', F_X7_run_80 x1 x2 nn (stm σ (22 * 2 + 15 + j) 5 (T j)) (nI (j + 1)) d = (bd2 (F_X7_costInMind σ') fun s v => AN7 x2 s v) ∧ RTS σ' 2 k' m len n ∧ MC σ0 σ' ∧ KX (PQ 0 n) k k' ∧ ∀ c, c < n → k' (54 + 11 * c) = T c := by
      obtain ⟨σ', k', i1, i2, i3, i4, i5⟩ := ih (j + 1) nn (stm σ (22 * 2 + 15 + j) 5 (T j)) (upd k (54 + 11 * j) (T j)) (by omega) (by omega) (RTS_late S (show j < n by omega) _) (MC_st M (by omega) (by omega)) (fun c hc => by
        by_cases e : c = j
        · subst e; rw [upd_at]
        · rw [upd_ne _ _ (by omega)]; exact h c (by omega))
      exact ⟨σ', k', i1, i2, i3, KX_tr (KX_one (Nat.zero_le _) (show j < n by omega)) i4, i5⟩
    rw [F_X7_run_80, ec, if_neg (nI_ge (by omega) (by omega)), ix_nI (n := 7) (show j < 7 by omega) (by decide), Option.bind_some, M.1 (68 + d) (by omega) (by omega), c4, ix_nI (n := 100) (show j < 100 by omega) (by decide), Option.bind_some, M.1 (76 + d) (by omega) (by omega), nI_1]
    by_cases k1 : j < z
    · rw [if_neg (nI_ge (by omega) (by omega))]
      rw [hT j (by omega), if_pos k1] at nx
      exact nx
    · rw [if_pos (nI_le (by omega) (by omega))]
      rw [hT j (by omega), if_neg k1] at nx
      exact nx
/-- the reference: late as the row tells, as far as it goes -/
theorem run8_l {ρ0 : Mem} {x2 v3 : Int32} {d z : Nat} {T : Nat → Int32} (hd : d < 8) (hz : z ≤ 100) (h7 : n ≤ 7) (hn : ρ0 92 1 = nI n) (r4 : ρ0 98 d = nI z) (hT : ∀ c, c < n → T c = if c < z then ρ0 99 (100 * d + c) else 0) : ∀ (q j nn : Nat) (ρ : Mem), j + q = n → q < nn → BG (ρ 94) n → MR ρ0 ρ → (∀ c, c < n → ρ 94 (54 + 11 * c) = if c < j then T c else 0) → ∃ ρ', F_X8_run_97 (nI d) x2 nn ρ (nI j) v3 = (bd2 (F_X8_costs ρ') fun s v => AN8 x2 s v) ∧ BG (ρ' 94) n ∧ MR ρ0 ρ' ∧ KX (PQ 0 n) (ρ 94) (ρ' 94) ∧ ∀ c, c < n → ρ' 94 (54 + 11 * c) = T c := by
  intro q
  induction q with
  | zero =>
    intro j nn ρ e1 e2 B N h
    obtain rfl : j = n := by omega
    obtain ⟨nn, rfl⟩ : ∃ j, nn = j + 1 := ⟨nn - 1, by omega⟩
    refine ⟨ρ, ?_, B, N, KX_of (K2_rf _), fun c hc => by rw [h c hc, if_pos hc]⟩
    rw [F_X8_run_97, N.1 92 (by omega) (by omega), hn, if_pos (nI_le (Nat.le_refl _) (by omega))]
    rfl
  | succ q ih =>
    intro j nn ρ e1 e2 B N h
    obtain ⟨nn, rfl⟩ : ∃ j, nn = j + 1 := ⟨nn - 1, by omega⟩
    rw [F_X8_run_97, N.1 92 (by omega) (by omega), hn, if_neg (nI_ge (by omega) (by omega)), ix_nI hd (by decide), Option.bind_some, N.1 98 (by omega) (by omega), r4]
    by_cases k1 : j < z
    · have tj := hT j (by omega)
      rw [if_pos k1] at tj
      rw [if_neg (nI_ge (by omega) (by omega)), ix99 hd (by omega), Option.bind_some, puts10 (by omega), Option.bind_some, N.1 99 (by omega) (by omega), ← tj, nI_1]
      obtain ⟨ρ', i1, i2, i3, i4, i5⟩ := ih (j + 1) nn (stm ρ 94 (54 + 11 * j) (T j)) (by omega) (by omega) (BG_sc B (by omega)) (MR_st N) (fun c hc => by
        rw [stm_row]
        by_cases e : c = j
        · subst e; rw [upd_at, if_pos (by omega)]
        · rw [upd_ne _ _ (by omega), h c hc]
          by_cases e2 : c < j
          · rw [if_pos e2, if_pos (by omega)]
          · rw [if_neg e2, if_neg (by omega)])
      refine ⟨ρ', i1, i2, i3, KX_tr ?_ i4, i5⟩
      rw [stm_row]
      exact KX_one (Nat.zero_le _) (show j < n by omega)
    · rw [if_pos (nI_le (by omega) (by omega))]
      refine ⟨ρ, rfl, B, N, KX_of (K2_rf _), fun c hc => ?_⟩
      rw [h c hc]
      by_cases e2 : c < j
      · rw [if_pos e2]
      · rw [if_neg e2, hT c hc, if_neg (by omega)]
theorem run37_l {ρ : Mem} {d z : Nat} {x v3 : Int32} (hd : d < 8) (hs : ρ 98 d = nI z) (hz : z ≤ 100) : ∀ (q j nn : Nat), j + q = z → q < nn → F_X8_run_37 (nI d) x nn ρ (nI j) v3 = if (∀ i, i < z → j ≤ i → ¬ (ρ 99 (100 * d + i) < 0 ∨ 200 < ρ 99 (100 * d + i))) then ((F_X8_isEmpty ρ).bind fun r_10 => if r_10 = 0 then ((F_X8_opens ρ).bind fun σ_12 => F_X8_run_97 (nI d) x FU σ_12 0 v3) else (some (ρ, (-3)))) else some (ρ, -13) := by
  intro q
  induction q with
  | zero =>
    intro j nn e1 e2
    obtain rfl : j = z := by omega
    obtain ⟨nn, rfl⟩ : ∃ j, nn = j + 1 := ⟨nn - 1, by omega⟩
    rw [F_X8_run_37, ix_nI hd (by decide), Option.bind_some, hs, if_pos (nI_le (Nat.le_refl _) (by omega)), if_pos (fun i h1 h2 => absurd h2 (by omega))]
  | succ q ih =>
    intro j nn e1 e2
    obtain ⟨nn, rfl⟩ : ∃ j, nn = j + 1 := ⟨nn - 1, by omega⟩
    rw [F_X8_run_37, ix_nI hd (by decide), Option.bind_some, hs, if_neg (nI_ge (by omega) (by omega)), ix99 hd (by omega), Option.bind_some, nI_1, ih (j + 1) nn (by omega) (by omega)]
    by_cases k1 : ρ 99 (100 * d + j) < 0 ∨ 200 < ρ 99 (100 * d + j)
    · rw [if_pos k1, if_neg (fun h => h j (by omega) (Nat.le_refl _) k1)]
    · rw [if_neg k1]
      by_cases k2 : ∀ i, i < z → j + 1 ≤ i → ¬ (ρ 99 (100 * d + i) < 0 ∨ 200 < ρ 99 (100 * d + i))
      · rw [if_pos k2, if_pos (fun i h1 h2 => by
          by_cases e : i = j
          · subst e; exact k1
          · exact k2 i h1 (by omega))]
      · rw [if_neg k2, if_neg (fun h => k2 (fun i h1 h2 => h i h1 (by omega)))]
theorem call_run (x y : Int32) : CALL (fun σ => F_X7_run σ x y) (fun σ => F_X8_run σ x y) := by
  intro σ ρ I
  obtain ⟨⟨m, len, n, R⟩, L, w, G, S⟩ := I
  have I : INV σ ρ := ⟨⟨m, len, n, R⟩, L, w, G, S⟩
  have h7 := RT_7 R
  have no : ∀ {r : Int32}, ∃ σ' r' ρ', some (σ, r) = some (σ', r') ∧ some (ρ, r) = some (ρ', r') ∧ INV σ' ρ' ∧ CF σ σ' ∧ RF ρ ρ' := fun {r} => ⟨σ, r, ρ, rfl, rfl, I, fun _ _ => rfl, fun _ _ => rfl⟩
  show ∃ σ' r ρ', F_X7_run σ x y = some (σ', r) ∧ F_X8_run ρ x y = some (ρ', r) ∧ _
  unfold F_X7_run F_X8_run F_X8_wrongRow
  obtain ⟨b, e1, e2, e3⟩ := isEmpty_p R
  rcases shelf_x (ρ := ρ) x with ⟨h1, h2⟩ | ⟨d, hd, rfl, h1, h2⟩
  · rw [if_pos h1, h2, Option.bind_some, if_pos rfl]; exact no
  rw [if_neg h1, h2, ix_nI hd (by decide)]
  simp only [obs, i10, if_false]
  rcases rng (x := y) 5 (by omega) with ⟨k1, k2, k3⟩ | ⟨f, hf, rfl, g1, g2, g3, g4⟩
  · rw [if_pos (show y < 0 ∨ (4 : Int32) < y from k2)]
    by_cases q : y < 0
    · rw [if_pos q]; exact no
    · have q2 : (4 : Int32) < y := k2.resolve_left q
      rw [if_neg q, if_neg (Int32.not_le.mpr q2)]; exact no
  have g4' : ¬ (4 : Int32) < nI f := g4
  rw [if_neg g1, if_pos (Int32.not_lt.mp g4'), if_neg (show ¬ (nI f < 0 ∨ (4 : Int32) < nI f) from fun q => q.elim g1 g4')]
  obtain ⟨⟨s1, s2⟩, s3, s4, ⟨s5, z, hz, ez⟩, s6⟩ := S d hd
  rw [s1, isWithin_c (s5.trans ez) hz, e1, ck_t _ (RT_b R), if_pos (show (-1 : Int32) < 0 by decide)]
  simp only [obs]
  by_cases k1 : ρ 96 d = 0
  · rw [if_pos k1, if_pos k1, Option.bind_some, if_neg (by decide)]; exact no
  rw [if_neg k1, if_neg k1]
  by_cases k2 : ρ 96 d = 2
  rotate_left
  · rw [if_neg k2, if_neg k2, Option.bind_some, if_neg (show ¬ (-12 : Int32) = 0 by decide)]; exact no
  rw [if_pos k2, if_pos k2, Option.bind_some, if_pos rfl]
  have f37 := run37_l (x := nI f) (v3 := 0) hd ez hz z 0 FU (by omega) (Nat.lt_of_le_of_lt hz (by decide))
  have f37' : F_X8_run_37 (nI d) (nI f) FU ρ 0 0 = _ := f37
  rw [f37', e2]
  by_cases k5 : ∀ i, i < z → 0 ≤ i → ¬ (ρ 99 (100 * d + i) < 0 ∨ 200 < ρ 99 (100 * d + i))
  rotate_left
  · rw [if_neg k5, decide_eq_false (fun h => k5 (fun i hi _ q => by
      have h2 := h i hi (Nat.zero_le _)
      rw [s6 i (by omega)] at h2
      rcases q with q | q
      · exact h2.1 q
      · exact absurd h2.2 (Int32.not_le.mpr q))), bI_f, if_pos rfl]
    exact no
  rw [if_pos k5, decide_eq_true (fun i hi _ => by
      rw [s6 i (by omega)]
      have h2 := k5 i hi (Nat.zero_le _)
      exact ⟨fun q => h2 (Or.inl q), Int32.not_lt.mp (fun q => h2 (Or.inr q))⟩), bI_t, if_neg i10]
  cases b with
  | true => rw [bI_t, Option.bind_some, if_neg i10, if_neg i10]; exact no
  | false =>
    have fu : n < FU := Nat.lt_of_le_of_lt h7 (by decide)
    obtain ⟨σ', k', a1, a2, a3, a4, a5⟩ := run7_l (x1 := nI d) (x2 := nI f) (T := fun c => if c < z then σ (76 + d) c else 0) hd hz (s5.trans ez) (fun c _ => rfl) n 0 FU (tcpy σ 2 0) (ρ 92) (by omega) fu (RTS_tcpy R) (MC_tcpy w) (fun c hc => absurd hc (Nat.not_lt_zero _))
    obtain ⟨ρ1, b1, b2, b3, b4, b5⟩ := open_k (MR_rf ρ) (RT_n R) h7 (KX_of (P := P0) (K2_rf (ρ 92)))
    obtain ⟨ρ', c1, c2, c3, c4, c5⟩ := run8_l (x2 := nI f) (v3 := 0) (T := fun c => if c < z then ρ 99 (100 * d + c) else 0) hd hz h7 (RT_n R) ez (fun c _ => rfl) n 0 FU ρ1 (by omega) fu b3 b2 (fun c hc => by
      rw [if_neg (Nat.not_lt_zero _), b5 _ (by unfold st2; omega), ← (RT_C R hc).2.1.2.2.2.2]
      exact L c (by omega))
    have a1' : F_X7_run_80 (nI d) (nI f) FU (tcpy σ 2 0) 0 d = _ := a1
    have c1' : F_X8_run_97 (nI d) (nI f) FU ρ1 0 0 = _ := c1
    have hk2 : K2 k' (ρ' 94) := by
      intro q hq
      by_cases hp : PQ 0 n q
      · obtain ⟨c, -, hc, rfl⟩ := hp
        rw [c5 c hc, a5 c hc]
        by_cases e : c < z
        · rw [if_pos e, if_pos e, s6 c (by omega)]
        · rw [if_neg e, if_neg e]
      · rw [c4 q hq hp, b5 q hq, a4 q hq hp]
    obtain ⟨σ2, ρ2, v, d1, d2, d3, -, -, d6, d7, -⟩ := run_k a2 hk2 c2 (e3 rfl).1 a3 c3
    obtain ⟨r, t1, t2⟩ := AN_p d3 (nI f) v
    obtain ⟨i1, i2, i3⟩ := INV_mind I d6 d7
    rw [bI_f, Option.bind_some, if_pos rfl, if_pos rfl, a1', d1, bd2_s, t1, b1, Option.bind_some, c1', d2, bd2_s, t2]
    exact ⟨_, _, _, rfl, rfl, i1, i2, i3⟩
theorem judge8_l {x y v3 : Int32} : ∀ (d j nn : Nat) (ρ : Mem), j + d = 121 → d < nn → (∀ q, q < j → ρ 94 q = ρ 92 q) → ∃ ρ', F_X8_judge_49b x y nn ρ (nI j) v3 = F_X8_judge_79b x y FU ρ' 0 v3 ∧ (∀ i, i ≠ 94 → ρ' i = ρ i) ∧ ∀ q, q < 121 → ρ' 94 q = ρ 92 q := by
  intro d
  induction d with
  | zero =>
    intro j nn ρ e1 e2 hq
    obtain rfl : j = 121 := by omega
    obtain ⟨nn, rfl⟩ : ∃ j, nn = j + 1 := ⟨nn - 1, by omega⟩
    rw [F_X8_judge_49b, if_pos (show (121 : Int32) ≤ nI 121 by decide)]
    exact ⟨ρ, rfl, fun _ _ => rfl, hq⟩
  | succ d ih =>
    intro j nn ρ e1 e2 hq
    obtain ⟨nn, rfl⟩ : ∃ j, nn = j + 1 := ⟨nn - 1, by omega⟩
    have e92 : stm ρ 94 j (ρ 92 j) 92 = ρ 92 := stm_ne _ _ _ (by omega)
    obtain ⟨ρ', i1, i2, i3⟩ := ih (j + 1) nn (stm ρ 94 j (ρ 92 j)) (by omega) (by omega) (fun q hq2 => by
      rw [e92, stm_row]
      by_cases e : q = j
      · subst e; rw [upd_at]
      · rw [upd_ne _ _ e]; exact hq q (by omega))
    rw [F_X8_judge_49b, if_neg (show ¬ (121 : Int32) ≤ nI j from nI_ge (a := j) (b := 121) (by omega) (by decide)), ix_nI (by omega) (by decide), Option.bind_some, Option.bind_some, nI_1]
    rw [e92] at i3
    exact ⟨ρ', i1, fun i h1 => by rw [i2 i h1, stm_ne _ _ _ h1], i3⟩
theorem least_p {σ ρ : Mem} {d : Nat} (hd : d < 8) (h : σ (68 + d) 3 = ρ 97 d) : ∃ v, F_X5_leastNumber σ d = some v ∧ F_X8_leastOf ρ (nI d) = some v := by
  unfold F_X5_leastNumber F_X8_leastOf
  rw [h, ix_nI hd (by decide), Option.bind_some, Option.bind_some]
  by_cases k0 : ρ 97 d = 0
  · (repeat rw [if_pos k0]); exact ⟨_, rfl, rfl⟩
  (repeat rw [if_neg k0])
  by_cases k1 : ρ 97 d = 1
  · (repeat rw [if_pos k1]); exact ⟨_, rfl, rfl⟩
  (repeat rw [if_neg k1]); exact ⟨_, rfl, rfl⟩
theorem judge_l {σ0 ρ0 : Mem} {x y v3 : Int32} {c d z : Nat} (hm : 0 < m) (hc : c < n) (hd : d < 8) (hz : z ≤ 100) (c3 : σ0 (68 + d) 3 = ρ0 97 d) (c4 : σ0 (68 + d) 4 = nI z) (r4 : ρ0 98 d = nI z) (hv : ∀ i, i < 100 → σ0 (76 + d) i = ρ0 99 (100 * d + i)) : ∀ (q j nn nn2 : Nat) (σ ρ : Mem), j + q = z → q < nn → q < nn2 → RT σ 2 (ρ 94) m len n → MC σ0 σ → MR ρ0 ρ → ∃ σ' ρ' r, F_X7_judge_91 x y nn σ (nI j) (22 * 2 + 15 + c) d = some (σ', r) ∧ F_X8_judge_79b (nI c) (nI d) nn2 ρ (nI j) v3 = some (ρ', r) ∧ MC σ0 σ' ∧ MR ρ0 ρ' := by
  intro q
  induction q with
  | zero =>
    intro j nn nn2 σ ρ e1 e2 e3 R M N
    obtain rfl : j = z := by omega
    obtain ⟨nn, rfl⟩ : ∃ j, nn = j + 1 := ⟨nn - 1, by omega⟩
    obtain ⟨nn2, rfl⟩ : ∃ j, nn2 = j + 1 := ⟨nn2 - 1, by omega⟩
    rw [F_X7_judge_91, F_X8_judge_79b, M.1 (68 + d) (by omega) (by omega), c4, if_pos (nI_le (Nat.le_refl _) (by omega)), ix_nI hd (by decide), Option.bind_some, N.1 98 (by omega) (by omega), r4, if_pos (nI_le (Nat.le_refl _) (by omega))]
    exact ⟨σ, ρ, _, rfl, rfl, M, N⟩
  | succ q ih =>
    intro j nn nn2 σ ρ e1 e2 e3 R M N
    obtain ⟨nn, rfl⟩ : ∃ j, nn = j + 1 := ⟨nn - 1, by omega⟩
    obtain ⟨nn2, rfl⟩ : ∃ j, nn2 = j + 1 := ⟨nn2 - 1, by omega⟩
    have h7 := RT_7 R
    obtain ⟨b, s1, s2, s3⟩ := isEnded_p R
    rw [F_X7_judge_91, F_X8_judge_79b, M.1 (68 + d) (by omega) (by omega), c4, if_neg (nI_ge (by omega) (by omega)), if_neg (show ¬ (100 : Int32) ≤ nI j from nI_ge (a := j) (b := 100) (by omega) (by decide)), ix_nI hd (by decide), N.1 98 (by omega) (by omega), s1, s2, ix_nI (n := 100) (show j < 100 by omega) (by decide), ix99 hd (show j < 100 by omega)]
    simp only [obs, r4, nI_1]
    rw [if_neg (show ¬ nI z ≤ nI j from nI_ge (by omega) (by omega))]
    have step : ∀ (σ ρ : Mem), RT σ 2 (ρ 94) m len n → MC σ0 σ → MR ρ0 ρ → ∃ σ' ρ' r, ((F_X5_leastNumber σ d).bind fun r_20 => if (σ (76 + d) j) = r_20 then (F_X7_judge_91 x y nn σ (nI (j + 1)) (22 * 2 + 15 + c) d) else (if (σ (76 + d) j) = (σ (22 * 2 + 15 + c) 6) then (F_X7_judge_91 x y nn σ (nI (j + 1)) (22 * 2 + 15 + c) d) else (some (σ, nI j)))) = some (σ', r) ∧ ((F_X8_leastOf ρ (nI d)).bind fun r_44 => if (ρ 99 (100 * d + j)) = r_44 then (F_X8_judge_79b (nI c) (nI d) nn2 ρ (nI (j + 1)) v3) else ((F_X8_get ρ 94 (nI c) 5).bind fun r_46 => if (ρ 99 (100 * d + j)) = r_46 then (F_X8_judge_79b (nI c) (nI d) nn2 ρ (nI (j + 1)) v3) else (some (ρ, nI j)))) = some (ρ', r) ∧ MC σ0 σ' ∧ MR ρ0 ρ' := by
      intro σ ρ R M N
      obtain ⟨lv, l1, l2⟩ := least_p (σ := σ) (ρ := ρ) hd (by rw [M.1 (68 + d) (by omega) (by omega), N.1 97 (by omega) (by omega)]; exact c3)
      have e1 : σ (76 + d) j = ρ 99 (100 * d + j) := by rw [M.1 (76 + d) (by omega) (by omega), N.1 99 (by omega) (by omega)]; exact hv j (by omega)
      have e2 : σ (22 * 2 + 15 + c) 6 = ρ 94 (49 + 11 * c) := (RT_C R hc).2.2.1
      rw [l1, l2, Option.bind_some, Option.bind_some, e1, e2, get5 (by omega), Option.bind_some]
      by_cases k1 : ρ 99 (100 * d + j) = lv
      · rw [if_pos k1, if_pos k1]
        exact ih (j + 1) nn nn2 σ ρ (by omega) (by omega) (by omega) R M N
      · rw [if_neg k1, if_neg k1]
        by_cases k2 : ρ 99 (100 * d + j) = ρ 94 (49 + 11 * c)
        · rw [if_pos k2, if_pos k2]
          exact ih (j + 1) nn nn2 σ ρ (by omega) (by omega) (by omega) R M N
        · rw [if_neg k2, if_neg k2]
          exact ⟨σ, ρ, _, rfl, rfl, M, N⟩
    cases b with
    | true =>
      rw [bI_t, if_neg i10, if_neg i10]
      exact step σ ρ R M N
    | false =>
      obtain ⟨σ1, ρ1, g1, g2, g3, -⟩ := minute_p R (Or.inl M.2) (by decide) hm (s3 rfl)
      rw [bI_f, if_pos rfl, if_pos rfl, g1, g2, Option.bind_some, Option.bind_some]
      exact step σ1 ρ1 g3.1 (MC_fr M g3.2.2.1) (MR_fr N g3.2.2.2.1)
theorem call_judge (x y : Int32) : CALL (fun σ => F_X7_judge σ x y) (fun σ => F_X8_judge σ x y) := by
  intro σ ρ I
  obtain ⟨⟨m, len, n, R⟩, L, w, G, S⟩ := I
  have I : INV σ ρ := ⟨⟨m, len, n, R⟩, L, w, G, S⟩
  have h7 := RT_7 R
  have h8 := RT_8 R
  have no : ∀ {r : Int32}, ∃ σ' r' ρ', some (σ, r) = some (σ', r') ∧ some (ρ, r) = some (ρ', r') ∧ INV σ' ρ' ∧ CF σ σ' ∧ RF ρ ρ' := fun {r} => ⟨σ, r, ρ, rfl, rfl, I, fun _ _ => rfl, fun _ _ => rfl⟩
  show ∃ σ' r ρ', F_X7_judge σ x y = some (σ', r) ∧ F_X8_judge ρ x y = some (ρ', r) ∧ _
  unfold F_X7_judge F_X8_judge F_X8_wrongRow
  have e0 : σ 1 0 = nI m := (RT_R R).1
  rcases shelf_x (ρ := ρ) y with ⟨h1, h2⟩ | ⟨d, hd, rfl, h1, h2⟩
  · rw [if_pos h1, h2, Option.bind_some, if_pos rfl]
    rcases cart_x R x with ⟨h3, h4⟩ | ⟨c, hc, rfl, h3, h4⟩
    · rw [h4, Option.bind_some, if_pos rfl]; exact no
    · rw [h4, Option.bind_some, if_neg i10]; exact no
  rw [if_neg h1, h2, ix_nI hd (by decide)]
  simp only [obs, i10, if_false]
  obtain ⟨⟨s1, s2⟩, s3, s4, ⟨s5, z, hz, ez⟩, s6⟩ := S d hd
  rcases cart_x R x with ⟨h3, h4⟩ | ⟨c, hc, rfl, h3, h4⟩
  · rw [if_pos h3, h4, Option.bind_some, if_pos rfl]; exact no
  rw [if_neg h3, h4, ix_nI (n := 7) (show c < 7 by omega) (by decide)]
  simp only [obs, i10, if_false]
  rw [s1, e0, VS_m (RT_V R), ck_t _ (RT_b R), if_pos (show (-1 : Int32) < 0 by decide)]
  by_cases k1 : ρ 96 d = 0
  · rw [if_pos k1, if_pos k1, Option.bind_some, if_neg (show ¬ (-11 : Int32) = 0 by decide), if_neg (show ¬ (-11 : Int32) = 0 by decide)]; exact no
  rw [if_neg k1, if_neg k1]
  by_cases k2 : ρ 96 d = 2
  rotate_left
  · rw [if_neg k2, if_neg k2, Option.bind_some, if_neg (show ¬ (-12 : Int32) = 0 by decide), if_neg (show ¬ (-12 : Int32) = 0 by decide)]; exact no
  rw [if_pos k2, if_pos k2, Option.bind_some, if_pos rfl]
  by_cases hm : nI m = 0
  · rw [if_pos hm, if_pos hm]; exact no
  have hm0 : 0 < m := by
    rcases Nat.eq_zero_or_pos m with q | q
    · subst q; exact absurd rfl hm
    · exact q
  rw [if_neg hm, if_neg hm, if_neg (cart_x2 (RTS_tcpy R) hc), if_pos rfl]
  obtain ⟨ρ1, b1, b2, b3⟩ := judge8_l (x := nI c) (y := nI d) (v3 := 0) 121 0 FU ρ (by omega) (by decide) (fun q hq => absurd hq (Nat.not_lt_zero _))
  have b1' : F_X8_judge_49b (nI c) (nI d) FU ρ 0 0 = _ := b1
  obtain ⟨σ', ρ', r, a1, a2, a3, a4⟩ := judge_l (x := nI c) (y := nI d) (v3 := 0) (ρ0 := ρ) hm0 hc hd hz s4 (s5.trans ez) ez s6 z 0 FU FU (tcpy σ 2 0) ρ1 (by omega) (Nat.lt_of_le_of_lt hz (by decide)) (Nat.lt_of_le_of_lt hz (by decide)) (RT_121 (RT_cpy R (by omega)) b3) (MC_tcpy w) ⟨fun i h1 _ => b2 i h1, by rw [b2 91 (by omega)]⟩
  have a1' : F_X7_judge_91 (nI c) (nI d) FU (tcpy σ 2 0) 0 (22 * 2 + 15 + c) d = _ := a1
  have a2' : F_X8_judge_79b (nI c) (nI d) FU ρ1 0 0 = _ := a2
  obtain ⟨i1, i2, i3⟩ := INV_mind I a3 a4
  rw [a1', b1', a2']
  exact ⟨_, _, _, rfl, rfl, i1, i2, i3⟩
end R5
