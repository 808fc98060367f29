/-! fit, shortest, more, ever, stubborn, met -/
section R2
variable {m n : Nat} {len : Nat → Nat}
theorem isWithin_l {σ : Mem} {d z : Nat} {lo hi : Int32} (hs : σ (68 + d) 4 = nI z) (hz : z ≤ 100) : ∀ (q j nn : Nat), j + q = z → q < nn → F_X5_isWithin_2 σ d lo hi nn (nI j) = some (bI (decide (∀ i, i < z → j ≤ i → ¬ σ (76 + d) i < lo ∧ σ (76 + d) i ≤ hi))) := by
  intro q
  induction q with
  | zero =>
    intro j nn e1 e2
    obtain rfl : j = z := by omega
    obtain ⟨nn, rfl⟩ : ∃ j, nn = j + 1 := ⟨nn - 1, by omega⟩
    rw [F_X5_isWithin_2, hs, if_pos (nI_le (Nat.le_refl _) (by omega)), decide_eq_true (fun i h1 h2 => absurd h2 (by omega)), bI_t]
  | succ q ih =>
    intro j nn e1 e2
    obtain ⟨nn, rfl⟩ : ∃ j, nn = j + 1 := ⟨nn - 1, by omega⟩
    rw [F_X5_isWithin_2, hs, if_neg (nI_ge (by omega) (by omega)), if_neg (show ¬ (100 : Int32) ≤ nI j from nI_ge (a := j) (b := 100) (by omega) (by decide)), ix_nI (show j < 100 by omega) (by decide), Option.bind_some, Option.bind_some, nI_1, ih (j + 1) nn (by omega) (by omega)]
    by_cases k1 : σ (76 + d) j < lo
    · rw [if_pos k1, decide_eq_false (fun h => (h j (by omega) (Nat.le_refl _)).1 k1), bI_f]
    rw [if_neg k1]
    by_cases k2 : σ (76 + d) j ≤ hi
    · rw [if_pos k2]
      congr 2
      refine decide_eq_decide.mpr ⟨fun h i h1 h2 => ?_, fun h i h1 h2 => h i h1 (by omega)⟩
      by_cases e : i = j
      · subst e; exact ⟨k1, k2⟩
      · exact h i h1 (by omega)
    · rw [if_neg k2, decide_eq_false (fun h => k2 (h j (by omega) (Nat.le_refl _)).2), bI_f]
theorem isWithin_c {σ : Mem} {d z : Nat} {lo hi : Int32} (hs : σ (68 + d) 4 = nI z) (hz : z ≤ 100) : F_X5_isWithin σ d lo hi = some (bI (decide (∀ i, i < z → 0 ≤ i → ¬ σ (76 + d) i < lo ∧ σ (76 + d) i ≤ hi))) :=
  isWithin_l hs hz z 0 FU (by omega) (Nat.lt_of_le_of_lt hz (by decide))
theorem fit49_l {ρ : Mem} {d z : Nat} {x v3 : Int32} (hd : d < 8) (hs : ρ 98 d = nI z) (hz : z ≤ 100) : ∀ (q j nn : Nat), j + q = z → q < nn → F_X8_fit_49 (nI d) x nn ρ (nI j) v3 = if (∀ i, i < z → j ≤ i → ¬ (ρ 99 (100 * d + i) < 0 ∨ 7 < ρ 99 (100 * d + i))) then ((F_X8_isEmpty ρ).bind fun r_12 => if r_12 = 0 then (F_X8_fit_112 (nI d) x FU ρ 0 0 (-4) v3) else (some (ρ, (-3)))) else some (ρ, -13) := by
  intro q
  induction q with
  | zero =>
    intro j nn e1 e2
    obtain rfl : j = z := by omega
    obtain ⟨nn, rfl⟩ : ∃ j, nn = j + 1 := ⟨nn - 1, by omega⟩
    rw [F_X8_fit_49, ix_nI hd (by decide), Option.bind_some, hs, if_pos (nI_le (Nat.le_refl _) (by omega)), if_pos (fun i h1 h2 => absurd h2 (by omega))]
  | succ q ih =>
    intro j nn e1 e2
    obtain ⟨nn, rfl⟩ : ∃ j, nn = j + 1 := ⟨nn - 1, by omega⟩
    rw [F_X8_fit_49, ix_nI hd (by decide), Option.bind_some, hs, if_neg (nI_ge (by omega) (by omega)), ix99 hd (by omega), Option.bind_some, nI_1, ih (j + 1) nn (by omega) (by omega)]
    by_cases k1 : ρ 99 (100 * d + j) < 0 ∨ 7 < ρ 99 (100 * d + j)
    · rw [if_pos k1, if_neg (fun h => h j (by omega) (Nat.le_refl _) k1)]
    · rw [if_neg k1]
      by_cases k2 : ∀ i, i < z → j + 1 ≤ i → ¬ (ρ 99 (100 * d + i) < 0 ∨ 7 < ρ 99 (100 * d + i))
      · rw [if_pos k2, if_pos (fun i h1 h2 => by
          by_cases e : i = j
          · subst e; exact k1
          · exact k2 i h1 (by omega))]
      · rw [if_neg k2, if_neg (fun h => k2 (fun i h1 h2 => h i h1 (by omega)))]
theorem fit_l {σ0 ρ0 : Mem} {d z f : Nat} {v3 x : Int32} (hm : 0 < m) (hn : ρ0 92 1 = nI n) (hd : d < 8) (hz : z ≤ 100) (hf : f ≤ 9) (c4 : σ0 (68 + d) 4 = nI z) (r4 : ρ0 98 d = nI z) (hv : ∀ i, i < z → σ0 (76 + d) i = ρ0 99 (100 * d + i) ∧ ∃ q : Nat, q < 8 ∧ ρ0 99 (100 * d + i) = nI q) : ∀ (e j nn nn2 : Nat) (σ ρ : Mem) (k : Nat → Int32) (b l : Int32), j + e = z → e < nn → e < nn2 → RTS σ 2 k m len n → KX PR (ρ0 92) k → MC σ0 σ → MR ρ0 ρ → OF σ b l → ∃ σ' ρ' r, F_X7_fit_93 x (nI f) nn σ (nI j) d = some (σ', r) ∧ F_X8_fit_112 (nI d) (nI f) nn2 ρ (nI j) l b v3 = some (ρ', r) ∧ MC σ0 σ' ∧ MR ρ0 ρ' := by
  intro e
  induction e with
  | zero =>
    intro j nn nn2 σ ρ k b l e1 e2 e3 S hk M N O
    obtain rfl : j = z := by omega
    obtain ⟨nn, rfl⟩ : ∃ j, nn = j + 1 := ⟨nn - 1, by omega⟩
    obtain ⟨nn2, rfl⟩ : ∃ j, nn2 = j + 1 := ⟨nn2 - 1, by omega⟩
    rw [F_X7_fit_93, F_X8_fit_112, M.1 (68 + d) (by omega) (by omega), c4, if_pos (nI_le (Nat.le_refl _) (by omega)), ix_nI hd (by decide), Option.bind_some, N.1 98 (by omega) (by omega), r4, if_pos (nI_le (Nat.le_refl _) (by omega)), O.1]
    exact ⟨σ, ρ, _, rfl, rfl, M, N⟩
  | succ e ih =>
    intro j nn nn2 σ ρ k b l e1 e2 e3 S hk M N O
    obtain ⟨nn, rfl⟩ : ∃ j, nn = j + 1 := ⟨nn - 1, by omega⟩
    obtain ⟨nn2, rfl⟩ : ∃ j, nn2 = j + 1 := ⟨nn2 - 1, by omega⟩
    obtain ⟨v1, q, hq, v2⟩ := hv j (by omega)
    obtain ⟨σ1, σ2, ρ2, v, k', a1, a2, a3, -, a5, a6, a7, a8, a84⟩ := by_k (q := q) (f := f) S hm M N hn hk hq hf
    have j0 : 0 ≤ nI j := nI_pos' (by omega)
    obtain ⟨σ3, o1, o2, o3, o4, o5, o6⟩ := offer_c (v := v) a7 (OF_cg O a84) j0
    have S3 := RTS_cc (σ' := σ3) a5 (fun i h1 h2 => o3 i (by omega))
    rw [F_X7_fit_93, F_X8_fit_112, M.1 (68 + d) (by omega) (by omega), c4, if_neg (nI_ge (by omega) (by omega)), if_neg (show ¬ (100 : Int32) ≤ nI j from nI_ge (a := j) (b := 100) (by omega) (by decide)), ix_nI (n := 100) (show j < 100 by omega) (by decide), Option.bind_some, M.1 (76 + d) (by omega) (by omega), v1, v2, a1, Option.bind_some, a2, bd2_s, o1, Option.bind_some, ix_nI hd (by decide), Option.bind_some, N.1 98 (by omega) (by omega), r4, if_neg (nI_ge (by omega) (by omega)), ix99 hd (by omega), Option.bind_some, N.1 99 (by omega) (by omega), v2, a3, bd2_s, nI_1]
    by_cases q1 : b < 0
    · rw [if_pos q1]
      exact ih (j + 1) nn nn2 σ3 ρ2 k' _ _ (by omega) (by omega) (by omega) S3 a6 o2 a8 (o4 q1)
    · rw [if_neg q1]
      by_cases q2 : v < l
      · rw [if_pos q2]
        exact ih (j + 1) nn nn2 σ3 ρ2 k' _ _ (by omega) (by omega) (by omega) S3 a6 o2 a8 (o5 q1 q2)
      · rw [if_neg q2]
        exact ih (j + 1) nn nn2 σ3 ρ2 k' _ _ (by omega) (by omega) (by omega) S3 a6 o2 a8 (o6 q1 q2)
theorem holdsBytes_c {σ ρ : Mem} {d : Nat} (S : SH σ ρ) (hd : d < 8) : F_X5_holdsBytes σ d = some (bI (decide (ρ 96 d = 2 ∧ ρ 97 d = 0))) := by
  obtain ⟨⟨s1, -⟩, -, s4, -, -⟩ := S d hd
  unfold F_X5_holdsBytes
  rw [s1, s4]
  by_cases k1 : ρ 96 d = 2
  · rw [if_pos k1]
    by_cases k2 : ρ 97 d = 0
    · rw [if_pos k2, decide_eq_true ⟨k1, k2⟩]; rfl
    · rw [if_neg k2, decide_eq_false (fun h => k2 h.2)]; rfl
  · rw [if_neg k1, decide_eq_false (fun h => k1 h.1)]; rfl
theorem call_fit (x y : Int32) : CALL (fun σ => F_X7_fit σ x y) (fun σ => F_X8_fit σ x y) := by
  intro σ ρ I
  obtain ⟨⟨m, len, n, R⟩, L, w, G, S⟩ := I
  have I : INV σ ρ := ⟨⟨m, len, n, R⟩, L, w, G, S⟩
  have no : ∀ {r : Int32}, ∃ σ' r' ρ', some (σ, r) = some (σ', r') ∧ some (ρ, r) = some (ρ', r') ∧ INV σ' ρ' ∧ CF σ σ' ∧ RF ρ ρ' := fun {r} => ⟨σ, r, ρ, rfl, rfl, I, fun _ _ => rfl, fun _ _ => rfl⟩
  show ∃ σ' r ρ', F_X7_fit σ x y = some (σ', r) ∧ F_X8_fit ρ x y = some (ρ', r) ∧ _
  unfold F_X7_fit F_X8_fit F_X8_wrongRow
  obtain ⟨b, e1, e2, e3⟩ := isEmpty_p R
  rcases shelf_x (ρ := ρ) x with ⟨h1, h2⟩ | ⟨d, hd, rfl, h1, h2⟩
  · rw [if_pos h1, h2, Option.bind_some, if_pos rfl]; exact no
  rw [if_neg h1, h2, ix_nI hd (by decide)]
  simp only [obs, i10, if_false]
  rcases rng (x := y) 10 (by omega) with ⟨k1, k2, k3⟩ | ⟨f, hf, rfl, g1, g2, g3, g4⟩
  · rw [if_pos (show y < 0 ∨ (9 : Int32) < y from k2)]
    by_cases q : y < 0
    · rw [if_pos q]; exact no
    · have q2 : (9 : Int32) < y := k2.resolve_left q
      rw [if_neg q, if_neg (Int32.not_le.mpr q2)]; exact no
  have g4' : ¬ (9 : Int32) < nI f := g4
  rw [if_neg g1, if_pos (Int32.not_lt.mp g4'), if_neg (show ¬ (nI f < 0 ∨ (9 : Int32) < nI f) from fun q => q.elim g1 g4')]
  have hSH := S
  obtain ⟨⟨s1, s2⟩, s3, s4, ⟨s5, z, hz, ez⟩, s6⟩ := S d hd
  rw [holdsBytes_c hSH hd, s1, s5, ez, isWithin_c (s5.trans ez) hz, e1, ck_t _ (RT_b R), if_neg (show ¬ (0 : Int32) < 0 by decide)]
  simp only [obs]
  by_cases k1 : ρ 96 d = 0
  · rw [if_pos k1, if_pos k1, Option.bind_some, if_neg (by decide)]; exact no
  rw [if_neg k1, if_neg k1]
  by_cases k2 : ρ 96 d = 2
  rotate_left
  · rw [if_neg k2, Option.bind_some, if_neg (show ¬ (-12 : Int32) = 0 by decide), decide_eq_false (fun h => k2 h.1), bI_f, if_pos rfl]; exact no
  rw [if_pos k2]
  by_cases k3 : ρ 97 d = 0
  rotate_left
  · rw [if_neg k3, Option.bind_some, if_neg (show ¬ (-12 : Int32) = 0 by decide), decide_eq_false (fun h => k3 h.2), bI_f, if_pos rfl]; exact no
  rw [if_pos k3, Option.bind_some, if_pos rfl, decide_eq_true ⟨k2, k3⟩, bI_t, if_neg i10]
  by_cases k4 : nI z = 0
  · rw [if_pos k4, if_pos k4]; exact no
  rw [if_neg k4, if_neg k4]
  have f49 := fit49_l (x := nI f) (v3 := 0) hd ez hz z 0 FU (by omega) (Nat.lt_of_le_of_lt hz (by decide))
  have f49' : F_X8_fit_49 (nI d) (nI f) FU ρ 0 0 = _ := f49
  rw [f49', e2]
  by_cases k5 : ∀ i, i < z → 0 ≤ i → ¬ (ρ 99 (100 * d + i) < 0 ∨ 7 < ρ 99 (100 * d + i))
  rotate_left
  · rw [if_neg k5, decide_eq_false (fun h => k5 (fun i hi _ q => by
      have h2 := h i hi (Nat.zero_le _)
      rw [s6 i (by omega)] at h2
      rcases q with q | q
      · exact h2.1 q
      · exact absurd h2.2 (Int32.not_le.mpr q))), bI_f, if_pos rfl]
    exact no
  rw [if_pos k5, decide_eq_true (fun i hi _ => by
      rw [s6 i (by omega)]
      have h2 := k5 i hi (Nat.zero_le _)
      exact ⟨fun q => h2 (Or.inl q), Int32.not_lt.mp (fun q => h2 (Or.inr q))⟩), bI_t, if_neg i10]
  cases b with
  | true => rw [bI_t, Option.bind_some, if_neg i10, if_neg i10]; exact no
  | false =>
    obtain ⟨σ1, g1, g2, g3, g4⟩ := begin_c (MC_tcpy (σ := σ) w)
    obtain ⟨σ', ρ', r, a1, a3, a4, a5⟩ := fit_l (x := nI d) (v3 := 0) (e3 rfl).1 (RT_n R) hd hz (show f ≤ 9 by omega) (s5.trans ez) ez (fun i hi => ⟨s6 i (by omega), by
        have h2 := k5 i hi (Nat.zero_le _)
        rcases rng (x := ρ 99 (100 * d + i)) 8 (by omega) with ⟨w1, w2, w3⟩ | ⟨q, hq, eq, -⟩
        · exact absurd w2 h2
        · exact ⟨q, hq, eq⟩⟩) z 0 FU FU σ1 ρ (ρ 92) (-4) 0 (by omega) (Nat.lt_of_le_of_lt hz (by decide)) (Nat.lt_of_le_of_lt hz (by decide)) (RTS_cc (RTS_tcpy R) (fun i h1 h2 => g3 i (by omega))) (KX_of (K2_rf _)) g2 (MR_rf ρ) g4
    have a1' : F_X7_fit_93 (nI d) (nI f) FU σ1 0 d = some (σ', r) := a1
    have a3' : F_X8_fit_112 (nI d) (nI f) FU ρ 0 0 (-4) 0 = some (ρ', r) := a3
    obtain ⟨i1, i2, i3⟩ := INV_mind I a4 a5
    rw [bI_f, Option.bind_some, if_pos rfl, if_pos rfl, g1, Option.bind_some, a1', a3']
    exact ⟨_, _, _, rfl, rfl, i1, i2, i3⟩
theorem words_t (a b : Int32) : ∃ w, (∀ σ, F_X7_wordsOf σ a b = some w) ∧ ∀ ρ, F_X8_wordsBy ρ a b = some w := by
  have h : ∃ w, F_X7_wordsOf (fun _ _ => 0) a b = some w := by
    unfold F_X7_wordsOf
    repeat' split
    all_goals exact ⟨_, rfl⟩
  obtain ⟨w, h⟩ := h
  exact ⟨w, fun σ => h, fun ρ => h⟩
theorem short_l {σ0 ρ0 : Mem} {K : Nat} (hm : 0 < m) (hn : ρ0 92 1 = nI n) (hK : K < 8) (kc : Mem → Int32 → Option (Mem × Int32)) (kr : Mem → Int32 → Int32 → Int32 → Option (Mem × Int32)) : ∀ (d j nn nn2 : Nat) (σ ρ : Mem) (k : Nat → Int32) (b l : Int32), j + d = 5 → d < nn → d < nn2 → RTS σ 2 k m len n → KX PR (ρ0 92) k → MC σ0 σ → MR ρ0 ρ → OF σ b l → ∃ σ' ρ' k' b' l', F_X7_shortest_38 kc nn σ (nI j) (nI K) = kc σ' (nI (K + 1)) ∧ F_X8_shortest_26 kr nn2 ρ (nI j) (nI K) l b = kr ρ' (nI (K + 1)) l' b' ∧ RTS σ' 2 k' m len n ∧ KX PR (ρ0 92) k' ∧ MC σ0 σ' ∧ MR ρ0 ρ' ∧ OF σ' b' l' := by
  intro d
  induction d with
  | zero =>
    intro j nn nn2 σ ρ k b l e1 e2 e3 S hk M N O
    obtain rfl : j = 5 := by omega
    obtain ⟨nn, rfl⟩ : ∃ j, nn = j + 1 := ⟨nn - 1, by omega⟩
    obtain ⟨nn2, rfl⟩ : ∃ j, nn2 = j + 1 := ⟨nn2 - 1, by omega⟩
    rw [F_X7_shortest_38, F_X8_shortest_26, if_pos (show (4 : Int32) < nI 5 by decide), if_pos (show (5 : Int32) ≤ nI 5 by decide), nI_1]
    exact ⟨σ, ρ, k, b, l, rfl, rfl, S, hk, M, N, O⟩
  | succ d ih =>
    intro j nn nn2 σ ρ k b l e1 e2 e3 S hk M N O
    obtain ⟨nn, rfl⟩ : ∃ j, nn = j + 1 := ⟨nn - 1, by omega⟩
    obtain ⟨nn2, rfl⟩ : ∃ j, nn2 = j + 1 := ⟨nn2 - 1, by omega⟩
    obtain ⟨σ1, σ2, ρ2, v, k', a1, a2, a3, aR, a5, a6, a7, a8, a84⟩ := by_k (q := K) (f := j) S hm M N hn hk hK (by omega)
    obtain ⟨bs, t1, t2⟩ := stands_p aR
    obtain ⟨wd, w1, w2⟩ := words_t (nI K) (nI j)
    have ek : (10 : Int32) * nI K + nI j = nI (10 * K + j) := by rw [show (10 : Int32) = nI 10 from rfl, nI_mul, nI_add]
    have j0 : 0 ≤ nI (10 * K + j) := nI_pos' (by omega)
    obtain ⟨σ3, o1, o2, o3, o4, o5, o6⟩ := offer_c (v := wd) a7 (OF_cg O a84) j0
    have S3 := RTS_cc (σ' := σ3) a5 (fun i h1 h2 => o3 i (by omega))
    have n4 : ¬ (4 : Int32) < nI j := nI_nlt (a := 4) (b := j) (by omega) (by decide)
    have n5 : ¬ (5 : Int32) ≤ nI j := nI_ge (a := j) (b := 5) (by omega) (by decide)
    rw [F_X7_shortest_38, F_X8_shortest_26, if_neg n4, if_neg n5, a1, Option.bind_some, a2, bd2_s, t1, Option.bind_some, w1, w2, ek, Option.bind_some, Option.bind_some, o1, Option.bind_some, a3, bd2_s, t2, Option.bind_some, nI_1]
    by_cases q1 : b < 0
    · rw [if_pos q1]
      cases bs with
      | false =>
        rw [bI_f, if_pos rfl, if_pos rfl]
        exact ih (j + 1) nn nn2 σ3 ρ2 k' _ _ (by omega) (by omega) (by omega) S3 a6 o2 a8 (o4 q1)
      | true =>
        rw [bI_t, if_neg i10, if_neg i10]
        exact ih (j + 1) nn nn2 σ2 ρ2 k' _ _ (by omega) (by omega) (by omega) a5 a6 a7 a8 (OF_cg O a84)
    · rw [if_neg q1]
      by_cases q2 : wd < l
      · rw [if_pos q2]
        cases bs with
        | false =>
          rw [bI_f, if_pos rfl, if_pos rfl]
          exact ih (j + 1) nn nn2 σ3 ρ2 k' _ _ (by omega) (by omega) (by omega) S3 a6 o2 a8 (o5 q1 q2)
        | true =>
          rw [bI_t, if_neg i10, if_neg i10]
          exact ih (j + 1) nn nn2 σ2 ρ2 k' _ _ (by omega) (by omega) (by omega) a5 a6 a7 a8 (OF_cg O a84)
      · rw [if_neg q2]
        cases bs with
        | false =>
          rw [bI_f, if_pos rfl]
          exact ih (j + 1) nn nn2 σ3 ρ k' _ _ (by omega) (by omega) (by omega) S3 a6 o2 N (o6 q1 q2)
        | true =>
          rw [bI_t, if_neg i10]
          exact ih (j + 1) nn nn2 σ2 ρ k' _ _ (by omega) (by omega) (by omega) a5 a6 a7 N (OF_cg O a84)
theorem short_o {σ0 ρ0 : Mem} (hm : 0 < m) (hn : ρ0 92 1 = nI n) : ∀ (d K nn nn2 : Nat) (σ ρ : Mem) (k : Nat → Int32) (b l : Int32), K + d = 8 → d < nn → d < nn2 → RTS σ 2 k m len n → KX PR (ρ0 92) k → MC σ0 σ → MR ρ0 ρ → OF σ b l → ∃ σ' ρ' r, F_X7_shortest_30 nn σ (nI K) = some (σ', r) ∧ F_X8_shortest_17 nn2 ρ (nI K) l b = some (ρ', r) ∧ MC σ0 σ' ∧ MR ρ0 ρ' := by
  intro d
  induction d with
  | zero =>
    intro j nn nn2 σ ρ k b l e1 e2 e3 S hk M N O
    obtain rfl : j = 8 := by omega
    obtain ⟨nn, rfl⟩ : ∃ j, nn = j + 1 := ⟨nn - 1, by omega⟩
    obtain ⟨nn2, rfl⟩ : ∃ j, nn2 = j + 1 := ⟨nn2 - 1, by omega⟩
    rw [F_X7_shortest_30, F_X8_shortest_17, if_pos (show (8 : Int32) ≤ nI 8 by decide), if_pos (show (8 : Int32) ≤ nI 8 by decide), O.1]
    exact ⟨σ, ρ, _, rfl, rfl, M, N⟩
  | succ d ih =>
    intro j nn nn2 σ ρ k b l e1 e2 e3 S hk M N O
    obtain ⟨nn, rfl⟩ : ∃ j, nn = j + 1 := ⟨nn - 1, by omega⟩
    obtain ⟨nn2, rfl⟩ : ∃ j, nn2 = j + 1 := ⟨nn2 - 1, by omega⟩
    have n8 : ¬ (8 : Int32) ≤ nI j := nI_ge (a := j) (b := 8) (by omega) (by decide)
    obtain ⟨σ', ρ', k', b', l', c1, c2, c3, c4, c5, c6, c7⟩ := short_l (K := j) hm hn (by omega) (fun σ v1 => F_X7_shortest_30 nn σ v1) (fun σ v3 v2 v1 => F_X8_shortest_17 nn2 σ v3 v2 v1) 5 0 FU FU σ ρ k b l (by omega) (by decide) (by decide) S hk M N O
    obtain ⟨σ2, ρ2, r, d1, d2, d3, d4⟩ := ih (j + 1) nn nn2 σ' ρ' k' b' l' (by omega) (by omega) (by omega) c3 c4 c5 c6 c7
    rw [F_X7_shortest_30, F_X8_shortest_17, if_neg n8, if_neg n8]
    exact ⟨σ2, ρ2, r, c1.trans d1, c2.trans d2, d3, d4⟩
theorem call_shortest : CALL (fun σ => F_X7_shortest σ) (fun σ => F_X8_shortest σ) := by
  intro σ ρ I
  obtain ⟨⟨m, len, n, R⟩, L, w, G, S⟩ := I
  have I : INV σ ρ := ⟨⟨m, len, n, R⟩, L, w, G, S⟩
  have no : ∀ {r : Int32}, ∃ σ' r' ρ', some (σ, r) = some (σ', r') ∧ some (ρ, r) = some (ρ', r') ∧ INV σ' ρ' ∧ CF σ σ' ∧ RF ρ ρ' := fun {r} => ⟨σ, r, ρ, rfl, rfl, I, fun _ _ => rfl, fun _ _ => rfl⟩
  show ∃ σ' r ρ', F_X7_shortest σ = some (σ', r) ∧ F_X8_shortest ρ = some (ρ', r) ∧ _
  unfold F_X7_shortest F_X8_shortest
  obtain ⟨b, e1, e2, e3⟩ := isEmpty_p R
  rw [e1, e2, ck_t _ (RT_b R), Option.bind_some, Option.bind_some]
  cases b with
  | true => rw [bI_t, if_neg i10, if_neg i10]; exact no
  | false =>
    obtain ⟨σ1, g1, g2, g3, g4⟩ := begin_c (MC_tcpy (σ := σ) w)
    obtain ⟨σ', ρ', r, a1, a3, a4, a5⟩ := short_o (e3 rfl).1 (RT_n R) 8 0 FU FU σ1 ρ (ρ 92) (-4) 0 (by omega) (by decide) (by decide) (RTS_cc (RTS_tcpy R) (fun i h1 h2 => g3 i (by omega))) (KX_of (K2_rf _)) g2 (MR_rf ρ) g4
    have a1' : F_X7_shortest_30 FU σ1 0 = some (σ', r) := a1
    have a3' : F_X8_shortest_17 FU ρ 0 0 (-4) = some (ρ', r) := a3
    obtain ⟨i1, i2, i3⟩ := INV_mind I a4 a5
    rw [bI_f, if_pos rfl, if_pos rfl, g1, Option.bind_some, a1', a3']
    exact ⟨_, _, _, rfl, rfl, i1, i2, i3⟩
end R2
