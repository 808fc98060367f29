/-! shelves: keep, row, put, copy -/
section SV
variable {σ σ' ρ ρ' : Mem}
def SD (σ ρ : Mem) (d : Nat) : Prop := (σ (68 + d) 0 = ρ 96 d ∧ (ρ 96 d = 0 ∨ ρ 96 d = 1 ∨ ρ 96 d = 2)) ∧ (ρ 96 d = 1 → σ (68 + d) 1 = ρ 100 d ∧ σ (68 + d) 2 = ρ 101 d ∧ (∃ q : Nat, q < 8 ∧ ρ 100 d = nI q) ∧ (∃ f : Nat, f ≤ 9 ∧ ρ 101 d = nI f)) ∧ σ (68 + d) 3 = ρ 97 d ∧ (σ (68 + d) 4 = ρ 98 d ∧ ∃ z : Nat, z ≤ 100 ∧ ρ 98 d = nI z) ∧ ∀ i, i < 100 → σ (76 + d) i = ρ 99 (100 * d + i)
theorem SH_one (S : SH σ ρ) {d : Nat} (hd : d < 8) (h : SD σ' ρ' d) (h1 : ∀ i, i ≠ 68 + d → i ≠ 76 + d → σ' i = σ i) (h2 : ∀ e, e ≠ d → ρ' 96 e = ρ 96 e ∧ ρ' 97 e = ρ 97 e ∧ ρ' 98 e = ρ 98 e ∧ ρ' 100 e = ρ 100 e ∧ ρ' 101 e = ρ 101 e) (h3 : ∀ q, ¬ (100 * d ≤ q ∧ q < 100 * d + 100) → ρ' 99 q = ρ 99 q) : SH σ' ρ' := by
  intro e he
  by_cases k : e = d
  · subst k; exact h
  · have s := S e he
    obtain ⟨a1, a2, a3, a4, a5⟩ := h2 e k
    rw [h1 (68 + e) (by omega) (by omega), a1, a2, a3, a4, a5]
    refine ⟨s.1, s.2.1, s.2.2.1, s.2.2.2.1, fun i hi => ?_⟩
    rw [h1 (76 + e) (by omega) (by omega), h3 (100 * e + i) (by omega)]
    exact s.2.2.2.2 i hi
theorem INV_sh (I : INV σ ρ) (S : SH σ' ρ') (h1 : ∀ i, i < 68 ∨ 84 ≤ i → σ' i = σ i) (h2 : ∀ i, i < 96 → ρ' i = ρ i) : INV σ' ρ' ∧ CF σ σ' ∧ RF ρ ρ' := by
  obtain ⟨⟨m, len, n, R⟩, L, ⟨⟨w1, w2⟩, w3, w4⟩, G, -⟩ := I
  refine ⟨⟨⟨m, len, n, ?_⟩, LZ_cc L (fun i _ _ => h1 i (by omega)), ?_, IMG_cc G (fun i _ _ => h1 i (by omega)) (h1 66 (by omega)) (h2 93 (by omega)) (by rw [h2 91 (by omega)]), S⟩, fun i hi => h1 i (by omega), fun i hi => h2 i (by omega)⟩
  · rw [h2 92 (by omega)]
    exact RT_cc R (fun i _ _ => h1 i (by omega))
  · unfold WN
    rw [h1 0 (by omega), h1 44 (by omega)]
    exact ⟨⟨w1, w2⟩, w3, w4⟩
theorem call_keep (x y z u : Int32) : CALL (fun σ => F_X7_keep σ x y z u) (fun σ => F_X8_keep σ x y z u) := by
  intro σ ρ I
  have S := I.2.2.2.2
  have no : ∀ {r : Int32}, ∃ σ' r' ρ', some (σ, r) = some (σ', r') ∧ some (ρ, r) = some (ρ', r') ∧ INV σ' ρ' ∧ CF σ σ' ∧ RF ρ ρ' := fun {r} => ⟨σ, r, ρ, rfl, rfl, I, fun _ _ => rfl, fun _ _ => rfl⟩
  show ∃ σ' r ρ', F_X7_keep σ x y z u = some (σ', r) ∧ F_X8_keep ρ x y z u = some (ρ', r) ∧ _
  unfold F_X7_keep F_X8_keep
  rcases shelf_x (ρ := ρ) x with ⟨h1, h2⟩ | ⟨d, hd, rfl, h1, h2⟩
  · rw [if_pos h1, h2, Option.bind_some, if_pos rfl]; exact no
  rw [if_neg h1, h2, Option.bind_some, if_neg i10, ix_nI hd (by decide)]
  simp only [obs]
  obtain ⟨⟨s1, s2⟩, s3, s4, s5, s6⟩ := S d hd
  rcases rng (x := y) 2 (by omega) with ⟨k1, k2, k3⟩ | ⟨b, hb, rfl, g1, g2, g3, g4⟩
  · rw [if_pos (show y < 0 ∨ (1 : Int32) < y from k2)]
    by_cases q : y < 0
    · rw [if_pos q]; exact no
    · have q2 : (1 : Int32) < y := k2.resolve_left q
      rw [if_neg q, if_neg (Int32.not_le.mpr q2)]; exact no
  · have g4' : ¬ (1 : Int32) < nI b := g4
    rw [if_neg g1, if_pos (Int32.not_lt.mp g4'), if_neg (show ¬ (nI b < 0 ∨ (1 : Int32) < nI b) from fun q => q.elim g1 g4')]
    have hb2 : b = 0 ∨ b = 1 := by omega
    have q1 : ∀ (v w : Int32) (i : Nat), i ≠ 96 → i ≠ 100 → i ≠ 101 → stm (stm (stm ρ 96 d v) 100 d w) 101 d u i = ρ i := fun v w i e1 e2 e3 => by rw [stm_ne _ _ _ e3, stm_ne _ _ _ e2, stm_ne _ _ _ e1]
    have q2 : ∀ (v w : Int32), stm (stm (stm ρ 96 d v) 100 d w) 101 d u 96 = upd (ρ 96) d v := fun v w => by rw [stm_ne _ _ _ (by omega), stm_ne _ _ _ (by omega), stm_row]
    have q3 : ∀ (v w : Int32), stm (stm (stm ρ 96 d v) 100 d w) 101 d u 100 = upd (ρ 100) d w := fun v w => by rw [stm_ne _ _ _ (by omega), stm_row, stm_ne _ _ _ (by omega)]
    have q4 : ∀ (v w : Int32), stm (stm (stm ρ 96 d v) 100 d w) 101 d u 101 = upd (ρ 101) d u := fun v w => by rw [stm_row, stm_ne _ _ _ (by omega), stm_ne _ _ _ (by omega)]
    have q5 : ∀ (v w : Int32) (e : Nat), e ≠ d → stm (stm (stm ρ 96 d v) 100 d w) 101 d u 96 e = ρ 96 e ∧ stm (stm (stm ρ 96 d v) 100 d w) 101 d u 97 e = ρ 97 e ∧ stm (stm (stm ρ 96 d v) 100 d w) 101 d u 98 e = ρ 98 e ∧ stm (stm (stm ρ 96 d v) 100 d w) 101 d u 100 e = ρ 100 e ∧ stm (stm (stm ρ 96 d v) 100 d w) 101 d u 101 e = ρ 101 e := fun v w e he => by
      rw [q2, q3, q4, q1 v w 97 (by omega) (by omega) (by omega), q1 v w 98 (by omega) (by omega) (by omega), upd_ne _ _ he, upd_ne _ _ he, upd_ne _ _ he]
      exact ⟨rfl, rfl, rfl, rfl, rfl⟩
    rcases hb2 with rfl | rfl
    · rw [if_pos (show nI 0 = 0 from rfl), if_neg (show ¬ nI 0 = 1 by decide)]
      suffices hSD : SD (stm σ (68 + d) 0 0) (stm (stm (stm ρ 96 d (nI 0)) 100 d z) 101 d u) d by
        obtain ⟨j1, j2, j3⟩ := INV_sh I (σ' := stm σ (68 + d) 0 0) (ρ' := stm (stm (stm ρ 96 d (nI 0)) 100 d z) 101 d u) (SH_one S hd hSD (fun i h1 _ => stm_ne _ _ _ h1) (q5 _ _) (fun q _ => by rw [q1 _ _ 99 (by omega) (by omega) (by omega)])) (fun i hi => stm_ne _ _ _ (by omega)) (fun i hi => q1 _ _ i (by omega) (by omega) (by omega))
        exact ⟨_, _, _, rfl, rfl, j1, j2, j3⟩
      · refine ⟨⟨?_, Or.inl ?_⟩, fun q => ?_, ?_, ?_, fun i hi => ?_⟩
        · rw [q2, upd_at, stm_row, upd_at]; rfl
        · rw [q2, upd_at]; rfl
        · rw [q2, upd_at] at q; exact absurd q (by decide)
        · rw [q1 _ _ 97 (by omega) (by omega) (by omega), stm_row, upd_ne _ _ (by omega)]; exact s4
        · rw [q1 _ _ 98 (by omega) (by omega) (by omega), stm_row, upd_ne _ _ (by omega)]; exact s5
        · rw [q1 _ _ 99 (by omega) (by omega) (by omega), stm_ne _ _ _ (by omega)]; exact s6 i hi
    · rw [if_neg (show ¬ nI 1 = 0 by decide), if_pos (show nI 1 = 1 from rfl)]
      rcases rng (x := z) 8 (by omega) with ⟨k1, k2, k3⟩ | ⟨K, hK, rfl, f1, f2, f3, f4⟩
      · rw [if_pos (show z < 0 ∨ (7 : Int32) < z from k2)]
        by_cases q : z < 0
        · rw [if_pos q]; exact no
        · rw [if_neg q, if_pos (show (8 : Int32) ≤ z from Int32.not_lt.mp (k3 q))]; exact no
      rw [if_neg f1, if_neg (show ¬ (8 : Int32) ≤ nI K from f3), if_neg (show ¬ (nI K < 0 ∨ (7 : Int32) < nI K) from fun q => q.elim f1 f4)]
      rcases rng (x := u) 10 (by omega) with ⟨k1, k2, k3⟩ | ⟨f, hf, rfl, e1, e2, e3, e4⟩
      · rw [if_pos (show u < 0 ∨ (9 : Int32) < u from k2)]
        by_cases q : u < 0
        · rw [if_pos q]; exact no
        · have q2 : (9 : Int32) < u := k2.resolve_left q
          rw [if_neg q, if_neg (Int32.not_le.mpr q2)]; exact no
      have e4' : ¬ (9 : Int32) < nI f := e4
      rw [if_neg e1, if_pos (Int32.not_lt.mp e4'), if_neg (show ¬ (nI f < 0 ∨ (9 : Int32) < nI f) from fun q => q.elim e1 e4')]
      have c0 : ∀ i, i ≠ 68 + d → stm (stm (stm σ (68 + d) 0 1) (68 + d) 1 (nI K)) (68 + d) 2 (nI f) i = σ i := fun i hi => by rw [stm_ne _ _ _ hi, stm_ne _ _ _ hi, stm_ne _ _ _ hi]
      have c1 : stm (stm (stm σ (68 + d) 0 1) (68 + d) 1 (nI K)) (68 + d) 2 (nI f) (68 + d) = upd (upd (upd (σ (68 + d)) 0 1) 1 (nI K)) 2 (nI f) := by rw [stm_row, stm_row, stm_row]
      suffices hSD : SD (stm (stm (stm σ (68 + d) 0 1) (68 + d) 1 (nI K)) (68 + d) 2 (nI f)) (stm (stm (stm ρ 96 d (nI 1)) 100 d (nI K)) 101 d (nI f)) d by
        obtain ⟨j1, j2, j3⟩ := INV_sh I (σ' := stm (stm (stm σ (68 + d) 0 1) (68 + d) 1 (nI K)) (68 + d) 2 (nI f)) (ρ' := stm (stm (stm ρ 96 d (nI 1)) 100 d (nI K)) 101 d (nI f)) (SH_one S hd hSD (fun i h1 _ => c0 i h1) (q5 _ _) (fun q _ => by rw [q1 _ _ 99 (by omega) (by omega) (by omega)])) (fun i hi => c0 i (by omega)) (fun i hi => q1 _ _ i (by omega) (by omega) (by omega))
        exact ⟨_, _, _, rfl, rfl, j1, j2, j3⟩
      · refine ⟨⟨?_, Or.inr (Or.inl ?_)⟩, fun _ => ⟨?_, ?_, ⟨K, hK, ?_⟩, f, by omega, ?_⟩, ?_, ?_, fun i hi => ?_⟩
        · rw [q2, upd_at, c1]; simp (disch := omega) only [upd_at, upd_ne]; rfl
        · rw [q2, upd_at]; rfl
        · rw [q3, upd_at, c1]; simp (disch := omega) only [upd_at, upd_ne]
        · rw [q4, upd_at, c1]; simp (disch := omega) only [upd_at]
        · rw [q3, upd_at]
        · rw [q4, upd_at]
        · rw [q1 _ _ 97 (by omega) (by omega) (by omega), c1]; simp (disch := omega) only [upd_ne]; exact s4
        · rw [q1 _ _ 98 (by omega) (by omega) (by omega), c1]; simp (disch := omega) only [upd_ne]; exact s5
        · rw [q1 _ _ 99 (by omega) (by omega) (by omega), c0 _ (by omega)]; exact s6 i hi
theorem becomeRow_l {d : Nat} {x y : Int32} : ∀ (e j nn : Nat) (σ : Mem), j + e = 100 → e < nn → (∀ i, i < j → σ (76 + d) i = 0) → ∃ σ', F_X5_becomeRow_17 d x y nn σ (nI j) = some σ' ∧ (∀ i, i ≠ 76 + d → σ' i = σ i) ∧ ∀ i, i < 100 → σ' (76 + d) i = 0 := by
  intro e
  induction e with
  | zero =>
    intro j nn σ e1 e2 h
    obtain rfl : j = 100 := by omega
    obtain ⟨nn, rfl⟩ : ∃ j, nn = j + 1 := ⟨nn - 1, by omega⟩
    rw [F_X5_becomeRow_17, if_pos (show (100 : Int32) ≤ nI 100 by decide)]
    exact ⟨σ, rfl, fun _ _ => rfl, h⟩
  | succ e ih =>
    intro j nn σ e1 e2 h
    obtain ⟨nn, rfl⟩ : ∃ j, nn = j + 1 := ⟨nn - 1, by omega⟩
    obtain ⟨σ', i1, i2, i3⟩ := ih (j + 1) nn (stm σ (76 + d) j 0) (by omega) (by omega) (fun i hi => by
      rw [stm_row]
      by_cases q : i = j
      · subst q; rw [upd_at]
      · rw [upd_ne _ _ q]; exact h i (by omega))
    rw [F_X5_becomeRow_17, if_neg (show ¬ (100 : Int32) ≤ nI j from nI_ge (a := j) (b := 100) (by omega) (by decide)), ix_nI (by omega) (by decide), Option.bind_some, nI_1]
    exact ⟨σ', i1, fun i hi => (i2 i hi).trans (stm_ne _ _ _ hi), i3⟩
theorem ix99 {d i : Nat} (hd : d < 8) (hi : i < 100) : ix 800 ((100 * nI d) + nI i) = some (100 * d + i) := by
  rw [show (100 : Int32) = nI 100 from rfl, nI_mul, nI_add]; exact ix_nI (by omega) (by decide)
theorem row58_l {d : Nat} {y z : Int32} (hd : d < 8) : ∀ (e j nn : Nat) (ρ : Mem), j + e = 100 → e < nn → (∀ i, i < j → ρ 99 (100 * d + i) = 0) → ∃ ρ', F_X8_row_58 (nI d) y z nn ρ (nI j) = some (ρ', 0) ∧ (∀ i, i ≠ 99 → ρ' i = ρ i) ∧ (∀ i, i < 100 → ρ' 99 (100 * d + i) = 0) ∧ ∀ q, ¬ (100 * d ≤ q ∧ q < 100 * d + 100) → ρ' 99 q = ρ 99 q := by
  intro e
  induction e with
  | zero =>
    intro j nn ρ e1 e2 h
    obtain rfl : j = 100 := by omega
    obtain ⟨nn, rfl⟩ : ∃ j, nn = j + 1 := ⟨nn - 1, by omega⟩
    rw [F_X8_row_58, if_pos (show (100 : Int32) ≤ nI 100 by decide)]
    exact ⟨ρ, rfl, fun _ _ => rfl, h, fun _ _ => rfl⟩
  | succ e ih =>
    intro j nn ρ e1 e2 h
    obtain ⟨nn, rfl⟩ : ∃ j, nn = j + 1 := ⟨nn - 1, by omega⟩
    obtain ⟨ρ', i1, i2, i3, i4⟩ := ih (j + 1) nn (stm ρ 99 (100 * d + j) 0) (by omega) (by omega) (fun i hi => by
      rw [stm_row]
      by_cases q : i = j
      · subst q; rw [upd_at]
      · rw [upd_ne _ _ (by omega)]; exact h i (by omega))
    rw [F_X8_row_58, if_neg (show ¬ (100 : Int32) ≤ nI j from nI_ge (a := j) (b := 100) (by omega) (by decide)), ix99 hd (by omega), Option.bind_some, nI_1]
    exact ⟨ρ', i1, fun i hi => (i2 i hi).trans (stm_ne _ _ _ hi), i3, fun q hq => by rw [i4 q hq, stm_row, upd_ne _ _ (by omega)]⟩
theorem call_row (x y z : Int32) : CALL (fun σ => F_X7_row σ x y z) (fun σ => F_X8_row σ x y z) := by
  intro σ ρ I
  have S := I.2.2.2.2
  have no : ∀ {r : Int32}, ∃ σ' r' ρ', some (σ, r) = some (σ', r') ∧ some (ρ, r) = some (ρ', r') ∧ INV σ' ρ' ∧ CF σ σ' ∧ RF ρ ρ' := fun {r} => ⟨σ, r, ρ, rfl, rfl, I, fun _ _ => rfl, fun _ _ => rfl⟩
  show ∃ σ' r ρ', F_X7_row σ x y z = some (σ', r) ∧ F_X8_row ρ x y z = some (ρ', r) ∧ _
  unfold F_X7_row F_X8_row
  rcases shelf_x (ρ := ρ) x with ⟨h1, h2⟩ | ⟨d, hd, rfl, h1, h2⟩
  · rw [if_pos h1, h2, Option.bind_some, if_pos rfl]; exact no
  rw [if_neg h1, h2, Option.bind_some, if_neg i10, ix_nI hd (by decide)]
  simp only [obs]
  rcases rng (x := y) 3 (by omega) with ⟨k1, k2, k3⟩ | ⟨b, hb, rfl, g1, g2, g3, g4⟩
  · rw [if_pos (show y < 0 ∨ (2 : Int32) < y from k2)]
    by_cases q : y < 0
    · rw [if_pos q]; exact no
    · have q2 : (2 : Int32) < y := k2.resolve_left q
      rw [if_neg q, if_pos q2]; exact no
  have g4' : ¬ (2 : Int32) < nI b := g4
  rw [if_neg g1, if_neg g4', if_neg (show ¬ (nI b < 0 ∨ (2 : Int32) < nI b) from fun q => q.elim g1 g4')]
  by_cases k1 : z ≤ 100
  · by_cases k2 : 0 ≤ z
    · obtain ⟨s, hs, rfl⟩ := nI_of2 (M := 100) (n := 100) (by decide) (Int32.not_lt.mpr k2) k1
      obtain ⟨σ', a1, a2, a3⟩ := becomeRow_l (d := d) (x := nI b) (y := nI s) 100 0 FU (stm (stm (stm σ (68 + d) 0 2) (68 + d) 3 (nI b)) (68 + d) 4 (nI s)) (by omega) (by decide) (fun i hi => absurd hi (Nat.not_lt_zero _))
      obtain ⟨ρ', b1, b2, b3, b4⟩ := row58_l (d := d) (y := nI b) (z := nI s) hd 100 0 FU (stm (stm (stm ρ 96 d 2) 97 d (nI b)) 98 d (nI s)) (by omega) (by decide) (fun i hi => absurd hi (Nat.not_lt_zero _))
      have a1' : F_X5_becomeRow σ d (nI b) (nI s) = some σ' := a1
      have b1' : F_X8_row_58 (nI d) (nI b) (nI s) FU (stm (stm (stm ρ 96 d 2) 97 d (nI b)) 98 d (nI s)) 0 = some (ρ', 0) := b1
      repeat rw [if_pos k1]
      repeat rw [if_pos k2]
      rw [a1', b1', Option.bind_some]
      have c0 : ∀ i, i ≠ 68 + d → i ≠ 76 + d → σ' i = σ i := fun i h1 h2 => by rw [a2 i h2, stm_ne _ _ _ h1, stm_ne _ _ _ h1, stm_ne _ _ _ h1]
      have c1 : σ' (68 + d) = upd (upd (upd (σ (68 + d)) 0 2) 3 (nI b)) 4 (nI s) := by rw [a2 _ (by omega), stm_row, stm_row, stm_row]
      have r0 : ∀ i, i ≠ 96 → i ≠ 97 → i ≠ 98 → i ≠ 99 → ρ' i = ρ i := fun i h1 h2 h3 h4 => by rw [b2 i h4, stm_ne _ _ _ h3, stm_ne _ _ _ h2, stm_ne _ _ _ h1]
      have r6 : ρ' 96 = upd (ρ 96) d 2 := by rw [b2 96 (by omega), stm_ne _ _ _ (by omega), stm_ne _ _ _ (by omega), stm_row]
      have r7 : ρ' 97 = upd (ρ 97) d (nI b) := by rw [b2 97 (by omega), stm_ne _ _ _ (by omega), stm_row, stm_ne _ _ _ (by omega)]
      have r8 : ρ' 98 = upd (ρ 98) d (nI s) := by rw [b2 98 (by omega), stm_row, stm_ne _ _ _ (by omega), stm_ne _ _ _ (by omega)]
      have y1 : ∀ e, e ≠ d → ρ' 96 e = ρ 96 e ∧ ρ' 97 e = ρ 97 e ∧ ρ' 98 e = ρ 98 e ∧ ρ' 100 e = ρ 100 e ∧ ρ' 101 e = ρ 101 e := fun e he => by
        rw [r6, r7, r8, upd_ne _ _ he, upd_ne _ _ he, upd_ne _ _ he, r0 100 (by omega) (by omega) (by omega) (by omega), r0 101 (by omega) (by omega) (by omega) (by omega)]
        exact ⟨rfl, rfl, rfl, rfl, rfl⟩
      have y2 : ∀ q, ¬ (100 * d ≤ q ∧ q < 100 * d + 100) → ρ' 99 q = ρ 99 q := fun q hq => by
        rw [b4 q hq, stm_ne _ _ _ (by omega), stm_ne _ _ _ (by omega), stm_ne _ _ _ (by omega)]
      suffices hSD : SD σ' ρ' d by
        obtain ⟨j1, j2, j3⟩ := INV_sh I (σ' := σ') (ρ' := ρ') (SH_one S hd hSD c0 y1 y2) (fun i hi => c0 i (by omega) (by omega)) (fun i hi => r0 i (by omega) (by omega) (by omega) (by omega))
        exact ⟨_, _, _, rfl, rfl, j1, j2, j3⟩
      · refine ⟨⟨?_, Or.inr (Or.inr ?_)⟩, fun q => ?_, ?_, ⟨?_, s, hs, ?_⟩, fun i hi => ?_⟩
        · rw [r6, upd_at, c1]; simp (disch := omega) only [upd_at, upd_ne]
        · rw [r6, upd_at]
        · rw [r6, upd_at] at q; exact absurd q (by decide)
        · rw [r7, upd_at, c1]; simp (disch := omega) only [upd_at, upd_ne]
        · rw [r8, upd_at, c1, upd_at]
        · rw [r8, upd_at]
        · rw [a3 i hi, b3 i hi]
    · repeat rw [if_pos k1]
      repeat rw [if_neg k2]
      exact no
  · repeat rw [if_neg k1]
    exact no
theorem call_put (x y z : Int32) : CALL (fun σ => F_X7_put σ x y z) (fun σ => F_X8_put σ x y z) := by
  intro σ ρ I
  have S := I.2.2.2.2
  have no : ∀ {r : Int32}, ∃ σ' r' ρ', some (σ, r) = some (σ', r') ∧ some (ρ, r) = some (ρ', r') ∧ INV σ' ρ' ∧ CF σ σ' ∧ RF ρ ρ' := fun {r} => ⟨σ, r, ρ, rfl, rfl, I, fun _ _ => rfl, fun _ _ => rfl⟩
  show ∃ σ' r ρ', F_X7_put σ x y z = some (σ', r) ∧ F_X8_put ρ x y z = some (ρ', r) ∧ _
  unfold F_X7_put F_X8_put F_X8_wrongRow
  rcases shelf_x (ρ := ρ) x with ⟨h1, h2⟩ | ⟨d, hd, rfl, h1, h2⟩
  · rw [if_pos h1, h2, Option.bind_some, if_pos rfl]; exact no
  obtain ⟨⟨s1, s2⟩, s3, s4, ⟨s5, zz, hz, ez⟩, s6⟩ := S d hd
  rw [if_neg h1, h2, ix_nI hd (by decide)]
  simp only [obs, i10, if_false, s1]
  rcases s2 with q | q | q <;> rw [q]
  · exact no
  · exact no
  · rw [if_neg (show ¬ (2 : Int32) = 0 by decide), if_pos rfl, if_neg (show ¬ (2 : Int32) = 0 by decide), if_pos rfl, if_pos (show (-1 : Int32) < 0 by decide), Option.bind_some, if_pos rfl, ez]
    unfold F_X5_hasElement F_X5_lowestBits
    rw [s5, ez, s4]
    rcases rng (x := y) zz (by omega) with ⟨k1, k2, k3⟩ | ⟨b, hb, rfl, g1, g2, g3, g4⟩
    · rw [if_pos k2]
      by_cases q : y < 0
      · rw [if_pos q, Option.bind_some, if_pos rfl]; exact no
      · rw [if_neg q, if_pos (k1.resolve_left q), Option.bind_some, if_pos rfl]; exact no
    · rw [if_neg (show ¬ (nI b < 0 ∨ nI zz - 1 < nI b) from fun q => q.elim g1 g4), if_neg g1, if_neg g3, if_neg (show ¬ (100 : Int32) ≤ nI b from nI_ge (a := b) (b := 100) (by omega) (by decide)), Option.bind_some, if_neg i10, ix_nI (n := 100) (show b < 100 by omega) (by decide), ix99 hd (show b < 100 by omega)]
      simp only [obs]
      have fin : ∀ v : Int32, ∃ σ' r' ρ', some (stm σ (76 + d) b v, (0 : Int32)) = some (σ', r') ∧ some (stm ρ 99 (100 * d + b) v, (0 : Int32)) = some (ρ', r') ∧ INV σ' ρ' ∧ CF σ σ' ∧ RF ρ ρ' := by
        intro v
        have y0 : ∀ i, i ≠ 99 → stm ρ 99 (100 * d + b) v i = ρ i := fun i hi => stm_ne _ _ _ hi
        have y1 : ∀ e, e ≠ d → stm ρ 99 (100 * d + b) v 96 e = ρ 96 e ∧ stm ρ 99 (100 * d + b) v 97 e = ρ 97 e ∧ stm ρ 99 (100 * d + b) v 98 e = ρ 98 e ∧ stm ρ 99 (100 * d + b) v 100 e = ρ 100 e ∧ stm ρ 99 (100 * d + b) v 101 e = ρ 101 e := fun e he => by
          rw [y0 96 (by omega), y0 97 (by omega), y0 98 (by omega), y0 100 (by omega), y0 101 (by omega)]
          exact ⟨rfl, rfl, rfl, rfl, rfl⟩
        have y2 : ∀ q, ¬ (100 * d ≤ q ∧ q < 100 * d + 100) → stm ρ 99 (100 * d + b) v 99 q = ρ 99 q := fun q hq => by
          rw [stm_row, upd_ne _ _ (by omega)]
        suffices hSD : SD (stm σ (76 + d) b v) (stm ρ 99 (100 * d + b) v) d by
          obtain ⟨j1, j2, j3⟩ := INV_sh I (σ' := stm σ (76 + d) b v) (ρ' := stm ρ 99 (100 * d + b) v) (SH_one S hd hSD (fun i _ h2 => stm_ne _ _ _ h2) y1 y2) (fun i hi => stm_ne _ _ _ (by omega)) (fun i hi => stm_ne _ _ _ (by omega))
          exact ⟨_, _, _, rfl, rfl, j1, j2, j3⟩
        · have s := S d hd
          have e1 : stm σ (76 + d) b v (68 + d) = σ (68 + d) := stm_ne _ _ _ (by omega)
          have e2 : ∀ i, i ≠ 99 → stm ρ 99 (100 * d + b) v i = ρ i := fun i hi => stm_ne _ _ _ hi
          unfold SD
          rw [e1, e2 96 (by omega), e2 97 (by omega), e2 98 (by omega), e2 100 (by omega), e2 101 (by omega)]
          refine ⟨s.1, s.2.1, s.2.2.1, s.2.2.2.1, fun i hi => ?_⟩
          rw [stm_row, stm_row]
          by_cases w : i = b
          · subst w; rw [upd_at, upd_at]
          · rw [upd_ne _ _ w, upd_ne _ _ (by omega)]; exact s6 i hi
      by_cases t0 : ρ 97 d = 0
      · repeat rw [if_pos t0]
        exact fin _
      · repeat rw [if_neg t0]
        by_cases t1 : ρ 97 d = 1
        · repeat rw [if_pos t1]
          exact fin _
        · repeat rw [if_neg t1]
          exact fin _
end SV
