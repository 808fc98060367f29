/-! what a statement does: class and reference -/
section OQ
variable {σ σ' ρ : Mem} {t m n m' : Nat} {k k' : Nat → Int32} {len len' : Nat → Nat}
/-- only the road changes -/
theorem RT_road (R : RT σ t k m len n) (V : VS k' m' len') (D : RD σ' t k' m' len') (hc : ∀ i, i = 22 * t ∨ (22 * t + 14 ≤ i ∧ i < 22 * t + 22) → σ' i = σ i) (hk : ∀ j, (1 ≤ j ∧ j ≤ 4) ∨ 44 ≤ j → k' j = k j) (hE : PS len m ≤ PS len' m') : RT σ' t k' m' len' n := by
  have h7 := RT_7 R
  obtain ⟨-, ⟨hn, -⟩, ⟨M, hM, eM⟩, K, -, ⟨f2, f3, f4, f5⟩, W, hb, hon, hz⟩ := R
  refine ⟨V, ⟨(hk 1 (by omega)).trans hn, h7⟩, ⟨M, hM, (hk 2 (by omega)).trans eM⟩, fun j hj => ?_, D, ?_, fun j hj => ?_, fun j hj b h12 h4 => ?_, fun s hs => ?_, fun j hj => ?_⟩
  · obtain ⟨q1, q2, q3, q4, q5⟩ := K j hj
    refine ⟨?_, ?_, ?_, ?_, ?_⟩
    · rw [hk (44 + 11 * j) (by omega)]; exact q1
    · rw [hk (46 + 11 * j) (by omega)]; exact q2
    · rw [hk (47 + 11 * j) (by omega)]; exact q3
    · rw [hk (48 + 11 * j) (by omega)]; exact q4
    · rw [hk (44 + 11 * j) (by omega), hk (49 + 11 * j) (by omega)]
      rcases q5 with q | q | ⟨x, e, h1, h2, h3⟩
      · exact Or.inl q
      · exact Or.inr (Or.inl q)
      · exact Or.inr (Or.inr ⟨x, e, by omega, fun w => by have := h2 w; omega, h3⟩)
  · rw [hc (22 * t) (by omega), hk 1 (by omega), hk 2 (by omega), hk 3 (by omega), hk 4 (by omega)]; exact ⟨f2, f3, f4, f5⟩
  · have w := W j hj
    unfold CW at w ⊢
    rw [hc (22 * t + 15 + j) (by omega), hk (44 + 11 * j) (by omega), hk (45 + 11 * j) (by omega), hk (46 + 11 * j) (by omega), hk (47 + 11 * j) (by omega), hk (48 + 11 * j) (by omega), hk (49 + 11 * j) (by omega), hk (50 + 11 * j) (by omega), hk (51 + 11 * j) (by omega), hk (52 + 11 * j) (by omega), hk (53 + 11 * j) (by omega), hk (54 + 11 * j) (by omega)]
    exact w
  · rw [hc (22 * t + 15 + j) (by omega)]; exact hb j hj b h12 h4
  · rw [hc (22 * t + 14) (by omega), hon s hs, occ_cg (fun i hi => ?_)]
    show (k (49 + 11 * i)).toInt = (k' (49 + 11 * i)).toInt
    rw [hk (49 + 11 * i) (by omega)]
  · rw [hk (49 + 11 * j) (by omega), hk (51 + 11 * j) (by omega)]; exact hz j hj
theorem FrC_road (h : ∀ i, i < 22 * t + 1 ∨ 22 * t + 12 < i → σ' i = σ i) : FrC t σ σ' := ⟨fun i hi => h i (by omega), fun j hj => by rw [h _ (by omega)], by rw [h _ (by omega)], by rw [h _ (by omega)]⟩
theorem RT_vil (R : RT σ t k m len n) {p v : Nat} (hp : p < m) (hv : v ≤ 2) : RT (stm σ (22 * t + 4) p (nI v)) t (upd k (16 + 3 * p) (nI v)) m len n := by
  have V := RT_V R
  have h8 := RT_8 R
  have e : ∀ j, j ≠ 16 + 3 * p → upd k (16 + 3 * p) (nI v) j = k j := fun j hj => upd_ne _ _ hj
  have h1 : ∀ i, i ≠ 22 * t + 4 → stm σ (22 * t + 4) p (nI v) i = σ i := fun i hi => stm_ne _ _ _ hi
  have v3 : nI v = 0 ∨ nI v = 1 ∨ nI v = 2 := by
    have : v = 0 ∨ v = 1 ∨ v = 2 := by omega
    rcases this with rfl | rfl | rfl
    · exact Or.inl rfl
    · exact Or.inr (Or.inl rfl)
    · exact Or.inr (Or.inr rfl)
  refine RT_road R ?_ ?_ (fun i hi => h1 i (by omega)) (fun j hj => e j (by omega)) (Nat.le_refl _)
  · obtain ⟨⟨v1, v2⟩, v3', v4, v5, v6, v7⟩ := V
    refine ⟨⟨(e 0 (by omega)).trans v1, v2⟩, fun q hq => (e _ (by omega)).trans (v3' q hq), v4, fun q hq => ?_, fun q hq hq8 => ?_, fun w hw => ?_⟩
    · rw [e (15 + 3 * q) (by omega)]
      by_cases z : q = p
      · subst z; rw [upd_at]; exact ⟨(v5 q hq).1, v3⟩
      · rw [e (16 + 3 * q) (by omega)]; exact v5 q hq
    · rw [e (5 + q) (by omega)]; exact v6 q hq hq8
    · rw [e (38 + 2 * w) (by omega), e (39 + 2 * w) (by omega)]; exact v7 w hw
  · obtain ⟨d1, d2, d3, d4, d5, d6, d7, d8⟩ := RT_R R
    unfold RD
    rw [h1 (22 * t + 1) (by omega), h1 (22 * t + 2) (by omega), h1 (22 * t + 3) (by omega), h1 (22 * t + 5) (by omega), h1 (22 * t + 6) (by omega), h1 (22 * t + 7) (by omega), h1 (22 * t + 8) (by omega), h1 (22 * t + 9) (by omega), h1 (22 * t + 10) (by omega), h1 (22 * t + 11) (by omega), h1 (22 * t + 12) (by omega)]
    refine ⟨d1, d2, fun q hq => ?_, fun q hq hq2 => ?_, d5, d6, d7, fun w hw => ?_⟩
    · rw [stm_row, e (14 + 3 * q) (by omega), e (15 + 3 * q) (by omega)]
      by_cases z : q = p
      · subst z; rw [upd_at, upd_at]; exact ⟨(d3 q hq).1, (d3 q hq).2.1, rfl⟩
      · rw [upd_ne _ _ z, e (16 + 3 * q) (by omega)]; exact d3 q hq
    · rw [e (5 + q) (by omega)]; exact d4 q hq hq2
    · rw [e (38 + 2 * w) (by omega), e (39 + 2 * w) (by omega)]; exact d8 w hw
theorem RT_room (R : RT σ t k m len n) {p r : Nat} (hp : 1 ≤ p) (hpm : p < m) (hr : r ≤ 4) : RT (stm σ (22 * t + 5) p (nI r)) t (upd k (5 + p) (nI r)) m len n := by
  have V := RT_V R
  have h8 := RT_8 R
  have e : ∀ j, j ≠ 5 + p → upd k (5 + p) (nI r) j = k j := fun j hj => upd_ne _ _ hj
  have h1 : ∀ i, i ≠ 22 * t + 5 → stm σ (22 * t + 5) p (nI r) i = σ i := fun i hi => stm_ne _ _ _ hi
  refine RT_road R ?_ ?_ (fun i hi => h1 i (by omega)) (fun j hj => e j (by omega)) (Nat.le_refl _)
  · obtain ⟨⟨v1, v2⟩, v3, v4, v5, v6, v7⟩ := V
    refine ⟨⟨(e 0 (by omega)).trans v1, v2⟩, fun q hq => (e _ (by omega)).trans (v3 q hq), v4, fun q hq => ?_, fun q hq hq8 => ?_, fun v hv => ?_⟩
    · rw [e (15 + 3 * q) (by omega), e (16 + 3 * q) (by omega)]; exact v5 q hq
    · by_cases w : q = p
      · subst w
        rw [upd_at, nI_toInt (by omega)]
        exact ⟨by omega, fun h => absurd h (by omega)⟩
      · rw [e (5 + q) (by omega)]; exact v6 q hq hq8
    · rw [e (38 + 2 * v) (by omega), e (39 + 2 * v) (by omega)]; exact v7 v hv
  · obtain ⟨d1, d2, d3, d4, d5, d6, d7, d8⟩ := RT_R R
    unfold RD
    rw [h1 (22 * t + 1) (by omega), h1 (22 * t + 2) (by omega), h1 (22 * t + 3) (by omega), h1 (22 * t + 4) (by omega), h1 (22 * t + 6) (by omega), h1 (22 * t + 7) (by omega), h1 (22 * t + 8) (by omega), h1 (22 * t + 9) (by omega), h1 (22 * t + 10) (by omega), h1 (22 * t + 11) (by omega), h1 (22 * t + 12) (by omega)]
    refine ⟨d1, d2, fun q hq => ?_, fun q hq hq2 => ?_, d5, d6, d7, fun w hw => ?_⟩
    · rw [e (14 + 3 * q) (by omega), e (15 + 3 * q) (by omega), e (16 + 3 * q) (by omega)]; exact d3 q hq
    · rw [stm_row]
      by_cases w : q = p
      · subst w; rw [upd_at, upd_at]
      · rw [upd_ne _ _ w, e (5 + q) (by omega)]; exact d4 q hq hq2
    · rw [e (38 + 2 * w) (by omega), e (39 + 2 * w) (by omega)]; exact d8 w hw
/-- a piece more: the class's arrays after i of its spots -/
def PI (σ0 σ : Mem) (t m E i s : Nat) : Prop := (∀ r, r < 22 * t + 7 ∨ 22 * t + 10 < r → σ r = σ0 r) ∧ ∀ x, (x < E ∨ E + i ≤ x → σ (22 * t + 7) x = σ0 (22 * t + 7) x ∧ σ (22 * t + 8) x = σ0 (22 * t + 8) x ∧ σ (22 * t + 9) x = σ0 (22 * t + 9) x ∧ σ (22 * t + 10) x = σ0 (22 * t + 10) x) ∧ (E ≤ x → x < E + i → σ (22 * t + 7) x = (if x = E then nI m else -1) ∧ σ (22 * t + 8) x = nI m ∧ σ (22 * t + 9) x = nI (x - E) ∧ σ (22 * t + 10) x = (if x = E then 0 else nI (s - (x - E))))
theorem piece_l {x2 : Int32} {σ0 : Mem} {E s : Nat} (h0 : σ0 (22 * t + 1) 0 = nI m) (h1 : σ0 (22 * t + 1) 1 = nI E) (hE : E ≤ 63) (hs : s ≤ 9) (hs2 : 2 ≤ s) (hm : m < 8) : ∀ (e i nn : Nat) (σ : Mem), i + e = s → e < nn → PI σ0 σ t m E i s → ∃ σ', F_X4_addPiece_77 t (nI s) x2 nn σ (nI i) = some (σ', 1) ∧ (∀ r, r < 22 * t + 1 ∨ (22 * t + 1 < r ∧ r < 22 * t + 6) ∨ 22 * t + 10 < r → σ' r = σ0 r) ∧ (σ' (22 * t + 1) 0 = nI (m + 1) ∧ σ' (22 * t + 1) 1 = nI (E + s)) ∧ (σ' (22 * t + 6) = upd (σ0 (22 * t + 6)) (m + 1) (nI (E + s))) ∧ (∀ x, x < E → σ' (22 * t + 7) x = σ0 (22 * t + 7) x ∧ σ' (22 * t + 8) x = σ0 (22 * t + 8) x ∧ σ' (22 * t + 9) x = σ0 (22 * t + 9) x ∧ σ' (22 * t + 10) x = σ0 (22 * t + 10) x) ∧ (∀ x, E ≤ x → x < E + s → σ' (22 * t + 7) x = (if x = E then nI m else -1) ∧ σ' (22 * t + 8) x = nI m ∧ σ' (22 * t + 9) x = nI (x - E) ∧ σ' (22 * t + 10) x = (if x = E then 0 else nI (s - (x - E)))) ∧ (σ' (22 * t + 7) (E + s) = nI (m + 1) ∧ σ' (22 * t + 9) (E + s) = 0 ∧ σ' (22 * t + 10) (E + s) = 0) := by
  intro e
  induction e with
  | zero =>
    intro i nn σ e1 e2 H
    obtain rfl : i = s := by omega
    obtain ⟨nn, rfl⟩ : ∃ j, nn = j + 1 := ⟨nn - 1, by omega⟩
    obtain ⟨H1, H2⟩ := H
    have a0 : σ (22 * t + 1) 0 = nI m := by rw [H1 _ (by omega)]; exact h0
    have a1 : σ (22 * t + 1) 1 = nI E := by rw [H1 _ (by omega)]; exact h1
    have b1 : stm σ (22 * t + 1) 0 (nI m + 1) (22 * t + 1) 1 = nI E := by rw [stm_row, upd_ne _ _ (by omega)]; exact a1
    have mn : (if 72 < (nI E + nI i) then 72 else (nI E + nI i)) = nI (E + i) := by
      rw [nI_add, if_neg (show ¬ (72 : Int32) < nI (E + i) from nI_nlt (a := 72) (b := E + i) (by omega) (by decide))]
    rw [F_X4_addPiece_77, if_pos (nI_le (Nat.le_refl _) (by omega))]
    simp only [lm_e]
    rw [a0, b1, mn]
    have s1 : stm (stm σ (22 * t + 1) 0 (nI m + 1)) (22 * t + 1) 1 (nI (E + i)) (22 * t + 1) = upd (upd (σ (22 * t + 1)) 0 (nI (m + 1))) 1 (nI (E + i)) := by rw [stm_row, stm_row, nI_1]
    have c0 : stm (stm σ (22 * t + 1) 0 (nI m + 1)) (22 * t + 1) 1 (nI (E + i)) (22 * t + 1) 0 = nI (m + 1) := by rw [s1, upd_ne _ _ (by omega), upd_at]
    have c1 : stm (stm σ (22 * t + 1) 0 (nI m + 1)) (22 * t + 1) 1 (nI (E + i)) (22 * t + 1) 1 = nI (E + i) := by rw [s1, upd_at]
    have g : ∀ (τ : Mem) (r j : Nat) (v : Int32), r ≠ 22 * t + 1 → stm τ r j v (22 * t + 1) = τ (22 * t + 1) := fun τ r j v hr => stm_ne _ _ _ (fun q => hr q.symm)
    rw [c0, ix_nI (show m + 1 < 9 by omega) (by decide), Option.bind_some, c1, g _ _ _ _ (by omega), c1, ix_nI (show E + i < 73 by omega) (by decide), Option.bind_some, c0, g _ _ _ _ (by omega), g _ _ _ _ (by omega), c1, ix_nI (show E + i < 73 by omega) (by decide), Option.bind_some, g _ _ _ _ (by omega), g _ _ _ _ (by omega), g _ _ _ _ (by omega), c1, ix_nI (show E + i < 73 by omega) (by decide), Option.bind_some]
    refine ⟨_, rfl, fun r hr => ?_, ⟨?_, ?_⟩, ?_, fun x hx => ?_, fun x hx hx2 => ?_, ?_, ?_, ?_⟩
    · simp (disch := omega) only [stm_ne]
      exact H1 r (by omega)
    · simp (disch := omega) only [stm_ne]; exact c0
    · simp (disch := omega) only [stm_ne]; exact c1
    · simp (disch := omega) only [stm_ne, stm_row]
      rw [H1 _ (by omega)]
    · have q := (H2 x).1 (by omega)
      simp (disch := omega) only [stm_ne, stm_row, upd_ne]
      exact q
    · have q := (H2 x).2 hx hx2
      simp (disch := omega) only [stm_ne, stm_row, upd_ne]
      exact q
    · simp (disch := omega) only [stm_ne, stm_row, upd_at]
    · simp (disch := omega) only [stm_ne, stm_row, upd_at]
    · simp (disch := omega) only [stm_row, upd_at]
  | succ e ih =>
    intro i nn σ e1 e2 H
    obtain ⟨nn, rfl⟩ : ∃ j, nn = j + 1 := ⟨nn - 1, by omega⟩
    have HH := H
    obtain ⟨H1, H2⟩ := H
    have a0 : σ (22 * t + 1) 0 = nI m := by rw [H1 _ (by omega)]; exact h0
    have a1 : σ (22 * t + 1) 1 = nI E := by rw [H1 _ (by omega)]; exact h1
    have g : ∀ (τ : Mem) (r j : Nat) (v : Int32), r ≠ 22 * t + 1 → stm τ r j v (22 * t + 1) = τ (22 * t + 1) := fun τ r j v hr => stm_ne _ _ _ (fun q => hr q.symm)
    have key : ∀ (v7 v10 : Int32), v7 = (if i = 0 then nI m else -1) → v10 = (if i = 0 then 0 else nI (s - i)) → PI σ0 (stm (stm (stm (stm σ (22 * t + 7) (E + i) v7) (22 * t + 8) (E + i) (nI m)) (22 * t + 9) (E + i) (nI i)) (22 * t + 10) (E + i) v10) t m E (i + 1) s := by
      intro v7 v10 e7 e10
      refine ⟨fun r hr => by simp (disch := omega) only [stm_ne]; exact H1 r hr, fun x => ⟨fun hx => ?_, fun hx hx2 => ?_⟩⟩
      · simp (disch := omega) only [stm_ne, stm_row, upd_ne]
        exact (H2 x).1 (by omega)
      · by_cases q : x = E + i
        · subst q
          simp (disch := omega) only [stm_ne, stm_row, upd_at]
          refine ⟨?_, trivial, by rw [show E + i - E = i by omega], ?_⟩
          · rw [e7]
            by_cases i0 : i = 0
            · rw [if_pos i0, if_pos (by omega)]
            · rw [if_neg i0, if_neg (by omega)]
          · rw [e10, show E + i - E = i by omega]
            by_cases i0 : i = 0
            · rw [if_pos i0, if_pos (by omega)]
            · rw [if_neg i0, if_neg (by omega)]
        · simp (disch := omega) only [stm_ne, stm_row, upd_ne]
          exact (H2 x).2 hx (by omega)
    rw [F_X4_addPiece_77, if_neg (nI_ge (by omega) (by omega)), a1, nI_add, if_neg (show ¬ (73 : Int32) ≤ nI (E + i) from nI_ge (a := E + i) (b := 73) (by omega) (by decide)), a0, ix_nI (show E + i < 73 by omega) (by decide)]
    simp only [obs, lm_e]
    by_cases i0 : i = 0
    · subst i0
      rw [if_pos (show nI 0 = 0 from rfl)]
      simp only [Nat.add_zero]
      rw [g _ _ _ _ (by omega), a1, a0, nI_add, Nat.add_zero, ix_nI (show E < 73 by omega) (by decide), Option.bind_some, g _ _ _ _ (by omega), g _ _ _ _ (by omega), a1, nI_add, Nat.add_zero, ix_nI (show E < 73 by omega) (by decide), Option.bind_some, if_pos (show nI 0 = 0 from rfl), g _ _ _ _ (by omega), g _ _ _ _ (by omega), g _ _ _ _ (by omega), a1, nI_add, Nat.add_zero, ix_nI (show E < 73 by omega) (by decide), Option.bind_some, nI_1]
      exact ih 1 nn _ (by omega) (by omega) (key (nI m) 0 rfl rfl)
    · have i0' : ¬ nI i = 0 := nI_ne0 (by omega) (by omega)
      rw [if_neg i0', g _ _ _ _ (by omega), a1, a0, nI_add, ix_nI (show E + i < 73 by omega) (by decide), Option.bind_some, g _ _ _ _ (by omega), g _ _ _ _ (by omega), a1, nI_add, ix_nI (show E + i < 73 by omega) (by decide), Option.bind_some, if_neg i0', g _ _ _ _ (by omega), g _ _ _ _ (by omega), g _ _ _ _ (by omega), a1, nI_add, ix_nI (show E + i < 73 by omega) (by decide), Option.bind_some, nI_1, nI_sub (by omega)]
      exact ih (i + 1) nn _ (by omega) (by omega) (key (-1) (nI (s - i)) (by rw [if_neg i0]) (by rw [if_neg i0]))
theorem PS_cg {l l' : Nat → Nat} {q : Nat} (h : ∀ p, p < q → l' p = l p) : PS l' q = PS l q := by
  induction q with
  | zero => rfl
  | succ q ih =>
    rw [PS_s, PS_s, ih (fun p hp => h p (by omega)), h q (by omega)]
/-- a piece more, both sides -/
theorem piece_p (R : RT σ t k m len n) {s h : Nat} (hs : 2 ≤ s) (hs9 : s ≤ 9) (hh : h ≤ 2) (hm : m < 8) : ∃ σ', F_X4_addPiece σ t (nI s) (nI h) = some (σ', 1) ∧ FrC t σ σ' ∧ RT σ' t (upd (upd (upd (upd k (14 + 3 * m) (nI s)) (15 + 3 * m) (nI h)) (16 + 3 * m) 0) 0 (nI (m + 1))) (m + 1) (fun p => if p = m then s else len p) n := by
  have V := RT_V R
  obtain ⟨d1, d2, d3, d4, d5, d6, d7, d8⟩ := RT_R R
  have hE : PS len m ≤ 63 := by have := PS_le (VS_b V) (Nat.le_refl m); omega
  have lenE : ∀ q, q ≤ m → PS (fun p => if p = m then s else len p) q = PS len q := fun q hq => PS_cg (fun p hp => by rw [if_neg (by omega)])
  have lenE1 : PS (fun p => if p = m then s else len p) (m + 1) = PS len m + s := by rw [PS_s, lenE m (Nat.le_refl _), if_pos rfl]
  have h3 : nI h = 0 ∨ nI h = 1 ∨ nI h = 2 := by
    have : h = 0 ∨ h = 1 ∨ h = 2 := by omega
    rcases this with rfl | rfl | rfl
    · exact Or.inl rfl
    · exact Or.inr (Or.inl rfl)
    · exact Or.inr (Or.inr rfl)
  -- the class
  have g : ∀ (τ : Mem) (r j : Nat) (v : Int32), r ≠ 22 * t + 1 → stm τ r j v (22 * t + 1) = τ (22 * t + 1) := fun τ r j v hr => stm_ne _ _ _ (fun q => hr q.symm)
  obtain ⟨σ', a1, a2, ⟨a3, a3'⟩, a4, a5, a6, a7, a8, a9⟩ := piece_l (x2 := nI h) (σ0 := stm (stm (stm (stm σ (22 * t + 2) m (nI s)) (22 * t + 3) m (nI h)) (22 * t + 4) m 0) (22 * t + 5) (m + 1) 1) (t := t) (m := m) (E := PS len m) (s := s) (by simp (disch := omega) only [stm_ne]; exact d1) (by simp (disch := omega) only [stm_ne]; exact d2) hE hs9 hs hm s 0 FU _ (by omega) (Nat.lt_of_le_of_lt hs9 (by decide)) ⟨fun _ _ => rfl, fun x => ⟨fun _ => ⟨rfl, rfl, rfl, rfl⟩, fun h1 h2 => absurd h2 (by omega)⟩⟩
  have a1' : F_X4_addPiece_77 t (nI s) (nI h) FU (stm (stm (stm (stm σ (22 * t + 2) m (nI s)) (22 * t + 3) m (nI h)) (22 * t + 4) m 0) (22 * t + 5) (m + 1) 1) 0 = some (σ', 1) := a1
  have o : ∀ r, r < 22 * t + 1 ∨ 22 * t + 10 < r → σ' r = σ r := fun r hr => by
    rw [a2 r (by omega)]
    simp (disch := omega) only [stm_ne]
  have x7 : ∀ x, stm (stm (stm (stm σ (22 * t + 2) m (nI s)) (22 * t + 3) m (nI h)) (22 * t + 4) m 0) (22 * t + 5) (m + 1) 1 (22 * t + 7) x = σ (22 * t + 7) x := fun x => by simp (disch := omega) only [stm_ne]
  have x8 : ∀ x, stm (stm (stm (stm σ (22 * t + 2) m (nI s)) (22 * t + 3) m (nI h)) (22 * t + 4) m 0) (22 * t + 5) (m + 1) 1 (22 * t + 8) x = σ (22 * t + 8) x := fun x => by simp (disch := omega) only [stm_ne]
  have x9 : ∀ x, stm (stm (stm (stm σ (22 * t + 2) m (nI s)) (22 * t + 3) m (nI h)) (22 * t + 4) m 0) (22 * t + 5) (m + 1) 1 (22 * t + 9) x = σ (22 * t + 9) x := fun x => by simp (disch := omega) only [stm_ne]
  have x10 : ∀ x, stm (stm (stm (stm σ (22 * t + 2) m (nI s)) (22 * t + 3) m (nI h)) (22 * t + 4) m 0) (22 * t + 5) (m + 1) 1 (22 * t + 10) x = σ (22 * t + 10) x := fun x => by simp (disch := omega) only [stm_ne]
  have r2 : σ' (22 * t + 2) = upd (σ (22 * t + 2)) m (nI s) := by rw [a2 _ (by omega)]; simp (disch := omega) only [stm_ne, stm_row]
  have r3 : σ' (22 * t + 3) = upd (σ (22 * t + 3)) m (nI h) := by rw [a2 _ (by omega)]; simp (disch := omega) only [stm_ne, stm_row]
  have r4 : σ' (22 * t + 4) = upd (σ (22 * t + 4)) m 0 := by rw [a2 _ (by omega)]; simp (disch := omega) only [stm_ne, stm_row]
  have r5 : σ' (22 * t + 5) = upd (σ (22 * t + 5)) (m + 1) 1 := by rw [a2 _ (by omega)]; simp (disch := omega) only [stm_ne, stm_row]
  have r6 : σ' (22 * t + 6) = upd (σ (22 * t + 6)) (m + 1) (nI (PS len m + s)) := by rw [a4]; simp (disch := omega) only [stm_ne]
  have ke : ∀ j, j ≠ 0 → j ≠ 14 + 3 * m → j ≠ 15 + 3 * m → j ≠ 16 + 3 * m → upd (upd (upd (upd k (14 + 3 * m) (nI s)) (15 + 3 * m) (nI h)) (16 + 3 * m) 0) 0 (nI (m + 1)) j = k j := fun j h1 h2 h3 h4 => by rw [upd_ne _ _ h1, upd_ne _ _ h4, upd_ne _ _ h3, upd_ne _ _ h2]
  have k0 : upd (upd (upd (upd k (14 + 3 * m) (nI s)) (15 + 3 * m) (nI h)) (16 + 3 * m) 0) 0 (nI (m + 1)) 0 = nI (m + 1) := upd_at _ _ _
  have k14 : upd (upd (upd (upd k (14 + 3 * m) (nI s)) (15 + 3 * m) (nI h)) (16 + 3 * m) 0) 0 (nI (m + 1)) (14 + 3 * m) = nI s := by simp (disch := omega) only [upd_ne, upd_at]
  have k15 : upd (upd (upd (upd k (14 + 3 * m) (nI s)) (15 + 3 * m) (nI h)) (16 + 3 * m) 0) 0 (nI (m + 1)) (15 + 3 * m) = nI h := by simp (disch := omega) only [upd_ne, upd_at]
  have k16 : upd (upd (upd (upd k (14 + 3 * m) (nI s)) (15 + 3 * m) (nI h)) (16 + 3 * m) 0) 0 (nI (m + 1)) (16 + 3 * m) = 0 := by simp (disch := omega) only [upd_ne, upd_at]
  refine ⟨σ', ?_, FrC_road (fun i hi => o i (by omega)), ?_⟩
  · unfold F_X4_addPiece
    rw [d1, if_neg (show ¬ (8 : Int32) ≤ nI m from nI_ge (a := m) (b := 8) hm (by decide)), if_neg (show ¬ nI s < (2 : Int32) from nI_nlt (a := s) (b := 2) hs (by omega)), if_pos (show nI s ≤ (9 : Int32) from nI_le (a := s) (b := 9) hs9 (by decide)), if_neg (nI_pos (by omega)), if_pos (show nI h ≤ (2 : Int32) from nI_le (a := h) (b := 2) hh (by decide))]
    simp only [lm_e]
    rw [ix_nI hm (by decide), Option.bind_some, g _ _ _ _ (by omega), d1, ix_nI hm (by decide), Option.bind_some, g _ _ _ _ (by omega), g _ _ _ _ (by omega), d1, ix_nI hm (by decide), Option.bind_some, g _ _ _ _ (by omega), g _ _ _ _ (by omega), g _ _ _ _ (by omega), d1, nI_1, ix_nI (show m + 1 < 9 by omega) (by decide), Option.bind_some, a1']
  · refine RT_road R ?_ ?_ (fun i hi => o i (by omega)) (fun j hj => ke j (by omega) (by omega) (by omega) (by omega)) (by rw [lenE1]; omega)
    · obtain ⟨⟨v1, v2⟩, v3, v4, v5, v6, v7⟩ := V
      refine ⟨⟨k0, by omega⟩, fun p hp => ?_, fun p hp => ?_, fun p hp => ?_, fun p hp hp8 => ?_, fun v hv => ?_⟩
      · dsimp only
        by_cases q : p = m
        · subst q; rw [k14, if_pos rfl]
        · rw [ke _ (by omega) (by omega) (by omega) (by omega), if_neg q]; exact v3 p (by omega)
      · dsimp only
        by_cases q : p = m
        · rw [if_pos q]; omega
        · rw [if_neg q]; exact v4 p (by omega)
      · by_cases q : p = m
        · subst q; rw [k15, k16]; exact ⟨h3, Or.inl rfl⟩
        · rw [ke (15 + 3 * p) (by omega) (by omega) (by omega) (by omega), ke (16 + 3 * p) (by omega) (by omega) (by omega) (by omega)]; exact v5 p (by omega)
      · rw [ke (5 + p) (by omega) (by omega) (by omega) (by omega)]
        exact ⟨(v6 p hp hp8).1, fun w => (v6 p hp hp8).2 (by omega)⟩
      · rw [ke (38 + 2 * v) (by omega) (by omega) (by omega) (by omega), ke (39 + 2 * v) (by omega) (by omega) (by omega) (by omega)]; exact v7 v hv
    · refine ⟨a3, by rw [lenE1]; exact a3', fun p hp => ?_, fun p hp hp2 => ?_, fun p hp => ?_, fun p x hp hx hx2 => ?_, fun p x hp hx hx2 => ?_, fun v hv => ?_⟩
      · rw [r2, r3, r4]
        by_cases q : p = m
        · subst q; rw [upd_at, upd_at, upd_at, k14, k15, k16]; exact ⟨rfl, rfl, rfl⟩
        · rw [upd_ne _ _ q, upd_ne _ _ q, upd_ne _ _ q, ke (14 + 3 * p) (by omega) (by omega) (by omega) (by omega), ke (15 + 3 * p) (by omega) (by omega) (by omega) (by omega), ke (16 + 3 * p) (by omega) (by omega) (by omega) (by omega)]; exact d3 p (by omega)
      · rw [r5, ke (5 + p) (by omega) (by omega) (by omega) (by omega)]
        by_cases q : p = m + 1
        · subst q; rw [upd_at]; exact ((V.2.2.2.2.1 (m + 1) (by omega) (by omega)).2 (by omega)).symm
        · rw [upd_ne _ _ q]; exact d4 p hp (by omega)
      · rw [r6]
        by_cases q : p = m + 1
        · subst q
          rw [upd_at, lenE1]
          exact ⟨rfl, a7, a8, a9⟩
        · have hp' : p ≤ m := by omega
          have d := d5 p hp'
          rw [upd_ne _ _ q, lenE p hp']
          by_cases w : p = m
          · subst w
            have y := a6 (PS len p) (Nat.le_refl _) (by omega)
            rw [y.1, y.2.2.1, y.2.2.2, if_pos rfl, if_pos rfl, Nat.sub_self]
            exact ⟨d.1, rfl, rfl, rfl⟩
          · have lt := PS_lt (VS_b V) (show p < m by omega) (Nat.le_refl m)
            have y := a5 (PS len p) (by omega)
            rw [y.1, y.2.2.1, y.2.2.2, x7, x9, x10]
            exact d
      · by_cases w : p = m
        · subst w
          rw [lenE p (Nat.le_refl _)] at hx
          rw [lenE1] at hx2
          rw [lenE p (Nat.le_refl _), lenE1]
          have y := a6 x (by omega) (by omega)
          rw [y.1, y.2.2.1, y.2.2.2, if_neg (by omega), if_neg (by omega), show s - (x - PS len p) = PS len p + s - x by omega]
          exact ⟨rfl, rfl, rfl⟩
        · have hp' : p + 1 ≤ m := by omega
          rw [lenE p (by omega)] at hx
          rw [lenE (p + 1) hp'] at hx2
          rw [lenE p (by omega), lenE (p + 1) hp']
          have mo : PS len (p + 1) ≤ PS len m := PS_mono hp'
          have y := a5 x (by omega)
          rw [y.1, y.2.2.1, y.2.2.2, x7, x9, x10]
          exact d6 p x (by omega) hx hx2
      · by_cases w : p = m
        · subst w
          rw [lenE p (Nat.le_refl _)] at hx
          rw [lenE1] at hx2
          exact (a6 x hx hx2).2.1
        · have hp' : p + 1 ≤ m := by omega
          rw [lenE p (by omega)] at hx
          rw [lenE (p + 1) hp'] at hx2
          have mo : PS len (p + 1) ≤ PS len m := PS_mono hp'
          rw [(a5 x (by omega)).2.1, x8]
          exact d7 p x (by omega) hx hx2
      · rw [o (22 * t + 11) (by omega), o (22 * t + 12) (by omega), ke (38 + 2 * v) (by omega) (by omega) (by omega) (by omega), ke (39 + 2 * v) (by omega) (by omega) (by omega) (by omega)]; exact d8 v hv
end OQ
