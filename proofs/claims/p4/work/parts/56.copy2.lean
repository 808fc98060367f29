/-! copies of a traffic, beginning anew, the runs in mind: start-/
theorem rcpy_at (σ : Mem) {d s n b : Nat} (h : b < n) : rcpy σ d s n d b = σ s b := by simp [rcpy, h]
section CP
variable {σ ρ : Mem} {t u a m n : Nat} {k k' : Nat → Int32} {len : Nat → Nat}
theorem tcpy_1 (h : u ≠ t) {b : Nat} (hb : b < 2) : tcpy σ t u (22 * t + 1) b = σ (22 * u + 1) b := by
  simp only [tcpy, rdcpy]
  simp (disch := omega) only [rcpy_ne, stm_ne, ccpyK_ne, stm_row]
  have : b = 0 ∨ b = 1 := by omega
  rcases this with rfl | rfl
  · simp (disch := omega) only [upd_at, upd_ne]
  · simp (disch := omega) only [upd_at]
theorem tcpy_2 (h : u ≠ t) {b : Nat} (hb : b < 8) : tcpy σ t u (22 * t + 2) b = σ (22 * u + 2) b := by
  simp only [tcpy, rdcpy]
  simp (disch := omega) only [rcpy_ne, stm_ne, ccpyK_ne, rcpy_at]
theorem tcpy_3 (h : u ≠ t) {b : Nat} (hb : b < 8) : tcpy σ t u (22 * t + 3) b = σ (22 * u + 3) b := by
  simp only [tcpy, rdcpy]
  simp (disch := omega) only [rcpy_ne, stm_ne, ccpyK_ne, rcpy_at]
theorem tcpy_4 (h : u ≠ t) {b : Nat} (hb : b < 8) : tcpy σ t u (22 * t + 4) b = σ (22 * u + 4) b := by
  simp only [tcpy, rdcpy]
  simp (disch := omega) only [rcpy_ne, stm_ne, ccpyK_ne, rcpy_at]
theorem tcpy_5 (h : u ≠ t) {b : Nat} (hb : b < 9) : tcpy σ t u (22 * t + 5) b = σ (22 * u + 5) b := by
  simp only [tcpy, rdcpy]
  simp (disch := omega) only [rcpy_ne, stm_ne, ccpyK_ne, rcpy_at]
theorem tcpy_6 (h : u ≠ t) {b : Nat} (hb : b < 9) : tcpy σ t u (22 * t + 6) b = σ (22 * u + 6) b := by
  simp only [tcpy, rdcpy]
  simp (disch := omega) only [rcpy_ne, stm_ne, ccpyK_ne, rcpy_at]
theorem tcpy_7 (h : u ≠ t) {b : Nat} (hb : b < 73) : tcpy σ t u (22 * t + 7) b = σ (22 * u + 7) b := by
  simp only [tcpy, rdcpy]
  simp (disch := omega) only [rcpy_ne, stm_ne, ccpyK_ne, rcpy_at]
theorem tcpy_8 (h : u ≠ t) {b : Nat} (hb : b < 73) : tcpy σ t u (22 * t + 8) b = σ (22 * u + 8) b := by
  simp only [tcpy, rdcpy]
  simp (disch := omega) only [rcpy_ne, stm_ne, ccpyK_ne, rcpy_at]
theorem tcpy_9 (h : u ≠ t) {b : Nat} (hb : b < 73) : tcpy σ t u (22 * t + 9) b = σ (22 * u + 9) b := by
  simp only [tcpy, rdcpy]
  simp (disch := omega) only [rcpy_ne, stm_ne, ccpyK_ne, rcpy_at]
theorem tcpy_10 (h : u ≠ t) {b : Nat} (hb : b < 73) : tcpy σ t u (22 * t + 10) b = σ (22 * u + 10) b := by
  simp only [tcpy, rdcpy]
  simp (disch := omega) only [rcpy_ne, stm_ne, ccpyK_ne, rcpy_at]
theorem tcpy_11 (h : u ≠ t) {b : Nat} (hb : b < 3) : tcpy σ t u (22 * t + 11) b = σ (22 * u + 11) b := by
  simp only [tcpy, rdcpy]
  simp (disch := omega) only [rcpy_ne, stm_ne, ccpyK_ne, rcpy_at]
theorem tcpy_12 (h : u ≠ t) {b : Nat} (hb : b < 3) : tcpy σ t u (22 * t + 12) b = σ (22 * u + 12) b := by
  simp only [tcpy, rdcpy]
  simp (disch := omega) only [rcpy_ne, stm_ne, ccpyK_ne, rcpy_at]
theorem tcpy_14 (h : u ≠ t) {b : Nat} (hb : b < 73) : tcpy σ t u (22 * t + 14) b = σ (22 * u + 14) b := by
  simp only [tcpy, rdcpy]
  simp (disch := omega) only [rcpy_ne, stm_ne, ccpyK_ne, rcpy_at]
theorem tcpy_0 (h : u ≠ t) : tcpy σ t u (22 * t) = upd (upd (upd (upd (σ (22 * t)) 2 (σ (22 * u) 2)) 3 (σ (22 * u) 3)) 4 (σ (22 * u) 4)) 5 (σ (22 * u) 5) := by
  simp only [tcpy]
  rw [rcpy_ne _ _ _ (by omega), stm_row, stm_row, stm_row, stm_row, ccpyK_ne _ (by omega), rdcpy_ne _ (by omega)]
theorem tcpy_c (h : u ≠ t) {j b : Nat} (hj : j < 7) (hb : b < 12) : tcpy σ t u (22 * t + 15 + j) b = σ (22 * u + 15 + j) b := by
  simp only [tcpy]
  rw [rcpy_ne _ _ _ (by omega), stm_ne _ _ _ (by omega), stm_ne _ _ _ (by omega), stm_ne _ _ _ (by omega), stm_ne _ _ _ (by omega)]
  have e1 : 22 * t + 15 ≤ 22 * t + 15 + j ∧ 22 * t + 15 + j < 22 * t + 15 + 7 := by omega
  have e2 : 22 * t + 15 + j - 22 * t + 22 * u = 22 * u + 15 + j := by omega
  simp only [ccpyK, if_pos e1, if_pos hb, e2]
  rw [rdcpy_ne _ (by omega)]
/-- the copy holds what the first held -/
theorem RD_cpy (V : VS k m len) (D : RD σ u k m len) (h : u ≠ t) : RD (tcpy σ t u) t k m len := by
  have h8 := VS_8 V
  have h72 := fun p (hp : p ≤ m) => VS_72 V hp
  obtain ⟨d1, d2, d3, d4, d5, d6, d7, d8⟩ := D
  refine ⟨?_, ?_, fun p hp => ?_, fun p hp hp2 => ?_, fun p hp => ?_, fun p x hp hx hx2 => ?_, fun p x hp hx hx2 => ?_, fun v hv => ?_⟩
  · rw [tcpy_1 h (by omega)]; exact d1
  · rw [tcpy_1 h (by omega)]; exact d2
  · rw [tcpy_2 h (by omega), tcpy_3 h (by omega), tcpy_4 h (by omega)]; exact d3 p hp
  · rw [tcpy_5 h (by omega)]; exact d4 p hp hp2
  · have := h72 p hp
    rw [tcpy_6 h (by omega), tcpy_7 h (by omega), tcpy_9 h (by omega), tcpy_10 h (by omega)]; exact d5 p hp
  · have := h72 (p + 1) (by omega)
    rw [tcpy_7 h (by omega), tcpy_9 h (by omega), tcpy_10 h (by omega)]; exact d6 p x hp hx hx2
  · have := h72 (p + 1) (by omega)
    rw [tcpy_8 h (by omega)]; exact d7 p x hp hx hx2
  · rw [tcpy_11 h (by omega), tcpy_12 h (by omega)]; exact d8 v hv
theorem RT_cpy (R : RT σ u k m len n) (h : u ≠ t) : RT (tcpy σ t u) t k m len n := by
  have h7 := RT_7 R
  obtain ⟨V, hn, hM, K, D, ⟨f2, f3, f4, f5⟩, W, hb, hon, hz⟩ := R
  have e := tcpy_0 (σ := σ) h
  refine ⟨V, hn, hM, K, RD_cpy V D h, ⟨?_, ?_, ?_, ?_⟩, fun c hc => ?_, fun j hj b hb12 hb4 => ?_, fun s hs => ?_, hz⟩
  · rw [e]; simp (disch := omega) only [upd_at, upd_ne]; exact f2
  · rw [e]; simp (disch := omega) only [upd_at, upd_ne]; exact f3
  · rw [e]; simp (disch := omega) only [upd_at, upd_ne]; exact f4
  · rw [e]; simp (disch := omega) only [upd_at, upd_ne]; exact f5
  · have w := W c hc
    unfold CW at w ⊢
    have ec : ∀ b, b < 12 → tcpy σ t u (22 * t + 15 + c) b = σ (22 * u + 15 + c) b := fun b hb => tcpy_c h (by omega) hb
    rw [ec 0 (by omega), ec 1 (by omega), ec 2 (by omega), ec 3 (by omega), ec 4 (by omega), ec 5 (by omega), ec 6 (by omega), ec 7 (by omega), ec 8 (by omega), ec 9 (by omega), ec 10 (by omega), ec 11 (by omega)]
    exact w
  · rw [tcpy_c h hj hb12]; exact hb j hj b hb12 hb4
  · rw [tcpy_14 h hs]; exact hon s hs
/-- what minutes leave alone: road and carts as told -/
def KOS (k : Nat → Int32) (c : Nat) : Prop := (k (44 + 11 * c) = 1 ∨ k (44 + 11 * c) = -1) ∧ (k (46 + 11 * c) = 0 ∨ k (46 + 11 * c) = 1) ∧ (∃ b : Nat, b ≤ 3 ∧ k (47 + 11 * c) = nI b) ∧ (∃ w : Nat, w ≤ 99 ∧ k (48 + 11 * c) = nI w)
def CWS (r k : Nat → Int32) (c : Nat) : Prop := (k (44 + 11 * c) = 1 ∧ r 0 = 1 ∨ k (44 + 11 * c) = -1 ∧ r 0 = 0) ∧ (r 1 = k (46 + 11 * c) ∧ r 2 = k (45 + 11 * c) ∧ r 3 = k (47 + 11 * c) ∧ r 4 = k (48 + 11 * c) ∧ r 5 = k (54 + 11 * c))
def RTS (σ : Mem) (t : Nat) (k : Nat → Int32) (m : Nat) (len : Nat → Nat) (n : Nat) : Prop := VS k m len ∧ (k 1 = nI n ∧ n ≤ 7) ∧ (∀ c, c < n → KOS k c) ∧ RD σ t k m len ∧ σ (22 * t) 2 = k 1 ∧ (∀ c, c < n → CWS (σ (22 * t + 15 + c)) k c) ∧ cb01 σ t
theorem RTS_of (R : RT σ t k m len n) : RTS σ t k m len n := by
  obtain ⟨V, hn, hM, K, D, ⟨f2, -, -, -⟩, W, hb, -, -⟩ := R
  exact ⟨V, hn, fun c hc => ⟨(K c hc).1, (K c hc).2.1, (K c hc).2.2.1, (K c hc).2.2.2.1⟩, D, f2, fun c hc => ⟨(W c hc).1, (W c hc).2.1⟩, hb⟩
theorem RTS_cg (S : RTS σ t k m len n) (h : K2 k k') : RTS σ t k' m len n := by
  obtain ⟨V, ⟨hn, h7⟩, K, D, f2, W, hb⟩ := S
  have h8 := V.1.2
  have e : ∀ j, st2 j → k' j = k j := h
  refine ⟨VS_cg V (fun j hj _ _ _ _ => e j (by unfold st2; omega)), ⟨(e 1 (by unfold st2; omega)).trans hn, h7⟩, fun c hc => ?_, ?_, f2.trans (e 1 (by unfold st2; omega)).symm, fun c hc => ?_, hb⟩
  · have q := K c hc
    unfold KOS at q ⊢
    rw [e (44 + 11 * c) (by unfold st2; omega), e (46 + 11 * c) (by unfold st2; omega), e (47 + 11 * c) (by unfold st2; omega), e (48 + 11 * c) (by unfold st2; omega)]
    exact q
  · obtain ⟨d1, d2, d3, d4, d5, d6, d7, d8⟩ := D
    refine ⟨d1, d2, fun p hp => ?_, fun p hp hp2 => ?_, d5, d6, d7, fun v hv => ?_⟩
    · rw [e (14 + 3 * p) (by unfold st2; omega), e (15 + 3 * p) (by unfold st2; omega), e (16 + 3 * p) (by unfold st2; omega)]; exact d3 p hp
    · rw [e (5 + p) (by unfold st2; omega)]; exact d4 p hp hp2
    · rw [e (38 + 2 * v) (by unfold st2; omega), e (39 + 2 * v) (by unfold st2; omega)]; exact d8 v hv
  · have q := W c hc
    unfold CWS at q ⊢
    rw [e (44 + 11 * c) (by unfold st2; omega), e (45 + 11 * c) (by unfold st2; omega), e (46 + 11 * c) (by unfold st2; omega), e (47 + 11 * c) (by unfold st2; omega), e (48 + 11 * c) (by unfold st2; omega), e (54 + 11 * c) (by unfold st2; omega)]
    exact q
/-- a row whose carts are all ahead, at minute 0 -/
def BG (k : Nat → Int32) (n : Nat) : Prop := (k 2 = 0 ∧ k 3 = 0 ∧ k 4 = 0) ∧ ∀ c, c < n → k (49 + 11 * c) = -2 ∧ k (50 + 11 * c) = 0 ∧ k (51 + 11 * c) = 0 ∧ k (52 + 11 * c) = 0 ∧ k (53 + 11 * c) = 0
theorem tbeg_r {i : Nat} (h1 : 1 ≤ i) (h2 : i ≤ 13) : tbeg σ t (22 * t + i) = σ (22 * t + i) := by
  simp only [tbeg]
  rw [stm_ne _ _ _ (by omega), stm_ne _ _ _ (by omega), stm_ne _ _ _ (by omega), rz_ne _ _ (by omega), tbegK_ne _ (by omega)]
theorem tbeg_0 : tbeg σ t (22 * t) = upd (upd (upd (σ (22 * t)) 3 0) 4 0) 5 0 := by
  simp only [tbeg]
  rw [stm_row, stm_row, stm_row, rz_ne _ _ (by omega), tbegK_ne _ (by omega)]
theorem tbeg_on {s : Nat} (h : s < 73) : tbeg σ t (22 * t + 14) s = 0 := by
  simp only [tbeg]
  rw [stm_ne _ _ _ (by omega), stm_ne _ _ _ (by omega), stm_ne _ _ _ (by omega)]
  simp only [rz, if_true, if_pos h]
theorem tbeg_c {j : Nat} (h : j < 7) : tbeg σ t (22 * t + 15 + j) = rbeg (σ (22 * t + 15 + j)) := by
  simp only [tbeg]
  rw [stm_ne _ _ _ (by omega), stm_ne _ _ _ (by omega), stm_ne _ _ _ (by omega), rz_ne _ _ (by omega)]
  have e1 : 22 * t + 15 ≤ 22 * t + 15 + j ∧ 22 * t + 15 + j < 22 * t + 15 + 7 := by omega
  simp only [tbegK, if_pos e1]
theorem rbeg_lo (r : Nat → Int32) {b : Nat} (h : b < 6) : rbeg r b = r b := by
  have h1 : ¬ b = 6 := by omega
  have h2 : ¬ (7 ≤ b ∧ b ≤ 11) := by omega
  simp only [rbeg, if_neg h1, if_neg h2]
theorem rbeg_hi (r : Nat → Int32) {b : Nat} (h : 7 ≤ b) (h' : b ≤ 11) : rbeg r b = 0 := by
  have h1 : ¬ b = 6 := by omega
  simp only [rbeg, if_neg h1, if_pos (show 7 ≤ b ∧ b ≤ 11 from ⟨h, h'⟩)]
theorem tbeg_p (S : RTS σ t k m len n) (B : BG k n) : RT (tbeg σ t) t k m len n := by
  obtain ⟨V, ⟨hn, h7⟩, K, D, f2, W, hb⟩ := S
  obtain ⟨⟨b2, b3, b4⟩, bc⟩ := B
  have e0 := tbeg_0 (σ := σ) (t := t)
  have r := fun i (h1 : 1 ≤ i) (h2 : i ≤ 13) => tbeg_r (σ := σ) (t := t) h1 h2
  refine ⟨V, ⟨hn, h7⟩, ⟨0, by omega, b2⟩, fun c hc => ⟨(K c hc).1, (K c hc).2.1, (K c hc).2.2.1, (K c hc).2.2.2, Or.inl (bc c hc).1⟩, ?_, ⟨?_, ?_, ?_, ?_⟩, fun c hc => ?_, fun j hj b hb12 hb4 => ?_, fun s hs => ?_, fun c hc _ => (bc c hc).2.2.1⟩
  · obtain ⟨d1, d2, d3, d4, d5, d6, d7, d8⟩ := D
    refine ⟨?_, ?_, fun p hp => ?_, fun p hp hp2 => ?_, fun p hp => ?_, fun p x hp hx hx2 => ?_, fun p x hp hx hx2 => ?_, fun v hv => ?_⟩
    · rw [r 1 (by omega) (by omega)]; exact d1
    · rw [r 1 (by omega) (by omega)]; exact d2
    · rw [r 2 (by omega) (by omega), r 3 (by omega) (by omega), r 4 (by omega) (by omega)]; exact d3 p hp
    · rw [r 5 (by omega) (by omega)]; exact d4 p hp hp2
    · rw [r 6 (by omega) (by omega), r 7 (by omega) (by omega), r 9 (by omega) (by omega), r 10 (by omega) (by omega)]; exact d5 p hp
    · rw [r 7 (by omega) (by omega), r 9 (by omega) (by omega), r 10 (by omega) (by omega)]; exact d6 p x hp hx hx2
    · rw [r 8 (by omega) (by omega)]; exact d7 p x hp hx hx2
    · rw [r 11 (by omega) (by omega), r 12 (by omega) (by omega)]; exact d8 v hv
  · rw [e0]; simp (disch := omega) only [upd_ne]; exact f2
  · rw [e0, b2]; simp (disch := omega) only [upd_at, upd_ne]
  · rw [e0, b3]; simp (disch := omega) only [upd_at, upd_ne]
  · rw [e0, b4]; simp (disch := omega) only [upd_at]
  · obtain ⟨w1, w2⟩ := W c hc
    obtain ⟨c1, c2, c3, c4, c5⟩ := bc c hc
    rw [tbeg_c (by omega)]
    unfold CW
    rw [rbeg_lo _ (show 0 < 6 by omega), rbeg_lo _ (show 1 < 6 by omega), rbeg_lo _ (show 2 < 6 by omega), rbeg_lo _ (show 3 < 6 by omega), rbeg_lo _ (show 4 < 6 by omega), rbeg_lo _ (show 5 < 6 by omega), rbeg_hi _ (b := 7) (by omega) (by omega), rbeg_hi _ (b := 9) (by omega) (by omega), rbeg_hi _ (b := 10) (by omega) (by omega), rbeg_hi _ (b := 11) (by omega) (by omega)]
    exact ⟨w1, w2, c1.symm, Or.inl ⟨c2, rfl⟩, Or.inr c3.symm, c4.symm, c5.symm⟩
  · rw [tbeg_c hj]
    rcases hb4 with rfl | rfl | rfl | rfl
    · rw [rbeg_lo _ (by omega)]; exact hb j hj 0 (by omega) (by omega)
    · rw [rbeg_lo _ (by omega)]; exact hb j hj 1 (by omega) (by omega)
    · rw [rbeg_hi _ (by omega) (by omega)]; exact Or.inl rfl
    · rw [rbeg_hi _ (by omega) (by omega)]; exact Or.inl rfl
  · have h0 : occ (spk k) s n = 0 := by
      rw [occ_0]
      intro i hi q
      have : (k (49 + 11 * i)).toInt = s := q
      rw [(bc i hi).1, show (-2 : Int32).toInt = -2 by decide] at this
      omega
    rw [tbeg_on hs, h0]; rfl
theorem FrC_tbeg : FrC t σ (tbeg σ t) := by
  refine ⟨fun i hi => tbeg_ne σ hi, fun j hj => ?_, ?_, ?_⟩
  · rw [tbeg_c hj, rbeg_lo _ (by omega)]
  · rw [tbeg_0]; simp (disch := omega) only [upd_ne]
  · rw [tbeg_0]; simp (disch := omega) only [upd_ne]
theorem WW_cg {σ' ρ' : Mem} (h8 : σ' (22 * t) 8 = σ (22 * t) 8) (h9 : σ' (22 * t) 9 = σ (22 * t) 9) (h10 : σ' (22 * t) 10 = σ (22 * t) 10) (hr : ρ' 91 = ρ 91) (W : WW σ ρ t) : WW σ' ρ' t := by
  unfold WW at W ⊢
  rw [h8, h9, h10, hr]; exact W
/-- a run in mind, both sides -/
theorem run_p (S : RTS σ 2 (ρ 94) m len n) (B : BG (ρ 94) n) (W : WW σ ρ 2) (hm : 0 < m) : ∃ σ' ρ' v, F_X7_costInMind σ = some (σ', v) ∧ F_X8_costs ρ = some (ρ', v) ∧ MST σ ρ σ' ρ' 2 94 m len n := by
  have R := tbeg_p S B
  have e0 := tbeg_0 (σ := σ) (t := 2)
  have W2 : WW (tbeg σ 2) ρ 2 := WW_cg (by rw [e0]; simp (disch := omega) only [upd_ne]) (by rw [e0]; simp (disch := omega) only [upd_ne]) (by rw [e0]; simp (disch := omega) only [upd_ne]) rfl W
  obtain ⟨σ', ρ', v, q1, q2, q3⟩ := costs_l 1000 FU FU 0 (tbeg σ 2) ρ R W2 hm ⟨0, by omega, Nat.le_refl _, B.1.1⟩ (by decide) (by decide)
  exact ⟨σ', ρ', v, q1, q2, q3.1, q3.2.1, FrC_tr FrC_tbeg q3.2.2.1, q3.2.2.2.1, q3.2.2.2.2⟩
end CP
