/-! runs in mind: what the calls share -/
def KX (P : Nat → Prop) (k k' : Nat → Int32) : Prop := ∀ j, st2 j → ¬ P j → k' j = k j
def P0 : Nat → Prop := fun _ => False
theorem KX_0 {k k' : Nat → Int32} : KX P0 k k' ↔ K2 k k' := ⟨fun h j hj => h j hj id, fun h j hj _ => h j hj⟩
theorem KX_s {P : Nat → Prop} {k k' : Nat → Int32} (h : KX P k k') : KX P k' k := fun j hj hp => (h j hj hp).symm
theorem KX_tr {P : Nat → Prop} {k k' k'' : Nat → Int32} (h : KX P k k') (h' : KX P k' k'') : KX P k k'' := fun j hj hp => (h' j hj hp).trans (h j hj hp)
theorem KX_w {P Q : Nat → Prop} {k k' : Nat → Int32} (h : KX P k k') (hw : ∀ j, P j → Q j) : KX Q k k' := fun j hj hp => h j hj (fun q => hp (hw j q))
theorem KX_of {P : Nat → Prop} {k k' : Nat → Int32} (h : K2 k k') : KX P k k' := fun j hj _ => h j hj
def MC (σ0 σ : Mem) : Prop := (∀ i, i < 44 ∨ 66 ≤ i → i ≠ 84 → σ i = σ0 i) ∧ σ 44 8 = -4 ∧ σ 44 9 = -4
def MR (ρ0 ρ : Mem) : Prop := (∀ i, i ≠ 94 → i ≠ 91 → ρ i = ρ0 i) ∧ ρ 91 10 = ρ0 91 10
section MD
variable {σ0 σ σ' ρ0 ρ ρ' : Mem} {t a m n : Nat} {k k' : Nat → Int32} {len : Nat → Nat}
theorem INV_mind (I : INV σ ρ) (hc : MC σ σ') (hr : MR ρ ρ') : INV σ' ρ' ∧ CF σ σ' ∧ RF ρ ρ' := by
  obtain ⟨⟨m, len, n, R⟩, L, ⟨⟨w1, w2⟩, w3, w4⟩, G, S⟩ := I
  have c := fun i (h : i < 44) => hc.1 i (Or.inl h) (by omega)
  refine ⟨⟨⟨m, len, n, ?_⟩, LZ_cc L (fun i _ h2 => c i (by omega)), ⟨⟨by rw [c 0 (by omega)]; exact w1, by rw [c 0 (by omega)]; exact w2⟩, hc.2⟩, IMG_cc G (fun i _ h2 => c i (by omega)) (hc.1 66 (by omega) (by omega)) (hr.1 93 (by omega) (by omega)) hr.2, SH_cc S (fun i h1 h2 => hc.1 i (by omega) (by omega)) (fun i h1 h2 => hr.1 i (by omega) (by omega))⟩, fun i hi => hc.1 i (by omega) (by omega), fun i hi => hr.1 i (by omega) (by omega)⟩
  rw [hr.1 92 (by omega) (by omega)]
  exact RT_cc R (fun i _ h2 => c i (by omega))
theorem MC_rf (W : WN σ) : MC σ σ := ⟨fun _ _ _ => rfl, W.2⟩
theorem MR_rf (ρ : Mem) : MR ρ ρ := ⟨fun _ _ _ => rfl, rfl⟩
theorem MC_tcpy (W : WN σ) : MC σ (tcpy σ 2 0) := by
  have e := tcpy_0 (σ := σ) (t := 2) (u := 0) (by omega)
  refine ⟨fun i hi _ => tcpy_ne σ (by omega), ?_, ?_⟩
  · show tcpy σ 2 0 (22 * 2) 8 = -4
    rw [e]; simp (disch := omega) only [upd_ne]; exact W.2.1
  · show tcpy σ 2 0 (22 * 2) 9 = -4
    rw [e]; simp (disch := omega) only [upd_ne]; exact W.2.2
theorem RTS_tcpy (R : RT σ 0 (ρ 92) m len n) : RTS (tcpy σ 2 0) 2 (ρ 92) m len n := RTS_of (RT_cpy R (by omega))
theorem MC_fr (h : MC σ0 σ) (f : FrC 2 σ σ') : MC σ0 σ' := ⟨fun i hi h84 => (f.1 i (by omega)).trans (h.1 i hi h84), f.2.2.1.trans h.2.1, f.2.2.2.trans h.2.2⟩
theorem MC_st (h : MC σ0 σ) {i j : Nat} {v : Int32} (hi : 44 ≤ i ∧ i < 66) (hj : i = 44 → j ≠ 8 ∧ j ≠ 9) : MC σ0 (stm σ i j v) := by
  refine ⟨fun q hq h84 => by rw [stm_ne _ _ _ (by omega)]; exact h.1 q hq h84, ?_, ?_⟩
  · by_cases e : 44 = i
    · subst e; rw [stm_row, upd_ne _ _ (by have := hj rfl; omega)]; exact h.2.1
    · rw [stm_ne _ _ _ e]; exact h.2.1
  · by_cases e : 44 = i
    · subst e; rw [stm_row, upd_ne _ _ (by have := hj rfl; omega)]; exact h.2.2
    · rw [stm_ne _ _ _ e]; exact h.2.2
theorem MR_fr (h : MR ρ0 ρ) (f : FrR 94 ρ ρ') : MR ρ0 ρ' := ⟨fun i h1 h2 => (f.1 i h1 h2).trans (h.1 i h1 h2), (f.2 10 (by omega) (by omega)).trans h.2⟩
theorem MR_op (h : MR ρ0 ρ) (f : OPD ρ ρ' n) : MR ρ0 ρ' := ⟨fun i h1 h2 => (f.1 i h1 h2).trans (h.1 i h1 h2), (f.2.1 10 (by omega) (by omega) (by omega)).trans h.2⟩
theorem MR_st (h : MR ρ0 ρ) {j : Nat} {v : Int32} : MR ρ0 (stm ρ 94 j v) := ⟨fun i h1 h2 => by rw [stm_ne _ _ _ h1]; exact h.1 i h1 h2, by rw [stm_ne _ _ _ (by omega)]; exact h.2⟩
/-- a cell of the reference's row that is static: still at the beginning -/
theorem BG_st (B : BG (ρ 94) n) {j : Nat} {v : Int32} (h : st2 j) : BG (stm ρ 94 j v 94) n := by
  have e : ∀ q, ¬ st2 q → stm ρ 94 j v 94 q = ρ 94 q := fun q hq => by
    have w : q ≠ j := fun w => hq (by rw [w]; exact h)
    rw [stm_row, upd_ne _ _ w]
  obtain ⟨⟨b2, b3, b4⟩, bc⟩ := B
  refine ⟨⟨?_, ?_, ?_⟩, fun c hc => ?_⟩
  · rw [e 2 (by unfold st2; omega)]; exact b2
  · rw [e 3 (by unfold st2; omega)]; exact b3
  · rw [e 4 (by unfold st2; omega)]; exact b4
  · rw [e (49 + 11 * c) (by unfold st2; omega), e (50 + 11 * c) (by unfold st2; omega), e (51 + 11 * c) (by unfold st2; omega), e (52 + 11 * c) (by unfold st2; omega), e (53 + 11 * c) (by unfold st2; omega)]
    exact bc c hc
/-- lateness told -/
theorem RTS_late (S : RTS σ 2 k m len n) {c : Nat} (hc : c < n) (v : Int32) : RTS (stm σ (22 * 2 + 15 + c) 5 v) 2 (upd k (54 + 11 * c) v) m len n := by
  obtain ⟨V, ⟨hn, h7⟩, K, D, f2, W, hb⟩ := S
  have h8 := V.1.2
  have e : ∀ j, j ≠ 54 + 11 * c → upd k (54 + 11 * c) v j = k j := fun j hj => upd_ne _ _ hj
  have h1 : ∀ i, i ≠ 22 * 2 + 15 + c → stm σ (22 * 2 + 15 + c) 5 v i = σ i := fun i hi => stm_ne _ _ _ hi
  refine ⟨VS_cg V (fun j hj _ _ _ _ => e j (by omega)), ⟨(e 1 (by omega)).trans hn, h7⟩, fun j hj => ?_, ?_, by rw [h1 (22 * 2) (by omega)]; exact f2.trans (e 1 (by omega)).symm, fun j hj => ?_, fun j hj b h12 h4 => ?_⟩
  · have q := K j hj
    unfold KOS at q ⊢
    rw [e (44 + 11 * j) (by omega), e (46 + 11 * j) (by omega), e (47 + 11 * j) (by omega), e (48 + 11 * j) (by omega)]
    exact q
  · obtain ⟨d1, d2, d3, d4, d5, d6, d7, d8⟩ := D
    unfold RD
    rw [h1 (22 * 2 + 1) (by omega), h1 (22 * 2 + 2) (by omega), h1 (22 * 2 + 3) (by omega), h1 (22 * 2 + 4) (by omega), h1 (22 * 2 + 5) (by omega), h1 (22 * 2 + 6) (by omega), h1 (22 * 2 + 7) (by omega), h1 (22 * 2 + 8) (by omega), h1 (22 * 2 + 9) (by omega), h1 (22 * 2 + 10) (by omega), h1 (22 * 2 + 11) (by omega), h1 (22 * 2 + 12) (by omega)]
    refine ⟨d1, d2, fun p hp => ?_, fun p hp hp2 => ?_, d5, d6, d7, fun v hv => ?_⟩
    · rw [e (14 + 3 * p) (by omega), e (15 + 3 * p) (by omega), e (16 + 3 * p) (by omega)]; exact d3 p hp
    · rw [e (5 + p) (by omega)]; exact d4 p hp hp2
    · rw [e (38 + 2 * v) (by omega), e (39 + 2 * v) (by omega)]; exact d8 v hv
  · have q := W j hj
    unfold CWS at q ⊢
    by_cases w : j = c
    · subst w
      rw [stm_row]
      simp (disch := omega) only [upd_at, upd_ne]
      exact ⟨q.1, q.2.1, q.2.2.1, q.2.2.2.1, q.2.2.2.2.1, trivial⟩
    · rw [h1 _ (by omega), e (44 + 11 * j) (by omega), e (45 + 11 * j) (by omega), e (46 + 11 * j) (by omega), e (47 + 11 * j) (by omega), e (48 + 11 * j) (by omega), e (54 + 11 * j) (by omega)]
      exact q
  · by_cases w : j = c
    · subst w
      rw [stm_row, upd_ne _ _ (by omega)]; exact hb j hj b h12 h4
    · rw [h1 _ (by omega)]; exact hb j hj b h12 h4
/-- a cart that can't back -/
theorem RTS_bk0 (S : RTS σ 2 k m len n) {c : Nat} (hc : c < n) : RTS (stm σ (22 * 2 + 15 + c) 3 0) 2 (upd k (47 + 11 * c) 0) m len n := by
  obtain ⟨V, ⟨hn, h7⟩, K, D, f2, W, hb⟩ := S
  have h8 := V.1.2
  have e : ∀ j, j ≠ 47 + 11 * c → upd k (47 + 11 * c) 0 j = k j := fun j hj => upd_ne _ _ hj
  have h1 : ∀ i, i ≠ 22 * 2 + 15 + c → stm σ (22 * 2 + 15 + c) 3 0 i = σ i := fun i hi => stm_ne _ _ _ hi
  refine ⟨VS_cg V (fun j hj _ _ _ _ => e j (by omega)), ⟨(e 1 (by omega)).trans hn, h7⟩, fun j hj => ?_, ?_, by rw [h1 (22 * 2) (by omega)]; exact f2.trans (e 1 (by omega)).symm, fun j hj => ?_, fun j hj b h12 h4 => ?_⟩
  · obtain ⟨q1, q2, q3, q4⟩ := K j hj
    refine ⟨by rw [e (44 + 11 * j) (by omega)]; exact q1, by rw [e (46 + 11 * j) (by omega)]; exact q2, ?_, by rw [e (48 + 11 * j) (by omega)]; exact q4⟩
    by_cases w : j = c
    · subst w; exact ⟨0, by omega, by rw [upd_at]; rfl⟩
    · rw [e (47 + 11 * j) (by omega)]; exact q3
  · obtain ⟨d1, d2, d3, d4, d5, d6, d7, d8⟩ := D
    unfold RD
    rw [h1 (22 * 2 + 1) (by omega), h1 (22 * 2 + 2) (by omega), h1 (22 * 2 + 3) (by omega), h1 (22 * 2 + 4) (by omega), h1 (22 * 2 + 5) (by omega), h1 (22 * 2 + 6) (by omega), h1 (22 * 2 + 7) (by omega), h1 (22 * 2 + 8) (by omega), h1 (22 * 2 + 9) (by omega), h1 (22 * 2 + 10) (by omega), h1 (22 * 2 + 11) (by omega), h1 (22 * 2 + 12) (by omega)]
    refine ⟨d1, d2, fun p hp => ?_, fun p hp hp2 => ?_, d5, d6, d7, fun v hv => ?_⟩
    · rw [e (14 + 3 * p) (by omega), e (15 + 3 * p) (by omega), e (16 + 3 * p) (by omega)]; exact d3 p hp
    · rw [e (5 + p) (by omega)]; exact d4 p hp hp2
    · rw [e (38 + 2 * v) (by omega), e (39 + 2 * v) (by omega)]; exact d8 v hv
  · have q := W j hj
    unfold CWS at q ⊢
    by_cases w : j = c
    · subst w
      rw [stm_row]
      simp (disch := omega) only [upd_at, upd_ne]
      exact ⟨q.1, q.2.1, q.2.2.1, trivial, q.2.2.2.2.1, q.2.2.2.2.2⟩
    · rw [h1 _ (by omega), e (44 + 11 * j) (by omega), e (45 + 11 * j) (by omega), e (46 + 11 * j) (by omega), e (47 + 11 * j) (by omega), e (48 + 11 * j) (by omega), e (54 + 11 * j) (by omega)]
      exact q
  · by_cases w : j = c
    · subst w
      rw [stm_row, upd_ne _ _ (by omega)]; exact hb j hj b h12 h4
    · rw [h1 _ (by omega)]; exact hb j hj b h12 h4
/-- room told -/
theorem RTS_room (S : RTS σ 2 k m len n) {p r : Nat} (hp : 1 ≤ p) (hpm : p < m) (hr : r ≤ 4) : RTS (stm σ (22 * 2 + 5) p (nI r)) 2 (upd k (5 + p) (nI r)) m len n := by
  obtain ⟨V, ⟨hn, h7⟩, K, D, f2, W, hb⟩ := S
  have h8 := V.1.2
  have e : ∀ j, j ≠ 5 + p → upd k (5 + p) (nI r) j = k j := fun j hj => upd_ne _ _ hj
  have h1 : ∀ i, i ≠ 22 * 2 + 5 → stm σ (22 * 2 + 5) p (nI r) i = σ i := fun i hi => stm_ne _ _ _ hi
  refine ⟨?_, ⟨(e 1 (by omega)).trans hn, h7⟩, fun j hj => ?_, ?_, by rw [h1 (22 * 2) (by omega)]; exact f2.trans (e 1 (by omega)).symm, fun j hj => ?_, fun j hj b h12 h4 => ?_⟩
  · obtain ⟨⟨v1, v2⟩, v3, v4, v5, v6, v7⟩ := V
    refine ⟨⟨(e 0 (by omega)).trans v1, v2⟩, fun q hq => (e _ (by omega)).trans (v3 q hq), v4, fun q hq => ?_, fun q hq hq8 => ?_, fun v hv => ?_⟩
    · rw [e (15 + 3 * q) (by omega), e (16 + 3 * q) (by omega)]; exact v5 q hq
    · by_cases w : q = p
      · subst w
        rw [upd_at, nI_toInt (by omega)]
        exact ⟨by omega, fun h => absurd h (by omega)⟩
      · rw [e (5 + q) (by omega)]; exact v6 q hq hq8
    · rw [e (38 + 2 * v) (by omega), e (39 + 2 * v) (by omega)]; exact v7 v hv
  · have q := K j hj
    unfold KOS at q ⊢
    rw [e (44 + 11 * j) (by omega), e (46 + 11 * j) (by omega), e (47 + 11 * j) (by omega), e (48 + 11 * j) (by omega)]
    exact q
  · obtain ⟨d1, d2, d3, d4, d5, d6, d7, d8⟩ := D
    unfold RD
    rw [h1 (22 * 2 + 1) (by omega), h1 (22 * 2 + 2) (by omega), h1 (22 * 2 + 3) (by omega), h1 (22 * 2 + 4) (by omega), h1 (22 * 2 + 6) (by omega), h1 (22 * 2 + 7) (by omega), h1 (22 * 2 + 8) (by omega), h1 (22 * 2 + 9) (by omega), h1 (22 * 2 + 10) (by omega), h1 (22 * 2 + 11) (by omega), h1 (22 * 2 + 12) (by omega)]
    refine ⟨d1, d2, fun q hq => ?_, fun q hq hq2 => ?_, d5, d6, d7, fun v hv => ?_⟩
    · rw [e (14 + 3 * q) (by omega), e (15 + 3 * q) (by omega), e (16 + 3 * q) (by omega)]; exact d3 q hq
    · rw [stm_row]
      by_cases w : q = p
      · subst w; rw [upd_at, upd_at]
      · rw [upd_ne _ _ w, e (5 + q) (by omega)]; exact d4 q hq hq2
    · rw [e (38 + 2 * v) (by omega), e (39 + 2 * v) (by omega)]; exact d8 v hv
  · have q := W j hj
    unfold CWS at q ⊢
    rw [h1 _ (by omega), e (44 + 11 * j) (by omega), e (45 + 11 * j) (by omega), e (46 + 11 * j) (by omega), e (47 + 11 * j) (by omega), e (48 + 11 * j) (by omega), e (54 + 11 * j) (by omega)]
    exact q
  · rw [h1 _ (by omega)]; exact hb j hj b h12 h4
/-- all villages by one rule -/
def PR : Nat → Prop := fun j => 38 ≤ j ∧ j < 44
theorem RTS_rule1 (S : RTS σ 2 k m len n) {v q f : Nat} (hv : v < 3) (hq : q < 8) (hf : f ≤ 9) : RTS (stm (stm σ (22 * 2 + 11) v (nI q)) (22 * 2 + 12) v (nI f)) 2 (upd (upd k (38 + 2 * v) (nI q)) (39 + 2 * v) (nI f)) m len n := by
  obtain ⟨V, ⟨hn, h7⟩, K, D, f2, W, hb⟩ := S
  have h8 := V.1.2
  have e : ∀ j, j ≠ 38 + 2 * v → j ≠ 39 + 2 * v → upd (upd k (38 + 2 * v) (nI q)) (39 + 2 * v) (nI f) j = k j := fun j q1 q2 => by rw [upd_ne _ _ q2, upd_ne _ _ q1]
  have e1 : upd (upd k (38 + 2 * v) (nI q)) (39 + 2 * v) (nI f) (38 + 2 * v) = nI q := by rw [upd_ne _ _ (by omega), upd_at]
  have e2 : upd (upd k (38 + 2 * v) (nI q)) (39 + 2 * v) (nI f) (39 + 2 * v) = nI f := upd_at _ _ _
  have h1 : ∀ i, i ≠ 22 * 2 + 11 → i ≠ 22 * 2 + 12 → stm (stm σ (22 * 2 + 11) v (nI q)) (22 * 2 + 12) v (nI f) i = σ i := fun i q1 q2 => by rw [stm_ne _ _ _ q2, stm_ne _ _ _ q1]
  have h11 : stm (stm σ (22 * 2 + 11) v (nI q)) (22 * 2 + 12) v (nI f) (22 * 2 + 11) = upd (σ (22 * 2 + 11)) v (nI q) := by rw [stm_ne _ _ _ (by omega), stm_row]
  have h12 : stm (stm σ (22 * 2 + 11) v (nI q)) (22 * 2 + 12) v (nI f) (22 * 2 + 12) = upd (σ (22 * 2 + 12)) v (nI f) := by rw [stm_row, stm_ne _ _ _ (by omega)]
  refine ⟨?_, ⟨(e 1 (by omega) (by omega)).trans hn, h7⟩, fun j hj => ?_, ?_, by rw [h1 (22 * 2) (by omega) (by omega)]; exact f2.trans (e 1 (by omega) (by omega)).symm, fun j hj => ?_, fun j hj b h12 h4 => ?_⟩
  · obtain ⟨⟨v1, v2⟩, v3, v4, v5, v6, v7⟩ := V
    refine ⟨⟨(e 0 (by omega) (by omega)).trans v1, v2⟩, fun p hp => (e _ (by omega) (by omega)).trans (v3 p hp), v4, fun p hp => ?_, fun p hp hp8 => ?_, fun w hw => ?_⟩
    · rw [e (15 + 3 * p) (by omega) (by omega), e (16 + 3 * p) (by omega) (by omega)]; exact v5 p hp
    · rw [e (5 + p) (by omega) (by omega)]; exact v6 p hp hp8
    · by_cases z : w = v
      · subst z
        rw [e1, e2, nI_toInt (by omega), nI_toInt (by omega)]; omega
      · rw [e (38 + 2 * w) (by omega) (by omega), e (39 + 2 * w) (by omega) (by omega)]; exact v7 w hw
  · have q := K j hj
    unfold KOS at q ⊢
    rw [e (44 + 11 * j) (by omega) (by omega), e (46 + 11 * j) (by omega) (by omega), e (47 + 11 * j) (by omega) (by omega), e (48 + 11 * j) (by omega) (by omega)]
    exact q
  · obtain ⟨d1, d2, d3, d4, d5, d6, d7, d8⟩ := D
    unfold RD
    rw [h1 (22 * 2 + 1) (by omega) (by omega), h1 (22 * 2 + 2) (by omega) (by omega), h1 (22 * 2 + 3) (by omega) (by omega), h1 (22 * 2 + 4) (by omega) (by omega), h1 (22 * 2 + 5) (by omega) (by omega), h1 (22 * 2 + 6) (by omega) (by omega), h1 (22 * 2 + 7) (by omega) (by omega), h1 (22 * 2 + 8) (by omega) (by omega), h1 (22 * 2 + 9) (by omega) (by omega), h1 (22 * 2 + 10) (by omega) (by omega), h11, h12]
    refine ⟨d1, d2, fun p hp => ?_, fun p hp hp2 => ?_, d5, d6, d7, fun w hw => ?_⟩
    · rw [e (14 + 3 * p) (by omega) (by omega), e (15 + 3 * p) (by omega) (by omega), e (16 + 3 * p) (by omega) (by omega)]; exact d3 p hp
    · rw [e (5 + p) (by omega) (by omega)]; exact d4 p hp hp2
    · by_cases z : w = v
      · subst z; rw [upd_at, upd_at, e1, e2]; exact ⟨rfl, rfl⟩
      · rw [upd_ne _ _ z, upd_ne _ _ z, e (38 + 2 * w) (by omega) (by omega), e (39 + 2 * w) (by omega) (by omega)]; exact d8 w hw
  · have q := W j hj
    unfold CWS at q ⊢
    rw [h1 _ (by omega) (by omega), e (44 + 11 * j) (by omega) (by omega), e (45 + 11 * j) (by omega) (by omega), e (46 + 11 * j) (by omega) (by omega), e (47 + 11 * j) (by omega) (by omega), e (48 + 11 * j) (by omega) (by omega), e (54 + 11 * j) (by omega) (by omega)]
    exact q
  · rw [h1 _ (by omega) (by omega)]; exact hb j hj b h12 h4
theorem ruleAll_c (S : RTS σ 2 k m len n) (M : MC σ0 σ) {q f : Nat} (hq : q < 8) (hf : f ≤ 9) : ∃ σ' k', F_X7_ruleAllInMind σ (nI q) (nI f) = some σ' ∧ RTS σ' 2 k' m len n ∧ MC σ0 σ' ∧ σ' 84 = σ 84 ∧ KX PR k k' ∧ ∀ v, v < 3 → k' (38 + 2 * v) = nI q ∧ k' (39 + 2 * v) = nI f := by
  have st : ∀ (v nn : Nat) (σ : Mem), v < 3 → F_X7_ruleAllInMind_2 (nI q) (nI f) (nn + 1) σ (nI v) = F_X7_ruleAllInMind_2 (nI q) (nI f) nn (stm (stm σ (22 * 2 + 11) v (nI q)) (22 * 2 + 12) v (nI f)) (nI (v + 1)) := by
    intro v nn σ hv
    rw [F_X7_ruleAllInMind_2, if_neg (show ¬ (3 : Int32) ≤ nI v from nI_ge (a := v) (b := 3) hv (by decide)), tellRule_c hv hq hf, bd2_s, nI_1]
  have mc : ∀ (v : Nat) (σ : Mem), MC σ0 σ → MC σ0 (stm (stm σ (22 * 2 + 11) v (nI q)) (22 * 2 + 12) v (nI f)) := fun v σ h => MC_st (MC_st h (by omega) (by omega)) (by omega) (by omega)
  refine ⟨_, _, ?_, RTS_rule1 (RTS_rule1 (RTS_rule1 S (show 0 < 3 by omega) hq hf) (show 1 < 3 by omega) hq hf) (show 2 < 3 by omega) hq hf, mc _ _ (mc _ _ (mc _ _ M)), by rw [stm_ne _ _ _ (by omega), stm_ne _ _ _ (by omega), stm_ne _ _ _ (by omega), stm_ne _ _ _ (by omega), stm_ne _ _ _ (by omega), stm_ne _ _ _ (by omega)], fun j hj hp => ?_, fun v hv => ?_⟩
  · show F_X7_ruleAllInMind_2 (nI q) (nI f) (1996 + 1 + 1 + 1 + 1) σ (nI 0) = _
    rw [st 0 _ _ (by omega), st 1 _ _ (by omega), st 2 _ _ (by omega), F_X7_ruleAllInMind_2, if_pos (show (3 : Int32) ≤ nI (2 + 1) by decide)]
  · unfold PR at hp
    simp (disch := omega) only [upd_ne]
  · have hv3 : v = 0 ∨ v = 1 ∨ v = 2 := by omega
    rcases hv3 with rfl | rfl | rfl
    · simp (disch := omega) only [upd_ne, upd_at, and_self]
    · simp (disch := omega) only [upd_ne, upd_at, and_self]
    · simp (disch := omega) only [upd_ne, upd_at, and_self]
theorem allBy_r (B : BG (ρ 94) n) (M : MR ρ0 ρ) {q f : Nat} : ∃ ρ', F_X8_allBy ρ (nI q) (nI f) = some ρ' ∧ MR ρ0 ρ' ∧ (∀ j, ρ' 91 j = ρ 91 j) ∧ BG (ρ' 94) n ∧ KX PR (ρ 94) (ρ' 94) ∧ ∀ v, v < 3 → ρ' 94 (38 + 2 * v) = nI q ∧ ρ' 94 (39 + 2 * v) = nI f := by
  have st : ∀ (v nn : Nat) (ρ : Mem), v < 3 → F_X8_allBy_2 (nI q) (nI f) (nn + 1) ρ (nI v) = F_X8_allBy_2 (nI q) (nI f) nn (stm (stm ρ 94 (38 + 2 * v) (nI q)) 94 (39 + 2 * v) (nI f)) (nI (v + 1)) := by
    intro v nn ρ hv
    rw [F_X8_allBy_2, if_neg (show ¬ (3 : Int32) ≤ nI v from nI_ge (a := v) (b := 3) hv (by decide)), ix38 hv, Option.bind_some, ix39 hv, Option.bind_some, nI_1]
  refine ⟨stm (stm (stm (stm (stm (stm ρ 94 (38 + 2 * 0) (nI q)) 94 (39 + 2 * 0) (nI f)) 94 (38 + 2 * 1) (nI q)) 94 (39 + 2 * 1) (nI f)) 94 (38 + 2 * 2) (nI q)) 94 (39 + 2 * 2) (nI f), ?_, MR_st (MR_st (MR_st (MR_st (MR_st (MR_st M))))), fun j => ?_, ?_, fun j hj hp => ?_, fun v hv => ?_⟩
  · show F_X8_allBy_2 (nI q) (nI f) (1996 + 1 + 1 + 1 + 1) ρ (nI 0) = _
    rw [st 0 _ _ (by omega), st 1 _ _ (by omega), st 2 _ _ (by omega), F_X8_allBy_2, if_pos (show (3 : Int32) ≤ nI (2 + 1) by decide)]
  · rw [stm_ne _ _ _ (by omega), stm_ne _ _ _ (by omega), stm_ne _ _ _ (by omega), stm_ne _ _ _ (by omega), stm_ne _ _ _ (by omega), stm_ne _ _ _ (by omega)]
  · exact BG_st (BG_st (BG_st (BG_st (BG_st (BG_st B (by unfold st2; omega)) (by unfold st2; omega)) (by unfold st2; omega)) (by unfold st2; omega)) (by unfold st2; omega)) (by unfold st2; omega)
  · unfold PR at hp
    simp only [stm_row]
    simp (disch := omega) only [upd_ne]
  · have hv3 : v = 0 ∨ v = 1 ∨ v = 2 := by omega
    simp only [stm_row]
    rcases hv3 with rfl | rfl | rfl
    · simp (disch := omega) only [upd_ne, upd_at, and_self]
    · simp (disch := omega) only [upd_ne, upd_at, and_self]
    · simp (disch := omega) only [upd_ne, upd_at, and_self]
/-- a run of both, nobody watched -/
theorem run_k (S : RTS σ 2 k m len n) (hk : K2 k (ρ 94)) (B : BG (ρ 94) n) (hm : 0 < m) (M : MC σ0 σ) (N : MR ρ0 ρ) : ∃ σ' ρ' v, F_X7_costInMind σ = some (σ', v) ∧ F_X8_costs ρ = some (ρ', v) ∧ RT σ' 2 (ρ' 94) m len n ∧ RTS σ' 2 (ρ' 94) m len n ∧ K2 k (ρ' 94) ∧ MC σ0 σ' ∧ MR ρ0 ρ' ∧ σ' 84 = σ 84 := by
  obtain ⟨σ', ρ', v, q1, q2, q3⟩ := run_p (RTS_cg S hk) B (Or.inl M.2) hm
  exact ⟨σ', ρ', v, q1, q2, q3.1, RTS_of q3.1, K2_tr hk q3.2.2.2.2, MC_fr M q3.2.2.1, MR_fr N q3.2.2.2.1, q3.2.2.1.1 84 (by omega)⟩
/-- the reference opens a run while the class holds k in mind -/
theorem open_k {P : Nat → Prop} (N : MR ρ0 ρ) (hn : ρ0 92 1 = nI n) (h7 : n ≤ 7) (hk : KX P (ρ0 92) k) : ∃ ρ', F_X8_opens ρ = some ρ' ∧ MR ρ0 ρ' ∧ BG (ρ' 94) n ∧ KX P k (ρ' 94) ∧ K2 (ρ0 92) (ρ' 94) := by
  have e := N.1 92 (by omega) (by omega)
  obtain ⟨ρ', g1, g2⟩ := opens_r (ρ := ρ) (n := n) (by rw [e]; exact hn) h7
  have h5 : K2 (ρ0 92) (ρ' 94) := by have := g2.2.2.2.1; rw [e] at this; exact this
  exact ⟨ρ', g1, MR_op N g2, g2.2.2.2.2, KX_tr (KX_s hk) (KX_of h5), h5⟩
/-- by one rule: the class rules all, the reference opens and rules all; a run -/
theorem by_k (S : RTS σ 2 k m len n) (hm : 0 < m) (M : MC σ0 σ) (N : MR ρ0 ρ) (hn : ρ0 92 1 = nI n) (hk : KX PR (ρ0 92) k) {q f : Nat} (hq : q < 8) (hf : f ≤ 9) : ∃ σ1 σ' ρ' v k', F_X7_ruleAllInMind σ (nI q) (nI f) = some σ1 ∧ F_X7_costInMind σ1 = some (σ', v) ∧ F_X8_costBy ρ (nI q) (nI f) = some (ρ', v) ∧ RT σ' 2 (ρ' 94) m len n ∧ RTS σ' 2 k' m len n ∧ KX PR (ρ0 92) k' ∧ MC σ0 σ' ∧ MR ρ0 ρ' ∧ σ' 84 = σ 84 := by
  have h7 : n ≤ 7 := S.2.1.2
  obtain ⟨σ1, k1, a1, a2, a3, a84, a4, a5⟩ := ruleAll_c S M hq hf
  obtain ⟨ρ1, b1, b2, b3, b4, b5⟩ := open_k N hn h7 hk
  obtain ⟨ρ2, c1, c2, c3, c4, c5, c6⟩ := allBy_r (q := q) (f := f) b3 b2
  have hk2 : K2 k1 (ρ2 94) := by
    intro j hj
    by_cases p : PR j
    · unfold PR at p
      have : ∃ v, v < 3 ∧ (j = 38 + 2 * v ∨ j = 39 + 2 * v) := ⟨(j - 38) / 2, by omega, by omega⟩
      obtain ⟨v, hv, rfl | rfl⟩ := this
      · rw [(c6 v hv).1, (a5 v hv).1]
      · rw [(c6 v hv).2, (a5 v hv).2]
    · rw [c5 j hj p, b4 j hj p, a4 j hj p]
  obtain ⟨σ', ρ', v, d1, d2, d3, d4, d5, d6, d7, d84⟩ := run_k a2 hk2 c4 hm a3 c2
  refine ⟨σ1, σ', ρ', v, ρ' 94, a1, d1, ?_, d3, d4, ?_, d6, d7, d84.trans a84⟩
  · unfold F_X8_costBy
    rw [b1, Option.bind_some, c1, Option.bind_some, d2, bd2_s]
  · exact KX_tr (KX_tr hk a4) (KX_of d5)
/-! the least of what is offered -/
def OF (σ : Mem) (b l : Int32) : Prop := σ 84 0 = b ∧ (b = -4 ∧ σ 84 1 = -4 ∨ 0 ≤ b ∧ σ 84 1 = l)
theorem begin_c (M : MC σ0 σ) : ∃ σ', F_X1_begin σ = some σ' ∧ MC σ0 σ' ∧ (∀ i, i ≠ 84 → σ' i = σ i) ∧ OF σ' (-4) 0 := by
  refine ⟨_, rfl, ⟨fun i h1 h2 => by rw [stm_ne _ _ _ h2, stm_ne _ _ _ h2]; exact M.1 i h1 h2, by rw [stm_ne _ _ _ (by omega), stm_ne _ _ _ (by omega)]; exact M.2.1, by rw [stm_ne _ _ _ (by omega), stm_ne _ _ _ (by omega)]; exact M.2.2⟩, fun i hi => by rw [stm_ne _ _ _ hi, stm_ne _ _ _ hi], ?_⟩
  refine ⟨?_, Or.inl ⟨rfl, ?_⟩⟩
  · rw [stm_row, upd_ne _ _ (by omega), stm_row, upd_at]
  · rw [stm_row, upd_at]
/-- offered: the class's cells and the reference's two ints, by the reference's two tests -/
theorem offer_c (M : MC σ0 σ) {b l key v : Int32} (h : OF σ b l) (hk : 0 ≤ key) : ∃ σ', F_X1_offer σ key v = some σ' ∧ MC σ0 σ' ∧ (∀ i, i ≠ 84 → σ' i = σ i) ∧ (b < 0 → OF σ' key v) ∧ (¬ b < 0 → v < l → OF σ' key v) ∧ (¬ b < 0 → ¬ v < l → OF σ' b l) := by
  have mset : MC σ0 (stm (stm σ 84 0 key) 84 1 v) := ⟨fun i h1 h2 => by rw [stm_ne _ _ _ h2, stm_ne _ _ _ h2]; exact M.1 i h1 h2, by rw [stm_ne _ _ _ (by omega), stm_ne _ _ _ (by omega)]; exact M.2.1, by rw [stm_ne _ _ _ (by omega), stm_ne _ _ _ (by omega)]; exact M.2.2⟩
  have oset : OF (stm (stm σ 84 0 key) 84 1 v) key v := ⟨by rw [stm_row, upd_ne _ _ (by omega), stm_row, upd_at], Or.inr ⟨hk, by rw [stm_row, upd_at]⟩⟩
  have fset : ∀ i, i ≠ 84 → stm (stm σ 84 0 key) 84 1 v i = σ i := fun i hi => by rw [stm_ne _ _ _ hi, stm_ne _ _ _ hi]
  unfold F_X1_offer
  obtain ⟨h1, ⟨rfl, h2⟩ | ⟨h2, h3⟩⟩ := h
  · rw [h1, if_pos rfl]
    exact ⟨_, rfl, mset, fset, fun _ => oset, fun q => absurd im4 q, fun q => absurd im4 q⟩
  · have hb : ¬ b < 0 := Int32.not_lt.mpr h2
    have hb4 : ¬ b = -4 := fun q => hb (by rw [q]; exact im4)
    rw [h1, if_neg hb4, h3]
    by_cases k : v < l
    · rw [if_pos k]
      exact ⟨_, rfl, mset, fset, fun q => absurd q hb, fun _ _ => oset, fun _ q => absurd k q⟩
    · rw [if_neg k]
      exact ⟨_, rfl, M, fun _ _ => rfl, fun q => absurd q hb, fun _ q => absurd q k, fun _ _ => ⟨h1, Or.inr ⟨h2, h3⟩⟩⟩
theorem OF_cg {b l : Int32} (h : OF σ b l) (e : σ' 84 = σ 84) : OF σ' b l := by
  unfold OF at h ⊢
  rw [e]; exact h
theorem RTS_cc (S : RTS σ 2 k m len n) (h : ∀ i, 44 ≤ i → i < 66 → σ' i = σ i) : RTS σ' 2 k m len n := by
  obtain ⟨V, hn, K, D, f2, W, hb⟩ := S
  refine ⟨V, hn, K, ?_, by rw [h (22 * 2) (by omega) (by omega)]; exact f2, fun c hc => by rw [h (22 * 2 + 15 + c) (by omega) (by omega)]; exact W c hc, fun j hj b h1 h2 => by rw [h (22 * 2 + 15 + j) (by omega) (by omega)]; exact hb j hj b h1 h2⟩
  unfold RD at D ⊢
  rw [h (22 * 2 + 1) (by omega) (by omega), h (22 * 2 + 2) (by omega) (by omega), h (22 * 2 + 3) (by omega) (by omega), h (22 * 2 + 4) (by omega) (by omega), h (22 * 2 + 5) (by omega) (by omega), h (22 * 2 + 6) (by omega) (by omega), h (22 * 2 + 7) (by omega) (by omega), h (22 * 2 + 8) (by omega) (by omega), h (22 * 2 + 9) (by omega) (by omega), h (22 * 2 + 10) (by omega) (by omega), h (22 * 2 + 11) (by omega) (by omega), h (22 * 2 + 12) (by omega) (by omega)]
  exact D
end MD
