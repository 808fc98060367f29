/-! one change at a time -/
def STP (σ ρ σ' ρ' : Mem) (t a m : Nat) (len : Nat → Nat) (n : Nat) : Prop := RT σ' t (ρ' a) m len n ∧ RW σ' ρ' t ∧ FrC t σ σ' ∧ FrR a ρ ρ' ∧ KS (ρ a) (ρ' a)
theorem STP_tr {σ ρ σ' ρ' σ'' ρ'' : Mem} {t a m n : Nat} {len : Nat → Nat} (h : STP σ ρ σ' ρ' t a m len n) (h' : STP σ' ρ' σ'' ρ'' t a m len n) : STP σ ρ σ'' ρ'' t a m len n := ⟨h'.1, h'.2.1, FrC_tr h.2.2.1 h'.2.2.1, FrR_tr h.2.2.2.1 h'.2.2.2.1, KS_tr h.2.2.2.2 h'.2.2.2.2⟩
theorem RW_cg {σ ρ σ' ρ' : Mem} {t : Nat} (h1 : σ' (22 * t) = σ (22 * t)) (h2 : ρ' 91 = ρ 91) (W : RW σ ρ t) : RW σ' ρ' t := by
  unfold RW at W ⊢
  rw [h1, h2]; exact W
theorem stm_cm (ρ : Mem) {a j j' : Nat} (v v' : Int32) (h : j ≠ j') : stm (stm ρ a j v) a j' v' = stm (stm ρ a j' v') a j v := by
  funext b c
  by_cases e : b = a
  · subst e
    simp only [stm_row, upd]
    by_cases e1 : c = j
    · have e2 : ¬ c = j' := by omega
      simp [e1, h]
    · by_cases e2 : c = j'
      · simp [e2, h.symm]
      · simp [e1, e2]
  · rw [stm_ne _ _ _ e, stm_ne _ _ _ e, stm_ne _ _ _ e, stm_ne _ _ _ e]
theorem FrR_a {a j : Nat} {v : Int32} (ρ : Mem) (ha : a ≠ 91) : FrR a ρ (stm ρ a j v) := ⟨fun i h1 _ => stm_ne _ _ _ h1, fun j' _ _ => by rw [stm_ne _ _ _ (fun q => ha q.symm)]⟩
theorem FrC_i {t c j : Nat} {v : Int32} (σ : Mem) (hc : c < 7) (hj : j ≠ 5) : FrC t σ (stm σ (22 * t + 15 + c) j v) := by
  refine ⟨fun i hi => stm_ne _ _ _ (by omega), fun q hq => ?_, by rw [stm_ne _ _ _ (by omega)], by rw [stm_ne _ _ _ (by omega)]⟩
  by_cases e : q = c
  · subst e; rw [stm_row, upd_ne _ _ (by omega)]
  · rw [stm_ne _ _ _ (by omega)]
theorem KS_a {a c q : Nat} (ρ : Mem) (hq : 49 + 11 * c ≤ q ∧ q ≤ 53 + 11 * c) (v : Int32) : KS (ρ a) (stm ρ a q v a) := by rw [stm_row]; exact sta_c hq v
section EL
variable {σ ρ : Mem} {t a m n : Nat} {len : Nat → Nat}
theorem e_wait (R : RT σ t (ρ a) m len n) (W : RW σ ρ t) (ha : a ≠ 91) {c : Nat} (hc : c < n) : STP σ ρ (stm σ (22 * t + 15 + c) 11 (σ (22 * t + 15 + c) 11 + 1)) (stm ρ a (53 + 11 * c) (ρ a (53 + 11 * c) + 1)) t a m len n := by
  have h7 := RT_7 R
  refine ⟨?_, RW_cg (stm_ne _ _ _ (by omega)) (stm_ne _ _ _ (fun q => ha q.symm)) W, FrC_i σ (by omega) (by omega), FrR_a ρ ha, KS_a (c := c) ρ (by omega) _⟩
  refine RT_row R hc (fun i hi => stm_ne _ _ _ hi) (fun j hj => by rw [stm_row, upd_ne _ _ (by omega)]) ?_ ?_ (fun _ => by rw [stm_row, upd_ne _ _ (by omega)])
  · obtain ⟨w1, w2, w3, w4, w5, w6, w7⟩ := RT_C R hc
    rw [stm_row, stm_row]
    unfold CW
    simp (disch := omega) only [upd_at, upd_ne]
    exact ⟨w1, w2, w3, w4, w5, w6, by rw [w7]⟩
  · intro b hb
    rw [stm_row, upd_ne _ _ (by omega)]; exact RT_cb R hc b hb
theorem e_bk0 (R : RT σ t (ρ a) m len n) (W : RW σ ρ t) (ha : a ≠ 91) {c : Nat} (hc : c < n) : STP σ ρ (stm σ (22 * t + 15 + c) 7 0) (stm ρ a (50 + 11 * c) 0) t a m len n := by
  have h7 := RT_7 R
  refine ⟨?_, RW_cg (stm_ne _ _ _ (by omega)) (stm_ne _ _ _ (fun q => ha q.symm)) W, FrC_i σ (by omega) (by omega), FrR_a ρ ha, KS_a (c := c) ρ (by omega) _⟩
  refine RT_row R hc (fun i hi => stm_ne _ _ _ hi) (fun j hj => by rw [stm_row, upd_ne _ _ (by omega)]) ?_ ?_ (fun _ => by rw [stm_row, upd_ne _ _ (by omega)])
  · obtain ⟨w1, w2, w3, w4, w5, w6, w7⟩ := RT_C R hc
    rw [stm_row, stm_row]
    unfold CW
    simp (disch := omega) only [upd_at, upd_ne]
    exact ⟨w1, w2, w3, Or.inl ⟨trivial, trivial⟩, w5, w6, w7⟩
  · intro b hb
    rw [stm_row]
    by_cases e : b = 7
    · subst e; rw [upd_at]; exact Or.inl rfl
    · rw [upd_ne _ _ e]; exact RT_cb R hc b hb
theorem e_beg (R : RT σ t (ρ a) m len n) (W : RW σ ρ t) (ha : a ≠ 91) {c : Nat} (hc : c < n) : STP σ ρ (stm (stm σ (22 * t + 15 + c) 7 1) (22 * t + 15 + c) 8 0) (stm ρ a (50 + 11 * c) 1) t a m len n := by
  have h7 := RT_7 R
  refine ⟨?_, RW_cg (by rw [stm_ne _ _ _ (by omega), stm_ne _ _ _ (by omega)]) (stm_ne _ _ _ (fun q => ha q.symm)) W, FrC_tr (FrC_i σ (by omega) (by omega)) (FrC_i _ (by omega) (by omega)), FrR_a ρ ha, KS_a (c := c) ρ (by omega) _⟩
  refine RT_row R hc (fun i hi => by rw [stm_ne _ _ _ hi, stm_ne _ _ _ hi]) (fun j hj => by rw [stm_row, upd_ne _ _ (by omega)]) ?_ ?_ (fun _ => by rw [stm_row, upd_ne _ _ (by omega)])
  · obtain ⟨w1, w2, w3, w4, w5, w6, w7⟩ := RT_C R hc
    rw [stm_row, stm_row, stm_row]
    unfold CW
    simp (disch := omega) only [upd_at, upd_ne]
    exact ⟨w1, w2, w3, Or.inr (Or.inl ⟨trivial, trivial, trivial⟩), w5, w6, w7⟩
  · intro b hb
    rw [stm_row, stm_row]
    by_cases e : b = 8
    · subst e; rw [upd_at]; exact Or.inl rfl
    · rw [upd_ne _ _ e]
      by_cases e2 : b = 7
      · subst e2; rw [upd_at]; exact Or.inr rfl
      · rw [upd_ne _ _ e2]; exact RT_cb R hc b hb
theorem e_left (R : RT σ t (ρ a) m len n) (W : RW σ ρ t) (ha : a ≠ 91) {c : Nat} (hc : c < n) (hs : ¬ ρ a (49 + 11 * c) = -3) (hs2 : ¬ ρ a (49 + 11 * c) = -2) : STP σ ρ (stm σ (22 * t + 15 + c) 9 (σ (22 * t + 15 + c) 9 - 1)) (stm ρ a (51 + 11 * c) (ρ a (51 + 11 * c) - 1)) t a m len n := by
  have h7 := RT_7 R
  refine ⟨?_, RW_cg (stm_ne _ _ _ (by omega)) (stm_ne _ _ _ (fun q => ha q.symm)) W, FrC_i σ (by omega) (by omega), FrR_a ρ ha, KS_a (c := c) ρ (by omega) _⟩
  refine RT_row R hc (fun i hi => stm_ne _ _ _ hi) (fun j hj => by rw [stm_row, upd_ne _ _ (by omega)]) ?_ ?_ (fun q => absurd q hs2)
  · obtain ⟨w1, w2, w3, w4, w5, w6, w7⟩ := RT_C R hc
    rw [stm_row, stm_row]
    unfold CW
    simp (disch := omega) only [upd_at, upd_ne]
    exact ⟨w1, w2, w3, w4, Or.inr (by rw [w5.resolve_left hs]), w6, w7⟩
  · intro b hb
    rw [stm_row, upd_ne _ _ (by omega)]; exact RT_cb R hc b hb
theorem e_leftD (R : RT σ t (ρ a) m len n) (W : RW σ ρ t) {c : Nat} (hc : c < n) (hs : ρ a (49 + 11 * c) = -3) (v : Int32) : STP σ ρ (stm σ (22 * t + 15 + c) 9 v) ρ t a m len n := by
  have h7 := RT_7 R
  refine ⟨?_, RW_cg (stm_ne _ _ _ (by omega)) rfl W, FrC_i σ (by omega) (by omega), FrR_rf a ρ, KS_rf _⟩
  refine RT_row R hc (fun i hi => stm_ne _ _ _ hi) (fun j hj => rfl) ?_ ?_ (fun _ => rfl)
  · obtain ⟨w1, w2, w3, w4, w5, w6, w7⟩ := RT_C R hc
    rw [stm_row]
    unfold CW
    simp (disch := omega) only [upd_ne]
    exact ⟨w1, w2, w3, w4, Or.inl hs, w6, w7⟩
  · intro b hb
    rw [stm_row, upd_ne _ _ (by omega)]; exact RT_cb R hc b hb
/-! a step -/
def mv (σ : Mem) (t i x y : Nat) : Mem := stm (stm (stm (stm σ (22 * t + 14) x ((σ (22 * t + 14) x) - 1)) (22 * t + 14) y (((stm σ (22 * t + 14) x ((σ (22 * t + 14) x) - 1)) (22 * t + 14) y) + 1)) i 6 (nI y)) (22 * t) 6 1
theorem step_c (R : RT σ t (ρ a) m len n) {c x y : Nat} (hc : c < n) (hs : ρ a (49 + 11 * c) = nI x) (hx : x ≤ PS len m) (hy : y ≤ PS len m) : F_X6_step σ t (22 * t + 15 + c) (nI y) = some (mv σ t (22 * t + 15 + c) x y) := by
  have h72 := RT_72 R (Nat.le_refl m)
  have e := (RT_C R hc).2.2.1.trans hs
  unfold F_X6_step
  rw [e, isSpot_c R hx, Option.bind_some, if_neg i10, isSpot_c R hy, Option.bind_some, if_neg i10, ix_nI (show x < 73 by omega) (by decide), Option.bind_some, Option.bind_some, ix_nI (show y < 73 by omega) (by decide), Option.bind_some, Option.bind_some]
  rfl
theorem mv_o {σ : Mem} {t i x y b : Nat} (h1 : b ≠ i) (h2 : b ≠ 22 * t + 14) (h3 : b ≠ 22 * t) : mv σ t i x y b = σ b := by
  unfold mv
  rw [stm_ne _ _ _ h3, stm_ne _ _ _ h1, stm_ne _ _ _ h2, stm_ne _ _ _ h2]
theorem mv_i {σ : Mem} {t c x y : Nat} : mv σ t (22 * t + 15 + c) x y (22 * t + 15 + c) = upd (σ (22 * t + 15 + c)) 6 (nI y) := by
  unfold mv
  rw [stm_ne _ _ _ (by omega), stm_row, stm_ne _ _ _ (by omega), stm_ne _ _ _ (by omega)]
theorem mv_on {σ : Mem} {t c x y : Nat} : mv σ t (22 * t + 15 + c) x y (22 * t + 14) = upd (upd (σ (22 * t + 14)) x (σ (22 * t + 14) x - 1)) y (upd (σ (22 * t + 14)) x (σ (22 * t + 14) x - 1) y + 1) := by
  unfold mv
  rw [stm_ne _ _ _ (by omega), stm_ne _ _ _ (by omega), stm_row, stm_row]
theorem mv_t {σ : Mem} {t c x y : Nat} : mv σ t (22 * t + 15 + c) x y (22 * t) = upd (σ (22 * t)) 6 1 := by
  unfold mv
  rw [stm_row, stm_ne _ _ _ (by omega), stm_ne _ _ _ (by omega), stm_ne _ _ _ (by omega)]
theorem RW_st {σ ρ σ' ρ' : Mem} {t : Nat} (h1 : σ' (22 * t) = upd (σ (22 * t)) 6 1) (h2 : ρ' 91 = upd (ρ 91) 20 1) (W : RW σ ρ t) : RW σ' ρ' t := by
  unfold RW at W ⊢
  rw [h1, h2]
  simp (disch := omega) only [upd_at, upd_ne]
  exact ⟨trivial, W.2⟩
theorem spk_n {k : Nat → Int32} {c x : Nat} (h : k (49 + 11 * c) = nI x) (hx : x < 1000) : spk k c = x := by
  show (k (49 + 11 * c)).toInt = x
  rw [h, nI_toInt (by omega)]
/-- a cart of new spot y: rows of the class told, the row of the reference told -/
theorem RT_go (R : RT σ t (ρ a) m len n) {c x y : Nat} (hc : c < n) (hs : ρ a (49 + 11 * c) = nI x) (hx : x ≤ PS len m) (hy : y ≤ PS len m) {σ' : Mem} {k' : Nat → Int32} {r' : Nat → Int32} (h1 : ∀ i, i ≠ 22 * t + 15 + c → i ≠ 22 * t + 14 → i ≠ 22 * t → σ' i = σ i) (h1b : σ' (22 * t) = upd (σ (22 * t)) 6 1) (h1c : σ' (22 * t + 15 + c) = r') (h1d : σ' (22 * t + 14) = upd (upd (σ (22 * t + 14)) x (σ (22 * t + 14) x - 1)) y (upd (σ (22 * t + 14)) x (σ (22 * t + 14) x - 1) y + 1)) (h2 : ∀ j, ¬ (49 + 11 * c ≤ j ∧ j ≤ 53 + 11 * c) → k' j = ρ a j) (h2s : k' (49 + 11 * c) = nI y) (h3 : CW r' k' c) (h4 : ∀ b, (b = 0 ∨ b = 1 ∨ b = 7 ∨ b = 8) → r' b = 0 ∨ r' b = 1)
    (h5 : (ρ a (44 + 11 * c) = 1 → y < PS len m) ∧ (ρ a (44 + 11 * c) = -1 → 0 < y)) : RT σ' t k' m len n := by
  have h72 := RT_72 R (Nat.le_refl m)
  refine RT_spot R hc h1 (fun b hb hb2 => by rw [h1b, upd_ne _ _ (by omega)]) h2 (by rw [h1c]; exact h3) (fun b hb => by rw [h1c]; exact h4 b hb) (Or.inr (Or.inr ⟨y, h2s, hy, h5.1, h5.2⟩)) ?_ (fun q => absurd (h2s.symm.trans q) (nI_neN (by omega) (by decide)))
  intro s h
  rw [h1d]
  refine on_go (sp := spk (ρ a)) (fun s hs => RT_on R hs) hc (spk_n hs (by omega)) (spk_n h2s (by omega)) (fun i hi => ?_) (by omega) (by omega) s h
  show (k' (49 + 11 * i)).toInt = (ρ a (49 + 11 * i)).toInt
  rw [h2 _ (by omega)]
/-- a cart that is done -/
theorem RT_done (R : RT σ t (ρ a) m len n) {c x y : Nat} (hc : c < n) (hs : ρ a (49 + 11 * c) = nI x) (hx : x ≤ PS len m) (hy : y ≤ PS len m) {σ' : Mem} {k' : Nat → Int32} {r' : Nat → Int32} (h1 : ∀ i, i ≠ 22 * t + 15 + c → i ≠ 22 * t + 14 → i ≠ 22 * t → σ' i = σ i) (h1b : σ' (22 * t) = upd (σ (22 * t)) 6 1) (h1c : σ' (22 * t + 15 + c) = r') (h1d : σ' (22 * t + 14) = upd (upd (upd (σ (22 * t + 14)) x (σ (22 * t + 14) x - 1)) y (upd (σ (22 * t + 14)) x (σ (22 * t + 14) x - 1) y + 1)) y (upd (upd (σ (22 * t + 14)) x (σ (22 * t + 14) x - 1)) y (upd (σ (22 * t + 14)) x (σ (22 * t + 14) x - 1) y + 1) y - 1)) (h2 : ∀ j, ¬ (49 + 11 * c ≤ j ∧ j ≤ 53 + 11 * c) → k' j = ρ a j) (h2s : k' (49 + 11 * c) = -3) (h3 : CW r' k' c) (h4 : ∀ b, (b = 0 ∨ b = 1 ∨ b = 7 ∨ b = 8) → r' b = 0 ∨ r' b = 1) : RT σ' t k' m len n := by
  have h72 := RT_72 R (Nat.le_refl m)
  have m3 : (-3 : Int32).toInt < 0 := by decide
  refine RT_spot R hc h1 (fun b hb hb2 => by rw [h1b, upd_ne _ _ (by omega)]) h2 (by rw [h1c]; exact h3) (fun b hb => by rw [h1c]; exact h4 b hb) (Or.inr (Or.inl h2s)) ?_ (fun q => absurd (h2s.symm.trans q) (by decide))
  intro s h
  rw [h1d]
  have h6 := on_go (sp := spk (ρ a)) (sp' := fun i => if i = c then (y : Int) else spk (ρ a) i) (x := x) (y := y) (fun s hs => RT_on R hs) hc (spk_n hs (by omega)) (by simp) (fun i hi => by simp [hi]) (by omega) (by omega)
  refine on_dec h6 hc (by simp) (show (k' (49 + 11 * c)).toInt < 0 by rw [h2s]; exact m3) (fun i hi => ?_) (by omega) s h
  show (k' (49 + 11 * i)).toInt = if i = c then (y : Int) else (ρ a (49 + 11 * i)).toInt
  rw [h2 _ (by omega), if_neg hi]
end EL
