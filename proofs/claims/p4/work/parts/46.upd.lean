/-! what changes a cart: class and reference alike -/
/-- cells of a row that minutes never change -/
def sta (j : Nat) : Prop := j < 4 ∨ (5 ≤ j ∧ j < 44) ∨ (44 ≤ j ∧ ((j - 44) % 11 < 5 ∨ (j - 44) % 11 = 10))
def KS (k k' : Nat → Int32) : Prop := ∀ j, sta j → k' j = k j
def FrC (t : Nat) (σ σ' : Mem) : Prop := (∀ i, i < 22 * t ∨ 22 * t + 22 ≤ i → σ' i = σ i) ∧ (∀ j, j < 7 → σ' (22 * t + 15 + j) 5 = σ (22 * t + 15 + j) 5) ∧ σ' (22 * t) 8 = σ (22 * t) 8 ∧ σ' (22 * t) 9 = σ (22 * t) 9
def FrR (a : Nat) (ρ ρ' : Mem) : Prop := (∀ i, i ≠ a → i ≠ 91 → ρ' i = ρ i) ∧ (∀ j, j ≠ 19 → j ≠ 20 → ρ' 91 j = ρ 91 j)
theorem KS_rf (k : Nat → Int32) : KS k k := fun _ _ => rfl
theorem KS_tr {k k' k'' : Nat → Int32} (h : KS k k') (h' : KS k' k'') : KS k k'' := fun j hj => (h' j hj).trans (h j hj)
theorem FrC_rf (t : Nat) (σ : Mem) : FrC t σ σ := ⟨fun _ _ => rfl, fun _ _ => rfl, rfl, rfl⟩
theorem FrC_tr {t : Nat} {σ σ' σ'' : Mem} (h : FrC t σ σ') (h' : FrC t σ' σ'') : FrC t σ σ'' := ⟨fun i hi => (h'.1 i hi).trans (h.1 i hi), fun j hj => (h'.2.1 j hj).trans (h.2.1 j hj), h'.2.2.1.trans h.2.2.1, h'.2.2.2.trans h.2.2.2⟩
theorem FrR_rf (a : Nat) (ρ : Mem) : FrR a ρ ρ := ⟨fun _ _ _ => rfl, fun _ _ _ => rfl⟩
theorem FrR_tr {a : Nat} {ρ ρ' ρ'' : Mem} (h : FrR a ρ ρ') (h' : FrR a ρ' ρ'') : FrR a ρ ρ'' := ⟨fun i h1 h2 => (h'.1 i h1 h2).trans (h.1 i h1 h2), fun j h1 h2 => (h'.2 j h1 h2).trans (h.2 j h1 h2)⟩
/-- who is watched, and whether a step was taken -/
def RW (σ ρ : Mem) (t : Nat) : Prop := σ (22 * t) 6 = ρ 91 20 ∧ (σ (22 * t) 8 = -4 ∧ σ (22 * t) 9 = -4 ∨ σ (22 * t) 8 = ρ 91 17 ∧ σ (22 * t) 9 = ρ 91 18 ∧ σ (22 * t) 10 = ρ 91 19 ∧ (ρ 91 19 = -4 ∨ 0 ≤ ρ 91 19))
/-- how many: one goes away, one comes -/
theorem occ_pos {sp : Nat → Int} {x : Int} {c n : Nat} (hc : c < n) (h : sp c = x) : 1 ≤ occ sp x n := by
  induction n with
  | zero => omega
  | succ n ih =>
    simp only [occ]
    by_cases k : c = n
    · subst k; simp only [h, if_true]; omega
    · have := ih (by omega); omega
theorem occ_cg {sp sp' : Nat → Int} {n : Nat} (h : ∀ i, i < n → sp' i = sp i) (x : Int) : occ sp' x n = occ sp x n := by
  induction n with
  | zero => rfl
  | succ n ih =>
    simp only [occ]
    rw [ih (fun i hi => h i (by omega)), h n (by omega)]
theorem upd_at (r : Nat → Int32) (j : Nat) (v : Int32) : upd r j v j = v := by simp [upd]
theorem upd_ne (r : Nat → Int32) {i j : Nat} (v : Int32) (h : i ≠ j) : upd r j v i = r i := by simp [upd, h]
theorem on_dec {sp sp' : Nat → Int} {c n x : Nat} {r : Nat → Int32} (hr : ∀ s, s < 73 → r s = nI (occ sp s n)) (hc : c < n) (hs : sp c = x) (hs' : sp' c < 0) (ho : ∀ i, i ≠ c → sp' i = sp i) (hx : x < 73) : ∀ s, s < 73 → upd r x (r x - 1) s = nI (occ sp' s n) := by
  intro s h73
  have hu := occ_upd (sp := sp) (sp' := sp') (c := c) ho s n
  rw [if_pos hc] at hu
  have h1 : ¬ sp' c = (s : Int) := by omega
  simp only [h1, if_false, hs] at hu
  by_cases e : s = x
  · subst e
    have hp := occ_pos hc hs
    rw [upd_at, hr s h73, nI_sub1 hp]
    congr 1
    simp only [if_true] at hu
    omega
  · have e2 : ¬ (x : Int) = (s : Int) := by omega
    rw [upd_ne _ _ e, hr s h73]
    congr 1
    simp only [e2, if_false] at hu
    omega
theorem on_inc {sp sp' : Nat → Int} {c n y : Nat} {r : Nat → Int32} (hr : ∀ s, s < 73 → r s = nI (occ sp s n)) (hc : c < n) (hs : sp c < 0) (hs' : sp' c = y) (ho : ∀ i, i ≠ c → sp' i = sp i) (hy : y < 73) : ∀ s, s < 73 → upd r y (r y + 1) s = nI (occ sp' s n) := by
  intro s h73
  have hu := occ_upd (sp := sp) (sp' := sp') (c := c) ho s n
  rw [if_pos hc] at hu
  have h1 : ¬ sp c = (s : Int) := by omega
  simp only [h1, if_false, hs'] at hu
  by_cases e : s = y
  · subst e
    rw [upd_at, hr s h73, nI_1]
    congr 1
    simp only [if_true] at hu
    omega
  · have e2 : ¬ (y : Int) = (s : Int) := by omega
    rw [upd_ne _ _ e, hr s h73]
    congr 1
    simp only [e2, if_false] at hu
    omega
theorem on_go {sp sp' : Nat → Int} {c n x y : Nat} {r : Nat → Int32} (hr : ∀ s, s < 73 → r s = nI (occ sp s n)) (hc : c < n) (hs : sp c = x) (hs' : sp' c = y) (ho : ∀ i, i ≠ c → sp' i = sp i) (hx : x < 73) (hy : y < 73) : ∀ s, s < 73 → upd (upd r x (r x - 1)) y ((upd r x (r x - 1)) y + 1) s = nI (occ sp' s n) := by
  have h1 := on_dec (sp' := fun i => if i = c then -5 else sp i) hr hc hs (by simp) (fun i hi => by simp [hi]) hx
  exact on_inc h1 hc (by simp) hs' (fun i hi => by simp [hi, ho i hi]) hy
section UP
variable {σ σ' ρ : Mem} {t a m n : Nat} {k k' : Nat → Int32} {len : Nat → Nat}
/-- one cart changes -/
theorem RT_spot (R : RT σ t k m len n) {c : Nat} (hc : c < n) (h1 : ∀ i, i ≠ 22 * t + 15 + c → i ≠ 22 * t + 14 → i ≠ 22 * t → σ' i = σ i) (h1b : ∀ b, 2 ≤ b → b ≤ 5 → σ' (22 * t) b = σ (22 * t) b) (h2 : ∀ j, ¬ (49 + 11 * c ≤ j ∧ j ≤ 53 + 11 * c) → k' j = k j) (h3 : CW (σ' (22 * t + 15 + c)) k' c) (h4 : ∀ b, (b = 0 ∨ b = 1 ∨ b = 7 ∨ b = 8) → σ' (22 * t + 15 + c) b = 0 ∨ σ' (22 * t + 15 + c) b = 1)
    (h5 : k' (49 + 11 * c) = -2 ∨ k' (49 + 11 * c) = -3 ∨ ∃ x : Nat, k' (49 + 11 * c) = nI x ∧ x ≤ PS len m ∧ (k (44 + 11 * c) = 1 → x < PS len m) ∧ (k (44 + 11 * c) = -1 → 0 < x)) (h6 : ∀ s, s < 73 → σ' (22 * t + 14) s = nI (occ (spk k') s n)) (h7z : k' (49 + 11 * c) = -2 → k' (51 + 11 * c) = 0) : RT σ' t k' m len n := by
  have h7 := RT_7 R
  obtain ⟨V, ⟨hn, -⟩, ⟨M, hM, eM⟩, K, D, ⟨f2, f3, f4, f5⟩, W, hb, -, hz⟩ := R
  have hr : ∀ i, 1 ≤ i → i ≤ 12 → σ' (22 * t + i) = σ (22 * t + i) := fun i h h' => h1 _ (by omega) (by omega) (by omega)
  refine ⟨?_, ⟨(h2 1 (by omega)).trans hn, h7⟩, ⟨M, hM, (h2 2 (by omega)).trans eM⟩, ?_, ?_, ⟨?_, ?_, ?_, ?_⟩, ?_, ?_, h6, ?_⟩
  · obtain ⟨⟨v1, v2⟩, v3, v4, v5, v6, v7⟩ := V
    refine ⟨⟨(h2 0 (by omega)).trans v1, v2⟩, fun p hp => (h2 _ (by omega)).trans (v3 p hp), v4, fun p hp => ?_, fun p hp hp8 => ?_, fun v hv => ?_⟩
    · rw [h2 (15 + 3 * p) (by omega), h2 (16 + 3 * p) (by omega)]; exact v5 p hp
    · rw [h2 (5 + p) (by omega)]; exact v6 p hp hp8
    · rw [h2 (38 + 2 * v) (by omega), h2 (39 + 2 * v) (by omega)]; exact v7 v hv
  · intro j hj
    obtain ⟨q1, q2, q3, q4, q5⟩ := K j hj
    refine ⟨?_, ?_, ?_, ?_, ?_⟩
    · rw [h2 (44 + 11 * j) (by omega)]; exact q1
    · rw [h2 (46 + 11 * j) (by omega)]; exact q2
    · rw [h2 (47 + 11 * j) (by omega)]; exact q3
    · rw [h2 (48 + 11 * j) (by omega)]; exact q4
    · rw [h2 (44 + 11 * j) (by omega)]
      by_cases e : j = c
      · subst e; exact h5
      · rw [h2 (49 + 11 * j) (by omega)]; exact q5
  · obtain ⟨d1, d2, d3, d4, d5, d6, d7, d8⟩ := D
    refine ⟨?_, ?_, fun p hp => ?_, fun p hp hp2 => ?_, fun p hp => ?_, fun p x hp hx hx2 => ?_, fun p x hp hx hx2 => ?_, fun v hv => ?_⟩
    · rw [hr 1 (by omega) (by omega)]; exact d1
    · rw [hr 1 (by omega) (by omega)]; exact d2
    · rw [hr 2 (by omega) (by omega), hr 3 (by omega) (by omega), hr 4 (by omega) (by omega), h2 (14 + 3 * p) (by have := V.1.2; omega), h2 (15 + 3 * p) (by have := V.1.2; omega), h2 (16 + 3 * p) (by have := V.1.2; omega)]; exact d3 p hp
    · rw [hr 5 (by omega) (by omega), h2 (5 + p) (by have := V.1.2; omega)]; exact d4 p hp hp2
    · rw [hr 6 (by omega) (by omega), hr 7 (by omega) (by omega), hr 9 (by omega) (by omega), hr 10 (by omega) (by omega)]; exact d5 p hp
    · rw [hr 7 (by omega) (by omega), hr 9 (by omega) (by omega), hr 10 (by omega) (by omega)]; exact d6 p x hp hx hx2
    · rw [hr 8 (by omega) (by omega)]; exact d7 p x hp hx hx2
    · rw [hr 11 (by omega) (by omega), hr 12 (by omega) (by omega), h2 (38 + 2 * v) (by omega), h2 (39 + 2 * v) (by omega)]; exact d8 v hv
  · rw [h1b 2 (by omega) (by omega), h2 1 (by omega)]; exact f2
  · rw [h1b 3 (by omega) (by omega), h2 2 (by omega)]; exact f3
  · rw [h1b 4 (by omega) (by omega), h2 3 (by omega)]; exact f4
  · rw [h1b 5 (by omega) (by omega), h2 4 (by omega)]; exact f5
  · intro j hj
    by_cases e : j = c
    · subst e; exact h3
    · have w := W j hj
      unfold CW at w ⊢
      rw [h1 (22 * t + 15 + j) (by omega) (by omega) (by omega), h2 (44 + 11 * j) (by omega), h2 (45 + 11 * j) (by omega), h2 (46 + 11 * j) (by omega), h2 (47 + 11 * j) (by omega), h2 (48 + 11 * j) (by omega), h2 (49 + 11 * j) (by omega), h2 (50 + 11 * j) (by omega), h2 (51 + 11 * j) (by omega), h2 (52 + 11 * j) (by omega), h2 (53 + 11 * j) (by omega), h2 (54 + 11 * j) (by omega)]
      exact w
  · intro j hj b hb12 hb4
    by_cases e : j = c
    · subst e; exact h4 b hb4
    · rw [h1 (22 * t + 15 + j) (by omega) (by omega) (by omega)]; exact hb j hj b hb12 hb4
  · intro j hj
    by_cases e : j = c
    · subst e; exact h7z
    · rw [h2 (49 + 11 * j) (by omega), h2 (51 + 11 * j) (by omega)]; exact hz j hj
/-- one cart changes, its spot doesn't -/
theorem RT_row (R : RT σ t k m len n) {c : Nat} (hc : c < n) (h1 : ∀ i, i ≠ 22 * t + 15 + c → σ' i = σ i) (h2 : ∀ j, ¬ (50 + 11 * c ≤ j ∧ j ≤ 53 + 11 * c) → k' j = k j) (h3 : CW (σ' (22 * t + 15 + c)) k' c) (h4 : ∀ b, (b = 0 ∨ b = 1 ∨ b = 7 ∨ b = 8) → σ' (22 * t + 15 + c) b = 0 ∨ σ' (22 * t + 15 + c) b = 1) (hz : k (49 + 11 * c) = -2 → k' (51 + 11 * c) = k (51 + 11 * c)) : RT σ' t k' m len n := by
  refine RT_spot R hc (fun i q _ _ => h1 i q) (fun b _ _ => by rw [h1 (22 * t) (by omega)]) (fun j hj => h2 j (by omega)) h3 h4 ?_ ?_ (fun q => by rw [h2 (49 + 11 * c) (by omega)] at q; rw [hz q]; exact RT_z R hc q)
  · rw [h2 (49 + 11 * c) (by omega)]; exact (RT_K R hc).2.2.2.2
  · intro s hs
    rw [h1 (22 * t + 14) (by omega), RT_on R hs, occ_cg (fun i hi => ?_)]
    show (k (49 + 11 * i)).toInt = (k' (49 + 11 * i)).toInt
    rw [h2 (49 + 11 * i) (by omega)]
/-- a field of a cart that is no truth, no spot -/
theorem RT_cb (R : RT σ t k m len n) {c : Nat} (hc : c < n) : ∀ b, (b = 0 ∨ b = 1 ∨ b = 7 ∨ b = 8) → σ (22 * t + 15 + c) b = 0 ∨ σ (22 * t + 15 + c) b = 1 := fun b hb => RT_b R c (by have := RT_7 R; omega) b (by omega) hb
theorem sta_n {c j : Nat} (h : ¬ (49 + 11 * c ≤ j ∧ j ≤ 53 + 11 * c)) (v : Int32) (q : Nat) (hq : 49 + 11 * c ≤ q ∧ q ≤ 53 + 11 * c) : upd k q v j = k j := upd_ne _ _ (by omega)
theorem sta_c {c q : Nat} (hq : 49 + 11 * c ≤ q ∧ q ≤ 53 + 11 * c) (v : Int32) : KS k (upd k q v) := fun j hj => upd_ne _ _ (by unfold sta at hj; omega)
end UP
