/-! Road.copyFrom, Traffic.copyFrom: what they do to a memory; the fresh state -/
def rdcpy (σ : Mem) (t u : Nat) : Mem := rcpy (rcpy (rcpy (rcpy (rcpy (rcpy (rcpy (rcpy (rcpy (rcpy (rcpy (stm (stm σ (22 * t + 1) 0 (σ (22 * u + 1) 0)) (22 * t + 1) 1 (σ (22 * u + 1) 1)) (22 * t + 2) (22 * u + 2) 8) (22 * t + 3) (22 * u + 3) 8) (22 * t + 4) (22 * u + 4) 8) (22 * t + 5) (22 * u + 5) 9) (22 * t + 6) (22 * u + 6) 9) (22 * t + 7) (22 * u + 7) 73) (22 * t + 8) (22 * u + 8) 73) (22 * t + 9) (22 * u + 9) 73) (22 * t + 10) (22 * u + 10) 73) (22 * t + 11) (22 * u + 11) 3) (22 * t + 12) (22 * u + 12) 3
theorem rcpy_ne (σ : Mem) {a d : Nat} (s n : Nat) (h : a ≠ d) : rcpy σ d s n a = σ a := by simp [rcpy, h]
theorem rdcpy_ne (σ : Mem) {t u a : Nat} (h : a < 22 * t + 1 ∨ 22 * t + 12 < a) : rdcpy σ t u a = σ a := by
  simp only [rdcpy]
  rw [rcpy_ne _ _ _ (by omega), rcpy_ne _ _ _ (by omega), rcpy_ne _ _ _ (by omega), rcpy_ne _ _ _ (by omega), rcpy_ne _ _ _ (by omega), rcpy_ne _ _ _ (by omega), rcpy_ne _ _ _ (by omega), rcpy_ne _ _ _ (by omega), rcpy_ne _ _ _ (by omega), rcpy_ne _ _ _ (by omega), rcpy_ne _ _ _ (by omega), stm_ne _ _ _ (by omega), stm_ne _ _ _ (by omega)]
def ccpyK (σ : Mem) (t u k : Nat) : Mem := fun a => if 22 * t + 15 ≤ a ∧ a < 22 * t + 15 + k then (fun b => if b < 12 then σ (a - 22 * t + 22 * u) b else σ a b) else σ a
theorem ccpyK_0 (σ : Mem) (t u : Nat) : σ = ccpyK σ t u 0 := by
  funext a
  have h : ¬ (22 * t + 15 ≤ a ∧ a < 22 * t + 15 + 0) := by omega
  simp only [ccpyK, if_neg h]
theorem ccpyK_ne (σ : Mem) {t u k a : Nat} (h : a < 22 * t + 15 ∨ 22 * t + 15 + k ≤ a) : ccpyK σ t u k a = σ a := by
  have h : ¬ (22 * t + 15 ≤ a ∧ a < 22 * t + 15 + k) := by omega
  simp only [ccpyK, if_neg h]
theorem ccpyK_s (σ : Mem) {t u k : Nat} (hk : k < 7) (hne : u ≠ t) : rcpy (ccpyK σ t u k) (22 * t + 15 + k) (22 * u + 15 + k) 12 = ccpyK σ t u (k + 1) := by
  funext a
  by_cases h : a = 22 * t + 15 + k
  · subst h
    have h1 : 22 * t + 15 ≤ 22 * t + 15 + k ∧ 22 * t + 15 + k < 22 * t + 15 + (k + 1) := by omega
    have h2 : 22 * t + 15 + k - 22 * t + 22 * u = 22 * u + 15 + k := by omega
    simp only [rcpy, if_true]
    rw [ccpyK_ne σ (a := 22 * u + 15 + k) (by omega), ccpyK_ne σ (a := 22 * t + 15 + k) (by omega)]
    simp only [ccpyK, if_pos h1, h2]
  · rw [rcpy_ne _ _ _ h]
    by_cases h1 : 22 * t + 15 ≤ a ∧ a < 22 * t + 15 + k
    · have h2 : 22 * t + 15 ≤ a ∧ a < 22 * t + 15 + (k + 1) := by omega
      simp only [ccpyK, if_pos h1, if_pos h2]
    · have h2 : ¬ (22 * t + 15 ≤ a ∧ a < 22 * t + 15 + (k + 1)) := by omega
      simp only [ccpyK, if_neg h1, if_neg h2]
def tcpy (σ : Mem) (t u : Nat) : Mem := rcpy (stm (stm (stm (stm (ccpyK (rdcpy σ t u) t u 7) (22 * t) 2 (σ (22 * u) 2)) (22 * t) 3 (σ (22 * u) 3)) (22 * t) 4 (σ (22 * u) 4)) (22 * t) 5 (σ (22 * u) 5)) (22 * t + 14) (22 * u + 14) 73
/-- a new object of each side -/
def Fr (σ : Mem) : Prop := (σ 0 2 = 0 ∧ σ 0 3 = 0 ∧ σ 0 4 = 0 ∧ σ 0 5 = 0) ∧ (σ 1 0 = 0 ∧ σ 1 1 = 0) ∧ σ 66 3 = 0 ∧ (∀ j, j < 8 → σ (68 + j) 0 = 0) ∧ (∀ v, v < 3 → σ 11 v = 0) ∧ (∀ v, v < 3 → σ 12 v = 0) ∧ (∀ k, k < 7 → ∀ b, b = 0 ∨ b = 1 ∨ b = 7 ∨ b = 8 → (σ (15 + k) b = 0 ∨ σ (15 + k) b = 1)) ∧ (∀ k, k < 5 → σ 92 k = 0) ∧ (∀ k, k < 6 → σ 92 (38 + k) = 0) ∧ (∀ j, j < 8 → σ 96 j = 0) ∧ σ 91 10 = 0
theorem Fr_count {σ : Mem} (h : Fr σ) : σ 0 2 = 0 := h.1.1
theorem Fr_minute {σ : Mem} (h : Fr σ) : σ 0 3 = 0 := h.1.2.1
theorem Fr_still {σ : Mem} (h : Fr σ) : σ 0 4 = 0 := h.1.2.2.1
theorem Fr_met {σ : Mem} (h : Fr σ) : σ 0 5 = 0 := h.1.2.2.2
theorem Fr_pieces {σ : Mem} (h : Fr σ) : σ 1 0 = 0 := h.2.1.1
theorem Fr_end {σ : Mem} (h : Fr σ) : σ 1 1 = 0 := h.2.1.2
theorem Fr_img {σ : Mem} (h : Fr σ) : σ 66 3 = 0 := h.2.2.1
theorem Fr_holds {σ : Mem} (h : Fr σ) {j : Nat} (hj : j < 8) : σ (68 + j) 0 = 0 := h.2.2.2.1 j hj
theorem Fr_kind {σ : Mem} (h : Fr σ) {j : Nat} (hj : j < 3) : σ 11 j = 0 := h.2.2.2.2.1 j hj
theorem Fr_fig {σ : Mem} (h : Fr σ) {j : Nat} (hj : j < 3) : σ 12 j = 0 := h.2.2.2.2.2.1 j hj
theorem Fr_bool {σ : Mem} (h : Fr σ) : ∀ k, k < 7 → ∀ b, b = 0 ∨ b = 1 ∨ b = 7 ∨ b = 8 → (σ (22 * 0 + 15 + k) b = 0 ∨ σ (22 * 0 + 15 + k) b = 1) := by
  intro k hk b hb
  rw [show 22 * 0 + 15 + k = 15 + k by omega]
  exact h.2.2.2.2.2.2.1 k hk b hb
theorem Fr_s {σ : Mem} (h : Fr σ) {j : Nat} (hj : j < 5) : σ 92 j = 0 := h.2.2.2.2.2.2.2.1 j hj
theorem Fr_vil {σ : Mem} (h : Fr σ) {j : Nat} (hj : j < 6) : σ 92 (38 + j) = 0 := h.2.2.2.2.2.2.2.2.1 j hj
theorem Fr_kept {σ : Mem} (h : Fr σ) {j : Nat} (hj : j < 8) : σ 96 j = 0 := h.2.2.2.2.2.2.2.2.2.1 j hj
theorem Fr_mimg {σ : Mem} (h : Fr σ) : σ 91 10 = 0 := h.2.2.2.2.2.2.2.2.2.2
def FrM (σ : Mem) : Prop := (∀ k, k < 5 → σ 92 k = 0) ∧ (∀ k, k < 6 → σ 92 (38 + k) = 0) ∧ (∀ j, j < 8 → σ 96 j = 0) ∧ σ 91 10 = 0
theorem FrM_s {σ : Mem} (h : FrM σ) {j : Nat} (hj : j < 5) : σ 92 j = 0 := h.1 j hj
theorem FrM_vil {σ : Mem} (h : FrM σ) {j : Nat} (hj : j < 6) : σ 92 (38 + j) = 0 := h.2.1 j hj
theorem FrM_kept {σ : Mem} (h : FrM σ) {j : Nat} (hj : j < 8) : σ 96 j = 0 := h.2.2.1 j hj
theorem FrM_mimg {σ : Mem} (h : FrM σ) : σ 91 10 = 0 := h.2.2.2
theorem FrM_of {σ σ' : Mem} (h : Fr σ) (k : ∀ a, 91 ≤ a → σ' a = σ a) : FrM σ' := ⟨fun j hj => by rw [k 92 (by decide)]; exact Fr_s h hj, fun j hj => by rw [k 92 (by decide)]; exact Fr_vil h hj, fun j hj => by rw [k 96 (by decide)]; exact Fr_kept h hj, by rw [k 91 (by decide)]; exact Fr_mimg h⟩
theorem rz_ne (σ : Mem) {a i : Nat} (k : Nat) (h : a ≠ i) : rz σ i k a = σ a := by simp [rz, h]
theorem tbegK_ne (σ : Mem) {t k a : Nat} (h : a < 22 * t + 15 ∨ 22 * t + 15 + k ≤ a) : tbegK σ t k a = σ a := by
  have h : ¬ (22 * t + 15 ≤ a ∧ a < 22 * t + 15 + k) := by omega
  simp only [tbegK, if_neg h]
theorem tbeg_ne (σ : Mem) {t a : Nat} (h : a < 22 * t ∨ 22 * t + 22 ≤ a) : tbeg σ t a = σ a := by
  simp only [tbeg]
  rw [stm_ne _ _ _ (by omega), stm_ne _ _ _ (by omega), stm_ne _ _ _ (by omega), rz_ne _ _ (by omega), tbegK_ne _ (by omega)]
theorem tcpy_ne (σ : Mem) {t u a : Nat} (h : a < 22 * t ∨ 22 * t + 22 ≤ a) : tcpy σ t u a = σ a := by
  simp only [tcpy]
  rw [rcpy_ne _ _ _ (by omega), stm_ne _ _ _ (by omega), stm_ne _ _ _ (by omega), stm_ne _ _ _ (by omega), stm_ne _ _ _ (by omega), ccpyK_ne _ (by omega), rdcpy_ne _ (by omega)]
