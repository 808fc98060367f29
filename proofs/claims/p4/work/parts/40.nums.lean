/-! numbers -/
def iI (z : Int) : Int32 := Int32.ofInt z
theorem iI_n (n : Nat) : iI (n : Int) = nI n := Int32.ofInt_eq_ofNat
theorem iI_toInt {z : Int} (h1 : -2147483648 ≤ z) (h2 : z < 2147483648) : (iI z).toInt = z := Int32.toInt_ofInt_of_le (by omega) (by omega)
theorem nlt {a b : Nat} (ha : a < 2147483648) (hb : b < 2147483648) : (nI a < nI b) = (a < b) := by
  rw [Int32.lt_iff_toInt_lt, nI_toInt ha, nI_toInt hb]; simp
theorem nle {a b : Nat} (ha : a < 2147483648) (hb : b < 2147483648) : (nI a ≤ nI b) = (a ≤ b) := by
  rw [Int32.le_iff_toInt_le, nI_toInt ha, nI_toInt hb]; simp
theorem neq {a b : Nat} (ha : a < 2147483648) (hb : b < 2147483648) : (nI a = nI b) = (a = b) := by
  rw [← Int32.toInt_inj, nI_toInt ha, nI_toInt hb, Int.natCast_inj]
theorem ql0 : (0 : Int32) = nI 0 := rfl
theorem ql1 : (1 : Int32) = nI 1 := rfl
theorem ql2 : (2 : Int32) = nI 2 := rfl
theorem ql3 : (3 : Int32) = nI 3 := rfl
theorem ql5 : (5 : Int32) = nI 5 := rfl
theorem ql7 : (7 : Int32) = nI 7 := rfl
theorem ql8 : (8 : Int32) = nI 8 := rfl
theorem ql9 : (9 : Int32) = nI 9 := rfl
theorem ql11 : (11 : Int32) = nI 11 := rfl
theorem ql14 : (14 : Int32) = nI 14 := rfl
theorem ql38 : (38 : Int32) = nI 38 := rfl
theorem ql44 : (44 : Int32) = nI 44 := rfl
theorem ql73 : (73 : Int32) = nI 73 := rfl
theorem nI_mul (a b : Nat) : nI a * nI b = nI (a * b) := (Int32.ofNat_mul a b).symm
theorem nI_sub {a b : Nat} (h : b ≤ a) : nI a - nI b = nI (a - b) := by
  obtain ⟨d, rfl⟩ : ∃ d, a = d + b := ⟨a - b, by omega⟩
  rw [← nI_add, Nat.add_sub_cancel, Int32.add_sub_cancel]
theorem nI_sub1 {a : Nat} (h : 1 ≤ a) : nI a - 1 = nI (a - 1) := nI_sub h
theorem nI_i {n : Nat} {x : Int32} (h : 0 ≤ x.toInt) (h2 : x.toInt = n) : x = nI n := by
  apply Int32.toInt_inj.mp
  have := Int32.toInt_lt x
  rw [nI_toInt (by omega), h2]
theorem nI_nneg (a : Nat) (h : a < 2147483648) : ¬ nI a < 0 := nI_pos h
theorem nI_0le (a : Nat) (h : a < 2147483648) : 0 ≤ nI a := nI_pos' h
theorem nI_neN {a : Nat} (h : a < 2147483648) {z : Int32} (hz : z.toInt < 0) : ¬ nI a = z := fun q => by rw [← q, nI_toInt h] at hz; omega
theorem i32_lt {a b : Int32} : a < b ↔ a.toInt < b.toInt := Int32.lt_iff_toInt_lt
theorem i32_le {a b : Int32} : a ≤ b ↔ a.toInt ≤ b.toInt := Int32.le_iff_toInt_le
theorem i32_eq {a b : Int32} : a = b ↔ a.toInt = b.toInt := Int32.toInt_inj.symm
theorem t_add {a b : Int32} (h1 : -2147483648 ≤ a.toInt + b.toInt) (h2 : a.toInt + b.toInt < 2147483648) : (a + b).toInt = a.toInt + b.toInt := by
  rw [Int32.toInt_add, Int.bmod_eq_of_le (by omega) (by omega)]
theorem t_sub {a b : Int32} (h1 : -2147483648 ≤ a.toInt - b.toInt) (h2 : a.toInt - b.toInt < 2147483648) : (a - b).toInt = a.toInt - b.toInt := by
  rw [Int32.toInt_sub, Int.bmod_eq_of_le (by omega) (by omega)]
theorem t_mul {a b : Int32} (h1 : -2147483648 ≤ a.toInt * b.toInt) (h2 : a.toInt * b.toInt < 2147483648) : (a * b).toInt = a.toInt * b.toInt := by
  rw [Int32.toInt_mul, Int.bmod_eq_of_le (by omega) (by omega)]
theorem stm_at (σ : Mem) (i j : Nat) (v : Int32) : stm σ i j v i j = v := by simp [stm, upd]
theorem stm_o (σ : Mem) {i j j2 : Nat} (v : Int32) (h : j2 ≠ j) : stm σ i j v i j2 = σ i j2 := by simp [stm, upd, h]
theorem stm_n (σ : Mem) {i i2 : Nat} (j j2 : Nat) (v : Int32) (h : i2 ≠ i) : stm σ i j v i2 j2 = σ i2 j2 := by simp [stm, h]
/-! sums of lengths -/
def PS (len : Nat → Nat) : Nat → Nat
  | 0 => 0
  | p + 1 => PS len p + len p
theorem PS_s (len : Nat → Nat) (p : Nat) : PS len (p + 1) = PS len p + len p := rfl
theorem PS_mono {len : Nat → Nat} {p q : Nat} (h : p ≤ q) : PS len p ≤ PS len q := by
  obtain ⟨d, rfl⟩ : ∃ d, q = p + d := ⟨q - p, by omega⟩
  induction d with
  | zero => exact Nat.le_refl _
  | succ d ih => exact Nat.le_trans (ih (by omega)) (Nat.le_add_right _ _)
theorem PS_lt {len : Nat → Nat} {m p q : Nat} (hl : ∀ p, p < m → 2 ≤ len p ∧ len p ≤ 9) (h : p < q) (hq : q ≤ m) : PS len p + 2 ≤ PS len q := by
  have h1 := (hl p (by omega)).1
  have h2 : PS len (p + 1) ≤ PS len q := PS_mono h
  rw [PS_s] at h2
  omega
theorem PS_le {len : Nat → Nat} {m p : Nat} (hl : ∀ p, p < m → 2 ≤ len p ∧ len p ≤ 9) (h : p ≤ m) : PS len p ≤ 9 * p := by
  induction p with
  | zero => exact Nat.le_refl _
  | succ p ih =>
    have := (hl p (by omega)).2
    have := ih (by omega)
    rw [PS_s]
    omega
theorem PS_inj {len : Nat → Nat} {m p q : Nat} (hl : ∀ p, p < m → 2 ≤ len p ∧ len p ≤ 9) (hp : p ≤ m) (hq : q ≤ m) (h : PS len p = PS len q) : p = q := by
  rcases Nat.lt_trichotomy p q with k | k | k
  · have := PS_lt hl k hq; omega
  · exact k
  · have := PS_lt hl k hp; omega
/-- a spot below the end lies in a piece -/
theorem PS_in {len : Nat → Nat} {m x : Nat} (h : x < PS len m) : ∃ p, p < m ∧ PS len p ≤ x ∧ x < PS len (p + 1) := by
  induction m with
  | zero => exact absurd h (Nat.not_lt_zero _)
  | succ m ih =>
    by_cases k : x < PS len m
    · obtain ⟨p, h1, h2, h3⟩ := ih k
      exact ⟨p, by omega, h2, h3⟩
    · exact ⟨m, by omega, by omega, h⟩
theorem PS_un {len : Nat → Nat} {p q x : Nat} (h1 : PS len p ≤ x) (h2 : x < PS len (p + 1)) (h3 : PS len q ≤ x) (h4 : x < PS len (q + 1)) : p = q := by
  rcases Nat.lt_trichotomy p q with k | k | k
  · have : PS len (p + 1) ≤ PS len q := PS_mono k
    omega
  · exact k
  · have : PS len (q + 1) ≤ PS len p := PS_mono k
    omega
/-- how many of the first n carts are at x -/
def occ (sp : Nat → Int) (x : Int) : Nat → Nat
  | 0 => 0
  | n + 1 => occ sp x n + (if sp n = x then 1 else 0)
theorem occ_le (sp : Nat → Int) (x : Int) (n : Nat) : occ sp x n ≤ n := by
  induction n with
  | zero => exact Nat.le_refl _
  | succ n ih =>
    simp only [occ]
    split <;> omega
theorem occ_upd {sp sp' : Nat → Int} {c : Nat} (h : ∀ i, i ≠ c → sp' i = sp i) (x : Int) (n : Nat) : (occ sp' x n : Int) = occ sp x n + (if c < n then ((if sp' c = x then 1 else 0) - (if sp c = x then 1 else 0)) else 0) := by
  induction n with
  | zero => simp [occ]
  | succ n ih =>
    simp only [occ]
    by_cases k : n = c
    · subst k
      have : ¬ n < n := by omega
      have h2 : n < n + 1 := by omega
      simp only [this, if_false] at ih
      simp only [h2, if_true]
      push_cast
      split <;> split <;> omega
    · have h3 := h n k
      rw [h3]
      by_cases k2 : c < n
      · have h2 : c < n + 1 := by omega
        simp only [k2, if_true] at ih
        simp only [h2, if_true]
        push_cast
        split <;> omega
      · have h2 : ¬ c < n + 1 := by omega
        simp only [k2, if_false] at ih
        simp only [h2, if_false]
        push_cast
        split <;> omega
