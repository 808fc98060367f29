section
/-! numbers -/
def iI (z : Int) : Int32 := Int32.ofInt z
theorem iI_n (n : Nat) : iI (n : Int) = nI n := Int32.ofInt_eq_ofNat
theorem iI_toInt {z : Int} (h1 : -2147483648 ≤ z) (h2 : z < 2147483648) : (iI z).toInt = z := Int32.toInt_ofInt_of_le (by omega) (by omega)
theorem nlt {a b : Nat} (ha : a < 2147483648) (hb : b < 2147483648) : (nI a < nI b) = (a < b) := by
  rw [Int32.lt_iff_toInt_lt, nI_toInt ha, nI_toInt hb]; simp
theorem nle {a b : Nat} (ha : a < 2147483648) (hb : b < 2147483648) : (nI a ≤ nI b) = (a ≤ b) := by
  rw [Int32.le_iff_toInt_le, nI_toInt ha, nI_toInt hb]; simp
theorem neq {a b : Nat} (ha : a < 2147483648) (hb : b < 2147483648) : (nI a = nI b) = (a = b) := by
  rw [← Int32.toInt_inj, nI_toInt ha, nI_toInt hb, Int.natCast_inj]
theorem ql0 : (0 : Int32) = nI 0 := rfl
theorem ql1 : (1 : Int32) = nI 1 := rfl
theorem ql2 : (2 : Int32) = nI 2 := rfl
theorem ql3 : (3 : Int32) = nI 3 := rfl
theorem ql5 : (5 : Int32) = nI 5 := rfl
theorem ql7 : (7 : Int32) = nI 7 := rfl
theorem ql8 : (8 : Int32) = nI 8 := rfl
theorem ql9 : (9 : Int32) = nI 9 := rfl
theorem ql11 : (11 : Int32) = nI 11 := rfl
theorem ql14 : (14 : Int32) = nI 14 := rfl
theorem ql38 : (38 : Int32) = nI 38 := rfl
theorem ql44 : (44 : Int32) = nI 44 := rfl
theorem ql73 : (73 : Int32) = nI 73 := rfl
theorem nI_mul (a b : Nat) : nI a * nI b = nI (a * b) := (Int32.ofNat_mul a b).symm
theorem nI_sub {a b : Nat} (h : b ≤ a) : nI a - nI b = nI (a - b) := by
  obtain ⟨d, rfl⟩ : ∃ d, a = d + b := ⟨a - b, by omega⟩
  rw [← nI_add, Nat.add_sub_cancel, Int32.add_sub_cancel]
theorem nI_sub1 {a : Nat} (h : 1 ≤ a) : nI a - 1 = nI (a - 1) := nI_sub h
theorem nI_i {n : Nat} {x : Int32} (h : 0 ≤ x.toInt) (h2 : x.toInt = n) : x = nI n := by
  apply Int32.toInt_inj.mp
  have := Int32.toInt_lt x
  rw [nI_toInt (by omega), h2]
theorem nI_nneg (a : Nat) (h : a < 2147483648) : ¬ nI a < 0 := nI_pos h
theorem nI_0le (a : Nat) (h : a < 2147483648) : 0 ≤ nI a := nI_pos' h
theorem nI_neN {a : Nat} (h : a < 2147483648) {z : Int32} (hz : z.toInt < 0) : ¬ nI a = z := fun q => by rw [← q, nI_toInt h] at hz; omega
theorem i32_lt {a b : Int32} : a < b ↔ a.toInt < b.toInt := Int32.lt_iff_toInt_lt
theorem i32_le {a b : Int32} : a ≤ b ↔ a.toInt ≤ b.toInt := Int32.le_iff_toInt_le
theorem i32_eq {a b : Int32} : a = b ↔ a.toInt = b.toInt := Int32.toInt_inj.symm
theorem t_add {a b : Int32} (h1 : -2147483648 ≤ a.toInt + b.toInt) (h2 : a.toInt + b.toInt < 2147483648) : (a + b).toInt = a.toInt + b.toInt := by
  rw [Int32.toInt_add, Int.bmod_eq_of_le (by omega) (by omega)]
theorem t_sub {a b : Int32} (h1 : -2147483648 ≤ a.toInt - b.toInt) (h2 : a.toInt - b.toInt < 2147483648) : (a - b).toInt = a.toInt - b.toInt := by
  rw [Int32.toInt_sub, Int.bmod_eq_of_le (by omega) (by omega)]
theorem t_mul {a b : Int32} (h1 : -2147483648 ≤ a.toInt * b.toInt) (h2 : a.toInt * b.toInt < 2147483648) : (a * b).toInt = a.toInt * b.toInt := by
  rw [Int32.toInt_mul, Int.bmod_eq_of_le (by omega) (by omega)]
theorem stm_at (σ : Mem) (i j : Nat) (v : Int32) : stm σ i j v i j = v := by simp [stm, upd]
theorem stm_o (σ : Mem) {i j j2 : Nat} (v : Int32) (h : j2 ≠ j) : stm σ i j v i j2 = σ i j2 := by simp [stm, upd, h]
theorem stm_n (σ : Mem) {i i2 : Nat} (j j2 : Nat) (v : Int32) (h : i2 ≠ i) : stm σ i j v i2 j2 = σ i2 j2 := by simp [stm, h]
/-! sums of lengths -/
def PS (len : Nat → Nat) : Nat → Nat
  | 0 => 0
  | p + 1 => PS len p + len p
theorem PS_s (len : Nat → Nat) (p : Nat) : PS len (p + 1) = PS len p + len p := rfl
theorem PS_mono {len : Nat → Nat} {p q : Nat} (h : p ≤ q) : PS len p ≤ PS len q := by
  obtain ⟨d, rfl⟩ : ∃ d, q = p + d := ⟨q - p, by omega⟩
  induction d with
  | zero => exact Nat.le_refl _
  | succ d ih => exact Nat.le_trans (ih (by omega)) (Nat.le_add_right _ _)
theorem PS_lt {len : Nat → Nat} {m p q : Nat} (hl : ∀ p, p < m → 2 ≤ len p ∧ len p ≤ 9) (h : p < q) (hq : q ≤ m) : PS len p + 2 ≤ PS len q := by
  have h1 := (hl p (by omega)).1
  have h2 : PS len (p + 1) ≤ PS len q := PS_mono h
  rw [PS_s] at h2
  omega
theorem PS_le {len : Nat → Nat} {m p : Nat} (hl : ∀ p, p < m → 2 ≤ len p ∧ len p ≤ 9) (h : p ≤ m) : PS len p ≤ 9 * p := by
  induction p with
  | zero => exact Nat.le_refl _
  | succ p ih =>
    have := (hl p (by omega)).2
    have := ih (by omega)
    rw [PS_s]
    omega
theorem PS_inj {len : Nat → Nat} {m p q : Nat} (hl : ∀ p, p < m → 2 ≤ len p ∧ len p ≤ 9) (hp : p ≤ m) (hq : q ≤ m) (h : PS len p = PS len q) : p = q := by
  rcases Nat.lt_trichotomy p q with k | k | k
  · have := PS_lt hl k hq; omega
  · exact k
  · have := PS_lt hl k hp; omega
/-- a spot below the end lies in a piece -/
theorem PS_in {len : Nat → Nat} {m x : Nat} (h : x < PS len m) : ∃ p, p < m ∧ PS len p ≤ x ∧ x < PS len (p + 1) := by
  induction m with
  | zero => exact absurd h (Nat.not_lt_zero _)
  | succ m ih =>
    by_cases k : x < PS len m
    · obtain ⟨p, h1, h2, h3⟩ := ih k
      exact ⟨p, by omega, h2, h3⟩
    · exact ⟨m, by omega, by omega, h⟩
theorem PS_un {len : Nat → Nat} {p q x : Nat} (h1 : PS len p ≤ x) (h2 : x < PS len (p + 1)) (h3 : PS len q ≤ x) (h4 : x < PS len (q + 1)) : p = q := by
  rcases Nat.lt_trichotomy p q with k | k | k
  · have : PS len (p + 1) ≤ PS len q := PS_mono k
    omega
  · exact k
  · have : PS len (q + 1) ≤ PS len p := PS_mono k
    omega
/-- how many of the first n carts are at x -/
def occ (sp : Nat → Int) (x : Int) : Nat → Nat
  | 0 => 0
  | n + 1 => occ sp x n + (if sp n = x then 1 else 0)
theorem occ_le (sp : Nat → Int) (x : Int) (n : Nat) : occ sp x n ≤ n := by
  induction n with
  | zero => exact Nat.le_refl _
  | succ n ih =>
    simp only [occ]
    split <;> omega
theorem occ_upd {sp sp' : Nat → Int} {c : Nat} (h : ∀ i, i ≠ c → sp' i = sp i) (x : Int) (n : Nat) : (occ sp' x n : Int) = occ sp x n + (if c < n then ((if sp' c = x then 1 else 0) - (if sp c = x then 1 else 0)) else 0) := by
  induction n with
  | zero => simp [occ]
  | succ n ih =>
    simp only [occ]
    by_cases k : n = c
    · subst k
      have : ¬ n < n := by omega
      have h2 : n < n + 1 := by omega
      simp only [this, if_false] at ih
      simp only [h2, if_true]
      push_cast
      split <;> split <;> omega
    · have h3 := h n k
      rw [h3]
      by_cases k2 : c < n
      · have h2 : c < n + 1 := by omega
        simp only [k2, if_true] at ih
        simp only [h2, if_true]
        push_cast
        split <;> omega
      · have h2 : ¬ c < n + 1 := by omega
        simp only [k2, if_false] at ih
        simp only [h2, if_false]
        push_cast
        split <;> omega
end
section
/-! the reference row, its leaves -/
theorem ix14 {p : Nat} (h : p < 9) : ix 121 (14 + (3 * nI p)) = some (14 + 3 * p) := by
  rw [ql14, ql3, nI_mul, nI_add]; exact ix_nI (by omega) (by decide)
theorem ix15 {p : Nat} (h : p < 9) : ix 121 ((14 + (3 * nI p)) + 1) = some (15 + 3 * p) := by
  rw [ql14, ql3, ql1, nI_mul, nI_add, nI_add, show 14 + 3 * p + 1 = 15 + 3 * p by omega]; exact ix_nI (by omega) (by decide)
theorem ix16 {p : Nat} (h : p < 9) : ix 121 ((14 + (3 * nI p)) + 2) = some (16 + 3 * p) := by
  rw [ql14, ql3, ql2, nI_mul, nI_add, nI_add, show 14 + 3 * p + 2 = 16 + 3 * p by omega]; exact ix_nI (by omega) (by decide)
theorem ix5 {p : Nat} (h : p < 9) : ix 121 (5 + nI p) = some (5 + p) := by
  rw [ql5, nI_add]; exact ix_nI (by omega) (by decide)
theorem ix38 {v : Nat} (h : v < 3) : ix 121 (38 + (2 * nI v)) = some (38 + 2 * v) := by
  rw [ql38, ql2, nI_mul, nI_add]; exact ix_nI (by omega) (by decide)
theorem ix39 {v : Nat} (h : v < 3) : ix 121 ((38 + (2 * nI v)) + 1) = some (39 + 2 * v) := by
  rw [ql38, ql2, ql1, nI_mul, nI_add, nI_add, show 38 + 2 * v + 1 = 39 + 2 * v by omega]; exact ix_nI (by omega) (by decide)
theorem ixc {c f : Nat} (h : c < 7) (hf : f < 11) : ix 121 ((44 + (11 * nI c)) + nI f) = some (44 + f + 11 * c) := by
  rw [ql44, ql11, nI_mul, nI_add, nI_add, show 44 + 11 * c + f = 44 + f + 11 * c by omega]; exact ix_nI (by omega) (by decide)
theorem get0 {σ : Mem} {a c : Nat} (h : c < 7) : F_X8_get σ a (nI c) 0 = some (σ a (44 + 11 * c)) := by unfold F_X8_get; rw [show (0 : Int32) = nI 0 from rfl, ixc h (by decide)]; rfl
theorem puts0 {σ : Mem} {a c : Nat} {v : Int32} (h : c < 7) : F_X8_puts σ a (nI c) 0 v = some (stm σ a (44 + 11 * c) v) := by unfold F_X8_puts; rw [show (0 : Int32) = nI 0 from rfl, ixc h (by decide)]; rfl
theorem get1 {σ : Mem} {a c : Nat} (h : c < 7) : F_X8_get σ a (nI c) 1 = some (σ a (45 + 11 * c)) := by unfold F_X8_get; rw [show (1 : Int32) = nI 1 from rfl, ixc h (by decide)]; rfl
theorem puts1 {σ : Mem} {a c : Nat} {v : Int32} (h : c < 7) : F_X8_puts σ a (nI c) 1 v = some (stm σ a (45 + 11 * c) v) := by unfold F_X8_puts; rw [show (1 : Int32) = nI 1 from rfl, ixc h (by decide)]; rfl
theorem get2 {σ : Mem} {a c : Nat} (h : c < 7) : F_X8_get σ a (nI c) 2 = some (σ a (46 + 11 * c)) := by unfold F_X8_get; rw [show (2 : Int32) = nI 2 from rfl, ixc h (by decide)]; rfl
theorem puts2 {σ : Mem} {a c : Nat} {v : Int32} (h : c < 7) : F_X8_puts σ a (nI c) 2 v = some (stm σ a (46 + 11 * c) v) := by unfold F_X8_puts; rw [show (2 : Int32) = nI 2 from rfl, ixc h (by decide)]; rfl
theorem get3 {σ : Mem} {a c : Nat} (h : c < 7) : F_X8_get σ a (nI c) 3 = some (σ a (47 + 11 * c)) := by unfold F_X8_get; rw [show (3 : Int32) = nI 3 from rfl, ixc h (by decide)]; rfl
theorem puts3 {σ : Mem} {a c : Nat} {v : Int32} (h : c < 7) : F_X8_puts σ a (nI c) 3 v = some (stm σ a (47 + 11 * c) v) := by unfold F_X8_puts; rw [show (3 : Int32) = nI 3 from rfl, ixc h (by decide)]; rfl
theorem get4 {σ : Mem} {a c : Nat} (h : c < 7) : F_X8_get σ a (nI c) 4 = some (σ a (48 + 11 * c)) := by unfold F_X8_get; rw [show (4 : Int32) = nI 4 from rfl, ixc h (by decide)]; rfl
theorem puts4 {σ : Mem} {a c : Nat} {v : Int32} (h : c < 7) : F_X8_puts σ a (nI c) 4 v = some (stm σ a (48 + 11 * c) v) := by unfold F_X8_puts; rw [show (4 : Int32) = nI 4 from rfl, ixc h (by decide)]; rfl
theorem get5 {σ : Mem} {a c : Nat} (h : c < 7) : F_X8_get σ a (nI c) 5 = some (σ a (49 + 11 * c)) := by unfold F_X8_get; rw [show (5 : Int32) = nI 5 from rfl, ixc h (by decide)]; rfl
theorem puts5 {σ : Mem} {a c : Nat} {v : Int32} (h : c < 7) : F_X8_puts σ a (nI c) 5 v = some (stm σ a (49 + 11 * c) v) := by unfold F_X8_puts; rw [show (5 : Int32) = nI 5 from rfl, ixc h (by decide)]; rfl
theorem get6 {σ : Mem} {a c : Nat} (h : c < 7) : F_X8_get σ a (nI c) 6 = some (σ a (50 + 11 * c)) := by unfold F_X8_get; rw [show (6 : Int32) = nI 6 from rfl, ixc h (by decide)]; rfl
theorem puts6 {σ : Mem} {a c : Nat} {v : Int32} (h : c < 7) : F_X8_puts σ a (nI c) 6 v = some (stm σ a (50 + 11 * c) v) := by unfold F_X8_puts; rw [show (6 : Int32) = nI 6 from rfl, ixc h (by decide)]; rfl
theorem get7 {σ : Mem} {a c : Nat} (h : c < 7) : F_X8_get σ a (nI c) 7 = some (σ a (51 + 11 * c)) := by unfold F_X8_get; rw [show (7 : Int32) = nI 7 from rfl, ixc h (by decide)]; rfl
theorem puts7 {σ : Mem} {a c : Nat} {v : Int32} (h : c < 7) : F_X8_puts σ a (nI c) 7 v = some (stm σ a (51 + 11 * c) v) := by unfold F_X8_puts; rw [show (7 : Int32) = nI 7 from rfl, ixc h (by decide)]; rfl
theorem get8 {σ : Mem} {a c : Nat} (h : c < 7) : F_X8_get σ a (nI c) 8 = some (σ a (52 + 11 * c)) := by unfold F_X8_get; rw [show (8 : Int32) = nI 8 from rfl, ixc h (by decide)]; rfl
theorem puts8 {σ : Mem} {a c : Nat} {v : Int32} (h : c < 7) : F_X8_puts σ a (nI c) 8 v = some (stm σ a (52 + 11 * c) v) := by unfold F_X8_puts; rw [show (8 : Int32) = nI 8 from rfl, ixc h (by decide)]; rfl
theorem get9 {σ : Mem} {a c : Nat} (h : c < 7) : F_X8_get σ a (nI c) 9 = some (σ a (53 + 11 * c)) := by unfold F_X8_get; rw [show (9 : Int32) = nI 9 from rfl, ixc h (by decide)]; rfl
theorem puts9 {σ : Mem} {a c : Nat} {v : Int32} (h : c < 7) : F_X8_puts σ a (nI c) 9 v = some (stm σ a (53 + 11 * c) v) := by unfold F_X8_puts; rw [show (9 : Int32) = nI 9 from rfl, ixc h (by decide)]; rfl
theorem get10 {σ : Mem} {a c : Nat} (h : c < 7) : F_X8_get σ a (nI c) 10 = some (σ a (54 + 11 * c)) := by unfold F_X8_get; rw [show (10 : Int32) = nI 10 from rfl, ixc h (by decide)]; rfl
theorem puts10 {σ : Mem} {a c : Nat} {v : Int32} (h : c < 7) : F_X8_puts σ a (nI c) 10 v = some (stm σ a (54 + 11 * c) v) := by unfold F_X8_puts; rw [show (10 : Int32) = nI 10 from rfl, ixc h (by decide)]; rfl
/-- the road of a row: m pieces of lengths len -/
def VS (k : Nat → Int32) (m : Nat) (len : Nat → Nat) : Prop := (k 0 = nI m ∧ m ≤ 8) ∧ (∀ p, p < m → k (14 + 3 * p) = nI (len p)) ∧ (∀ p, p < m → 2 ≤ len p ∧ len p ≤ 9) ∧ (∀ p, p < m → ((k (15 + 3 * p) = 0 ∨ k (15 + 3 * p) = 1 ∨ k (15 + 3 * p) = 2) ∧ (k (16 + 3 * p) = 0 ∨ k (16 + 3 * p) = 1 ∨ k (16 + 3 * p) = 2))) ∧ (∀ p, 1 ≤ p → p ≤ 8 → (0 ≤ (k (5 + p)).toInt ∧ (k (5 + p)).toInt ≤ 4) ∧ (m ≤ p → k (5 + p) = 1)) ∧ (∀ v, v < 3 → (0 ≤ (k (38 + 2 * v)).toInt ∧ (k (38 + 2 * v)).toInt ≤ 7) ∧ (0 ≤ (k (39 + 2 * v)).toInt ∧ (k (39 + 2 * v)).toInt ≤ 9))
theorem VS_m {k : Nat → Int32} {m : Nat} {len : Nat → Nat} (h : VS k m len) : k 0 = nI m := h.1.1
theorem VS_8 {k : Nat → Int32} {m : Nat} {len : Nat → Nat} (h : VS k m len) : m ≤ 8 := h.1.2
theorem VS_len {k : Nat → Int32} {m : Nat} {len : Nat → Nat} (h : VS k m len) {p : Nat} (hp : p < m) : k (14 + 3 * p) = nI (len p) := h.2.1 p hp
theorem VS_b {k : Nat → Int32} {m : Nat} {len : Nat → Nat} (h : VS k m len) : ∀ p, p < m → 2 ≤ len p ∧ len p ≤ 9 := h.2.2.1
theorem VS_hill {k : Nat → Int32} {m : Nat} {len : Nat → Nat} (h : VS k m len) {p : Nat} (hp : p < m) : k (15 + 3 * p) = 0 ∨ k (15 + 3 * p) = 1 ∨ k (15 + 3 * p) = 2 := (h.2.2.2.1 p hp).1
theorem VS_vil {k : Nat → Int32} {m : Nat} {len : Nat → Nat} (h : VS k m len) {p : Nat} (hp : p < m) : k (16 + 3 * p) = 0 ∨ k (16 + 3 * p) = 1 ∨ k (16 + 3 * p) = 2 := (h.2.2.2.1 p hp).2
theorem VS_room {k : Nat → Int32} {m : Nat} {len : Nat → Nat} (h : VS k m len) {p : Nat} (h1 : 1 ≤ p) (h2 : p ≤ 8) : 0 ≤ (k (5 + p)).toInt ∧ (k (5 + p)).toInt ≤ 4 := (h.2.2.2.2.1 p h1 h2).1
theorem VS_rule {k : Nat → Int32} {m : Nat} {len : Nat → Nat} (h : VS k m len) {v : Nat} (hv : v < 3) : (0 ≤ (k (38 + 2 * v)).toInt ∧ (k (38 + 2 * v)).toInt ≤ 7) ∧ (0 ≤ (k (39 + 2 * v)).toInt ∧ (k (39 + 2 * v)).toInt ≤ 9) := h.2.2.2.2.2 v hv
theorem VS_72 {k : Nat → Int32} {m : Nat} {len : Nat → Nat} (h : VS k m len) {p : Nat} (hp : p ≤ m) : PS len p ≤ 72 := by
  have h1 := PS_le (VS_b h) hp
  have h2 := VS_8 h
  omega
theorem vil3 {x : Int32} (h : x = 0 ∨ x = 1 ∨ x = 2) : ∃ v : Nat, v < 3 ∧ x = nI v := by
  rcases h with h | h | h
  · exact ⟨0, by decide, h⟩
  · exact ⟨1, by decide, h⟩
  · exact ⟨2, by decide, h⟩
theorem spotOf_l {σ : Mem} {a m : Nat} {len : Nat → Nat} (V : VS (σ a) m len) (q : Nat) (hq : q ≤ m) : ∀ (d p nn : Nat), p + d = q → d < nn → F_X8_spotOf_4 σ a (nI q) nn (nI p) (nI (PS len p)) = some (nI (PS len q)) := by
  have h8 := VS_8 V
  intro d
  induction d with
  | zero =>
    intro p nn h1 h2
    obtain ⟨nn, rfl⟩ : ∃ j, nn = j + 1 := ⟨nn - 1, by omega⟩
    rw [F_X8_spotOf_4, if_pos (by rw [nle (by omega) (by omega)]; omega), show p = q by omega]
  | succ d ih =>
    intro p nn h1 h2
    obtain ⟨nn, rfl⟩ : ∃ j, nn = j + 1 := ⟨nn - 1, by omega⟩
    rw [F_X8_spotOf_4, if_neg (by rw [nle (by omega) (by omega)]; omega), ix14 (by omega), Option.bind_some, VS_len V (by omega), nI_1, nI_add, ← PS_s]
    exact ih (p + 1) nn (by omega) (by omega)
theorem spotOf_r {σ : Mem} {a m : Nat} {len : Nat → Nat} (V : VS (σ a) m len) {q : Nat} (hq : q ≤ m) : F_X8_spotOf σ a (nI q) = some (nI (PS len q)) := by
  have h8 := VS_8 V
  exact spotOf_l V q hq q 0 FU (by omega) (Nat.lt_of_lt_of_le (show q < 100 by omega) (by decide))
theorem endOf_r {σ : Mem} {a m : Nat} {len : Nat → Nat} (V : VS (σ a) m len) : F_X8_endOf σ a = some (nI (PS len m)) := by
  unfold F_X8_endOf
  rw [VS_m V, spotOf_r V (Nat.le_refl _)]; rfl
/-- the search for a place, from p on -/
theorem placeAt_l {σ : Mem} {a m : Nat} {len : Nat → Nat} (V : VS (σ a) m len) {x : Nat} (hx : x ≤ 72) : ∀ (d p nn : Nat), p + d = m → d < nn → (∀ q, q < p → PS len q ≠ x) → F_X8_placeAt_4 σ a (nI x) (nn + 1) (nI p) (nI (PS len p)) = some (-4) ∧ (∀ q, q ≤ m → PS len q ≠ x) ∨ ∃ q, q ≤ m ∧ PS len q = x ∧ F_X8_placeAt_4 σ a (nI x) (nn + 1) (nI p) (nI (PS len p)) = some (nI q) := by
  have h8 := VS_8 V
  intro d
  induction d with
  | zero =>
    intro p nn h1 h2 hne
    obtain rfl : p = m := by omega
    have h72 := VS_72 V (Nat.le_refl p)
    obtain ⟨nn, rfl⟩ : ∃ j, nn = j + 1 := ⟨nn - 1, by omega⟩
    by_cases hq : PS len p = x
    · right
      refine ⟨p, Nat.le_refl _, hq, ?_⟩
      rw [F_X8_placeAt_4, VS_m V, if_neg (by rw [nlt (by omega) (by omega)]; omega), if_pos (by rw [hq])]
    · left
      refine ⟨?_, fun q hqm => ?_⟩
      · rw [F_X8_placeAt_4, VS_m V, if_neg (by rw [nlt (by omega) (by omega)]; omega), if_neg (by rw [neq (by omega) (by omega)]; exact hq), if_pos (by rw [nle (by omega) (by omega)]; omega), F_X8_placeAt_4, nI_1, VS_m V, if_pos (by rw [nlt (by omega) (by omega)]; omega)]
      · rcases Nat.lt_or_ge q p with h | h
        · exact hne q h
        · rw [show q = p by omega]; exact hq
  | succ d ih =>
    intro p nn h1 h2 hne
    obtain ⟨nn, rfl⟩ : ∃ j, nn = j + 1 := ⟨nn - 1, by omega⟩
    have h72 := VS_72 V (show p ≤ m by omega)
    by_cases hq : PS len p = x
    · right
      refine ⟨p, by omega, hq, ?_⟩
      rw [F_X8_placeAt_4, VS_m V, if_neg (by rw [nlt (by omega) (by omega)]; omega), if_pos (by rw [hq])]
    · have := ih (p + 1) nn (by omega) (by omega) (fun q hq2 => by
        rcases Nat.lt_or_ge q p with h | h
        · exact hne q h
        · rw [show q = p by omega]; exact hq)
      rw [F_X8_placeAt_4, VS_m V, if_neg (by rw [nlt (by omega) (by omega)]; omega), if_neg (by rw [neq (by omega) (by omega)]; exact hq), if_neg (by rw [nle (by omega) (by omega)]; omega), ix14 (by omega), Option.bind_some, VS_len V (by omega), nI_1, nI_add, ← PS_s]
      exact this
theorem placeAt_r {σ : Mem} {a m : Nat} {len : Nat → Nat} (V : VS (σ a) m len) {x : Nat} (hx : x ≤ 72) : (F_X8_placeAt σ a (nI x) = some (-4) ∧ (∀ q, q ≤ m → PS len q ≠ x)) ∨ ∃ q, q ≤ m ∧ PS len q = x ∧ F_X8_placeAt σ a (nI x) = some (nI q) := by
  have h8 := VS_8 V
  exact placeAt_l V hx m 0 1999 (by omega) (by omega) (fun q h => absurd h (Nat.not_lt_zero _))
theorem placeAt_at {σ : Mem} {a m : Nat} {len : Nat → Nat} (V : VS (σ a) m len) {p : Nat} (hp : p ≤ m) : F_X8_placeAt σ a (nI (PS len p)) = some (nI p) := by
  rcases placeAt_r V (VS_72 V hp) with ⟨-, h⟩ | ⟨q, h1, h2, h3⟩
  · exact absurd rfl (h p hp)
  · rw [h3, PS_inj (VS_b V) h1 hp h2]
theorem placeAt_no {σ : Mem} {a m : Nat} {len : Nat → Nat} (V : VS (σ a) m len) {p x : Nat} (hp : p < m) (h1 : PS len p < x) (h2 : x < PS len (p + 1)) : F_X8_placeAt σ a (nI x) = some (-4) := by
  have h72 := VS_72 V (show p + 1 ≤ m by omega)
  rcases placeAt_r V (show x ≤ 72 by omega) with ⟨h, -⟩ | ⟨q, h3, h4, -⟩
  · exact h
  · rcases Nat.lt_or_ge p q with h | h
    · have : PS len (p + 1) ≤ PS len q := PS_mono h
      omega
    · have : PS len q ≤ PS len p := PS_mono h
      omega
theorem pieceUp_l {σ : Mem} {a m : Nat} {len : Nat → Nat} (V : VS (σ a) m len) {q x : Nat} {w : Int32} (hw : ¬ w ≤ 0) (hq : q < m) (h1 : PS len q ≤ x) (h2 : x < PS len (q + 1)) : ∀ (d p nn : Nat), p + d = q → d < nn → F_X8_pieceFrom_5 σ a (nI x) w nn (nI (PS len p)) (nI p) = some (nI q) := by
  have h8 := VS_8 V
  have h72 := VS_72 V (show q + 1 ≤ m by omega)
  intro d
  induction d with
  | zero =>
    intro p nn h3 h4
    obtain rfl : p = q := by omega
    obtain ⟨nn, rfl⟩ : ∃ j, nn = j + 1 := ⟨nn - 1, by omega⟩
    rw [F_X8_pieceFrom_5, if_neg hw, ix14 (by omega), Option.bind_some, VS_len V hq, nI_add, ← PS_s, if_pos (by rw [nlt (by omega) (by omega)]; exact h2)]
  | succ d ih =>
    intro p nn h3 h4
    obtain ⟨nn, rfl⟩ : ∃ j, nn = j + 1 := ⟨nn - 1, by omega⟩
    have h5 : PS len (p + 1) ≤ PS len q := PS_mono (by omega)
    rw [F_X8_pieceFrom_5, if_neg hw, ix14 (by omega), Option.bind_some, VS_len V (by omega), nI_add, ← PS_s, if_neg (by rw [nlt (by omega) (by omega)]; omega), Option.bind_some, VS_len V (by omega), nI_add, ← PS_s, nI_1]
    exact ih (p + 1) nn (by omega) (by omega)
theorem pieceUp {σ : Mem} {a m : Nat} {len : Nat → Nat} (V : VS (σ a) m len) {q x : Nat} {w : Int32} (hw : ¬ w ≤ 0) (hq : q < m) (h1 : PS len q ≤ x) (h2 : x < PS len (q + 1)) : F_X8_pieceFrom σ a (nI x) w = some (nI q) := by
  have h8 := VS_8 V
  exact pieceUp_l V hw hq h1 h2 q 0 FU (by omega) (Nat.lt_of_lt_of_le (show q < 100 by omega) (by decide))
theorem pieceDn_l {σ : Mem} {a m : Nat} {len : Nat → Nat} (V : VS (σ a) m len) {q x : Nat} {w : Int32} (hw : w ≤ 0) (hq : q < m) (h1 : PS len q < x) (h2 : x ≤ PS len (q + 1)) : ∀ (d p nn : Nat), p + d = q → d < nn → F_X8_pieceFrom_5 σ a (nI x) w nn (nI (PS len p)) (nI p) = some (nI q) := by
  have h8 := VS_8 V
  have h72 := VS_72 V (show q + 1 ≤ m by omega)
  intro d
  induction d with
  | zero =>
    intro p nn h3 h4
    obtain rfl : p = q := by omega
    obtain ⟨nn, rfl⟩ : ∃ j, nn = j + 1 := ⟨nn - 1, by omega⟩
    rw [F_X8_pieceFrom_5, if_pos hw, ix14 (by omega), Option.bind_some, VS_len V hq, nI_add, ← PS_s, if_pos (by rw [nle (by omega) (by omega)]; exact h2)]
  | succ d ih =>
    intro p nn h3 h4
    obtain ⟨nn, rfl⟩ : ∃ j, nn = j + 1 := ⟨nn - 1, by omega⟩
    have h5 : PS len (p + 1) ≤ PS len q := PS_mono (by omega)
    rw [F_X8_pieceFrom_5, if_pos hw, ix14 (by omega), Option.bind_some, VS_len V (by omega), nI_add, ← PS_s, if_neg (by rw [nle (by omega) (by omega)]; omega), Option.bind_some, VS_len V (by omega), nI_add, ← PS_s, nI_1]
    exact ih (p + 1) nn (by omega) (by omega)
theorem pieceDn {σ : Mem} {a m : Nat} {len : Nat → Nat} (V : VS (σ a) m len) {q x : Nat} {w : Int32} (hw : w ≤ 0) (hq : q < m) (h1 : PS len q < x) (h2 : x ≤ PS len (q + 1)) : F_X8_pieceFrom σ a (nI x) w = some (nI q) := by
  have h8 := VS_8 V
  exact pieceDn_l V hw hq h1 h2 q 0 FU (by omega) (Nat.lt_of_lt_of_le (show q < 100 by omega) (by decide))
end
section
/-! class against reference: the relation, its leaves -/
def bI (b : Bool) : Int32 := if b then 1 else 0
theorem bI_t : bI true = 1 := rfl
theorem bI_f : bI false = 0 := rfl
theorem bd2_s {α β γ : Type} (a : α) (b : β) (f : α → β → Option γ) : bd2 (some (a, b)) f = f a b := rfl
theorem ck_t {α : Type} {c : Prop} [Decidable c] (f : Option α) (h : c) : ck c f = f := if_pos h
theorem lm_e {α β : Type} (x : α) (f : α → Option β) : lm x f = f x := rfl
/-- cart c of the row k, as row r of the class holds it -/
def CW (r k : Nat → Int32) (c : Nat) : Prop := (k (44 + 11 * c) = 1 ∧ r 0 = 1 ∨ k (44 + 11 * c) = -1 ∧ r 0 = 0) ∧ (r 1 = k (46 + 11 * c) ∧ r 2 = k (45 + 11 * c) ∧ r 3 = k (47 + 11 * c) ∧ r 4 = k (48 + 11 * c) ∧ r 5 = k (54 + 11 * c)) ∧ r 6 = k (49 + 11 * c) ∧ (k (50 + 11 * c) = 0 ∧ r 7 = 0 ∨ k (50 + 11 * c) = 1 ∧ r 7 = 1 ∧ r 8 = 0 ∨ k (50 + 11 * c) = 2 ∧ r 7 = 1 ∧ r 8 = 1) ∧ (k (49 + 11 * c) = -3 ∨ r 9 = k (51 + 11 * c)) ∧ r 10 = k (52 + 11 * c) ∧ r 11 = k (53 + 11 * c)
/-- what a cart of the row k may hold; E the end -/
def KO (k : Nat → Int32) (c E : Nat) : Prop := (k (44 + 11 * c) = 1 ∨ k (44 + 11 * c) = -1) ∧ (k (46 + 11 * c) = 0 ∨ k (46 + 11 * c) = 1) ∧ (∃ b : Nat, b ≤ 3 ∧ k (47 + 11 * c) = nI b) ∧ (∃ w : Nat, w ≤ 99 ∧ k (48 + 11 * c) = nI w) ∧ (k (49 + 11 * c) = -2 ∨ k (49 + 11 * c) = -3 ∨ ∃ x : Nat, k (49 + 11 * c) = nI x ∧ x ≤ E ∧ (k (44 + 11 * c) = 1 → x < E) ∧ (k (44 + 11 * c) = -1 → 0 < x))
/-- the road of the row k, as traffic t of the class holds it -/
def RD (σ : Mem) (t : Nat) (k : Nat → Int32) (m : Nat) (len : Nat → Nat) : Prop :=
  σ (22 * t + 1) 0 = nI m ∧ σ (22 * t + 1) 1 = nI (PS len m) ∧
  (∀ p, p < m → σ (22 * t + 2) p = k (14 + 3 * p) ∧ σ (22 * t + 3) p = k (15 + 3 * p) ∧ σ (22 * t + 4) p = k (16 + 3 * p)) ∧
  (∀ p, 1 ≤ p → p ≤ m → σ (22 * t + 5) p = k (5 + p)) ∧
  (∀ p, p ≤ m → σ (22 * t + 6) p = nI (PS len p) ∧ σ (22 * t + 7) (PS len p) = nI p ∧ σ (22 * t + 9) (PS len p) = 0 ∧ σ (22 * t + 10) (PS len p) = 0) ∧
  (∀ p x, p < m → PS len p < x → x < PS len (p + 1) → σ (22 * t + 7) x = -1 ∧ σ (22 * t + 9) x = nI (x - PS len p) ∧ σ (22 * t + 10) x = nI (PS len (p + 1) - x)) ∧
  (∀ p x, p < m → PS len p ≤ x → x < PS len (p + 1) → σ (22 * t + 8) x = nI p) ∧
  (∀ v, v < 3 → σ (22 * t + 11) v = k (38 + 2 * v) ∧ σ (22 * t + 12) v = k (39 + 2 * v))
abbrev spk (k : Nat → Int32) : Nat → Int := fun c => (k (49 + 11 * c)).toInt
/-- traffic t of the class holds what the row k tells: m pieces, n carts -/
def RT (σ : Mem) (t : Nat) (k : Nat → Int32) (m : Nat) (len : Nat → Nat) (n : Nat) : Prop :=
  VS k m len ∧ (k 1 = nI n ∧ n ≤ 7) ∧ (∃ M : Nat, M ≤ 999 ∧ k 2 = nI M) ∧ (∀ c, c < n → KO k c (PS len m)) ∧ RD σ t k m len ∧
  (σ (22 * t) 2 = k 1 ∧ σ (22 * t) 3 = k 2 ∧ σ (22 * t) 4 = k 3 ∧ σ (22 * t) 5 = k 4) ∧ (∀ c, c < n → CW (σ (22 * t + 15 + c)) k c) ∧ cb01 σ t ∧
  (∀ s, s < 73 → σ (22 * t + 14) s = nI (occ (spk k) s n)) ∧ (∀ c, c < n → k (49 + 11 * c) = -2 → k (51 + 11 * c) = 0)
section RL
variable {σ ρ : Mem} {t a m n : Nat} {k : Nat → Int32} {len : Nat → Nat}
theorem RT_V (R : RT σ t k m len n) : VS k m len := R.1
theorem RT_n (R : RT σ t k m len n) : k 1 = nI n := R.2.1.1
theorem RT_7 (R : RT σ t k m len n) : n ≤ 7 := R.2.1.2
theorem RT_M (R : RT σ t k m len n) : ∃ M : Nat, M ≤ 999 ∧ k 2 = nI M := R.2.2.1
theorem RT_K (R : RT σ t k m len n) {c : Nat} (h : c < n) : KO k c (PS len m) := R.2.2.2.1 c h
theorem RT_R (R : RT σ t k m len n) : RD σ t k m len := R.2.2.2.2.1
theorem RT_2 (R : RT σ t k m len n) : σ (22 * t) 2 = nI n := R.2.2.2.2.2.1.1.trans (RT_n R)
theorem RT_3 (R : RT σ t k m len n) : σ (22 * t) 3 = k 2 := R.2.2.2.2.2.1.2.1
theorem RT_4 (R : RT σ t k m len n) : σ (22 * t) 4 = k 3 := R.2.2.2.2.2.1.2.2.1
theorem RT_5 (R : RT σ t k m len n) : σ (22 * t) 5 = k 4 := R.2.2.2.2.2.1.2.2.2
theorem RT_C (R : RT σ t k m len n) {c : Nat} (h : c < n) : CW (σ (22 * t + 15 + c)) k c := R.2.2.2.2.2.2.1 c h
theorem RT_b (R : RT σ t k m len n) : cb01 σ t := R.2.2.2.2.2.2.2.1
theorem RT_on (R : RT σ t k m len n) {s : Nat} (h : s < 73) : σ (22 * t + 14) s = nI (occ (spk k) s n) := R.2.2.2.2.2.2.2.2.1 s h
theorem RT_z (R : RT σ t k m len n) {c : Nat} (h : c < n) (e : k (49 + 11 * c) = -2) : k (51 + 11 * c) = 0 := R.2.2.2.2.2.2.2.2.2 c h e
theorem RT_72 (R : RT σ t k m len n) {p : Nat} (h : p ≤ m) : PS len p ≤ 72 := VS_72 (RT_V R) h
theorem RT_8 (R : RT σ t k m len n) : m ≤ 8 := VS_8 (RT_V R)
theorem spot_cases {x : Nat} (h : x ≤ PS len m) : (∃ p, p ≤ m ∧ x = PS len p) ∨ ∃ p, p < m ∧ PS len p < x ∧ x < PS len (p + 1) := by
  rcases Nat.lt_or_ge x (PS len m) with q | q
  · obtain ⟨p, h1, h2, h3⟩ := PS_in q
    by_cases e : PS len p = x
    · exact Or.inl ⟨p, by omega, e.symm⟩
    · exact Or.inr ⟨p, h1, by omega, h3⟩
  · exact Or.inl ⟨m, Nat.le_refl _, by omega⟩
/-! leaves of the class -/
theorem isSpot_c (R : RT σ t k m len n) {x : Nat} (hx : x ≤ PS len m) : F_X4_isSpot σ t (nI x) = some 1 := by
  have h72 := RT_72 R (Nat.le_refl m)
  unfold F_X4_isSpot
  rw [if_neg (nI_pos (by omega)), (RT_R R).2.1, if_neg (nI_nlt hx (by omega)), if_neg (show ¬ (73 : Int32) ≤ nI x from nI_ge (a := x) (b := 73) (by omega) (by decide))]
theorem isSpot_neg {x : Int32} (hx : x < 0) : F_X4_isSpot σ t x = some 0 := by
  unfold F_X4_isSpot
  rw [if_pos hx]
theorem placeOf_at (R : RT σ t k m len n) {p : Nat} (hp : p ≤ m) : F_X4_placeOf σ t (nI (PS len p)) = some (nI p) := by
  have h72 := RT_72 R hp
  unfold F_X4_placeOf
  rw [isSpot_c R (PS_mono hp), Option.bind_some, if_neg (by decide), ix_nI (by omega) (by decide), Option.bind_some, ((RT_R R).2.2.2.2.1 p hp).2.1]
theorem placeOf_in (R : RT σ t k m len n) {p x : Nat} (hp : p < m) (h1 : PS len p < x) (h2 : x < PS len (p + 1)) : F_X4_placeOf σ t (nI x) = some (-1) := by
  have h72 := RT_72 R (show p + 1 ≤ m by omega)
  have h3 : PS len (p + 1) ≤ PS len m := PS_mono (by omega)
  unfold F_X4_placeOf
  rw [isSpot_c R (by omega), Option.bind_some, if_neg (by decide), ix_nI (by omega) (by decide), Option.bind_some, ((RT_R R).2.2.2.2.2.1 p x hp h1 h2).1]
theorem placeOf_neg {x : Int32} (hx : x < 0) : F_X4_placeOf σ t x = some (-1) := by
  unfold F_X4_placeOf
  rw [isSpot_neg hx, Option.bind_some, if_pos rfl]
theorem hillOf_c (R : RT σ t k m len n) {p : Nat} (hp : p < m) : F_X4_hillOf σ t (nI p) = some (k (15 + 3 * p)) := by
  have h8 := RT_8 R
  unfold F_X4_hillOf
  rw [if_neg (nI_pos (by omega)), (RT_R R).1, if_pos (nI_lt hp (by omega)), ix_nI (by omega) (by decide), Option.bind_some, ((RT_R R).2.2.1 p hp).2.1]
theorem villageBy_c (R : RT σ t k m len n) {p : Nat} (hp : p < m) : F_X4_villageBy σ t (nI p) = some (k (16 + 3 * p)) := by
  have h8 := RT_8 R
  unfold F_X4_villageBy
  rw [if_neg (nI_pos (by omega)), (RT_R R).1, if_pos (nI_lt hp (by omega)), ix_nI (by omega) (by decide), Option.bind_some, ((RT_R R).2.2.1 p hp).2.2]
theorem spotOfPlace_c (R : RT σ t k m len n) {p : Nat} (hp : p ≤ m) : F_X4_spotOfPlace σ t (nI p) = some (nI (PS len p)) := by
  have h8 := RT_8 R
  unfold F_X4_spotOfPlace
  rw [if_neg (nI_pos (by omega)), (RT_R R).1, if_pos (nI_le hp (by omega)), ix_nI (by omega) (by decide), Option.bind_some, ((RT_R R).2.2.2.2.1 p hp).1]
theorem isBetween_c (R : RT σ t k m len n) {p : Nat} (hp : p ≤ m) : F_X4_isBetween σ t (nI p) = some (bI (decide (0 < p ∧ p < m))) := by
  have h8 := RT_8 R
  unfold F_X4_isBetween
  by_cases h0 : p = 0
  · subst h0
    rw [if_pos (by decide)]; simp [bI]
  · rw [if_neg (nI_nle (by omega) (by omega)), (RT_R R).1]
    by_cases h1 : p = m
    · subst h1
      rw [if_pos (nI_le (Nat.le_refl _) (by omega))]; simp [bI]
    · rw [if_neg (nI_ge (by omega) (by omega)), if_neg (show ¬ (8 : Int32) ≤ nI p from nI_ge (a := p) (b := 8) (by omega) (by decide))]
      have : 0 < p ∧ p < m := by omega
      simp [bI, this]
theorem cartsAt_l (hn : ρ a 1 = nI n) (h7 : n ≤ 7) (x : Int32) : ∀ (d c nn : Nat), c + d = n → d < nn → F_X8_cartsAt_4 ρ a x nn (nI c) (nI (occ (spk (ρ a)) x.toInt c)) = some (nI (occ (spk (ρ a)) x.toInt n)) := by
  intro d
  induction d with
  | zero =>
    intro c nn h1 h2
    obtain rfl : c = n := by omega
    obtain ⟨nn, rfl⟩ : ∃ j, nn = j + 1 := ⟨nn - 1, by omega⟩
    rw [F_X8_cartsAt_4, hn, if_pos (nI_le (Nat.le_refl _) (by omega))]
  | succ d ih =>
    intro c nn h1 h2
    obtain ⟨nn, rfl⟩ : ∃ j, nn = j + 1 := ⟨nn - 1, by omega⟩
    have := ih (c + 1) nn (by omega) (by omega)
    rw [F_X8_cartsAt_4, hn, if_neg (nI_ge (by omega) (by omega)), get5 (by omega), Option.bind_some, nI_1]
    by_cases e : ρ a (49 + 11 * c) = x
    · rw [if_pos e, nI_1]
      simp only [occ, spk, e, if_true] at this
      exact this
    · have e2 : ¬ (ρ a (49 + 11 * c)).toInt = x.toInt := fun q => e (Int32.toInt_inj.mp q)
      rw [if_neg e, Int32.add_zero]
      simp only [occ, spk, e2, if_false, Nat.add_zero] at this
      exact this
theorem cartsAt_r (hn : ρ a 1 = nI n) (h7 : n ≤ 7) (x : Int32) : F_X8_cartsAt ρ a x = some (nI (occ (spk (ρ a)) x.toInt n)) :=
  cartsAt_l hn h7 x n 0 FU (by omega) (Nat.lt_of_le_of_lt h7 (by decide))
theorem howMany_l (R : RT σ t k m len n) (x : Int32) : ∀ (d c nn : Nat), c + d = n → d < nn → F_X6_howMany_4 σ t x nn (nI c) (nI (occ (spk k) x.toInt c)) = some (nI (occ (spk k) x.toInt n)) := by
  have h7 := RT_7 R
  intro d
  induction d with
  | zero =>
    intro c nn h1 h2
    obtain rfl : c = n := by omega
    obtain ⟨nn, rfl⟩ : ∃ j, nn = j + 1 := ⟨nn - 1, by omega⟩
    rw [F_X6_howMany_4, RT_2 R, if_pos (nI_le (Nat.le_refl _) (by omega))]
  | succ d ih =>
    intro c nn h1 h2
    obtain ⟨nn, rfl⟩ : ∃ j, nn = j + 1 := ⟨nn - 1, by omega⟩
    have := ih (c + 1) nn (by omega) (by omega)
    rw [F_X6_howMany_4, RT_2 R, if_neg (nI_ge (by omega) (by omega)), ix_nI (by omega) (by decide), Option.bind_some, nI_1, (RT_C R (show c < n by omega)).2.2.1]
    by_cases e : k (49 + 11 * c) = x
    · rw [if_pos e, nI_1]
      simp only [occ, spk, e, if_true] at this
      exact this
    · have e2 : ¬ (k (49 + 11 * c)).toInt = x.toInt := fun q => e (Int32.toInt_inj.mp q)
      rw [if_neg e]
      simp only [occ, spk, e2, if_false, Nat.add_zero] at this
      exact this
theorem howMany_c (R : RT σ t k m len n) (x : Int32) : F_X6_howMany σ t x = some (nI (occ (spk k) x.toInt n)) :=
  howMany_l R x n 0 FU (by omega) (Nat.lt_of_le_of_lt (RT_7 R) (by decide))
theorem doneOf_l (hn : ρ a 1 = nI n) (h7 : n ≤ 7) : ∀ (d c nn : Nat), c + d = n → d < nn → F_X8_doneOf_4 ρ a nn (nI c) (nI (occ (spk (ρ a)) (-3) c)) = some (nI (occ (spk (ρ a)) (-3) n)) := by
  intro d
  induction d with
  | zero =>
    intro c nn h1 h2
    obtain rfl : c = n := by omega
    obtain ⟨nn, rfl⟩ : ∃ j, nn = j + 1 := ⟨nn - 1, by omega⟩
    rw [F_X8_doneOf_4, hn, if_pos (nI_le (Nat.le_refl _) (by omega))]
  | succ d ih =>
    intro c nn h1 h2
    obtain ⟨nn, rfl⟩ : ∃ j, nn = j + 1 := ⟨nn - 1, by omega⟩
    have := ih (c + 1) nn (by omega) (by omega)
    rw [F_X8_doneOf_4, hn, if_neg (nI_ge (by omega) (by omega)), get5 (by omega), Option.bind_some, nI_1]
    by_cases e : ρ a (49 + 11 * c) = -3
    · have e2 : (ρ a (49 + 11 * c)).toInt = -3 := by rw [e]; decide
      rw [if_pos e, nI_1]
      simp only [occ, spk, e2, if_true] at this
      exact this
    · have e2 : ¬ (ρ a (49 + 11 * c)).toInt = -3 := fun q => e (Int32.toInt_inj.mp (q.trans (by decide)))
      rw [if_neg e, Int32.add_zero]
      simp only [occ, spk, e2, if_false, Nat.add_zero] at this
      exact this
theorem doneOf_r (hn : ρ a 1 = nI n) (h7 : n ≤ 7) : F_X8_doneOf ρ a = some (nI (occ (spk (ρ a)) (-3) n)) :=
  doneOf_l hn h7 n 0 FU (by omega) (Nat.lt_of_le_of_lt h7 (by decide))
/-- room at a spot, both sides -/
theorem room_at (R : RT σ t (ρ a) m len n) {p : Nat} (hp : p ≤ m) : F_X6_hasRoom σ t (nI (PS len p)) = some (bI (decide (p = 0 ∨ p = m ∨ ¬ ρ a (5 + p) ≤ nI (occ (spk (ρ a)) (PS len p) n)))) := by
  have h8 := RT_8 R
  have h72 := RT_72 R hp
  unfold F_X6_hasRoom
  rw [isSpot_c R (PS_mono hp), Option.bind_some, if_neg (by decide), ix_nI (by omega) (by decide), Option.bind_some, ((RT_R R).2.2.2.2.1 p hp).2.1, if_pos (nI_pos' (by omega)), isBetween_c R hp, Option.bind_some]
  by_cases h : 0 < p ∧ p < m
  · have h0 : ¬ p = 0 := by omega
    have h1 : ¬ p = m := by omega
    rw [decide_eq_true h, bI_t, if_neg (by decide), Option.bind_some, ix_nI (by omega) (by decide), Option.bind_some, (RT_R R).2.2.2.1 p (by omega) hp, RT_on R (by omega)]
    by_cases e : ρ a (5 + p) ≤ nI (occ (spk (ρ a)) (PS len p) n)
    · rw [if_pos e, decide_eq_false (by simp only [h0, h1, e, not_true, or_self, not_false_eq_true]), bI_f]
    · rw [if_neg e, decide_eq_true (Or.inr (Or.inr e)), bI_t]
  · rw [decide_eq_false h, bI_f, if_pos rfl, decide_eq_true (by omega), bI_t]
theorem hasRoom_p (R : RT σ t (ρ a) m len n) {x : Nat} (hx : x ≤ PS len m) : ∃ b, F_X6_hasRoom σ t (nI x) = some (bI b) ∧ F_X8_hasRoom ρ a (nI x) = some (bI b) := by
  have V := RT_V R
  have h7 := RT_7 R
  have h8 := RT_8 R
  rcases spot_cases hx with ⟨p, hp, rfl⟩ | ⟨p, hp, h1, h2⟩
  · refine ⟨_, room_at R hp, ?_⟩
    have h72 := RT_72 R hp
    unfold F_X8_hasRoom
    rw [placeAt_at V hp, Option.bind_some]
    by_cases h0 : p = 0
    · rw [if_pos (by rw [h0]; rfl), decide_eq_true (Or.inl h0), bI_t]
    · rw [if_neg (nI_ne0 (by omega) (by omega)), VS_m V]
      by_cases h1 : p = m
      · rw [if_pos (by rw [h1]), decide_eq_true (Or.inr (Or.inl h1)), bI_t]
      · rw [if_neg (by rw [neq (by omega) (by omega)]; exact h1), cartsAt_r (RT_n R) h7, Option.bind_some, if_pos (nI_pos' (by omega)), ix5 (by omega), Option.bind_some, nI_toInt (by omega)]
        by_cases e : ρ a (5 + p) ≤ nI (occ (spk (ρ a)) (PS len p) n)
        · rw [if_pos e, decide_eq_false (by simp only [h0, h1, e, not_true, or_self, not_false_eq_true]), bI_f]
        · rw [if_neg e, decide_eq_true (Or.inr (Or.inr e)), bI_t]
  · have h72 := RT_72 R (show p + 1 ≤ m by omega)
    have ho := occ_le (spk (ρ a)) x n
    refine ⟨decide (occ (spk (ρ a)) x n = 0), ?_, ?_⟩
    · unfold F_X6_hasRoom
      rw [isSpot_c R hx, Option.bind_some, if_neg (by decide), ix_nI (by omega) (by decide), Option.bind_some, ((RT_R R).2.2.2.2.2.1 p x hp h1 h2).1, if_neg (by decide), Option.bind_some, RT_on R (by omega)]
      by_cases e : occ (spk (ρ a)) x n = 0
      · rw [e, if_pos nI_0]; rfl
      · rw [if_neg (nI_ne0 (by omega) (by omega)), decide_eq_false e, bI_f]
    · unfold F_X8_hasRoom
      rw [placeAt_no V hp h1 h2, Option.bind_some, if_neg (by decide), VS_m V, if_neg (fun q => nI_neN (a := m) (by omega) (z := -4) (by decide) q.symm), cartsAt_r (RT_n R) h7, Option.bind_some, if_neg (by decide), nI_toInt (by omega)]
      by_cases e : occ (spk (ρ a)) x n = 0
      · rw [e, if_neg (by decide)]; rfl
      · rw [if_pos (show (1 : Int32) ≤ nI (occ (spk (ρ a)) x n) from nI_le (a := 1) (by omega) (by omega)), decide_eq_false e, bI_f]
/-! where a cart goes -/
theorem CW_up {r k : Nat → Int32} {c : Nat} (h : CW r k c) (e : k (44 + 11 * c) = 1) : r 0 = 1 := by
  rcases h.1 with q | q
  · exact q.2
  · exact absurd (e.symm.trans q.1) (by decide)
theorem CW_dn {r k : Nat → Int32} {c : Nat} (h : CW r k c) (e : k (44 + 11 * c) = -1) : r 0 = 0 := by
  rcases h.1 with q | q
  · exact absurd (e.symm.trans q.1) (by decide)
  · exact q.2
/-- the piece ahead of a cart on the road -/
theorem ahead_up (R : RT σ t (ρ a) m len n) {c x : Nat} (hc : c < n) (hw : ρ a (44 + 11 * c) = 1) (hs : ρ a (49 + 11 * c) = nI x) (hx : x < PS len m) : ∃ p, p < m ∧ PS len p ≤ x ∧ x < PS len (p + 1) ∧ F_X6_pieceAhead σ t (22 * t + 15 + c) = some (nI p) ∧ F_X8_pieceFrom ρ a (nI x) 1 = some (nI p) := by
  have h72 := RT_72 R (Nat.le_refl m)
  obtain ⟨p, h1, h2, h3⟩ := PS_in hx
  refine ⟨p, h1, h2, h3, ?_, pieceUp (RT_V R) (by decide) h1 h2 h3⟩
  have C := RT_C R hc
  unfold F_X6_pieceAhead
  rw [CW_up C hw, if_neg (by decide), C.2.2.1, hs, isSpot_c R (by omega), Option.bind_some, if_neg (by decide), ix_nI (by omega) (by decide), Option.bind_some, (RT_R R).2.2.2.2.2.2.1 p x h1 h2 h3]
theorem ahead_dn (R : RT σ t (ρ a) m len n) {c x : Nat} (hc : c < n) (hw : ρ a (44 + 11 * c) = -1) (hs : ρ a (49 + 11 * c) = nI x) (hx : x ≤ PS len m) (h0 : 0 < x) : ∃ p, p < m ∧ PS len p < x ∧ x ≤ PS len (p + 1) ∧ F_X6_pieceAhead σ t (22 * t + 15 + c) = some (nI p) ∧ F_X8_pieceFrom ρ a (nI x) (-1) = some (nI p) := by
  have h72 := RT_72 R (Nat.le_refl m)
  obtain ⟨p, h1, h2, h3⟩ := PS_in (show x - 1 < PS len m by omega)
  refine ⟨p, h1, by omega, by omega, ?_, pieceDn (RT_V R) (by decide) h1 (by omega) (by omega)⟩
  have C := RT_C R hc
  unfold F_X6_pieceAhead
  rw [CW_dn C hw, if_pos rfl, C.2.2.1, hs, nI_sub1 h0, isSpot_c R (by omega), Option.bind_some, if_neg (by decide), ix_nI (by omega) (by decide), Option.bind_some, (RT_R R).2.2.2.2.2.2.1 p (x - 1) h1 h2 h3]
/-- own end and goal -/
theorem ownEnd_up (R : RT σ t (ρ a) m len n) {c : Nat} (hc : c < n) (hw : ρ a (44 + 11 * c) = 1) : F_X6_ownEnd σ t (22 * t + 15 + c) = some (nI 0) ∧ F_X8_origin ρ a (nI c) = some (nI 0) := by
  have h7 := RT_7 R
  refine ⟨?_, ?_⟩
  · unfold F_X6_ownEnd
    rw [CW_up (RT_C R hc) hw, if_neg (by decide)]; rfl
  · unfold F_X8_origin
    rw [get0 (by omega), Option.bind_some, hw, if_neg (by decide)]; rfl
theorem ownEnd_dn (R : RT σ t (ρ a) m len n) {c : Nat} (hc : c < n) (hw : ρ a (44 + 11 * c) = -1) : F_X6_ownEnd σ t (22 * t + 15 + c) = some (nI (PS len m)) ∧ F_X8_origin ρ a (nI c) = some (nI (PS len m)) := by
  have h7 := RT_7 R
  refine ⟨?_, ?_⟩
  · unfold F_X6_ownEnd
    rw [CW_dn (RT_C R hc) hw, if_pos rfl, (RT_R R).2.1]
  · unfold F_X8_origin
    rw [get0 (by omega), Option.bind_some, hw, if_pos (by decide), endOf_r (RT_V R), Option.bind_some]
end RL
end
section
/-! who enters -/
theorem hour_v {M f : Nat} (hM : M ≤ 999) (hf : f ≤ 9) : ((nI M / (10 * (nI f + 1))) - (nI M / (10 * (nI f + 1))) / 2 * 2) = nI (M / (10 * (f + 1)) % 2) := by
  have h1 : M / (10 * (f + 1)) ≤ M := Nat.div_le_self _ _
  have h2 : M / (10 * (f + 1)) / 2 * 2 ≤ M / (10 * (f + 1)) := Nat.div_mul_le_self _ _
  rw [nI_1, show (10 : Int32) = nI 10 from rfl, nI_mul, pk_div (by omega) (by omega) (by omega), show (2 : Int32) = nI 2 from rfl, pk_div (by omega) (by omega) (by omega), nI_mul, nI_sub h2]
  congr 1
  omega
theorem hour_c {σ : Mem} {t i M f : Nat} (h3 : σ (22 * t) 3 = nI M) (hM : M ≤ 999) (hf : f ≤ 9) : F_X6_isHourOf σ t i (nI f) = if M / (10 * (f + 1)) % 2 = 0 then (if 1 = σ i 0 then some 1 else some 0) else (if 0 = σ i 0 then some 1 else some 0) := by
  have e : (if 1 < (nI f + 1) then (nI f + 1) else 1) = nI f + 1 := by
    by_cases h : f = 0
    · subst h; decide
    · rw [if_pos (show (1 : Int32) < nI f + 1 by rw [nI_1]; exact nI_lt (a := 1) (by omega) (by omega))]
  unfold F_X6_isHourOf
  rw [e, h3, hour_v hM hf, ck_t _ (by rw [nI_1, show (10 : Int32) = nI 10 from rfl, nI_mul]; exact nI_ne0 (by omega) (by omega))]
  by_cases h : M / (10 * (f + 1)) % 2 = 0
  · rw [h, if_pos nI_0, if_pos rfl]
  · rw [if_neg (nI_ne0 (by omega) (by omega)), if_neg h]
/-- the end of the search of entersBy: room at the far place -/
def ETL (ρ : Mem) (a : Nat) (v8 w : Int32) : Option Int32 := if w = 0 then (some 1) else (if w = (ρ a 0) then (some 1) else ((F_X8_cartsAt ρ a v8).bind fun r_14 => (ix 121 (5 + w)).bind fun k_15 => if (ρ a k_15) ≤ r_14 then (some 0) else (some 1)))
section EN
variable {σ ρ : Mem} {t a m n : Nat} {len : Nat → Nat}
theorem ETL_v (R : RT σ t (ρ a) m len n) {p : Nat} (hp : p ≤ m) : ETL ρ a (nI (PS len p)) (nI p) = some (bI (decide (p = 0 ∨ p = m ∨ ¬ ρ a (5 + p) ≤ nI (occ (spk (ρ a)) (PS len p) n)))) := by
  have V := RT_V R
  have h7 := RT_7 R
  have h8 := RT_8 R
  have h72 := RT_72 R hp
  unfold ETL
  by_cases h0 : p = 0
  · rw [if_pos (by rw [h0]; rfl), decide_eq_true (Or.inl h0), bI_t]
  · rw [if_neg (nI_ne0 (by omega) (by omega)), VS_m V]
    by_cases h1 : p = m
    · rw [if_pos (by rw [h1]), decide_eq_true (Or.inr (Or.inl h1)), bI_t]
    · rw [if_neg (by rw [neq (by omega) (by omega)]; exact h1), cartsAt_r (RT_n R) h7, Option.bind_some, ix5 (by omega), Option.bind_some, nI_toInt (by omega)]
      by_cases e : ρ a (5 + p) ≤ nI (occ (spk (ρ a)) (PS len p) n)
      · rw [if_pos e, decide_eq_false (by simp only [h0, h1, e, not_true, or_self, not_false_eq_true]), bI_f]
      · rw [if_neg e, decide_eq_true (Or.inr (Or.inr e)), bI_t]
theorem isOn_r {c : Nat} (hc : c < 7) : F_X8_isOn ρ a (nI c) = if ρ a (49 + 11 * c) < 0 then some 0 else some 1 := by
  unfold F_X8_isOn
  rw [get5 hc, Option.bind_some]
theorem sub_toInt {x y : Nat} (hx : x < 1000) (hy : y < 1000) : (nI y - nI x).toInt = (y : Int) - x := by
  rw [t_sub (by rw [nI_toInt (by omega), nI_toInt (by omega)]; omega) (by rw [nI_toInt (by omega), nI_toInt (by omega)]; omega), nI_toInt (by omega), nI_toInt (by omega)]
theorem subn_toInt {x y : Nat} (hx : x < 1000) (hy : y < 1000) : ((nI y - nI x) * -1).toInt = (x : Int) - y := by
  have h := sub_toInt hx hy
  have e : (-1 : Int32).toInt = -1 := by decide
  rw [t_mul (by rw [h, e]; omega) (by rw [h, e]; omega), h, e]
  omega
theorem addn_toInt {x y z : Nat} (hx : x < 1000) (hy : y < 1000) (hz : z < 1000) : ((nI y - nI x) + nI z).toInt = (y : Int) - x + z := by
  have h := sub_toInt hx hy
  rw [t_add (by rw [h, nI_toInt (by omega)]; omega) (by rw [h, nI_toInt (by omega)]; omega), h, nI_toInt (by omega)]
theorem addm_toInt {x y z : Nat} (hx : x < 1000) (hy : y < 1000) (hz : z < 1000) : ((nI y - nI x) * -1 + nI z).toInt = (x : Int) - y + z := by
  have h := subn_toInt hx hy
  rw [t_add (by rw [h, nI_toInt (by omega)]; omega) (by rw [h, nI_toInt (by omega)]; omega), h, nI_toInt (by omega)]
theorem obs {α β : Type} (a : α) (f : α → Option β) : (some a).bind f = f a := Eq.trans (congrArg (fun x => Option.bind x f) (Eq.refl (some a))) (Option.bind_some a f)
theorem bI_id (b : Bool) : (if bI b = 0 then some 0 else some 1) = some (bI b) := by cases b <;> rfl
theorem i10 : ¬ ((1 : Int32) = 0) := by decide
theorem i1m1 : ¬ ((1 : Int32) = -1) := by decide
theorem im11 : ¬ ((-1 : Int32) = 1) := by decide
theorem im2 : (-2 : Int32) < 0 := by decide
theorem im3 : (-3 : Int32) < 0 := by decide
/-- the two searches for one that comes, of a cart that goes up -/
theorem quiet_up (R : RT σ t (ρ a) m len n) {i x far q f : Nat} {x2 x3 y2 y3 : Int32} (hi : σ i 0 = 1) (hx : x < far) (hfar : far ≤ 72) (hf : f ≤ 9) : ∀ (d j nn nn2 : Nat), j + d = n → d < nn → d < nn2 → ∃ b, F_X6_isQuiet_55b σ t i x2 x3 nn (nI j) (nI (far - 1 + f)) (nI (x + 1)) = some (bI b) ∧ F_X8_entersBy_117 ρ a y2 y3 nn2 (nI j) (nI far) (nI q) (nI x) 1 (nI f) 4 = some (bI b) ∧ F_X8_entersBy_117b ρ a y2 y3 nn2 (nI j) (nI far) (nI q) (nI x) 1 (nI f) 5 = if b then ETL ρ a (nI far) (nI q + 1) else some 0 := by
  have h7 := RT_7 R
  intro d
  induction d with
  | zero =>
    intro j nn nn2 h1 h2 h3
    obtain rfl : j = n := by omega
    obtain ⟨nn, rfl⟩ : ∃ j, nn = j + 1 := ⟨nn - 1, by omega⟩
    obtain ⟨nn2, rfl⟩ : ∃ j, nn2 = j + 1 := ⟨nn2 - 1, by omega⟩
    refine ⟨true, ?_, ?_, ?_⟩
    · rw [F_X6_isQuiet_55b, RT_2 R, if_pos (nI_le (Nat.le_refl _) (by omega))]; rfl
    · rw [F_X8_entersBy_117, RT_n R, if_pos (nI_le (Nat.le_refl _) (by omega)), if_pos rfl]; rfl
    · rw [F_X8_entersBy_117b, RT_n R, if_pos (nI_le (Nat.le_refl _) (by omega)), if_neg (by decide), if_pos rfl]; rfl
  | succ d ih =>
    intro j nn nn2 h1 h2 h3
    obtain ⟨nn, rfl⟩ : ∃ j, nn = j + 1 := ⟨nn - 1, by omega⟩
    obtain ⟨nn2, rfl⟩ : ∃ j, nn2 = j + 1 := ⟨nn2 - 1, by omega⟩
    have I := ih (j + 1) nn nn2 (by omega) (by omega) (by omega)
    have C := RT_C R (show j < n by omega)
    have K := RT_K R (show j < n by omega)
    have jn : ¬ nI n ≤ nI j := nI_ge (by omega) (by omega)
    have z0 : (0 : Int32).toInt = 0 := by decide
    have n2 : (-2 : Int32) < nI (x + 1) := i32_lt.mpr (by rw [nI_toInt (by omega)]; exact Int.lt_of_lt_of_le (by decide) (Int.natCast_nonneg _))
    have n3 : (-3 : Int32) < nI (x + 1) := i32_lt.mpr (by rw [nI_toInt (by omega)]; exact Int.lt_of_lt_of_le (by decide) (Int.natCast_nonneg _))
    rw [F_X6_isQuiet_55b, F_X8_entersBy_117, F_X8_entersBy_117b, RT_2 R, RT_n R, ix_nI (by omega) (by decide), isOn_r (by omega), get0 (by omega), get5 (by omega), nI_1]
    simp only [jn, if_false, C.2.2.1, hi, obs, Int32.mul_one]
    rcases K.1 with hw | hw
    · rw [CW_up C hw, if_pos rfl, hw]
      by_cases hs : ρ a (49 + 11 * j) < 0
      · simp only [hs, if_true, obs]
        exact I
      · simp only [hs, if_false, if_true, obs, i10]
        exact I
    · rw [CW_dn C hw, if_neg (by decide), hw]
      rcases K.2.2.2.2 with hs | hs | ⟨y, hs, hy, -, -⟩
      · simp only [hs, n2, im2, if_true, obs]
        exact I
      · simp only [hs, n3, im3, if_true, obs]
        exact I
      · have h72 := RT_72 R (Nat.le_refl m)
        have hoff := sub_toInt (x := x) (y := y) (by omega) (by omega)
        have hpie := sub_toInt (x := x) (y := far) (by omega) (by omega)
        have hpf := addn_toInt (x := x) (y := far) (z := f) (by omega) (by omega) (by omega)
        have y0 : ¬ nI y < 0 := nI_pos (by omega)
        rcases Nat.lt_or_ge x y with g | g
        · rcases Nat.lt_or_ge y far with g2 | g2
          · have kl : ¬ nI y < nI (x + 1) := nI_nlt (by omega) (by omega)
            have kh : ¬ nI (far - 1 + f) < nI y := nI_nlt (by omega) (by omega)
            have k0 : ¬ (nI y - nI x) ≤ 0 := fun w => by rw [i32_le, hoff, z0] at w; omega
            have k1 : (nI y - nI x) < (nI far - nI x) := i32_lt.mpr (by rw [hoff, hpie]; omega)
            simp only [hs, y0, i10, im11, kl, kh, k0, k1, if_true, if_false, obs]
            exact ⟨false, rfl, rfl, rfl⟩
          · rcases Nat.lt_or_ge y (far + f) with g3 | g3
            · have kl : ¬ nI y < nI (x + 1) := nI_nlt (by omega) (by omega)
              have kh : ¬ nI (far - 1 + f) < nI y := nI_nlt (by omega) (by omega)
              have k0 : ¬ (nI y - nI x) ≤ 0 := fun w => by rw [i32_le, hoff, z0] at w; omega
              have k1 : ¬ (nI y - nI x) < (nI far - nI x) := fun w => by rw [i32_lt, hoff, hpie] at w; omega
              have k2 : ¬ (nI far - nI x) + nI f ≤ (nI y - nI x) := fun w => by rw [i32_le, hoff, hpf] at w; omega
              simp only [hs, y0, i10, im11, kl, kh, k0, k1, k2, if_true, if_false, obs]
              exact ⟨false, rfl, rfl, rfl⟩
            · have kl : ¬ nI y < nI (x + 1) := nI_nlt (by omega) (by omega)
              have kh : nI (far - 1 + f) < nI y := nI_lt (by omega) (by omega)
              have k0 : ¬ (nI y - nI x) ≤ 0 := fun w => by rw [i32_le, hoff, z0] at w; omega
              have k1 : ¬ (nI y - nI x) < (nI far - nI x) := fun w => by rw [i32_lt, hoff, hpie] at w; omega
              have k2 : (nI far - nI x) + nI f ≤ (nI y - nI x) := i32_le.mpr (by rw [hoff, hpf]; omega)
              simp only [hs, y0, i10, im11, kl, kh, k0, k1, k2, if_true, if_false, obs]
              exact I
        · have kl : nI y < nI (x + 1) := nI_lt (by omega) (by omega)
          have k0 : (nI y - nI x) ≤ 0 := i32_le.mpr (by rw [hoff, z0]; omega)
          have k1 : (nI y - nI x) < (nI far - nI x) := i32_lt.mpr (by rw [hoff, hpie]; omega)
          simp only [hs, y0, i10, im11, kl, k0, k1, if_true, if_false, obs]
          exact I
theorem dn0 {x y : Nat} (hx : x < 1000) (hy : y < 1000) : (nI y - nI x) * -1 ≤ 0 ↔ x ≤ y := by
  rw [i32_le, subn_toInt hx hy, show (0 : Int32).toInt = 0 by decide]
  omega
theorem dn1 {x y far : Nat} (hx : x < 1000) (hy : y < 1000) (hf : far < 1000) : (nI y - nI x) * -1 < (nI far - nI x) * -1 ↔ far < y := by
  rw [i32_lt, subn_toInt hx hy, subn_toInt hx hf]
  omega
theorem dn2 {x y far f : Nat} (hx : x < 1000) (hy : y < 1000) (hf : far < 1000) (hg : f < 1000) : (nI far - nI x) * -1 + nI f ≤ (nI y - nI x) * -1 ↔ y + f ≤ far := by
  rw [i32_le, subn_toInt hx hy, addm_toInt hx hf hg]
  omega
theorem quiet_dn (R : RT σ t (ρ a) m len n) {i x far q f : Nat} {x2 x3 y2 y3 : Int32} (hi : σ i 0 = 0) (hx : far < x) (hx2 : x ≤ 72) (hf : f ≤ 9) : ∀ (d j nn nn2 : Nat), j + d = n → d < nn → d < nn2 → ∃ b, F_X6_isQuiet_55 σ t i x2 x3 nn (nI j) (nI (far + 1 - f)) (nI (x - 1)) = some (bI b) ∧ F_X8_entersBy_117 ρ a y2 y3 nn2 (nI j) (nI far) (nI q) (nI x) (-1) (nI f) 4 = some (bI b) ∧ F_X8_entersBy_117b ρ a y2 y3 nn2 (nI j) (nI far) (nI q) (nI x) (-1) (nI f) 5 = if b then ETL ρ a (nI far) (nI q + -1) else some 0 := by
  have h7 := RT_7 R
  intro d
  induction d with
  | zero =>
    intro j nn nn2 h1 h2 h3
    obtain rfl : j = n := by omega
    obtain ⟨nn, rfl⟩ : ∃ j, nn = j + 1 := ⟨nn - 1, by omega⟩
    obtain ⟨nn2, rfl⟩ : ∃ j, nn2 = j + 1 := ⟨nn2 - 1, by omega⟩
    refine ⟨true, ?_, ?_, ?_⟩
    · rw [F_X6_isQuiet_55, RT_2 R, if_pos (nI_le (Nat.le_refl _) (by omega))]; rfl
    · rw [F_X8_entersBy_117, RT_n R, if_pos (nI_le (Nat.le_refl _) (by omega)), if_pos rfl]; rfl
    · rw [F_X8_entersBy_117b, RT_n R, if_pos (nI_le (Nat.le_refl _) (by omega)), if_neg (show ¬ (5 : Int32) = 4 by decide)]
      exact (show _ = ETL ρ a (nI far) (nI q + -1) from rfl).trans (if_pos rfl).symm
  | succ d ih =>
    intro j nn nn2 h1 h2 h3
    obtain ⟨nn, rfl⟩ : ∃ j, nn = j + 1 := ⟨nn - 1, by omega⟩
    obtain ⟨nn2, rfl⟩ : ∃ j, nn2 = j + 1 := ⟨nn2 - 1, by omega⟩
    have I := ih (j + 1) nn nn2 (by omega) (by omega) (by omega)
    have C := RT_C R (show j < n by omega)
    have K := RT_K R (show j < n by omega)
    have jn : ¬ nI n ≤ nI j := nI_ge (by omega) (by omega)
    have z0 : (0 : Int32).toInt = 0 := by decide
    have n2 : (-2 : Int32) < nI (far + 1 - f) := i32_lt.mpr (by rw [nI_toInt (by omega)]; exact Int.lt_of_lt_of_le (by decide) (Int.natCast_nonneg _))
    have n3 : (-3 : Int32) < nI (far + 1 - f) := i32_lt.mpr (by rw [nI_toInt (by omega)]; exact Int.lt_of_lt_of_le (by decide) (Int.natCast_nonneg _))
    rw [F_X6_isQuiet_55, F_X8_entersBy_117, F_X8_entersBy_117b, RT_2 R, RT_n R, ix_nI (by omega) (by decide), isOn_r (by omega), get0 (by omega), get5 (by omega), nI_1]
    simp only [jn, if_false, C.2.2.1, hi, obs]
    rcases K.1 with hw | hw
    · rw [CW_up C hw, if_neg (by decide), hw]
      rcases K.2.2.2.2 with hs | hs | ⟨y, hs, hy, -, -⟩
      · simp only [hs, n2, im2, if_true, obs]
        exact I
      · simp only [hs, n3, im3, if_true, obs]
        exact I
      · have h72 := RT_72 R (Nat.le_refl m)
        have x1 : x < 1000 := by omega
        have y1 : y < 1000 := by omega
        have f1 : far < 1000 := by omega
        have g1 : f < 1000 := by omega
        have y0 : ¬ nI y < 0 := nI_pos (by omega)
        rcases Nat.lt_or_ge y x with g | g
        · rcases Nat.lt_or_ge far y with g2 | g2
          · have kl : ¬ nI y < nI (far + 1 - f) := nI_nlt (by omega) (by omega)
            have kh : ¬ nI (x - 1) < nI y := nI_nlt (by omega) (by omega)
            have k0 : ¬ ((nI y - nI x) * -1) ≤ 0 := fun w => absurd ((dn0 x1 y1).mp w) (by omega)
            have k1 : ((nI y - nI x) * -1) < ((nI far - nI x) * -1) := (dn1 x1 y1 f1).mpr (by omega)
            simp only [hs, y0, i10, i1m1, kl, kh, k0, k1, if_true, if_false, obs]
            exact ⟨false, rfl, rfl, rfl⟩
          · rcases Nat.lt_or_ge far (y + f) with g3 | g3
            · have kl : ¬ nI y < nI (far + 1 - f) := nI_nlt (by omega) (by omega)
              have kh : ¬ nI (x - 1) < nI y := nI_nlt (by omega) (by omega)
              have k0 : ¬ ((nI y - nI x) * -1) ≤ 0 := fun w => absurd ((dn0 x1 y1).mp w) (by omega)
              have k1 : ¬ ((nI y - nI x) * -1) < ((nI far - nI x) * -1) := fun w => absurd ((dn1 x1 y1 f1).mp w) (by omega)
              have k2 : ¬ ((nI far - nI x) * -1) + nI f ≤ ((nI y - nI x) * -1) := fun w => absurd ((dn2 x1 y1 f1 g1).mp w) (by omega)
              simp only [hs, y0, i10, i1m1, kl, kh, k0, k1, k2, if_true, if_false, obs]
              exact ⟨false, rfl, rfl, rfl⟩
            · have kl : nI y < nI (far + 1 - f) := nI_lt (by omega) (by omega)
              have k0 : ¬ ((nI y - nI x) * -1) ≤ 0 := fun w => absurd ((dn0 x1 y1).mp w) (by omega)
              have k1 : ¬ ((nI y - nI x) * -1) < ((nI far - nI x) * -1) := fun w => absurd ((dn1 x1 y1 f1).mp w) (by omega)
              have k2 : ((nI far - nI x) * -1) + nI f ≤ ((nI y - nI x) * -1) := (dn2 x1 y1 f1 g1).mpr (by omega)
              simp only [hs, y0, i10, i1m1, kl, k0, k1, k2, if_true, if_false, obs]
              exact I
        · have kl : ¬ nI y < nI (far + 1 - f) := nI_nlt (by omega) (by omega)
          have kh : nI (x - 1) < nI y := nI_lt (by omega) (by omega)
          have k0 : ((nI y - nI x) * -1) ≤ 0 := (dn0 x1 y1).mpr (by omega)
          have k1 : ((nI y - nI x) * -1) < ((nI far - nI x) * -1) := (dn1 x1 y1 f1).mpr (by omega)
          simp only [hs, y0, i10, i1m1, kl, kh, k0, k1, if_true, if_false, obs]
          exact I
    · rw [CW_dn C hw, if_pos rfl, hw]
      by_cases hs : ρ a (49 + 11 * j) < 0
      · simp only [hs, if_true, obs]
        exact I
      · simp only [hs, if_false, if_true, obs, i10]
        exact I
theorem rule_v (R : RT σ t (ρ a) m len n) {v : Nat} (hv : v < 3) : ∃ f : Nat, f ≤ 9 ∧ ρ a (39 + 2 * v) = nI f := by
  have h := (VS_rule (RT_V R) hv).2
  exact ⟨(ρ a (39 + 2 * v)).toInt.toNat, by omega, nI_i h.1 (by omega)⟩
theorem kindOf_r {v : Nat} (hv : v < 3) : F_X8_kindOf ρ a (nI v) = some (ρ a (38 + 2 * v)) := by
  unfold F_X8_kindOf
  rw [ix38 hv, Option.bind_some]
theorem enters_up (R : RT σ t (ρ a) m len n) {c q v : Nat} (hc : c < n) (hw : ρ a (44 + 11 * c) = 1) (hq : q < m) (hs : ρ a (49 + 11 * c) = nI (PS len q)) (hv : v < 3) (ev : ρ a (16 + 3 * q) = nI v) (hpa : F_X6_pieceAhead σ t (22 * t + 15 + c) = some (nI q)) : ∃ b, F_X6_letsIn σ t (22 * t + 15 + c) = some (bI b) ∧ F_X8_entersBy ρ a (nI c) (nI v) = some (bI b) := by
  have h7 := RT_7 R
  have h8 := RT_8 R
  have C := RT_C R hc
  have V := RT_V R
  obtain ⟨M, hM, eM⟩ := RT_M R
  obtain ⟨f, hf, ef⟩ := rule_v R hv
  have hlt := PS_lt (VS_b V) (show q < q + 1 by omega) (show q + 1 ≤ m by omega)
  have h72 := RT_72 R (show q + 1 ≤ m by omega)
  have eo := ownEnd_up R hc hw
  have rk := (RT_R R).2.2.2.2.2.2.2 v hv
  unfold F_X6_letsIn F_X8_entersBy
  rw [hpa, Option.bind_some, villageBy_c R hq, ev, Option.bind_some, ix_nI (by omega) (by decide), Option.bind_some, Option.bind_some, rk.1, rk.2, ef, kindOf_r hv, Option.bind_some, ix39 hv, Option.bind_some, get0 (by omega), Option.bind_some, get5 (by omega), Option.bind_some, hw, hs, ef, C.2.2.1, hs, eo.1, eo.2]
  simp only [obs]
  by_cases h3 : ρ a (38 + 2 * v) = 3
  · rw [if_pos h3, if_pos h3]
    by_cases he : nI (PS len q) = nI 0
    · rw [if_pos he, if_pos he, hour_c ((RT_3 R).trans eM) hM hf, eM, hour_v hM hf, ck_t _ (by rw [nI_1, show (10 : Int32) = nI 10 from rfl, nI_mul]; exact nI_ne0 (by omega) (by omega)), CW_up C hw]
      by_cases hp : M / (10 * (f + 1)) % 2 = 0
      · refine ⟨true, ?_, ?_⟩
        · rw [if_pos hp, if_pos rfl, Option.bind_some, if_neg (by decide)]; rfl
        · rw [if_neg (show ¬ (1 : Int32) ≤ 0 by decide), if_pos (by rw [hp]; rfl)]; rfl
      · refine ⟨false, ?_, ?_⟩
        · rw [if_neg hp, if_neg (by decide), Option.bind_some, if_pos rfl]; rfl
        · rw [if_neg (show ¬ (1 : Int32) ≤ 0 by decide), if_neg (nI_ne0 (by omega) (by omega))]; rfl
    · rw [if_neg he, if_neg he]
      exact ⟨true, rfl, rfl⟩
  · rw [if_neg h3, if_neg h3]
    have sq : F_X6_isQuiet σ t (22 * t + 15 + c) (nI q) (nI f) = F_X6_isQuiet_55b σ t (22 * t + 15 + c) (nI q) (nI f) FU (nI 0) (nI (PS len (q + 1) - 1 + f)) (nI (PS len q + 1)) := by
      unfold F_X6_isQuiet
      rw [spotOfPlace_c R (by omega), Option.bind_some, nI_1, spotOfPlace_c R (by omega), Option.bind_some, CW_up C hw, if_neg (by decide), nI_sub1 (by omega), nI_add, nI_1]; rfl
    have pl : F_X8_placeAt ρ a (nI (PS len q)) = some (nI q) := placeAt_at V (by omega)
    have so : F_X8_spotOf ρ a (nI q + 1) = some (nI (PS len (q + 1))) := by rw [nI_1]; exact spotOf_r V (by omega)
    obtain ⟨b, q1, q2, q3⟩ := quiet_up R (i := 22 * t + 15 + c) (x := PS len q) (far := PS len (q + 1)) (q := q) (f := f) (x2 := nI q) (x3 := nI f) (y2 := nI c) (y3 := nI v) (CW_up C hw) (by omega) h72 hf n 0 FU FU (by omega) (Nat.lt_of_le_of_lt h7 (by decide)) (Nat.lt_of_le_of_lt h7 (by decide))
    by_cases h4 : ρ a (38 + 2 * v) = 4
    · rw [if_pos h4, if_pos h4, sq, q1, pl, Option.bind_some, Option.bind_some, so, Option.bind_some, h4, show (0 : Int32) = nI 0 from rfl, q2]
      exact ⟨b, by cases b <;> rfl, rfl⟩
    · rw [if_neg h4, if_neg h4]
      by_cases h5 : ρ a (38 + 2 * v) = 5
      · rw [if_pos h5, if_pos h5, sq, q1, pl, Option.bind_some, Option.bind_some, so, Option.bind_some, h5, show F_X8_entersBy_117b ρ a (nI c) (nI v) FU 0 = F_X8_entersBy_117b ρ a (nI c) (nI v) FU (nI 0) from rfl, q3, CW_up C hw]
        cases b with
        | false => exact ⟨false, rfl, rfl⟩
        | true =>
          rw [bI_t, if_neg (by decide), if_neg (by decide), nI_1, spotOfPlace_c R (by omega), Option.bind_some, room_at R (show q + 1 ≤ m by omega), Option.bind_some, if_pos rfl, ETL_v R (show q + 1 ≤ m by omega)]
          exact ⟨_, bI_id _, rfl⟩
      · rw [if_neg h5, if_neg h5]
        exact ⟨true, rfl, rfl⟩
theorem nI_m1 {q : Nat} : nI (q + 1) + -1 = nI q := by
  rw [← Int32.sub_eq_add_neg]; exact nI_pred q
theorem enters_dn (R : RT σ t (ρ a) m len n) {c q v : Nat} (hc : c < n) (hw : ρ a (44 + 11 * c) = -1) (hq : q < m) (hs : ρ a (49 + 11 * c) = nI (PS len (q + 1))) (hv : v < 3) (ev : ρ a (16 + 3 * q) = nI v) (hpa : F_X6_pieceAhead σ t (22 * t + 15 + c) = some (nI q)) : ∃ b, F_X6_letsIn σ t (22 * t + 15 + c) = some (bI b) ∧ F_X8_entersBy ρ a (nI c) (nI v) = some (bI b) := by
  have h7 := RT_7 R
  have h8 := RT_8 R
  have C := RT_C R hc
  have V := RT_V R
  obtain ⟨M, hM, eM⟩ := RT_M R
  obtain ⟨f, hf, ef⟩ := rule_v R hv
  have hlt := PS_lt (VS_b V) (show q < q + 1 by omega) (show q + 1 ≤ m by omega)
  have h72 := RT_72 R (show q + 1 ≤ m by omega)
  have eo := ownEnd_dn R hc hw
  have rk := (RT_R R).2.2.2.2.2.2.2 v hv
  unfold F_X6_letsIn F_X8_entersBy
  rw [hpa, Option.bind_some, villageBy_c R hq, ev, Option.bind_some, ix_nI (by omega) (by decide), Option.bind_some, Option.bind_some, rk.1, rk.2, ef, kindOf_r hv, Option.bind_some, ix39 hv, Option.bind_some, get0 (by omega), Option.bind_some, get5 (by omega), Option.bind_some, hw, hs, ef, C.2.2.1, hs, eo.1, eo.2]
  simp only [obs]
  by_cases h3 : ρ a (38 + 2 * v) = 3
  · rw [if_pos h3, if_pos h3]
    by_cases he : nI (PS len (q + 1)) = nI (PS len m)
    · rw [if_pos he, if_pos he, hour_c ((RT_3 R).trans eM) hM hf, eM, hour_v hM hf, ck_t _ (by rw [nI_1, show (10 : Int32) = nI 10 from rfl, nI_mul]; exact nI_ne0 (by omega) (by omega)), CW_dn C hw]
      by_cases hp : M / (10 * (f + 1)) % 2 = 0
      · refine ⟨false, ?_, ?_⟩
        · rw [if_pos hp, if_neg (by decide), Option.bind_some, if_pos rfl]; rfl
        · rw [if_pos (show (-1 : Int32) ≤ 0 by decide), if_neg (by rw [hp]; decide)]; rfl
      · have hp1 : M / (10 * (f + 1)) % 2 = 1 := by omega
        refine ⟨true, ?_, ?_⟩
        · rw [if_neg hp, if_pos rfl, Option.bind_some, if_neg (by decide)]; rfl
        · rw [if_pos (show (-1 : Int32) ≤ 0 by decide), if_pos (by rw [hp1]; rfl)]; rfl
    · rw [if_neg he, if_neg he]
      exact ⟨true, rfl, rfl⟩
  · rw [if_neg h3, if_neg h3]
    have lo : (if 0 < ((nI (PS len q) + 1) - nI f) then ((nI (PS len q) + 1) - nI f) else 0) = nI (PS len q + 1 - f) := by
      rw [nI_1]
      rcases Nat.lt_or_ge f (PS len q + 1) with g | g
      · rw [nI_sub (by omega), if_pos (show (0 : Int32) < nI (PS len q + 1 - f) from nI_lt (a := 0) (by omega) (by omega))]
      · rw [if_neg (fun w => by rw [i32_lt, sub_toInt (by omega) (by omega), show (0 : Int32).toInt = 0 by decide] at w; omega), show PS len q + 1 - f = 0 by omega]; rfl
    have sq : F_X6_isQuiet σ t (22 * t + 15 + c) (nI q) (nI f) = F_X6_isQuiet_55 σ t (22 * t + 15 + c) (nI q) (nI f) FU (nI 0) (nI (PS len q + 1 - f)) (nI (PS len (q + 1) - 1)) := by
      unfold F_X6_isQuiet
      rw [spotOfPlace_c R (by omega), Option.bind_some, nI_1, spotOfPlace_c R (by omega), Option.bind_some, CW_dn C hw, if_pos rfl, lo, nI_sub1 (by omega)]; rfl
    have pl : F_X8_placeAt ρ a (nI (PS len (q + 1))) = some (nI (q + 1)) := placeAt_at V (by omega)
    have so : F_X8_spotOf ρ a (nI (q + 1) + -1) = some (nI (PS len q)) := by rw [nI_m1]; exact spotOf_r V (by omega)
    obtain ⟨b, q1, q2, q3⟩ := quiet_dn R (i := 22 * t + 15 + c) (x := PS len (q + 1)) (far := PS len q) (q := q + 1) (f := f) (x2 := nI q) (x3 := nI f) (y2 := nI c) (y3 := nI v) (CW_dn C hw) (by omega) h72 hf n 0 FU FU (by omega) (Nat.lt_of_le_of_lt h7 (by decide)) (Nat.lt_of_le_of_lt h7 (by decide))
    by_cases h4 : ρ a (38 + 2 * v) = 4
    · rw [if_pos h4, if_pos h4, sq, q1, pl, Option.bind_some, Option.bind_some, so, Option.bind_some, h4, show (0 : Int32) = nI 0 from rfl, q2]
      exact ⟨b, by cases b <;> rfl, rfl⟩
    · rw [if_neg h4, if_neg h4]
      by_cases h5 : ρ a (38 + 2 * v) = 5
      · rw [if_pos h5, if_pos h5, sq, q1, pl, Option.bind_some, Option.bind_some, so, Option.bind_some, h5, show F_X8_entersBy_117b ρ a (nI c) (nI v) FU 0 = F_X8_entersBy_117b ρ a (nI c) (nI v) FU (nI 0) from rfl, q3, CW_dn C hw]
        cases b with
        | false => exact ⟨false, rfl, rfl⟩
        | true =>
          rw [bI_t, if_neg (by decide), if_pos rfl, spotOfPlace_c R (by omega), Option.bind_some, room_at R (show q ≤ m by omega), Option.bind_some, if_pos rfl, nI_m1, ETL_v R (show q ≤ m by omega)]
          exact ⟨_, bI_id _, rfl⟩
      · rw [if_neg h5, if_neg h5]
        exact ⟨true, rfl, rfl⟩
end EN
end
section
/-! who backs -/
/-- the end of backerOf, once it is known whom the rule tells -/
def CTL (x1 x2 bA bB P : Int32) : Option Int32 := if P = 0 then (if x1 ≤ x2 then (if bB ≤ 0 then (if bA ≤ 0 then (some (-4)) else (some x1)) else (some x2)) else (if bA ≤ 0 then (if bB ≤ 0 then (if bA ≤ 0 then (some (-4)) else (some x1)) else (some x2)) else (some x1))) else (if 0 ≤ P then (if bB ≤ 0 then (if bA ≤ 0 then (some (-4)) else (some x1)) else (some x2)) else (if bA ≤ 0 then (if bB ≤ 0 then (if bA ≤ 0 then (some (-4)) else (some x1)) else (some x2)) else (some x1)))
/-- whom it is in the end -/
def FIN (x1 x2 bA bB : Int32) (T : Bool) : Int32 := if T then (if bA ≤ 0 then (if bB ≤ 0 then -4 else x2) else x1) else (if bB ≤ 0 then (if bA ≤ 0 then -4 else x1) else x2)
def TT (x y : Int) (A B : Nat) : Bool := decide (x < y ∨ (x = y ∧ B < A))
theorem FIN_or (x1 x2 bA bB : Int32) (T : Bool) : FIN x1 x2 bA bB T = -4 ∨ FIN x1 x2 bA bB T = x1 ∨ FIN x1 x2 bA bB T = x2 := by
  unfold FIN
  cases T <;> (repeat' split) <;> simp
theorem CTL_v {A B : Nat} {bA bB P : Int32} {x y : Int} (hA : A < 7) (hB : B < 7) (hP : P.toInt = x - y) : CTL (nI A) (nI B) bA bB P = some (FIN (nI A) (nI B) bA bB (TT x y A B)) := by
  have z0 : (0 : Int32).toInt = 0 := by decide
  unfold CTL FIN TT
  by_cases h : x = y
  · rw [if_pos (i32_eq.mpr (by rw [hP, z0]; omega))]
    by_cases h2 : A ≤ B
    · rw [if_pos (nI_le h2 (by omega)), decide_eq_false (by omega)]
      by_cases k1 : bB ≤ 0 <;> by_cases k2 : bA ≤ 0 <;> simp [k1, k2]
    · rw [if_neg (nI_ge (by omega) (by omega)), decide_eq_true (by omega)]
      by_cases k1 : bB ≤ 0 <;> by_cases k2 : bA ≤ 0 <;> simp [k1, k2]
  · rw [if_neg (fun q => by rw [i32_eq, hP, z0] at q; omega)]
    by_cases h2 : x < y
    · rw [if_neg (fun q => by rw [i32_le, hP, z0] at q; omega), decide_eq_true (Or.inl h2)]
      by_cases k1 : bB ≤ 0 <;> by_cases k2 : bA ≤ 0 <;> simp [k1, k2]
    · rw [if_pos (i32_le.mpr (by rw [hP, z0]; omega)), decide_eq_false (by omega)]
      by_cases k1 : bB ≤ 0 <;> by_cases k2 : bA ≤ 0 <;> simp [k1, k2]
/-- the comparison of toldBy -/
def CMP (x1 x2 X Y : Int32) : Option Int32 := if X = Y then (if x1 ≤ x2 then (some x2) else (some x1)) else (if Y ≤ X then (some x2) else (some x1))
theorem CMP_v {A B : Nat} {X Y : Int32} {x y : Int} (hA : A < 7) (hB : B < 7) (hX : X.toInt = x) (hY : Y.toInt = y) : CMP (nI A) (nI B) X Y = some (if TT x y A B then nI A else nI B) := by
  unfold CMP TT
  by_cases h : x = y
  · rw [if_pos (i32_eq.mpr (by rw [hX, hY, h]))]
    by_cases h2 : A ≤ B
    · rw [if_pos (nI_le h2 (by omega)), decide_eq_false (by omega)]; rfl
    · rw [if_neg (nI_ge (by omega) (by omega)), decide_eq_true (by omega)]; rfl
  · rw [if_neg (fun q => by rw [i32_eq, hX, hY] at q; omega)]
    by_cases h2 : x < y
    · rw [if_neg (fun q => by rw [i32_le, hX, hY] at q; omega), decide_eq_true (Or.inl h2)]; rfl
    · rw [if_pos (i32_le.mpr (by rw [hX, hY]; omega)), decide_eq_false (by omega)]; rfl
section BK
variable {σ ρ : Mem} {t a m n : Nat} {len : Nat → Nat}
/-- the end of backsOf -/
theorem backsOf_v {A B v : Nat} {piece : Int32} {T : Bool} (hA : A < 7) (hB : B < 7) (hne : A ≠ B) (hv : v < 3) (h : F_X8_toldBy ρ a (nI A) (nI B) (ρ a (38 + 2 * v)) piece = some (if T then nI A else nI B)) : F_X8_backsOf ρ a (nI A) (nI B) (nI v) piece = some (FIN (nI A) (nI B) (ρ a (47 + 11 * A)) (ρ a (47 + 11 * B)) T) := by
  unfold F_X8_backsOf FIN
  rw [kindOf_r hv, Option.bind_some, h, Option.bind_some]
  cases T with
  | true =>
    simp only [if_true]
    rw [get3 hA, Option.bind_some, get3 hB]
    by_cases k1 : ρ a (47 + 11 * A) ≤ 0
    · rw [if_pos k1, if_pos k1, Option.bind_some]
      by_cases k2 : ρ a (47 + 11 * B) ≤ 0
      · rw [if_pos k2, if_pos k2]
      · rw [if_neg k2, if_neg k2]
    · rw [if_neg k1, if_neg k1]
  | false =>
    have e : ¬ nI B = nI A := fun q => hne (nI_inj q (by omega) (by omega)).symm
    simp only [Bool.false_eq_true, if_false, e]
    rw [get3 hB, Option.bind_some, get3 hA]
    by_cases k1 : ρ a (47 + 11 * B) ≤ 0
    · rw [if_pos k1, if_pos k1, Option.bind_some]
      by_cases k2 : ρ a (47 + 11 * A) ≤ 0
      · rw [if_pos k2, if_pos k2]
      · rw [if_neg k2, if_neg k2]
    · rw [if_neg k1, if_neg k1]
/-- spots back to the place behind -/
theorem behind_p (R : RT σ t (ρ a) m len n) {c x : Nat} (hc : c < n) (hs : ρ a (49 + 11 * c) = nI x) (hx : x ≤ PS len m) : ∃ w : Nat, w ≤ 9 ∧ F_X6_wayBack σ t (22 * t + 15 + c) = some (nI w) ∧ F_X8_behind ρ a (nI c) = some (nI w) := by
  have h7 := RT_7 R
  have V := RT_V R
  have C := RT_C R hc
  have h72 := RT_72 R (Nat.le_refl m)
  have hsc : σ (22 * t + 15 + c) 6 = nI x := C.2.2.1.trans hs
  have hx73 : nI x < (73 : Int32) := nI_lt (a := x) (b := 73) (by omega) (by decide)
  rcases spot_cases hx with ⟨p, hp, rfl⟩ | ⟨p, hp, h1, h2⟩
  · refine ⟨0, by decide, ?_, ?_⟩
    · unfold F_X6_wayBack
      have r := (RT_R R).2.2.2.2.1 p hp
      rw [hsc, if_neg (nI_pos (by omega)), if_pos hx73, ix_nI (by omega) (by decide), Option.bind_some, Option.bind_some, r.2.2.1, r.2.2.2]
      by_cases e : σ (22 * t + 15 + c) 0 = 0
      · rw [if_pos e]; rfl
      · rw [if_neg e]; rfl
    · unfold F_X8_behind
      rw [get5 (by omega), Option.bind_some, hs, placeAt_at V hp, Option.bind_some, if_neg (nI_pos (by have := RT_8 R; omega))]; rfl
  · have r := (RT_R R).2.2.2.2.2.1 p x hp h1 h2
    have hl := VS_b V p hp
    have hps := PS_s len p
    have h8 := RT_8 R
    have hK := (RT_K R hc).1
    have hb : F_X8_behind ρ a (nI c) = (if ρ a (44 + 11 * c) ≤ 0 then some (nI (PS len (p + 1) - x)) else some (nI (x - PS len p))) := by
      unfold F_X8_behind
      rw [get5 (by omega), Option.bind_some, hs, placeAt_no V hp h1 h2, Option.bind_some, if_pos (by decide), pieceUp V (by decide) hp (by omega) h2, Option.bind_some, get0 (by omega), Option.bind_some, nI_1, spotOf_r V (show p + 1 ≤ m by omega), spotOf_r V (show p ≤ m by omega), Option.bind_some, Option.bind_some, nI_sub (by omega), nI_sub (by omega)]
    rcases hK with hw | hw
    · refine ⟨x - PS len p, by omega, ?_, ?_⟩
      · unfold F_X6_wayBack
        rw [hsc, if_neg (nI_pos (by omega)), if_pos hx73, CW_up C hw, if_neg i10, ix_nI (by omega) (by decide), Option.bind_some, r.2.1]
      · rw [hb, hw, if_neg (by decide)]
    · refine ⟨PS len (p + 1) - x, by omega, ?_, ?_⟩
      · unfold F_X6_wayBack
        rw [hsc, if_neg (nI_pos (by omega)), if_pos hx73, CW_dn C hw, if_pos rfl, ix_nI (by omega) (by decide), Option.bind_some, r.2.2]
      · rw [hb, hw, if_pos (by decide)]
theorem falls_r {c : Nat} (hc : c < 7) (h : Int32) : F_X8_falls ρ a (nI c) h = if ρ a (44 + 11 * c) ≤ 0 then (if h = 1 then some 1 else some 0) else (if h = 2 then some 1 else some 0) := by
  unfold F_X8_falls
  rw [get0 hc, Option.bind_some]
theorem told_1 {A B : Nat} {piece : Int32} (hA : A < 7) (hB : B < 7) : F_X8_toldBy0 ρ a (nI A) (nI B) 1 piece = CMP (nI A) (nI B) (ρ a (48 + 11 * A)) (ρ a (48 + 11 * B)) := by
  unfold F_X8_toldBy0
  rw [if_pos rfl, get4 hA, Option.bind_some, get4 hB, Option.bind_some]; rfl
theorem told_2 {A B : Nat} {piece u w : Int32} (hu : F_X8_behind ρ a (nI A) = some u) (hw : F_X8_behind ρ a (nI B) = some w) : F_X8_toldBy0 ρ a (nI A) (nI B) 2 piece = CMP (nI A) (nI B) u w := by
  unfold F_X8_toldBy0
  rw [if_neg (by decide), if_pos rfl, hu, Option.bind_some, hw, Option.bind_some]; rfl
theorem ob2 {α : Type} (x : Option α) : (x.bind fun r => some r) = x := by cases x <;> rfl
end BK
end
section
/-! who backs: class against reference -/
section BB
variable {σ ρ : Mem} {t a m n : Nat} {len : Nat → Nat}
theorem backer_c (R : RT σ t (ρ a) m len n) {A B v u w : Nat} {hill : Int32} (hA : A < n) (hB : B < n) (hv : v < 3) (hu : F_X6_wayBack σ t (22 * t + 15 + A) = some (nI u)) (hw : F_X6_wayBack σ t (22 * t + 15 + B) = some (nI w)) : F_X6_backerOf σ t (nI A) (nI B) (nI v) hill = if ρ a (38 + 2 * v) = 5 then CTL (nI A) (nI B) (ρ a (47 + 11 * A)) (ρ a (47 + 11 * B)) (nI u * ρ a (47 + 11 * A) - nI w * ρ a (47 + 11 * B)) else (F_X6_preference σ (22 * t + 15 + A) (22 * t + 15 + B) (ρ a (38 + 2 * v)) hill (nI u - nI w)).bind fun r => CTL (nI A) (nI B) (ρ a (47 + 11 * A)) (ρ a (47 + 11 * B)) r := by
  have h7 := RT_7 R
  have cA : ¬ (nI A < 0 ∨ σ (22 * t) 2 ≤ nI A ∨ 7 ≤ nI A) := nocart rfl (by omega) (by rw [RT_2 R]; exact nI_lt hA (by omega))
  have cB : ¬ (nI B < 0 ∨ σ (22 * t) 2 ≤ nI B ∨ 7 ≤ nI B) := nocart rfl (by omega) (by rw [RT_2 R]; exact nI_lt hB (by omega))
  have v0 : ¬ nI v < 0 := nI_pos (by omega)
  have v3 : nI v < 3 := nI_lt (a := v) (b := 3) hv (by decide)
  have rk := ((RT_R R).2.2.2.2.2.2.2 v hv).1
  have eA := (RT_C R hA).2.1.2.2.1
  have eB := (RT_C R hB).2.1.2.2.1
  unfold F_X6_backerOf
  rw [if_neg cA, ix_nI (show A < 7 by omega) (by decide), Option.bind_some, if_neg cB, ix_nI (show B < 7 by omega) (by decide), Option.bind_some, if_neg v0, if_pos v3, hu, hw, Option.bind_some, Option.bind_some, Option.bind_some, Option.bind_some, ix_nI hv (by decide), Option.bind_some, rk, eA, eB]
  rfl
theorem backer_p (R : RT σ t (ρ a) m len n) {A B v xA xB : Nat} {piece hill : Int32} (hA : A < n) (hB : B < n) (hne : A ≠ B) (hv : v < 3) (sA : ρ a (49 + 11 * A) = nI xA) (sB : ρ a (49 + 11 * B) = nI xB) (lA : xA ≤ PS len m) (lB : xB ≤ PS len m) (opp : ρ a (44 + 11 * A) = 1 ∧ ρ a (44 + 11 * B) = -1 ∨ ρ a (44 + 11 * A) = -1 ∧ ρ a (44 + 11 * B) = 1) (hp : piece = -4 ∧ hill = 0 ∨ ∃ p, p < m ∧ piece = nI p ∧ hill = ρ a (15 + 3 * p)) :
    ∃ z, F_X6_backerOf σ t (nI A) (nI B) (nI v) hill = some z ∧ F_X8_backsOf ρ a (nI A) (nI B) (nI v) piece = some z ∧ (z = -4 ∨ z = nI A ∨ z = nI B) := by
  have h7 := RT_7 R
  have h8 := RT_8 R
  have V := RT_V R
  obtain ⟨u, u9, u1, u2⟩ := behind_p R hA sA lA
  obtain ⟨w, w9, w1, w2⟩ := behind_p R hB sB lB
  obtain ⟨-, lodA, ⟨bA, bA3, ebA⟩, ⟨gA, gA9, egA⟩, -⟩ := RT_K R hA
  obtain ⟨-, lodB, ⟨bB, bB3, ebB⟩, ⟨gB, gB9, egB⟩, -⟩ := RT_K R hB
  have CA := RT_C R hA
  have CB := RT_C R hB
  suffices h : ∃ x y : Int, F_X6_backerOf σ t (nI A) (nI B) (nI v) hill = some (FIN (nI A) (nI B) (ρ a (47 + 11 * A)) (ρ a (47 + 11 * B)) (TT x y A B)) ∧ F_X8_toldBy ρ a (nI A) (nI B) (ρ a (38 + 2 * v)) piece = some (if TT x y A B then nI A else nI B) by
    obtain ⟨x, y, e1, e2⟩ := h
    exact ⟨_, e1, backsOf_v (by omega) (by omega) hne hv e2, FIN_or _ _ _ _ _⟩
  have near : F_X8_toldBy0 ρ a (nI A) (nI B) 2 piece = some (if TT u w A B then nI A else nI B) := by
    rw [told_2 u2 w2]
    exact CMP_v (by omega) (by omega) (nI_toInt (by omega)) (nI_toInt (by omega))
  have pnear : (nI u - nI w).toInt = (u : Int) - w := sub_toInt (by omega) (by omega)
  have worth : CMP (nI A) (nI B) (ρ a (48 + 11 * A)) (ρ a (48 + 11 * B)) = some (if TT gA gB A B then nI A else nI B) := by
    rw [egA, egB]
    exact CMP_v (by omega) (by omega) (nI_toInt (by omega)) (nI_toInt (by omega))
  have pworth : (σ (22 * t + 15 + A) 4 - σ (22 * t + 15 + B) 4).toInt = (gA : Int) - gB := by
    rw [CA.2.1.2.2.2.1, CB.2.1.2.2.2.1, egA, egB]
    exact sub_toInt (by omega) (by omega)
  have cl := backer_c R (hill := hill) hA hB hv u1 w1
  generalize ρ a (38 + 2 * v) = K at cl ⊢
  by_cases k5 : K = 5
  · subst k5
    rw [if_pos rfl] at cl
    have mA : nI u * ρ a (47 + 11 * A) = nI (u * bA) := by rw [ebA, nI_mul]
    have mB : nI w * ρ a (47 + 11 * B) = nI (w * bB) := by rw [ebB, nI_mul]
    have b1 : u * bA ≤ 9 * 3 := Nat.mul_le_mul u9 bA3
    have b2 : w * bB ≤ 9 * 3 := Nat.mul_le_mul w9 bB3
    refine ⟨(u * bA : Nat), (w * bB : Nat), ?_, ?_⟩
    · rw [cl]
      exact CTL_v (by omega) (by omega) (by rw [mA, mB]; exact sub_toInt (by omega) (by omega))
    · unfold F_X8_toldBy
      rw [if_neg (by decide), if_neg (by decide), if_pos rfl, u2, Option.bind_some, get3 (by omega), Option.bind_some, w2, Option.bind_some, get3 (by omega), Option.bind_some, mA, mB]
      exact CMP_v (by omega) (by omega) (nI_toInt (by omega)) (nI_toInt (by omega))
  rw [if_neg k5] at cl
  by_cases k1 : K = 1
  · subst k1
    refine ⟨gA, gB, ?_, ?_⟩
    · rw [cl]
      unfold F_X6_preference
      rw [if_pos rfl, Option.bind_some]
      exact CTL_v (by omega) (by omega) pworth
    · unfold F_X8_toldBy
      rw [if_pos rfl, get4 (by omega), Option.bind_some, get4 (by omega), Option.bind_some]
      exact worth
  by_cases k2 : K = 2
  · subst k2
    refine ⟨u, w, ?_, ?_⟩
    · rw [cl]
      unfold F_X6_preference
      rw [if_neg k1, if_pos rfl, Option.bind_some]
      exact CTL_v (by omega) (by omega) pnear
    · unfold F_X8_toldBy
      rw [if_neg k1, if_pos rfl, u2, Option.bind_some, w2, Option.bind_some]
      exact CMP_v (by omega) (by omega) (nI_toInt (by omega)) (nI_toInt (by omega))
  by_cases k6 : K = 6
  · subst k6
    have l1 := CA.2.1.1
    have l2 := CB.2.1.1
    have tb : F_X8_toldBy ρ a (nI A) (nI B) 6 piece = if ρ a (46 + 11 * A) = ρ a (46 + 11 * B) then CMP (nI A) (nI B) (ρ a (48 + 11 * A)) (ρ a (48 + 11 * B)) else CMP (nI A) (nI B) (ρ a (46 + 11 * A)) (ρ a (46 + 11 * B)) := by
      unfold F_X8_toldBy
      rw [if_neg (by decide), if_neg (by decide), if_neg (by decide), if_pos rfl, get2 (by omega), Option.bind_some, get2 (by omega), Option.bind_some, told_1 (by omega) (by omega), ob2]
      rfl
    have cp : F_X6_preference σ (22 * t + 15 + A) (22 * t + 15 + B) 6 hill (nI u - nI w) = if ρ a (46 + 11 * A) = ρ a (46 + 11 * B) then some (σ (22 * t + 15 + A) 4 - σ (22 * t + 15 + B) 4) else if ρ a (46 + 11 * A) = 0 then some (-1) else some 1 := by
      unfold F_X6_preference
      rw [if_neg (by decide), if_neg (by decide), if_pos rfl, l1, l2]
    rw [tb, cl, cp]
    rcases lodA with a0 | a0 <;> rcases lodB with b0 | b0 <;> rw [a0, b0]
    · refine ⟨gA, gB, ?_, ?_⟩
      · rw [if_pos rfl, Option.bind_some]
        exact CTL_v (by omega) (by omega) pworth
      · rw [if_pos rfl]
        exact worth
    · refine ⟨0, 1, ?_, ?_⟩
      · rw [if_neg (by decide), if_pos rfl, Option.bind_some]
        exact CTL_v (by omega) (by omega) (by decide)
      · rw [if_neg (by decide)]
        exact CMP_v (by omega) (by omega) (by decide) (by decide)
    · refine ⟨1, 0, ?_, ?_⟩
      · rw [if_neg (by decide), if_neg (by decide), Option.bind_some]
        exact CTL_v (by omega) (by omega) (by decide)
      · rw [if_neg (by decide)]
        exact CMP_v (by omega) (by omega) (by decide) (by decide)
    · refine ⟨gA, gB, ?_, ?_⟩
      · rw [if_pos rfl, Option.bind_some]
        exact CTL_v (by omega) (by omega) pworth
      · rw [if_pos rfl]
        exact worth
  by_cases k7 : K = 7
  · subst k7
    rcases hp with ⟨rfl, rfl⟩ | ⟨p, hpm, rfl, eh⟩
    · refine ⟨u, w, ?_, ?_⟩
      · rw [cl]
        unfold F_X6_preference
        rw [if_neg (by decide), if_neg (by decide), if_neg (by decide), if_pos rfl, if_pos rfl, Option.bind_some]
        exact CTL_v (by omega) (by omega) pnear
      · unfold F_X8_toldBy
        rw [if_neg (by decide), if_neg (by decide), if_neg (by decide), if_neg (by decide), if_pos rfl, if_neg (by decide), if_neg (by decide), near, Option.bind_some]
    · have p0 : 0 ≤ nI p := nI_pos' (by omega)
      have hh := VS_hill V hpm
      rw [← eh] at hh
      have tb : ∀ fa fb : Int32, F_X8_falls ρ a (nI A) hill = some fa → F_X8_falls ρ a (nI B) hill = some fb → F_X8_toldBy ρ a (nI A) (nI B) 7 (nI p) = if -fa = -fb then some (if TT u w A B then nI A else nI B) else CMP (nI A) (nI B) (-fa) (-fb) := by
        intro fa fb e1 e2
        unfold F_X8_toldBy
        rw [if_neg (by decide), if_neg (by decide), if_neg (by decide), if_neg (by decide), if_pos rfl, if_pos p0, ix15 (by omega), Option.bind_some, ← eh, e1, Option.bind_some, if_pos p0, Option.bind_some, ← eh, e2, Option.bind_some, near, Option.bind_some]
        rfl
      have cp : F_X6_preference σ (22 * t + 15 + A) (22 * t + 15 + B) 7 hill (nI u - nI w) = if hill = 0 then some (nI u - nI w) else if hill = 2 then (if σ (22 * t + 15 + A) 0 = 1 then some (-1) else some 1) else (if σ (22 * t + 15 + A) 0 = 0 then some (-1) else some 1) := by
        unfold F_X6_preference
        rw [if_neg (by decide), if_neg (by decide), if_neg (by decide), if_pos rfl]
      rw [cl, cp]
      have fA := falls_r (ρ := ρ) (a := a) (c := A) (by omega) hill
      have fB := falls_r (ρ := ρ) (a := a) (c := B) (by omega) hill
      rcases opp with ⟨oA, oB⟩ | ⟨oA, oB⟩
      · rw [oA, if_neg (by decide)] at fA
        rw [oB, if_pos (by decide)] at fB
        have uA := CW_up CA oA
        rcases hh with hh | hh | hh <;> rw [hh] at fA fB ⊢ <;> rw [hh] at tb
        · refine ⟨u, w, ?_, ?_⟩
          · rw [if_pos rfl, Option.bind_some]
            exact CTL_v (by omega) (by omega) pnear
          · rw [tb 0 0 fA fB, if_pos rfl]
        · refine ⟨0, -1, ?_, ?_⟩
          · rw [if_neg (by decide), if_neg (by decide), uA, if_neg (by decide), Option.bind_some]
            exact CTL_v (by omega) (by omega) (by decide)
          · rw [tb 0 1 fA fB, if_neg (by decide)]
            exact CMP_v (by omega) (by omega) (by decide) (by decide)
        · refine ⟨-1, 0, ?_, ?_⟩
          · rw [if_neg (by decide), if_pos rfl, uA, if_pos rfl, Option.bind_some]
            exact CTL_v (by omega) (by omega) (by decide)
          · rw [tb 1 0 fA fB, if_neg (by decide)]
            exact CMP_v (by omega) (by omega) (by decide) (by decide)
      · rw [oA, if_pos (by decide)] at fA
        rw [oB, if_neg (by decide)] at fB
        have uA := CW_dn CA oA
        rcases hh with hh | hh | hh <;> rw [hh] at fA fB ⊢ <;> rw [hh] at tb
        · refine ⟨u, w, ?_, ?_⟩
          · rw [if_pos rfl, Option.bind_some]
            exact CTL_v (by omega) (by omega) pnear
          · rw [tb 0 0 fA fB, if_pos rfl]
        · refine ⟨-1, 0, ?_, ?_⟩
          · rw [if_neg (by decide), if_neg (by decide), uA, if_pos rfl, Option.bind_some]
            exact CTL_v (by omega) (by omega) (by decide)
          · rw [tb 1 0 fA fB, if_neg (by decide)]
            exact CMP_v (by omega) (by omega) (by decide) (by decide)
        · refine ⟨0, -1, ?_, ?_⟩
          · rw [if_neg (by decide), if_pos rfl, uA, if_neg (by decide), Option.bind_some]
            exact CTL_v (by omega) (by omega) (by decide)
          · rw [tb 0 1 fA fB, if_neg (by decide)]
            exact CMP_v (by omega) (by omega) (by decide) (by decide)
  · refine ⟨0, 0, ?_, ?_⟩
    · rw [cl]
      unfold F_X6_preference
      rw [if_neg k1, if_neg k2, if_neg k6, if_neg k7, Option.bind_some]
      exact CTL_v (by omega) (by omega) (by decide)
    · unfold F_X8_toldBy
      rw [if_neg k1, if_neg k2, if_neg k5, if_neg k6, if_neg k7]
      by_cases h : A ≤ B
      · rw [if_pos (nI_le h (by omega)), TT, decide_eq_false (by omega)]; rfl
      · rw [if_neg (nI_ge (by omega) (by omega)), TT, decide_eq_true (by omega)]; rfl
end BB
end
section
/-! what changes a cart: class and reference alike -/
/-- cells of a row that minutes never change -/
def sta (j : Nat) : Prop := j < 4 ∨ (5 ≤ j ∧ j < 44) ∨ (44 ≤ j ∧ ((j - 44) % 11 < 5 ∨ (j - 44) % 11 = 10))
def KS (k k' : Nat → Int32) : Prop := ∀ j, sta j → k' j = k j
def FrC (t : Nat) (σ σ' : Mem) : Prop := (∀ i, i < 22 * t ∨ 22 * t + 22 ≤ i → σ' i = σ i) ∧ (∀ j, j < 7 → σ' (22 * t + 15 + j) 5 = σ (22 * t + 15 + j) 5) ∧ σ' (22 * t) 8 = σ (22 * t) 8 ∧ σ' (22 * t) 9 = σ (22 * t) 9
def FrR (a : Nat) (ρ ρ' : Mem) : Prop := (∀ i, i ≠ a → i ≠ 91 → ρ' i = ρ i) ∧ (∀ j, j ≠ 19 → j ≠ 20 → ρ' 91 j = ρ 91 j)
theorem KS_rf (k : Nat → Int32) : KS k k := fun _ _ => rfl
theorem KS_tr {k k' k'' : Nat → Int32} (h : KS k k') (h' : KS k' k'') : KS k k'' := fun j hj => (h' j hj).trans (h j hj)
theorem FrC_rf (t : Nat) (σ : Mem) : FrC t σ σ := ⟨fun _ _ => rfl, fun _ _ => rfl, rfl, rfl⟩
theorem FrC_tr {t : Nat} {σ σ' σ'' : Mem} (h : FrC t σ σ') (h' : FrC t σ' σ'') : FrC t σ σ'' := ⟨fun i hi => (h'.1 i hi).trans (h.1 i hi), fun j hj => (h'.2.1 j hj).trans (h.2.1 j hj), h'.2.2.1.trans h.2.2.1, h'.2.2.2.trans h.2.2.2⟩
theorem FrR_rf (a : Nat) (ρ : Mem) : FrR a ρ ρ := ⟨fun _ _ _ => rfl, fun _ _ _ => rfl⟩
theorem FrR_tr {a : Nat} {ρ ρ' ρ'' : Mem} (h : FrR a ρ ρ') (h' : FrR a ρ' ρ'') : FrR a ρ ρ'' := ⟨fun i h1 h2 => (h'.1 i h1 h2).trans (h.1 i h1 h2), fun j h1 h2 => (h'.2 j h1 h2).trans (h.2 j h1 h2)⟩
/-- who is watched, and whether a step was taken -/
def RW (σ ρ : Mem) (t : Nat) : Prop := σ (22 * t) 6 = ρ 91 20 ∧ (σ (22 * t) 8 = -4 ∧ σ (22 * t) 9 = -4 ∨ σ (22 * t) 8 = ρ 91 17 ∧ σ (22 * t) 9 = ρ 91 18 ∧ σ (22 * t) 10 = ρ 91 19 ∧ (ρ 91 19 = -4 ∨ 0 ≤ ρ 91 19))
/-- how many: one goes away, one comes -/
theorem occ_pos {sp : Nat → Int} {x : Int} {c n : Nat} (hc : c < n) (h : sp c = x) : 1 ≤ occ sp x n := by
  induction n with
  | zero => omega
  | succ n ih =>
    simp only [occ]
    by_cases k : c = n
    · subst k; simp only [h, if_true]; omega
    · have := ih (by omega); omega
theorem occ_cg {sp sp' : Nat → Int} {n : Nat} (h : ∀ i, i < n → sp' i = sp i) (x : Int) : occ sp' x n = occ sp x n := by
  induction n with
  | zero => rfl
  | succ n ih =>
    simp only [occ]
    rw [ih (fun i hi => h i (by omega)), h n (by omega)]
theorem upd_at (r : Nat → Int32) (j : Nat) (v : Int32) : upd r j v j = v := by simp [upd]
theorem upd_ne (r : Nat → Int32) {i j : Nat} (v : Int32) (h : i ≠ j) : upd r j v i = r i := by simp [upd, h]
theorem on_dec {sp sp' : Nat → Int} {c n x : Nat} {r : Nat → Int32} (hr : ∀ s, s < 73 → r s = nI (occ sp s n)) (hc : c < n) (hs : sp c = x) (hs' : sp' c < 0) (ho : ∀ i, i ≠ c → sp' i = sp i) (hx : x < 73) : ∀ s, s < 73 → upd r x (r x - 1) s = nI (occ sp' s n) := by
  intro s h73
  have hu := occ_upd (sp := sp) (sp' := sp') (c := c) ho s n
  rw [if_pos hc] at hu
  have h1 : ¬ sp' c = (s : Int) := by omega
  simp only [h1, if_false, hs] at hu
  by_cases e : s = x
  · subst e
    have hp := occ_pos hc hs
    rw [upd_at, hr s h73, nI_sub1 hp]
    congr 1
    simp only [if_true] at hu
    omega
  · have e2 : ¬ (x : Int) = (s : Int) := by omega
    rw [upd_ne _ _ e, hr s h73]
    congr 1
    simp only [e2, if_false] at hu
    omega
theorem on_inc {sp sp' : Nat → Int} {c n y : Nat} {r : Nat → Int32} (hr : ∀ s, s < 73 → r s = nI (occ sp s n)) (hc : c < n) (hs : sp c < 0) (hs' : sp' c = y) (ho : ∀ i, i ≠ c → sp' i = sp i) (hy : y < 73) : ∀ s, s < 73 → upd r y (r y + 1) s = nI (occ sp' s n) := by
  intro s h73
  have hu := occ_upd (sp := sp) (sp' := sp') (c := c) ho s n
  rw [if_pos hc] at hu
  have h1 : ¬ sp c = (s : Int) := by omega
  simp only [h1, if_false, hs'] at hu
  by_cases e : s = y
  · subst e
    rw [upd_at, hr s h73, nI_1]
    congr 1
    simp only [if_true] at hu
    omega
  · have e2 : ¬ (y : Int) = (s : Int) := by omega
    rw [upd_ne _ _ e, hr s h73]
    congr 1
    simp only [e2, if_false] at hu
    omega
theorem on_go {sp sp' : Nat → Int} {c n x y : Nat} {r : Nat → Int32} (hr : ∀ s, s < 73 → r s = nI (occ sp s n)) (hc : c < n) (hs : sp c = x) (hs' : sp' c = y) (ho : ∀ i, i ≠ c → sp' i = sp i) (hx : x < 73) (hy : y < 73) : ∀ s, s < 73 → upd (upd r x (r x - 1)) y ((upd r x (r x - 1)) y + 1) s = nI (occ sp' s n) := by
  have h1 := on_dec (sp' := fun i => if i = c then -5 else sp i) hr hc hs (by simp) (fun i hi => by simp [hi]) hx
  exact on_inc h1 hc (by simp) hs' (fun i hi => by simp [hi, ho i hi]) hy
section UP
variable {σ σ' ρ : Mem} {t a m n : Nat} {k k' : Nat → Int32} {len : Nat → Nat}
/-- one cart changes -/
theorem RT_spot (R : RT σ t k m len n) {c : Nat} (hc : c < n) (h1 : ∀ i, i ≠ 22 * t + 15 + c → i ≠ 22 * t + 14 → i ≠ 22 * t → σ' i = σ i) (h1b : ∀ b, 2 ≤ b → b ≤ 5 → σ' (22 * t) b = σ (22 * t) b) (h2 : ∀ j, ¬ (49 + 11 * c ≤ j ∧ j ≤ 53 + 11 * c) → k' j = k j) (h3 : CW (σ' (22 * t + 15 + c)) k' c) (h4 : ∀ b, (b = 0 ∨ b = 1 ∨ b = 7 ∨ b = 8) → σ' (22 * t + 15 + c) b = 0 ∨ σ' (22 * t + 15 + c) b = 1)
    (h5 : k' (49 + 11 * c) = -2 ∨ k' (49 + 11 * c) = -3 ∨ ∃ x : Nat, k' (49 + 11 * c) = nI x ∧ x ≤ PS len m ∧ (k (44 + 11 * c) = 1 → x < PS len m) ∧ (k (44 + 11 * c) = -1 → 0 < x)) (h6 : ∀ s, s < 73 → σ' (22 * t + 14) s = nI (occ (spk k') s n)) (h7z : k' (49 + 11 * c) = -2 → k' (51 + 11 * c) = 0) : RT σ' t k' m len n := by
  have h7 := RT_7 R
  obtain ⟨V, ⟨hn, -⟩, ⟨M, hM, eM⟩, K, D, ⟨f2, f3, f4, f5⟩, W, hb, -, hz⟩ := R
  have hr : ∀ i, 1 ≤ i → i ≤ 12 → σ' (22 * t + i) = σ (22 * t + i) := fun i h h' => h1 _ (by omega) (by omega) (by omega)
  refine ⟨?_, ⟨(h2 1 (by omega)).trans hn, h7⟩, ⟨M, hM, (h2 2 (by omega)).trans eM⟩, ?_, ?_, ⟨?_, ?_, ?_, ?_⟩, ?_, ?_, h6, ?_⟩
  · obtain ⟨⟨v1, v2⟩, v3, v4, v5, v6, v7⟩ := V
    refine ⟨⟨(h2 0 (by omega)).trans v1, v2⟩, fun p hp => (h2 _ (by omega)).trans (v3 p hp), v4, fun p hp => ?_, fun p hp hp8 => ?_, fun v hv => ?_⟩
    · rw [h2 (15 + 3 * p) (by omega), h2 (16 + 3 * p) (by omega)]; exact v5 p hp
    · rw [h2 (5 + p) (by omega)]; exact v6 p hp hp8
    · rw [h2 (38 + 2 * v) (by omega), h2 (39 + 2 * v) (by omega)]; exact v7 v hv
  · intro j hj
    obtain ⟨q1, q2, q3, q4, q5⟩ := K j hj
    refine ⟨?_, ?_, ?_, ?_, ?_⟩
    · rw [h2 (44 + 11 * j) (by omega)]; exact q1
    · rw [h2 (46 + 11 * j) (by omega)]; exact q2
    · rw [h2 (47 + 11 * j) (by omega)]; exact q3
    · rw [h2 (48 + 11 * j) (by omega)]; exact q4
    · rw [h2 (44 + 11 * j) (by omega)]
      by_cases e : j = c
      · subst e; exact h5
      · rw [h2 (49 + 11 * j) (by omega)]; exact q5
  · obtain ⟨d1, d2, d3, d4, d5, d6, d7, d8⟩ := D
    refine ⟨?_, ?_, fun p hp => ?_, fun p hp hp2 => ?_, fun p hp => ?_, fun p x hp hx hx2 => ?_, fun p x hp hx hx2 => ?_, fun v hv => ?_⟩
    · rw [hr 1 (by omega) (by omega)]; exact d1
    · rw [hr 1 (by omega) (by omega)]; exact d2
    · rw [hr 2 (by omega) (by omega), hr 3 (by omega) (by omega), hr 4 (by omega) (by omega), h2 (14 + 3 * p) (by have := V.1.2; omega), h2 (15 + 3 * p) (by have := V.1.2; omega), h2 (16 + 3 * p) (by have := V.1.2; omega)]; exact d3 p hp
    · rw [hr 5 (by omega) (by omega), h2 (5 + p) (by have := V.1.2; omega)]; exact d4 p hp hp2
    · rw [hr 6 (by omega) (by omega), hr 7 (by omega) (by omega), hr 9 (by omega) (by omega), hr 10 (by omega) (by omega)]; exact d5 p hp
    · rw [hr 7 (by omega) (by omega), hr 9 (by omega) (by omega), hr 10 (by omega) (by omega)]; exact d6 p x hp hx hx2
    · rw [hr 8 (by omega) (by omega)]; exact d7 p x hp hx hx2
    · rw [hr 11 (by omega) (by omega), hr 12 (by omega) (by omega), h2 (38 + 2 * v) (by omega), h2 (39 + 2 * v) (by omega)]; exact d8 v hv
  · rw [h1b 2 (by omega) (by omega), h2 1 (by omega)]; exact f2
  · rw [h1b 3 (by omega) (by omega), h2 2 (by omega)]; exact f3
  · rw [h1b 4 (by omega) (by omega), h2 3 (by omega)]; exact f4
  · rw [h1b 5 (by omega) (by omega), h2 4 (by omega)]; exact f5
  · intro j hj
    by_cases e : j = c
    · subst e; exact h3
    · have w := W j hj
      unfold CW at w ⊢
      rw [h1 (22 * t + 15 + j) (by omega) (by omega) (by omega), h2 (44 + 11 * j) (by omega), h2 (45 + 11 * j) (by omega), h2 (46 + 11 * j) (by omega), h2 (47 + 11 * j) (by omega), h2 (48 + 11 * j) (by omega), h2 (49 + 11 * j) (by omega), h2 (50 + 11 * j) (by omega), h2 (51 + 11 * j) (by omega), h2 (52 + 11 * j) (by omega), h2 (53 + 11 * j) (by omega), h2 (54 + 11 * j) (by omega)]
      exact w
  · intro j hj b hb12 hb4
    by_cases e : j = c
    · subst e; exact h4 b hb4
    · rw [h1 (22 * t + 15 + j) (by omega) (by omega) (by omega)]; exact hb j hj b hb12 hb4
  · intro j hj
    by_cases e : j = c
    · subst e; exact h7z
    · rw [h2 (49 + 11 * j) (by omega), h2 (51 + 11 * j) (by omega)]; exact hz j hj
/-- one cart changes, its spot doesn't -/
theorem RT_row (R : RT σ t k m len n) {c : Nat} (hc : c < n) (h1 : ∀ i, i ≠ 22 * t + 15 + c → σ' i = σ i) (h2 : ∀ j, ¬ (50 + 11 * c ≤ j ∧ j ≤ 53 + 11 * c) → k' j = k j) (h3 : CW (σ' (22 * t + 15 + c)) k' c) (h4 : ∀ b, (b = 0 ∨ b = 1 ∨ b = 7 ∨ b = 8) → σ' (22 * t + 15 + c) b = 0 ∨ σ' (22 * t + 15 + c) b = 1) (hz : k (49 + 11 * c) = -2 → k' (51 + 11 * c) = k (51 + 11 * c)) : RT σ' t k' m len n := by
  refine RT_spot R hc (fun i q _ _ => h1 i q) (fun b _ _ => by rw [h1 (22 * t) (by omega)]) (fun j hj => h2 j (by omega)) h3 h4 ?_ ?_ (fun q => by rw [h2 (49 + 11 * c) (by omega)] at q; rw [hz q]; exact RT_z R hc q)
  · rw [h2 (49 + 11 * c) (by omega)]; exact (RT_K R hc).2.2.2.2
  · intro s hs
    rw [h1 (22 * t + 14) (by omega), RT_on R hs, occ_cg (fun i hi => ?_)]
    show (k (49 + 11 * i)).toInt = (k' (49 + 11 * i)).toInt
    rw [h2 (49 + 11 * i) (by omega)]
/-- a field of a cart that is no truth, no spot -/
theorem RT_cb (R : RT σ t k m len n) {c : Nat} (hc : c < n) : ∀ b, (b = 0 ∨ b = 1 ∨ b = 7 ∨ b = 8) → σ (22 * t + 15 + c) b = 0 ∨ σ (22 * t + 15 + c) b = 1 := fun b hb => RT_b R c (by have := RT_7 R; omega) b (by omega) hb
theorem sta_n {c j : Nat} (h : ¬ (49 + 11 * c ≤ j ∧ j ≤ 53 + 11 * c)) (v : Int32) (q : Nat) (hq : 49 + 11 * c ≤ q ∧ q ≤ 53 + 11 * c) : upd k q v j = k j := upd_ne _ _ (by omega)
theorem sta_c {c q : Nat} (hq : 49 + 11 * c ≤ q ∧ q ≤ 53 + 11 * c) (v : Int32) : KS k (upd k q v) := fun j hj => upd_ne _ _ (by unfold sta at hj; omega)
end UP
end
section
/-! one change at a time -/
def STP (σ ρ σ' ρ' : Mem) (t a m : Nat) (len : Nat → Nat) (n : Nat) : Prop := RT σ' t (ρ' a) m len n ∧ RW σ' ρ' t ∧ FrC t σ σ' ∧ FrR a ρ ρ' ∧ KS (ρ a) (ρ' a)
theorem STP_tr {σ ρ σ' ρ' σ'' ρ'' : Mem} {t a m n : Nat} {len : Nat → Nat} (h : STP σ ρ σ' ρ' t a m len n) (h' : STP σ' ρ' σ'' ρ'' t a m len n) : STP σ ρ σ'' ρ'' t a m len n := ⟨h'.1, h'.2.1, FrC_tr h.2.2.1 h'.2.2.1, FrR_tr h.2.2.2.1 h'.2.2.2.1, KS_tr h.2.2.2.2 h'.2.2.2.2⟩
theorem RW_cg {σ ρ σ' ρ' : Mem} {t : Nat} (h1 : σ' (22 * t) = σ (22 * t)) (h2 : ρ' 91 = ρ 91) (W : RW σ ρ t) : RW σ' ρ' t := by
  unfold RW at W ⊢
  rw [h1, h2]; exact W
theorem stm_cm (ρ : Mem) {a j j' : Nat} (v v' : Int32) (h : j ≠ j') : stm (stm ρ a j v) a j' v' = stm (stm ρ a j' v') a j v := by
  funext b c
  by_cases e : b = a
  · subst e
    simp only [stm_row, upd]
    by_cases e1 : c = j
    · have e2 : ¬ c = j' := by omega
      simp [e1, h]
    · by_cases e2 : c = j'
      · simp [e2, h.symm]
      · simp [e1, e2]
  · rw [stm_ne _ _ _ e, stm_ne _ _ _ e, stm_ne _ _ _ e, stm_ne _ _ _ e]
theorem FrR_a {a j : Nat} {v : Int32} (ρ : Mem) (ha : a ≠ 91) : FrR a ρ (stm ρ a j v) := ⟨fun i h1 _ => stm_ne _ _ _ h1, fun j' _ _ => by rw [stm_ne _ _ _ (fun q => ha q.symm)]⟩
theorem FrC_i {t c j : Nat} {v : Int32} (σ : Mem) (hc : c < 7) (hj : j ≠ 5) : FrC t σ (stm σ (22 * t + 15 + c) j v) := by
  refine ⟨fun i hi => stm_ne _ _ _ (by omega), fun q hq => ?_, by rw [stm_ne _ _ _ (by omega)], by rw [stm_ne _ _ _ (by omega)]⟩
  by_cases e : q = c
  · subst e; rw [stm_row, upd_ne _ _ (by omega)]
  · rw [stm_ne _ _ _ (by omega)]
theorem KS_a {a c q : Nat} (ρ : Mem) (hq : 49 + 11 * c ≤ q ∧ q ≤ 53 + 11 * c) (v : Int32) : KS (ρ a) (stm ρ a q v a) := by rw [stm_row]; exact sta_c hq v
section EL
variable {σ ρ : Mem} {t a m n : Nat} {len : Nat → Nat}
theorem e_wait (R : RT σ t (ρ a) m len n) (W : RW σ ρ t) (ha : a ≠ 91) {c : Nat} (hc : c < n) : STP σ ρ (stm σ (22 * t + 15 + c) 11 (σ (22 * t + 15 + c) 11 + 1)) (stm ρ a (53 + 11 * c) (ρ a (53 + 11 * c) + 1)) t a m len n := by
  have h7 := RT_7 R
  refine ⟨?_, RW_cg (stm_ne _ _ _ (by omega)) (stm_ne _ _ _ (fun q => ha q.symm)) W, FrC_i σ (by omega) (by omega), FrR_a ρ ha, KS_a (c := c) ρ (by omega) _⟩
  refine RT_row R hc (fun i hi => stm_ne _ _ _ hi) (fun j hj => by rw [stm_row, upd_ne _ _ (by omega)]) ?_ ?_ (fun _ => by rw [stm_row, upd_ne _ _ (by omega)])
  · obtain ⟨w1, w2, w3, w4, w5, w6, w7⟩ := RT_C R hc
    rw [stm_row, stm_row]
    unfold CW
    simp (disch := omega) only [upd_at, upd_ne]
    exact ⟨w1, w2, w3, w4, w5, w6, by rw [w7]⟩
  · intro b hb
    rw [stm_row, upd_ne _ _ (by omega)]; exact RT_cb R hc b hb
theorem e_bk0 (R : RT σ t (ρ a) m len n) (W : RW σ ρ t) (ha : a ≠ 91) {c : Nat} (hc : c < n) : STP σ ρ (stm σ (22 * t + 15 + c) 7 0) (stm ρ a (50 + 11 * c) 0) t a m len n := by
  have h7 := RT_7 R
  refine ⟨?_, RW_cg (stm_ne _ _ _ (by omega)) (stm_ne _ _ _ (fun q => ha q.symm)) W, FrC_i σ (by omega) (by omega), FrR_a ρ ha, KS_a (c := c) ρ (by omega) _⟩
  refine RT_row R hc (fun i hi => stm_ne _ _ _ hi) (fun j hj => by rw [stm_row, upd_ne _ _ (by omega)]) ?_ ?_ (fun _ => by rw [stm_row, upd_ne _ _ (by omega)])
  · obtain ⟨w1, w2, w3, w4, w5, w6, w7⟩ := RT_C R hc
    rw [stm_row, stm_row]
    unfold CW
    simp (disch := omega) only [upd_at, upd_ne]
    exact ⟨w1, w2, w3, Or.inl ⟨trivial, trivial⟩, w5, w6, w7⟩
  · intro b hb
    rw [stm_row]
    by_cases e : b = 7
    · subst e; rw [upd_at]; exact Or.inl rfl
    · rw [upd_ne _ _ e]; exact RT_cb R hc b hb
theorem e_beg (R : RT σ t (ρ a) m len n) (W : RW σ ρ t) (ha : a ≠ 91) {c : Nat} (hc : c < n) : STP σ ρ (stm (stm σ (22 * t + 15 + c) 7 1) (22 * t + 15 + c) 8 0) (stm ρ a (50 + 11 * c) 1) t a m len n := by
  have h7 := RT_7 R
  refine ⟨?_, RW_cg (by rw [stm_ne _ _ _ (by omega), stm_ne _ _ _ (by omega)]) (stm_ne _ _ _ (fun q => ha q.symm)) W, FrC_tr (FrC_i σ (by omega) (by omega)) (FrC_i _ (by omega) (by omega)), FrR_a ρ ha, KS_a (c := c) ρ (by omega) _⟩
  refine RT_row R hc (fun i hi => by rw [stm_ne _ _ _ hi, stm_ne _ _ _ hi]) (fun j hj => by rw [stm_row, upd_ne _ _ (by omega)]) ?_ ?_ (fun _ => by rw [stm_row, upd_ne _ _ (by omega)])
  · obtain ⟨w1, w2, w3, w4, w5, w6, w7⟩ := RT_C R hc
    rw [stm_row, stm_row, stm_row]
    unfold CW
    simp (disch := omega) only [upd_at, upd_ne]
    exact ⟨w1, w2, w3, Or.inr (Or.inl ⟨trivial, trivial, trivial⟩), w5, w6, w7⟩
  · intro b hb
    rw [stm_row, stm_row]
    by_cases e : b = 8
    · subst e; rw [upd_at]; exact Or.inl rfl
    · rw [upd_ne _ _ e]
      by_cases e2 : b = 7
      · subst e2; rw [upd_at]; exact Or.inr rfl
      · rw [upd_ne _ _ e2]; exact RT_cb R hc b hb
theorem e_left (R : RT σ t (ρ a) m len n) (W : RW σ ρ t) (ha : a ≠ 91) {c : Nat} (hc : c < n) (hs : ¬ ρ a (49 + 11 * c) = -3) (hs2 : ¬ ρ a (49 + 11 * c) = -2) : STP σ ρ (stm σ (22 * t + 15 + c) 9 (σ (22 * t + 15 + c) 9 - 1)) (stm ρ a (51 + 11 * c) (ρ a (51 + 11 * c) - 1)) t a m len n := by
  have h7 := RT_7 R
  refine ⟨?_, RW_cg (stm_ne _ _ _ (by omega)) (stm_ne _ _ _ (fun q => ha q.symm)) W, FrC_i σ (by omega) (by omega), FrR_a ρ ha, KS_a (c := c) ρ (by omega) _⟩
  refine RT_row R hc (fun i hi => stm_ne _ _ _ hi) (fun j hj => by rw [stm_row, upd_ne _ _ (by omega)]) ?_ ?_ (fun q => absurd q hs2)
  · obtain ⟨w1, w2, w3, w4, w5, w6, w7⟩ := RT_C R hc
    rw [stm_row, stm_row]
    unfold CW
    simp (disch := omega) only [upd_at, upd_ne]
    exact ⟨w1, w2, w3, w4, Or.inr (by rw [w5.resolve_left hs]), w6, w7⟩
  · intro b hb
    rw [stm_row, upd_ne _ _ (by omega)]; exact RT_cb R hc b hb
theorem e_leftD (R : RT σ t (ρ a) m len n) (W : RW σ ρ t) {c : Nat} (hc : c < n) (hs : ρ a (49 + 11 * c) = -3) (v : Int32) : STP σ ρ (stm σ (22 * t + 15 + c) 9 v) ρ t a m len n := by
  have h7 := RT_7 R
  refine ⟨?_, RW_cg (stm_ne _ _ _ (by omega)) rfl W, FrC_i σ (by omega) (by omega), FrR_rf a ρ, KS_rf _⟩
  refine RT_row R hc (fun i hi => stm_ne _ _ _ hi) (fun j hj => rfl) ?_ ?_ (fun _ => rfl)
  · obtain ⟨w1, w2, w3, w4, w5, w6, w7⟩ := RT_C R hc
    rw [stm_row]
    unfold CW
    simp (disch := omega) only [upd_ne]
    exact ⟨w1, w2, w3, w4, Or.inl hs, w6, w7⟩
  · intro b hb
    rw [stm_row, upd_ne _ _ (by omega)]; exact RT_cb R hc b hb
/-! a step -/
def mv (σ : Mem) (t i x y : Nat) : Mem := stm (stm (stm (stm σ (22 * t + 14) x ((σ (22 * t + 14) x) - 1)) (22 * t + 14) y (((stm σ (22 * t + 14) x ((σ (22 * t + 14) x) - 1)) (22 * t + 14) y) + 1)) i 6 (nI y)) (22 * t) 6 1
theorem step_c (R : RT σ t (ρ a) m len n) {c x y : Nat} (hc : c < n) (hs : ρ a (49 + 11 * c) = nI x) (hx : x ≤ PS len m) (hy : y ≤ PS len m) : F_X6_step σ t (22 * t + 15 + c) (nI y) = some (mv σ t (22 * t + 15 + c) x y) := by
  have h72 := RT_72 R (Nat.le_refl m)
  have e := (RT_C R hc).2.2.1.trans hs
  unfold F_X6_step
  rw [e, isSpot_c R hx, Option.bind_some, if_neg i10, isSpot_c R hy, Option.bind_some, if_neg i10, ix_nI (show x < 73 by omega) (by decide), Option.bind_some, Option.bind_some, ix_nI (show y < 73 by omega) (by decide), Option.bind_some, Option.bind_some]
  rfl
theorem mv_o {σ : Mem} {t i x y b : Nat} (h1 : b ≠ i) (h2 : b ≠ 22 * t + 14) (h3 : b ≠ 22 * t) : mv σ t i x y b = σ b := by
  unfold mv
  rw [stm_ne _ _ _ h3, stm_ne _ _ _ h1, stm_ne _ _ _ h2, stm_ne _ _ _ h2]
theorem mv_i {σ : Mem} {t c x y : Nat} : mv σ t (22 * t + 15 + c) x y (22 * t + 15 + c) = upd (σ (22 * t + 15 + c)) 6 (nI y) := by
  unfold mv
  rw [stm_ne _ _ _ (by omega), stm_row, stm_ne _ _ _ (by omega), stm_ne _ _ _ (by omega)]
theorem mv_on {σ : Mem} {t c x y : Nat} : mv σ t (22 * t + 15 + c) x y (22 * t + 14) = upd (upd (σ (22 * t + 14)) x (σ (22 * t + 14) x - 1)) y (upd (σ (22 * t + 14)) x (σ (22 * t + 14) x - 1) y + 1) := by
  unfold mv
  rw [stm_ne _ _ _ (by omega), stm_ne _ _ _ (by omega), stm_row, stm_row]
theorem mv_t {σ : Mem} {t c x y : Nat} : mv σ t (22 * t + 15 + c) x y (22 * t) = upd (σ (22 * t)) 6 1 := by
  unfold mv
  rw [stm_row, stm_ne _ _ _ (by omega), stm_ne _ _ _ (by omega), stm_ne _ _ _ (by omega)]
theorem RW_st {σ ρ σ' ρ' : Mem} {t : Nat} (h1 : σ' (22 * t) = upd (σ (22 * t)) 6 1) (h2 : ρ' 91 = upd (ρ 91) 20 1) (W : RW σ ρ t) : RW σ' ρ' t := by
  unfold RW at W ⊢
  rw [h1, h2]
  simp (disch := omega) only [upd_at, upd_ne]
  exact ⟨trivial, W.2⟩
theorem spk_n {k : Nat → Int32} {c x : Nat} (h : k (49 + 11 * c) = nI x) (hx : x < 1000) : spk k c = x := by
  show (k (49 + 11 * c)).toInt = x
  rw [h, nI_toInt (by omega)]
/-- a cart of new spot y: rows of the class told, the row of the reference told -/
theorem RT_go (R : RT σ t (ρ a) m len n) {c x y : Nat} (hc : c < n) (hs : ρ a (49 + 11 * c) = nI x) (hx : x ≤ PS len m) (hy : y ≤ PS len m) {σ' : Mem} {k' : Nat → Int32} {r' : Nat → Int32} (h1 : ∀ i, i ≠ 22 * t + 15 + c → i ≠ 22 * t + 14 → i ≠ 22 * t → σ' i = σ i) (h1b : σ' (22 * t) = upd (σ (22 * t)) 6 1) (h1c : σ' (22 * t + 15 + c) = r') (h1d : σ' (22 * t + 14) = upd (upd (σ (22 * t + 14)) x (σ (22 * t + 14) x - 1)) y (upd (σ (22 * t + 14)) x (σ (22 * t + 14) x - 1) y + 1)) (h2 : ∀ j, ¬ (49 + 11 * c ≤ j ∧ j ≤ 53 + 11 * c) → k' j = ρ a j) (h2s : k' (49 + 11 * c) = nI y) (h3 : CW r' k' c) (h4 : ∀ b, (b = 0 ∨ b = 1 ∨ b = 7 ∨ b = 8) → r' b = 0 ∨ r' b = 1)
    (h5 : (ρ a (44 + 11 * c) = 1 → y < PS len m) ∧ (ρ a (44 + 11 * c) = -1 → 0 < y)) : RT σ' t k' m len n := by
  have h72 := RT_72 R (Nat.le_refl m)
  refine RT_spot R hc h1 (fun b hb hb2 => by rw [h1b, upd_ne _ _ (by omega)]) h2 (by rw [h1c]; exact h3) (fun b hb => by rw [h1c]; exact h4 b hb) (Or.inr (Or.inr ⟨y, h2s, hy, h5.1, h5.2⟩)) ?_ (fun q => absurd (h2s.symm.trans q) (nI_neN (by omega) (by decide)))
  intro s h
  rw [h1d]
  refine on_go (sp := spk (ρ a)) (fun s hs => RT_on R hs) hc (spk_n hs (by omega)) (spk_n h2s (by omega)) (fun i hi => ?_) (by omega) (by omega) s h
  show (k' (49 + 11 * i)).toInt = (ρ a (49 + 11 * i)).toInt
  rw [h2 _ (by omega)]
/-- a cart that is done -/
theorem RT_done (R : RT σ t (ρ a) m len n) {c x y : Nat} (hc : c < n) (hs : ρ a (49 + 11 * c) = nI x) (hx : x ≤ PS len m) (hy : y ≤ PS len m) {σ' : Mem} {k' : Nat → Int32} {r' : Nat → Int32} (h1 : ∀ i, i ≠ 22 * t + 15 + c → i ≠ 22 * t + 14 → i ≠ 22 * t → σ' i = σ i) (h1b : σ' (22 * t) = upd (σ (22 * t)) 6 1) (h1c : σ' (22 * t + 15 + c) = r') (h1d : σ' (22 * t + 14) = upd (upd (upd (σ (22 * t + 14)) x (σ (22 * t + 14) x - 1)) y (upd (σ (22 * t + 14)) x (σ (22 * t + 14) x - 1) y + 1)) y (upd (upd (σ (22 * t + 14)) x (σ (22 * t + 14) x - 1)) y (upd (σ (22 * t + 14)) x (σ (22 * t + 14) x - 1) y + 1) y - 1)) (h2 : ∀ j, ¬ (49 + 11 * c ≤ j ∧ j ≤ 53 + 11 * c) → k' j = ρ a j) (h2s : k' (49 + 11 * c) = -3) (h3 : CW r' k' c) (h4 : ∀ b, (b = 0 ∨ b = 1 ∨ b = 7 ∨ b = 8) → r' b = 0 ∨ r' b = 1) : RT σ' t k' m len n := by
  have h72 := RT_72 R (Nat.le_refl m)
  have m3 : (-3 : Int32).toInt < 0 := by decide
  refine RT_spot R hc h1 (fun b hb hb2 => by rw [h1b, upd_ne _ _ (by omega)]) h2 (by rw [h1c]; exact h3) (fun b hb => by rw [h1c]; exact h4 b hb) (Or.inr (Or.inl h2s)) ?_ (fun q => absurd (h2s.symm.trans q) (by decide))
  intro s h
  rw [h1d]
  have h6 := on_go (sp := spk (ρ a)) (sp' := fun i => if i = c then (y : Int) else spk (ρ a) i) (x := x) (y := y) (fun s hs => RT_on R hs) hc (spk_n hs (by omega)) (by simp) (fun i hi => by simp [hi]) (by omega) (by omega)
  refine on_dec h6 hc (by simp) (show (k' (49 + 11 * c)).toInt < 0 by rw [h2s]; exact m3) (fun i hi => ?_) (by omega) s h
  show (k' (49 + 11 * i)).toInt = if i = c then (y : Int) else (ρ a (49 + 11 * i)).toInt
  rw [h2 _ (by omega), if_neg hi]
end EL
end
section
/-! a cart that backs: class and reference -/
section GB
variable {σ ρ : Mem} {t a m n : Nat} {len : Nat → Nat}
theorem spotBehind_c {i : Nat} : F_X0_spotBehind σ i = if σ i 0 = 0 then some (σ i 6 + 1) else some (σ i 6 - 1) := rfl
theorem beg_c {i : Nat} : F_X0_beginBacking σ i = some (stm (stm σ i 7 1) i 8 0) := rfl
theorem CW_bk {r k : Nat → Int32} {c : Nat} (h : CW r k c) : (k (50 + 11 * c) ≤ 0 ∧ k (50 + 11 * c) = 0 ∧ r 7 = 0) ∨ (¬ k (50 + 11 * c) ≤ 0 ∧ ¬ k (50 + 11 * c) = 0 ∧ r 7 = 1 ∧ (k (50 + 11 * c) = 2 ∧ r 8 = 1 ∨ ¬ k (50 + 11 * c) = 2 ∧ r 8 = 0)) := by
  rcases h.2.2.2.1 with ⟨h1, h2⟩ | ⟨h1, h2, h3⟩ | ⟨h1, h2, h3⟩
  · exact Or.inl ⟨by rw [h1]; decide, h1, h2⟩
  · exact Or.inr ⟨by rw [h1]; decide, by rw [h1]; decide, h2, Or.inr ⟨by rw [h1]; decide, h3⟩⟩
  · exact Or.inr ⟨by rw [h1]; decide, by rw [h1]; decide, h2, Or.inl ⟨h1, h3⟩⟩
/-- the search for one behind -/
theorem behind_l (R : RT σ t (ρ a) m len n) {ρ1 : Mem} {c x y : Nat} {w : Int32} (hc : c < n) (h1 : ∀ j, j ≠ 53 + 11 * c → ρ1 a j = ρ a j) (hw : ρ a (44 + 11 * c) = w) (hy : nI x - w = nI y) : ∀ (d j nn nn2 : Nat), j + d = n → d < nn → d < nn2 →
    (F_X6_letOneBehindBack_2 t (22 * t + 15 + c) (nI y) nn σ (nI j) = some σ ∧ F_X8_goesBack_137 a (nI c) nn2 ρ1 (nI j) w (nI x) = some ρ1 ∧ F_X8_goesBack_137b a (nI c) nn2 ρ1 (nI j) w (nI x) = some ρ1) ∨
    ∃ o, o < n ∧ F_X6_letOneBehindBack_2 t (22 * t + 15 + c) (nI y) nn σ (nI j) = some (stm (stm σ (22 * t + 15 + o) 7 1) (22 * t + 15 + o) 8 0) ∧ F_X8_goesBack_137 a (nI c) nn2 ρ1 (nI j) w (nI x) = some (stm ρ1 a (50 + 11 * o) 1) ∧ F_X8_goesBack_137b a (nI c) nn2 ρ1 (nI j) w (nI x) = some (stm ρ1 a (50 + 11 * o) 1) := by
  have h7 := RT_7 R
  have hn : ρ1 a 1 = nI n := (h1 1 (by omega)).trans (RT_n R)
  intro d
  induction d with
  | zero =>
    intro j nn nn2 e1 e2 e3
    obtain rfl : j = n := by omega
    obtain ⟨nn, rfl⟩ : ∃ j, nn = j + 1 := ⟨nn - 1, by omega⟩
    obtain ⟨nn2, rfl⟩ : ∃ j, nn2 = j + 1 := ⟨nn2 - 1, by omega⟩
    refine Or.inl ⟨?_, ?_, ?_⟩
    · rw [F_X6_letOneBehindBack_2, RT_2 R, if_pos (nI_le (Nat.le_refl _) (by omega))]
    · rw [F_X8_goesBack_137, hn, if_pos (nI_le (Nat.le_refl _) (by omega))]
    · rw [F_X8_goesBack_137b, hn, if_pos (nI_le (Nat.le_refl _) (by omega))]
  | succ d ih =>
    intro j nn nn2 e1 e2 e3
    obtain ⟨nn, rfl⟩ : ∃ j, nn = j + 1 := ⟨nn - 1, by omega⟩
    obtain ⟨nn2, rfl⟩ : ∃ j, nn2 = j + 1 := ⟨nn2 - 1, by omega⟩
    have I := ih (j + 1) nn nn2 (by omega) (by omega) (by omega)
    have jn : ¬ nI n ≤ nI j := nI_ge (by omega) (by omega)
    have C := RT_C R (show j < n by omega)
    have Cc := RT_C R hc
    have ix := ix_nI (n := 7) (show j < 7 by omega) (by decide)
    have g5 : F_X8_get ρ1 a (nI j) 5 = some (ρ a (49 + 11 * j)) := by rw [get5 (by omega), h1 _ (by omega)]
    have g0 : F_X8_get ρ1 a (nI j) 0 = some (ρ a (44 + 11 * j)) := by rw [get0 (by omega), h1 _ (by omega)]
    have g3 : F_X8_get ρ1 a (nI j) 3 = some (ρ a (47 + 11 * j)) := by rw [get3 (by omega), h1 _ (by omega)]
    have g6 : F_X8_get ρ1 a (nI j) 6 = some (ρ a (50 + 11 * j)) := by rw [get6 (by omega), h1 _ (by omega)]
    have c6 := C.2.2.1
    have c3 := C.2.1.2.2.1
    have bb : F_X8_backs_ ρ1 a (nI j) = some (stm ρ1 a (50 + 11 * j) 1) := by
      unfold F_X8_backs_
      rw [puts6 (by omega), Option.bind_some]
    have cw : σ (22 * t + 15 + j) 0 = σ (22 * t + 15 + c) 0 ↔ ρ a (44 + 11 * j) = w := by
      rcases C.1 with ⟨q1, q2⟩ | ⟨q1, q2⟩ <;> rcases Cc.1 with ⟨q3, q4⟩ | ⟨q3, q4⟩ <;> rw [q1, q2, q4, ← hw, q3] <;> decide
    rw [F_X6_letOneBehindBack_2, F_X8_goesBack_137, F_X8_goesBack_137b]
    simp only [RT_2 R, hn, jn, if_false, ix, obs, g5, hy, c6, nI_1]
    by_cases k1 : ρ a (49 + 11 * j) = nI y
    · simp only [k1, if_true, g0, obs]
      by_cases k2 : ρ a (44 + 11 * j) = w
      · have k2' := cw.mpr k2
        simp only [k2, k2', if_true, g3, c3, obs]
        by_cases k3 : ρ a (47 + 11 * j) = 0
        · simp only [k3, if_true]
          exact I
        · simp only [k3, if_false, g6, obs]
          rcases CW_bk C with ⟨b1, b2, b3⟩ | ⟨b1, b2, b3, -⟩
          · simp only [b2, b3, if_true, beg_c, bb, obs]
            exact Or.inr ⟨j, by omega, rfl, rfl, rfl⟩
          · simp only [b1, b3, i10, if_false]
            exact I
      · have k2' : ¬ σ (22 * t + 15 + j) 0 = σ (22 * t + 15 + c) 0 := fun q => k2 (cw.mp q)
        simp only [k2, k2', if_false]
        exact I
    · simp only [k1, if_false]
      exact I
/-- it waits, and perhaps lets one behind back -/
theorem behind_p2 (R : RT σ t (ρ a) m len n) (W : RW σ ρ t) (ha : a ≠ 91) {c x y : Nat} {w : Int32} (hc : c < n) (hw : ρ a (44 + 11 * c) = w) (hy : nI x - w = nI y) : ∃ σ7 ρ', F_X6_letOneBehindBack σ t (22 * t + 15 + c) (nI y) = some σ7 ∧ F_X8_goesBack_137 a (nI c) FU (stm ρ a (53 + 11 * c) (ρ a (53 + 11 * c) + 1)) 0 w (nI x) = some ρ' ∧ F_X8_goesBack_137b a (nI c) FU (stm ρ a (53 + 11 * c) (ρ a (53 + 11 * c) + 1)) 0 w (nI x) = some ρ' ∧ STP σ ρ (stm σ7 (22 * t + 15 + c) 11 (σ7 (22 * t + 15 + c) 11 + 1)) ρ' t a m len n := by
  have h7 := RT_7 R
  have fu : n < FU := Nat.lt_of_le_of_lt h7 (by decide)
  rcases behind_l R (ρ1 := stm ρ a (53 + 11 * c) (ρ a (53 + 11 * c) + 1)) hc (fun j hj => by rw [stm_row, upd_ne _ _ hj]) hw hy n 0 FU FU (by omega) fu fu with ⟨q1, q2, q3⟩ | ⟨o, ho, q1, q2, q3⟩
  · exact ⟨_, _, q1, q2, q3, e_wait R W ha hc⟩
  · refine ⟨_, _, q1, q2, q3, ?_⟩
    have s1 := e_beg R W ha ho
    have s2 := e_wait s1.1 s1.2.1 ha hc
    have e : stm ρ a (50 + 11 * o) 1 a (53 + 11 * c) = ρ a (53 + 11 * c) := by rw [stm_row, upd_ne _ _ (by omega)]
    rw [e, stm_cm ρ (a := a) (j := 50 + 11 * o) (j' := 53 + 11 * c) 1 (ρ a (53 + 11 * c) + 1) (by omega)] at s2
    exact STP_tr s1 s2
/-- it takes a step back -/
theorem e_back (R : RT σ t (ρ a) m len n) (W : RW σ ρ t) (ha : a ≠ 91) {c x y : Nat} (hc : c < n) (hs : ρ a (49 + 11 * c) = nI x) (hx : x ≤ PS len m) (hy : y ≤ PS len m) (hb : ¬ ρ a (50 + 11 * c) = 0) (h5 : (ρ a (44 + 11 * c) = 1 → y < PS len m) ∧ (ρ a (44 + 11 * c) = -1 → 0 < y)) :
    STP σ ρ (stm (stm (stm (mv σ t (22 * t + 15 + c) x y) (22 * t + 15 + c) 9 (ρ a (47 + 11 * c) - 1)) (22 * t + 15 + c) 10 (ρ a (52 + 11 * c) + 1)) (22 * t + 15 + c) 8 1) (stm (stm (stm (stm (stm ρ a (49 + 11 * c) (nI y)) a (51 + 11 * c) (ρ a (47 + 11 * c) - 1)) a (52 + 11 * c) (ρ a (52 + 11 * c) + 1)) a (50 + 11 * c) 2) 91 20 1) t a m len n := by
  have h7 := RT_7 R
  have ha' : (91 : Nat) ≠ a := fun q => ha q.symm
  have hro : ∀ i, i ≠ 22 * t + 15 + c → stm (stm (stm (mv σ t (22 * t + 15 + c) x y) (22 * t + 15 + c) 9 (ρ a (47 + 11 * c) - 1)) (22 * t + 15 + c) 10 (ρ a (52 + 11 * c) + 1)) (22 * t + 15 + c) 8 1 i = mv σ t (22 * t + 15 + c) x y i := fun i hi => by rw [stm_ne _ _ _ hi, stm_ne _ _ _ hi, stm_ne _ _ _ hi]
  have hri : stm (stm (stm (mv σ t (22 * t + 15 + c) x y) (22 * t + 15 + c) 9 (ρ a (47 + 11 * c) - 1)) (22 * t + 15 + c) 10 (ρ a (52 + 11 * c) + 1)) (22 * t + 15 + c) 8 1 (22 * t + 15 + c) = upd (upd (upd (upd (σ (22 * t + 15 + c)) 6 (nI y)) 9 (ρ a (47 + 11 * c) - 1)) 10 (ρ a (52 + 11 * c) + 1)) 8 1 := by rw [stm_row, stm_row, stm_row, mv_i]
  have hrr : stm (stm (stm (stm (stm ρ a (49 + 11 * c) (nI y)) a (51 + 11 * c) (ρ a (47 + 11 * c) - 1)) a (52 + 11 * c) (ρ a (52 + 11 * c) + 1)) a (50 + 11 * c) 2) 91 20 1 a = upd (upd (upd (upd (ρ a) (49 + 11 * c) (nI y)) (51 + 11 * c) (ρ a (47 + 11 * c) - 1)) (52 + 11 * c) (ρ a (52 + 11 * c) + 1)) (50 + 11 * c) 2 := by rw [stm_ne _ _ _ ha, stm_row, stm_row, stm_row, stm_row]
  have h91 : stm (stm (stm (stm (stm ρ a (49 + 11 * c) (nI y)) a (51 + 11 * c) (ρ a (47 + 11 * c) - 1)) a (52 + 11 * c) (ρ a (52 + 11 * c) + 1)) a (50 + 11 * c) 2) 91 20 1 91 = upd (ρ 91) 20 1 := by rw [stm_row, stm_ne _ _ _ ha', stm_ne _ _ _ ha', stm_ne _ _ _ ha', stm_ne _ _ _ ha']
  have CWb := CW_bk (RT_C R hc)
  obtain ⟨w1, w2, w3, w4, w5, w6, w7⟩ := RT_C R hc
  refine ⟨?_, RW_st (by rw [hro _ (by omega), mv_t]) h91 W, ?_, ?_, ?_⟩
  · refine RT_go R hc hs hx hy (r' := upd (upd (upd (upd (σ (22 * t + 15 + c)) 6 (nI y)) 9 (ρ a (47 + 11 * c) - 1)) 10 (ρ a (52 + 11 * c) + 1)) 8 1) (fun i i1 i2 i3 => by rw [hro _ i1, mv_o i1 i2 i3]) (by rw [hro _ (by omega), mv_t]) hri (by rw [hro _ (by omega), mv_on]) (fun j hj => ?_) ?_ ?_ (fun b hb4 => ?_) h5
    · rw [hrr]
      simp (disch := omega) only [upd_ne]
    · rw [hrr]
      simp (disch := omega) only [upd_ne, upd_at]
    · rw [hrr]
      unfold CW
      simp (disch := omega) only [upd_ne, upd_at]
      rcases CWb with ⟨-, q, -⟩ | ⟨-, -, q7, -⟩
      · exact absurd q hb
      · exact ⟨w1, w2, trivial, Or.inr (Or.inr ⟨trivial, q7, trivial⟩), Or.inr trivial, trivial, w7⟩
    · by_cases e : b = 8
      · subst e; rw [upd_at]; exact Or.inr rfl
      · rw [upd_ne _ _ e, upd_ne _ _ (by omega), upd_ne _ _ (by omega), upd_ne _ _ (by omega)]; exact RT_cb R hc b hb4
  · refine ⟨fun i hi => by rw [hro _ (by omega), mv_o (by omega) (by omega) (by omega)], fun j hj => ?_, ?_, ?_⟩
    · by_cases e : j = c
      · subst e; rw [hri]; simp (disch := omega) only [upd_ne]
      · rw [hro _ (by omega), mv_o (by omega) (by omega) (by omega)]
    · rw [hro _ (by omega), mv_t, upd_ne _ _ (by omega)]
    · rw [hro _ (by omega), mv_t, upd_ne _ _ (by omega)]
  · refine ⟨fun i h1 h2 => by rw [stm_ne _ _ _ h2, stm_ne _ _ _ h1, stm_ne _ _ _ h1, stm_ne _ _ _ h1, stm_ne _ _ _ h1], fun j _ h2 => by rw [h91, upd_ne _ _ h2]⟩
  · rw [hrr]
    exact KS_tr (KS_tr (KS_tr (sta_c (c := c) (by omega) _) (sta_c (c := c) (by omega) _)) (sta_c (c := c) (by omega) _)) (sta_c (c := c) (by omega) _)
end GB
end
section
/-! backUp against goesBack -/
theorem im4 : (-4 : Int32) < 0 := by decide
theorem im1 : (-1 : Int32) < 0 := by decide
section BU
variable {σ ρ : Mem} {t a m n : Nat} {len : Nat → Nat}
/-- what both do once it is known that it goes on backing; y behind it -/
theorem back_2 (R : RT σ t (ρ a) m len n) (W : RW σ ρ t) (ha : a ≠ 91) {c x y : Nat} {w : Int32} (hc : c < n) (hs : ρ a (49 + 11 * c) = nI x) (hx : x ≤ PS len m) (hy : y ≤ PS len m) (hb : ¬ ρ a (50 + 11 * c) = 0) (hw : ρ a (44 + 11 * c) = w) (hyw : nI x - w = nI y) (h5 : (ρ a (44 + 11 * c) = 1 → y < PS len m) ∧ (ρ a (44 + 11 * c) = -1 → 0 < y)) :
    ∃ σ' ρ', ((F_X6_hasRoom σ t (nI y)).bind fun r_5 => if r_5 = 0 then ((F_X6_letOneBehindBack σ t (22 * t + 15 + c) (nI y)).bind fun σ_7 => some (stm σ_7 (22 * t + 15 + c) 11 ((σ_7 (22 * t + 15 + c) 11) + 1))) else ((F_X6_step σ t (22 * t + 15 + c) (nI y)).bind fun σ_8 => some (stm (stm (stm σ_8 (22 * t + 15 + c) 9 ((σ_8 (22 * t + 15 + c) 3) - 1)) (22 * t + 15 + c) 10 (((stm σ_8 (22 * t + 15 + c) 9 ((σ_8 (22 * t + 15 + c) 3) - 1)) (22 * t + 15 + c) 10) + 1)) (22 * t + 15 + c) 8 1))) = some σ' ∧
    ((F_X8_hasRoom ρ a (nI x - w)).bind fun r_7 => if r_7 = 0 then ((F_X8_get ρ a (nI c) 9).bind fun r_9 => (F_X8_puts ρ a (nI c) 9 (r_9 + 1)).bind fun σ_10 => F_X8_goesBack_137 a (nI c) FU σ_10 0 w (nI x)) else ((F_X8_puts ρ a (nI c) 5 (nI x - w)).bind fun σ_22 => (F_X8_get σ_22 a (nI c) 3).bind fun r_23 => (F_X8_puts σ_22 a (nI c) 7 (r_23 - 1)).bind fun σ_24 => (F_X8_get σ_24 a (nI c) 8).bind fun r_25 => (F_X8_puts σ_24 a (nI c) 8 (r_25 + 1)).bind fun σ_26 => (F_X8_puts σ_26 a (nI c) 6 2).bind fun σ_27 => some (stm σ_27 91 20 1))) = some ρ' ∧
    ((F_X8_hasRoom ρ a (nI x - w)).bind fun r_7 => if r_7 = 0 then ((F_X8_get ρ a (nI c) 9).bind fun r_9 => (F_X8_puts ρ a (nI c) 9 (r_9 + 1)).bind fun σ_10 => F_X8_goesBack_137b a (nI c) FU σ_10 0 w (nI x)) else ((F_X8_puts ρ a (nI c) 5 (nI x - w)).bind fun σ_22 => (F_X8_get σ_22 a (nI c) 3).bind fun r_23 => (F_X8_puts σ_22 a (nI c) 7 (r_23 - 1)).bind fun σ_24 => (F_X8_get σ_24 a (nI c) 8).bind fun r_25 => (F_X8_puts σ_24 a (nI c) 8 (r_25 + 1)).bind fun σ_26 => (F_X8_puts σ_26 a (nI c) 6 2).bind fun σ_27 => some (stm σ_27 91 20 1))) = some ρ' ∧ STP σ ρ σ' ρ' t a m len n := by
  have h7 := RT_7 R
  have c7 : c < 7 := by omega
  obtain ⟨b, r1, r2⟩ := hasRoom_p R hy
  rw [hyw, r1, r2, Option.bind_some, Option.bind_some, Option.bind_some]
  cases b with
  | false =>
    obtain ⟨σ7, ρ', q1, q2, q3, q4⟩ := behind_p2 R W ha hc hw hyw
    refine ⟨_, ρ', ?_, ?_, ?_, q4⟩
    · rw [bI_f, if_pos rfl, q1, Option.bind_some]
    · rw [bI_f, if_pos rfl, get9 c7, Option.bind_some, puts9 c7, Option.bind_some, q2]
    · rw [bI_f, if_pos rfl, get9 c7, Option.bind_some, puts9 c7, Option.bind_some, q3]
  | true =>
    have c3 : mv σ t (22 * t + 15 + c) x y (22 * t + 15 + c) 3 = ρ a (47 + 11 * c) := by
      rw [mv_i, upd_ne _ _ (by omega)]; exact (RT_C R hc).2.1.2.2.1
    have c10 : stm (mv σ t (22 * t + 15 + c) x y) (22 * t + 15 + c) 9 (ρ a (47 + 11 * c) - 1) (22 * t + 15 + c) 10 = ρ a (52 + 11 * c) := by
      rw [stm_row, mv_i, upd_ne _ _ (by omega), upd_ne _ _ (by omega)]; exact (RT_C R hc).2.2.2.2.2.1
    have rr : ((F_X8_puts ρ a (nI c) 5 (nI y)).bind fun σ_22 => (F_X8_get σ_22 a (nI c) 3).bind fun r_23 => (F_X8_puts σ_22 a (nI c) 7 (r_23 - 1)).bind fun σ_24 => (F_X8_get σ_24 a (nI c) 8).bind fun r_25 => (F_X8_puts σ_24 a (nI c) 8 (r_25 + 1)).bind fun σ_26 => (F_X8_puts σ_26 a (nI c) 6 2).bind fun σ_27 => some (stm σ_27 91 20 1)) = some (stm (stm (stm (stm (stm ρ a (49 + 11 * c) (nI y)) a (51 + 11 * c) (ρ a (47 + 11 * c) - 1)) a (52 + 11 * c) (ρ a (52 + 11 * c) + 1)) a (50 + 11 * c) 2) 91 20 1) := by
      have e1 : stm ρ a (49 + 11 * c) (nI y) a (47 + 11 * c) = ρ a (47 + 11 * c) := by rw [stm_row, upd_ne _ _ (by omega)]
      have e2 : stm (stm ρ a (49 + 11 * c) (nI y)) a (51 + 11 * c) (ρ a (47 + 11 * c) - 1) a (52 + 11 * c) = ρ a (52 + 11 * c) := by rw [stm_row, stm_row, upd_ne _ _ (by omega), upd_ne _ _ (by omega)]
      rw [puts5 c7, Option.bind_some, get3 c7, Option.bind_some, puts7 c7, Option.bind_some, get8 c7, Option.bind_some, puts8 c7, Option.bind_some, puts6 c7, Option.bind_some, e1, e2]
    refine ⟨_, _, ?_, ?_, ?_, e_back R W ha hc hs hx hy hb h5⟩
    · rw [bI_t, if_neg i10, step_c R hc hs hx hy, Option.bind_some, c3, c10]
    · rw [bI_t, if_neg i10, rr]
    · rw [bI_t, if_neg i10, rr]
theorem back_p (R : RT σ t (ρ a) m len n) (W : RW σ ρ t) (ha : a ≠ 91) {c x : Nat} (hc : c < n) (hs : ρ a (49 + 11 * c) = nI x) (hx : x ≤ PS len m) (hup : ρ a (44 + 11 * c) = 1 → x < PS len m) (hdn : ρ a (44 + 11 * c) = -1 → 0 < x) (hb : ¬ ρ a (50 + 11 * c) = 0) :
    ∃ σ' ρ', F_X6_backUp σ t (22 * t + 15 + c) = some σ' ∧ F_X8_goesBack ρ a (nI c) = some ρ' ∧ STP σ ρ σ' ρ' t a m len n := by
  have h7 := RT_7 R
  have h8 := RT_8 R
  have c7 : c < 7 := by omega
  have V := RT_V R
  have h72 := RT_72 R (Nat.le_refl m)
  have C := RT_C R hc
  have B0 := e_bk0 R W ha hc
  -- own end, y, room behind
  obtain ⟨E0, hE, w, hw, e1, e2, hEx, hrest⟩ : ∃ E0 : Nat, E0 ≤ PS len m ∧ ∃ w, ρ a (44 + 11 * c) = w ∧ F_X6_ownEnd σ t (22 * t + 15 + c) = some (nI E0) ∧ F_X8_origin ρ a (nI c) = some (nI E0) ∧ (x = E0 → ∃ q, q ≤ m ∧ x = PS len q) ∧ (x ≠ E0 → ∃ y, y ≤ PS len m ∧ nI x - w = nI y ∧ F_X0_spotBehind σ (22 * t + 15 + c) = some (nI y) ∧ (ρ a (44 + 11 * c) = 1 → y < PS len m) ∧ (ρ a (44 + 11 * c) = -1 → 0 < y)) := by
    rcases (RT_K R hc).1 with hw | hw
    · have e := ownEnd_up R hc hw
      refine ⟨0, Nat.zero_le _, 1, hw, e.1, e.2, fun q => ⟨0, Nat.zero_le _, q⟩, fun q => ⟨x - 1, by omega, nI_sub1 (by omega), ?_, fun _ => by have := hup hw; omega, fun q => absurd (hw.symm.trans q) i1m1⟩⟩
      rw [spotBehind_c, CW_up C hw, if_neg i10, C.2.2.1, hs, nI_sub1 (by omega)]
    · have e := ownEnd_dn R hc hw
      refine ⟨PS len m, Nat.le_refl _, -1, hw, e.1, e.2, fun q => ⟨m, Nat.le_refl _, q⟩, fun q => ⟨x + 1, by omega, ?_, ?_, fun q => absurd (hw.symm.trans q) im11, fun _ => by omega⟩⟩
      · rw [← nI_1]
        rw [Int32.sub_eq_add_neg]; rfl
      · rw [spotBehind_c, CW_dn C hw, if_pos rfl, C.2.2.1, hs, nI_1]
  unfold F_X6_backUp F_X8_goesBack
  rw [e1, Option.bind_some, C.2.2.1, hs, get5 c7, Option.bind_some, get0 c7, Option.bind_some, hw, hs, e2, puts6 c7]
  by_cases k : x = E0
  · subst k
    obtain ⟨q, hq, rfl⟩ := hEx rfl
    rw [placeAt_at V hq, Option.bind_some, if_neg (nI_pos (by omega)), if_pos rfl, get6 c7, Option.bind_some]
    refine ⟨_, _, rfl, ?_, B0⟩
    by_cases k2 : ρ a (50 + 11 * c) = 2
    · rw [if_pos k2, Option.bind_some]
    · rw [if_neg k2, Option.bind_some, if_pos rfl, Option.bind_some]
  · obtain ⟨y, hy, hyw, e3, h5a, h5b⟩ := hrest k
    obtain ⟨σ', ρ', q1, q2, q3, q4⟩ := back_2 R W ha hc hs hx hy hb hw hyw ⟨h5a, h5b⟩
    have kne : ¬ nI x = nI E0 := fun q => k (nI_inj q (by omega) (by omega))
    rw [if_neg kne, e3, Option.bind_some, Option.bind_some, Option.bind_some, Option.bind_some, if_neg kne, if_neg kne, q1, q2, q3]
    rcases spot_cases hx with ⟨p, hp, rfl⟩ | ⟨p, hp, h1, h2⟩
    · rw [placeAt_at V hp, placeOf_at R hp, Option.bind_some, Option.bind_some, if_neg (nI_pos (by omega)), if_neg (nI_pos (by omega)), get6 c7, Option.bind_some]
      rcases CW_bk C with ⟨-, b2, -⟩ | ⟨-, -, -, ⟨b4, b5⟩ | ⟨b4, b5⟩⟩
      · exact absurd b2 hb
      · rw [b5, if_neg i10, if_pos b4]
        exact ⟨_, _, rfl, rfl, B0⟩
      · rw [b5, if_pos rfl, if_neg b4]
        exact ⟨_, _, rfl, rfl, q4⟩
    · rw [placeAt_no V hp h1 h2, placeOf_in R hp h1 h2, Option.bind_some, Option.bind_some, if_pos im4, if_pos im1]
      refine ⟨_, _, ?_, rfl, q4⟩
      by_cases g : σ (22 * t + 15 + c) 8 = 0
      · rw [if_pos g]
      · rw [if_neg g]
end BU
end
section
/-! two meet -/
theorem pl1 {α : Type} {p q r s u : Prop} [Decidable p] [Decidable q] [Decidable r] [Decidable s] [Decidable u] (A B : α) : (if p then (if q then (if u then A else B) else (if r then (if s then (if u then A else B) else B) else B)) else (if r then (if s then (if u then A else B) else B) else B)) = if ((p ∧ q) ∨ (r ∧ s)) ∧ u then A else B := by
  by_cases p <;> by_cases q <;> by_cases r <;> by_cases s <;> by_cases u <;> simp [*]
theorem pl2 {α : Type} {p q r s u : Prop} [Decidable p] [Decidable q] [Decidable r] [Decidable s] [Decidable u] (A B : α) : (if u then B else (if p then (if q then A else (if s then (if r then A else B) else B)) else (if s then (if r then A else B) else B))) = if ((p ∧ q) ∨ (r ∧ s)) ∧ ¬ u then A else B := by
  by_cases p <;> by_cases q <;> by_cases r <;> by_cases s <;> by_cases u <;> simp [*]
/-- what the reference does once two met -/
def RK (a : Nat) (x2 v7 v6 : Int32) (ρ : Mem) : Option Mem := (ix 121 ((14 + (3 * v6)) + 2)).bind fun k_20 => (F_X8_backsOf ρ a x2 v7 (ρ a k_20) v6).bind fun r_21 => if r_21 < 0 then (some ρ) else ((F_X8_backs_ ρ a r_21).bind fun σ_23 => some σ_23)
def NR (ρ1 ρ2 : Mem) (x2 v7 : Int32) (f : Mem → Option Mem) : Option Mem := if 0 ≤ (ρ1 91 19) then f ρ1 else (if x2 = (ρ1 91 17) then (if v7 = (ρ1 91 18) then f ρ2 else (if v7 = (ρ1 91 17) then (if x2 = (ρ1 91 18) then f ρ2 else f ρ1) else f ρ1)) else (if v7 = (ρ1 91 17) then (if x2 = (ρ1 91 18) then f ρ2 else f ρ1) else f ρ1))
/-- what the class does once two met -/
def MK (t : Nat) (x1 : Int32) (i2 : Nat) (v4 : Int32) (σ_7 : Mem) : Option Mem := (F_X6_pieceAhead σ_7 t i2).bind fun r_8 => (F_X4_villageBy σ_7 t r_8).bind fun r_9 => (F_X4_hillOf σ_7 t r_8).bind fun r_10 => (F_X6_backerOf σ_7 t x1 v4 r_9 r_10).bind fun r_11 => if r_11 < 0 ∨ σ_7 (22 * t) 2 ≤ r_11 ∨ 7 ≤ r_11 then (some σ_7) else ((ix 7 r_11).bind fun j_12 => (F_X0_beginBacking σ_7 (22 * t + 15 + j_12)).bind fun σ_13 => some σ_13)
section ME
variable {σ ρ σ' : Mem} {t a m n : Nat} {k k' : Nat → Int32} {len : Nat → Nat}
/-- only minute, still and meetings change -/
theorem RT_fld (R : RT σ t k m len n) (h1 : ∀ i, i ≠ 22 * t → σ' i = σ i) (h2 : ∀ j, j ≠ 2 → j ≠ 3 → j ≠ 4 → k' j = k j) (f2 : σ' (22 * t) 2 = σ (22 * t) 2) (f3 : σ' (22 * t) 3 = k' 2) (f4 : σ' (22 * t) 4 = k' 3) (f5 : σ' (22 * t) 5 = k' 4) (hM : ∃ M : Nat, M ≤ 999 ∧ k' 2 = nI M) : RT σ' t k' m len n := by
  have h7 := RT_7 R
  obtain ⟨V, ⟨hn, -⟩, -, K, D, ⟨g2, -, -, -⟩, W, hb, hon, hz⟩ := R
  have hr : ∀ i, 1 ≤ i → σ' (22 * t + i) = σ (22 * t + i) := fun i h => h1 _ (by omega)
  refine ⟨?_, ⟨(h2 1 (by omega) (by omega) (by omega)).trans hn, h7⟩, hM, ?_, ?_, ⟨?_, f3, f4, f5⟩, ?_, ?_, ?_, ?_⟩
  · obtain ⟨⟨v1, v2⟩, v3, v4, v5, v6, v7⟩ := V
    refine ⟨⟨(h2 0 (by omega) (by omega) (by omega)).trans v1, v2⟩, fun p hp => (h2 _ (by omega) (by omega) (by omega)).trans (v3 p hp), v4, fun p hp => ?_, fun p hp hp8 => ?_, fun v hv => ?_⟩
    · rw [h2 (15 + 3 * p) (by omega) (by omega) (by omega), h2 (16 + 3 * p) (by omega) (by omega) (by omega)]; exact v5 p hp
    · rw [h2 (5 + p) (by omega) (by omega) (by omega)]; exact v6 p hp hp8
    · rw [h2 (38 + 2 * v) (by omega) (by omega) (by omega), h2 (39 + 2 * v) (by omega) (by omega) (by omega)]; exact v7 v hv
  · intro j hj
    have q := K j hj
    unfold KO at q ⊢
    rw [h2 (44 + 11 * j) (by omega) (by omega) (by omega), h2 (46 + 11 * j) (by omega) (by omega) (by omega), h2 (47 + 11 * j) (by omega) (by omega) (by omega), h2 (48 + 11 * j) (by omega) (by omega) (by omega), h2 (49 + 11 * j) (by omega) (by omega) (by omega)]
    exact q
  · obtain ⟨d1, d2, d3, d4, d5, d6, d7, d8⟩ := D
    refine ⟨?_, ?_, fun p hp => ?_, fun p hp hp2 => ?_, fun p hp => ?_, fun p x hp hx hx2 => ?_, fun p x hp hx hx2 => ?_, fun v hv => ?_⟩
    · rw [hr 1 (by omega)]; exact d1
    · rw [hr 1 (by omega)]; exact d2
    · rw [hr 2 (by omega), hr 3 (by omega), hr 4 (by omega), h2 (14 + 3 * p) (by omega) (by omega) (by omega), h2 (15 + 3 * p) (by omega) (by omega) (by omega), h2 (16 + 3 * p) (by omega) (by omega) (by omega)]; exact d3 p hp
    · rw [hr 5 (by omega), h2 (5 + p) (by omega) (by omega) (by omega)]; exact d4 p hp hp2
    · rw [hr 6 (by omega), hr 7 (by omega), hr 9 (by omega), hr 10 (by omega)]; exact d5 p hp
    · rw [hr 7 (by omega), hr 9 (by omega), hr 10 (by omega)]; exact d6 p x hp hx hx2
    · rw [hr 8 (by omega)]; exact d7 p x hp hx hx2
    · rw [hr 11 (by omega), hr 12 (by omega), h2 (38 + 2 * v) (by omega) (by omega) (by omega), h2 (39 + 2 * v) (by omega) (by omega) (by omega)]; exact d8 v hv
  · rw [f2, h2 1 (by omega) (by omega) (by omega)]; exact g2
  · intro j hj
    have w := W j hj
    unfold CW at w ⊢
    rw [h1 (22 * t + 15 + j) (by omega), h2 (44 + 11 * j) (by omega) (by omega) (by omega), h2 (45 + 11 * j) (by omega) (by omega) (by omega), h2 (46 + 11 * j) (by omega) (by omega) (by omega), h2 (47 + 11 * j) (by omega) (by omega) (by omega), h2 (48 + 11 * j) (by omega) (by omega) (by omega), h2 (49 + 11 * j) (by omega) (by omega) (by omega), h2 (50 + 11 * j) (by omega) (by omega) (by omega), h2 (51 + 11 * j) (by omega) (by omega) (by omega), h2 (52 + 11 * j) (by omega) (by omega) (by omega), h2 (53 + 11 * j) (by omega) (by omega) (by omega), h2 (54 + 11 * j) (by omega) (by omega) (by omega)]
    exact w
  · intro j hj b hb12 hb4
    rw [h1 (22 * t + 15 + j) (by omega)]; exact hb j hj b hb12 hb4
  · intro s hs
    rw [hr 14 (by omega), hon s hs, occ_cg (fun i hi => ?_)]
    show (k (49 + 11 * i)).toInt = (k' (49 + 11 * i)).toInt
    rw [h2 (49 + 11 * i) (by omega) (by omega) (by omega)]
  · intro j hj
    rw [h2 (49 + 11 * j) (by omega) (by omega) (by omega), h2 (51 + 11 * j) (by omega) (by omega) (by omega)]; exact hz j hj
theorem KS_4 {j : Nat} (h : j = 4) (v : Int32) (k : Nat → Int32) : KS k (upd k j v) := fun q hq => upd_ne _ _ (by unfold sta at hq; omega)
theorem FrC_t {j : Nat} {v : Int32} (σ : Mem) (h : j ≠ 8) (h' : j ≠ 9) : FrC t σ (stm σ (22 * t) j v) := ⟨fun i hi => stm_ne _ _ _ (by omega), fun q _ => by rw [stm_ne _ _ _ (by omega)], by rw [stm_row, upd_ne _ _ (by omega)], by rw [stm_row, upd_ne _ _ (by omega)]⟩
theorem note_p (R : RT σ t (ρ a) m len n) (W : RW σ ρ t) (ha : a ≠ 91) {c o : Nat} (hc : c < n) (ho : o < n) : ∃ τ ρ', F_X6_noteMeeting σ t (nI c) (nI o) = some τ ∧ (∀ f, NR (stm ρ a 4 (ρ a 4 + 1)) (stm (stm ρ a 4 (ρ a 4 + 1)) 91 19 (stm ρ a 4 (ρ a 4 + 1) a 2)) (nI c) (nI o) f = f ρ') ∧ STP σ ρ τ ρ' t a m len n := by
  have h7 := RT_7 R
  have ha' : (91 : Nat) ≠ a := fun q => ha q.symm
  have hcl : F_X6_noteMeeting σ t (nI c) (nI o) = if ((nI c = (stm σ (22 * t) 5 ((σ (22 * t) 5) + 1)) (22 * t) 8 ∧ nI o = (stm σ (22 * t) 5 ((σ (22 * t) 5) + 1)) (22 * t) 9) ∨ (nI c = (stm σ (22 * t) 5 ((σ (22 * t) 5) + 1)) (22 * t) 9 ∧ nI o = (stm σ (22 * t) 5 ((σ (22 * t) 5) + 1)) (22 * t) 8)) ∧ (stm σ (22 * t) 5 ((σ (22 * t) 5) + 1)) (22 * t) 10 = -4 then some (stm (stm σ (22 * t) 5 ((σ (22 * t) 5) + 1)) (22 * t) 10 ((stm σ (22 * t) 5 ((σ (22 * t) 5) + 1)) (22 * t) 3)) else some (stm σ (22 * t) 5 ((σ (22 * t) 5) + 1)) := by
    unfold F_X6_noteMeeting
    exact pl1 _ _
  have hrf : ∀ f, NR (stm ρ a 4 (ρ a 4 + 1)) (stm (stm ρ a 4 (ρ a 4 + 1)) 91 19 (stm ρ a 4 (ρ a 4 + 1) a 2)) (nI c) (nI o) f = if ((nI c = stm ρ a 4 (ρ a 4 + 1) 91 17 ∧ nI o = stm ρ a 4 (ρ a 4 + 1) 91 18) ∨ (nI c = stm ρ a 4 (ρ a 4 + 1) 91 18 ∧ nI o = stm ρ a 4 (ρ a 4 + 1) 91 17)) ∧ ¬ 0 ≤ stm ρ a 4 (ρ a 4 + 1) 91 19 then f (stm (stm ρ a 4 (ρ a 4 + 1)) 91 19 (stm ρ a 4 (ρ a 4 + 1) a 2)) else f (stm ρ a 4 (ρ a 4 + 1)) := by
    intro f
    unfold NR
    exact pl2 _ _
  have c8 : stm σ (22 * t) 5 ((σ (22 * t) 5) + 1) (22 * t) 8 = σ (22 * t) 8 := by rw [stm_row, upd_ne _ _ (by omega)]
  have c9 : stm σ (22 * t) 5 ((σ (22 * t) 5) + 1) (22 * t) 9 = σ (22 * t) 9 := by rw [stm_row, upd_ne _ _ (by omega)]
  have c10 : stm σ (22 * t) 5 ((σ (22 * t) 5) + 1) (22 * t) 10 = σ (22 * t) 10 := by rw [stm_row, upd_ne _ _ (by omega)]
  have c3 : stm σ (22 * t) 5 ((σ (22 * t) 5) + 1) (22 * t) 3 = ρ a 2 := by rw [stm_row, upd_ne _ _ (by omega)]; exact RT_3 R
  have r91 : stm ρ a 4 (ρ a 4 + 1) 91 = ρ 91 := stm_ne _ _ _ ha'
  have r2 : stm ρ a 4 (ρ a 4 + 1) a 2 = ρ a 2 := by rw [stm_row, upd_ne _ _ (by omega)]
  rw [c8, c9, c10, c3] at hcl
  rw [r91, r2] at hrf
  have R1 : RT (stm σ (22 * t) 5 ((σ (22 * t) 5) + 1)) t (stm ρ a 4 (ρ a 4 + 1) a) m len n := by
    refine RT_fld R (fun i hi => stm_ne _ _ _ hi) (fun j _ _ h4 => by rw [stm_row, upd_ne _ _ h4]) ?_ ?_ ?_ ?_ ?_
    · rw [stm_row, upd_ne _ _ (by omega)]
    · rw [c3, r2]
    · rw [stm_row, upd_ne _ _ (by omega), stm_row, upd_ne _ _ (by omega)]; exact RT_4 R
    · rw [stm_row, upd_at, stm_row, upd_at, RT_5 R]
    · rw [r2]; exact RT_M R
  have S1 : RW (stm σ (22 * t) 5 ((σ (22 * t) 5) + 1)) (stm ρ a 4 (ρ a 4 + 1)) t := by
    have w := W
    unfold RW at w ⊢
    rw [c8, c9, c10, r91, stm_row, upd_ne _ _ (by omega)]
    exact w
  have T1 : STP σ ρ (stm σ (22 * t) 5 ((σ (22 * t) 5) + 1)) (stm ρ a 4 (ρ a 4 + 1)) t a m len n := ⟨R1, S1, FrC_t σ (by omega) (by omega), FrR_a ρ ha, by rw [stm_row]; exact KS_4 rfl _ _⟩
  have r2a : stm (stm ρ a 4 (ρ a 4 + 1)) 91 19 (ρ a 2) a = stm ρ a 4 (ρ a 4 + 1) a := stm_ne _ _ _ ha
  have F2 : FrR a ρ (stm (stm ρ a 4 (ρ a 4 + 1)) 91 19 (ρ a 2)) := FrR_tr (FrR_a ρ ha) ⟨fun i _ h2 => stm_ne _ _ _ h2, fun j h1 _ => by rw [stm_row, upd_ne _ _ h1]⟩
  have z4 : (-4 : Int32).toInt = -4 := by decide
  obtain ⟨M, hM, eM⟩ := RT_M R
  rcases W.2 with ⟨u8, u9⟩ | ⟨u8, u9, u10, u19⟩
  · -- nobody is watched by the class
    have hno : ¬ (((nI c = σ (22 * t) 8 ∧ nI o = σ (22 * t) 9) ∨ (nI c = σ (22 * t) 9 ∧ nI o = σ (22 * t) 8)) ∧ σ (22 * t) 10 = -4) := by
      rintro ⟨⟨q, -⟩ | ⟨q, -⟩, -⟩
      · rw [u8] at q; exact nI_neN (by omega) (by decide) q
      · rw [u9] at q; exact nI_neN (by omega) (by decide) q
    rw [if_neg hno] at hcl
    by_cases g : ((nI c = ρ 91 17 ∧ nI o = ρ 91 18) ∨ (nI c = ρ 91 18 ∧ nI o = ρ 91 17)) ∧ ¬ 0 ≤ ρ 91 19
    · refine ⟨_, _, hcl, fun f => by rw [r2, hrf f, if_pos g], ?_, ?_, T1.2.2.1, F2, by rw [r2a]; exact T1.2.2.2.2⟩
      · rw [r2a]; exact R1
      · refine ⟨?_, Or.inl ⟨by rw [c8]; exact u8, by rw [c9]; exact u9⟩⟩
        rw [stm_row, upd_ne _ _ (by omega), stm_row, upd_ne _ _ (by omega), r91]; exact W.1
    · exact ⟨_, _, hcl, fun f => by rw [r2, hrf f, if_neg g], T1⟩
  · have e19 : σ (22 * t) 10 = -4 ↔ ¬ 0 ≤ ρ 91 19 := by
      rw [u10]
      rcases u19 with q | q
      · rw [q]; decide
      · exact ⟨fun h => absurd q (by rw [h]; decide), fun h => absurd q h⟩
    rw [u8, u9] at hcl
    by_cases g : ((nI c = ρ 91 17 ∧ nI o = ρ 91 18) ∨ (nI c = ρ 91 18 ∧ nI o = ρ 91 17)) ∧ ¬ 0 ≤ ρ 91 19
    · rw [if_pos ⟨g.1, e19.mpr g.2⟩] at hcl
      refine ⟨_, _, hcl, fun f => by rw [r2, hrf f, if_pos g], ?_, ?_, FrC_tr (FrC_t σ (by omega) (by omega)) (FrC_t _ (by omega) (by omega)), F2, by rw [r2a]; exact T1.2.2.2.2⟩
      · rw [r2a]
        refine RT_fld R1 (fun i hi => stm_ne _ _ _ hi) (fun j _ _ _ => rfl) ?_ ?_ ?_ ?_ (RT_M R1)
        · rw [stm_row, upd_ne _ _ (by omega)]
        · rw [stm_row, upd_ne _ _ (by omega)]; exact RT_3 R1
        · rw [stm_row, upd_ne _ _ (by omega)]; exact RT_4 R1
        · rw [stm_row, upd_ne _ _ (by omega)]; exact RT_5 R1
      · refine ⟨?_, Or.inr ⟨?_, ?_, ?_, ?_⟩⟩
        · rw [stm_row, upd_ne _ _ (by omega), stm_row, upd_ne _ _ (by omega), stm_row, upd_ne _ _ (by omega), r91]; exact W.1
        · rw [stm_row, upd_ne _ _ (by omega), c8, stm_row, upd_ne _ _ (by omega), r91]; exact u8
        · rw [stm_row, upd_ne _ _ (by omega), c9, stm_row, upd_ne _ _ (by omega), r91]; exact u9
        · rw [stm_row, upd_at, stm_row, upd_at]
        · right
          rw [stm_row, upd_at, eM]; exact nI_pos' (by omega)
    · rw [if_neg (fun q => g ⟨q.1, e19.mp q.2⟩)] at hcl
      exact ⟨_, _, hcl, fun f => by rw [r2, hrf f, if_neg g], T1⟩
end ME
end
section
/-! the search for one that is met -/
section M2
variable {σ ρ : Mem} {t a m n : Nat} {len : Nat → Nat}
theorem meet_l (R : RT σ t (ρ a) m len n) {c x y p : Nat} {w v5 : Int32} (hc : c < n) (hw : ρ a (44 + 11 * c) = w) (hy : nI x + w = nI y) : ∀ (d j nn nn2 : Nat), j + d = n → d < nn → d < nn2 →
    (F_X6_meet_3 t (nI c) (22 * t + 15 + c) (nI y) nn σ (nI j) = some σ ∧ F_X8_goesOn_202 a (nI c) nn2 ρ (nI j) (nI p) v5 w (nI x) = some ρ ∧ F_X8_goesOn_202b a (nI c) nn2 ρ (nI j) (nI p) v5 w (nI x) = some ρ) ∨
    ∃ o, o < n ∧ ρ a (49 + 11 * o) = nI y ∧ ¬ ρ a (44 + 11 * o) = w ∧ F_X6_meet_3 t (nI c) (22 * t + 15 + c) (nI y) nn σ (nI j) = (F_X6_noteMeeting σ t (nI c) (nI o)).bind (MK t (nI c) (22 * t + 15 + c) (nI o)) ∧ F_X8_goesOn_202 a (nI c) nn2 ρ (nI j) (nI p) v5 w (nI x) = NR (stm ρ a 4 (ρ a 4 + 1)) (stm (stm ρ a 4 (ρ a 4 + 1)) 91 19 (stm ρ a 4 (ρ a 4 + 1) a 2)) (nI c) (nI o) (RK a (nI c) (nI o) (nI p)) ∧ F_X8_goesOn_202b a (nI c) nn2 ρ (nI j) (nI p) v5 w (nI x) = NR (stm ρ a 4 (ρ a 4 + 1)) (stm (stm ρ a 4 (ρ a 4 + 1)) 91 19 (stm ρ a 4 (ρ a 4 + 1) a 2)) (nI c) (nI o) (RK a (nI c) (nI o) (nI p)) := by
  have h7 := RT_7 R
  have hn := RT_n R
  intro d
  induction d with
  | zero =>
    intro j nn nn2 e1 e2 e3
    obtain rfl : j = n := by omega
    obtain ⟨nn, rfl⟩ : ∃ j, nn = j + 1 := ⟨nn - 1, by omega⟩
    obtain ⟨nn2, rfl⟩ : ∃ j, nn2 = j + 1 := ⟨nn2 - 1, by omega⟩
    refine Or.inl ⟨?_, ?_, ?_⟩
    · rw [F_X6_meet_3, RT_2 R, if_pos (nI_le (Nat.le_refl _) (by omega))]
    · rw [F_X8_goesOn_202, hn, if_pos (nI_le (Nat.le_refl _) (by omega))]
    · rw [F_X8_goesOn_202b, hn, if_pos (nI_le (Nat.le_refl _) (by omega))]
  | succ d ih =>
    intro j nn nn2 e1 e2 e3
    obtain ⟨nn, rfl⟩ : ∃ j, nn = j + 1 := ⟨nn - 1, by omega⟩
    obtain ⟨nn2, rfl⟩ : ∃ j, nn2 = j + 1 := ⟨nn2 - 1, by omega⟩
    have I := ih (j + 1) nn nn2 (by omega) (by omega) (by omega)
    have jn : ¬ nI n ≤ nI j := nI_ge (by omega) (by omega)
    have C := RT_C R (show j < n by omega)
    have Cc := RT_C R hc
    have ix := ix_nI (n := 7) (show j < 7 by omega) (by decide)
    have j7 : j < 7 := by omega
    have c6 := C.2.2.1
    have cw : σ (22 * t + 15 + j) 0 = σ (22 * t + 15 + c) 0 ↔ ρ a (44 + 11 * j) = w := by
      rcases C.1 with ⟨q1, q2⟩ | ⟨q1, q2⟩ <;> rcases Cc.1 with ⟨q3, q4⟩ | ⟨q3, q4⟩ <;> rw [q1, q2, q4, ← hw, q3] <;> decide
    have s1 : F_X6_meet_3 t (nI c) (22 * t + 15 + c) (nI y) (nn + 1) σ (nI j) = if ρ a (49 + 11 * j) = nI y then (if σ (22 * t + 15 + j) 0 = σ (22 * t + 15 + c) 0 then F_X6_meet_3 t (nI c) (22 * t + 15 + c) (nI y) nn σ (nI (j + 1)) else (if σ (22 * t + 15 + j) 7 = 0 then (F_X6_noteMeeting σ t (nI c) (nI j)).bind (MK t (nI c) (22 * t + 15 + c) (nI j)) else F_X6_meet_3 t (nI c) (22 * t + 15 + c) (nI y) nn σ (nI (j + 1)))) else F_X6_meet_3 t (nI c) (22 * t + 15 + c) (nI y) nn σ (nI (j + 1)) := by
      rw [F_X6_meet_3, RT_2 R, if_neg jn, ix, Option.bind_some, c6, nI_1]
      rfl
    have s2 : F_X8_goesOn_202 a (nI c) (nn2 + 1) ρ (nI j) (nI p) v5 w (nI x) = if ρ a (49 + 11 * j) = nI y then (if ρ a (44 + 11 * j) = w then F_X8_goesOn_202 a (nI c) nn2 ρ (nI (j + 1)) (nI p) v5 w (nI x) else (if ρ a (50 + 11 * j) ≤ 0 then NR (stm ρ a 4 (ρ a 4 + 1)) (stm (stm ρ a 4 (ρ a 4 + 1)) 91 19 (stm ρ a 4 (ρ a 4 + 1) a 2)) (nI c) (nI j) (RK a (nI c) (nI j) (nI p)) else F_X8_goesOn_202 a (nI c) nn2 ρ (nI (j + 1)) (nI p) v5 w (nI x))) else F_X8_goesOn_202 a (nI c) nn2 ρ (nI (j + 1)) (nI p) v5 w (nI x) := by
      rw [F_X8_goesOn_202, hn, if_neg jn, get5 j7, Option.bind_some, hy, get0 j7, Option.bind_some, get6 j7, Option.bind_some, nI_1]
      rfl
    have s3 : F_X8_goesOn_202b a (nI c) (nn2 + 1) ρ (nI j) (nI p) v5 w (nI x) = if ρ a (49 + 11 * j) = nI y then (if ρ a (44 + 11 * j) = w then F_X8_goesOn_202b a (nI c) nn2 ρ (nI (j + 1)) (nI p) v5 w (nI x) else (if ρ a (50 + 11 * j) ≤ 0 then NR (stm ρ a 4 (ρ a 4 + 1)) (stm (stm ρ a 4 (ρ a 4 + 1)) 91 19 (stm ρ a 4 (ρ a 4 + 1) a 2)) (nI c) (nI j) (RK a (nI c) (nI j) (nI p)) else F_X8_goesOn_202b a (nI c) nn2 ρ (nI (j + 1)) (nI p) v5 w (nI x))) else F_X8_goesOn_202b a (nI c) nn2 ρ (nI (j + 1)) (nI p) v5 w (nI x) := by
      rw [F_X8_goesOn_202b, hn, if_neg jn, get5 j7, Option.bind_some, hy, get0 j7, Option.bind_some, get6 j7, Option.bind_some, nI_1]
      rfl
    rw [s1, s2, s3]
    by_cases k1 : ρ a (49 + 11 * j) = nI y
    · by_cases k2 : ρ a (44 + 11 * j) = w
      · rw [if_pos k1, if_pos (cw.mpr k2), if_pos k1, if_pos k2, if_pos k1, if_pos k2]
        exact I
      · have k2' : ¬ σ (22 * t + 15 + j) 0 = σ (22 * t + 15 + c) 0 := fun q => k2 (cw.mp q)
        rcases CW_bk C with ⟨b1, -, b3⟩ | ⟨b1, -, b3, -⟩
        · rw [if_pos k1, if_neg k2', if_pos b3, if_pos k1, if_neg k2, if_pos b1, if_pos k1, if_neg k2, if_pos b1]
          exact Or.inr ⟨j, by omega, k1, k2, rfl, rfl, rfl⟩
        · have b3' : ¬ σ (22 * t + 15 + j) 7 = 0 := by rw [b3]; exact i10
          rw [if_pos k1, if_neg k2', if_neg b3', if_pos k1, if_neg k2, if_neg b1, if_pos k1, if_neg k2, if_neg b1]
          exact I
    · rw [if_neg k1, if_neg k1, if_neg k1]
      exact I
/-- they meet: who begins to back -/
theorem met_k (R : RT σ t (ρ a) m len n) (W : RW σ ρ t) (ha : a ≠ 91) {c o x y p : Nat} {w : Int32} (hc : c < n) (ho : o < n) (hw : ρ a (44 + 11 * c) = w) (hwo : ¬ ρ a (44 + 11 * o) = w) (hs : ρ a (49 + 11 * c) = nI x) (hso : ρ a (49 + 11 * o) = nI y) (hx : x ≤ PS len m) (hy : y ≤ PS len m) (hp : p < m) (h1 : PS len p < x) (h2 : x < PS len (p + 1)) :
    ∃ σ' ρ', MK t (nI c) (22 * t + 15 + c) (nI o) σ = some σ' ∧ RK a (nI c) (nI o) (nI p) ρ = some ρ' ∧ STP σ ρ σ' ρ' t a m len n := by
  have h7 := RT_7 R
  have h8 := RT_8 R
  have V := RT_V R
  have hne : c ≠ o := by
    intro e; subst e; exact hwo hw
  have h3 : PS len (p + 1) ≤ PS len m := PS_mono (by omega)
  have hpa : F_X6_pieceAhead σ t (22 * t + 15 + c) = some (nI p) := by
    rcases (RT_K R hc).1 with q | q
    · obtain ⟨p', q1, q2, q3, q4, -⟩ := ahead_up R hc q hs (by omega)
      rw [q4, PS_un (len := len) (p := p') (q := p) (x := x) q2 q3 (by omega) h2]
    · obtain ⟨p', q1, q2, q3, q4, -⟩ := ahead_dn R hc q hs hx (by omega)
      rw [q4, PS_un (len := len) (p := p') (q := p) (x := x - 1) (by omega) (by omega) (by omega) (by omega)]
  obtain ⟨v, hv, ev⟩ := vil3 (VS_vil V hp)
  have opp : ρ a (44 + 11 * c) = 1 ∧ ρ a (44 + 11 * o) = -1 ∨ ρ a (44 + 11 * c) = -1 ∧ ρ a (44 + 11 * o) = 1 := by
    rcases (RT_K R hc).1 with q | q <;> rcases (RT_K R ho).1 with q' | q'
    · exact absurd (q'.trans (q.symm.trans hw)) hwo
    · exact Or.inl ⟨q, q'⟩
    · exact Or.inr ⟨q, q'⟩
    · exact absurd (q'.trans (q.symm.trans hw)) hwo
  obtain ⟨z, z1, z2, z3⟩ := backer_p R (piece := nI p) (hill := ρ a (15 + 3 * p)) hc ho hne hv hs hso hx hy opp (Or.inr ⟨p, hp, rfl, rfl⟩)
  have cl : MK t (nI c) (22 * t + 15 + c) (nI o) σ = if z < 0 ∨ σ (22 * t) 2 ≤ z ∨ 7 ≤ z then some σ else ((ix 7 z).bind fun j_12 => (F_X0_beginBacking σ (22 * t + 15 + j_12)).bind fun σ_13 => some σ_13) := by
    unfold MK
    rw [hpa, Option.bind_some, villageBy_c R hp, Option.bind_some, hillOf_c R hp, Option.bind_some, ev, z1, Option.bind_some]
  have rf : RK a (nI c) (nI o) (nI p) ρ = if z < 0 then some ρ else ((F_X8_backs_ ρ a z).bind fun σ_23 => some σ_23) := by
    unfold RK
    rw [ix16 (by omega), Option.bind_some, ev, z2, Option.bind_some]
  have key : ∀ q, q < n → z = nI q → ∃ σ' ρ', MK t (nI c) (22 * t + 15 + c) (nI o) σ = some σ' ∧ RK a (nI c) (nI o) (nI p) ρ = some ρ' ∧ STP σ ρ σ' ρ' t a m len n := by
    intro q hq ez
    subst ez
    have cq : ¬ (nI q < 0 ∨ σ (22 * t) 2 ≤ nI q ∨ 7 ≤ nI q) := nocart rfl (by omega) (by rw [RT_2 R]; exact nI_lt hq (by omega))
    have bb : F_X8_backs_ ρ a (nI q) = some (stm ρ a (50 + 11 * q) 1) := by
      unfold F_X8_backs_
      rw [puts6 (by omega), Option.bind_some]
    refine ⟨_, _, ?_, ?_, e_beg R W ha hq⟩
    · rw [cl, if_neg cq, ix_nI (show q < 7 by omega) (by decide), Option.bind_some, beg_c, Option.bind_some]
    · rw [rf, if_neg (nI_pos (by omega)), bb, Option.bind_some]
  rcases z3 with e | e | e
  · subst e
    refine ⟨_, _, ?_, ?_, R, W, FrC_rf t σ, FrR_rf a ρ, KS_rf _⟩
    · rw [cl, if_pos (Or.inl im4)]
    · rw [rf, if_pos im4]
  · exact key c hc e
  · exact key o ho e
/-- meet of the class, the loop of goesOn -/
theorem meet_p (R : RT σ t (ρ a) m len n) (W : RW σ ρ t) (ha : a ≠ 91) {c x y p : Nat} {w v5 : Int32} (hc : c < n) (hw : ρ a (44 + 11 * c) = w) (hyw : nI x + w = nI y) (hs : ρ a (49 + 11 * c) = nI x) (hx : x ≤ PS len m) (hy : y ≤ PS len m) (hp : p < m) (h1 : PS len p < x) (h2 : x < PS len (p + 1)) :
    ∃ σ' ρ', F_X6_meet σ t (nI c) (22 * t + 15 + c) (nI y) = some σ' ∧ F_X8_goesOn_202 a (nI c) FU ρ 0 (nI p) v5 w (nI x) = some ρ' ∧ F_X8_goesOn_202b a (nI c) FU ρ 0 (nI p) v5 w (nI x) = some ρ' ∧ STP σ ρ σ' ρ' t a m len n := by
  have h7 := RT_7 R
  have fu : n < FU := Nat.lt_of_le_of_lt h7 (by decide)
  rcases meet_l R (p := p) (v5 := v5) hc hw hyw n 0 FU FU (by omega) fu fu with ⟨q1, q2, q3⟩ | ⟨o, ho, so, wo, q1, q2, q3⟩
  · exact ⟨σ, ρ, q1, q2, q3, R, W, FrC_rf t σ, FrR_rf a ρ, KS_rf _⟩
  · obtain ⟨τ, ρ1, n1, n2, n3⟩ := note_p R W ha hc ho
    have ks := n3.2.2.2.2
    have sta44 : ∀ i, sta (44 + 11 * i) := fun i => by unfold sta; omega
    have e44 : ∀ i, ρ1 a (44 + 11 * i) = ρ a (44 + 11 * i) := fun i => ks _ (sta44 i)
    have e49 : ∀ i, i < n → ρ1 a (49 + 11 * i) = ρ a (49 + 11 * i) := by
      intro i hi
      have r1 := (RT_C n3.1 hi).2.2.1
      have r2 := (RT_C R hi).2.2.1
      have r3 : τ (22 * t + 15 + i) = σ (22 * t + 15 + i) := by
        unfold F_X6_noteMeeting at n1
        have : ∀ (A : Mem), some A = some τ → (∀ b, b ≠ 22 * t → A b = σ b) → τ (22 * t + 15 + i) = σ (22 * t + 15 + i) := fun A h hA => by rw [← Option.some.inj h]; exact hA _ (by omega)
        revert n1
        repeat' split
        all_goals intro n1
        all_goals exact this _ n1 (fun b hb => by simp only [stm_ne _ _ _ hb])
      rw [← r1, r3, r2]
    obtain ⟨σ', ρ', m1, m2, m3⟩ := met_k n3.1 n3.2.1 ha (w := w) hc ho (by rw [e44]; exact hw) (by rw [e44]; exact wo) (by rw [e49 c hc]; exact hs) (by rw [e49 o ho]; exact so) hx hy hp h1 h2
    refine ⟨σ', ρ', ?_, ?_, ?_, STP_tr n3 m3⟩
    · exact q1.trans (by rw [n1, Option.bind_some, m1])
    · exact q2.trans (by rw [n2, m2])
    · exact q3.trans (by rw [n2, m2])
end M2
end
section
/-! goOn against goesOn -/
/-- the reference takes the step; v MINUTES are left -/
def LV (ρ : Mem) (a : Nat) (c s v : Int32) : Option Mem := (F_X8_puts ρ a c 5 s).bind fun σ_75 => (F_X8_puts σ_75 a c 7 v).bind fun σ_76 => (F_X8_goal (stm σ_76 91 20 1) a c).bind fun r_77 => if s = r_77 then ((F_X8_puts (stm σ_76 91 20 1) a c 5 (-3)).bind fun σ_79 => (F_X8_puts σ_79 a c 7 0).bind fun σ_80 => some σ_80) else (some (stm σ_76 91 20 1))
def LM (ρ : Mem) (a : Nat) (c r2 r4 s : Int32) : Option Mem := (F_X8_get ρ a c 2).bind fun r_58 => if r_58 = 1 then ((ix 121 ((14 + (3 * r4)) + 1)).bind fun k_66 => if r2 ≤ 0 then (if (ρ a k_66) = 2 then (LV ρ a c s 1) else (LV ρ a c s 0)) else (if (ρ a k_66) = 1 then (LV ρ a c s 1) else (LV ρ a c s 0))) else (LV ρ a c s 0)
/-- the class behind its step -/
def CV (σ_9 : Mem) (t i2 : Nat) (r_4 v : Int32) : Option Mem := (F_X6_goal (stm σ_9 i2 9 v) t i2).bind fun r_12 => if r_4 = r_12 then ((ix 73 r_4).bind fun k_14 => (ix 73 r_4).bind fun k_15 => some (stm (stm (stm σ_9 i2 9 v) (22 * t + 14) k_15 (((stm σ_9 i2 9 v) (22 * t + 14) k_14) - 1)) i2 6 (-3))) else (some (stm σ_9 i2 9 v))
def CM (σ : Mem) (t i2 : Nat) (r_4 : Int32) : Option Mem := (F_X6_pieceAhead σ t i2).bind fun r_7 => (F_X4_hillOf σ t r_7).bind fun r_8 => (F_X6_step σ t i2 r_4).bind fun σ_9 => (F_X0_isSlowOn σ_9 i2 r_8).bind fun r_10 => if r_10 = 0 then (CV σ_9 t i2 r_4 0) else (CV σ_9 t i2 r_4 1)
theorem goesOn_eq (ρ : Mem) (a : Nat) (c : Int32) : F_X8_goesOn ρ a c = (F_X8_get ρ a c 5).bind fun r_1 => (F_X8_get ρ a c 0).bind fun r_2 => (F_X8_placeAt ρ a r_1).bind fun r_3 => (F_X8_pieceFrom ρ a r_1 r_2).bind fun r_4 => if r_3 < 0 then ((F_X8_hasRoom ρ a (r_1 + r_2)).bind fun r_6 => if r_6 = 0 then ((F_X8_get ρ a c 9).bind fun r_8 => (F_X8_puts ρ a c 9 (r_8 + 1)).bind fun σ_9 => if r_3 < 0 then (F_X8_goesOn_202 a c FU σ_9 0 r_4 r_3 r_2 r_1) else (some σ_9)) else LM ρ a c r_2 r_4 (r_1 + r_2)) else ((ix 121 ((14 + (3 * r_4)) + 2)).bind fun k_94 => (F_X8_entersBy ρ a c (ρ a k_94)).bind fun r_95 => if r_95 = 0 then ((F_X8_get ρ a c 9).bind fun r_185 => (F_X8_puts ρ a c 9 (r_185 + 1)).bind fun σ_186 => some σ_186) else ((F_X8_hasRoom ρ a (r_1 + r_2)).bind fun r_97 => if r_97 = 0 then ((F_X8_get ρ a c 9).bind fun r_99 => (F_X8_puts ρ a c 9 (r_99 + 1)).bind fun σ_100 => if r_3 < 0 then (F_X8_goesOn_202b a c FU σ_100 0 r_4 r_3 r_2 r_1) else (some σ_100)) else LM ρ a c r_2 r_4 (r_1 + r_2))) := rfl
theorem goOn_eq (σ : Mem) (t : Nat) (x1 : Int32) (i2 : Nat) : F_X6_goOn σ t x1 i2 = (F_X4_placeOf σ t (σ i2 6)).bind fun r_1 => if r_1 < 0 then ((F_X0_spotAhead σ i2).bind fun r_4 => (F_X6_hasRoom σ t r_4).bind fun r_5 => if r_5 = 0 then ((F_X6_meet (stm σ i2 11 ((σ i2 11) + 1)) t x1 i2 r_4).bind fun σ_21 => some σ_21) else CM σ t i2 r_4) else ((F_X6_letsIn σ t i2).bind fun r_23 => if r_23 = 0 then (some (stm σ i2 11 ((σ i2 11) + 1))) else ((F_X0_spotAhead σ i2).bind fun r_25 => (F_X6_hasRoom σ t r_25).bind fun r_26 => if r_26 = 0 then (some (stm σ i2 11 ((σ i2 11) + 1))) else CM σ t i2 r_25)) := rfl
theorem VS_cg {k k' : Nat → Int32} {m : Nat} {len : Nat → Nat} (V : VS k m len) (h : ∀ j, j < 44 → j ≠ 1 → j ≠ 2 → j ≠ 3 → j ≠ 4 → k' j = k j) : VS k' m len := by
  obtain ⟨⟨v1, v2⟩, v3, v4, v5, v6, v7⟩ := V
  refine ⟨⟨(h 0 (by omega) (by omega) (by omega) (by omega) (by omega)).trans v1, v2⟩, fun p hp => (h _ (by omega) (by omega) (by omega) (by omega) (by omega)).trans (v3 p hp), v4, fun p hp => ?_, fun p hp hp8 => ?_, fun v hv => ?_⟩
  · rw [h (15 + 3 * p) (by omega) (by omega) (by omega) (by omega) (by omega), h (16 + 3 * p) (by omega) (by omega) (by omega) (by omega) (by omega)]; exact v5 p hp
  · rw [h (5 + p) (by omega) (by omega) (by omega) (by omega) (by omega)]; exact v6 p hp hp8
  · rw [h (38 + 2 * v) (by omega) (by omega) (by omega) (by omega) (by omega), h (39 + 2 * v) (by omega) (by omega) (by omega) (by omega) (by omega)]; exact v7 v hv
theorem n10 : ¬ (1 : Int32) ≤ 0 := by decide
theorem p10 : (-1 : Int32) ≤ 0 := by decide
section GO
variable {σ ρ : Mem} {t a m n : Nat} {len : Nat → Nat}
theorem e_on (R : RT σ t (ρ a) m len n) (W : RW σ ρ t) (ha : a ≠ 91) {c x y : Nat} (v : Int32) (hc : c < n) (hs : ρ a (49 + 11 * c) = nI x) (hx : x ≤ PS len m) (hy : y ≤ PS len m) (h5 : (ρ a (44 + 11 * c) = 1 → y < PS len m) ∧ (ρ a (44 + 11 * c) = -1 → 0 < y)) :
    STP σ ρ (stm (mv σ t (22 * t + 15 + c) x y) (22 * t + 15 + c) 9 v) (stm (stm (stm ρ a (49 + 11 * c) (nI y)) a (51 + 11 * c) v) 91 20 1) t a m len n := by
  have h7 := RT_7 R
  have ha' : (91 : Nat) ≠ a := fun q => ha q.symm
  have hro : ∀ i, i ≠ 22 * t + 15 + c → stm (mv σ t (22 * t + 15 + c) x y) (22 * t + 15 + c) 9 v i = mv σ t (22 * t + 15 + c) x y i := fun i hi => stm_ne _ _ _ hi
  have hri : stm (mv σ t (22 * t + 15 + c) x y) (22 * t + 15 + c) 9 v (22 * t + 15 + c) = upd (upd (σ (22 * t + 15 + c)) 6 (nI y)) 9 v := by rw [stm_row, mv_i]
  have hrr : stm (stm (stm ρ a (49 + 11 * c) (nI y)) a (51 + 11 * c) v) 91 20 1 a = upd (upd (ρ a) (49 + 11 * c) (nI y)) (51 + 11 * c) v := by rw [stm_ne _ _ _ ha, stm_row, stm_row]
  have h91 : stm (stm (stm ρ a (49 + 11 * c) (nI y)) a (51 + 11 * c) v) 91 20 1 91 = upd (ρ 91) 20 1 := by rw [stm_row, stm_ne _ _ _ ha', stm_ne _ _ _ ha']
  obtain ⟨w1, w2, w3, w4, w5, w6, w7⟩ := RT_C R hc
  refine ⟨?_, RW_st (by rw [hro _ (by omega), mv_t]) h91 W, ?_, ?_, ?_⟩
  · refine RT_go R hc hs hx hy (r' := upd (upd (σ (22 * t + 15 + c)) 6 (nI y)) 9 v) (fun i i1 i2 i3 => by rw [hro _ i1, mv_o i1 i2 i3]) (by rw [hro _ (by omega), mv_t]) hri (by rw [hro _ (by omega), mv_on]) (fun j hj => ?_) ?_ ?_ (fun b hb4 => ?_) h5
    · rw [hrr]
      simp (disch := omega) only [upd_ne]
    · rw [hrr]
      simp (disch := omega) only [upd_ne, upd_at]
    · rw [hrr]
      unfold CW
      simp (disch := omega) only [upd_ne, upd_at]
      exact ⟨w1, w2, trivial, w4, Or.inr trivial, w6, w7⟩
    · rw [upd_ne _ _ (by omega), upd_ne _ _ (by omega)]; exact RT_cb R hc b hb4
  · refine ⟨fun i hi => by rw [hro _ (by omega), mv_o (by omega) (by omega) (by omega)], fun j hj => ?_, ?_, ?_⟩
    · by_cases e : j = c
      · subst e; rw [hri]; simp (disch := omega) only [upd_ne]
      · rw [hro _ (by omega), mv_o (by omega) (by omega) (by omega)]
    · rw [hro _ (by omega), mv_t, upd_ne _ _ (by omega)]
    · rw [hro _ (by omega), mv_t, upd_ne _ _ (by omega)]
  · exact ⟨fun i h1 h2 => by rw [stm_ne _ _ _ h2, stm_ne _ _ _ h1, stm_ne _ _ _ h1], fun j _ h2 => by rw [h91, upd_ne _ _ h2]⟩
  · rw [hrr]
    exact KS_tr (sta_c (c := c) (by omega) _) (sta_c (c := c) (by omega) _)
theorem e_done (R : RT σ t (ρ a) m len n) (W : RW σ ρ t) (ha : a ≠ 91) {c x y : Nat} (v : Int32) (hc : c < n) (hs : ρ a (49 + 11 * c) = nI x) (hx : x ≤ PS len m) (hy : y ≤ PS len m) :
    STP σ ρ (stm (stm (stm (mv σ t (22 * t + 15 + c) x y) (22 * t + 15 + c) 9 v) (22 * t + 14) y ((stm (mv σ t (22 * t + 15 + c) x y) (22 * t + 15 + c) 9 v) (22 * t + 14) y - 1)) (22 * t + 15 + c) 6 (-3)) (stm (stm (stm (stm (stm ρ a (49 + 11 * c) (nI y)) a (51 + 11 * c) v) 91 20 1) a (49 + 11 * c) (-3)) a (51 + 11 * c) 0) t a m len n := by
  have h7 := RT_7 R
  have ha' : (91 : Nat) ≠ a := fun q => ha q.symm
  have eon : stm (mv σ t (22 * t + 15 + c) x y) (22 * t + 15 + c) 9 v (22 * t + 14) = upd (upd (σ (22 * t + 14)) x (σ (22 * t + 14) x - 1)) y (upd (σ (22 * t + 14)) x (σ (22 * t + 14) x - 1) y + 1) := by rw [stm_ne _ _ _ (by omega), mv_on]
  rw [eon]
  have hro : ∀ i w, i ≠ 22 * t + 15 + c → i ≠ 22 * t + 14 → stm (stm (stm (mv σ t (22 * t + 15 + c) x y) (22 * t + 15 + c) 9 v) (22 * t + 14) y w) (22 * t + 15 + c) 6 (-3) i = mv σ t (22 * t + 15 + c) x y i := fun i w hi hi2 => by rw [stm_ne _ _ _ hi, stm_ne _ _ _ hi2, stm_ne _ _ _ hi]
  have hri : ∀ w, stm (stm (stm (mv σ t (22 * t + 15 + c) x y) (22 * t + 15 + c) 9 v) (22 * t + 14) y w) (22 * t + 15 + c) 6 (-3) (22 * t + 15 + c) = upd (upd (upd (σ (22 * t + 15 + c)) 6 (nI y)) 9 v) 6 (-3) := fun w => by rw [stm_row, stm_ne _ _ _ (by omega), stm_row, mv_i]
  have hrn : ∀ w, stm (stm (stm (mv σ t (22 * t + 15 + c) x y) (22 * t + 15 + c) 9 v) (22 * t + 14) y w) (22 * t + 15 + c) 6 (-3) (22 * t + 14) = upd (upd (upd (σ (22 * t + 14)) x (σ (22 * t + 14) x - 1)) y (upd (σ (22 * t + 14)) x (σ (22 * t + 14) x - 1) y + 1)) y w := fun w => by rw [stm_ne _ _ _ (by omega), stm_row, eon]
  have hrr : stm (stm (stm (stm (stm ρ a (49 + 11 * c) (nI y)) a (51 + 11 * c) v) 91 20 1) a (49 + 11 * c) (-3)) a (51 + 11 * c) 0 a = upd (upd (upd (upd (ρ a) (49 + 11 * c) (nI y)) (51 + 11 * c) v) (49 + 11 * c) (-3)) (51 + 11 * c) 0 := by rw [stm_row, stm_row, stm_ne _ _ _ ha, stm_row, stm_row]
  have h91 : stm (stm (stm (stm (stm ρ a (49 + 11 * c) (nI y)) a (51 + 11 * c) v) 91 20 1) a (49 + 11 * c) (-3)) a (51 + 11 * c) 0 91 = upd (ρ 91) 20 1 := by rw [stm_ne _ _ _ ha', stm_ne _ _ _ ha', stm_row, stm_ne _ _ _ ha', stm_ne _ _ _ ha']
  obtain ⟨w1, w2, w3, w4, w5, w6, w7⟩ := RT_C R hc
  refine ⟨?_, RW_st (by rw [hro _ _ (by omega) (by omega), mv_t]) h91 W, ?_, ?_, ?_⟩
  · refine RT_done R hc hs hx hy (r' := upd (upd (upd (σ (22 * t + 15 + c)) 6 (nI y)) 9 v) 6 (-3)) (fun i i1 i2 i3 => by rw [hro _ _ i1 i2, mv_o i1 i2 i3]) (by rw [hro _ _ (by omega) (by omega), mv_t]) (hri _) (hrn _) (fun j hj => ?_) ?_ ?_ (fun b hb4 => ?_)
    · rw [hrr]
      simp (disch := omega) only [upd_ne]
    · rw [hrr]
      simp (disch := omega) only [upd_ne, upd_at]
    · rw [hrr]
      unfold CW
      simp (disch := omega) only [upd_ne, upd_at]
      exact ⟨w1, w2, trivial, w4, Or.inl trivial, w6, w7⟩
    · rw [upd_ne _ _ (by omega), upd_ne _ _ (by omega), upd_ne _ _ (by omega)]; exact RT_cb R hc b hb4
  · refine ⟨fun i hi => by rw [hro _ _ (by omega) (by omega), mv_o (by omega) (by omega) (by omega)], fun j hj => ?_, ?_, ?_⟩
    · by_cases e : j = c
      · subst e; rw [hri]; simp (disch := omega) only [upd_ne]
      · rw [hro _ _ (by omega) (by omega), mv_o (by omega) (by omega) (by omega)]
    · rw [hro _ _ (by omega) (by omega), mv_t, upd_ne _ _ (by omega)]
    · rw [hro _ _ (by omega) (by omega), mv_t, upd_ne _ _ (by omega)]
  · exact ⟨fun i h1 h2 => by rw [stm_ne _ _ _ h1, stm_ne _ _ _ h1, stm_ne _ _ _ h2, stm_ne _ _ _ h1, stm_ne _ _ _ h1], fun j _ h2 => by rw [h91, upd_ne _ _ h2]⟩
  · rw [hrr]
    exact KS_tr (KS_tr (KS_tr (sta_c (c := c) (by omega) _) (sta_c (c := c) (by omega) _)) (sta_c (c := c) (by omega) _)) (sta_c (c := c) (by omega) _)
/-- the step on, v MINUTES left -/
theorem go_v (R : RT σ t (ρ a) m len n) (W : RW σ ρ t) (ha : a ≠ 91) {c x y : Nat} (v : Int32) (hc : c < n) (hs : ρ a (49 + 11 * c) = nI x) (hx : x ≤ PS len m) (hy : y ≤ PS len m) (hup : ρ a (44 + 11 * c) = 1 → y = x + 1) (hdn : ρ a (44 + 11 * c) = -1 → x = y + 1) :
    ∃ σ' ρ', CV (mv σ t (22 * t + 15 + c) x y) t (22 * t + 15 + c) (nI y) v = some σ' ∧ LV ρ a (nI c) (nI y) v = some ρ' ∧ STP σ ρ σ' ρ' t a m len n := by
  have h7 := RT_7 R
  have c7 : c < 7 := by omega
  have h72 := RT_72 R (Nat.le_refl m)
  have C := RT_C R hc
  have V := RT_V R
  have rr : stm (stm (stm ρ a (49 + 11 * c) (nI y)) a (51 + 11 * c) v) 91 20 1 a = upd (upd (ρ a) (49 + 11 * c) (nI y)) (51 + 11 * c) v := by rw [stm_ne _ _ _ ha, stm_row, stm_row]
  have V2 : VS (stm (stm (stm ρ a (49 + 11 * c) (nI y)) a (51 + 11 * c) v) 91 20 1 a) m len := VS_cg V (fun j hj _ _ _ _ => by rw [rr, upd_ne _ _ (by omega), upd_ne _ _ (by omega)])
  obtain ⟨G, hG, g1, g2, g3⟩ : ∃ G : Nat, G ≤ PS len m ∧ F_X6_goal (stm (mv σ t (22 * t + 15 + c) x y) (22 * t + 15 + c) 9 v) t (22 * t + 15 + c) = some (nI G) ∧ F_X8_goal (stm (stm (stm ρ a (49 + 11 * c) (nI y)) a (51 + 11 * c) v) 91 20 1) a (nI c) = some (nI G) ∧ (y ≠ G → (ρ a (44 + 11 * c) = 1 → y < PS len m) ∧ (ρ a (44 + 11 * c) = -1 → 0 < y)) := by
    have e0 : stm (mv σ t (22 * t + 15 + c) x y) (22 * t + 15 + c) 9 v (22 * t + 15 + c) 0 = σ (22 * t + 15 + c) 0 := by rw [stm_row, mv_i, upd_ne _ _ (by omega), upd_ne _ _ (by omega)]
    have e1 : stm (mv σ t (22 * t + 15 + c) x y) (22 * t + 15 + c) 9 v (22 * t + 1) 1 = nI (PS len m) := by rw [stm_ne _ _ _ (by omega), mv_o (by omega) (by omega) (by omega)]; exact (RT_R R).2.1
    have e2 : stm (stm (stm ρ a (49 + 11 * c) (nI y)) a (51 + 11 * c) v) 91 20 1 a (44 + 11 * c) = ρ a (44 + 11 * c) := by rw [rr, upd_ne _ _ (by omega), upd_ne _ _ (by omega)]
    unfold F_X6_goal F_X8_goal
    rw [e0, get0 c7, Option.bind_some, e2, endOf_r V2, Option.bind_some, e1]
    rcases (RT_K R hc).1 with hw | hw
    · refine ⟨PS len m, Nat.le_refl _, ?_, ?_, fun q => ⟨fun _ => by omega, fun q2 => absurd (hw.symm.trans q2) i1m1⟩⟩
      · rw [CW_up C hw, if_neg i10]
      · rw [hw, if_neg (by decide)]
    · refine ⟨0, Nat.zero_le _, ?_, ?_, fun q => ⟨fun q2 => absurd (hw.symm.trans q2) im11, fun _ => by omega⟩⟩
      · rw [CW_dn C hw, if_pos rfl]; rfl
      · rw [hw, if_pos (by decide)]; rfl
  unfold CV LV
  rw [g1, Option.bind_some, puts5 c7, Option.bind_some, puts7 c7, Option.bind_some, g2, Option.bind_some]
  by_cases k : y = G
  · subst k
    rw [if_pos rfl, if_pos rfl, ix_nI (show y < 73 by omega) (by decide), Option.bind_some, Option.bind_some, puts5 c7, Option.bind_some, puts7 c7, Option.bind_some]
    exact ⟨_, _, rfl, rfl, e_done R W ha v hc hs hx hy⟩
  · have kne : ¬ nI y = nI G := fun q => k (nI_inj q (by omega) (by omega))
    rw [if_neg kne, if_neg kne]
    exact ⟨_, _, rfl, rfl, e_on R W ha v hc hs hx hy (g3 k)⟩
theorem go_2 (R : RT σ t (ρ a) m len n) (W : RW σ ρ t) (ha : a ≠ 91) {c x y p : Nat} {w : Int32} (hc : c < n) (hs : ρ a (49 + 11 * c) = nI x) (hx : x ≤ PS len m) (hy : y ≤ PS len m) (hw : ρ a (44 + 11 * c) = w) (hup : ρ a (44 + 11 * c) = 1 → y = x + 1) (hdn : ρ a (44 + 11 * c) = -1 → x = y + 1) (hp : p < m) (hpa : F_X6_pieceAhead σ t (22 * t + 15 + c) = some (nI p)) :
    ∃ σ' ρ', CM σ t (22 * t + 15 + c) (nI y) = some σ' ∧ LM ρ a (nI c) w (nI p) (nI y) = some ρ' ∧ STP σ ρ σ' ρ' t a m len n := by
  have h7 := RT_7 R
  have h8 := RT_8 R
  have c7 : c < 7 := by omega
  have C := RT_C R hc
  obtain ⟨σ0, ρ0, a1, a2, a3⟩ := go_v R W ha 0 hc hs hx hy hup hdn
  obtain ⟨σ1, ρ1, b1, b2, b3⟩ := go_v R W ha 1 hc hs hx hy hup hdn
  have e0 : mv σ t (22 * t + 15 + c) x y (22 * t + 15 + c) 0 = σ (22 * t + 15 + c) 0 := by rw [mv_i, upd_ne _ _ (by omega)]
  have e1 : mv σ t (22 * t + 15 + c) x y (22 * t + 15 + c) 1 = ρ a (46 + 11 * c) := by rw [mv_i, upd_ne _ _ (by omega)]; exact C.2.1.1
  unfold CM LM F_X0_isSlowOn
  rw [hpa, Option.bind_some, hillOf_c R hp, Option.bind_some, step_c R hc hs hx hy, Option.bind_some, e0, e1, get2 c7, Option.bind_some, ix15 (by omega), Option.bind_some, a1, a2, b1, b2]
  rcases (RT_K R hc).2.1 with hl | hl
  · rw [hl, if_pos rfl, Option.bind_some, if_pos rfl, if_neg (by decide)]
    exact ⟨_, _, rfl, rfl, a3⟩
  · rw [hl, if_neg i10, if_pos rfl]
    rcases (RT_K R hc).1 with hw1 | hw1
    · rw [CW_up C hw1, if_neg i10, ← hw, hw1, if_neg n10]
      by_cases hh : ρ a (15 + 3 * p) = 1
      · rw [if_pos hh, if_pos hh, Option.bind_some, if_neg i10]
        exact ⟨_, _, rfl, rfl, b3⟩
      · rw [if_neg hh, if_neg hh, Option.bind_some, if_pos rfl]
        exact ⟨_, _, rfl, rfl, a3⟩
    · rw [CW_dn C hw1, if_pos rfl, ← hw, hw1, if_pos p10]
      by_cases hh : ρ a (15 + 3 * p) = 2
      · rw [if_pos hh, if_pos hh, Option.bind_some, if_neg i10]
        exact ⟨_, _, rfl, rfl, b3⟩
      · rw [if_neg hh, if_neg hh, Option.bind_some, if_pos rfl]
        exact ⟨_, _, rfl, rfl, a3⟩
end GO
end
section
/-! a cart acts; a minute -/
theorem spotAhead_c (σ : Mem) (i : Nat) : F_X0_spotAhead σ i = if σ i 0 = 0 then some (σ i 6 - 1) else some (σ i 6 + 1) := rfl
section MI
variable {σ ρ : Mem} {t a m n : Nat} {len : Nat → Nat}
theorem goOn_p (R : RT σ t (ρ a) m len n) (W : RW σ ρ t) (ha : a ≠ 91) {c x : Nat} (hc : c < n) (hs : ρ a (49 + 11 * c) = nI x) (hx : x ≤ PS len m) (hup : ρ a (44 + 11 * c) = 1 → x < PS len m) (hdn : ρ a (44 + 11 * c) = -1 → 0 < x) :
    ∃ σ' ρ', F_X6_goOn σ t (nI c) (22 * t + 15 + c) = some σ' ∧ F_X8_goesOn ρ a (nI c) = some ρ' ∧ STP σ ρ σ' ρ' t a m len n := by
  have h7 := RT_7 R
  have h8 := RT_8 R
  have c7 : c < 7 := by omega
  have V := RT_V R
  have h72 := RT_72 R (Nat.le_refl m)
  have C := RT_C R hc
  have E := e_wait R W ha hc
  -- y ahead, the piece ahead, what entering says at a place
  obtain ⟨y, p, w, hw, hy, hp, hyw, hya, hpa, hpf, hu, hd, hen, hin⟩ : ∃ y p w, ρ a (44 + 11 * c) = w ∧ y ≤ PS len m ∧ p < m ∧ nI x + w = nI y ∧ F_X0_spotAhead σ (22 * t + 15 + c) = some (nI y) ∧ F_X6_pieceAhead σ t (22 * t + 15 + c) = some (nI p) ∧ F_X8_pieceFrom ρ a (nI x) w = some (nI p) ∧ (ρ a (44 + 11 * c) = 1 → y = x + 1) ∧ (ρ a (44 + 11 * c) = -1 → x = y + 1) ∧ (∀ q, q ≤ m → x = PS len q → ∀ v, v < 3 → ρ a (16 + 3 * p) = nI v → ∃ b, F_X6_letsIn σ t (22 * t + 15 + c) = some (bI b) ∧ F_X8_entersBy ρ a (nI c) (nI v) = some (bI b)) ∧ (∀ q, q < m → PS len q < x → x < PS len (q + 1) → q = p) := by
    rcases (RT_K R hc).1 with hw | hw
    · obtain ⟨p, q1, q2, q3, q4, q5⟩ := ahead_up R hc hw hs (hup hw)
      refine ⟨x + 1, p, 1, hw, by have := hup hw; omega, q1, nI_1 x, ?_, q4, q5, fun _ => rfl, fun q => absurd (hw.symm.trans q) i1m1, ?_, ?_⟩
      · rw [spotAhead_c, CW_up C hw, if_neg i10, C.2.2.1, hs, nI_1]
      · intro q hq e v hv ev
        have : q = p := by
          have hqm : q < m := by
            rcases Nat.lt_or_ge q m with z | z
            · exact z
            · have := PS_mono (len := len) z
              have := hup hw
              omega
          have := PS_lt (VS_b V) (show q < q + 1 by omega) (show q + 1 ≤ m by omega)
          exact PS_un (len := len) (x := x) (by omega) (by omega) q2 q3
        subst this
        exact enters_up R hc hw q1 (by rw [hs, e]) hv ev q4
      · intro q hq z1 z2
        exact PS_un (len := len) (x := x) (by omega) z2 q2 q3
    · obtain ⟨p, q1, q2, q3, q4, q5⟩ := ahead_dn R hc hw hs hx (hdn hw)
      refine ⟨x - 1, p, -1, hw, by omega, q1, ?_, ?_, q4, q5, fun q => absurd (hw.symm.trans q) im11, fun _ => by have := hdn hw; omega, ?_, ?_⟩
      · obtain ⟨z, rfl⟩ : ∃ z, x = z + 1 := ⟨x - 1, by have := hdn hw; omega⟩
        exact nI_m1
      · rw [spotAhead_c, CW_dn C hw, if_pos rfl, C.2.2.1, hs, nI_sub1 (hdn hw)]
      · intro q hq e v hv ev
        have : q = p + 1 := by
          refine PS_inj (VS_b V) hq (by omega) ?_
          rcases Nat.lt_or_ge p q with z | z
          · have := PS_mono (len := len) (show p + 1 ≤ q by omega)
            omega
          · have := PS_mono (len := len) z
            omega
        subst this
        exact enters_dn R hc hw q1 (by rw [hs, e]) hv ev q4
      · intro q hq z1 z2
        exact PS_un (len := len) (x := x - 1) (by omega) (by omega) (by omega) (by omega)
  obtain ⟨b, r1, r2⟩ := hasRoom_p R hy
  obtain ⟨σ2, ρ2, g1, g2, g3⟩ := go_2 R W ha hc hs hx hy hw hu hd hp hpa
  rw [goOn_eq, goesOn_eq, C.2.2.1, hs, get5 c7, Option.bind_some, get0 c7, Option.bind_some, hw, hs, hpf, hyw, hya, get9 c7]
  simp only [obs, r1, r2, g1, g2, puts9 c7]
  rcases spot_cases hx with ⟨q, hq, e⟩ | ⟨q, hq, h1, h2⟩
  · obtain ⟨v, hv, ev⟩ := vil3 (VS_vil V hp)
    obtain ⟨b2, l1, l2⟩ := hen q hq e v hv ev
    have n1 : ¬ nI q < 0 := nI_pos (by omega)
    rw [e, placeOf_at R hq, placeAt_at V hq, ix16 (by omega), l1]
    simp only [obs, n1, if_false, ev, l2]
    cases b2 with
    | false =>
      rw [bI_f, if_pos rfl, if_pos rfl]
      exact ⟨_, _, rfl, rfl, E⟩
    | true =>
      rw [bI_t, if_neg i10, if_neg i10]
      cases b with
      | false =>
        rw [bI_f, if_pos rfl, if_pos rfl]
        exact ⟨_, _, rfl, rfl, E⟩
      | true =>
        rw [bI_t, if_neg i10, if_neg i10]
        exact ⟨_, _, rfl, rfl, g3⟩
  · have eqp := hin q hq h1 h2
    subst eqp
    rw [placeOf_in R hq h1 h2, placeAt_no V hq h1 h2]
    simp only [obs, im1, im4, if_true]
    cases b with
    | false =>
      have k49 : stm ρ a (53 + 11 * c) (ρ a (53 + 11 * c) + 1) a (49 + 11 * c) = nI x := by rw [stm_row, upd_ne _ _ (by omega)]; exact hs
      have k44 : stm ρ a (53 + 11 * c) (ρ a (53 + 11 * c) + 1) a (44 + 11 * c) = w := by rw [stm_row, upd_ne _ _ (by omega)]; exact hw
      obtain ⟨σ3, ρ3, m1, m2, -, m4⟩ := meet_p E.1 E.2.1 ha (p := q) (v5 := -4) hc k44 hyw k49 hx hy hq h1 h2
      rw [bI_f, if_pos rfl, if_pos rfl, m1, m2, Option.bind_some]
      exact ⟨_, _, rfl, rfl, STP_tr E m4⟩
    | true =>
      rw [bI_t, if_neg i10, if_neg i10]
      exact ⟨_, _, rfl, rfl, g3⟩
/-- it comes onto the road -/
theorem e_come (R : RT σ t (ρ a) m len n) (W : RW σ ρ t) (ha : a ≠ 91) {c E : Nat} (hc : c < n) (hs : ρ a (49 + 11 * c) = -2) (hE : E ≤ PS len m) (h5 : (ρ a (44 + 11 * c) = 1 → E < PS len m) ∧ (ρ a (44 + 11 * c) = -1 → 0 < E)) :
    STP σ ρ (stm (stm σ (22 * t + 15 + c) 6 (nI E)) (22 * t + 14) E (stm σ (22 * t + 15 + c) 6 (nI E) (22 * t + 14) E + 1)) (stm ρ a (49 + 11 * c) (nI E)) t a m len n := by
  have h7 := RT_7 R
  have h72 := RT_72 R (Nat.le_refl m)
  have m2 : (-2 : Int32).toInt < 0 := by decide
  have C := RT_C R hc
  have z : ¬ ρ a (49 + 11 * c) = -3 := by rw [hs]; decide
  obtain ⟨w1, w2, w3, w4, w5, w6, w7⟩ := C
  have w5' := w5.resolve_left z
  have eon : stm σ (22 * t + 15 + c) 6 (nI E) (22 * t + 14) = σ (22 * t + 14) := stm_ne _ _ _ (by omega)
  rw [eon]
  refine ⟨?_, RW_cg (by rw [stm_ne _ _ _ (by omega), stm_ne _ _ _ (by omega)]) (stm_ne _ _ _ (fun q => ha q.symm)) W, ?_, FrR_a ρ ha, KS_a (c := c) ρ (by omega) _⟩
  · refine RT_spot R hc (fun i i1 i2 i3 => by rw [stm_ne _ _ _ i2, stm_ne _ _ _ i1]) (fun b _ _ => by rw [stm_ne _ _ _ (by omega), stm_ne _ _ _ (by omega)]) (fun j hj => by rw [stm_row, upd_ne _ _ (by omega)]) ?_ ?_ ?_ ?_ (fun q => by rw [stm_row, upd_at] at q; exact absurd q (nI_neN (by omega) (by decide)))
    · rw [stm_ne _ _ _ (by omega), stm_row, stm_row]
      unfold CW
      simp (disch := omega) only [upd_ne, upd_at]
      exact ⟨w1, w2, trivial, w4, Or.inr w5', w6, w7⟩
    · intro b hb
      rw [stm_ne _ _ _ (by omega), stm_row, upd_ne _ _ (by omega)]; exact RT_cb R hc b hb
    · exact Or.inr (Or.inr ⟨E, by rw [stm_row, upd_at], hE, h5.1, h5.2⟩)
    · intro s h
      rw [stm_row, eon]
      refine on_inc (sp := spk (ρ a)) (fun s hs => RT_on R hs) hc (show (ρ a (49 + 11 * c)).toInt < 0 by rw [hs]; exact m2) (y := E) (spk_n (by rw [stm_row, upd_at]) (by omega)) (fun i hi => ?_) (by omega) s h
      show (stm ρ a (49 + 11 * c) (nI E) a (49 + 11 * i)).toInt = (ρ a (49 + 11 * i)).toInt
      rw [stm_row, upd_ne _ _ (by omega)]
  · refine ⟨fun i hi => by rw [stm_ne _ _ _ (by omega), stm_ne _ _ _ (by omega)], fun j hj => ?_, by rw [stm_ne _ _ _ (by omega), stm_ne _ _ _ (by omega)], by rw [stm_ne _ _ _ (by omega), stm_ne _ _ _ (by omega)]⟩
    by_cases e : j = c
    · subst e; rw [stm_ne _ _ _ (by omega), stm_row, upd_ne _ _ (by omega)]
    · rw [stm_ne _ _ _ (by omega), stm_ne _ _ _ (by omega)]
/-- the class's cart k after it perhaps came on -/
def AC (σ : Mem) (t i : Nat) (v1 : Int32) (f : Mem → Option Mem) : Option Mem := if (σ i 9) ≤ 0 then (if (σ i 6) < 0 then (if (σ i 6) < 0 then (f σ) else ((F_X6_goOn σ t v1 i).bind fun σ_9 => f σ_9)) else (if (σ i 7) = 0 then (if (σ i 6) < 0 then (f σ) else ((F_X6_goOn σ t v1 i).bind fun σ_12 => f σ_12)) else ((F_X6_backUp σ t i).bind fun σ_13 => f σ_13))) else (f (stm σ i 9 ((σ i 9) - 1)))
def AR (σ : Mem) (a1 : Nat) (x2 : Int32) : Option Mem := (F_X8_isOn σ a1 x2).bind fun r_3 => if r_3 = 0 then (some σ) else ((F_X8_get σ a1 x2 7).bind fun r_5 => if r_5 ≤ 0 then ((F_X8_get σ a1 x2 6).bind fun r_7 => if r_7 ≤ 0 then ((F_X8_goesOn σ a1 x2).bind fun σ_9 => some σ_9) else ((F_X8_goesBack σ a1 x2).bind fun σ_10 => some σ_10)) else ((F_X8_get σ a1 x2 7).bind fun r_11 => (F_X8_puts σ a1 x2 7 (r_11 - 1)).bind fun σ_12 => some σ_12))
theorem act_p (R : RT σ t (ρ a) m len n) (W : RW σ ρ t) (ha : a ≠ 91) {c : Nat} (hc : c < n) (f : Mem → Option Mem) : ∃ σ' ρ', AC σ t (22 * t + 15 + c) (nI c) f = f σ' ∧ AR ρ a (nI c) = some ρ' ∧ STP σ ρ σ' ρ' t a m len n := by
  have h7 := RT_7 R
  have c7 : c < 7 := by omega
  have h72 := RT_72 R (Nat.le_refl m)
  have C := RT_C R hc
  have Z : STP σ ρ σ ρ t a m len n := ⟨R, W, FrC_rf t σ, FrR_rf a ρ, KS_rf _⟩
  unfold AC AR
  rw [isOn_r c7, get7 c7, get6 c7, C.2.2.1]
  simp only [obs]
  have n2 : (-2 : Int32) < 0 := im2
  have n3 : (-3 : Int32) < 0 := im3
  rcases (RT_K R hc).2.2.2.2 with hs | hs | ⟨x, hs, hx, hup, hdn⟩
  · have w5 := C.2.2.2.2.1.resolve_left (by rw [hs]; decide)
    rw [hs, if_pos n2, if_pos n2, if_pos n2, Option.bind_some, if_pos rfl]
    have k : σ (22 * t + 15 + c) 9 ≤ 0 := by rw [w5, RT_z R hc hs]; decide
    rw [if_pos k]; exact ⟨_, _, rfl, rfl, Z⟩
  · rw [hs, if_pos n3, if_pos n3, if_pos n3, Option.bind_some, if_pos rfl]
    by_cases k : σ (22 * t + 15 + c) 9 ≤ 0
    · rw [if_pos k]; exact ⟨_, _, rfl, rfl, Z⟩
    · rw [if_neg k]; exact ⟨_, _, rfl, rfl, e_leftD R W hc hs _⟩
  · have w5 := C.2.2.2.2.1.resolve_left (by rw [hs]; exact nI_neN (by omega) (by decide))
    have n0 : ¬ nI x < 0 := nI_pos (by omega)
    rw [hs, if_neg n0, if_neg n0, if_neg n0, Option.bind_some, if_neg i10, w5]
    by_cases k : ρ a (51 + 11 * c) ≤ 0
    · rw [if_pos k, if_pos k]
      rcases CW_bk C with ⟨b1, -, b3⟩ | ⟨b1, b2, b3, -⟩
      · obtain ⟨σ', ρ', g1, g2, g3⟩ := goOn_p R W ha hc hs hx hup hdn
        rw [b3, if_pos rfl, if_pos b1, g1, g2, Option.bind_some, Option.bind_some]
        exact ⟨_, _, rfl, rfl, g3⟩
      · obtain ⟨σ', ρ', g1, g2, g3⟩ := back_p R W ha hc hs hx hup hdn b2
        rw [b3, if_neg i10, if_neg b1, g1, g2, Option.bind_some, Option.bind_some]
        exact ⟨_, _, rfl, rfl, g3⟩
    · rw [if_neg k, if_neg k, puts7 c7, Option.bind_some]
      have e := e_left R W ha hc (by rw [hs]; exact nI_neN (by omega) (by decide)) (by rw [hs]; exact nI_neN (by omega) (by decide))
      rw [w5] at e
      exact ⟨_, _, rfl, rfl, e⟩
end MI
end
section
/-! a minute of all carts; sums; the end -/
/-- cells of a row that are never changed by minutes nor by beginning anew -/
def st2 (j : Nat) : Prop := j < 2 ∨ (5 ≤ j ∧ j < 44) ∨ (44 ≤ j ∧ j < 121 ∧ ((j - 44) % 11 < 5 ∨ (j - 44) % 11 = 10))
def K2 (k k' : Nat → Int32) : Prop := ∀ j, st2 j → k' j = k j
theorem K2_rf (k : Nat → Int32) : K2 k k := fun _ _ => rfl
theorem K2_tr {k k' k'' : Nat → Int32} (h : K2 k k') (h' : K2 k' k'') : K2 k k'' := fun j hj => (h' j hj).trans (h j hj)
theorem K2_of {k k' : Nat → Int32} (h : KS k k') : K2 k k' := fun j hj => h j (by unfold st2 at hj; unfold sta; omega)
/-- the watched alone -/
def WW (σ ρ : Mem) (t : Nat) : Prop := σ (22 * t) 8 = -4 ∧ σ (22 * t) 9 = -4 ∨ σ (22 * t) 8 = ρ 91 17 ∧ σ (22 * t) 9 = ρ 91 18 ∧ σ (22 * t) 10 = ρ 91 19 ∧ (ρ 91 19 = -4 ∨ 0 ≤ ρ 91 19)
def MST (σ ρ σ' ρ' : Mem) (t a m : Nat) (len : Nat → Nat) (n : Nat) : Prop := RT σ' t (ρ' a) m len n ∧ WW σ' ρ' t ∧ FrC t σ σ' ∧ FrR a ρ ρ' ∧ K2 (ρ a) (ρ' a)
theorem MST_tr {σ ρ σ' ρ' σ'' ρ'' : Mem} {t a m n : Nat} {len : Nat → Nat} (h : MST σ ρ σ' ρ' t a m len n) (h' : MST σ' ρ' σ'' ρ'' t a m len n) : MST σ ρ σ'' ρ'' t a m len n := ⟨h'.1, h'.2.1, FrC_tr h.2.2.1 h'.2.2.1, FrR_tr h.2.2.2.1 h'.2.2.2.1, K2_tr h.2.2.2.2 h'.2.2.2.2⟩
section MN
variable {σ ρ : Mem} {t a m n : Nat} {len : Nat → Nat}
theorem comeOn_p (R : RT σ t (ρ a) m len n) (W : RW σ ρ t) (ha : a ≠ 91) (hm : 0 < m) {c : Nat} (hc : c < n) (hs : ρ a (49 + 11 * c) = -2) : ∃ σ' ρ', F_X6_comeOn σ t (22 * t + 15 + c) = some σ' ∧ ((F_X8_origin ρ a (nI c)).bind fun r_26 => F_X8_puts ρ a (nI c) 5 r_26) = some ρ' ∧ STP σ ρ σ' ρ' t a m len n := by
  have h7 := RT_7 R
  have c7 : c < 7 := by omega
  have h72 := RT_72 R (Nat.le_refl m)
  have hE : 0 < PS len m := by
    have := PS_lt (VS_b (RT_V R)) hm (Nat.le_refl m)
    omega
  have key : ∀ E, E ≤ PS len m → F_X6_ownEnd σ t (22 * t + 15 + c) = some (nI E) → F_X8_origin ρ a (nI c) = some (nI E) → ((ρ a (44 + 11 * c) = 1 → E < PS len m) ∧ (ρ a (44 + 11 * c) = -1 → 0 < E)) → ∃ σ' ρ', F_X6_comeOn σ t (22 * t + 15 + c) = some σ' ∧ ((F_X8_origin ρ a (nI c)).bind fun r_26 => F_X8_puts ρ a (nI c) 5 r_26) = some ρ' ∧ STP σ ρ σ' ρ' t a m len n := by
    intro E hE e1 e2 h5
    refine ⟨_, _, ?_, ?_, e_come R W ha hc hs hE h5⟩
    · unfold F_X6_comeOn
      rw [e1, Option.bind_some, isSpot_c R hE, Option.bind_some, if_neg i10, ix_nI (show E < 73 by omega) (by decide), Option.bind_some, Option.bind_some]
    · rw [e2, Option.bind_some, puts5 c7]
  rcases (RT_K R hc).1 with hw | hw
  · have e := ownEnd_up R hc hw
    exact key 0 (Nat.zero_le _) e.1 e.2 ⟨fun _ => hE, fun q => absurd (hw.symm.trans q) i1m1⟩
  · have e := ownEnd_dn R hc hw
    exact key (PS len m) (Nat.le_refl _) e.1 e.2 ⟨fun q => absurd (hw.symm.trans q) im11, fun _ => hE⟩
theorem acts_eq (ρ : Mem) (a : Nat) (c : Int32) : F_X8_acts ρ a c = (F_X8_get ρ a c 5).bind fun r_1 => if r_1 = (-2) then ((F_X8_get ρ a c 1).bind fun r_13 => (F_X8_get ρ a c 10).bind fun r_14 => if (ρ a 2) < (r_13 + r_14) then AR ρ a c else ((F_X8_origin ρ a c).bind fun r_26 => (F_X8_puts ρ a c 5 r_26).bind fun σ_27 => AR σ_27 a c)) else AR ρ a c := rfl
theorem pass_eq (t nn : Nat) (σ : Mem) (v1 : Int32) : F_X6_passMinute_7 t (nn + 1) σ v1 = if (σ (22 * t) 2) ≤ v1 then (if ((stm σ (22 * t) 3 ((σ (22 * t) 3) + 1)) (22 * t) 6) = 0 then (some (stm (stm σ (22 * t) 3 ((σ (22 * t) 3) + 1)) (22 * t) 4 (((stm σ (22 * t) 3 ((σ (22 * t) 3) + 1)) (22 * t) 4) + 1))) else (some (stm (stm σ (22 * t) 3 ((σ (22 * t) 3) + 1)) (22 * t) 4 0))) else ((ix 7 v1).bind fun k_4 => if (σ (22 * t + 15 + k_4) 6) = (-2) then (if (σ (22 * t) 3) < ((σ (22 * t + 15 + k_4) 2) + (σ (22 * t + 15 + k_4) 5)) then AC σ t (22 * t + 15 + k_4) v1 (fun s => F_X6_passMinute_7 t nn s (v1 + 1)) else ((F_X6_comeOn σ t (22 * t + 15 + k_4)).bind fun σ_23 => AC σ_23 t (22 * t + 15 + k_4) v1 (fun s => F_X6_passMinute_7 t nn s (v1 + 1)))) else AC σ t (22 * t + 15 + k_4) v1 (fun s => F_X6_passMinute_7 t nn s (v1 + 1))) := rfl
/-- one cart's turn -/
theorem turn_p (R : RT σ t (ρ a) m len n) (W : RW σ ρ t) (ha : a ≠ 91) (hm : 0 < m) {c nn : Nat} (hc : c < n) : ∃ σ' ρ', F_X6_passMinute_7 t (nn + 1) σ (nI c) = F_X6_passMinute_7 t nn σ' (nI (c + 1)) ∧ F_X8_acts ρ a (nI c) = some ρ' ∧ STP σ ρ σ' ρ' t a m len n := by
  have h7 := RT_7 R
  have c7 : c < 7 := by omega
  have C := RT_C R hc
  have jn : ¬ nI n ≤ nI c := nI_ge hc (by omega)
  rw [pass_eq, acts_eq, RT_2 R, if_neg jn, ix_nI c7 (by decide), Option.bind_some, C.2.2.1, C.2.1.2.1, C.2.1.2.2.2.2, RT_3 R, get5 c7, Option.bind_some, get1 c7, Option.bind_some, get10 c7, Option.bind_some, nI_1]
  by_cases k1 : ρ a (49 + 11 * c) = -2
  · rw [if_pos k1, if_pos k1]
    by_cases k2 : ρ a 2 < ρ a (45 + 11 * c) + ρ a (54 + 11 * c)
    · rw [if_pos k2, if_pos k2]
      obtain ⟨σ', ρ', g1, g2, g3⟩ := act_p R W ha hc (fun s => F_X6_passMinute_7 t nn s (nI (c + 1)))
      exact ⟨σ', ρ', g1, g2, g3⟩
    · rw [if_neg k2, if_neg k2]
      obtain ⟨σ1, ρ1, e1, e2, e3⟩ := comeOn_p R W ha hm hc k1
      obtain ⟨σ', ρ', g1, g2, g3⟩ := act_p e3.1 e3.2.1 ha hc (fun s => F_X6_passMinute_7 t nn s (nI (c + 1)))
      refine ⟨σ', ρ', ?_, ?_, STP_tr e3 g3⟩
      · rw [e1, Option.bind_some]; exact g1
      · have e4 : ((F_X8_origin ρ a (nI c)).bind fun r_26 => (F_X8_puts ρ a (nI c) 5 r_26).bind fun σ_27 => AR σ_27 a (nI c)) = (((F_X8_origin ρ a (nI c)).bind fun r_26 => F_X8_puts ρ a (nI c) 5 r_26).bind fun σ_27 => AR σ_27 a (nI c)) := by
          cases F_X8_origin ρ a (nI c) <;> rfl
        rw [e4, e2, Option.bind_some]; exact g2
  · rw [if_neg k1, if_neg k1]
    obtain ⟨σ', ρ', g1, g2, g3⟩ := act_p R W ha hc (fun s => F_X6_passMinute_7 t nn s (nI (c + 1)))
    exact ⟨σ', ρ', g1, g2, g3⟩
theorem turns_l (ha : a ≠ 91) (hm : 0 < m) : ∀ (d c nn nn2 : Nat) (σ ρ : Mem), RT σ t (ρ a) m len n → RW σ ρ t → c + d = n → d < nn → d < nn2 → ∃ σ' ρ' q q2, F_X6_passMinute_7 t nn σ (nI c) = F_X6_passMinute_7 t (q + 1) σ' (nI n) ∧ F_X8_minute_7 a nn2 ρ (nI c) = F_X8_minute_7 a (q2 + 1) ρ' (nI n) ∧ STP σ ρ σ' ρ' t a m len n := by
  intro d
  induction d with
  | zero =>
    intro c nn nn2 σ ρ R W e1 e2 e3
    obtain rfl : c = n := by omega
    obtain ⟨nn, rfl⟩ : ∃ j, nn = j + 1 := ⟨nn - 1, by omega⟩
    obtain ⟨nn2, rfl⟩ : ∃ j, nn2 = j + 1 := ⟨nn2 - 1, by omega⟩
    exact ⟨σ, ρ, nn, nn2, rfl, rfl, R, W, FrC_rf t σ, FrR_rf a ρ, KS_rf _⟩
  | succ d ih =>
    intro c nn nn2 σ ρ R W e1 e2 e3
    obtain ⟨nn, rfl⟩ : ∃ j, nn = j + 1 := ⟨nn - 1, by omega⟩
    obtain ⟨nn2, rfl⟩ : ∃ j, nn2 = j + 1 := ⟨nn2 - 1, by omega⟩
    have h7 := RT_7 R
    obtain ⟨σ1, ρ1, g1, g2, g3⟩ := turn_p (nn := nn) R W ha hm (show c < n by omega)
    obtain ⟨σ', ρ', q, q2, i1, i2, i3⟩ := ih (c + 1) nn nn2 σ1 ρ1 g3.1 g3.2.1 (by omega) (by omega) (by omega)
    refine ⟨σ', ρ', q, q2, g1.trans i1, ?_, STP_tr g3 i3⟩
    rw [F_X8_minute_7, RT_n R, if_neg (nI_ge (by omega) (by omega)), g2, Option.bind_some, nI_1]
    exact i2
theorem minute_p (R : RT σ t (ρ a) m len n) (W : WW σ ρ t) (ha : a ≠ 91) (hm : 0 < m) (hM : ∃ M : Nat, M ≤ 998 ∧ ρ a 2 = nI M) : ∃ σ' ρ', F_X6_passMinute σ t = some σ' ∧ F_X8_minute ρ a = some ρ' ∧ MST σ ρ σ' ρ' t a m len n ∧ ρ' a 2 = ρ a 2 + 1 := by
  have h7 := RT_7 R
  have ha' : (91 : Nat) ≠ a := fun q => ha q.symm
  have fu : n < FU := Nat.lt_of_le_of_lt h7 (by decide)
  have r0 : stm ρ 91 20 0 a = ρ a := stm_ne _ _ _ ha
  have R0 : RT (stm σ (22 * t) 6 0) t (stm ρ 91 20 0 a) m len n := by
    rw [r0]
    refine RT_fld R (fun i hi => stm_ne _ _ _ hi) (fun j _ _ _ => rfl) ?_ ?_ ?_ ?_ (RT_M R)
    · rw [stm_row, upd_ne _ _ (by omega)]
    · rw [stm_row, upd_ne _ _ (by omega)]; exact RT_3 R
    · rw [stm_row, upd_ne _ _ (by omega)]; exact RT_4 R
    · rw [stm_row, upd_ne _ _ (by omega)]; exact RT_5 R
  have W0 : RW (stm σ (22 * t) 6 0) (stm ρ 91 20 0) t := by
    unfold RW
    unfold WW at W
    rw [stm_row, stm_row]
    simp (disch := omega) only [upd_at, upd_ne]
    exact ⟨trivial, W⟩
  obtain ⟨σ1, ρ1, q, q2, g1, g2, g3⟩ := turns_l ha hm n 0 FU FU _ _ R0 W0 (by omega) fu fu
  have f0 : FrR a ρ (stm ρ 91 20 0) := ⟨fun i _ h2 => stm_ne _ _ _ h2, fun j _ h2 => by rw [stm_row, upd_ne _ _ h2]⟩
  have fc : FrC t σ σ1 := FrC_tr (FrC_t σ (by omega) (by omega)) g3.2.2.1
  have fr : FrR a ρ ρ1 := FrR_tr f0 g3.2.2.2.1
  have ks : KS (ρ a) (ρ1 a) := by have := g3.2.2.2.2; rw [r0] at this; exact this
  have R1 := g3.1
  have W1 := g3.2.1
  have e2 : ρ1 a 2 = ρ a 2 := ks 2 (by unfold sta; omega)
  obtain ⟨M, hM1, hM2⟩ := hM
  have c6 : stm σ1 (22 * t) 3 (σ1 (22 * t) 3 + 1) (22 * t) 6 = ρ1 91 20 := by rw [stm_row, upd_ne _ _ (by omega)]; exact W1.1
  have c4 : stm σ1 (22 * t) 3 (σ1 (22 * t) 3 + 1) (22 * t) 4 = ρ1 a 3 := by rw [stm_row, upd_ne _ _ (by omega)]; exact RT_4 R1
  have fin : ∀ v : Int32, MST σ ρ (stm (stm σ1 (22 * t) 3 (σ1 (22 * t) 3 + 1)) (22 * t) 4 v) (stm (stm ρ1 a 3 v) a 2 (stm ρ1 a 3 v a 2 + 1)) t a m len n ∧ stm (stm ρ1 a 3 v) a 2 (stm ρ1 a 3 v a 2 + 1) a 2 = ρ a 2 + 1 := by
    intro v
    have e3 : stm ρ1 a 3 v a 2 = ρ a 2 := by rw [stm_row, upd_ne _ _ (by omega)]; exact e2
    rw [e3]
    refine ⟨⟨?_, ?_, FrC_tr fc (FrC_tr (FrC_t _ (by omega) (by omega)) (FrC_t _ (by omega) (by omega))), FrR_tr fr (FrR_tr (FrR_a _ ha) (FrR_a _ ha)), fun j hj => ?_⟩, by rw [stm_row, upd_at]⟩
    · refine RT_fld R1 (fun i hi => by rw [stm_ne _ _ _ hi, stm_ne _ _ _ hi]) (fun j h2 h3 _ => by rw [stm_row, upd_ne _ _ h2, stm_row, upd_ne _ _ h3]) ?_ ?_ ?_ ?_ ?_
      · rw [stm_row, upd_ne _ _ (by omega), stm_row, upd_ne _ _ (by omega)]
      · rw [stm_row, upd_ne _ _ (by omega), stm_row, upd_at, stm_row, upd_at, RT_3 R1, e2]
      · rw [stm_row, upd_at, stm_row, upd_ne _ _ (by omega), stm_row, upd_at]
      · rw [stm_row, upd_ne _ _ (by omega), stm_row, upd_ne _ _ (by omega), stm_row, upd_ne _ _ (by omega), stm_row, upd_ne _ _ (by omega)]; exact RT_5 R1
      · exact ⟨M + 1, by omega, by rw [stm_row, upd_at, hM2, nI_1]⟩
    · have w := W1.2
      unfold WW
      rw [stm_row, upd_ne _ _ (by omega), stm_row, upd_ne _ _ (by omega), upd_ne _ _ (by omega), upd_ne _ _ (by omega), upd_ne _ _ (by omega), upd_ne _ _ (by omega), stm_ne _ _ _ ha', stm_ne _ _ _ ha']
      exact w
    · rw [stm_row, upd_ne _ _ (by unfold st2 at hj; omega), stm_row, upd_ne _ _ (by unfold st2 at hj; omega)]
      exact K2_of ks j hj
  by_cases k : ρ1 91 20 = 0
  · refine ⟨_, _, ?_, ?_, fin (ρ1 a 3 + 1)⟩
    · refine g1.trans ?_
      rw [F_X6_passMinute_7, RT_2 R1, if_pos (nI_le (Nat.le_refl _) (by omega)), c6, if_pos k, c4]
    · refine g2.trans ?_
      rw [F_X8_minute_7, RT_n R1, if_pos (nI_le (Nat.le_refl _) (by omega)), if_pos k]
  · refine ⟨_, _, ?_, ?_, fin 0⟩
    · refine g1.trans ?_
      rw [F_X6_passMinute_7, RT_2 R1, if_pos (nI_le (Nat.le_refl _) (by omega)), c6, if_neg k]
    · refine g2.trans ?_
      rw [F_X8_minute_7, RT_n R1, if_pos (nI_le (Nat.le_refl _) (by omega)), if_neg k]
theorem allBacked_l (R : RT σ t (ρ a) m len n) : ∀ (d j nn nn2 : Nat) (v : Int32), j + d = n → d < nn → d < nn2 → ∃ s, F_X6_allBacked_4 σ t nn (nI j) v = some s ∧ F_X8_allOf_4 ρ a 8 nn2 (nI j) v = some s := by
  have h7 := RT_7 R
  have hn := RT_n R
  intro d
  induction d with
  | zero =>
    intro j nn nn2 v e1 e2 e3
    obtain rfl : j = n := by omega
    obtain ⟨nn, rfl⟩ : ∃ j, nn = j + 1 := ⟨nn - 1, by omega⟩
    obtain ⟨nn2, rfl⟩ : ∃ j, nn2 = j + 1 := ⟨nn2 - 1, by omega⟩
    refine ⟨v, ?_, ?_⟩
    · rw [F_X6_allBacked_4, RT_2 R, if_pos (nI_le (Nat.le_refl _) (by omega))]
    · rw [F_X8_allOf_4, hn, if_pos (nI_le (Nat.le_refl _) (by omega))]
  | succ d ih =>
    intro j nn nn2 v e1 e2 e3
    obtain ⟨nn, rfl⟩ : ∃ j, nn = j + 1 := ⟨nn - 1, by omega⟩
    obtain ⟨nn2, rfl⟩ : ∃ j, nn2 = j + 1 := ⟨nn2 - 1, by omega⟩
    have jn : ¬ nI n ≤ nI j := nI_ge (by omega) (by omega)
    have C := RT_C R (show j < n by omega)
    rw [F_X6_allBacked_4, F_X8_allOf_4, RT_2 R, hn, if_neg jn, if_neg jn, ix_nI (by omega) (by decide), get8 (by omega), Option.bind_some, Option.bind_some, nI_1, C.2.2.2.2.2.1]
    exact ih (j + 1) nn nn2 _ (by omega) (by omega) (by omega)
theorem allBacked_p (R : RT σ t (ρ a) m len n) : ∃ s, F_X6_allBacked σ t = some s ∧ F_X8_allOf ρ a 8 = some s := by
  have fu : n < FU := Nat.lt_of_le_of_lt (RT_7 R) (by decide)
  exact allBacked_l R n 0 FU FU 0 (by omega) fu fu
theorem allWaited_l (R : RT σ t (ρ a) m len n) : ∀ (d j nn nn2 : Nat) (v : Int32), j + d = n → d < nn → d < nn2 → ∃ s, F_X6_allWaited_4 σ t nn (nI j) v = some s ∧ F_X8_allOf_4 ρ a 9 nn2 (nI j) v = some s := by
  have h7 := RT_7 R
  have hn := RT_n R
  intro d
  induction d with
  | zero =>
    intro j nn nn2 v e1 e2 e3
    obtain rfl : j = n := by omega
    obtain ⟨nn, rfl⟩ : ∃ j, nn = j + 1 := ⟨nn - 1, by omega⟩
    obtain ⟨nn2, rfl⟩ : ∃ j, nn2 = j + 1 := ⟨nn2 - 1, by omega⟩
    refine ⟨v, ?_, ?_⟩
    · rw [F_X6_allWaited_4, RT_2 R, if_pos (nI_le (Nat.le_refl _) (by omega))]
    · rw [F_X8_allOf_4, hn, if_pos (nI_le (Nat.le_refl _) (by omega))]
  | succ d ih =>
    intro j nn nn2 v e1 e2 e3
    obtain ⟨nn, rfl⟩ : ∃ j, nn = j + 1 := ⟨nn - 1, by omega⟩
    obtain ⟨nn2, rfl⟩ : ∃ j, nn2 = j + 1 := ⟨nn2 - 1, by omega⟩
    have jn : ¬ nI n ≤ nI j := nI_ge (by omega) (by omega)
    have C := RT_C R (show j < n by omega)
    rw [F_X6_allWaited_4, F_X8_allOf_4, RT_2 R, hn, if_neg jn, if_neg jn, ix_nI (by omega) (by decide), get9 (by omega), Option.bind_some, Option.bind_some, nI_1, C.2.2.2.2.2.2]
    exact ih (j + 1) nn nn2 _ (by omega) (by omega) (by omega)
theorem allWaited_p (R : RT σ t (ρ a) m len n) : ∃ s, F_X6_allWaited σ t = some s ∧ F_X8_allOf ρ a 9 = some s := by
  have fu : n < FU := Nat.lt_of_le_of_lt (RT_7 R) (by decide)
  exact allWaited_l R n 0 FU FU 0 (by omega) fu fu
theorem allWorth_l (R : RT σ t (ρ a) m len n) : ∀ (d j nn nn2 : Nat) (v : Int32), j + d = n → d < nn → d < nn2 → ∃ s, F_X6_allWorth_4 σ t nn (nI j) v = some s ∧ F_X8_allOf_4 ρ a 4 nn2 (nI j) v = some s := by
  have h7 := RT_7 R
  have hn := RT_n R
  intro d
  induction d with
  | zero =>
    intro j nn nn2 v e1 e2 e3
    obtain rfl : j = n := by omega
    obtain ⟨nn, rfl⟩ : ∃ j, nn = j + 1 := ⟨nn - 1, by omega⟩
    obtain ⟨nn2, rfl⟩ : ∃ j, nn2 = j + 1 := ⟨nn2 - 1, by omega⟩
    refine ⟨v, ?_, ?_⟩
    · rw [F_X6_allWorth_4, RT_2 R, if_pos (nI_le (Nat.le_refl _) (by omega))]
    · rw [F_X8_allOf_4, hn, if_pos (nI_le (Nat.le_refl _) (by omega))]
  | succ d ih =>
    intro j nn nn2 v e1 e2 e3
    obtain ⟨nn, rfl⟩ : ∃ j, nn = j + 1 := ⟨nn - 1, by omega⟩
    obtain ⟨nn2, rfl⟩ : ∃ j, nn2 = j + 1 := ⟨nn2 - 1, by omega⟩
    have jn : ¬ nI n ≤ nI j := nI_ge (by omega) (by omega)
    have C := RT_C R (show j < n by omega)
    rw [F_X6_allWorth_4, F_X8_allOf_4, RT_2 R, hn, if_neg jn, if_neg jn, ix_nI (by omega) (by decide), get4 (by omega), Option.bind_some, Option.bind_some, nI_1, C.2.1.2.2.2.1]
    exact ih (j + 1) nn nn2 _ (by omega) (by omega) (by omega)
theorem allWorth_p (R : RT σ t (ρ a) m len n) : ∃ s, F_X6_allWorth σ t = some s ∧ F_X8_allOf ρ a 4 = some s := by
  have fu : n < FU := Nat.lt_of_le_of_lt (RT_7 R) (by decide)
  exact allWorth_l R n 0 FU FU 0 (by omega) fu fu
end MN
end
section
/-! stands, ended, costs -/
section EN2
variable {σ ρ : Mem} {t a m n : Nat} {len : Nat → Nat}
theorem occ_0 {sp : Nat → Int} {x : Int} {n : Nat} : occ sp x n = 0 ↔ ∀ i, i < n → ¬ sp i = x := by
  induction n with
  | zero => exact ⟨fun _ i hi => absurd hi (Nat.not_lt_zero _), fun _ => rfl⟩
  | succ n ih =>
    simp only [occ]
    constructor
    · intro h i hi
      by_cases e : i = n
      · subst e
        intro q
        simp [q] at h
      · exact ih.mp (by omega) i (by omega)
    · intro h
      have h1 := ih.mpr (fun i hi => h i (by omega))
      have h2 := h n (by omega)
      simp [h1, h2]
theorem stands22_l (hn : ρ a 1 = nI n) (h7 : n ≤ 7) : ∀ (d j nn : Nat), j + d = n → d < nn → F_X8_stands_22 ρ a nn (nI j) = some (bI (decide (∀ i, i < n → j ≤ i → ¬ ρ a (49 + 11 * i) = -2))) := by
  intro d
  induction d with
  | zero =>
    intro j nn e1 e2
    obtain rfl : j = n := by omega
    obtain ⟨nn, rfl⟩ : ∃ j, nn = j + 1 := ⟨nn - 1, by omega⟩
    rw [F_X8_stands_22, hn, if_pos (nI_le (Nat.le_refl _) (by omega)), decide_eq_true (fun i h1 h2 => by omega), bI_t]
  | succ d ih =>
    intro j nn e1 e2
    obtain ⟨nn, rfl⟩ : ∃ j, nn = j + 1 := ⟨nn - 1, by omega⟩
    rw [F_X8_stands_22, hn, if_neg (nI_ge (by omega) (by omega)), get5 (by omega), Option.bind_some, nI_1, ih (j + 1) nn (by omega) (by omega)]
    by_cases k : ρ a (49 + 11 * j) = -2
    · rw [if_pos k, decide_eq_false (fun h => h j (by omega) (Nat.le_refl _) k), bI_f]
    · rw [if_neg k]
      congr 2
      refine decide_eq_decide.mpr ⟨fun h i h1 h2 => ?_, fun h i h1 h2 => h i h1 (by omega)⟩
      by_cases e : i = j
      · subst e; exact k
      · exact h i h1 (by omega)
theorem stands_p (R : RT σ t (ρ a) m len n) : ∃ b, F_X6_stands σ t = some (bI b) ∧ F_X8_stands ρ a = some (bI b) := by
  have h7 := RT_7 R
  have fu : n < FU := Nat.lt_of_le_of_lt h7 (by decide)
  have hn := RT_n R
  have o3 := occ_le (spk (ρ a)) (-3) n
  have m2 : (-2 : Int32).toInt = -2 := by decide
  have m3 : (-3 : Int32).toInt = -3 := by decide
  unfold F_X6_stands F_X8_stands
  rw [RT_4 R, howMany_c R, howMany_c R, doneOf_r hn h7, Option.bind_some, Option.bind_some, Option.bind_some, m2, m3, hn, RT_2 R, show (0 : Int32) = nI 0 from rfl, stands22_l hn h7 n 0 FU (by omega) fu]
  by_cases k1 : ρ a 3 < 60
  · rw [if_pos k1, if_pos k1]; exact ⟨false, rfl, rfl⟩
  · rw [if_neg k1, if_neg k1]
    have e2 : (∀ i, i < n → 0 ≤ i → ¬ ρ a (49 + 11 * i) = -2) ↔ occ (spk (ρ a)) (-2) n = 0 := by
      rw [occ_0]
      exact ⟨fun h i hi q => h i hi (Nat.zero_le _) (Int32.toInt_inj.mp (q.trans m2.symm)), fun h i hi _ q => h i hi (by show (ρ a (49 + 11 * i)).toInt = -2; rw [q, m2])⟩
    by_cases k2 : occ (spk (ρ a)) (-2) n = 0
    · rw [k2, if_pos rfl, decide_eq_true (e2.mpr k2), bI_t]
      by_cases k3 : n ≤ occ (spk (ρ a)) (-3) n
      · rw [if_pos (nI_le k3 (by omega)), if_pos (by rw [show occ (spk (ρ a)) (-3) n = n by omega])]; exact ⟨false, rfl, rfl⟩
      · rw [if_neg (nI_ge (by omega) (by omega)), if_neg (fun q => k3 (by have := nI_inj q (by omega) (by omega); omega))]; exact ⟨true, rfl, rfl⟩
    · have o2 := occ_le (spk (ρ a)) (-2) n
      rw [if_neg (fun q => k2 (nI_inj q (by omega) (by omega))), decide_eq_false (fun h => k2 (e2.mp h)), bI_f]
      refine ⟨false, rfl, ?_⟩
      by_cases k3 : nI (occ (spk (ρ a)) (-3) n) = nI n
      · rw [if_pos k3]; rfl
      · rw [if_neg k3]; rfl
theorem isEnded_p (R : RT σ t (ρ a) m len n) : ∃ b, F_X6_isEnded σ t = some (bI b) ∧ F_X8_isEnded ρ a = some (bI b) ∧ (b = false → ∃ M : Nat, M ≤ 998 ∧ ρ a 2 = nI M) := by
  have h7 := RT_7 R
  have hn := RT_n R
  obtain ⟨b, s1, s2⟩ := stands_p R
  obtain ⟨M, hM, eM⟩ := RT_M R
  have m3 : (-3 : Int32).toInt = -3 := by decide
  unfold F_X6_isEnded F_X8_isEnded
  rw [RT_3 R, howMany_c R, doneOf_r hn h7, s1, s2, Option.bind_some, Option.bind_some, Option.bind_some, Option.bind_some, m3, hn, RT_2 R, eM]
  by_cases k1 : 999 ≤ M
  · obtain rfl : M = 999 := by omega
    rw [if_pos (show (999 : Int32) ≤ nI 999 by decide)]
    refine ⟨true, rfl, ?_, nofun⟩
    by_cases k2 : nI (occ (spk (ρ a)) (-3) n) = nI n
    · rw [if_pos k2]; rfl
    · rw [if_neg k2]
      cases b with
      | false => rw [bI_f, if_pos rfl, if_pos (show nI 999 = (999 : Int32) from rfl)]; rfl
      | true => rw [bI_t, if_neg i10]
  · have k1' : ¬ (999 : Int32) ≤ nI M := nI_ge (a := M) (b := 999) (by omega) (by decide)
    have k3 : ¬ nI M = (999 : Int32) := fun q => by have := nI_inj (b := 999) q (by omega) (by decide); omega
    rw [if_neg k1', if_neg k3]
    by_cases k2 : nI (occ (spk (ρ a)) (-3) n) = nI n
    · rw [if_pos k2]; exact ⟨true, rfl, rfl, nofun⟩
    · rw [if_neg k2]
      cases b with
      | false => rw [bI_f, if_pos rfl]; exact ⟨false, rfl, rfl, fun _ => ⟨M, by omega, rfl⟩⟩
      | true => rw [bI_t, if_neg i10]; exact ⟨true, rfl, rfl, nofun⟩
/-- minutes till the end, and what they cost -/
theorem costs_l : ∀ (d nn nn2 i : Nat) (σ ρ : Mem), RT σ 2 (ρ 94) m len n → WW σ ρ 2 → 0 < m → (∃ M : Nat, M + d = 1000 ∧ i ≤ M ∧ ρ 94 2 = nI M) → d < nn → d < nn2 → ∃ σ' ρ' v, F_X7_costInMind_9 nn σ (nI i) = some (σ', v) ∧ F_X8_costs_0 nn2 ρ = some (ρ', v) ∧ MST σ ρ σ' ρ' 2 94 m len n := by
  intro d
  induction d with
  | zero =>
    intro nn nn2 i σ ρ R W hm hM _ _
    obtain ⟨M, h1, _, h2⟩ := hM
    obtain ⟨M', h3, h4⟩ := RT_M R
    have := nI_inj (h2.symm.trans h4) (by omega) (by omega)
    omega
  | succ d ih =>
    intro nn nn2 i σ ρ R W hm hM e1 e2
    obtain ⟨nn, rfl⟩ : ∃ j, nn = j + 1 := ⟨nn - 1, by omega⟩
    obtain ⟨nn2, rfl⟩ : ∃ j, nn2 = j + 1 := ⟨nn2 - 1, by omega⟩
    obtain ⟨M, h1, h1b, h2⟩ := hM
    obtain ⟨b, s1, s2, s3⟩ := isEnded_p R
    obtain ⟨bs, t1, t2⟩ := stands_p R
    obtain ⟨B, b1, b2⟩ := allBacked_p R
    obtain ⟨Wt, w1, w2⟩ := allWaited_p R
    have fin : ∃ v, ((F_X6_cost σ 2).bind fun r_3 => some (σ, r_3)) = some (σ, v) ∧ ((F_X8_allOf ρ 94 8).bind fun r_4 => (F_X8_allOf ρ 94 9).bind fun r_5 => (F_X8_stands ρ 94).bind fun r_6 => if r_6 = 0 then (some (ρ, ((r_4 + r_5) + 0))) else (some (ρ, ((r_4 + r_5) + 1000)))) = some (ρ, v) := by
      unfold F_X6_cost
      rw [b1, w1, t1, b2, w2, t2, Option.bind_some, Option.bind_some, Option.bind_some, Option.bind_some, Option.bind_some, Option.bind_some]
      cases bs with
      | false => rw [bI_f, if_pos rfl, if_pos rfl]; exact ⟨_, rfl, rfl⟩
      | true => rw [bI_t, if_neg i10, if_neg i10]; exact ⟨_, rfl, rfl⟩
    obtain ⟨v, f1, f2⟩ := fin
    have Z : MST σ ρ σ ρ 2 94 m len n := ⟨R, W, FrC_rf 2 σ, FrR_rf 94 ρ, K2_rf _⟩
    rw [F_X7_costInMind_9, F_X8_costs_0, s1, s2, Option.bind_some, Option.bind_some]
    cases b with
    | true =>
      rw [bI_t, if_neg i10, if_neg i10]
      refine ⟨σ, ρ, v, ?_, f2, Z⟩
      by_cases g : 999 ≤ nI i
      · rw [if_pos g]; exact f1
      · rw [if_neg g]; exact f1
    | false =>
      obtain ⟨M', h3, h4⟩ := s3 rfl
      have hMM := nI_inj (h2.symm.trans h4) (by omega) (by omega)
      obtain ⟨σ1, ρ1, g1, g2, g3, g4⟩ := minute_p R W (by decide) hm ⟨M', h3, h4⟩
      have g : ¬ (999 : Int32) ≤ nI i := nI_ge (a := i) (b := 999) (by omega) (by decide)
      rw [bI_f, if_pos rfl, if_pos rfl, if_neg g, g1, g2, Option.bind_some, Option.bind_some, nI_1]
      obtain ⟨σ', ρ', v', q1, q2, q3⟩ := ih nn nn2 (i + 1) σ1 ρ1 g3.1 g3.2.1 hm ⟨M + 1, by omega, by omega, by rw [g4, h2, nI_1]⟩ (by omega) (by omega)
      exact ⟨σ', ρ', v', q1, q2, MST_tr g3 q3⟩
/-- go's minutes -/
theorem go_l {x : Int32} : ∀ (d nn nn2 i : Nat) (σ ρ : Mem), RT σ 0 (ρ 92) m len n → WW σ ρ 0 → 0 < m → i + d = 201 → x ≤ 200 → d < nn → d < nn2 → ∃ σ' ρ' v, F_X7_go_36 x nn σ (nI i) = some (σ', v) ∧ F_X8_go_36 x nn2 ρ (nI i) = some (ρ', v) ∧ MST σ ρ σ' ρ' 0 92 m len n := by
  intro d
  induction d with
  | zero =>
    intro nn nn2 i σ ρ R W hm hi hx e1 e2
    obtain ⟨nn, rfl⟩ : ∃ j, nn = j + 1 := ⟨nn - 1, by omega⟩
    obtain ⟨nn2, rfl⟩ : ∃ j, nn2 = j + 1 := ⟨nn2 - 1, by omega⟩
    have Z : MST σ ρ σ ρ 0 92 m len n := ⟨R, W, FrC_rf 0 σ, FrR_rf 92 ρ, K2_rf _⟩
    obtain rfl : i = 201 := by omega
    have g : x ≤ nI 201 := by
      rw [i32_le] at hx ⊢
      have k1 : (200 : Int32).toInt = 200 := by decide
      have k2 : (nI 201).toInt = 201 := by decide
      omega
    rw [F_X7_go_36, F_X8_go_36, if_pos g, if_pos g]
    exact ⟨σ, ρ, ρ 92 2, by rw [show σ 0 3 = ρ 92 2 from RT_3 R], rfl, Z⟩
  | succ d ih =>
    intro nn nn2 i σ ρ R W hm hi hx e1 e2
    obtain ⟨nn, rfl⟩ : ∃ j, nn = j + 1 := ⟨nn - 1, by omega⟩
    obtain ⟨nn2, rfl⟩ : ∃ j, nn2 = j + 1 := ⟨nn2 - 1, by omega⟩
    have Z : MST σ ρ σ ρ 0 92 m len n := ⟨R, W, FrC_rf 0 σ, FrR_rf 92 ρ, K2_rf _⟩
    have e3 : σ 0 3 = ρ 92 2 := RT_3 R
    obtain ⟨b, s1, s2, s3⟩ := isEnded_p R
    rw [F_X7_go_36, F_X8_go_36, s1, s2, Option.bind_some, Option.bind_some, e3]
    by_cases g : x ≤ nI i
    · rw [if_pos g, if_pos g]; exact ⟨σ, ρ, _, rfl, rfl, Z⟩
    · rw [if_neg g, if_neg g]
      cases b with
      | true => rw [bI_t, if_neg i10, if_neg i10]; exact ⟨σ, ρ, _, rfl, rfl, Z⟩
      | false =>
        obtain ⟨σ1, ρ1, g1, g2, g3, -⟩ := minute_p R W (by decide) hm (s3 rfl)
        rw [bI_f, if_pos rfl, if_pos rfl, g1, g2, Option.bind_some, Option.bind_some, nI_1]
        obtain ⟨σ', ρ', v', q1, q2, q3⟩ := ih nn nn2 (i + 1) σ1 ρ1 g3.1 g3.2.1 hm (by omega) hx (by omega) (by omega)
        exact ⟨σ', ρ', v', q1, q2, MST_tr g3 q3⟩
end EN2
end
section
/-! copies of a traffic, beginning anew, the runs in mind: start-/
theorem rcpy_at (σ : Mem) {d s n b : Nat} (h : b < n) : rcpy σ d s n d b = σ s b := by simp [rcpy, h]
section CP
variable {σ ρ : Mem} {t u a m n : Nat} {k k' : Nat → Int32} {len : Nat → Nat}
theorem tcpy_1 (h : u ≠ t) {b : Nat} (hb : b < 2) : tcpy σ t u (22 * t + 1) b = σ (22 * u + 1) b := by
  simp only [tcpy, rdcpy]
  simp (disch := omega) only [rcpy_ne, stm_ne, ccpyK_ne, stm_row]
  have : b = 0 ∨ b = 1 := by omega
  rcases this with rfl | rfl
  · simp (disch := omega) only [upd_at, upd_ne]
  · simp (disch := omega) only [upd_at]
theorem tcpy_2 (h : u ≠ t) {b : Nat} (hb : b < 8) : tcpy σ t u (22 * t + 2) b = σ (22 * u + 2) b := by
  simp only [tcpy, rdcpy]
  simp (disch := omega) only [rcpy_ne, stm_ne, ccpyK_ne, rcpy_at]
theorem tcpy_3 (h : u ≠ t) {b : Nat} (hb : b < 8) : tcpy σ t u (22 * t + 3) b = σ (22 * u + 3) b := by
  simp only [tcpy, rdcpy]
  simp (disch := omega) only [rcpy_ne, stm_ne, ccpyK_ne, rcpy_at]
theorem tcpy_4 (h : u ≠ t) {b : Nat} (hb : b < 8) : tcpy σ t u (22 * t + 4) b = σ (22 * u + 4) b := by
  simp only [tcpy, rdcpy]
  simp (disch := omega) only [rcpy_ne, stm_ne, ccpyK_ne, rcpy_at]
theorem tcpy_5 (h : u ≠ t) {b : Nat} (hb : b < 9) : tcpy σ t u (22 * t + 5) b = σ (22 * u + 5) b := by
  simp only [tcpy, rdcpy]
  simp (disch := omega) only [rcpy_ne, stm_ne, ccpyK_ne, rcpy_at]
theorem tcpy_6 (h : u ≠ t) {b : Nat} (hb : b < 9) : tcpy σ t u (22 * t + 6) b = σ (22 * u + 6) b := by
  simp only [tcpy, rdcpy]
  simp (disch := omega) only [rcpy_ne, stm_ne, ccpyK_ne, rcpy_at]
theorem tcpy_7 (h : u ≠ t) {b : Nat} (hb : b < 73) : tcpy σ t u (22 * t + 7) b = σ (22 * u + 7) b := by
  simp only [tcpy, rdcpy]
  simp (disch := omega) only [rcpy_ne, stm_ne, ccpyK_ne, rcpy_at]
theorem tcpy_8 (h : u ≠ t) {b : Nat} (hb : b < 73) : tcpy σ t u (22 * t + 8) b = σ (22 * u + 8) b := by
  simp only [tcpy, rdcpy]
  simp (disch := omega) only [rcpy_ne, stm_ne, ccpyK_ne, rcpy_at]
theorem tcpy_9 (h : u ≠ t) {b : Nat} (hb : b < 73) : tcpy σ t u (22 * t + 9) b = σ (22 * u + 9) b := by
  simp only [tcpy, rdcpy]
  simp (disch := omega) only [rcpy_ne, stm_ne, ccpyK_ne, rcpy_at]
theorem tcpy_10 (h : u ≠ t) {b : Nat} (hb : b < 73) : tcpy σ t u (22 * t + 10) b = σ (22 * u + 10) b := by
  simp only [tcpy, rdcpy]
  simp (disch := omega) only [rcpy_ne, stm_ne, ccpyK_ne, rcpy_at]
theorem tcpy_11 (h : u ≠ t) {b : Nat} (hb : b < 3) : tcpy σ t u (22 * t + 11) b = σ (22 * u + 11) b := by
  simp only [tcpy, rdcpy]
  simp (disch := omega) only [rcpy_ne, stm_ne, ccpyK_ne, rcpy_at]
theorem tcpy_12 (h : u ≠ t) {b : Nat} (hb : b < 3) : tcpy σ t u (22 * t + 12) b = σ (22 * u + 12) b := by
  simp only [tcpy, rdcpy]
  simp (disch := omega) only [rcpy_ne, stm_ne, ccpyK_ne, rcpy_at]
theorem tcpy_14 (h : u ≠ t) {b : Nat} (hb : b < 73) : tcpy σ t u (22 * t + 14) b = σ (22 * u + 14) b := by
  simp only [tcpy, rdcpy]
  simp (disch := omega) only [rcpy_ne, stm_ne, ccpyK_ne, rcpy_at]
theorem tcpy_0 (h : u ≠ t) : tcpy σ t u (22 * t) = upd (upd (upd (upd (σ (22 * t)) 2 (σ (22 * u) 2)) 3 (σ (22 * u) 3)) 4 (σ (22 * u) 4)) 5 (σ (22 * u) 5) := by
  simp only [tcpy]
  rw [rcpy_ne _ _ _ (by omega), stm_row, stm_row, stm_row, stm_row, ccpyK_ne _ (by omega), rdcpy_ne _ (by omega)]
theorem tcpy_c (h : u ≠ t) {j b : Nat} (hj : j < 7) (hb : b < 12) : tcpy σ t u (22 * t + 15 + j) b = σ (22 * u + 15 + j) b := by
  simp only [tcpy]
  rw [rcpy_ne _ _ _ (by omega), stm_ne _ _ _ (by omega), stm_ne _ _ _ (by omega), stm_ne _ _ _ (by omega), stm_ne _ _ _ (by omega)]
  have e1 : 22 * t + 15 ≤ 22 * t + 15 + j ∧ 22 * t + 15 + j < 22 * t + 15 + 7 := by omega
  have e2 : 22 * t + 15 + j - 22 * t + 22 * u = 22 * u + 15 + j := by omega
  simp only [ccpyK, if_pos e1, if_pos hb, e2]
  rw [rdcpy_ne _ (by omega)]
/-- the copy holds what the first held -/
theorem RD_cpy (V : VS k m len) (D : RD σ u k m len) (h : u ≠ t) : RD (tcpy σ t u) t k m len := by
  have h8 := VS_8 V
  have h72 := fun p (hp : p ≤ m) => VS_72 V hp
  obtain ⟨d1, d2, d3, d4, d5, d6, d7, d8⟩ := D
  refine ⟨?_, ?_, fun p hp => ?_, fun p hp hp2 => ?_, fun p hp => ?_, fun p x hp hx hx2 => ?_, fun p x hp hx hx2 => ?_, fun v hv => ?_⟩
  · rw [tcpy_1 h (by omega)]; exact d1
  · rw [tcpy_1 h (by omega)]; exact d2
  · rw [tcpy_2 h (by omega), tcpy_3 h (by omega), tcpy_4 h (by omega)]; exact d3 p hp
  · rw [tcpy_5 h (by omega)]; exact d4 p hp hp2
  · have := h72 p hp
    rw [tcpy_6 h (by omega), tcpy_7 h (by omega), tcpy_9 h (by omega), tcpy_10 h (by omega)]; exact d5 p hp
  · have := h72 (p + 1) (by omega)
    rw [tcpy_7 h (by omega), tcpy_9 h (by omega), tcpy_10 h (by omega)]; exact d6 p x hp hx hx2
  · have := h72 (p + 1) (by omega)
    rw [tcpy_8 h (by omega)]; exact d7 p x hp hx hx2
  · rw [tcpy_11 h (by omega), tcpy_12 h (by omega)]; exact d8 v hv
theorem RT_cpy (R : RT σ u k m len n) (h : u ≠ t) : RT (tcpy σ t u) t k m len n := by
  have h7 := RT_7 R
  obtain ⟨V, hn, hM, K, D, ⟨f2, f3, f4, f5⟩, W, hb, hon, hz⟩ := R
  have e := tcpy_0 (σ := σ) h
  refine ⟨V, hn, hM, K, RD_cpy V D h, ⟨?_, ?_, ?_, ?_⟩, fun c hc => ?_, fun j hj b hb12 hb4 => ?_, fun s hs => ?_, hz⟩
  · rw [e]; simp (disch := omega) only [upd_at, upd_ne]; exact f2
  · rw [e]; simp (disch := omega) only [upd_at, upd_ne]; exact f3
  · rw [e]; simp (disch := omega) only [upd_at, upd_ne]; exact f4
  · rw [e]; simp (disch := omega) only [upd_at, upd_ne]; exact f5
  · have w := W c hc
    unfold CW at w ⊢
    have ec : ∀ b, b < 12 → tcpy σ t u (22 * t + 15 + c) b = σ (22 * u + 15 + c) b := fun b hb => tcpy_c h (by omega) hb
    rw [ec 0 (by omega), ec 1 (by omega), ec 2 (by omega), ec 3 (by omega), ec 4 (by omega), ec 5 (by omega), ec 6 (by omega), ec 7 (by omega), ec 8 (by omega), ec 9 (by omega), ec 10 (by omega), ec 11 (by omega)]
    exact w
  · rw [tcpy_c h hj hb12]; exact hb j hj b hb12 hb4
  · rw [tcpy_14 h hs]; exact hon s hs
/-- what minutes leave alone: road and carts as told -/
def KOS (k : Nat → Int32) (c : Nat) : Prop := (k (44 + 11 * c) = 1 ∨ k (44 + 11 * c) = -1) ∧ (k (46 + 11 * c) = 0 ∨ k (46 + 11 * c) = 1) ∧ (∃ b : Nat, b ≤ 3 ∧ k (47 + 11 * c) = nI b) ∧ (∃ w : Nat, w ≤ 99 ∧ k (48 + 11 * c) = nI w)
def CWS (r k : Nat → Int32) (c : Nat) : Prop := (k (44 + 11 * c) = 1 ∧ r 0 = 1 ∨ k (44 + 11 * c) = -1 ∧ r 0 = 0) ∧ (r 1 = k (46 + 11 * c) ∧ r 2 = k (45 + 11 * c) ∧ r 3 = k (47 + 11 * c) ∧ r 4 = k (48 + 11 * c) ∧ r 5 = k (54 + 11 * c))
def RTS (σ : Mem) (t : Nat) (k : Nat → Int32) (m : Nat) (len : Nat → Nat) (n : Nat) : Prop := VS k m len ∧ (k 1 = nI n ∧ n ≤ 7) ∧ (∀ c, c < n → KOS k c) ∧ RD σ t k m len ∧ σ (22 * t) 2 = k 1 ∧ (∀ c, c < n → CWS (σ (22 * t + 15 + c)) k c) ∧ cb01 σ t
theorem RTS_of (R : RT σ t k m len n) : RTS σ t k m len n := by
  obtain ⟨V, hn, hM, K, D, ⟨f2, -, -, -⟩, W, hb, -, -⟩ := R
  exact ⟨V, hn, fun c hc => ⟨(K c hc).1, (K c hc).2.1, (K c hc).2.2.1, (K c hc).2.2.2.1⟩, D, f2, fun c hc => ⟨(W c hc).1, (W c hc).2.1⟩, hb⟩
theorem RTS_cg (S : RTS σ t k m len n) (h : K2 k k') : RTS σ t k' m len n := by
  obtain ⟨V, ⟨hn, h7⟩, K, D, f2, W, hb⟩ := S
  have h8 := V.1.2
  have e : ∀ j, st2 j → k' j = k j := h
  refine ⟨VS_cg V (fun j hj _ _ _ _ => e j (by unfold st2; omega)), ⟨(e 1 (by unfold st2; omega)).trans hn, h7⟩, fun c hc => ?_, ?_, f2.trans (e 1 (by unfold st2; omega)).symm, fun c hc => ?_, hb⟩
  · have q := K c hc
    unfold KOS at q ⊢
    rw [e (44 + 11 * c) (by unfold st2; omega), e (46 + 11 * c) (by unfold st2; omega), e (47 + 11 * c) (by unfold st2; omega), e (48 + 11 * c) (by unfold st2; omega)]
    exact q
  · obtain ⟨d1, d2, d3, d4, d5, d6, d7, d8⟩ := D
    refine ⟨d1, d2, fun p hp => ?_, fun p hp hp2 => ?_, d5, d6, d7, fun v hv => ?_⟩
    · rw [e (14 + 3 * p) (by unfold st2; omega), e (15 + 3 * p) (by unfold st2; omega), e (16 + 3 * p) (by unfold st2; omega)]; exact d3 p hp
    · rw [e (5 + p) (by unfold st2; omega)]; exact d4 p hp hp2
    · rw [e (38 + 2 * v) (by unfold st2; omega), e (39 + 2 * v) (by unfold st2; omega)]; exact d8 v hv
  · have q := W c hc
    unfold CWS at q ⊢
    rw [e (44 + 11 * c) (by unfold st2; omega), e (45 + 11 * c) (by unfold st2; omega), e (46 + 11 * c) (by unfold st2; omega), e (47 + 11 * c) (by unfold st2; omega), e (48 + 11 * c) (by unfold st2; omega), e (54 + 11 * c) (by unfold st2; omega)]
    exact q
/-- a row whose carts are all ahead, at minute 0 -/
def BG (k : Nat → Int32) (n : Nat) : Prop := (k 2 = 0 ∧ k 3 = 0 ∧ k 4 = 0) ∧ ∀ c, c < n → k (49 + 11 * c) = -2 ∧ k (50 + 11 * c) = 0 ∧ k (51 + 11 * c) = 0 ∧ k (52 + 11 * c) = 0 ∧ k (53 + 11 * c) = 0
theorem tbeg_r {i : Nat} (h1 : 1 ≤ i) (h2 : i ≤ 13) : tbeg σ t (22 * t + i) = σ (22 * t + i) := by
  simp only [tbeg]
  rw [stm_ne _ _ _ (by omega), stm_ne _ _ _ (by omega), stm_ne _ _ _ (by omega), rz_ne _ _ (by omega), tbegK_ne _ (by omega)]
theorem tbeg_0 : tbeg σ t (22 * t) = upd (upd (upd (σ (22 * t)) 3 0) 4 0) 5 0 := by
  simp only [tbeg]
  rw [stm_row, stm_row, stm_row, rz_ne _ _ (by omega), tbegK_ne _ (by omega)]
theorem tbeg_on {s : Nat} (h : s < 73) : tbeg σ t (22 * t + 14) s = 0 := by
  simp only [tbeg]
  rw [stm_ne _ _ _ (by omega), stm_ne _ _ _ (by omega), stm_ne _ _ _ (by omega)]
  simp only [rz, if_true, if_pos h]
theorem tbeg_c {j : Nat} (h : j < 7) : tbeg σ t (22 * t + 15 + j) = rbeg (σ (22 * t + 15 + j)) := by
  simp only [tbeg]
  rw [stm_ne _ _ _ (by omega), stm_ne _ _ _ (by omega), stm_ne _ _ _ (by omega), rz_ne _ _ (by omega)]
  have e1 : 22 * t + 15 ≤ 22 * t + 15 + j ∧ 22 * t + 15 + j < 22 * t + 15 + 7 := by omega
  simp only [tbegK, if_pos e1]
theorem rbeg_lo (r : Nat → Int32) {b : Nat} (h : b < 6) : rbeg r b = r b := by
  have h1 : ¬ b = 6 := by omega
  have h2 : ¬ (7 ≤ b ∧ b ≤ 11) := by omega
  simp only [rbeg, if_neg h1, if_neg h2]
theorem rbeg_hi (r : Nat → Int32) {b : Nat} (h : 7 ≤ b) (h' : b ≤ 11) : rbeg r b = 0 := by
  have h1 : ¬ b = 6 := by omega
  simp only [rbeg, if_neg h1, if_pos (show 7 ≤ b ∧ b ≤ 11 from ⟨h, h'⟩)]
theorem tbeg_p (S : RTS σ t k m len n) (B : BG k n) : RT (tbeg σ t) t k m len n := by
  obtain ⟨V, ⟨hn, h7⟩, K, D, f2, W, hb⟩ := S
  obtain ⟨⟨b2, b3, b4⟩, bc⟩ := B
  have e0 := tbeg_0 (σ := σ) (t := t)
  have r := fun i (h1 : 1 ≤ i) (h2 : i ≤ 13) => tbeg_r (σ := σ) (t := t) h1 h2
  refine ⟨V, ⟨hn, h7⟩, ⟨0, by omega, b2⟩, fun c hc => ⟨(K c hc).1, (K c hc).2.1, (K c hc).2.2.1, (K c hc).2.2.2, Or.inl (bc c hc).1⟩, ?_, ⟨?_, ?_, ?_, ?_⟩, fun c hc => ?_, fun j hj b hb12 hb4 => ?_, fun s hs => ?_, fun c hc _ => (bc c hc).2.2.1⟩
  · obtain ⟨d1, d2, d3, d4, d5, d6, d7, d8⟩ := D
    refine ⟨?_, ?_, fun p hp => ?_, fun p hp hp2 => ?_, fun p hp => ?_, fun p x hp hx hx2 => ?_, fun p x hp hx hx2 => ?_, fun v hv => ?_⟩
    · rw [r 1 (by omega) (by omega)]; exact d1
    · rw [r 1 (by omega) (by omega)]; exact d2
    · rw [r 2 (by omega) (by omega), r 3 (by omega) (by omega), r 4 (by omega) (by omega)]; exact d3 p hp
    · rw [r 5 (by omega) (by omega)]; exact d4 p hp hp2
    · rw [r 6 (by omega) (by omega), r 7 (by omega) (by omega), r 9 (by omega) (by omega), r 10 (by omega) (by omega)]; exact d5 p hp
    · rw [r 7 (by omega) (by omega), r 9 (by omega) (by omega), r 10 (by omega) (by omega)]; exact d6 p x hp hx hx2
    · rw [r 8 (by omega) (by omega)]; exact d7 p x hp hx hx2
    · rw [r 11 (by omega) (by omega), r 12 (by omega) (by omega)]; exact d8 v hv
  · rw [e0]; simp (disch := omega) only [upd_ne]; exact f2
  · rw [e0, b2]; simp (disch := omega) only [upd_at, upd_ne]
  · rw [e0, b3]; simp (disch := omega) only [upd_at, upd_ne]
  · rw [e0, b4]; simp (disch := omega) only [upd_at]
  · obtain ⟨w1, w2⟩ := W c hc
    obtain ⟨c1, c2, c3, c4, c5⟩ := bc c hc
    rw [tbeg_c (by omega)]
    unfold CW
    rw [rbeg_lo _ (show 0 < 6 by omega), rbeg_lo _ (show 1 < 6 by omega), rbeg_lo _ (show 2 < 6 by omega), rbeg_lo _ (show 3 < 6 by omega), rbeg_lo _ (show 4 < 6 by omega), rbeg_lo _ (show 5 < 6 by omega), rbeg_hi _ (b := 7) (by omega) (by omega), rbeg_hi _ (b := 9) (by omega) (by omega), rbeg_hi _ (b := 10) (by omega) (by omega), rbeg_hi _ (b := 11) (by omega) (by omega)]
    exact ⟨w1, w2, c1.symm, Or.inl ⟨c2, rfl⟩, Or.inr c3.symm, c4.symm, c5.symm⟩
  · rw [tbeg_c hj]
    rcases hb4 with rfl | rfl | rfl | rfl
    · rw [rbeg_lo _ (by omega)]; exact hb j hj 0 (by omega) (by omega)
    · rw [rbeg_lo _ (by omega)]; exact hb j hj 1 (by omega) (by omega)
    · rw [rbeg_hi _ (by omega) (by omega)]; exact Or.inl rfl
    · rw [rbeg_hi _ (by omega) (by omega)]; exact Or.inl rfl
  · have h0 : occ (spk k) s n = 0 := by
      rw [occ_0]
      intro i hi q
      have : (k (49 + 11 * i)).toInt = s := q
      rw [(bc i hi).1, show (-2 : Int32).toInt = -2 by decide] at this
      omega
    rw [tbeg_on hs, h0]; rfl
theorem FrC_tbeg : FrC t σ (tbeg σ t) := by
  refine ⟨fun i hi => tbeg_ne σ hi, fun j hj => ?_, ?_, ?_⟩
  · rw [tbeg_c hj, rbeg_lo _ (by omega)]
  · rw [tbeg_0]; simp (disch := omega) only [upd_ne]
  · rw [tbeg_0]; simp (disch := omega) only [upd_ne]
theorem WW_cg {σ' ρ' : Mem} (h8 : σ' (22 * t) 8 = σ (22 * t) 8) (h9 : σ' (22 * t) 9 = σ (22 * t) 9) (h10 : σ' (22 * t) 10 = σ (22 * t) 10) (hr : ρ' 91 = ρ 91) (W : WW σ ρ t) : WW σ' ρ' t := by
  unfold WW at W ⊢
  rw [h8, h9, h10, hr]; exact W
/-- a run in mind, both sides -/
theorem run_p (S : RTS σ 2 (ρ 94) m len n) (B : BG (ρ 94) n) (W : WW σ ρ 2) (hm : 0 < m) : ∃ σ' ρ' v, F_X7_costInMind σ = some (σ', v) ∧ F_X8_costs ρ = some (ρ', v) ∧ MST σ ρ σ' ρ' 2 94 m len n := by
  have R := tbeg_p S B
  have e0 := tbeg_0 (σ := σ) (t := 2)
  have W2 : WW (tbeg σ 2) ρ 2 := WW_cg (by rw [e0]; simp (disch := omega) only [upd_ne]) (by rw [e0]; simp (disch := omega) only [upd_ne]) (by rw [e0]; simp (disch := omega) only [upd_ne]) rfl W
  obtain ⟨σ', ρ', v, q1, q2, q3⟩ := costs_l 1000 FU FU 0 (tbeg σ 2) ρ R W2 hm ⟨0, by omega, Nat.le_refl _, B.1.1⟩ (by decide) (by decide)
  exact ⟨σ', ρ', v, q1, q2, q3.1, q3.2.1, FrC_tr FrC_tbeg q3.2.2.1, q3.2.2.2.1, q3.2.2.2.2⟩
end CP
end
section
/-! the reference begins anew, opens a run -/
section OP
variable {ρ : Mem} {a n : Nat}
theorem puts_at {c f : Nat} {v : Int32} (h : c < 7) (hf : f < 11) : F_X8_puts ρ a (nI c) (nI f) v = some (stm ρ a (44 + f + 11 * c) v) := by
  unfold F_X8_puts
  rw [ixc h hf]; rfl
theorem begins_r {c : Nat} (h : c < 7) : ∃ ρ', F_X8_begins ρ a (nI c) = some ρ' ∧ (∀ i, i ≠ a → ρ' i = ρ i) ∧ (∀ j, ¬ (49 + 11 * c ≤ j ∧ j ≤ 53 + 11 * c) → ρ' a j = ρ a j) ∧ ρ' a (49 + 11 * c) = -2 ∧ ρ' a (50 + 11 * c) = 0 ∧ ρ' a (51 + 11 * c) = 0 ∧ ρ' a (52 + 11 * c) = 0 ∧ ρ' a (53 + 11 * c) = 0 := by
  have f9 : ∀ f : Nat, f ≤ 9 → ¬ (9 : Int32) < nI f := fun f hf => nI_nlt (b := f) (a := 9) hf (by decide)
  have st : ∀ (nn f : Nat) (ρ : Mem), f ≤ 9 → F_X8_begins_11 a (nI c) (nn + 1) ρ (nI f) = F_X8_begins_11 a (nI c) nn (stm ρ a (44 + f + 11 * c) 0) (nI (f + 1)) := by
    intro nn f ρ hf
    rw [F_X8_begins_11, if_neg (show ¬ (9 : Int32) < nI f from by
      intro q
      exact absurd q (nI_nlt (a := 9) (b := f) hf (by decide))), puts_at h (by omega), Option.bind_some, nI_1]
  refine ⟨stm (stm (stm (stm (stm ρ a (49 + 11 * c) (-2)) a (50 + 11 * c) 0) a (51 + 11 * c) 0) a (52 + 11 * c) 0) a (53 + 11 * c) 0, ?_, fun i hi => by rw [stm_ne _ _ _ hi, stm_ne _ _ _ hi, stm_ne _ _ _ hi, stm_ne _ _ _ hi, stm_ne _ _ _ hi], fun j hj => ?_, ?_, ?_, ?_, ?_, ?_⟩
  · unfold F_X8_begins
    rw [puts5 h, Option.bind_some, show FU = 1995 + 1 + 1 + 1 + 1 + 1 from rfl, show (6 : Int32) = nI 6 from rfl, st _ 6 _ (by omega), st _ 7 _ (by omega), st _ 8 _ (by omega), st _ 9 _ (by omega), F_X8_begins_11, if_pos (show (9 : Int32) < nI (9 + 1) by decide)]
  · simp only [stm_row]
    simp (disch := omega) only [upd_ne]
  · simp only [stm_row]
    simp (disch := omega) only [upd_ne, upd_at]
  · simp only [stm_row]
    simp (disch := omega) only [upd_ne, upd_at]
  · simp only [stm_row]
    simp (disch := omega) only [upd_ne, upd_at]
  · simp only [stm_row]
    simp (disch := omega) only [upd_ne, upd_at]
  · simp only [stm_row]
    simp (disch := omega) only [upd_at]
theorem anews_l (h7 : n ≤ 7) : ∀ (d j nn : Nat) (ρ : Mem), ρ a 1 = nI n → j + d = n → d < nn → ∃ ρ', F_X8_anews_14 a nn ρ (nI j) = some ρ' ∧ (∀ i, i ≠ a → ρ' i = ρ i) ∧ (∀ q, (∀ c, j ≤ c → c < n → ¬ (49 + 11 * c ≤ q ∧ q ≤ 53 + 11 * c)) → ρ' a q = ρ a q) ∧ ∀ c, j ≤ c → c < n → ρ' a (49 + 11 * c) = -2 ∧ ρ' a (50 + 11 * c) = 0 ∧ ρ' a (51 + 11 * c) = 0 ∧ ρ' a (52 + 11 * c) = 0 ∧ ρ' a (53 + 11 * c) = 0 := by
  intro d
  induction d with
  | zero =>
    intro j nn ρ hn e1 e2
    obtain rfl : j = n := by omega
    obtain ⟨nn, rfl⟩ : ∃ j, nn = j + 1 := ⟨nn - 1, by omega⟩
    rw [F_X8_anews_14, hn, if_pos (nI_le (Nat.le_refl _) (by omega))]
    exact ⟨ρ, rfl, fun _ _ => rfl, fun _ _ => rfl, fun c h1 h2 => absurd h1 (by omega)⟩
  | succ d ih =>
    intro j nn ρ hn e1 e2
    obtain ⟨nn, rfl⟩ : ∃ j, nn = j + 1 := ⟨nn - 1, by omega⟩
    obtain ⟨ρ1, b1, b2, b3, b4⟩ := begins_r (ρ := ρ) (a := a) (show j < 7 by omega)
    obtain ⟨ρ', i1, i2, i3, i4⟩ := ih (j + 1) nn ρ1 ((b3 1 (by omega)).trans hn) (by omega) (by omega)
    rw [F_X8_anews_14, hn, if_neg (nI_ge (by omega) (by omega)), b1, Option.bind_some, nI_1]
    refine ⟨ρ', i1, fun i hi => (i2 i hi).trans (b2 i hi), fun q hq => ?_, fun c h1 h2 => ?_⟩
    · rw [i3 q (fun c h1 h2 => hq c (by omega) h2), b3 q (hq j (Nat.le_refl _) (by omega))]
    · by_cases e : c = j
      · subst e
        rw [i3 (49 + 11 * c) (fun c' h1 h2 => by omega), i3 (50 + 11 * c) (fun c' h1 h2 => by omega), i3 (51 + 11 * c) (fun c' h1 h2 => by omega), i3 (52 + 11 * c) (fun c' h1 h2 => by omega), i3 (53 + 11 * c) (fun c' h1 h2 => by omega)]
        exact b4
      · exact i4 c (by omega) h2
theorem anews_r (hn : ρ a 1 = nI n) (h7 : n ≤ 7) : ∃ ρ', F_X8_anews ρ a = some ρ' ∧ (∀ i, i ≠ a → ρ' i = ρ i) ∧ K2 (ρ a) (ρ' a) ∧ BG (ρ' a) n := by
  have e : ∀ j, j ≠ 2 → j ≠ 3 → j ≠ 4 → stm (stm (stm ρ a 2 0) a 3 0) a 4 0 a j = ρ a j := fun j h2 h3 h4 => by rw [stm_row, upd_ne _ _ h4, stm_row, upd_ne _ _ h3, stm_row, upd_ne _ _ h2]
  obtain ⟨ρ', i1, i2, i3, i4⟩ := anews_l (a := a) h7 n 0 FU (stm (stm (stm ρ a 2 0) a 3 0) a 4 0) ((e 1 (by omega) (by omega) (by omega)).trans hn) (by omega) (Nat.lt_of_le_of_lt h7 (by decide))
  refine ⟨ρ', i1, fun i hi => by rw [i2 i hi, stm_ne _ _ _ hi, stm_ne _ _ _ hi, stm_ne _ _ _ hi], fun j hj => ?_, ⟨?_, ?_, ?_⟩, fun c hc => i4 c (Nat.zero_le _) hc⟩
  · rw [i3 j (fun c _ hc => by unfold st2 at hj; omega)]
    exact e j (by unfold st2 at hj; omega) (by unfold st2 at hj; omega) (by unfold st2 at hj; omega)
  · rw [i3 2 (fun c _ _ => by omega)]
    simp only [stm_row]
    simp (disch := omega) only [upd_ne, upd_at]
  · rw [i3 3 (fun c _ _ => by omega)]
    simp only [stm_row]
    simp (disch := omega) only [upd_ne, upd_at]
  · rw [i3 4 (fun c _ _ => by omega)]
    simp only [stm_row, upd_at]
/-- what opening a run makes of the reference's cells -/
def OPD (ρ ρ' : Mem) (n : Nat) : Prop := (∀ i, i ≠ 94 → i ≠ 91 → ρ' i = ρ i) ∧ (∀ j, j ≠ 17 → j ≠ 18 → j ≠ 19 → ρ' 91 j = ρ 91 j) ∧ (ρ' 91 17 = -4 ∧ ρ' 91 18 = -4 ∧ ρ' 91 19 = -4) ∧ K2 (ρ 92) (ρ' 94) ∧ BG (ρ' 94) n
theorem opens_l (h7 : n ≤ 7) : ∀ (d j nn : Nat) (ρ : Mem), ρ 92 1 = nI n → j + d = 121 → d < nn → (∀ q, q < j → ρ 94 q = ρ 92 q) → ∃ ρ', F_X8_opens_2 nn ρ (nI j) = some ρ' ∧ OPD ρ ρ' n := by
  intro d
  induction d with
  | zero =>
    intro j nn ρ hn e1 e2 hq
    obtain rfl : j = 121 := by omega
    obtain ⟨nn, rfl⟩ : ∃ j, nn = j + 1 := ⟨nn - 1, by omega⟩
    obtain ⟨ρ1, g1, g2, g3, g4⟩ := anews_r (ρ := ρ) (a := 94) (n := n) ((hq 1 (by omega)).trans hn) h7
    rw [F_X8_opens_2, if_pos (show (121 : Int32) ≤ nI 121 by decide), g1, Option.bind_some]
    refine ⟨_, rfl, fun i h1 h2 => ?_, fun j h1 h2 h3 => ?_, ⟨?_, ?_, ?_⟩, ?_, ?_⟩
    · rw [stm_ne _ _ _ h2, stm_ne _ _ _ h2, stm_ne _ _ _ h2]; exact g2 i h1
    · simp only [stm_row]
      simp (disch := omega) only [upd_ne]
      rw [g2 91 (by omega)]
    · simp only [stm_row]
      simp (disch := omega) only [upd_ne, upd_at]
    · simp only [stm_row, upd_at]
    · simp only [stm_row]
      simp (disch := omega) only [upd_ne, upd_at]
    · rw [stm_ne _ _ _ (by omega), stm_ne _ _ _ (by omega), stm_ne _ _ _ (by omega)]
      exact K2_tr (fun j hj => hq j (by unfold st2 at hj; omega)) g3
    · rw [stm_ne _ _ _ (by omega), stm_ne _ _ _ (by omega), stm_ne _ _ _ (by omega)]
      exact g4
  | succ d ih =>
    intro j nn ρ hn e1 e2 hq
    obtain ⟨nn, rfl⟩ : ∃ j, nn = j + 1 := ⟨nn - 1, by omega⟩
    have e92 : stm ρ 94 j (ρ 92 j) 92 = ρ 92 := stm_ne _ _ _ (by omega)
    obtain ⟨ρ', i1, i2, i3, i4, i5, i6⟩ := ih (j + 1) nn (stm ρ 94 j (ρ 92 j)) (by rw [e92]; exact hn) (by omega) (by omega) (fun q hq2 => by
      rw [e92, stm_row]
      by_cases e : q = j
      · subst e; rw [upd_at]
      · rw [upd_ne _ _ e]; exact hq q (by omega))
    rw [F_X8_opens_2, if_neg (show ¬ (121 : Int32) ≤ nI j from nI_ge (a := j) (b := 121) (by omega) (by decide)), ix_nI (by omega) (by decide), Option.bind_some, Option.bind_some, nI_1]
    refine ⟨ρ', i1, fun i h1 h2 => by rw [i2 i h1 h2, stm_ne _ _ _ h1], fun q h1 h2 h3 => by rw [i3 q h1 h2 h3, stm_ne _ _ _ (by omega)], i4, by rw [e92] at i5; exact i5, i6⟩
theorem opens_r (hn : ρ 92 1 = nI n) (h7 : n ≤ 7) : ∃ ρ', F_X8_opens ρ = some ρ' ∧ OPD ρ ρ' n :=
  opens_l h7 121 0 FU ρ hn (by omega) (by decide) (fun q hq => absurd hq (Nat.not_lt_zero _))
end OP
end
section
/-! what holds between calls; frames -/
def LZ (σ : Mem) (t : Nat) : Prop := ∀ j, j < 7 → σ (22 * t + 15 + j) 5 = 0
def SH (σ ρ : Mem) : Prop := ∀ d, d < 8 → (σ (68 + d) 0 = ρ 96 d ∧ (ρ 96 d = 0 ∨ ρ 96 d = 1 ∨ ρ 96 d = 2)) ∧ (ρ 96 d = 1 → σ (68 + d) 1 = ρ 100 d ∧ σ (68 + d) 2 = ρ 101 d ∧ (∃ q : Nat, q < 8 ∧ ρ 100 d = nI q) ∧ (∃ f : Nat, f ≤ 9 ∧ ρ 101 d = nI f)) ∧ σ (68 + d) 3 = ρ 97 d ∧ (σ (68 + d) 4 = ρ 98 d ∧ ∃ z : Nat, z ≤ 100 ∧ ρ 98 d = nI z) ∧ ∀ i, i < 100 → σ (76 + d) i = ρ 99 (100 * d + i)
def IMG (σ ρ : Mem) : Prop := (σ 66 3 = 0 ∧ ρ 91 10 = 0) ∨ (σ 66 3 = 1 ∧ ρ 91 10 = 1 ∧ ∃ (m : Nat) (len : Nat → Nat) (n : Nat), RT σ 1 (ρ 93) m len n ∧ LZ σ 1)
def WN (σ : Mem) : Prop := (σ 0 8 = -4 ∧ σ 0 9 = -4) ∧ (σ 44 8 = -4 ∧ σ 44 9 = -4)
def INV (σ ρ : Mem) : Prop := (∃ (m : Nat) (len : Nat → Nat) (n : Nat), RT σ 0 (ρ 92) m len n) ∧ LZ σ 0 ∧ WN σ ∧ IMG σ ρ ∧ SH σ ρ
def CF (σ σ' : Mem) : Prop := ∀ i, 91 ≤ i → σ' i = σ i
def RF (ρ ρ' : Mem) : Prop := ∀ i, i < 91 → ρ' i = ρ i
section IV
variable {σ σ' ρ ρ' : Mem} {t m n : Nat} {k : Nat → Int32} {len : Nat → Nat}
theorem RT_cc (R : RT σ t k m len n) (h : ∀ i, 22 * t ≤ i → i < 22 * t + 22 → σ' i = σ i) : RT σ' t k m len n := by
  have h7 := RT_7 R
  obtain ⟨V, hn, hM, K, D, f, W, hb, hon, hz⟩ := R
  refine ⟨V, hn, hM, K, ?_, by rw [h (22 * t) (by omega) (by omega)]; exact f, fun c hc => by rw [h (22 * t + 15 + c) (by omega) (by omega)]; exact W c hc, fun j hj b h1 h2 => by rw [h (22 * t + 15 + j) (by omega) (by omega)]; exact hb j hj b h1 h2, fun s hs => by rw [h (22 * t + 14) (by omega) (by omega)]; exact hon s hs, hz⟩
  unfold RD at D ⊢
  rw [h (22 * t + 1) (by omega) (by omega), h (22 * t + 2) (by omega) (by omega), h (22 * t + 3) (by omega) (by omega), h (22 * t + 4) (by omega) (by omega), h (22 * t + 5) (by omega) (by omega), h (22 * t + 6) (by omega) (by omega), h (22 * t + 7) (by omega) (by omega), h (22 * t + 8) (by omega) (by omega), h (22 * t + 9) (by omega) (by omega), h (22 * t + 10) (by omega) (by omega), h (22 * t + 11) (by omega) (by omega), h (22 * t + 12) (by omega) (by omega)]
  exact D
theorem LZ_cc (L : LZ σ t) (h : ∀ i, 22 * t ≤ i → i < 22 * t + 22 → σ' i = σ i) : LZ σ' t := fun j hj => by rw [h _ (by omega) (by omega)]; exact L j hj
theorem IMG_cc (I : IMG σ ρ) (h : ∀ i, 22 ≤ i → i < 44 → σ' i = σ i) (h66 : σ' 66 = σ 66) (h93 : ρ' 93 = ρ 93) (h91 : ρ' 91 10 = ρ 91 10) : IMG σ' ρ' := by
  rcases I with ⟨i1, i2⟩ | ⟨i1, i2, m, len, n, R, L⟩
  · exact Or.inl ⟨by rw [h66]; exact i1, h91.trans i2⟩
  · refine Or.inr ⟨by rw [h66]; exact i1, h91.trans i2, m, len, n, ?_, LZ_cc L (fun i h1 h2 => h i (by omega) (by omega))⟩
    rw [h93]
    exact RT_cc R (fun i h1 h2 => h i (by omega) (by omega))
theorem SH_cc (S : SH σ ρ) (h : ∀ i, 68 ≤ i → i < 84 → σ' i = σ i) (hr : ∀ i, 96 ≤ i → i ≤ 101 → ρ' i = ρ i) : SH σ' ρ' := by
  intro d hd
  have s := S d hd
  rw [h (68 + d) (by omega) (by omega), h (76 + d) (by omega) (by omega), hr 96 (by omega) (by omega), hr 97 (by omega) (by omega), hr 98 (by omega) (by omega), hr 99 (by omega) (by omega), hr 100 (by omega) (by omega), hr 101 (by omega) (by omega)]
  exact s
theorem INV_cc (I : INV σ ρ) (h : ∀ i, i < 91 → σ' i = σ i) (hr : ∀ i, 91 ≤ i → ρ' i = ρ i) : INV σ' ρ' := by
  obtain ⟨⟨m, len, n, R⟩, L, ⟨⟨w1, w2⟩, w3, w4⟩, G, S⟩ := I
  refine ⟨⟨m, len, n, ?_⟩, LZ_cc L (fun i _ h2 => h i (by omega)), ?_, IMG_cc G (fun i _ h2 => h i (by omega)) (h 66 (by omega)) (hr 93 (by omega)) (by rw [hr 91 (by omega)]), SH_cc S (fun i _ h2 => h i (by omega)) (fun i h1 _ => hr i (by omega))⟩
  · rw [hr 92 (by omega)]
    exact RT_cc R (fun i _ h2 => h i (by omega))
  · unfold WN
    rw [h 0 (by omega), h 44 (by omega)]
    exact ⟨⟨w1, w2⟩, w3, w4⟩
/-- a call of each side: what it is to be right -/
def CALL (f g : Mem → Option (Mem × Int32)) : Prop := ∀ σ ρ, INV σ ρ → ∃ σ' r ρ', f σ = some (σ', r) ∧ g ρ = some (ρ', r) ∧ INV σ' ρ' ∧ CF σ σ' ∧ RF ρ ρ'
def CALR (f g : Mem → Option Int32) : Prop := ∀ σ ρ, INV σ ρ → ∃ r, f σ = some r ∧ g ρ = some r
theorem CALL_one {f g : Mem → Option (Mem × Int32)} (h : CALL f g) {σ : Mem} (I : INV σ σ) : ∃ σ' r ρ', f σ = some (σ', r) ∧ g σ' = some (ρ', r) ∧ INV ρ' ρ' := by
  obtain ⟨σ1, r1, ρ1, a1, a2, a3, a4, a5⟩ := h σ σ I
  obtain ⟨σ2, r2, ρ2, b1, b2, b3, b4, b5⟩ := h σ σ1 (INV_cc I (fun _ _ => rfl) (fun i hi => a4 i hi))
  have e := a1.symm.trans b1
  have e1 : σ1 = σ2 := congrArg Prod.fst (Option.some.inj e)
  have e2 : r1 = r2 := congrArg Prod.snd (Option.some.inj e)
  subst e1 e2
  exact ⟨σ1, r1, ρ2, a1, b2, INV_cc b3 (fun i hi => b5 i hi) (fun _ _ => rfl)⟩
theorem CALR_one {f g : Mem → Option Int32} (h : CALR f g) {σ : Mem} (I : INV σ σ) : ∃ r, f σ = some r ∧ g σ = some r := h σ σ I
/-- an int against a range -/
theorem rng {x : Int32} (N : Nat) (hN : N ≤ 1000) : ((x < 0 ∨ nI N ≤ x) ∧ (x < 0 ∨ nI N - 1 < x) ∧ (¬ x < 0 → ¬ x < nI N)) ∨ ∃ j, j < N ∧ x = nI j ∧ ¬ nI j < 0 ∧ nI j < nI N ∧ ¬ nI N ≤ nI j ∧ ¬ nI N - 1 < nI j := by
  have z0 : (0 : Int32).toInt = 0 := by decide
  have z1 : (1 : Int32).toInt = 1 := by decide
  have hs : (nI N - 1).toInt = (N : Int) - 1 := by
    rw [t_sub (by rw [nI_toInt (by omega), z1]; omega) (by rw [nI_toInt (by omega), z1]; omega), nI_toInt (by omega), z1]
  by_cases h : 0 ≤ x.toInt ∧ x.toInt < N
  · right
    refine ⟨x.toInt.toNat, by omega, nI_i h.1 (by omega), nI_pos (by omega), nI_lt (by omega) (by omega), nI_ge (by omega) (by omega), fun q => ?_⟩
    rw [i32_lt, hs, nI_toInt (by omega)] at q
    omega
  · left
    simp only [i32_lt, i32_le, z0, hs, nI_toInt (show N < 2 ^ 31 by omega)]
    omega
theorem isCart_r (x : Int32) : F_X8_isCart ρ x = if x < 0 ∨ ((ρ 92 1) - 1) < x then some 0 else some 1 := rfl
/-- a cart told by an int -/
theorem cart_x (R : RT σ 0 (ρ 92) m len n) (x : Int32) : ((x < 0 ∨ σ (22 * 0) 2 ≤ x ∨ 7 ≤ x) ∧ F_X8_isCart ρ x = some 0) ∨ ∃ c, c < n ∧ x = nI c ∧ ¬ (nI c < 0 ∨ σ (22 * 0) 2 ≤ nI c ∨ 7 ≤ nI c) ∧ F_X8_isCart ρ (nI c) = some 1 := by
  have h7 := RT_7 R
  rw [RT_2 R, isCart_r, RT_n R]
  rcases rng (x := x) n (by omega) with ⟨h1, h2, -⟩ | ⟨c, hc, e, h1, h2, h3, h4⟩
  · left
    refine ⟨h1.imp id Or.inl, if_pos h2⟩
  · right
    refine ⟨c, hc, e, nocart rfl (by omega) h2, ?_⟩
    rw [isCart_r, RT_n R, if_neg (fun q => q.elim h1 h4)]
theorem shelf_x (x : Int32) : ((x < 0 ∨ 8 ≤ x) ∧ F_X8_isShelf ρ x = some 0) ∨ ∃ d, d < 8 ∧ x = nI d ∧ ¬ (nI d < 0 ∨ 8 ≤ nI d) ∧ F_X8_isShelf ρ (nI d) = some 1 := by
  unfold F_X8_isShelf
  rcases rng (x := x) 8 (by omega) with ⟨h1, h2, -⟩ | ⟨c, hc, e, h1, h2, h3, h4⟩
  · exact Or.inl ⟨h1, if_pos h2⟩
  · exact Or.inr ⟨c, hc, e, fun q => q.elim h1 h3, if_neg (fun q => q.elim h1 h4)⟩
theorem vill_x (x : Int32) : ((¬ x < 0 → ¬ x < 3) ∧ F_X8_isVillage ρ x = some 0) ∨ ∃ d, d < 3 ∧ x = nI d ∧ ¬ nI d < 0 ∧ nI d < 3 ∧ F_X8_isVillage ρ (nI d) = some 1 := by
  unfold F_X8_isVillage
  rcases rng (x := x) 3 (by omega) with ⟨h1, h2, h3⟩ | ⟨c, hc, e, h1, h2, h3, h4⟩
  · exact Or.inl ⟨h3, if_pos h2⟩
  · exact Or.inr ⟨c, hc, e, h1, h2, if_neg (fun q => q.elim h1 h4)⟩
end IV
end
