/-! the reference row, its leaves -/
theorem ix14 {p : Nat} (h : p < 9) : ix 121 (14 + (3 * nI p)) = some (14 + 3 * p) := by
  rw [ql14, ql3, nI_mul, nI_add]; exact ix_nI (by omega) (by decide)
theorem ix15 {p : Nat} (h : p < 9) : ix 121 ((14 + (3 * nI p)) + 1) = some (15 + 3 * p) := by
  rw [ql14, ql3, ql1, nI_mul, nI_add, nI_add, show 14 + 3 * p + 1 = 15 + 3 * p by omega]; exact ix_nI (by omega) (by decide)
theorem ix16 {p : Nat} (h : p < 9) : ix 121 ((14 + (3 * nI p)) + 2) = some (16 + 3 * p) := by
  rw [ql14, ql3, ql2, nI_mul, nI_add, nI_add, show 14 + 3 * p + 2 = 16 + 3 * p by omega]; exact ix_nI (by omega) (by decide)
theorem ix5 {p : Nat} (h : p < 9) : ix 121 (5 + nI p) = some (5 + p) := by
  rw [ql5, nI_add]; exact ix_nI (by omega) (by decide)
theorem ix38 {v : Nat} (h : v < 3) : ix 121 (38 + (2 * nI v)) = some (38 + 2 * v) := by
  rw [ql38, ql2, nI_mul, nI_add]; exact ix_nI (by omega) (by decide)
theorem ix39 {v : Nat} (h : v < 3) : ix 121 ((38 + (2 * nI v)) + 1) = some (39 + 2 * v) := by
  rw [ql38, ql2, ql1, nI_mul, nI_add, nI_add, show 38 + 2 * v + 1 = 39 + 2 * v by omega]; exact ix_nI (by omega) (by decide)
theorem ixc {c f : Nat} (h : c < 7) (hf : f < 11) : ix 121 ((44 + (11 * nI c)) + nI f) = some (44 + f + 11 * c) := by
  rw [ql44, ql11, nI_mul, nI_add, nI_add, show 44 + 11 * c + f = 44 + f + 11 * c by omega]; exact ix_nI (by omega) (by decide)
theorem get0 {σ : Mem} {a c : Nat} (h : c < 7) : F_X8_get σ a (nI c) 0 = some (σ a (44 + 11 * c)) := by unfold F_X8_get; rw [show (0 : Int32) = nI 0 from rfl, ixc h (by decide)]; rfl
theorem puts0 {σ : Mem} {a c : Nat} {v : Int32} (h : c < 7) : F_X8_puts σ a (nI c) 0 v = some (stm σ a (44 + 11 * c) v) := by unfold F_X8_puts; rw [show (0 : Int32) = nI 0 from rfl, ixc h (by decide)]; rfl
theorem get1 {σ : Mem} {a c : Nat} (h : c < 7) : F_X8_get σ a (nI c) 1 = some (σ a (45 + 11 * c)) := by unfold F_X8_get; rw [show (1 : Int32) = nI 1 from rfl, ixc h (by decide)]; rfl
theorem puts1 {σ : Mem} {a c : Nat} {v : Int32} (h : c < 7) : F_X8_puts σ a (nI c) 1 v = some (stm σ a (45 + 11 * c) v) := by unfold F_X8_puts; rw [show (1 : Int32) = nI 1 from rfl, ixc h (by decide)]; rfl
theorem get2 {σ : Mem} {a c : Nat} (h : c < 7) : F_X8_get σ a (nI c) 2 = some (σ a (46 + 11 * c)) := by unfold F_X8_get; rw [show (2 : Int32) = nI 2 from rfl, ixc h (by decide)]; rfl
theorem puts2 {σ : Mem} {a c : Nat} {v : Int32} (h : c < 7) : F_X8_puts σ a (nI c) 2 v = some (stm σ a (46 + 11 * c) v) := by unfold F_X8_puts; rw [show (2 : Int32) = nI 2 from rfl, ixc h (by decide)]; rfl
theorem get3 {σ : Mem} {a c : Nat} (h : c < 7) : F_X8_get σ a (nI c) 3 = some (σ a (47 + 11 * c)) := by unfold F_X8_get; rw [show (3 : Int32) = nI 3 from rfl, ixc h (by decide)]; rfl
theorem puts3 {σ : Mem} {a c : Nat} {v : Int32} (h : c < 7) : F_X8_puts σ a (nI c) 3 v = some (stm σ a (47 + 11 * c) v) := by unfold F_X8_puts; rw [show (3 : Int32) = nI 3 from rfl, ixc h (by decide)]; rfl
theorem get4 {σ : Mem} {a c : Nat} (h : c < 7) : F_X8_get σ a (nI c) 4 = some (σ a (48 + 11 * c)) := by unfold F_X8_get; rw [show (4 : Int32) = nI 4 from rfl, ixc h (by decide)]; rfl
theorem puts4 {σ : Mem} {a c : Nat} {v : Int32} (h : c < 7) : F_X8_puts σ a (nI c) 4 v = some (stm σ a (48 + 11 * c) v) := by unfold F_X8_puts; rw [show (4 : Int32) = nI 4 from rfl, ixc h (by decide)]; rfl
theorem get5 {σ : Mem} {a c : Nat} (h : c < 7) : F_X8_get σ a (nI c) 5 = some (σ a (49 + 11 * c)) := by unfold F_X8_get; rw [show (5 : Int32) = nI 5 from rfl, ixc h (by decide)]; rfl
theorem puts5 {σ : Mem} {a c : Nat} {v : Int32} (h : c < 7) : F_X8_puts σ a (nI c) 5 v = some (stm σ a (49 + 11 * c) v) := by unfold F_X8_puts; rw [show (5 : Int32) = nI 5 from rfl, ixc h (by decide)]; rfl
theorem get6 {σ : Mem} {a c : Nat} (h : c < 7) : F_X8_get σ a (nI c) 6 = some (σ a (50 + 11 * c)) := by unfold F_X8_get; rw [show (6 : Int32) = nI 6 from rfl, ixc h (by decide)]; rfl
theorem puts6 {σ : Mem} {a c : Nat} {v : Int32} (h : c < 7) : F_X8_puts σ a (nI c) 6 v = some (stm σ a (50 + 11 * c) v) := by unfold F_X8_puts; rw [show (6 : Int32) = nI 6 from rfl, ixc h (by decide)]; rfl
theorem get7 {σ : Mem} {a c : Nat} (h : c < 7) : F_X8_get σ a (nI c) 7 = some (σ a (51 + 11 * c)) := by unfold F_X8_get; rw [show (7 : Int32) = nI 7 from rfl, ixc h (by decide)]; rfl
theorem puts7 {σ : Mem} {a c : Nat} {v : Int32} (h : c < 7) : F_X8_puts σ a (nI c) 7 v = some (stm σ a (51 + 11 * c) v) := by unfold F_X8_puts; rw [show (7 : Int32) = nI 7 from rfl, ixc h (by decide)]; rfl
theorem get8 {σ : Mem} {a c : Nat} (h : c < 7) : F_X8_get σ a (nI c) 8 = some (σ a (52 + 11 * c)) := by unfold F_X8_get; rw [show (8 : Int32) = nI 8 from rfl, ixc h (by decide)]; rfl
theorem puts8 {σ : Mem} {a c : Nat} {v : Int32} (h : c < 7) : F_X8_puts σ a (nI c) 8 v = some (stm σ a (52 + 11 * c) v) := by unfold F_X8_puts; rw [show (8 : Int32) = nI 8 from rfl, ixc h (by decide)]; rfl
theorem get9 {σ : Mem} {a c : Nat} (h : c < 7) : F_X8_get σ a (nI c) 9 = some (σ a (53 + 11 * c)) := by unfold F_X8_get; rw [show (9 : Int32) = nI 9 from rfl, ixc h (by decide)]; rfl
theorem puts9 {σ : Mem} {a c : Nat} {v : Int32} (h : c < 7) : F_X8_puts σ a (nI c) 9 v = some (stm σ a (53 + 11 * c) v) := by unfold F_X8_puts; rw [show (9 : Int32) = nI 9 from rfl, ixc h (by decide)]; rfl
theorem get10 {σ : Mem} {a c : Nat} (h : c < 7) : F_X8_get σ a (nI c) 10 = some (σ a (54 + 11 * c)) := by unfold F_X8_get; rw [show (10 : Int32) = nI 10 from rfl, ixc h (by decide)]; rfl
theorem puts10 {σ : Mem} {a c : Nat} {v : Int32} (h : c < 7) : F_X8_puts σ a (nI c) 10 v = some (stm σ a (54 + 11 * c) v) := by unfold F_X8_puts; rw [show (10 : Int32) = nI 10 from rfl, ixc h (by decide)]; rfl
/-- the road of a row: m pieces of lengths len -/
def VS (k : Nat → Int32) (m : Nat) (len : Nat → Nat) : Prop := (k 0 = nI m ∧ m ≤ 8) ∧ (∀ p, p < m → k (14 + 3 * p) = nI (len p)) ∧ (∀ p, p < m → 2 ≤ len p ∧ len p ≤ 9) ∧ (∀ p, p < m → ((k (15 + 3 * p) = 0 ∨ k (15 + 3 * p) = 1 ∨ k (15 + 3 * p) = 2) ∧ (k (16 + 3 * p) = 0 ∨ k (16 + 3 * p) = 1 ∨ k (16 + 3 * p) = 2))) ∧ (∀ p, 1 ≤ p → p ≤ 8 → (0 ≤ (k (5 + p)).toInt ∧ (k (5 + p)).toInt ≤ 4) ∧ (m ≤ p → k (5 + p) = 1)) ∧ (∀ v, v < 3 → (0 ≤ (k (38 + 2 * v)).toInt ∧ (k (38 + 2 * v)).toInt ≤ 7) ∧ (0 ≤ (k (39 + 2 * v)).toInt ∧ (k (39 + 2 * v)).toInt ≤ 9))
theorem VS_m {k : Nat → Int32} {m : Nat} {len : Nat → Nat} (h : VS k m len) : k 0 = nI m := h.1.1
theorem VS_8 {k : Nat → Int32} {m : Nat} {len : Nat → Nat} (h : VS k m len) : m ≤ 8 := h.1.2
theorem VS_len {k : Nat → Int32} {m : Nat} {len : Nat → Nat} (h : VS k m len) {p : Nat} (hp : p < m) : k (14 + 3 * p) = nI (len p) := h.2.1 p hp
theorem VS_b {k : Nat → Int32} {m : Nat} {len : Nat → Nat} (h : VS k m len) : ∀ p, p < m → 2 ≤ len p ∧ len p ≤ 9 := h.2.2.1
theorem VS_hill {k : Nat → Int32} {m : Nat} {len : Nat → Nat} (h : VS k m len) {p : Nat} (hp : p < m) : k (15 + 3 * p) = 0 ∨ k (15 + 3 * p) = 1 ∨ k (15 + 3 * p) = 2 := (h.2.2.2.1 p hp).1
theorem VS_vil {k : Nat → Int32} {m : Nat} {len : Nat → Nat} (h : VS k m len) {p : Nat} (hp : p < m) : k (16 + 3 * p) = 0 ∨ k (16 + 3 * p) = 1 ∨ k (16 + 3 * p) = 2 := (h.2.2.2.1 p hp).2
theorem VS_room {k : Nat → Int32} {m : Nat} {len : Nat → Nat} (h : VS k m len) {p : Nat} (h1 : 1 ≤ p) (h2 : p ≤ 8) : 0 ≤ (k (5 + p)).toInt ∧ (k (5 + p)).toInt ≤ 4 := (h.2.2.2.2.1 p h1 h2).1
theorem VS_rule {k : Nat → Int32} {m : Nat} {len : Nat → Nat} (h : VS k m len) {v : Nat} (hv : v < 3) : (0 ≤ (k (38 + 2 * v)).toInt ∧ (k (38 + 2 * v)).toInt ≤ 7) ∧ (0 ≤ (k (39 + 2 * v)).toInt ∧ (k (39 + 2 * v)).toInt ≤ 9) := h.2.2.2.2.2 v hv
theorem VS_72 {k : Nat → Int32} {m : Nat} {len : Nat → Nat} (h : VS k m len) {p : Nat} (hp : p ≤ m) : PS len p ≤ 72 := by
  have h1 := PS_le (VS_b h) hp
  have h2 := VS_8 h
  omega
theorem vil3 {x : Int32} (h : x = 0 ∨ x = 1 ∨ x = 2) : ∃ v : Nat, v < 3 ∧ x = nI v := by
  rcases h with h | h | h
  · exact ⟨0, by decide, h⟩
  · exact ⟨1, by decide, h⟩
  · exact ⟨2, by decide, h⟩
theorem spotOf_l {σ : Mem} {a m : Nat} {len : Nat → Nat} (V : VS (σ a) m len) (q : Nat) (hq : q ≤ m) : ∀ (d p nn : Nat), p + d = q → d < nn → F_X8_spotOf_4 σ a (nI q) nn (nI p) (nI (PS len p)) = some (nI (PS len q)) := by
  have h8 := VS_8 V
  intro d
  induction d with
  | zero =>
    intro p nn h1 h2
    obtain ⟨nn, rfl⟩ : ∃ j, nn = j + 1 := ⟨nn - 1, by omega⟩
    rw [F_X8_spotOf_4, if_pos (by rw [nle (by omega) (by omega)]; omega), show p = q by omega]
  | succ d ih =>
    intro p nn h1 h2
    obtain ⟨nn, rfl⟩ : ∃ j, nn = j + 1 := ⟨nn - 1, by omega⟩
    rw [F_X8_spotOf_4, if_neg (by rw [nle (by omega) (by omega)]; omega), ix14 (by omega), Option.bind_some, VS_len V (by omega), nI_1, nI_add, ← PS_s]
    exact ih (p + 1) nn (by omega) (by omega)
theorem spotOf_r {σ : Mem} {a m : Nat} {len : Nat → Nat} (V : VS (σ a) m len) {q : Nat} (hq : q ≤ m) : F_X8_spotOf σ a (nI q) = some (nI (PS len q)) := by
  have h8 := VS_8 V
  exact spotOf_l V q hq q 0 FU (by omega) (Nat.lt_of_lt_of_le (show q < 100 by omega) (by decide))
theorem endOf_r {σ : Mem} {a m : Nat} {len : Nat → Nat} (V : VS (σ a) m len) : F_X8_endOf σ a = some (nI (PS len m)) := by
  unfold F_X8_endOf
  rw [VS_m V, spotOf_r V (Nat.le_refl _)]; rfl
/-- the search for a place, from p on -/
theorem placeAt_l {σ : Mem} {a m : Nat} {len : Nat → Nat} (V : VS (σ a) m len) {x : Nat} (hx : x ≤ 72) : ∀ (d p nn : Nat), p + d = m → d < nn → (∀ q, q < p → PS len q ≠ x) → F_X8_placeAt_4 σ a (nI x) (nn + 1) (nI p) (nI (PS len p)) = some (-4) ∧ (∀ q, q ≤ m → PS len q ≠ x) ∨ ∃ q, q ≤ m ∧ PS len q = x ∧ F_X8_placeAt_4 σ a (nI x) (nn + 1) (nI p) (nI (PS len p)) = some (nI q) := by
  have h8 := VS_8 V
  intro d
  induction d with
  | zero =>
    intro p nn h1 h2 hne
    obtain rfl : p = m := by omega
    have h72 := VS_72 V (Nat.le_refl p)
    obtain ⟨nn, rfl⟩ : ∃ j, nn = j + 1 := ⟨nn - 1, by omega⟩
    by_cases hq : PS len p = x
    · right
      refine ⟨p, Nat.le_refl _, hq, ?_⟩
      rw [F_X8_placeAt_4, VS_m V, if_neg (by rw [nlt (by omega) (by omega)]; omega), if_pos (by rw [hq])]
    · left
      refine ⟨?_, fun q hqm => ?_⟩
      · rw [F_X8_placeAt_4, VS_m V, if_neg (by rw [nlt (by omega) (by omega)]; omega), if_neg (by rw [neq (by omega) (by omega)]; exact hq), if_pos (by rw [nle (by omega) (by omega)]; omega), F_X8_placeAt_4, nI_1, VS_m V, if_pos (by rw [nlt (by omega) (by omega)]; omega)]
      · rcases Nat.lt_or_ge q p with h | h
        · exact hne q h
        · rw [show q = p by omega]; exact hq
  | succ d ih =>
    intro p nn h1 h2 hne
    obtain ⟨nn, rfl⟩ : ∃ j, nn = j + 1 := ⟨nn - 1, by omega⟩
    have h72 := VS_72 V (show p ≤ m by omega)
    by_cases hq : PS len p = x
    · right
      refine ⟨p, by omega, hq, ?_⟩
      rw [F_X8_placeAt_4, VS_m V, if_neg (by rw [nlt (by omega) (by omega)]; omega), if_pos (by rw [hq])]
    · have := ih (p + 1) nn (by omega) (by omega) (fun q hq2 => by
        rcases Nat.lt_or_ge q p with h | h
        · exact hne q h
        · rw [show q = p by omega]; exact hq)
      rw [F_X8_placeAt_4, VS_m V, if_neg (by rw [nlt (by omega) (by omega)]; omega), if_neg (by rw [neq (by omega) (by omega)]; exact hq), if_neg (by rw [nle (by omega) (by omega)]; omega), ix14 (by omega), Option.bind_some, VS_len V (by omega), nI_1, nI_add, ← PS_s]
      exact this
theorem placeAt_r {σ : Mem} {a m : Nat} {len : Nat → Nat} (V : VS (σ a) m len) {x : Nat} (hx : x ≤ 72) : (F_X8_placeAt σ a (nI x) = some (-4) ∧ (∀ q, q ≤ m → PS len q ≠ x)) ∨ ∃ q, q ≤ m ∧ PS len q = x ∧ F_X8_placeAt σ a (nI x) = some (nI q) := by
  have h8 := VS_8 V
  exact placeAt_l V hx m 0 1999 (by omega) (by omega) (fun q h => absurd h (Nat.not_lt_zero _))
theorem placeAt_at {σ : Mem} {a m : Nat} {len : Nat → Nat} (V : VS (σ a) m len) {p : Nat} (hp : p ≤ m) : F_X8_placeAt σ a (nI (PS len p)) = some (nI p) := by
  rcases placeAt_r V (VS_72 V hp) with ⟨-, h⟩ | ⟨q, h1, h2, h3⟩
  · exact absurd rfl (h p hp)
  · rw [h3, PS_inj (VS_b V) h1 hp h2]
theorem placeAt_no {σ : Mem} {a m : Nat} {len : Nat → Nat} (V : VS (σ a) m len) {p x : Nat} (hp : p < m) (h1 : PS len p < x) (h2 : x < PS len (p + 1)) : F_X8_placeAt σ a (nI x) = some (-4) := by
  have h72 := VS_72 V (show p + 1 ≤ m by omega)
  rcases placeAt_r V (show x ≤ 72 by omega) with ⟨h, -⟩ | ⟨q, h3, h4, -⟩
  · exact h
  · rcases Nat.lt_or_ge p q with h | h
    · have : PS len (p + 1) ≤ PS len q := PS_mono h
      omega
    · have : PS len q ≤ PS len p := PS_mono h
      omega
theorem pieceUp_l {σ : Mem} {a m : Nat} {len : Nat → Nat} (V : VS (σ a) m len) {q x : Nat} {w : Int32} (hw : ¬ w ≤ 0) (hq : q < m) (h1 : PS len q ≤ x) (h2 : x < PS len (q + 1)) : ∀ (d p nn : Nat), p + d = q → d < nn → F_X8_pieceFrom_5 σ a (nI x) w nn (nI (PS len p)) (nI p) = some (nI q) := by
  have h8 := VS_8 V
  have h72 := VS_72 V (show q + 1 ≤ m by omega)
  intro d
  induction d with
  | zero =>
    intro p nn h3 h4
    obtain rfl : p = q := by omega
    obtain ⟨nn, rfl⟩ : ∃ j, nn = j + 1 := ⟨nn - 1, by omega⟩
    rw [F_X8_pieceFrom_5, if_neg hw, ix14 (by omega), Option.bind_some, VS_len V hq, nI_add, ← PS_s, if_pos (by rw [nlt (by omega) (by omega)]; exact h2)]
  | succ d ih =>
    intro p nn h3 h4
    obtain ⟨nn, rfl⟩ : ∃ j, nn = j + 1 := ⟨nn - 1, by omega⟩
    have h5 : PS len (p + 1) ≤ PS len q := PS_mono (by omega)
    rw [F_X8_pieceFrom_5, if_neg hw, ix14 (by omega), Option.bind_some, VS_len V (by omega), nI_add, ← PS_s, if_neg (by rw [nlt (by omega) (by omega)]; omega), Option.bind_some, VS_len V (by omega), nI_add, ← PS_s, nI_1]
    exact ih (p + 1) nn (by omega) (by omega)
theorem pieceUp {σ : Mem} {a m : Nat} {len : Nat → Nat} (V : VS (σ a) m len) {q x : Nat} {w : Int32} (hw : ¬ w ≤ 0) (hq : q < m) (h1 : PS len q ≤ x) (h2 : x < PS len (q + 1)) : F_X8_pieceFrom σ a (nI x) w = some (nI q) := by
  have h8 := VS_8 V
  exact pieceUp_l V hw hq h1 h2 q 0 FU (by omega) (Nat.lt_of_lt_of_le (show q < 100 by omega) (by decide))
theorem pieceDn_l {σ : Mem} {a m : Nat} {len : Nat → Nat} (V : VS (σ a) m len) {q x : Nat} {w : Int32} (hw : w ≤ 0) (hq : q < m) (h1 : PS len q < x) (h2 : x ≤ PS len (q + 1)) : ∀ (d p nn : Nat), p + d = q → d < nn → F_X8_pieceFrom_5 σ a (nI x) w nn (nI (PS len p)) (nI p) = some (nI q) := by
  have h8 := VS_8 V
  have h72 := VS_72 V (show q + 1 ≤ m by omega)
  intro d
  induction d with
  | zero =>
    intro p nn h3 h4
    obtain rfl : p = q := by omega
    obtain ⟨nn, rfl⟩ : ∃ j, nn = j + 1 := ⟨nn - 1, by omega⟩
    rw [F_X8_pieceFrom_5, if_pos hw, ix14 (by omega), Option.bind_some, VS_len V hq, nI_add, ← PS_s, if_pos (by rw [nle (by omega) (by omega)]; exact h2)]
  | succ d ih =>
    intro p nn h3 h4
    obtain ⟨nn, rfl⟩ : ∃ j, nn = j + 1 := ⟨nn - 1, by omega⟩
    have h5 : PS len (p + 1) ≤ PS len q := PS_mono (by omega)
    rw [F_X8_pieceFrom_5, if_pos hw, ix14 (by omega), Option.bind_some, VS_len V (by omega), nI_add, ← PS_s, if_neg (by rw [nle (by omega) (by omega)]; omega), Option.bind_some, VS_len V (by omega), nI_add, ← PS_s, nI_1]
    exact ih (p + 1) nn (by omega) (by omega)
theorem pieceDn {σ : Mem} {a m : Nat} {len : Nat → Nat} (V : VS (σ a) m len) {q x : Nat} {w : Int32} (hw : w ≤ 0) (hq : q < m) (h1 : PS len q < x) (h2 : x ≤ PS len (q + 1)) : F_X8_pieceFrom σ a (nI x) w = some (nI q) := by
  have h8 := VS_8 V
  exact pieceDn_l V hw hq h1 h2 q 0 FU (by omega) (Nat.lt_of_lt_of_le (show q < 100 by omega) (by decide))
