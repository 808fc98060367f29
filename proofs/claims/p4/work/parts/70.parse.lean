/-! reading a text: signs, digits, numbers, both sides -/
def dg (T : Nat → Int32) (z p : Nat) : Prop := p < z ∧ 48 ≤ T p ∧ T p ≤ 57
def sg (T : Nat → Int32) (z p : Nat) (s : Int32) : Prop := p < z ∧ T p = s
noncomputable def dv (T : Nat → Int32) (p : Nat) : Nat := (T p).toInt.toNat - 48
theorem dv_e {T : Nat → Int32} {z p : Nat} (h : dg T z p) : T p - 48 = nI (dv T p) ∧ dv T p ≤ 9 ∧ (dv T p = 0 ↔ T p = 48) := by
  obtain ⟨-, h1, h2⟩ := h
  have z1 : (48 : Int32).toInt = 48 := by decide
  have z2 : (57 : Int32).toInt = 57 := by decide
  rw [i32_le, z1] at h1
  rw [i32_le, z2] at h2
  unfold dv
  have e : (T p - 48).toInt = (T p).toInt - 48 := by rw [t_sub (by rw [z1]; omega) (by rw [z1]; omega), z1]
  refine ⟨nI_i (by omega) (by omega), by omega, ?_⟩
  rw [i32_eq, z1]
  omega
/-- the class's reader at p over text T of z, broken or not -/
def CS (σ : Mem) (d z : Nat) (T : Nat → Int32) (p : Nat) (br : Bool) : Prop := (d < 8 ∧ z ≤ 100 ∧ p ≤ 1000) ∧ σ 85 0 = nI (68 + d) ∧ σ (68 + d) 4 = nI z ∧ (∀ i, i < z → σ (76 + d) i = T i) ∧ σ 85 1 = nI p ∧ σ 85 2 = bI br
/-- the reference's reader -/
def RS (ρ : Mem) (d z : Nat) (T : Nat → Int32) (p : Nat) : Prop := (d < 8 ∧ z ≤ 100 ∧ p ≤ 1000) ∧ ρ 91 13 = nI (100 * d) ∧ ρ 91 14 = nI z ∧ (∀ i, i < z → ρ 99 (100 * d + i) = T i) ∧ ρ 91 12 = nI p
/-- what the class's reading leaves alone: all but the reader's cell; of it the text, letter, numbers -/
def KE (σ σ' : Mem) : Prop := (∀ i, i ≠ 85 → σ' i = σ i) ∧ ∀ j, j ≠ 1 → j ≠ 2 → σ' 85 j = σ 85 j
def KF (ρ ρ' : Mem) : Prop := (∀ i, i ≠ 91 → i ≠ 102 → ρ' i = ρ i) ∧ ∀ j, j ≠ 12 → j ≠ 15 → ρ' 91 j = ρ 91 j
theorem KE_rf (σ : Mem) : KE σ σ := ⟨fun _ _ => rfl, fun _ _ _ => rfl⟩
theorem KE_tr {σ σ' σ'' : Mem} (h : KE σ σ') (h' : KE σ' σ'') : KE σ σ'' := ⟨fun i hi => (h'.1 i hi).trans (h.1 i hi), fun j h1 h2 => (h'.2 j h1 h2).trans (h.2 j h1 h2)⟩
theorem KF_rf (ρ : Mem) : KF ρ ρ := ⟨fun _ _ _ => rfl, fun _ _ _ => rfl⟩
theorem KF_tr {ρ ρ' ρ'' : Mem} (h : KF ρ ρ') (h' : KF ρ' ρ'') : KF ρ ρ'' := ⟨fun i h1 h2 => (h'.1 i h1 h2).trans (h.1 i h1 h2), fun j h1 h2 => (h'.2 j h1 h2).trans (h.2 j h1 h2)⟩
section PA
variable {σ ρ : Mem} {d z p : Nat} {T : Nat → Int32} {br : Bool}
theorem tx_c (C : CS σ d z T p br) : tx σ = some d := by
  have h := C.2.1
  have hd := C.1.1
  unfold tx
  rw [h, nI_toInt (by omega), if_pos (by omega)]
  congr 1
  omega
theorem next_c (C : CS σ d z T p br) : F_X3_next σ = some (if p < z then T p else 0) := by
  obtain ⟨⟨hd, hz, hp⟩, h0, h4, hT, h1, h2⟩ := C
  have t := tx_c (σ := σ) (d := d) (z := z) (T := T) (p := p) (br := br) ⟨⟨hd, hz, hp⟩, h0, h4, hT, h1, h2⟩
  unfold F_X3_next
  rw [h1, if_neg (nI_pos (by omega)), t, Option.bind_some, h4, Option.bind_some]
  by_cases k : p < z
  · rw [if_neg (nI_ge (by omega) (by omega)), if_neg (show ¬ (100 : Int32) ≤ nI p from nI_ge (a := p) (b := 100) (by omega) (by decide)), ix_nI (show p < 100 by omega) (by decide), Option.bind_some, if_pos k, hT p k]
  · rw [if_pos (nI_le (by omega) (by omega)), if_neg k]
theorem CS_at (C : CS σ d z T p false) (hp : p < z) : CS (stm σ 85 1 (σ 85 1 + 1)) d z T (p + 1) false ∧ KE σ (stm σ 85 1 (σ 85 1 + 1)) := by
  obtain ⟨⟨hd, hz, hpp⟩, h0, h4, hT, h1, h2⟩ := C
  refine ⟨⟨⟨hd, hz, by omega⟩, ?_, ?_, fun i hi => ?_, ?_, ?_⟩, fun i hi => stm_ne _ _ _ hi, fun j q1 _ => by rw [stm_row, upd_ne _ _ q1]⟩
  · rw [stm_row, upd_ne _ _ (by omega)]; exact h0
  · rw [stm_ne _ _ _ (by omega)]; exact h4
  · rw [stm_ne _ _ _ (by omega)]; exact hT i hi
  · rw [stm_row, upd_at, h1, nI_1]
  · rw [stm_row, upd_ne _ _ (by omega)]; exact h2
theorem CS_br (C : CS σ d z T p br) : CS (stm σ 85 2 1) d z T p true ∧ KE σ (stm σ 85 2 1) := by
  obtain ⟨⟨hd, hz, hpp⟩, h0, h4, hT, h1, h2⟩ := C
  refine ⟨⟨⟨hd, hz, hpp⟩, ?_, ?_, fun i hi => ?_, ?_, ?_⟩, fun i hi => stm_ne _ _ _ hi, fun j _ q2 => by rw [stm_row, upd_ne _ _ q2]⟩
  · rw [stm_row, upd_ne _ _ (by omega)]; exact h0
  · rw [stm_ne _ _ _ (by omega)]; exact h4
  · rw [stm_ne _ _ _ (by omega)]; exact hT i hi
  · rw [stm_row, upd_ne _ _ (by omega)]; exact h1
  · rw [stm_row, upd_at]; rfl
theorem CS_o (C : CS σ d z T p br) {j : Nat} {v : Int32} (h : 3 ≤ j) : CS (stm σ 85 j v) d z T p br := by
  obtain ⟨⟨hd, hz, hpp⟩, h0, h4, hT, h1, h2⟩ := C
  refine ⟨⟨hd, hz, hpp⟩, ?_, ?_, fun i hi => ?_, ?_, ?_⟩
  · rw [stm_row, upd_ne _ _ (by omega)]; exact h0
  · rw [stm_ne _ _ _ (by omega)]; exact h4
  · rw [stm_ne _ _ _ (by omega)]; exact hT i hi
  · rw [stm_row, upd_ne _ _ (by omega)]; exact h1
  · rw [stm_row, upd_ne _ _ (by omega)]; exact h2
theorem nd_c {s : Int32} (h : ¬ dg T z p) (hs : s = if p < z then T p else 0) : s < 48 ∨ 57 < s := by
  subst hs
  by_cases k : p < z
  · rw [if_pos k]
    by_cases k1 : T p < 48
    · exact Or.inl k1
    · by_cases k2 : 57 < T p
      · exact Or.inr k2
      · exact absurd ⟨k, Int32.not_lt.mp k1, Int32.not_lt.mp k2⟩ h
  · rw [if_neg k]; exact Or.inl (by decide)
/-- a digit of the class -/
theorem digit_y (C : CS σ d z T p false) (h : dg T z p) : ∃ σ', F_X3_digit σ = some (σ', nI (dv T p)) ∧ CS σ' d z T (p + 1) false ∧ KE σ σ' := by
  have e := next_c C
  rw [if_pos h.1] at e
  refine ⟨_, ?_, CS_at C h.1⟩
  unfold F_X3_digit
  rw [e, Option.bind_some, C.2.2.2.2.2, if_pos (show bI false = 0 from rfl), if_neg (Int32.not_lt.mpr h.2.1), if_pos h.2.2, (dv_e h).1]
theorem digit_n (C : CS σ d z T p false) (h : ¬ dg T z p) : ∃ σ', F_X3_digit σ = some (σ', 0) ∧ CS σ' d z T p true ∧ KE σ σ' := by
  refine ⟨_, ?_, CS_br C⟩
  unfold F_X3_digit
  rw [next_c C, Option.bind_some, C.2.2.2.2.2, if_pos (show bI false = 0 from rfl)]
  rcases nd_c h rfl with q | q
  · rw [if_pos q]
  · by_cases q1 : (if p < z then T p else 0) < 48
    · rw [if_pos q1]
    · rw [if_neg q1, if_neg (Int32.not_le.mpr q)]
theorem digit_b (C : CS σ d z T p true) : ∃ σ', F_X3_digit σ = some (σ', 0) ∧ CS σ' d z T p true ∧ KE σ σ' := by
  refine ⟨_, ?_, CS_br C⟩
  unfold F_X3_digit
  rw [next_c C, Option.bind_some, C.2.2.2.2.2, if_neg (show ¬ bI true = 0 from i10)]
theorem skips_y {s : Int32} (C : CS σ d z T p false) (h : sg T z p s) : ∃ σ', F_X3_skips σ s = some (σ', 1) ∧ CS σ' d z T (p + 1) false ∧ KE σ σ' := by
  have e := next_c C
  rw [if_pos h.1, h.2] at e
  refine ⟨_, ?_, CS_at C h.1⟩
  unfold F_X3_skips
  rw [C.2.2.2.2.2, if_pos (show bI false = 0 from rfl), e, Option.bind_some, if_pos rfl]
theorem skips_n {s : Int32} (C : CS σ d z T p false) (h : ¬ sg T z p s) (hs : ¬ s = 0) : F_X3_skips σ s = some (σ, 0) := by
  unfold F_X3_skips
  rw [C.2.2.2.2.2, if_pos (show bI false = 0 from rfl), next_c C, Option.bind_some]
  by_cases k : p < z
  · rw [if_pos k, if_neg (fun q => h ⟨k, q⟩)]
  · rw [if_neg k, if_neg (fun q => hs q.symm)]
theorem skips_b {s : Int32} (C : CS σ d z T p true) : F_X3_skips σ s = some (σ, 0) := by
  unfold F_X3_skips
  rw [C.2.2.2.2.2, if_neg (show ¬ bI true = 0 from i10)]
theorem want_y {s : Int32} (C : CS σ d z T p false) (h : sg T z p s) : ∃ σ', F_X3_want σ s = some σ' ∧ CS σ' d z T (p + 1) false ∧ KE σ σ' := by
  obtain ⟨σ', a1, a2, a3⟩ := skips_y C h
  refine ⟨σ', ?_, a2, a3⟩
  unfold F_X3_want
  rw [a1, bd2_s, if_neg i10]
theorem want_n {s : Int32} (C : CS σ d z T p false) (h : ¬ sg T z p s) (hs : ¬ s = 0) : ∃ σ', F_X3_want σ s = some σ' ∧ CS σ' d z T p true ∧ KE σ σ' := by
  refine ⟨_, ?_, CS_br C⟩
  unfold F_X3_want
  rw [skips_n C h hs, bd2_s, if_pos rfl]
theorem want_b {s : Int32} (C : CS σ d z T p true) : ∃ σ', F_X3_want σ s = some σ' ∧ CS σ' d z T p true ∧ KE σ σ' := by
  refine ⟨_, ?_, CS_br C⟩
  unfold F_X3_want
  rw [skips_b C, bd2_s, if_pos rfl]
theorem hasDigit_y (C : CS σ d z T p false) (h : dg T z p) : F_X3_hasDigit σ = some 1 := by
  have e := next_c C
  rw [if_pos h.1] at e
  unfold F_X3_hasDigit
  rw [C.2.2.2.2.2, if_pos (show bI false = 0 from rfl), e, Option.bind_some, if_neg (Int32.not_lt.mpr h.2.1), Option.bind_some, if_neg (Int32.not_lt.mpr h.2.2)]
theorem hasDigit_n (C : CS σ d z T p false) (h : ¬ dg T z p) : F_X3_hasDigit σ = some 0 := by
  unfold F_X3_hasDigit
  rw [C.2.2.2.2.2, if_pos (show bI false = 0 from rfl), next_c C, Option.bind_some, Option.bind_some]
  rcases nd_c h rfl with q | q
  · rw [if_pos q]
  · by_cases q1 : (if p < z then T p else 0) < 48
    · rw [if_pos q1]
    · rw [if_neg q1, if_pos q]
/-! the reference -/
theorem here_r (R : RS ρ d z T p) : F_X8_here ρ = some (if p < z then T p else -1000) := by
  obtain ⟨⟨hd, hz, hp⟩, h3, h4, hT, h1⟩ := R
  unfold F_X8_here
  rw [h4, h1]
  by_cases k : p < z
  · rw [if_neg (nI_ge (by omega) (by omega)), h3, nI_add, ix_nI (by omega) (by decide), Option.bind_some, if_pos k, hT p k]
  · rw [if_pos (nI_le (by omega) (by omega)), if_neg k]
theorem isDigit_y (R : RS ρ d z T p) (h : dg T z p) : F_X8_isDigit ρ = some 1 := by
  unfold F_X8_isDigit
  rw [here_r R, if_pos h.1, Option.bind_some, if_neg (fun q => q.elim (fun q => absurd q (Int32.not_lt.mpr h.2.1)) (fun q => absurd q (Int32.not_lt.mpr h.2.2)))]
theorem isDigit_n (R : RS ρ d z T p) (h : ¬ dg T z p) : F_X8_isDigit ρ = some 0 := by
  unfold F_X8_isDigit
  rw [here_r R, Option.bind_some]
  by_cases k : p < z
  · have := nd_c (T := T) (z := z) (p := p) h rfl
    rw [if_pos k] at this ⊢
    rw [if_pos this]
  · rw [if_neg k, if_pos (Or.inl (by decide))]
theorem RS_at (R : RS ρ d z T p) (hp : p < z) : RS (stm ρ 91 12 (ρ 91 12 + 1)) d z T (p + 1) ∧ KF ρ (stm ρ 91 12 (ρ 91 12 + 1)) := by
  obtain ⟨⟨hd, hz, hpp⟩, h3, h4, hT, h1⟩ := R
  refine ⟨⟨⟨hd, hz, by omega⟩, ?_, ?_, fun i hi => ?_, ?_⟩, fun i h1 _ => stm_ne _ _ _ h1, fun j h1 _ => by rw [stm_row, upd_ne _ _ h1]⟩
  · rw [stm_row, upd_ne _ _ (by omega)]; exact h3
  · rw [stm_row, upd_ne _ _ (by omega)]; exact h4
  · rw [stm_ne _ _ _ (by omega)]; exact hT i hi
  · rw [stm_row, upd_at, h1, nI_1]
theorem RS_o (R : RS ρ d z T p) {j : Nat} {v : Int32} : RS (stm ρ 102 j v) d z T p ∧ KF ρ (stm ρ 102 j v) := by
  obtain ⟨⟨hd, hz, hpp⟩, h3, h4, hT, h1⟩ := R
  refine ⟨⟨⟨hd, hz, hpp⟩, ?_, ?_, fun i hi => ?_, ?_⟩, fun i _ h2 => stm_ne _ _ _ h2, fun j _ _ => by rw [stm_ne _ _ _ (by omega)]⟩
  · rw [stm_ne _ _ _ (by omega)]; exact h3
  · rw [stm_ne _ _ _ (by omega)]; exact h4
  · rw [stm_ne _ _ _ (by omega)]; exact hT i hi
  · rw [stm_ne _ _ _ (by omega)]; exact h1
theorem RS_t (R : RS ρ d z T p) {v : Int32} : RS (stm ρ 91 15 v) d z T p ∧ KF ρ (stm ρ 91 15 v) := by
  obtain ⟨⟨hd, hz, hpp⟩, h3, h4, hT, h1⟩ := R
  refine ⟨⟨⟨hd, hz, hpp⟩, ?_, ?_, fun i hi => ?_, ?_⟩, fun i h1 _ => stm_ne _ _ _ h1, fun j _ h2 => by rw [stm_row, upd_ne _ _ h2]⟩
  · rw [stm_row, upd_ne _ _ (by omega)]; exact h3
  · rw [stm_row, upd_ne _ _ (by omega)]; exact h4
  · rw [stm_ne _ _ _ (by omega)]; exact hT i hi
  · rw [stm_row, upd_ne _ _ (by omega)]; exact h1
theorem takes_y {s : Int32} (R : RS ρ d z T p) (h : sg T z p s) : ∃ ρ', F_X8_takes ρ s = some (ρ', 1) ∧ RS ρ' d z T (p + 1) ∧ KF ρ ρ' ∧ ρ' 102 = ρ 102 ∧ ρ' 91 15 = ρ 91 15 := by
  obtain ⟨a1, a2⟩ := RS_at R h.1
  refine ⟨_, ?_, a1, a2, stm_ne _ _ _ (by omega), by rw [stm_row, upd_ne _ _ (by omega)]⟩
  unfold F_X8_takes
  rw [here_r R, if_pos h.1, Option.bind_some, if_pos h.2]
theorem takes_n {s : Int32} (R : RS ρ d z T p) (h : ¬ sg T z p s) (hs : ¬ s = -1000) : F_X8_takes ρ s = some (ρ, 0) := by
  unfold F_X8_takes
  rw [here_r R, Option.bind_some]
  by_cases k : p < z
  · rw [if_pos k, if_neg (fun q => h ⟨k, q⟩)]
  · rw [if_neg k, if_neg (fun q => hs q.symm)]
theorem readsD_y {w : Nat} (R : RS ρ d z T p) (h : dg T z p) (hw : w < 5) (ht : ρ 91 15 = nI w) : ∃ ρ', F_X8_readsDigit ρ = some (ρ', 1) ∧ RS ρ' d z T (p + 1) ∧ KF ρ ρ' ∧ ρ' 102 = upd (ρ 102) w (nI (dv T p)) ∧ ρ' 91 15 = nI (w + 1) := by
  obtain ⟨a1, a2⟩ := RS_o R (j := w) (v := nI (dv T p))
  obtain ⟨b1, b2⟩ := RS_t a1 (v := stm ρ 102 w (nI (dv T p)) 91 15 + 1)
  obtain ⟨c1, c2⟩ := RS_at b1 h.1
  refine ⟨_, ?_, c1, KF_tr a2 (KF_tr b2 c2), ?_, ?_⟩
  · unfold F_X8_readsDigit
    rw [isDigit_y R h, Option.bind_some, if_neg i10, here_r R, if_pos h.1, Option.bind_some, ht, ix_nI hw (by decide), Option.bind_some, (dv_e h).1]
  · rw [stm_ne _ _ _ (by omega), stm_ne _ _ _ (by omega), stm_row]
  · rw [stm_row, upd_ne _ _ (by omega), stm_row, upd_at, stm_ne _ _ _ (by omega), ht, nI_1]
theorem readsD_n (R : RS ρ d z T p) (h : ¬ dg T z p) : F_X8_readsDigit ρ = some (ρ, 0) := by
  unfold F_X8_readsDigit
  rw [isDigit_n R h, Option.bind_some, if_pos rfl]
end PA
