/-! each move of the reference makes the state of the class's code -/
theorem enc_mk (a b : Nat) {br ln : Nat} (hl : ln < 128) : enc a b (br * 128 + ln) = (oneN ln (Nat.log2 ln - br) * 128 + othN ln (Nat.log2 ln - br)) * 16 + (a - (pcN ln - 1)) * 4 + (b - (Nat.log2 ln - (pcN ln - 1))) := by
  have e1 : (br * 128 + ln) / 128 = br := by omega
  have e2 : (br * 128 + ln) % 128 = ln := by omega
  unfold enc eyN xN yN
  rw [e1, e2]
theorem mv1 {a b c : Nat} (h : vcd a b c) (hp : 0 < c / 128) : (oneN (c % 128) (eyN c) / 2 * 128 + (2 * othN (c % 128) (eyN c) + oneN (c % 128) (eyN c) % 2)) * 16 + xN a c * 4 + yN b c = enc a b ((c / 128 - 1) * 128 + c % 128) := by
  have hl : c % 128 < 128 := Nat.mod_lt _ (by decide)
  have h7 := ln_lt _ hl
  have hv := h.2.1
  have f := en_1 _ hl (eyN c) (by unfold eyN; omega) ⟨h.2.2.1, by unfold eyN; omega⟩
  rw [enc_mk a b hl, show Nat.log2 (c % 128) - (c / 128 - 1) = eyN c + 1 by unfold eyN; omega, f.1, f.2]
  rfl
theorem mv2 {a b c : Nat} (h : vcd a b c) (hp : 0 < eyN c) : (2 * oneN (c % 128) (eyN c) + othN (c % 128) (eyN c) % 2) * 128 * 16 + othN (c % 128) (eyN c) / 2 * 16 + xN a c * 4 + yN b c = enc a b ((c / 128 + 1) * 128 + c % 128) := by
  have hl : c % 128 < 128 := Nat.mod_lt _ (by decide)
  have h7 := ln_lt _ hl
  have hv := h.2.1
  have f := en_2 _ hl (eyN c) (by unfold eyN; omega) ⟨h.2.2.1, by unfold eyN; omega, hp⟩
  rw [enc_mk a b hl, show Nat.log2 (c % 128) - (c / 128 + 1) = eyN c - 1 by unfold eyN; omega, f.1, f.2]
  unfold xN yN
  omega
theorem mv3 {a b c : Nat} (h : vcd a b c) (hp : 0 < c / 128) : (oneN (c % 128) (eyN c) / 2 * 128 + othN (c % 128) (eyN c)) * 16 + (xN a c + 1 - oneN (c % 128) (eyN c) % 2) * 4 + (yN b c + oneN (c % 128) (eyN c) % 2) = enc a b ((c / 128 - 1) * 128 + woN (c % 128) (Nat.log2 (c % 128) - c / 128)) := by
  have hl : c % 128 < 128 := Nat.mod_lt _ (by decide)
  have h7 := ln_lt _ hl
  have hv := h.2
  have hey : Nat.log2 (c % 128) - c / 128 = eyN c := rfl
  have f := en_3 _ hl (eyN c) (by unfold eyN; omega) ⟨h.2.2.1, by unfold eyN; omega⟩
  have g := ln_f2 _ hl (eyN c) (by unfold eyN; omega) (by unfold eyN; omega)
  have g4 := ln_f4 _ hl (eyN c) (by unfold eyN; omega) (by unfold eyN; omega)
  have hpc := ln_f1 _ hl h.2.2.1
  have hpw := ln_f1 _ g.1 g.2.1
  rw [hey, enc_mk a b g.1, show Nat.log2 (woN (c % 128) (eyN c)) - (c / 128 - 1) = eyN c by rw [g.2.2.1]; unfold eyN; omega, f.1, f.2.1, g.2.2.1, g.2.2.2, f.2.2]
  rw [g.2.2.2, f.2.2] at hpw g4
  have hm : oneN (c % 128) (eyN c) % 2 < 2 := Nat.mod_lt _ (by decide)
  unfold xN yN
  rcases (show oneN (c % 128) (eyN c) % 2 = 0 ∨ oneN (c % 128) (eyN c) % 2 = 1 by omega) with e | e <;> rw [e] at hpw g4 ⊢ <;> omega
theorem mv4 {a b c : Nat} (h : vcd a b c) (hp : 0 < eyN c) : (oneN (c % 128) (eyN c) * 128 + othN (c % 128) (eyN c) / 2) * 16 + (xN a c + 1 - othN (c % 128) (eyN c) % 2) * 4 + (yN b c + othN (c % 128) (eyN c) % 2) = enc a b (c / 128 * 128 + woN (c % 128) (Nat.log2 (c % 128) - c / 128 - 1)) := by
  have hl : c % 128 < 128 := Nat.mod_lt _ (by decide)
  have h7 := ln_lt _ hl
  have hv := h.2
  have hey : Nat.log2 (c % 128) - c / 128 = eyN c := rfl
  have f := en_4 _ hl (eyN c) (by unfold eyN; omega) ⟨h.2.2.1, by unfold eyN; omega, hp⟩
  have g := ln_f2 _ hl (eyN c - 1) (by unfold eyN; omega) (by unfold eyN at hp ⊢; omega)
  have g4 := ln_f4 _ hl (eyN c - 1) (by unfold eyN; omega) (by unfold eyN at hp ⊢; omega)
  have hpc := ln_f1 _ hl h.2.2.1
  have hpw := ln_f1 _ g.1 g.2.1
  rw [hey, enc_mk a b g.1, show Nat.log2 (woN (c % 128) (eyN c - 1)) - c / 128 = eyN c - 1 by rw [g.2.2.1]; unfold eyN; omega, f.1, f.2.1, g.2.2.1, g.2.2.2, f.2.2]
  rw [g.2.2.2, f.2.2] at hpw g4
  have hm : othN (c % 128) (eyN c) % 2 < 2 := Nat.mod_lt _ (by decide)
  unfold xN yN
  rcases (show othN (c % 128) (eyN c) % 2 = 0 ∨ othN (c % 128) (eyN c) % 2 = 1 by omega) with e | e <;> rw [e] at hpw g4 ⊢ <;> omega
theorem v6 {a b c : Nat} (ha : a ≤ 3) (hb : b ≤ 3) (h : vcd a b c) (hx : 0 < xN a c ∨ 0 < yN b c) : Nat.log2 (c % 128) < 6 := by
  have hl : c % 128 < 128 := Nat.mod_lt _ (by decide)
  have hpc := ln_f1 _ hl h.2.2.1
  have hv := h.2.2.2
  unfold xN yN at hx
  omega
theorem mv5 {a b c : Nat} (ha : a ≤ 3) (hb : b ≤ 3) (h : vcd a b c) (hx : 0 < xN a c) : (2 * oneN (c % 128) (eyN c) * 128 + othN (c % 128) (eyN c)) * 16 + (xN a c - 1) * 4 + yN b c = enc a b ((c / 128 + 1) * 128 + lgN (c % 128) (Nat.log2 (c % 128) - c / 128) 1) := by
  have hl : c % 128 < 128 := Nat.mod_lt _ (by decide)
  have h7 := ln_lt _ hl
  have hv := h.2.1
  have h6 := v6 ha hb h (Or.inl hx)
  have hey : Nat.log2 (c % 128) - c / 128 = eyN c := rfl
  have hpc := ln_f1 _ hl h.2.2.1
  have f := en_5 _ hl (eyN c) (by unfold eyN; omega) ⟨h.2.2.1, by unfold eyN; omega, h6⟩
  have g := ln_f3b _ hl (eyN c) (by unfold eyN; omega) ⟨h.2.2.1, by unfold eyN; omega, h6⟩
  rw [hey, enc_mk a b g.1, show Nat.log2 (lgN (c % 128) (eyN c) 1) - (c / 128 + 1) = eyN c by rw [g.2.2.1]; unfold eyN; omega, f.1, f.2, g.2.2.1, g.2.2.2]
  unfold xN yN at *
  omega
theorem mv6 {a b c : Nat} (ha : a ≤ 3) (hb : b ≤ 3) (h : vcd a b c) (hx : 0 < xN a c) : (oneN (c % 128) (eyN c) * 128 + 2 * othN (c % 128) (eyN c)) * 16 + (xN a c - 1) * 4 + yN b c = enc a b (c / 128 * 128 + lgN (c % 128) (Nat.log2 (c % 128) - c / 128) 1) := by
  have hl : c % 128 < 128 := Nat.mod_lt _ (by decide)
  have h7 := ln_lt _ hl
  have hv := h.2.1
  have h6 := v6 ha hb h (Or.inl hx)
  have hey : Nat.log2 (c % 128) - c / 128 = eyN c := rfl
  have hpc := ln_f1 _ hl h.2.2.1
  have f := en_6 _ hl (eyN c) (by unfold eyN; omega) ⟨h.2.2.1, by unfold eyN; omega, h6⟩
  have g := ln_f3b _ hl (eyN c) (by unfold eyN; omega) ⟨h.2.2.1, by unfold eyN; omega, h6⟩
  rw [hey, enc_mk a b g.1, show Nat.log2 (lgN (c % 128) (eyN c) 1) - c / 128 = eyN c + 1 by rw [g.2.2.1]; unfold eyN; omega, f.1, f.2, g.2.2.1, g.2.2.2]
  unfold xN yN at *
  omega
theorem mv7 {a b c : Nat} (ha : a ≤ 3) (hb : b ≤ 3) (h : vcd a b c) (hx : 0 < yN b c) : ((2 * oneN (c % 128) (eyN c) + 1) * 128 + othN (c % 128) (eyN c)) * 16 + xN a c * 4 + (yN b c - 1) = enc a b ((c / 128 + 1) * 128 + lgN (c % 128) (Nat.log2 (c % 128) - c / 128) 0) := by
  have hl : c % 128 < 128 := Nat.mod_lt _ (by decide)
  have h7 := ln_lt _ hl
  have hv := h.2.1
  have h6 := v6 ha hb h (Or.inr hx)
  have hey : Nat.log2 (c % 128) - c / 128 = eyN c := rfl
  have hpc := ln_f1 _ hl h.2.2.1
  have f := en_7 _ hl (eyN c) (by unfold eyN; omega) ⟨h.2.2.1, by unfold eyN; omega, h6⟩
  have g := ln_f3a _ hl (eyN c) (by unfold eyN; omega) ⟨h.2.2.1, by unfold eyN; omega, h6⟩
  rw [hey, enc_mk a b g.1, show Nat.log2 (lgN (c % 128) (eyN c) 0) - (c / 128 + 1) = eyN c by rw [g.2.2.1]; unfold eyN; omega, f.1, f.2, g.2.2.1, g.2.2.2]
  unfold xN yN at *
  omega
theorem mv8 {a b c : Nat} (ha : a ≤ 3) (hb : b ≤ 3) (h : vcd a b c) (hx : 0 < yN b c) : (oneN (c % 128) (eyN c) * 128 + (2 * othN (c % 128) (eyN c) + 1)) * 16 + xN a c * 4 + (yN b c - 1) = enc a b (c / 128 * 128 + lgN (c % 128) (Nat.log2 (c % 128) - c / 128) 0) := by
  have hl : c % 128 < 128 := Nat.mod_lt _ (by decide)
  have h7 := ln_lt _ hl
  have hv := h.2.1
  have h6 := v6 ha hb h (Or.inr hx)
  have hey : Nat.log2 (c % 128) - c / 128 = eyN c := rfl
  have hpc := ln_f1 _ hl h.2.2.1
  have f := en_8 _ hl (eyN c) (by unfold eyN; omega) ⟨h.2.2.1, by unfold eyN; omega, h6⟩
  have g := ln_f3a _ hl (eyN c) (by unfold eyN; omega) ⟨h.2.2.1, by unfold eyN; omega, h6⟩
  rw [hey, enc_mk a b g.1, show Nat.log2 (lgN (c % 128) (eyN c) 0) - c / 128 = eyN c + 1 by rw [g.2.2.1]; unfold eyN; omega, f.1, f.2, g.2.2.1, g.2.2.2]
  unfold xN yN at *
  omega
