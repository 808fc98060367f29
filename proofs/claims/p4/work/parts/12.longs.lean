/-! ints seen as longs -/
theorem i2l_lt {a b : Int32} : a.toInt64 < b.toInt64 ↔ a < b := by
  rw [Int64.lt_iff_toInt_lt, Int32.lt_iff_toInt_lt, Int32.toInt_toInt64, Int32.toInt_toInt64]
theorem i2l_le {a b : Int32} : a.toInt64 ≤ b.toInt64 ↔ a ≤ b := by
  rw [Int64.le_iff_toInt_le, Int32.le_iff_toInt_le, Int32.toInt_toInt64, Int32.toInt_toInt64]
theorem nsucc {a h k : Int32} (hk : k.toInt = h.toInt + 1) (c : ¬ h < a) : ¬ k ≤ a := by
  rw [Int32.lt_iff_toInt_lt] at c
  rw [Int32.le_iff_toInt_le]
  omega
theorem osucc {a lo h k : Int32} (hk : k.toInt = h.toInt + 1) (c : a < lo ∨ h < a) : a < lo ∨ k ≤ a := by
  rcases c with c | c
  · exact Or.inl c
  · right
    rw [Int32.lt_iff_toInt_lt] at c
    rw [Int32.le_iff_toInt_le]
    omega
theorem lv_topEl {p : Program} {l : Launch} {e : Env} {R : Room} {s : State} {m : MethodId} {args : Array Value} {below : List Frame} {meth : Method} {c : Code} {H : Heap} {locs : List Loc} {cells slots : Nat} {Q : State → Prop} {pc : Nat} {ls : Array Slot} {rest : List Value} {x y : Int64} (h : x = y) (kk : W p l e R s m args below meth c H locs cells slots Q (F0 m pc ls (.long y :: rest))) : W p l e R s m args below meth c H locs cells slots Q (F0 m pc ls (.long x :: rest)) := h ▸ kk
theorem no01 {a : Int32} : ¬ (0 ≤ a ∧ a ≤ 0 - 1) := by
  intro h
  have h1 := Int32.le_iff_toInt_le.mp h.1
  have h2 := Int32.le_iff_toInt_le.mp h.2
  have h3 : ((0 : Int32) - 1).toInt = -1 := by decide
  have h4 : (0 : Int32).toInt = 0 := by decide
  omega
theorem rcpy_0 (σ : Mem) (d s : Nat) : σ = rcpy σ d s 0 := by
  funext a
  by_cases h : a = d
  · subst h
    simp [rcpy]
  · simp [rcpy, h]
theorem rcpy_s (σ : Mem) {d s k : Nat} (h : s ≠ d) : stm (rcpy σ d s k) d k (σ s k) = rcpy σ d s (k + 1) := by
  funext a
  by_cases h1 : a = d
  · subst h1
    funext b
    by_cases h2 : b = k
    · simp [stm, rcpy, upd, h2]
    · by_cases h3 : b < k
      · have h4 : b < k + 1 := by omega
        simp [stm, rcpy, upd, h2, h3, h4]
      · have h4 : ¬ b < k + 1 := by omega
        simp [stm, rcpy, upd, h2, h3, h4]
  · simp [stm, rcpy, h1]
theorem shin {d : Int32} (h : ¬ (d < 0 ∨ 8 ≤ d)) : ∃ j : Nat, j < 8 ∧ d = nI j := ix8 (fun q => h (Or.inl q)) (Int32.not_le.mp (fun q => h (Or.inr q)))
/-- places lo .. lo + k - 1 of row i are 0 -/
def rzf (σ : Mem) (i lo k : Nat) : Mem := fun a => if a = i then (fun b => if lo ≤ b ∧ b < lo + k then 0 else σ i b) else σ a
theorem rzf_0 (σ : Mem) (i lo : Nat) : σ = rzf σ i lo 0 := by
  funext a
  by_cases h : a = i
  · subst h
    funext b
    have h2 : ¬ (lo ≤ b ∧ b < lo + 0) := by omega
    simp only [rzf, if_true, if_neg h2]
  · simp [rzf, h]
theorem rzf_s (σ : Mem) (i lo k : Nat) : stm (rzf σ i lo k) i (lo + k) 0 = rzf σ i lo (k + 1) := by
  funext a
  by_cases h : a = i
  · subst h
    funext b
    by_cases h1 : b = lo + k
    · have h2 : lo ≤ b ∧ b < lo + (k + 1) := by omega
      simp only [stm, rzf, if_true, upd, if_pos h1, if_pos h2]
    · by_cases h2 : lo ≤ b ∧ b < lo + k
      · have h3 : lo ≤ b ∧ b < lo + (k + 1) := by omega
        simp only [stm, rzf, if_true, upd, if_neg h1, if_pos h2, if_pos h3]
      · have h3 : ¬ (lo ≤ b ∧ b < lo + (k + 1)) := by omega
        simp only [stm, rzf, if_true, upd, if_neg h1, if_neg h2, if_neg h3]
  · simp [stm, rzf, h]
