section
/-! THE START: the explicit world of the constructors is the flat world with the memory sig0 -/
def AD (u v : Nat → Nat) (q3 : Nat) : Nat → Nat := fun i => if i < 66 then u (1 + i) else if i = 66 then u 0 else if i = 67 then u 67 else if i < 76 then u (75 + 2 * (i - 68)) else if i < 84 then u (76 + 2 * (i - 76)) else if i < 91 then u (i - 16) else if i < 105 then v (i - 91) else q3
def sig0 : Mem := fun i => if i = 92 then upd (upd (upd (upd (upd (upd (upd (upd (upd (fun _ => 0) 5 1) 6 1) 7 1) 8 1) 9 1) 10 1) 11 1) 12 1) 13 1 else if (kd i).1 = 9 then (fun _ => 0) else fun j => if i = 85 ∧ j = 0 then 86 else if i < 66 ∧ i % 22 = 0 ∧ (j = 8 ∨ j = 9 ∨ j = 10) then -4 else if i < 66 ∧ 15 ≤ i % 22 ∧ j = 6 then -2 else 0
def posOf (i : Nat) : Nat := ([1, 2, 3, 4, 5, 6, 7, 8, 9, 10, 11, 12, 13, 14, 15, 16, 17, 18, 19, 20, 21, 22, 23, 24, 25, 26, 27, 28, 29, 30, 31, 32, 33, 34, 35, 36, 37, 38, 39, 40, 41, 42, 43, 44, 45, 46, 47, 48, 49, 50, 51, 52, 53, 54, 55, 56, 57, 58, 59, 60, 61, 62, 63, 64, 65, 66, 0, 67, 75, 77, 79, 81, 83, 85, 87, 89, 76, 78, 80, 82, 84, 86, 88, 90, 68, 69, 70, 71, 72, 73, 74, 91, 92, 93, 94, 95, 96, 97, 98, 99, 100, 101, 102, 103, 104, 105] : List Nat).getD i 0
abbrev wAll (cA : Nat → ClassId) (u v : Nat → Nat) (q3 : Nat) : va_W := w_X7 cA u ++ w_X8 cA v ++ [(q3, .inl (cA 3, 1, .inr (.inl (fun _ => 0))))]
theorem posOf_inj : ∀ i, i < 106 → ∀ j, j < 106 → posOf i = posOf j → i = j := by decide +kernel
theorem up7 {f0 f1 f2 f3 f4 f5 f6 : Option Nat} (g : Nat → Option Nat) (h0 : g 0 = f0) (h1 : g 1 = f1) (h2 : g 2 = f2) (h3 : g 3 = f3) (h4 : g 4 = f4) (h5 : g 5 = f5) (h6 : g 6 = f6) (h7 : ∀ k, 7 ≤ k → g k = none) : va_up (va_up (va_up (va_up (va_up (va_up (va_up (fun _ => none) 0 f0) 1 f1) 2 f2) 3 f3) 4 f4) 5 f5) 6 f6 = g := by
  funext k
  rcases (show k = 0 ∨ k = 1 ∨ k = 2 ∨ k = 3 ∨ k = 4 ∨ k = 5 ∨ k = 6 ∨ 7 ≤ k by omega) with rfl | rfl | rfl | rfl | rfl | rfl | rfl | h
  · simp [va_up, h0]
  · simp [va_up, h1]
  · simp [va_up, h2]
  · simp [va_up, h3]
  · simp [va_up, h4]
  · simp [va_up, h5]
  · simp [va_up, h6]
  · rw [h7 k h]
    have e : ∀ n, n < 7 → ¬ k = n := fun n hn => by omega
    simp [va_up, e]
theorem up8 {f0 f1 f2 f3 f4 f5 f6 f7 : Option Nat} (g : Nat → Option Nat) (h0 : g 0 = f0) (h1 : g 1 = f1) (h2 : g 2 = f2) (h3 : g 3 = f3) (h4 : g 4 = f4) (h5 : g 5 = f5) (h6 : g 6 = f6) (h7 : g 7 = f7) (h8 : ∀ k, 8 ≤ k → g k = none) : va_up (va_up (va_up (va_up (va_up (va_up (va_up (va_up (fun _ => none) 0 f0) 1 f1) 2 f2) 3 f3) 4 f4) 5 f5) 6 f6) 7 f7 = g := by
  funext k
  rcases (show k = 0 ∨ k = 1 ∨ k = 2 ∨ k = 3 ∨ k = 4 ∨ k = 5 ∨ k = 6 ∨ k = 7 ∨ 8 ≤ k by omega) with rfl | rfl | rfl | rfl | rfl | rfl | rfl | rfl | h
  · simp [va_up, h0]
  · simp [va_up, h1]
  · simp [va_up, h2]
  · simp [va_up, h3]
  · simp [va_up, h4]
  · simp [va_up, h5]
  · simp [va_up, h6]
  · simp [va_up, h7]
  · rw [h8 k h]
    have e : ∀ n, n < 8 → ¬ k = n := fun n hn => by omega
    simp [va_up, e]
theorem lkn7 {i k : Nat} (hi : i = 13 ∨ i = 35 ∨ i = 57) (h : 7 ≤ k) : lk i k = none := by
  have h' : ¬ k < 7 := by omega
  rcases hi with rfl | rfl | rfl <;> simp [lk, h']
theorem lkn8 {k : Nat} (h : 8 ≤ k) : lk 67 k = none := by
  have h' : ¬ k < 8 := by omega
  simp [lk, h']
set_option maxRecDepth 100000 in
theorem at_0 (cA : Nat → ClassId) (u v : Nat → Nat) (q3 : Nat) : (wAll cA u v q3)[1]? = some (AD u v q3 0, cel cA (AD u v q3) 0 (sig0 0) 0) := rfl
set_option maxRecDepth 100000 in
theorem at_1 (cA : Nat → ClassId) (u v : Nat → Nat) (q3 : Nat) : (wAll cA u v q3)[2]? = some (AD u v q3 1, cel cA (AD u v q3) 0 (sig0 1) 1) := rfl
set_option maxRecDepth 100000 in
theorem at_2 (cA : Nat → ClassId) (u v : Nat → Nat) (q3 : Nat) : (wAll cA u v q3)[3]? = some (AD u v q3 2, cel cA (AD u v q3) 0 (sig0 2) 2) := rfl
set_option maxRecDepth 100000 in
theorem at_3 (cA : Nat → ClassId) (u v : Nat → Nat) (q3 : Nat) : (wAll cA u v q3)[4]? = some (AD u v q3 3, cel cA (AD u v q3) 0 (sig0 3) 3) := rfl
set_option maxRecDepth 100000 in
theorem at_4 (cA : Nat → ClassId) (u v : Nat → Nat) (q3 : Nat) : (wAll cA u v q3)[5]? = some (AD u v q3 4, cel cA (AD u v q3) 0 (sig0 4) 4) := rfl
set_option maxRecDepth 100000 in
theorem at_5 (cA : Nat → ClassId) (u v : Nat → Nat) (q3 : Nat) : (wAll cA u v q3)[6]? = some (AD u v q3 5, cel cA (AD u v q3) 0 (sig0 5) 5) := rfl
set_option maxRecDepth 100000 in
theorem at_6 (cA : Nat → ClassId) (u v : Nat → Nat) (q3 : Nat) : (wAll cA u v q3)[7]? = some (AD u v q3 6, cel cA (AD u v q3) 0 (sig0 6) 6) := rfl
set_option maxRecDepth 100000 in
theorem at_7 (cA : Nat → ClassId) (u v : Nat → Nat) (q3 : Nat) : (wAll cA u v q3)[8]? = some (AD u v q3 7, cel cA (AD u v q3) 0 (sig0 7) 7) := rfl
set_option maxRecDepth 100000 in
theorem at_8 (cA : Nat → ClassId) (u v : Nat → Nat) (q3 : Nat) : (wAll cA u v q3)[9]? = some (AD u v q3 8, cel cA (AD u v q3) 0 (sig0 8) 8) := rfl
set_option maxRecDepth 100000 in
theorem at_9 (cA : Nat → ClassId) (u v : Nat → Nat) (q3 : Nat) : (wAll cA u v q3)[10]? = some (AD u v q3 9, cel cA (AD u v q3) 0 (sig0 9) 9) := rfl
set_option maxRecDepth 100000 in
theorem at_10 (cA : Nat → ClassId) (u v : Nat → Nat) (q3 : Nat) : (wAll cA u v q3)[11]? = some (AD u v q3 10, cel cA (AD u v q3) 0 (sig0 10) 10) := rfl
set_option maxRecDepth 100000 in
theorem at_11 (cA : Nat → ClassId) (u v : Nat → Nat) (q3 : Nat) : (wAll cA u v q3)[12]? = some (AD u v q3 11, cel cA (AD u v q3) 0 (sig0 11) 11) := rfl
set_option maxRecDepth 100000 in
theorem at_12 (cA : Nat → ClassId) (u v : Nat → Nat) (q3 : Nat) : (wAll cA u v q3)[13]? = some (AD u v q3 12, cel cA (AD u v q3) 0 (sig0 12) 12) := rfl
set_option maxRecDepth 100000 in
theorem at_13 (cA : Nat → ClassId) (u v : Nat → Nat) (q3 : Nat) : (wAll cA u v q3)[14]? = some (AD u v q3 13, cel cA (AD u v q3) 0 (sig0 13) 13) := congrArg (fun f : Nat → Option Nat => some (u 14, (Sum.inl (cA 1, 7, Sum.inr (Sum.inr (Sum.inr (Sum.inr f)))) : va_E))) (up7 (fun k => (lk 13 k).map (AD u v q3)) rfl rfl rfl rfl rfl rfl rfl (fun k h => by rw [lkn7 (by decide) h]; rfl))
set_option maxRecDepth 100000 in
theorem at_14 (cA : Nat → ClassId) (u v : Nat → Nat) (q3 : Nat) : (wAll cA u v q3)[15]? = some (AD u v q3 14, cel cA (AD u v q3) 0 (sig0 14) 14) := rfl
set_option maxRecDepth 100000 in
theorem at_15 (cA : Nat → ClassId) (u v : Nat → Nat) (q3 : Nat) : (wAll cA u v q3)[16]? = some (AD u v q3 15, cel cA (AD u v q3) 0 (sig0 15) 15) := rfl
set_option maxRecDepth 100000 in
theorem at_16 (cA : Nat → ClassId) (u v : Nat → Nat) (q3 : Nat) : (wAll cA u v q3)[17]? = some (AD u v q3 16, cel cA (AD u v q3) 0 (sig0 16) 16) := rfl
set_option maxRecDepth 100000 in
theorem at_17 (cA : Nat → ClassId) (u v : Nat → Nat) (q3 : Nat) : (wAll cA u v q3)[18]? = some (AD u v q3 17, cel cA (AD u v q3) 0 (sig0 17) 17) := rfl
set_option maxRecDepth 100000 in
theorem at_18 (cA : Nat → ClassId) (u v : Nat → Nat) (q3 : Nat) : (wAll cA u v q3)[19]? = some (AD u v q3 18, cel cA (AD u v q3) 0 (sig0 18) 18) := rfl
set_option maxRecDepth 100000 in
theorem at_19 (cA : Nat → ClassId) (u v : Nat → Nat) (q3 : Nat) : (wAll cA u v q3)[20]? = some (AD u v q3 19, cel cA (AD u v q3) 0 (sig0 19) 19) := rfl
set_option maxRecDepth 100000 in
theorem at_20 (cA : Nat → ClassId) (u v : Nat → Nat) (q3 : Nat) : (wAll cA u v q3)[21]? = some (AD u v q3 20, cel cA (AD u v q3) 0 (sig0 20) 20) := rfl
set_option maxRecDepth 100000 in
theorem at_21 (cA : Nat → ClassId) (u v : Nat → Nat) (q3 : Nat) : (wAll cA u v q3)[22]? = some (AD u v q3 21, cel cA (AD u v q3) 0 (sig0 21) 21) := rfl
set_option maxRecDepth 100000 in
theorem at_22 (cA : Nat → ClassId) (u v : Nat → Nat) (q3 : Nat) : (wAll cA u v q3)[23]? = some (AD u v q3 22, cel cA (AD u v q3) 0 (sig0 22) 22) := rfl
set_option maxRecDepth 100000 in
theorem at_23 (cA : Nat → ClassId) (u v : Nat → Nat) (q3 : Nat) : (wAll cA u v q3)[24]? = some (AD u v q3 23, cel cA (AD u v q3) 0 (sig0 23) 23) := rfl
set_option maxRecDepth 100000 in
theorem at_24 (cA : Nat → ClassId) (u v : Nat → Nat) (q3 : Nat) : (wAll cA u v q3)[25]? = some (AD u v q3 24, cel cA (AD u v q3) 0 (sig0 24) 24) := rfl
set_option maxRecDepth 100000 in
theorem at_25 (cA : Nat → ClassId) (u v : Nat → Nat) (q3 : Nat) : (wAll cA u v q3)[26]? = some (AD u v q3 25, cel cA (AD u v q3) 0 (sig0 25) 25) := rfl
set_option maxRecDepth 100000 in
theorem at_26 (cA : Nat → ClassId) (u v : Nat → Nat) (q3 : Nat) : (wAll cA u v q3)[27]? = some (AD u v q3 26, cel cA (AD u v q3) 0 (sig0 26) 26) := rfl
set_option maxRecDepth 100000 in
theorem at_27 (cA : Nat → ClassId) (u v : Nat → Nat) (q3 : Nat) : (wAll cA u v q3)[28]? = some (AD u v q3 27, cel cA (AD u v q3) 0 (sig0 27) 27) := rfl
set_option maxRecDepth 100000 in
theorem at_28 (cA : Nat → ClassId) (u v : Nat → Nat) (q3 : Nat) : (wAll cA u v q3)[29]? = some (AD u v q3 28, cel cA (AD u v q3) 0 (sig0 28) 28) := rfl
set_option maxRecDepth 100000 in
theorem at_29 (cA : Nat → ClassId) (u v : Nat → Nat) (q3 : Nat) : (wAll cA u v q3)[30]? = some (AD u v q3 29, cel cA (AD u v q3) 0 (sig0 29) 29) := rfl
set_option maxRecDepth 100000 in
theorem at_30 (cA : Nat → ClassId) (u v : Nat → Nat) (q3 : Nat) : (wAll cA u v q3)[31]? = some (AD u v q3 30, cel cA (AD u v q3) 0 (sig0 30) 30) := rfl
set_option maxRecDepth 100000 in
theorem at_31 (cA : Nat → ClassId) (u v : Nat → Nat) (q3 : Nat) : (wAll cA u v q3)[32]? = some (AD u v q3 31, cel cA (AD u v q3) 0 (sig0 31) 31) := rfl
set_option maxRecDepth 100000 in
theorem at_32 (cA : Nat → ClassId) (u v : Nat → Nat) (q3 : Nat) : (wAll cA u v q3)[33]? = some (AD u v q3 32, cel cA (AD u v q3) 0 (sig0 32) 32) := rfl
set_option maxRecDepth 100000 in
theorem at_33 (cA : Nat → ClassId) (u v : Nat → Nat) (q3 : Nat) : (wAll cA u v q3)[34]? = some (AD u v q3 33, cel cA (AD u v q3) 0 (sig0 33) 33) := rfl
set_option maxRecDepth 100000 in
theorem at_34 (cA : Nat → ClassId) (u v : Nat → Nat) (q3 : Nat) : (wAll cA u v q3)[35]? = some (AD u v q3 34, cel cA (AD u v q3) 0 (sig0 34) 34) := rfl
set_option maxRecDepth 100000 in
theorem at_35 (cA : Nat → ClassId) (u v : Nat → Nat) (q3 : Nat) : (wAll cA u v q3)[36]? = some (AD u v q3 35, cel cA (AD u v q3) 0 (sig0 35) 35) := congrArg (fun f : Nat → Option Nat => some (u 36, (Sum.inl (cA 1, 7, Sum.inr (Sum.inr (Sum.inr (Sum.inr f)))) : va_E))) (up7 (fun k => (lk 35 k).map (AD u v q3)) rfl rfl rfl rfl rfl rfl rfl (fun k h => by rw [lkn7 (by decide) h]; rfl))
set_option maxRecDepth 100000 in
theorem at_36 (cA : Nat → ClassId) (u v : Nat → Nat) (q3 : Nat) : (wAll cA u v q3)[37]? = some (AD u v q3 36, cel cA (AD u v q3) 0 (sig0 36) 36) := rfl
set_option maxRecDepth 100000 in
theorem at_37 (cA : Nat → ClassId) (u v : Nat → Nat) (q3 : Nat) : (wAll cA u v q3)[38]? = some (AD u v q3 37, cel cA (AD u v q3) 0 (sig0 37) 37) := rfl
set_option maxRecDepth 100000 in
theorem at_38 (cA : Nat → ClassId) (u v : Nat → Nat) (q3 : Nat) : (wAll cA u v q3)[39]? = some (AD u v q3 38, cel cA (AD u v q3) 0 (sig0 38) 38) := rfl
set_option maxRecDepth 100000 in
theorem at_39 (cA : Nat → ClassId) (u v : Nat → Nat) (q3 : Nat) : (wAll cA u v q3)[40]? = some (AD u v q3 39, cel cA (AD u v q3) 0 (sig0 39) 39) := rfl
set_option maxRecDepth 100000 in
theorem at_40 (cA : Nat → ClassId) (u v : Nat → Nat) (q3 : Nat) : (wAll cA u v q3)[41]? = some (AD u v q3 40, cel cA (AD u v q3) 0 (sig0 40) 40) := rfl
set_option maxRecDepth 100000 in
theorem at_41 (cA : Nat → ClassId) (u v : Nat → Nat) (q3 : Nat) : (wAll cA u v q3)[42]? = some (AD u v q3 41, cel cA (AD u v q3) 0 (sig0 41) 41) := rfl
set_option maxRecDepth 100000 in
theorem at_42 (cA : Nat → ClassId) (u v : Nat → Nat) (q3 : Nat) : (wAll cA u v q3)[43]? = some (AD u v q3 42, cel cA (AD u v q3) 0 (sig0 42) 42) := rfl
set_option maxRecDepth 100000 in
theorem at_43 (cA : Nat → ClassId) (u v : Nat → Nat) (q3 : Nat) : (wAll cA u v q3)[44]? = some (AD u v q3 43, cel cA (AD u v q3) 0 (sig0 43) 43) := rfl
set_option maxRecDepth 100000 in
theorem at_44 (cA : Nat → ClassId) (u v : Nat → Nat) (q3 : Nat) : (wAll cA u v q3)[45]? = some (AD u v q3 44, cel cA (AD u v q3) 0 (sig0 44) 44) := rfl
set_option maxRecDepth 100000 in
theorem at_45 (cA : Nat → ClassId) (u v : Nat → Nat) (q3 : Nat) : (wAll cA u v q3)[46]? = some (AD u v q3 45, cel cA (AD u v q3) 0 (sig0 45) 45) := rfl
set_option maxRecDepth 100000 in
theorem at_46 (cA : Nat → ClassId) (u v : Nat → Nat) (q3 : Nat) : (wAll cA u v q3)[47]? = some (AD u v q3 46, cel cA (AD u v q3) 0 (sig0 46) 46) := rfl
set_option maxRecDepth 100000 in
theorem at_47 (cA : Nat → ClassId) (u v : Nat → Nat) (q3 : Nat) : (wAll cA u v q3)[48]? = some (AD u v q3 47, cel cA (AD u v q3) 0 (sig0 47) 47) := rfl
set_option maxRecDepth 100000 in
theorem at_48 (cA : Nat → ClassId) (u v : Nat → Nat) (q3 : Nat) : (wAll cA u v q3)[49]? = some (AD u v q3 48, cel cA (AD u v q3) 0 (sig0 48) 48) := rfl
set_option maxRecDepth 100000 in
theorem at_49 (cA : Nat → ClassId) (u v : Nat → Nat) (q3 : Nat) : (wAll cA u v q3)[50]? = some (AD u v q3 49, cel cA (AD u v q3) 0 (sig0 49) 49) := rfl
set_option maxRecDepth 100000 in
theorem at_50 (cA : Nat → ClassId) (u v : Nat → Nat) (q3 : Nat) : (wAll cA u v q3)[51]? = some (AD u v q3 50, cel cA (AD u v q3) 0 (sig0 50) 50) := rfl
set_option maxRecDepth 100000 in
theorem at_51 (cA : Nat → ClassId) (u v : Nat → Nat) (q3 : Nat) : (wAll cA u v q3)[52]? = some (AD u v q3 51, cel cA (AD u v q3) 0 (sig0 51) 51) := rfl
set_option maxRecDepth 100000 in
theorem at_52 (cA : Nat → ClassId) (u v : Nat → Nat) (q3 : Nat) : (wAll cA u v q3)[53]? = some (AD u v q3 52, cel cA (AD u v q3) 0 (sig0 52) 52) := rfl
set_option maxRecDepth 100000 in
theorem at_53 (cA : Nat → ClassId) (u v : Nat → Nat) (q3 : Nat) : (wAll cA u v q3)[54]? = some (AD u v q3 53, cel cA (AD u v q3) 0 (sig0 53) 53) := rfl
set_option maxRecDepth 100000 in
theorem at_54 (cA : Nat → ClassId) (u v : Nat → Nat) (q3 : Nat) : (wAll cA u v q3)[55]? = some (AD u v q3 54, cel cA (AD u v q3) 0 (sig0 54) 54) := rfl
set_option maxRecDepth 100000 in
theorem at_55 (cA : Nat → ClassId) (u v : Nat → Nat) (q3 : Nat) : (wAll cA u v q3)[56]? = some (AD u v q3 55, cel cA (AD u v q3) 0 (sig0 55) 55) := rfl
set_option maxRecDepth 100000 in
theorem at_56 (cA : Nat → ClassId) (u v : Nat → Nat) (q3 : Nat) : (wAll cA u v q3)[57]? = some (AD u v q3 56, cel cA (AD u v q3) 0 (sig0 56) 56) := rfl
set_option maxRecDepth 100000 in
theorem at_57 (cA : Nat → ClassId) (u v : Nat → Nat) (q3 : Nat) : (wAll cA u v q3)[58]? = some (AD u v q3 57, cel cA (AD u v q3) 0 (sig0 57) 57) := congrArg (fun f : Nat → Option Nat => some (u 58, (Sum.inl (cA 1, 7, Sum.inr (Sum.inr (Sum.inr (Sum.inr f)))) : va_E))) (up7 (fun k => (lk 57 k).map (AD u v q3)) rfl rfl rfl rfl rfl rfl rfl (fun k h => by rw [lkn7 (by decide) h]; rfl))
set_option maxRecDepth 100000 in
theorem at_58 (cA : Nat → ClassId) (u v : Nat → Nat) (q3 : Nat) : (wAll cA u v q3)[59]? = some (AD u v q3 58, cel cA (AD u v q3) 0 (sig0 58) 58) := rfl
set_option maxRecDepth 100000 in
theorem at_59 (cA : Nat → ClassId) (u v : Nat → Nat) (q3 : Nat) : (wAll cA u v q3)[60]? = some (AD u v q3 59, cel cA (AD u v q3) 0 (sig0 59) 59) := rfl
set_option maxRecDepth 100000 in
theorem at_60 (cA : Nat → ClassId) (u v : Nat → Nat) (q3 : Nat) : (wAll cA u v q3)[61]? = some (AD u v q3 60, cel cA (AD u v q3) 0 (sig0 60) 60) := rfl
set_option maxRecDepth 100000 in
theorem at_61 (cA : Nat → ClassId) (u v : Nat → Nat) (q3 : Nat) : (wAll cA u v q3)[62]? = some (AD u v q3 61, cel cA (AD u v q3) 0 (sig0 61) 61) := rfl
set_option maxRecDepth 100000 in
theorem at_62 (cA : Nat → ClassId) (u v : Nat → Nat) (q3 : Nat) : (wAll cA u v q3)[63]? = some (AD u v q3 62, cel cA (AD u v q3) 0 (sig0 62) 62) := rfl
set_option maxRecDepth 100000 in
theorem at_63 (cA : Nat → ClassId) (u v : Nat → Nat) (q3 : Nat) : (wAll cA u v q3)[64]? = some (AD u v q3 63, cel cA (AD u v q3) 0 (sig0 63) 63) := rfl
set_option maxRecDepth 100000 in
theorem at_64 (cA : Nat → ClassId) (u v : Nat → Nat) (q3 : Nat) : (wAll cA u v q3)[65]? = some (AD u v q3 64, cel cA (AD u v q3) 0 (sig0 64) 64) := rfl
set_option maxRecDepth 100000 in
theorem at_65 (cA : Nat → ClassId) (u v : Nat → Nat) (q3 : Nat) : (wAll cA u v q3)[66]? = some (AD u v q3 65, cel cA (AD u v q3) 0 (sig0 65) 65) := rfl
set_option maxRecDepth 100000 in
theorem at_66 (cA : Nat → ClassId) (u v : Nat → Nat) (q3 : Nat) : (wAll cA u v q3)[0]? = some (AD u v q3 66, cel cA (AD u v q3) 0 (sig0 66) 66) := rfl
set_option maxRecDepth 100000 in
theorem at_67 (cA : Nat → ClassId) (u v : Nat → Nat) (q3 : Nat) : (wAll cA u v q3)[67]? = some (AD u v q3 67, cel cA (AD u v q3) 0 (sig0 67) 67) := congrArg (fun f : Nat → Option Nat => some (u 67, (Sum.inl (cA 2, 8, Sum.inr (Sum.inr (Sum.inr (Sum.inr f)))) : va_E))) (up8 (fun k => (lk 67 k).map (AD u v q3)) rfl rfl rfl rfl rfl rfl rfl rfl (fun k h => by rw [lkn8 h]; rfl))
set_option maxRecDepth 100000 in
theorem at_68 (cA : Nat → ClassId) (u v : Nat → Nat) (q3 : Nat) : (wAll cA u v q3)[75]? = some (AD u v q3 68, cel cA (AD u v q3) 0 (sig0 68) 68) := rfl
set_option maxRecDepth 100000 in
theorem at_69 (cA : Nat → ClassId) (u v : Nat → Nat) (q3 : Nat) : (wAll cA u v q3)[77]? = some (AD u v q3 69, cel cA (AD u v q3) 0 (sig0 69) 69) := rfl
set_option maxRecDepth 100000 in
theorem at_70 (cA : Nat → ClassId) (u v : Nat → Nat) (q3 : Nat) : (wAll cA u v q3)[79]? = some (AD u v q3 70, cel cA (AD u v q3) 0 (sig0 70) 70) := rfl
set_option maxRecDepth 100000 in
theorem at_71 (cA : Nat → ClassId) (u v : Nat → Nat) (q3 : Nat) : (wAll cA u v q3)[81]? = some (AD u v q3 71, cel cA (AD u v q3) 0 (sig0 71) 71) := rfl
set_option maxRecDepth 100000 in
theorem at_72 (cA : Nat → ClassId) (u v : Nat → Nat) (q3 : Nat) : (wAll cA u v q3)[83]? = some (AD u v q3 72, cel cA (AD u v q3) 0 (sig0 72) 72) := rfl
set_option maxRecDepth 100000 in
theorem at_73 (cA : Nat → ClassId) (u v : Nat → Nat) (q3 : Nat) : (wAll cA u v q3)[85]? = some (AD u v q3 73, cel cA (AD u v q3) 0 (sig0 73) 73) := rfl
set_option maxRecDepth 100000 in
theorem at_74 (cA : Nat → ClassId) (u v : Nat → Nat) (q3 : Nat) : (wAll cA u v q3)[87]? = some (AD u v q3 74, cel cA (AD u v q3) 0 (sig0 74) 74) := rfl
set_option maxRecDepth 100000 in
theorem at_75 (cA : Nat → ClassId) (u v : Nat → Nat) (q3 : Nat) : (wAll cA u v q3)[89]? = some (AD u v q3 75, cel cA (AD u v q3) 0 (sig0 75) 75) := rfl
set_option maxRecDepth 100000 in
theorem at_76 (cA : Nat → ClassId) (u v : Nat → Nat) (q3 : Nat) : (wAll cA u v q3)[76]? = some (AD u v q3 76, cel cA (AD u v q3) 0 (sig0 76) 76) := rfl
set_option maxRecDepth 100000 in
theorem at_77 (cA : Nat → ClassId) (u v : Nat → Nat) (q3 : Nat) : (wAll cA u v q3)[78]? = some (AD u v q3 77, cel cA (AD u v q3) 0 (sig0 77) 77) := rfl
set_option maxRecDepth 100000 in
theorem at_78 (cA : Nat → ClassId) (u v : Nat → Nat) (q3 : Nat) : (wAll cA u v q3)[80]? = some (AD u v q3 78, cel cA (AD u v q3) 0 (sig0 78) 78) := rfl
set_option maxRecDepth 100000 in
theorem at_79 (cA : Nat → ClassId) (u v : Nat → Nat) (q3 : Nat) : (wAll cA u v q3)[82]? = some (AD u v q3 79, cel cA (AD u v q3) 0 (sig0 79) 79) := rfl
set_option maxRecDepth 100000 in
theorem at_80 (cA : Nat → ClassId) (u v : Nat → Nat) (q3 : Nat) : (wAll cA u v q3)[84]? = some (AD u v q3 80, cel cA (AD u v q3) 0 (sig0 80) 80) := rfl
set_option maxRecDepth 100000 in
theorem at_81 (cA : Nat → ClassId) (u v : Nat → Nat) (q3 : Nat) : (wAll cA u v q3)[86]? = some (AD u v q3 81, cel cA (AD u v q3) 0 (sig0 81) 81) := rfl
set_option maxRecDepth 100000 in
theorem at_82 (cA : Nat → ClassId) (u v : Nat → Nat) (q3 : Nat) : (wAll cA u v q3)[88]? = some (AD u v q3 82, cel cA (AD u v q3) 0 (sig0 82) 82) := rfl
set_option maxRecDepth 100000 in
theorem at_83 (cA : Nat → ClassId) (u v : Nat → Nat) (q3 : Nat) : (wAll cA u v q3)[90]? = some (AD u v q3 83, cel cA (AD u v q3) 0 (sig0 83) 83) := rfl
set_option maxRecDepth 100000 in
theorem at_84 (cA : Nat → ClassId) (u v : Nat → Nat) (q3 : Nat) : (wAll cA u v q3)[68]? = some (AD u v q3 84, cel cA (AD u v q3) 0 (sig0 84) 84) := rfl
set_option maxRecDepth 100000 in
theorem at_85 (cA : Nat → ClassId) (u v : Nat → Nat) (q3 : Nat) : (wAll cA u v q3)[69]? = some (AD u v q3 85, cel cA (AD u v q3) 0 (sig0 85) 85) := rfl
set_option maxRecDepth 100000 in
theorem at_86 (cA : Nat → ClassId) (u v : Nat → Nat) (q3 : Nat) : (wAll cA u v q3)[70]? = some (AD u v q3 86, cel cA (AD u v q3) 0 (sig0 86) 86) := rfl
set_option maxRecDepth 100000 in
theorem at_87 (cA : Nat → ClassId) (u v : Nat → Nat) (q3 : Nat) : (wAll cA u v q3)[71]? = some (AD u v q3 87, cel cA (AD u v q3) 0 (sig0 87) 87) := rfl
set_option maxRecDepth 100000 in
theorem at_88 (cA : Nat → ClassId) (u v : Nat → Nat) (q3 : Nat) : (wAll cA u v q3)[72]? = some (AD u v q3 88, cel cA (AD u v q3) 0 (sig0 88) 88) := rfl
set_option maxRecDepth 100000 in
theorem at_89 (cA : Nat → ClassId) (u v : Nat → Nat) (q3 : Nat) : (wAll cA u v q3)[73]? = some (AD u v q3 89, cel cA (AD u v q3) 0 (sig0 89) 89) := rfl
set_option maxRecDepth 100000 in
theorem at_90 (cA : Nat → ClassId) (u v : Nat → Nat) (q3 : Nat) : (wAll cA u v q3)[74]? = some (AD u v q3 90, cel cA (AD u v q3) 0 (sig0 90) 90) := rfl
set_option maxRecDepth 100000 in
theorem at_91 (cA : Nat → ClassId) (u v : Nat → Nat) (q3 : Nat) : (wAll cA u v q3)[91]? = some (AD u v q3 91, cel cA (AD u v q3) 0 (sig0 91) 91) := rfl
set_option maxRecDepth 100000 in
theorem at_92 (cA : Nat → ClassId) (u v : Nat → Nat) (q3 : Nat) : (wAll cA u v q3)[92]? = some (AD u v q3 92, cel cA (AD u v q3) 0 (sig0 92) 92) := rfl
set_option maxRecDepth 100000 in
theorem at_93 (cA : Nat → ClassId) (u v : Nat → Nat) (q3 : Nat) : (wAll cA u v q3)[93]? = some (AD u v q3 93, cel cA (AD u v q3) 0 (sig0 93) 93) := rfl
set_option maxRecDepth 100000 in
theorem at_94 (cA : Nat → ClassId) (u v : Nat → Nat) (q3 : Nat) : (wAll cA u v q3)[94]? = some (AD u v q3 94, cel cA (AD u v q3) 0 (sig0 94) 94) := rfl
set_option maxRecDepth 100000 in
theorem at_95 (cA : Nat → ClassId) (u v : Nat → Nat) (q3 : Nat) : (wAll cA u v q3)[95]? = some (AD u v q3 95, cel cA (AD u v q3) 0 (sig0 95) 95) := rfl
set_option maxRecDepth 100000 in
theorem at_96 (cA : Nat → ClassId) (u v : Nat → Nat) (q3 : Nat) : (wAll cA u v q3)[96]? = some (AD u v q3 96, cel cA (AD u v q3) 0 (sig0 96) 96) := rfl
set_option maxRecDepth 100000 in
theorem at_97 (cA : Nat → ClassId) (u v : Nat → Nat) (q3 : Nat) : (wAll cA u v q3)[97]? = some (AD u v q3 97, cel cA (AD u v q3) 0 (sig0 97) 97) := rfl
set_option maxRecDepth 100000 in
theorem at_98 (cA : Nat → ClassId) (u v : Nat → Nat) (q3 : Nat) : (wAll cA u v q3)[98]? = some (AD u v q3 98, cel cA (AD u v q3) 0 (sig0 98) 98) := rfl
set_option maxRecDepth 100000 in
theorem at_99 (cA : Nat → ClassId) (u v : Nat → Nat) (q3 : Nat) : (wAll cA u v q3)[99]? = some (AD u v q3 99, cel cA (AD u v q3) 0 (sig0 99) 99) := rfl
set_option maxRecDepth 100000 in
theorem at_100 (cA : Nat → ClassId) (u v : Nat → Nat) (q3 : Nat) : (wAll cA u v q3)[100]? = some (AD u v q3 100, cel cA (AD u v q3) 0 (sig0 100) 100) := rfl
set_option maxRecDepth 100000 in
theorem at_101 (cA : Nat → ClassId) (u v : Nat → Nat) (q3 : Nat) : (wAll cA u v q3)[101]? = some (AD u v q3 101, cel cA (AD u v q3) 0 (sig0 101) 101) := rfl
set_option maxRecDepth 100000 in
theorem at_102 (cA : Nat → ClassId) (u v : Nat → Nat) (q3 : Nat) : (wAll cA u v q3)[102]? = some (AD u v q3 102, cel cA (AD u v q3) 0 (sig0 102) 102) := rfl
set_option maxRecDepth 100000 in
theorem at_103 (cA : Nat → ClassId) (u v : Nat → Nat) (q3 : Nat) : (wAll cA u v q3)[103]? = some (AD u v q3 103, cel cA (AD u v q3) 0 (sig0 103) 103) := rfl
set_option maxRecDepth 100000 in
theorem at_104 (cA : Nat → ClassId) (u v : Nat → Nat) (q3 : Nat) : (wAll cA u v q3)[104]? = some (AD u v q3 104, cel cA (AD u v q3) 0 (sig0 104) 104) := rfl
set_option maxRecDepth 100000 in
theorem at_105 (cA : Nat → ClassId) (u v : Nat → Nat) (q3 : Nat) : (wAll cA u v q3)[105]? = some (AD u v q3 105, cel cA (AD u v q3) 0 (sig0 105) 105) := rfl
theorem at_all (cA : Nat → ClassId) (u v : Nat → Nat) (q3 : Nat) : ∀ i, i < 106 → (wAll cA u v q3)[posOf i]? = some (AD u v q3 i, cel cA (AD u v q3) 0 (sig0 i) i)
  | 0, _ => at_0 cA u v q3
  | 1, _ => at_1 cA u v q3
  | 2, _ => at_2 cA u v q3
  | 3, _ => at_3 cA u v q3
  | 4, _ => at_4 cA u v q3
  | 5, _ => at_5 cA u v q3
  | 6, _ => at_6 cA u v q3
  | 7, _ => at_7 cA u v q3
  | 8, _ => at_8 cA u v q3
  | 9, _ => at_9 cA u v q3
  | 10, _ => at_10 cA u v q3
  | 11, _ => at_11 cA u v q3
  | 12, _ => at_12 cA u v q3
  | 13, _ => at_13 cA u v q3
  | 14, _ => at_14 cA u v q3
  | 15, _ => at_15 cA u v q3
  | 16, _ => at_16 cA u v q3
  | 17, _ => at_17 cA u v q3
  | 18, _ => at_18 cA u v q3
  | 19, _ => at_19 cA u v q3
  | 20, _ => at_20 cA u v q3
  | 21, _ => at_21 cA u v q3
  | 22, _ => at_22 cA u v q3
  | 23, _ => at_23 cA u v q3
  | 24, _ => at_24 cA u v q3
  | 25, _ => at_25 cA u v q3
  | 26, _ => at_26 cA u v q3
  | 27, _ => at_27 cA u v q3
  | 28, _ => at_28 cA u v q3
  | 29, _ => at_29 cA u v q3
  | 30, _ => at_30 cA u v q3
  | 31, _ => at_31 cA u v q3
  | 32, _ => at_32 cA u v q3
  | 33, _ => at_33 cA u v q3
  | 34, _ => at_34 cA u v q3
  | 35, _ => at_35 cA u v q3
  | 36, _ => at_36 cA u v q3
  | 37, _ => at_37 cA u v q3
  | 38, _ => at_38 cA u v q3
  | 39, _ => at_39 cA u v q3
  | 40, _ => at_40 cA u v q3
  | 41, _ => at_41 cA u v q3
  | 42, _ => at_42 cA u v q3
  | 43, _ => at_43 cA u v q3
  | 44, _ => at_44 cA u v q3
  | 45, _ => at_45 cA u v q3
  | 46, _ => at_46 cA u v q3
  | 47, _ => at_47 cA u v q3
  | 48, _ => at_48 cA u v q3
  | 49, _ => at_49 cA u v q3
  | 50, _ => at_50 cA u v q3
  | 51, _ => at_51 cA u v q3
  | 52, _ => at_52 cA u v q3
  | 53, _ => at_53 cA u v q3
  | 54, _ => at_54 cA u v q3
  | 55, _ => at_55 cA u v q3
  | 56, _ => at_56 cA u v q3
  | 57, _ => at_57 cA u v q3
  | 58, _ => at_58 cA u v q3
  | 59, _ => at_59 cA u v q3
  | 60, _ => at_60 cA u v q3
  | 61, _ => at_61 cA u v q3
  | 62, _ => at_62 cA u v q3
  | 63, _ => at_63 cA u v q3
  | 64, _ => at_64 cA u v q3
  | 65, _ => at_65 cA u v q3
  | 66, _ => at_66 cA u v q3
  | 67, _ => at_67 cA u v q3
  | 68, _ => at_68 cA u v q3
  | 69, _ => at_69 cA u v q3
  | 70, _ => at_70 cA u v q3
  | 71, _ => at_71 cA u v q3
  | 72, _ => at_72 cA u v q3
  | 73, _ => at_73 cA u v q3
  | 74, _ => at_74 cA u v q3
  | 75, _ => at_75 cA u v q3
  | 76, _ => at_76 cA u v q3
  | 77, _ => at_77 cA u v q3
  | 78, _ => at_78 cA u v q3
  | 79, _ => at_79 cA u v q3
  | 80, _ => at_80 cA u v q3
  | 81, _ => at_81 cA u v q3
  | 82, _ => at_82 cA u v q3
  | 83, _ => at_83 cA u v q3
  | 84, _ => at_84 cA u v q3
  | 85, _ => at_85 cA u v q3
  | 86, _ => at_86 cA u v q3
  | 87, _ => at_87 cA u v q3
  | 88, _ => at_88 cA u v q3
  | 89, _ => at_89 cA u v q3
  | 90, _ => at_90 cA u v q3
  | 91, _ => at_91 cA u v q3
  | 92, _ => at_92 cA u v q3
  | 93, _ => at_93 cA u v q3
  | 94, _ => at_94 cA u v q3
  | 95, _ => at_95 cA u v q3
  | 96, _ => at_96 cA u v q3
  | 97, _ => at_97 cA u v q3
  | 98, _ => at_98 cA u v q3
  | 99, _ => at_99 cA u v q3
  | 100, _ => at_100 cA u v q3
  | 101, _ => at_101 cA u v q3
  | 102, _ => at_102 cA u v q3
  | 103, _ => at_103 cA u v q3
  | 104, _ => at_104 cA u v q3
  | 105, _ => at_105 cA u v q3
  | n + 106, h => absurd h (by omega)
theorem Fr0 : Fr sig0 := ⟨⟨rfl, rfl, rfl, rfl⟩, ⟨rfl, rfl⟩, rfl, by decide +kernel, by decide +kernel, by decide +kernel, fun k hk b hb => Or.inl (by rcases hb with rfl | rfl | rfl | rfl <;> (revert k; decide +kernel)), by decide +kernel, by decide +kernel, by decide +kernel, rfl⟩
theorem WP0 {D : va_G} {cA : Nat → ClassId} {u v : Nat → Nat} {q3 : Nat} {H : Heap} (hP : va_P D vwCl (wAll cA u v q3) H) : WP D cA (AD u v q3) 0 sig0 H := by
  intro k q hk
  have hk1 : k < 106 := by
    have := (List.getElem?_eq_some_iff.mp hk).1
    simpa [wl] using this
  rw [wl_get cA (AD u v q3) 0 sig0 hk1] at hk
  rw [← Option.some.inj hk]
  exact hP _ _ (at_all cA u v q3 k hk1)
theorem WX0 {D : va_G} {cA : Nat → ClassId} {u v : Nat → Nat} {q3 : Nat} {s : State} {A : Nat → Prop} (hK : va_K D vwCl (wtys cA) s) (hD : va_D A (wAll cA u v q3)) (hA : ∀ q, s.heap.size ≤ q → A q) : WX D cA (AD u v q3) A s :=
  ⟨hK, fun i j hi hj e => posOf_inj i hi j hj (hD.1 _ _ _ _ (at_all cA u v q3 i hi) (at_all cA u v q3 j hj) e), fun i hi => hD.2 _ _ (at_all cA u v q3 i hi), hA⟩
end
section
/-! the invariant at the start -/
theorem INV0 : INV sig0 sig0 := by
  have z : ∀ v, v < 3 → sig0 92 (38 + 2 * v) = 0 ∧ sig0 92 (39 + 2 * v) = 0 ∧ sig0 11 v = 0 ∧ sig0 12 v = 0 := by decide +kernel
  have r5 : ∀ p, p < 9 → 1 ≤ p → sig0 92 (5 + p) = 1 := by decide +kernel
  have o14 : ∀ s, s < 73 → sig0 14 s = 0 := by decide +kernel
  have c5 : ∀ j, j < 7 → sig0 (22 * 0 + 15 + j) 5 = 0 := by decide +kernel
  have cb : cb01 sig0 0 := fun j hj b h12 h4 => by
    have q : ∀ j, j < 7 → sig0 (22 * 0 + 15 + j) 0 = 0 ∧ sig0 (22 * 0 + 15 + j) 1 = 0 ∧ sig0 (22 * 0 + 15 + j) 7 = 0 ∧ sig0 (22 * 0 + 15 + j) 8 = 0 := by decide +kernel
    obtain ⟨q0, q1, q7, q8⟩ := q j hj
    rcases h4 with rfl | rfl | rfl | rfl
    · exact Or.inl q0
    · exact Or.inl q1
    · exact Or.inl q7
    · exact Or.inl q8
  have sh : ∀ d, d < 8 → sig0 (68 + d) 0 = 0 ∧ sig0 96 d = 0 ∧ sig0 (68 + d) 3 = 0 ∧ sig0 97 d = 0 ∧ sig0 (68 + d) 4 = 0 ∧ sig0 98 d = 0 := by decide +kernel
  have v7 : ∀ d, d < 8 → ∀ i, i < 100 → sig0 (76 + d) i = sig0 99 (100 * d + i) := by decide +kernel
  refine ⟨⟨0, fun _ => 2, 0, ⟨⟨rfl, by omega⟩, fun p hp => absurd hp (by omega), fun p hp => absurd hp (by omega), fun p hp => absurd hp (by omega), fun p h1 h8 => ?_, fun v hv => ?_⟩, ⟨rfl, by omega⟩, ⟨0, by omega, rfl⟩, fun c hc => absurd hc (by omega), ⟨rfl, rfl, fun p hp => absurd hp (by omega), fun p h1 h2 => absurd h1 (by omega), fun p hp => ?_, fun p x hp => absurd hp (by omega), fun p x hp => absurd hp (by omega), fun v hv => ?_⟩, ⟨rfl, rfl, rfl, rfl⟩, fun c hc => absurd hc (by omega), cb, fun s hs => o14 s hs, fun c hc => absurd hc (by omega)⟩, c5, ⟨⟨rfl, rfl⟩, rfl, rfl⟩, Or.inl ⟨rfl, rfl⟩, fun d hd => ?_⟩
  · rw [r5 p (by omega) h1]; exact ⟨by decide, fun _ => rfl⟩
  · obtain ⟨a, b, -, -⟩ := z v hv
    rw [a, b]; decide
  · obtain rfl : p = 0 := by omega
    exact ⟨rfl, rfl, rfl, rfl⟩
  · obtain ⟨a, b, c, d⟩ := z v hv
    exact ⟨c.trans a.symm, d.trans b.symm⟩
  · obtain ⟨a1, a2, a3, a4, a5, a6⟩ := sh d hd
    exact ⟨⟨a1.trans a2.symm, Or.inl a2⟩, fun h => absurd (a2.symm.trans h) (by decide), a3.trans a4.symm, ⟨a5.trans a6.symm, 0, by omega, a6⟩, v7 d hd⟩
end
section
theorem NW0 {args : Array Value} {s : State} (hts : ∀ w ∈ lw_tbl, w.before args s = true) : NW s := by
  refine ⟨fun w hw => ?_, va_AO.of (hts _ (List.mem_of_getElem? (i := 153) (by decide +kernel))), va_AO.of (hts _ (List.mem_of_getElem? (i := 262) (by decide +kernel)))⟩
  simp only [NWs, List.mem_cons, List.not_mem_nil, or_false] at hw
  rcases hw with rfl | rfl | rfl | rfl | rfl | rfl | rfl
  · exact va_Nw.of rfl (hts _ (List.mem_of_getElem? (i := 90) (by decide +kernel)))
  · exact va_Nw.of rfl (hts _ (List.mem_of_getElem? (i := 155) (by decide +kernel)))
  · exact va_Nw.of rfl (hts _ (List.mem_of_getElem? (i := 265) (by decide +kernel)))
  · exact va_Nw.of rfl (hts _ (List.mem_of_getElem? (i := 280) (by decide +kernel)))
  · exact va_Nw.of rfl (hts _ (List.mem_of_getElem? (i := 286) (by decide +kernel)))
  · exact va_Nw.of rfl (hts _ (List.mem_of_getElem? (i := 342) (by decide +kernel)))
  · exact va_Nw.of rfl (hts _ (List.mem_of_getElem? (i := 371) (by decide +kernel)))
theorem FW0 {args : Array Value} {s : State} (hts : ∀ w ∈ lw_tbl, w.before args s = true) : FWp s := by
  intro w hw
  have h := List.mem_filter.mp hw
  have h2 := h.2
  simp only [Bool.and_eq_true] at h2
  exact va_Nw.of h2.2 (hts w h.1)
theorem XL0 {b : Nat} {s : State} (hts : ∀ w ∈ lw_tbl, w.before #[Value.ref b] s = true) (hgv : (Jvm.Cond.and given_1 narrow_1).before #[Value.ref b] s = true) : ∃ sa, XL sa s := by
  have hs := flat_of_before _ hgv
  obtain ⟨a0, -, -, -, h0, -⟩ := Cond.exactly_spec (hs (Cond.exactly (.string "WhoBacks" 292) "java/lang/String") (by decide +kernel))
  obtain ⟨a1, -, -, -, h1, -⟩ := Cond.exactly_spec (hs (Cond.exactly (.string "WhoBacks" 299) "java/lang/String") (by decide +kernel))
  obtain ⟨a2, -, -, -, h2, -⟩ := Cond.exactly_spec (hs (Cond.exactly (.string "WhoBacks" 302) "java/lang/String") (by decide +kernel))
  obtain ⟨a3, -, -, -, h3, -⟩ := Cond.exactly_spec (hs (Cond.exactly (.string "WhoBacks" 323) "java/lang/String") (by decide +kernel))
  obtain ⟨a4, -, -, -, h4, -⟩ := Cond.exactly_spec (hs (Cond.exactly (.string "WhoBacks" 326) "java/lang/String") (by decide +kernel))
  obtain ⟨a5, -, -, -, h5, -⟩ := Cond.exactly_spec (hs (Cond.exactly (.string "WhoBacks" 328) "java/lang/String") (by decide +kernel))
  exact ⟨fun i => ([a0, a1, a2, a3, a4, a5] : List Nat).getD i 0, vx_Zqof (args := #[Value.ref b]) (hts _ (List.mem_of_getElem? (i := 929) (by decide +kernel))) (hts _ (List.mem_of_getElem? (i := 68) (by decide +kernel))) (hs (Cond.isRef (.static "java/lang/Throwable" "UNASSIGNED_STACK" "[Ljava/lang/StackTraceElement;")) (by decide +kernel)) (fun a h => Nat.not_le.mpr h), vx_Zqof (args := #[Value.ref b]) (hts _ (List.mem_of_getElem? (i := 931) (by decide +kernel))) (hts _ (List.mem_of_getElem? (i := 68) (by decide +kernel))) (hs (Cond.isRef (.static "java/lang/Throwable" "SUPPRESSED_SENTINEL" "Ljava/util/List;")) (by decide +kernel)) (fun a h => Nat.not_le.mpr h), ⟨⟨vk_R.of (hts (Cond.stringRef "WhoBacks" 292 "no such shelf") (List.mem_of_getElem? (i := 1009) (by decide +kernel))) h0, vk_R.of (hts (Cond.stringRef "WhoBacks" 299 "no row") (List.mem_of_getElem? (i := 1010) (by decide +kernel))) h1, vk_R.of (hts (Cond.stringRef "WhoBacks" 302 "no such place") (List.mem_of_getElem? (i := 1011) (by decide +kernel))) h2⟩, vk_R.of (hts (Cond.stringRef "WhoBacks" 323 "the best one fails") (List.mem_of_getElem? (i := 943) (by decide +kernel))) h3, vk_R.of (hts (Cond.stringRef "WhoBacks" 326 "the told one fails") (List.mem_of_getElem? (i := 978) (by decide +kernel))) h4, vk_R.of (hts (Cond.stringRef "WhoBacks" 328 "the rule fails") (List.mem_of_getElem? (i := 993) (by decide +kernel))) h5⟩, ⟨va_Nc.of (hs (Cond.not (.castable "java/lang/IllegalStateException" "java/lang/IllegalArgumentException")) (by decide +kernel)), va_Nc.of (hs (Cond.not (.castable "java/lang/IllegalArgumentException" "java/lang/UnsupportedOperationException")) (by decide +kernel)), va_Nc.of (hs (Cond.not (.castable "java/lang/IllegalStateException" "java/lang/UnsupportedOperationException")) (by decide +kernel))⟩, FW0 hts⟩
end
