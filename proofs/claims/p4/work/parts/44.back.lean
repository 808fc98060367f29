/-! who backs -/
/-- the end of backerOf, once it is known whom the rule tells -/
def CTL (x1 x2 bA bB P : Int32) : Option Int32 := if P = 0 then (if x1 ≤ x2 then (if bB ≤ 0 then (if bA ≤ 0 then (some (-4)) else (some x1)) else (some x2)) else (if bA ≤ 0 then (if bB ≤ 0 then (if bA ≤ 0 then (some (-4)) else (some x1)) else (some x2)) else (some x1))) else (if 0 ≤ P then (if bB ≤ 0 then (if bA ≤ 0 then (some (-4)) else (some x1)) else (some x2)) else (if bA ≤ 0 then (if bB ≤ 0 then (if bA ≤ 0 then (some (-4)) else (some x1)) else (some x2)) else (some x1)))
/-- whom it is in the end -/
def FIN (x1 x2 bA bB : Int32) (T : Bool) : Int32 := if T then (if bA ≤ 0 then (if bB ≤ 0 then -4 else x2) else x1) else (if bB ≤ 0 then (if bA ≤ 0 then -4 else x1) else x2)
def TT (x y : Int) (A B : Nat) : Bool := decide (x < y ∨ (x = y ∧ B < A))
theorem FIN_or (x1 x2 bA bB : Int32) (T : Bool) : FIN x1 x2 bA bB T = -4 ∨ FIN x1 x2 bA bB T = x1 ∨ FIN x1 x2 bA bB T = x2 := by
  unfold FIN
  cases T <;> (repeat' split) <;> simp
theorem CTL_v {A B : Nat} {bA bB P : Int32} {x y : Int} (hA : A < 7) (hB : B < 7) (hP : P.toInt = x - y) : CTL (nI A) (nI B) bA bB P = some (FIN (nI A) (nI B) bA bB (TT x y A B)) := by
  have z0 : (0 : Int32).toInt = 0 := by decide
  unfold CTL FIN TT
  by_cases h : x = y
  · rw [if_pos (i32_eq.mpr (by rw [hP, z0]; omega))]
    by_cases h2 : A ≤ B
    · rw [if_pos (nI_le h2 (by omega)), decide_eq_false (by omega)]
      by_cases k1 : bB ≤ 0 <;> by_cases k2 : bA ≤ 0 <;> simp [k1, k2]
    · rw [if_neg (nI_ge (by omega) (by omega)), decide_eq_true (by omega)]
      by_cases k1 : bB ≤ 0 <;> by_cases k2 : bA ≤ 0 <;> simp [k1, k2]
  · rw [if_neg (fun q => by rw [i32_eq, hP, z0] at q; omega)]
    by_cases h2 : x < y
    · rw [if_neg (fun q => by rw [i32_le, hP, z0] at q; omega), decide_eq_true (Or.inl h2)]
      by_cases k1 : bB ≤ 0 <;> by_cases k2 : bA ≤ 0 <;> simp [k1, k2]
    · rw [if_pos (i32_le.mpr (by rw [hP, z0]; omega)), decide_eq_false (by omega)]
      by_cases k1 : bB ≤ 0 <;> by_cases k2 : bA ≤ 0 <;> simp [k1, k2]
/-- the comparison of toldBy -/
def CMP (x1 x2 X Y : Int32) : Option Int32 := if X = Y then (if x1 ≤ x2 then (some x2) else (some x1)) else (if Y ≤ X then (some x2) else (some x1))
theorem CMP_v {A B : Nat} {X Y : Int32} {x y : Int} (hA : A < 7) (hB : B < 7) (hX : X.toInt = x) (hY : Y.toInt = y) : CMP (nI A) (nI B) X Y = some (if TT x y A B then nI A else nI B) := by
  unfold CMP TT
  by_cases h : x = y
  · rw [if_pos (i32_eq.mpr (by rw [hX, hY, h]))]
    by_cases h2 : A ≤ B
    · rw [if_pos (nI_le h2 (by omega)), decide_eq_false (by omega)]; rfl
    · rw [if_neg (nI_ge (by omega) (by omega)), decide_eq_true (by omega)]; rfl
  · rw [if_neg (fun q => by rw [i32_eq, hX, hY] at q; omega)]
    by_cases h2 : x < y
    · rw [if_neg (fun q => by rw [i32_le, hX, hY] at q; omega), decide_eq_true (Or.inl h2)]; rfl
    · rw [if_pos (i32_le.mpr (by rw [hX, hY]; omega)), decide_eq_false (by omega)]; rfl
section BK
variable {σ ρ : Mem} {t a m n : Nat} {len : Nat → Nat}
/-- the end of backsOf -/
theorem backsOf_v {A B v : Nat} {piece : Int32} {T : Bool} (hA : A < 7) (hB : B < 7) (hne : A ≠ B) (hv : v < 3) (h : F_X8_toldBy ρ a (nI A) (nI B) (ρ a (38 + 2 * v)) piece = some (if T then nI A else nI B)) : F_X8_backsOf ρ a (nI A) (nI B) (nI v) piece = some (FIN (nI A) (nI B) (ρ a (47 + 11 * A)) (ρ a (47 + 11 * B)) T) := by
  unfold F_X8_backsOf FIN
  rw [kindOf_r hv, Option.bind_some, h, Option.bind_some]
  cases T with
  | true =>
    simp only [if_true]
    rw [get3 hA, Option.bind_some, get3 hB]
    by_cases k1 : ρ a (47 + 11 * A) ≤ 0
    · rw [if_pos k1, if_pos k1, Option.bind_some]
      by_cases k2 : ρ a (47 + 11 * B) ≤ 0
      · rw [if_pos k2, if_pos k2]
      · rw [if_neg k2, if_neg k2]
    · rw [if_neg k1, if_neg k1]
  | false =>
    have e : ¬ nI B = nI A := fun q => hne (nI_inj q (by omega) (by omega)).symm
    simp only [Bool.false_eq_true, if_false, e]
    rw [get3 hB, Option.bind_some, get3 hA]
    by_cases k1 : ρ a (47 + 11 * B) ≤ 0
    · rw [if_pos k1, if_pos k1, Option.bind_some]
      by_cases k2 : ρ a (47 + 11 * A) ≤ 0
      · rw [if_pos k2, if_pos k2]
      · rw [if_neg k2, if_neg k2]
    · rw [if_neg k1, if_neg k1]
/-- spots back to the place behind -/
theorem behind_p (R : RT σ t (ρ a) m len n) {c x : Nat} (hc : c < n) (hs : ρ a (49 + 11 * c) = nI x) (hx : x ≤ PS len m) : ∃ w : Nat, w ≤ 9 ∧ F_X6_wayBack σ t (22 * t + 15 + c) = some (nI w) ∧ F_X8_behind ρ a (nI c) = some (nI w) := by
  have h7 := RT_7 R
  have V := RT_V R
  have C := RT_C R hc
  have h72 := RT_72 R (Nat.le_refl m)
  have hsc : σ (22 * t + 15 + c) 6 = nI x := C.2.2.1.trans hs
  have hx73 : nI x < (73 : Int32) := nI_lt (a := x) (b := 73) (by omega) (by decide)
  rcases spot_cases hx with ⟨p, hp, rfl⟩ | ⟨p, hp, h1, h2⟩
  · refine ⟨0, by decide, ?_, ?_⟩
    · unfold F_X6_wayBack
      have r := (RT_R R).2.2.2.2.1 p hp
      rw [hsc, if_neg (nI_pos (by omega)), if_pos hx73, ix_nI (by omega) (by decide), Option.bind_some, Option.bind_some, r.2.2.1, r.2.2.2]
      by_cases e : σ (22 * t + 15 + c) 0 = 0
      · rw [if_pos e]; rfl
      · rw [if_neg e]; rfl
    · unfold F_X8_behind
      rw [get5 (by omega), Option.bind_some, hs, placeAt_at V hp, Option.bind_some, if_neg (nI_pos (by have := RT_8 R; omega))]; rfl
  · have r := (RT_R R).2.2.2.2.2.1 p x hp h1 h2
    have hl := VS_b V p hp
    have hps := PS_s len p
    have h8 := RT_8 R
    have hK := (RT_K R hc).1
    have hb : F_X8_behind ρ a (nI c) = (if ρ a (44 + 11 * c) ≤ 0 then some (nI (PS len (p + 1) - x)) else some (nI (x - PS len p))) := by
      unfold F_X8_behind
      rw [get5 (by omega), Option.bind_some, hs, placeAt_no V hp h1 h2, Option.bind_some, if_pos (by decide), pieceUp V (by decide) hp (by omega) h2, Option.bind_some, get0 (by omega), Option.bind_some, nI_1, spotOf_r V (show p + 1 ≤ m by omega), spotOf_r V (show p ≤ m by omega), Option.bind_some, Option.bind_some, nI_sub (by omega), nI_sub (by omega)]
    rcases hK with hw | hw
    · refine ⟨x - PS len p, by omega, ?_, ?_⟩
      · unfold F_X6_wayBack
        rw [hsc, if_neg (nI_pos (by omega)), if_pos hx73, CW_up C hw, if_neg i10, ix_nI (by omega) (by decide), Option.bind_some, r.2.1]
      · rw [hb, hw, if_neg (by decide)]
    · refine ⟨PS len (p + 1) - x, by omega, ?_, ?_⟩
      · unfold F_X6_wayBack
        rw [hsc, if_neg (nI_pos (by omega)), if_pos hx73, CW_dn C hw, if_pos rfl, ix_nI (by omega) (by decide), Option.bind_some, r.2.2]
      · rw [hb, hw, if_pos (by decide)]
theorem falls_r {c : Nat} (hc : c < 7) (h : Int32) : F_X8_falls ρ a (nI c) h = if ρ a (44 + 11 * c) ≤ 0 then (if h = 1 then some 1 else some 0) else (if h = 2 then some 1 else some 0) := by
  unfold F_X8_falls
  rw [get0 hc, Option.bind_some]
theorem told_1 {A B : Nat} {piece : Int32} (hA : A < 7) (hB : B < 7) : F_X8_toldBy0 ρ a (nI A) (nI B) 1 piece = CMP (nI A) (nI B) (ρ a (48 + 11 * A)) (ρ a (48 + 11 * B)) := by
  unfold F_X8_toldBy0
  rw [if_pos rfl, get4 hA, Option.bind_some, get4 hB, Option.bind_some]; rfl
theorem told_2 {A B : Nat} {piece u w : Int32} (hu : F_X8_behind ρ a (nI A) = some u) (hw : F_X8_behind ρ a (nI B) = some w) : F_X8_toldBy0 ρ a (nI A) (nI B) 2 piece = CMP (nI A) (nI B) u w := by
  unfold F_X8_toldBy0
  rw [if_neg (by decide), if_pos rfl, hu, Option.bind_some, hw, Option.bind_some]; rfl
theorem ob2 {α : Type} (x : Option α) : (x.bind fun r => some r) = x := by cases x <;> rfl
end BK
