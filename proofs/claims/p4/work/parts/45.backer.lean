/-! who backs: class against reference -/
section BB
variable {σ ρ : Mem} {t a m n : Nat} {len : Nat → Nat}
theorem backer_c (R : RT σ t (ρ a) m len n) {A B v u w : Nat} {hill : Int32} (hA : A < n) (hB : B < n) (hv : v < 3) (hu : F_X6_wayBack σ t (22 * t + 15 + A) = some (nI u)) (hw : F_X6_wayBack σ t (22 * t + 15 + B) = some (nI w)) : F_X6_backerOf σ t (nI A) (nI B) (nI v) hill = if ρ a (38 + 2 * v) = 5 then CTL (nI A) (nI B) (ρ a (47 + 11 * A)) (ρ a (47 + 11 * B)) (nI u * ρ a (47 + 11 * A) - nI w * ρ a (47 + 11 * B)) else (F_X6_preference σ (22 * t + 15 + A) (22 * t + 15 + B) (ρ a (38 + 2 * v)) hill (nI u - nI w)).bind fun r => CTL (nI A) (nI B) (ρ a (47 + 11 * A)) (ρ a (47 + 11 * B)) r := by
  have h7 := RT_7 R
  have cA : ¬ (nI A < 0 ∨ σ (22 * t) 2 ≤ nI A ∨ 7 ≤ nI A) := nocart rfl (by omega) (by rw [RT_2 R]; exact nI_lt hA (by omega))
  have cB : ¬ (nI B < 0 ∨ σ (22 * t) 2 ≤ nI B ∨ 7 ≤ nI B) := nocart rfl (by omega) (by rw [RT_2 R]; exact nI_lt hB (by omega))
  have v0 : ¬ nI v < 0 := nI_pos (by omega)
  have v3 : nI v < 3 := nI_lt (a := v) (b := 3) hv (by decide)
  have rk := ((RT_R R).2.2.2.2.2.2.2 v hv).1
  have eA := (RT_C R hA).2.1.2.2.1
  have eB := (RT_C R hB).2.1.2.2.1
  unfold F_X6_backerOf
  rw [if_neg cA, ix_nI (show A < 7 by omega) (by decide), Option.bind_some, if_neg cB, ix_nI (show B < 7 by omega) (by decide), Option.bind_some, if_neg v0, if_pos v3, hu, hw, Option.bind_some, Option.bind_some, Option.bind_some, Option.bind_some, ix_nI hv (by decide), Option.bind_some, rk, eA, eB]
  rfl
theorem backer_p (R : RT σ t (ρ a) m len n) {A B v xA xB : Nat} {piece hill : Int32} (hA : A < n) (hB : B < n) (hne : A ≠ B) (hv : v < 3) (sA : ρ a (49 + 11 * A) = nI xA) (sB : ρ a (49 + 11 * B) = nI xB) (lA : xA ≤ PS len m) (lB : xB ≤ PS len m) (opp : ρ a (44 + 11 * A) = 1 ∧ ρ a (44 + 11 * B) = -1 ∨ ρ a (44 + 11 * A) = -1 ∧ ρ a (44 + 11 * B) = 1) (hp : piece = -4 ∧ hill = 0 ∨ ∃ p, p < m ∧ piece = nI p ∧ hill = ρ a (15 + 3 * p)) :
    ∃ z, F_X6_backerOf σ t (nI A) (nI B) (nI v) hill = some z ∧ F_X8_backsOf ρ a (nI A) (nI B) (nI v) piece = some z ∧ (z = -4 ∨ z = nI A ∨ z = nI B) := by
  have h7 := RT_7 R
  have h8 := RT_8 R
  have V := RT_V R
  obtain ⟨u, u9, u1, u2⟩ := behind_p R hA sA lA
  obtain ⟨w, w9, w1, w2⟩ := behind_p R hB sB lB
  obtain ⟨-, lodA, ⟨bA, bA3, ebA⟩, ⟨gA, gA9, egA⟩, -⟩ := RT_K R hA
  obtain ⟨-, lodB, ⟨bB, bB3, ebB⟩, ⟨gB, gB9, egB⟩, -⟩ := RT_K R hB
  have CA := RT_C R hA
  have CB := RT_C R hB
  suffices h : ∃ x y : Int, F_X6_backerOf σ t (nI A) (nI B) (nI v) hill = some (FIN (nI A) (nI B) (ρ a (47 + 11 * A)) (ρ a (47 + 11 * B)) (TT x y A B)) ∧ F_X8_toldBy ρ a (nI A) (nI B) (ρ a (38 + 2 * v)) piece = some (if TT x y A B then nI A else nI B) by
    obtain ⟨x, y, e1, e2⟩ := h
    exact ⟨_, e1, backsOf_v (by omega) (by omega) hne hv e2, FIN_or _ _ _ _ _⟩
  have near : F_X8_toldBy0 ρ a (nI A) (nI B) 2 piece = some (if TT u w A B then nI A else nI B) := by
    rw [told_2 u2 w2]
    exact CMP_v (by omega) (by omega) (nI_toInt (by omega)) (nI_toInt (by omega))
  have pnear : (nI u - nI w).toInt = (u : Int) - w := sub_toInt (by omega) (by omega)
  have worth : CMP (nI A) (nI B) (ρ a (48 + 11 * A)) (ρ a (48 + 11 * B)) = some (if TT gA gB A B then nI A else nI B) := by
    rw [egA, egB]
    exact CMP_v (by omega) (by omega) (nI_toInt (by omega)) (nI_toInt (by omega))
  have pworth : (σ (22 * t + 15 + A) 4 - σ (22 * t + 15 + B) 4).toInt = (gA : Int) - gB := by
    rw [CA.2.1.2.2.2.1, CB.2.1.2.2.2.1, egA, egB]
    exact sub_toInt (by omega) (by omega)
  have cl := backer_c R (hill := hill) hA hB hv u1 w1
  generalize ρ a (38 + 2 * v) = K at cl ⊢
  by_cases k5 : K = 5
  · subst k5
    rw [if_pos rfl] at cl
    have mA : nI u * ρ a (47 + 11 * A) = nI (u * bA) := by rw [ebA, nI_mul]
    have mB : nI w * ρ a (47 + 11 * B) = nI (w * bB) := by rw [ebB, nI_mul]
    have b1 : u * bA ≤ 9 * 3 := Nat.mul_le_mul u9 bA3
    have b2 : w * bB ≤ 9 * 3 := Nat.mul_le_mul w9 bB3
    refine ⟨(u * bA : Nat), (w * bB : Nat), ?_, ?_⟩
    · rw [cl]
      exact CTL_v (by omega) (by omega) (by rw [mA, mB]; exact sub_toInt (by omega) (by omega))
    · unfold F_X8_toldBy
      rw [if_neg (by decide), if_neg (by decide), if_pos rfl, u2, Option.bind_some, get3 (by omega), Option.bind_some, w2, Option.bind_some, get3 (by omega), Option.bind_some, mA, mB]
      exact CMP_v (by omega) (by omega) (nI_toInt (by omega)) (nI_toInt (by omega))
  rw [if_neg k5] at cl
  by_cases k1 : K = 1
  · subst k1
    refine ⟨gA, gB, ?_, ?_⟩
    · rw [cl]
      unfold F_X6_preference
      rw [if_pos rfl, Option.bind_some]
      exact CTL_v (by omega) (by omega) pworth
    · unfold F_X8_toldBy
      rw [if_pos rfl, get4 (by omega), Option.bind_some, get4 (by omega), Option.bind_some]
      exact worth
  by_cases k2 : K = 2
  · subst k2
    refine ⟨u, w, ?_, ?_⟩
    · rw [cl]
      unfold F_X6_preference
      rw [if_neg k1, if_pos rfl, Option.bind_some]
      exact CTL_v (by omega) (by omega) pnear
    · unfold F_X8_toldBy
      rw [if_neg k1, if_pos rfl, u2, Option.bind_some, w2, Option.bind_some]
      exact CMP_v (by omega) (by omega) (nI_toInt (by omega)) (nI_toInt (by omega))
  by_cases k6 : K = 6
  · subst k6
    have l1 := CA.2.1.1
    have l2 := CB.2.1.1
    have tb : F_X8_toldBy ρ a (nI A) (nI B) 6 piece = if ρ a (46 + 11 * A) = ρ a (46 + 11 * B) then CMP (nI A) (nI B) (ρ a (48 + 11 * A)) (ρ a (48 + 11 * B)) else CMP (nI A) (nI B) (ρ a (46 + 11 * A)) (ρ a (46 + 11 * B)) := by
      unfold F_X8_toldBy
      rw [if_neg (by decide), if_neg (by decide), if_neg (by decide), if_pos rfl, get2 (by omega), Option.bind_some, get2 (by omega), Option.bind_some, told_1 (by omega) (by omega), ob2]
      rfl
    have cp : F_X6_preference σ (22 * t + 15 + A) (22 * t + 15 + B) 6 hill (nI u - nI w) = if ρ a (46 + 11 * A) = ρ a (46 + 11 * B) then some (σ (22 * t + 15 + A) 4 - σ (22 * t + 15 + B) 4) else if ρ a (46 + 11 * A) = 0 then some (-1) else some 1 := by
      unfold F_X6_preference
      rw [if_neg (by decide), if_neg (by decide), if_pos rfl, l1, l2]
    rw [tb, cl, cp]
    rcases lodA with a0 | a0 <;> rcases lodB with b0 | b0 <;> rw [a0, b0]
    · refine ⟨gA, gB, ?_, ?_⟩
      · rw [if_pos rfl, Option.bind_some]
        exact CTL_v (by omega) (by omega) pworth
      · rw [if_pos rfl]
        exact worth
    · refine ⟨0, 1, ?_, ?_⟩
      · rw [if_neg (by decide), if_pos rfl, Option.bind_some]
        exact CTL_v (by omega) (by omega) (by decide)
      · rw [if_neg (by decide)]
        exact CMP_v (by omega) (by omega) (by decide) (by decide)
    · refine ⟨1, 0, ?_, ?_⟩
      · rw [if_neg (by decide), if_neg (by decide), Option.bind_some]
        exact CTL_v (by omega) (by omega) (by decide)
      · rw [if_neg (by decide)]
        exact CMP_v (by omega) (by omega) (by decide) (by decide)
    · refine ⟨gA, gB, ?_, ?_⟩
      · rw [if_pos rfl, Option.bind_some]
        exact CTL_v (by omega) (by omega) pworth
      · rw [if_pos rfl]
        exact worth
  by_cases k7 : K = 7
  · subst k7
    rcases hp with ⟨rfl, rfl⟩ | ⟨p, hpm, rfl, eh⟩
    · refine ⟨u, w, ?_, ?_⟩
      · rw [cl]
        unfold F_X6_preference
        rw [if_neg (by decide), if_neg (by decide), if_neg (by decide), if_pos rfl, if_pos rfl, Option.bind_some]
        exact CTL_v (by omega) (by omega) pnear
      · unfold F_X8_toldBy
        rw [if_neg (by decide), if_neg (by decide), if_neg (by decide), if_neg (by decide), if_pos rfl, if_neg (by decide), if_neg (by decide), near, Option.bind_some]
    · have p0 : 0 ≤ nI p := nI_pos' (by omega)
      have hh := VS_hill V hpm
      rw [← eh] at hh
      have tb : ∀ fa fb : Int32, F_X8_falls ρ a (nI A) hill = some fa → F_X8_falls ρ a (nI B) hill = some fb → F_X8_toldBy ρ a (nI A) (nI B) 7 (nI p) = if -fa = -fb then some (if TT u w A B then nI A else nI B) else CMP (nI A) (nI B) (-fa) (-fb) := by
        intro fa fb e1 e2
        unfold F_X8_toldBy
        rw [if_neg (by decide), if_neg (by decide), if_neg (by decide), if_neg (by decide), if_pos rfl, if_pos p0, ix15 (by omega), Option.bind_some, ← eh, e1, Option.bind_some, if_pos p0, Option.bind_some, ← eh, e2, Option.bind_some, near, Option.bind_some]
        rfl
      have cp : F_X6_preference σ (22 * t + 15 + A) (22 * t + 15 + B) 7 hill (nI u - nI w) = if hill = 0 then some (nI u - nI w) else if hill = 2 then (if σ (22 * t + 15 + A) 0 = 1 then some (-1) else some 1) else (if σ (22 * t + 15 + A) 0 = 0 then some (-1) else some 1) := by
        unfold F_X6_preference
        rw [if_neg (by decide), if_neg (by decide), if_neg (by decide), if_pos rfl]
      rw [cl, cp]
      have fA := falls_r (ρ := ρ) (a := a) (c := A) (by omega) hill
      have fB := falls_r (ρ := ρ) (a := a) (c := B) (by omega) hill
      rcases opp with ⟨oA, oB⟩ | ⟨oA, oB⟩
      · rw [oA, if_neg (by decide)] at fA
        rw [oB, if_pos (by decide)] at fB
        have uA := CW_up CA oA
        rcases hh with hh | hh | hh <;> rw [hh] at fA fB ⊢ <;> rw [hh] at tb
        · refine ⟨u, w, ?_, ?_⟩
          · rw [if_pos rfl, Option.bind_some]
            exact CTL_v (by omega) (by omega) pnear
          · rw [tb 0 0 fA fB, if_pos rfl]
        · refine ⟨0, -1, ?_, ?_⟩
          · rw [if_neg (by decide), if_neg (by decide), uA, if_neg (by decide), Option.bind_some]
            exact CTL_v (by omega) (by omega) (by decide)
          · rw [tb 0 1 fA fB, if_neg (by decide)]
            exact CMP_v (by omega) (by omega) (by decide) (by decide)
        · refine ⟨-1, 0, ?_, ?_⟩
          · rw [if_neg (by decide), if_pos rfl, uA, if_pos rfl, Option.bind_some]
            exact CTL_v (by omega) (by omega) (by decide)
          · rw [tb 1 0 fA fB, if_neg (by decide)]
            exact CMP_v (by omega) (by omega) (by decide) (by decide)
      · rw [oA, if_pos (by decide)] at fA
        rw [oB, if_neg (by decide)] at fB
        have uA := CW_dn CA oA
        rcases hh with hh | hh | hh <;> rw [hh] at fA fB ⊢ <;> rw [hh] at tb
        · refine ⟨u, w, ?_, ?_⟩
          · rw [if_pos rfl, Option.bind_some]
            exact CTL_v (by omega) (by omega) pnear
          · rw [tb 0 0 fA fB, if_pos rfl]
        · refine ⟨-1, 0, ?_, ?_⟩
          · rw [if_neg (by decide), if_neg (by decide), uA, if_pos rfl, Option.bind_some]
            exact CTL_v (by omega) (by omega) (by decide)
          · rw [tb 1 0 fA fB, if_neg (by decide)]
            exact CMP_v (by omega) (by omega) (by decide) (by decide)
        · refine ⟨0, -1, ?_, ?_⟩
          · rw [if_neg (by decide), if_pos rfl, uA, if_neg (by decide), Option.bind_some]
            exact CTL_v (by omega) (by omega) (by decide)
          · rw [tb 0 1 fA fB, if_neg (by decide)]
            exact CMP_v (by omega) (by omega) (by decide) (by decide)
  · refine ⟨0, 0, ?_, ?_⟩
    · rw [cl]
      unfold F_X6_preference
      rw [if_neg k1, if_neg k2, if_neg k6, if_neg k7, Option.bind_some]
      exact CTL_v (by omega) (by omega) (by decide)
    · unfold F_X8_toldBy
      rw [if_neg k1, if_neg k2, if_neg k5, if_neg k6, if_neg k7]
      by_cases h : A ≤ B
      · rw [if_pos (nI_le h (by omega)), TT, decide_eq_false (by omega)]; rfl
      · rw [if_neg (nI_ge (by omega) (by omega)), TT, decide_eq_true (by omega)]; rfl
end BB
