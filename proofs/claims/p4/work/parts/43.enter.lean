/-! who enters -/
theorem hour_v {M f : Nat} (hM : M ≤ 999) (hf : f ≤ 9) : ((nI M / (10 * (nI f + 1))) - (nI M / (10 * (nI f + 1))) / 2 * 2) = nI (M / (10 * (f + 1)) % 2) := by
  have h1 : M / (10 * (f + 1)) ≤ M := Nat.div_le_self _ _
  have h2 : M / (10 * (f + 1)) / 2 * 2 ≤ M / (10 * (f + 1)) := Nat.div_mul_le_self _ _
  rw [nI_1, show (10 : Int32) = nI 10 from rfl, nI_mul, pk_div (by omega) (by omega) (by omega), show (2 : Int32) = nI 2 from rfl, pk_div (by omega) (by omega) (by omega), nI_mul, nI_sub h2]
  congr 1
  omega
theorem hour_c {σ : Mem} {t i M f : Nat} (h3 : σ (22 * t) 3 = nI M) (hM : M ≤ 999) (hf : f ≤ 9) : F_X6_isHourOf σ t i (nI f) = if M / (10 * (f + 1)) % 2 = 0 then (if 1 = σ i 0 then some 1 else some 0) else (if 0 = σ i 0 then some 1 else some 0) := by
  have e : (if 1 < (nI f + 1) then (nI f + 1) else 1) = nI f + 1 := by
    by_cases h : f = 0
    · subst h; decide
    · rw [if_pos (show (1 : Int32) < nI f + 1 by rw [nI_1]; exact nI_lt (a := 1) (by omega) (by omega))]
  unfold F_X6_isHourOf
  rw [e, h3, hour_v hM hf, ck_t _ (by rw [nI_1, show (10 : Int32) = nI 10 from rfl, nI_mul]; exact nI_ne0 (by omega) (by omega))]
  by_cases h : M / (10 * (f + 1)) % 2 = 0
  · rw [h, if_pos nI_0, if_pos rfl]
  · rw [if_neg (nI_ne0 (by omega) (by omega)), if_neg h]
/-- the end of the search of entersBy: room at the far place -/
def ETL (ρ : Mem) (a : Nat) (v8 w : Int32) : Option Int32 := if w = 0 then (some 1) else (if w = (ρ a 0) then (some 1) else ((F_X8_cartsAt ρ a v8).bind fun r_14 => (ix 121 (5 + w)).bind fun k_15 => if (ρ a k_15) ≤ r_14 then (some 0) else (some 1)))
section EN
variable {σ ρ : Mem} {t a m n : Nat} {len : Nat → Nat}
theorem ETL_v (R : RT σ t (ρ a) m len n) {p : Nat} (hp : p ≤ m) : ETL ρ a (nI (PS len p)) (nI p) = some (bI (decide (p = 0 ∨ p = m ∨ ¬ ρ a (5 + p) ≤ nI (occ (spk (ρ a)) (PS len p) n)))) := by
  have V := RT_V R
  have h7 := RT_7 R
  have h8 := RT_8 R
  have h72 := RT_72 R hp
  unfold ETL
  by_cases h0 : p = 0
  · rw [if_pos (by rw [h0]; rfl), decide_eq_true (Or.inl h0), bI_t]
  · rw [if_neg (nI_ne0 (by omega) (by omega)), VS_m V]
    by_cases h1 : p = m
    · rw [if_pos (by rw [h1]), decide_eq_true (Or.inr (Or.inl h1)), bI_t]
    · rw [if_neg (by rw [neq (by omega) (by omega)]; exact h1), cartsAt_r (RT_n R) h7, Option.bind_some, ix5 (by omega), Option.bind_some, nI_toInt (by omega)]
      by_cases e : ρ a (5 + p) ≤ nI (occ (spk (ρ a)) (PS len p) n)
      · rw [if_pos e, decide_eq_false (by simp only [h0, h1, e, not_true, or_self, not_false_eq_true]), bI_f]
      · rw [if_neg e, decide_eq_true (Or.inr (Or.inr e)), bI_t]
theorem isOn_r {c : Nat} (hc : c < 7) : F_X8_isOn ρ a (nI c) = if ρ a (49 + 11 * c) < 0 then some 0 else some 1 := by
  unfold F_X8_isOn
  rw [get5 hc, Option.bind_some]
theorem sub_toInt {x y : Nat} (hx : x < 1000) (hy : y < 1000) : (nI y - nI x).toInt = (y : Int) - x := by
  rw [t_sub (by rw [nI_toInt (by omega), nI_toInt (by omega)]; omega) (by rw [nI_toInt (by omega), nI_toInt (by omega)]; omega), nI_toInt (by omega), nI_toInt (by omega)]
theorem subn_toInt {x y : Nat} (hx : x < 1000) (hy : y < 1000) : ((nI y - nI x) * -1).toInt = (x : Int) - y := by
  have h := sub_toInt hx hy
  have e : (-1 : Int32).toInt = -1 := by decide
  rw [t_mul (by rw [h, e]; omega) (by rw [h, e]; omega), h, e]
  omega
theorem addn_toInt {x y z : Nat} (hx : x < 1000) (hy : y < 1000) (hz : z < 1000) : ((nI y - nI x) + nI z).toInt = (y : Int) - x + z := by
  have h := sub_toInt hx hy
  rw [t_add (by rw [h, nI_toInt (by omega)]; omega) (by rw [h, nI_toInt (by omega)]; omega), h, nI_toInt (by omega)]
theorem addm_toInt {x y z : Nat} (hx : x < 1000) (hy : y < 1000) (hz : z < 1000) : ((nI y - nI x) * -1 + nI z).toInt = (x : Int) - y + z := by
  have h := subn_toInt hx hy
  rw [t_add (by rw [h, nI_toInt (by omega)]; omega) (by rw [h, nI_toInt (by omega)]; omega), h, nI_toInt (by omega)]
theorem obs {α β : Type} (a : α) (f : α → Option β) : (some a).bind f = f a := Eq.trans (congrArg (fun x => Option.bind x f) (Eq.refl (some a))) (Option.bind_some a f)
theorem bI_id (b : Bool) : (if bI b = 0 then some 0 else some 1) = some (bI b) := by cases b <;> rfl
theorem i10 : ¬ ((1 : Int32) = 0) := by decide
theorem i1m1 : ¬ ((1 : Int32) = -1) := by decide
theorem im11 : ¬ ((-1 : Int32) = 1) := by decide
theorem im2 : (-2 : Int32) < 0 := by decide
theorem im3 : (-3 : Int32) < 0 := by decide
/-- the two searches for one that comes, of a cart that goes up -/
theorem quiet_up (R : RT σ t (ρ a) m len n) {i x far q f : Nat} {x2 x3 y2 y3 : Int32} (hi : σ i 0 = 1) (hx : x < far) (hfar : far ≤ 72) (hf : f ≤ 9) : ∀ (d j nn nn2 : Nat), j + d = n → d < nn → d < nn2 → ∃ b, F_X6_isQuiet_55b σ t i x2 x3 nn (nI j) (nI (far - 1 + f)) (nI (x + 1)) = some (bI b) ∧ F_X8_entersBy_117 ρ a y2 y3 nn2 (nI j) (nI far) (nI q) (nI x) 1 (nI f) 4 = some (bI b) ∧ F_X8_entersBy_117b ρ a y2 y3 nn2 (nI j) (nI far) (nI q) (nI x) 1 (nI f) 5 = if b then ETL ρ a (nI far) (nI q + 1) else some 0 := by
  have h7 := RT_7 R
  intro d
  induction d with
  | zero =>
    intro j nn nn2 h1 h2 h3
    obtain rfl : j = n := by omega
    obtain ⟨nn, rfl⟩ : ∃ j, nn = j + 1 := ⟨nn - 1, by omega⟩
    obtain ⟨nn2, rfl⟩ : ∃ j, nn2 = j + 1 := ⟨nn2 - 1, by omega⟩
    refine ⟨true, ?_, ?_, ?_⟩
    · rw [F_X6_isQuiet_55b, RT_2 R, if_pos (nI_le (Nat.le_refl _) (by omega))]; rfl
    · rw [F_X8_entersBy_117, RT_n R, if_pos (nI_le (Nat.le_refl _) (by omega)), if_pos rfl]; rfl
    · rw [F_X8_entersBy_117b, RT_n R, if_pos (nI_le (Nat.le_refl _) (by omega)), if_neg (by decide), if_pos rfl]; rfl
  | succ d ih =>
    intro j nn nn2 h1 h2 h3
    obtain ⟨nn, rfl⟩ : ∃ j, nn = j + 1 := ⟨nn - 1, by omega⟩
    obtain ⟨nn2, rfl⟩ : ∃ j, nn2 = j + 1 := ⟨nn2 - 1, by omega⟩
    have I := ih (j + 1) nn nn2 (by omega) (by omega) (by omega)
    have C := RT_C R (show j < n by omega)
    have K := RT_K R (show j < n by omega)
    have jn : ¬ nI n ≤ nI j := nI_ge (by omega) (by omega)
    have z0 : (0 : Int32).toInt = 0 := by decide
    have n2 : (-2 : Int32) < nI (x + 1) := i32_lt.mpr (by rw [nI_toInt (by omega)]; exact Int.lt_of_lt_of_le (by decide) (Int.natCast_nonneg _))
    have n3 : (-3 : Int32) < nI (x + 1) := i32_lt.mpr (by rw [nI_toInt (by omega)]; exact Int.lt_of_lt_of_le (by decide) (Int.natCast_nonneg _))
    rw [F_X6_isQuiet_55b, F_X8_entersBy_117, F_X8_entersBy_117b, RT_2 R, RT_n R, ix_nI (by omega) (by decide), isOn_r (by omega), get0 (by omega), get5 (by omega), nI_1]
    simp only [jn, if_false, C.2.2.1, hi, obs, Int32.mul_one]
    rcases K.1 with hw | hw
    · rw [CW_up C hw, if_pos rfl, hw]
      by_cases hs : ρ a (49 + 11 * j) < 0
      · simp only [hs, if_true, obs]
        exact I
      · simp only [hs, if_false, if_true, obs, i10]
        exact I
    · rw [CW_dn C hw, if_neg (by decide), hw]
      rcases K.2.2.2.2 with hs | hs | ⟨y, hs, hy, -, -⟩
      · simp only [hs, n2, im2, if_true, obs]
        exact I
      · simp only [hs, n3, im3, if_true, obs]
        exact I
      · have h72 := RT_72 R (Nat.le_refl m)
        have hoff := sub_toInt (x := x) (y := y) (by omega) (by omega)
        have hpie := sub_toInt (x := x) (y := far) (by omega) (by omega)
        have hpf := addn_toInt (x := x) (y := far) (z := f) (by omega) (by omega) (by omega)
        have y0 : ¬ nI y < 0 := nI_pos (by omega)
        rcases Nat.lt_or_ge x y with g | g
        · rcases Nat.lt_or_ge y far with g2 | g2
          · have kl : ¬ nI y < nI (x + 1) := nI_nlt (by omega) (by omega)
            have kh : ¬ nI (far - 1 + f) < nI y := nI_nlt (by omega) (by omega)
            have k0 : ¬ (nI y - nI x) ≤ 0 := fun w => by rw [i32_le, hoff, z0] at w; omega
            have k1 : (nI y - nI x) < (nI far - nI x) := i32_lt.mpr (by rw [hoff, hpie]; omega)
            simp only [hs, y0, i10, im11, kl, kh, k0, k1, if_true, if_false, obs]
            exact ⟨false, rfl, rfl, rfl⟩
          · rcases Nat.lt_or_ge y (far + f) with g3 | g3
            · have kl : ¬ nI y < nI (x + 1) := nI_nlt (by omega) (by omega)
              have kh : ¬ nI (far - 1 + f) < nI y := nI_nlt (by omega) (by omega)
              have k0 : ¬ (nI y - nI x) ≤ 0 := fun w => by rw [i32_le, hoff, z0] at w; omega
              have k1 : ¬ (nI y - nI x) < (nI far - nI x) := fun w => by rw [i32_lt, hoff, hpie] at w; omega
              have k2 : ¬ (nI far - nI x) + nI f ≤ (nI y - nI x) := fun w => by rw [i32_le, hoff, hpf] at w; omega
              simp only [hs, y0, i10, im11, kl, kh, k0, k1, k2, if_true, if_false, obs]
              exact ⟨false, rfl, rfl, rfl⟩
            · have kl : ¬ nI y < nI (x + 1) := nI_nlt (by omega) (by omega)
              have kh : nI (far - 1 + f) < nI y := nI_lt (by omega) (by omega)
              have k0 : ¬ (nI y - nI x) ≤ 0 := fun w => by rw [i32_le, hoff, z0] at w; omega
              have k1 : ¬ (nI y - nI x) < (nI far - nI x) := fun w => by rw [i32_lt, hoff, hpie] at w; omega
              have k2 : (nI far - nI x) + nI f ≤ (nI y - nI x) := i32_le.mpr (by rw [hoff, hpf]; omega)
              simp only [hs, y0, i10, im11, kl, kh, k0, k1, k2, if_true, if_false, obs]
              exact I
        · have kl : nI y < nI (x + 1) := nI_lt (by omega) (by omega)
          have k0 : (nI y - nI x) ≤ 0 := i32_le.mpr (by rw [hoff, z0]; omega)
          have k1 : (nI y - nI x) < (nI far - nI x) := i32_lt.mpr (by rw [hoff, hpie]; omega)
          simp only [hs, y0, i10, im11, kl, k0, k1, if_true, if_false, obs]
          exact I
theorem dn0 {x y : Nat} (hx : x < 1000) (hy : y < 1000) : (nI y - nI x) * -1 ≤ 0 ↔ x ≤ y := by
  rw [i32_le, subn_toInt hx hy, show (0 : Int32).toInt = 0 by decide]
  omega
theorem dn1 {x y far : Nat} (hx : x < 1000) (hy : y < 1000) (hf : far < 1000) : (nI y - nI x) * -1 < (nI far - nI x) * -1 ↔ far < y := by
  rw [i32_lt, subn_toInt hx hy, subn_toInt hx hf]
  omega
theorem dn2 {x y far f : Nat} (hx : x < 1000) (hy : y < 1000) (hf : far < 1000) (hg : f < 1000) : (nI far - nI x) * -1 + nI f ≤ (nI y - nI x) * -1 ↔ y + f ≤ far := by
  rw [i32_le, subn_toInt hx hy, addm_toInt hx hf hg]
  omega
theorem quiet_dn (R : RT σ t (ρ a) m len n) {i x far q f : Nat} {x2 x3 y2 y3 : Int32} (hi : σ i 0 = 0) (hx : far < x) (hx2 : x ≤ 72) (hf : f ≤ 9) : ∀ (d j nn nn2 : Nat), j + d = n → d < nn → d < nn2 → ∃ b, F_X6_isQuiet_55 σ t i x2 x3 nn (nI j) (nI (far + 1 - f)) (nI (x - 1)) = some (bI b) ∧ F_X8_entersBy_117 ρ a y2 y3 nn2 (nI j) (nI far) (nI q) (nI x) (-1) (nI f) 4 = some (bI b) ∧ F_X8_entersBy_117b ρ a y2 y3 nn2 (nI j) (nI far) (nI q) (nI x) (-1) (nI f) 5 = if b then ETL ρ a (nI far) (nI q + -1) else some 0 := by
  have h7 := RT_7 R
  intro d
  induction d with
  | zero =>
    intro j nn nn2 h1 h2 h3
    obtain rfl : j = n := by omega
    obtain ⟨nn, rfl⟩ : ∃ j, nn = j + 1 := ⟨nn - 1, by omega⟩
    obtain ⟨nn2, rfl⟩ : ∃ j, nn2 = j + 1 := ⟨nn2 - 1, by omega⟩
    refine ⟨true, ?_, ?_, ?_⟩
    · rw [F_X6_isQuiet_55, RT_2 R, if_pos (nI_le (Nat.le_refl _) (by omega))]; rfl
    · rw [F_X8_entersBy_117, RT_n R, if_pos (nI_le (Nat.le_refl _) (by omega)), if_pos rfl]; rfl
    · rw [F_X8_entersBy_117b, RT_n R, if_pos (nI_le (Nat.le_refl _) (by omega)), if_neg (show ¬ (5 : Int32) = 4 by decide)]
      exact (show _ = ETL ρ a (nI far) (nI q + -1) from rfl).trans (if_pos rfl).symm
  | succ d ih =>
    intro j nn nn2 h1 h2 h3
    obtain ⟨nn, rfl⟩ : ∃ j, nn = j + 1 := ⟨nn - 1, by omega⟩
    obtain ⟨nn2, rfl⟩ : ∃ j, nn2 = j + 1 := ⟨nn2 - 1, by omega⟩
    have I := ih (j + 1) nn nn2 (by omega) (by omega) (by omega)
    have C := RT_C R (show j < n by omega)
    have K := RT_K R (show j < n by omega)
    have jn : ¬ nI n ≤ nI j := nI_ge (by omega) (by omega)
    have z0 : (0 : Int32).toInt = 0 := by decide
    have n2 : (-2 : Int32) < nI (far + 1 - f) := i32_lt.mpr (by rw [nI_toInt (by omega)]; exact Int.lt_of_lt_of_le (by decide) (Int.natCast_nonneg _))
    have n3 : (-3 : Int32) < nI (far + 1 - f) := i32_lt.mpr (by rw [nI_toInt (by omega)]; exact Int.lt_of_lt_of_le (by decide) (Int.natCast_nonneg _))
    rw [F_X6_isQuiet_55, F_X8_entersBy_117, F_X8_entersBy_117b, RT_2 R, RT_n R, ix_nI (by omega) (by decide), isOn_r (by omega), get0 (by omega), get5 (by omega), nI_1]
    simp only [jn, if_false, C.2.2.1, hi, obs]
    rcases K.1 with hw | hw
    · rw [CW_up C hw, if_neg (by decide), hw]
      rcases K.2.2.2.2 with hs | hs | ⟨y, hs, hy, -, -⟩
      · simp only [hs, n2, im2, if_true, obs]
        exact I
      · simp only [hs, n3, im3, if_true, obs]
        exact I
      · have h72 := RT_72 R (Nat.le_refl m)
        have x1 : x < 1000 := by omega
        have y1 : y < 1000 := by omega
        have f1 : far < 1000 := by omega
        have g1 : f < 1000 := by omega
        have y0 : ¬ nI y < 0 := nI_pos (by omega)
        rcases Nat.lt_or_ge y x with g | g
        · rcases Nat.lt_or_ge far y with g2 | g2
          · have kl : ¬ nI y < nI (far + 1 - f) := nI_nlt (by omega) (by omega)
            have kh : ¬ nI (x - 1) < nI y := nI_nlt (by omega) (by omega)
            have k0 : ¬ ((nI y - nI x) * -1) ≤ 0 := fun w => absurd ((dn0 x1 y1).mp w) (by omega)
            have k1 : ((nI y - nI x) * -1) < ((nI far - nI x) * -1) := (dn1 x1 y1 f1).mpr (by omega)
            simp only [hs, y0, i10, i1m1, kl, kh, k0, k1, if_true, if_false, obs]
            exact ⟨false, rfl, rfl, rfl⟩
          · rcases Nat.lt_or_ge far (y + f) with g3 | g3
            · have kl : ¬ nI y < nI (far + 1 - f) := nI_nlt (by omega) (by omega)
              have kh : ¬ nI (x - 1) < nI y := nI_nlt (by omega) (by omega)
              have k0 : ¬ ((nI y - nI x) * -1) ≤ 0 := fun w => absurd ((dn0 x1 y1).mp w) (by omega)
              have k1 : ¬ ((nI y - nI x) * -1) < ((nI far - nI x) * -1) := fun w => absurd ((dn1 x1 y1 f1).mp w) (by omega)
              have k2 : ¬ ((nI far - nI x) * -1) + nI f ≤ ((nI y - nI x) * -1) := fun w => absurd ((dn2 x1 y1 f1 g1).mp w) (by omega)
              simp only [hs, y0, i10, i1m1, kl, kh, k0, k1, k2, if_true, if_false, obs]
              exact ⟨false, rfl, rfl, rfl⟩
            · have kl : nI y < nI (far + 1 - f) := nI_lt (by omega) (by omega)
              have k0 : ¬ ((nI y - nI x) * -1) ≤ 0 := fun w => absurd ((dn0 x1 y1).mp w) (by omega)
              have k1 : ¬ ((nI y - nI x) * -1) < ((nI far - nI x) * -1) := fun w => absurd ((dn1 x1 y1 f1).mp w) (by omega)
              have k2 : ((nI far - nI x) * -1) + nI f ≤ ((nI y - nI x) * -1) := (dn2 x1 y1 f1 g1).mpr (by omega)
              simp only [hs, y0, i10, i1m1, kl, k0, k1, k2, if_true, if_false, obs]
              exact I
        · have kl : ¬ nI y < nI (far + 1 - f) := nI_nlt (by omega) (by omega)
          have kh : nI (x - 1) < nI y := nI_lt (by omega) (by omega)
          have k0 : ((nI y - nI x) * -1) ≤ 0 := (dn0 x1 y1).mpr (by omega)
          have k1 : ((nI y - nI x) * -1) < ((nI far - nI x) * -1) := (dn1 x1 y1 f1).mpr (by omega)
          simp only [hs, y0, i10, i1m1, kl, kh, k0, k1, if_true, if_false, obs]
          exact I
    · rw [CW_dn C hw, if_pos rfl, hw]
      by_cases hs : ρ a (49 + 11 * j) < 0
      · simp only [hs, if_true, obs]
        exact I
      · simp only [hs, if_false, if_true, obs, i10]
        exact I
theorem rule_v (R : RT σ t (ρ a) m len n) {v : Nat} (hv : v < 3) : ∃ f : Nat, f ≤ 9 ∧ ρ a (39 + 2 * v) = nI f := by
  have h := (VS_rule (RT_V R) hv).2
  exact ⟨(ρ a (39 + 2 * v)).toInt.toNat, by omega, nI_i h.1 (by omega)⟩
theorem kindOf_r {v : Nat} (hv : v < 3) : F_X8_kindOf ρ a (nI v) = some (ρ a (38 + 2 * v)) := by
  unfold F_X8_kindOf
  rw [ix38 hv, Option.bind_some]
theorem enters_up (R : RT σ t (ρ a) m len n) {c q v : Nat} (hc : c < n) (hw : ρ a (44 + 11 * c) = 1) (hq : q < m) (hs : ρ a (49 + 11 * c) = nI (PS len q)) (hv : v < 3) (ev : ρ a (16 + 3 * q) = nI v) (hpa : F_X6_pieceAhead σ t (22 * t + 15 + c) = some (nI q)) : ∃ b, F_X6_letsIn σ t (22 * t + 15 + c) = some (bI b) ∧ F_X8_entersBy ρ a (nI c) (nI v) = some (bI b) := by
  have h7 := RT_7 R
  have h8 := RT_8 R
  have C := RT_C R hc
  have V := RT_V R
  obtain ⟨M, hM, eM⟩ := RT_M R
  obtain ⟨f, hf, ef⟩ := rule_v R hv
  have hlt := PS_lt (VS_b V) (show q < q + 1 by omega) (show q + 1 ≤ m by omega)
  have h72 := RT_72 R (show q + 1 ≤ m by omega)
  have eo := ownEnd_up R hc hw
  have rk := (RT_R R).2.2.2.2.2.2.2 v hv
  unfold F_X6_letsIn F_X8_entersBy
  rw [hpa, Option.bind_some, villageBy_c R hq, ev, Option.bind_some, ix_nI (by omega) (by decide), Option.bind_some, Option.bind_some, rk.1, rk.2, ef, kindOf_r hv, Option.bind_some, ix39 hv, Option.bind_some, get0 (by omega), Option.bind_some, get5 (by omega), Option.bind_some, hw, hs, ef, C.2.2.1, hs, eo.1, eo.2]
  simp only [obs]
  by_cases h3 : ρ a (38 + 2 * v) = 3
  · rw [if_pos h3, if_pos h3]
    by_cases he : nI (PS len q) = nI 0
    · rw [if_pos he, if_pos he, hour_c ((RT_3 R).trans eM) hM hf, eM, hour_v hM hf, ck_t _ (by rw [nI_1, show (10 : Int32) = nI 10 from rfl, nI_mul]; exact nI_ne0 (by omega) (by omega)), CW_up C hw]
      by_cases hp : M / (10 * (f + 1)) % 2 = 0
      · refine ⟨true, ?_, ?_⟩
        · rw [if_pos hp, if_pos rfl, Option.bind_some, if_neg (by decide)]; rfl
        · rw [if_neg (show ¬ (1 : Int32) ≤ 0 by decide), if_pos (by rw [hp]; rfl)]; rfl
      · refine ⟨false, ?_, ?_⟩
        · rw [if_neg hp, if_neg (by decide), Option.bind_some, if_pos rfl]; rfl
        · rw [if_neg (show ¬ (1 : Int32) ≤ 0 by decide), if_neg (nI_ne0 (by omega) (by omega))]; rfl
    · rw [if_neg he, if_neg he]
      exact ⟨true, rfl, rfl⟩
  · rw [if_neg h3, if_neg h3]
    have sq : F_X6_isQuiet σ t (22 * t + 15 + c) (nI q) (nI f) = F_X6_isQuiet_55b σ t (22 * t + 15 + c) (nI q) (nI f) FU (nI 0) (nI (PS len (q + 1) - 1 + f)) (nI (PS len q + 1)) := by
      unfold F_X6_isQuiet
      rw [spotOfPlace_c R (by omega), Option.bind_some, nI_1, spotOfPlace_c R (by omega), Option.bind_some, CW_up C hw, if_neg (by decide), nI_sub1 (by omega), nI_add, nI_1]; rfl
    have pl : F_X8_placeAt ρ a (nI (PS len q)) = some (nI q) := placeAt_at V (by omega)
    have so : F_X8_spotOf ρ a (nI q + 1) = some (nI (PS len (q + 1))) := by rw [nI_1]; exact spotOf_r V (by omega)
    obtain ⟨b, q1, q2, q3⟩ := quiet_up R (i := 22 * t + 15 + c) (x := PS len q) (far := PS len (q + 1)) (q := q) (f := f) (x2 := nI q) (x3 := nI f) (y2 := nI c) (y3 := nI v) (CW_up C hw) (by omega) h72 hf n 0 FU FU (by omega) (Nat.lt_of_le_of_lt h7 (by decide)) (Nat.lt_of_le_of_lt h7 (by decide))
    by_cases h4 : ρ a (38 + 2 * v) = 4
    · rw [if_pos h4, if_pos h4, sq, q1, pl, Option.bind_some, Option.bind_some, so, Option.bind_some, h4, show (0 : Int32) = nI 0 from rfl, q2]
      exact ⟨b, by cases b <;> rfl, rfl⟩
    · rw [if_neg h4, if_neg h4]
      by_cases h5 : ρ a (38 + 2 * v) = 5
      · rw [if_pos h5, if_pos h5, sq, q1, pl, Option.bind_some, Option.bind_some, so, Option.bind_some, h5, show F_X8_entersBy_117b ρ a (nI c) (nI v) FU 0 = F_X8_entersBy_117b ρ a (nI c) (nI v) FU (nI 0) from rfl, q3, CW_up C hw]
        cases b with
        | false => exact ⟨false, rfl, rfl⟩
        | true =>
          rw [bI_t, if_neg (by decide), if_neg (by decide), nI_1, spotOfPlace_c R (by omega), Option.bind_some, room_at R (show q + 1 ≤ m by omega), Option.bind_some, if_pos rfl, ETL_v R (show q + 1 ≤ m by omega)]
          exact ⟨_, bI_id _, rfl⟩
      · rw [if_neg h5, if_neg h5]
        exact ⟨true, rfl, rfl⟩
theorem nI_m1 {q : Nat} : nI (q + 1) + -1 = nI q := by
  rw [← Int32.sub_eq_add_neg]; exact nI_pred q
theorem enters_dn (R : RT σ t (ρ a) m len n) {c q v : Nat} (hc : c < n) (hw : ρ a (44 + 11 * c) = -1) (hq : q < m) (hs : ρ a (49 + 11 * c) = nI (PS len (q + 1))) (hv : v < 3) (ev : ρ a (16 + 3 * q) = nI v) (hpa : F_X6_pieceAhead σ t (22 * t + 15 + c) = some (nI q)) : ∃ b, F_X6_letsIn σ t (22 * t + 15 + c) = some (bI b) ∧ F_X8_entersBy ρ a (nI c) (nI v) = some (bI b) := by
  have h7 := RT_7 R
  have h8 := RT_8 R
  have C := RT_C R hc
  have V := RT_V R
  obtain ⟨M, hM, eM⟩ := RT_M R
  obtain ⟨f, hf, ef⟩ := rule_v R hv
  have hlt := PS_lt (VS_b V) (show q < q + 1 by omega) (show q + 1 ≤ m by omega)
  have h72 := RT_72 R (show q + 1 ≤ m by omega)
  have eo := ownEnd_dn R hc hw
  have rk := (RT_R R).2.2.2.2.2.2.2 v hv
  unfold F_X6_letsIn F_X8_entersBy
  rw [hpa, Option.bind_some, villageBy_c R hq, ev, Option.bind_some, ix_nI (by omega) (by decide), Option.bind_some, Option.bind_some, rk.1, rk.2, ef, kindOf_r hv, Option.bind_some, ix39 hv, Option.bind_some, get0 (by omega), Option.bind_some, get5 (by omega), Option.bind_some, hw, hs, ef, C.2.2.1, hs, eo.1, eo.2]
  simp only [obs]
  by_cases h3 : ρ a (38 + 2 * v) = 3
  · rw [if_pos h3, if_pos h3]
    by_cases he : nI (PS len (q + 1)) = nI (PS len m)
    · rw [if_pos he, if_pos he, hour_c ((RT_3 R).trans eM) hM hf, eM, hour_v hM hf, ck_t _ (by rw [nI_1, show (10 : Int32) = nI 10 from rfl, nI_mul]; exact nI_ne0 (by omega) (by omega)), CW_dn C hw]
      by_cases hp : M / (10 * (f + 1)) % 2 = 0
      · refine ⟨false, ?_, ?_⟩
        · rw [if_pos hp, if_neg (by decide), Option.bind_some, if_pos rfl]; rfl
        · rw [if_pos (show (-1 : Int32) ≤ 0 by decide), if_neg (by rw [hp]; decide)]; rfl
      · have hp1 : M / (10 * (f + 1)) % 2 = 1 := by omega
        refine ⟨true, ?_, ?_⟩
        · rw [if_neg hp, if_pos rfl, Option.bind_some, if_neg (by decide)]; rfl
        · rw [if_pos (show (-1 : Int32) ≤ 0 by decide), if_pos (by rw [hp1]; rfl)]; rfl
    · rw [if_neg he, if_neg he]
      exact ⟨true, rfl, rfl⟩
  · rw [if_neg h3, if_neg h3]
    have lo : (if 0 < ((nI (PS len q) + 1) - nI f) then ((nI (PS len q) + 1) - nI f) else 0) = nI (PS len q + 1 - f) := by
      rw [nI_1]
      rcases Nat.lt_or_ge f (PS len q + 1) with g | g
      · rw [nI_sub (by omega), if_pos (show (0 : Int32) < nI (PS len q + 1 - f) from nI_lt (a := 0) (by omega) (by omega))]
      · rw [if_neg (fun w => by rw [i32_lt, sub_toInt (by omega) (by omega), show (0 : Int32).toInt = 0 by decide] at w; omega), show PS len q + 1 - f = 0 by omega]; rfl
    have sq : F_X6_isQuiet σ t (22 * t + 15 + c) (nI q) (nI f) = F_X6_isQuiet_55 σ t (22 * t + 15 + c) (nI q) (nI f) FU (nI 0) (nI (PS len q + 1 - f)) (nI (PS len (q + 1) - 1)) := by
      unfold F_X6_isQuiet
      rw [spotOfPlace_c R (by omega), Option.bind_some, nI_1, spotOfPlace_c R (by omega), Option.bind_some, CW_dn C hw, if_pos rfl, lo, nI_sub1 (by omega)]; rfl
    have pl : F_X8_placeAt ρ a (nI (PS len (q + 1))) = some (nI (q + 1)) := placeAt_at V (by omega)
    have so : F_X8_spotOf ρ a (nI (q + 1) + -1) = some (nI (PS len q)) := by rw [nI_m1]; exact spotOf_r V (by omega)
    obtain ⟨b, q1, q2, q3⟩ := quiet_dn R (i := 22 * t + 15 + c) (x := PS len (q + 1)) (far := PS len q) (q := q + 1) (f := f) (x2 := nI q) (x3 := nI f) (y2 := nI c) (y3 := nI v) (CW_dn C hw) (by omega) h72 hf n 0 FU FU (by omega) (Nat.lt_of_le_of_lt h7 (by decide)) (Nat.lt_of_le_of_lt h7 (by decide))
    by_cases h4 : ρ a (38 + 2 * v) = 4
    · rw [if_pos h4, if_pos h4, sq, q1, pl, Option.bind_some, Option.bind_some, so, Option.bind_some, h4, show (0 : Int32) = nI 0 from rfl, q2]
      exact ⟨b, by cases b <;> rfl, rfl⟩
    · rw [if_neg h4, if_neg h4]
      by_cases h5 : ρ a (38 + 2 * v) = 5
      · rw [if_pos h5, if_pos h5, sq, q1, pl, Option.bind_some, Option.bind_some, so, Option.bind_some, h5, show F_X8_entersBy_117b ρ a (nI c) (nI v) FU 0 = F_X8_entersBy_117b ρ a (nI c) (nI v) FU (nI 0) from rfl, q3, CW_dn C hw]
        cases b with
        | false => exact ⟨false, rfl, rfl⟩
        | true =>
          rw [bI_t, if_neg (by decide), if_pos rfl, spotOfPlace_c R (by omega), Option.bind_some, room_at R (show q ≤ m by omega), Option.bind_some, if_pos rfl, nI_m1, ETL_v R (show q ≤ m by omega)]
          exact ⟨_, bI_id _, rfl⟩
      · rw [if_neg h5, if_neg h5]
        exact ⟨true, rfl, rfl⟩
end EN
