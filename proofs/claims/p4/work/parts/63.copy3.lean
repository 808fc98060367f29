/-! copy -/
section CY
variable {σ σ' ρ ρ' : Mem}
theorem ix99b {d i a : Nat} (hd : d < 8) (hi : i + a < 100) : ix 800 (((100 * nI d) + nI i) + nI a) = some (100 * d + i + a) := by
  rw [show (100 : Int32) = nI 100 from rfl, nI_mul, nI_add, nI_add]; exact ix_nI (by omega) (by decide)
/-- the reference copies element by element, from the end where that is needed -/
theorem copy_l {d e i j n : Nat} (ρ0 : Mem) (hd : d < 8) (he : e < 8) (hi : i + n ≤ 100) (hj : j + n ≤ 100) : ∀ (q k nn : Nat) (ρ : Mem), k + q = n → q < nn → (∀ b, b ≠ 99 → ρ b = ρ0 b) → (∀ b, ρ 99 b = if (i ≤ j ∧ 100 * e + j + (n - k) ≤ b ∧ b < 100 * e + j + n) ∨ (¬ i ≤ j ∧ 100 * e + j ≤ b ∧ b < 100 * e + j + k) then ρ0 99 (100 * d + i + (b - (100 * e + j))) else ρ0 99 b) →
    ∃ ρ', F_X8_copy_122 (nI d) (nI i) (nI e) (nI j) (nI n) nn ρ (nI k) = some (ρ', nI n) ∧ (∀ b, b ≠ 99 → ρ' b = ρ0 b) ∧ ∀ b, ρ' 99 b = if 100 * e + j ≤ b ∧ b < 100 * e + j + n then ρ0 99 (100 * d + i + (b - (100 * e + j))) else ρ0 99 b := by
  intro q
  induction q with
  | zero =>
    intro k nn ρ e1 e2 h1 h2
    obtain rfl : k = n := by omega
    obtain ⟨nn, rfl⟩ : ∃ j, nn = j + 1 := ⟨nn - 1, by omega⟩
    rw [F_X8_copy_122, if_pos (nI_le (Nat.le_refl _) (by omega))]
    refine ⟨ρ, rfl, h1, fun b => ?_⟩
    rw [h2 b]
    by_cases w : 100 * e + j ≤ b ∧ b < 100 * e + j + k
    · rw [if_pos (by omega), if_pos w]
    · rw [if_neg (by omega), if_neg w]
  | succ q ih =>
    intro k nn ρ e1 e2 h1 h2
    obtain ⟨nn, rfl⟩ : ∃ j, nn = j + 1 := ⟨nn - 1, by omega⟩
    rw [F_X8_copy_122, if_neg (nI_ge (by omega) (by omega))]
    by_cases c : i ≤ j
    · have ea : (nI n - 1) - nI k = nI (n - 1 - k) := by rw [nI_sub1 (by omega), nI_sub (by omega)]
      rw [if_pos (nI_le c (by omega)), ea, ix99b hd (by omega), ix99b he (by omega), Option.bind_some, Option.bind_some, nI_1]
      refine ih (k + 1) nn _ (by omega) (by omega) (fun b hb => by rw [stm_ne _ _ _ hb]; exact h1 b hb) (fun b => ?_)
      rw [stm_row]
      have src : ρ 99 (100 * d + i + (n - 1 - k)) = ρ0 99 (100 * d + i + (n - 1 - k)) := by
        rw [h2, if_neg (by omega)]
      by_cases w : b = 100 * e + j + (n - 1 - k)
      · subst w
        rw [upd_at, src, if_pos (by omega), show 100 * e + j + (n - 1 - k) - (100 * e + j) = n - 1 - k by omega]
      · rw [upd_ne _ _ w, h2]
        by_cases w2 : 100 * e + j + (n - k) ≤ b ∧ b < 100 * e + j + n
        · rw [if_pos (by omega), if_pos (by omega)]
        · rw [if_neg (by omega), if_neg (by omega)]
    · rw [if_neg (nI_ge (by omega) (by omega)), ix99b hd (by omega), ix99b he (by omega), Option.bind_some, Option.bind_some, nI_1]
      refine ih (k + 1) nn _ (by omega) (by omega) (fun b hb => by rw [stm_ne _ _ _ hb]; exact h1 b hb) (fun b => ?_)
      rw [stm_row]
      have src : ρ 99 (100 * d + i + k) = ρ0 99 (100 * d + i + k) := by
        rw [h2, if_neg (by omega)]
      by_cases w : b = 100 * e + j + k
      · subst w
        rw [upd_at, src, if_pos (by omega), show 100 * e + j + k - (100 * e + j) = k by omega]
      · rw [upd_ne _ _ w, h2]
        by_cases w2 : 100 * e + j ≤ b ∧ b < 100 * e + j + k
        · rw [if_pos (by omega), if_pos (by omega)]
        · rw [if_neg (by omega), if_neg (by omega)]
theorem hasEl_c {d z : Nat} {x n : Int32} (hs : σ (68 + d) 4 = nI z) (hz : z ≤ 100) : F_X5_hasElements σ d x n = some (bI (decide (0 ≤ x.toInt ∧ 0 ≤ n.toInt ∧ x.toInt + n.toInt ≤ z))) := by
  have z0 : (0 : Int32).toInt = 0 := by decide
  unfold F_X5_hasElements
  rw [hs]
  by_cases k1 : x < 0
  · rw [if_pos k1]
    rw [i32_lt, z0] at k1
    rw [decide_eq_false (by omega)]; rfl
  rw [if_neg k1]
  rw [i32_lt, z0] at k1
  by_cases k2 : n < 0
  · rw [if_pos k2]
    rw [i32_lt, z0] at k2
    rw [decide_eq_false (by omega)]; rfl
  rw [if_neg k2]
  rw [i32_lt, z0] at k2
  by_cases k3 : nI z < n
  · rw [if_pos k3]
    rw [i32_lt, nI_toInt (by omega)] at k3
    rw [decide_eq_false (by omega)]; rfl
  rw [if_neg k3]
  rw [i32_lt, nI_toInt (by omega)] at k3
  have hs2 : (nI z - n).toInt = (z : Int) - n.toInt := by
    rw [t_sub (by rw [nI_toInt (by omega)]; omega) (by rw [nI_toInt (by omega)]; omega), nI_toInt (by omega)]
  by_cases k4 : nI z - n < x
  · rw [if_pos k4]
    rw [i32_lt, hs2] at k4
    rw [decide_eq_false (by omega)]; rfl
  · rw [if_neg k4]
    rw [i32_lt, hs2] at k4
    rw [decide_eq_true (by omega)]; rfl
theorem call_copy (x i y j n : Int32) : CALL (fun σ => F_X7_copy σ x i y j n) (fun σ => F_X8_copy σ x i y j n) := by
  intro σ ρ I
  have S := I.2.2.2.2
  have no : ∀ {r : Int32}, ∃ σ' r' ρ', some (σ, r) = some (σ', r') ∧ some (ρ, r) = some (ρ', r') ∧ INV σ' ρ' ∧ CF σ σ' ∧ RF ρ ρ' := fun {r} => ⟨σ, r, ρ, rfl, rfl, I, fun _ _ => rfl, fun _ _ => rfl⟩
  show ∃ σ' r ρ', F_X7_copy σ x i y j n = some (σ', r) ∧ F_X8_copy ρ x i y j n = some (ρ', r) ∧ _
  unfold F_X7_copy F_X8_copy
  rcases shelf_x (ρ := ρ) x with ⟨h1, h2⟩ | ⟨d, hd, rfl, h1, h2⟩
  · rw [if_pos h1, h2, Option.bind_some, if_pos rfl]
    rcases shelf_x (ρ := ρ) y with ⟨h3, h4⟩ | ⟨e, he, rfl, h3, h4⟩
    · rw [if_pos h3]; exact no
    · rw [if_neg h3, ix_nI he (by decide), Option.bind_some]; exact no
  rcases shelf_x (ρ := ρ) y with ⟨h3, h4⟩ | ⟨e, he, rfl, h3, h4⟩
  · rw [if_neg h1, h2, ix_nI hd (by decide), Option.bind_some, Option.bind_some, if_neg i10, if_pos h3, h4, Option.bind_some, if_pos rfl]; exact no
  obtain ⟨⟨s1, s2⟩, s3, s4, ⟨s5, zd, hzd, ezd⟩, s6⟩ := S d hd
  obtain ⟨⟨t1, t2⟩, t3, t4, ⟨t5, ze, hze, eze⟩, t6⟩ := S e he
  rw [if_neg h1, h2, ix_nI hd (by decide), h4, ix_nI he (by decide)]
  simp only [obs, i10, h3, if_false, s1, t1, s4, t4, ezd, eze]
  by_cases k1 : ρ 96 d = 0
  · repeat rw [if_pos k1]
    exact no
  repeat rw [if_neg k1]
  by_cases k2 : ρ 96 e = 0
  · repeat rw [if_pos k2]
    exact no
  repeat rw [if_neg k2]
  by_cases k3 : ρ 96 d = 2
  rotate_left
  · repeat rw [if_neg k3]
    exact no
  repeat rw [if_pos k3]
  by_cases k4 : ρ 96 e = 2
  rotate_left
  · repeat rw [if_neg k4]
    exact no
  repeat rw [if_pos k4]
  by_cases k5 : ρ 97 d = ρ 97 e
  rotate_left
  · repeat rw [if_neg k5]
    exact no
  repeat rw [if_pos k5]
  rw [hasEl_c (s5.trans ezd) hzd, hasEl_c (t5.trans eze) hze]
  simp only [obs]
  have z0 : (0 : Int32).toInt = 0 := by decide
  have b0 : ∀ b : Bool, b = false → bI b = 0 := fun b h => by rw [h]; rfl
  have b1 : ∀ b : Bool, b = true → ¬ bI b = 0 := fun b h => by rw [h]; decide
  by_cases k6 : n < 0
  · rw [if_pos k6, if_pos (b0 _ (decide_eq_false (fun q => by rw [i32_lt, z0] at k6; omega)))]; exact no
  rw [if_neg k6]
  rw [i32_lt, z0] at k6
  by_cases k7 : i < 0
  · rw [if_pos k7, if_pos (b0 _ (decide_eq_false (fun q => by rw [i32_lt, z0] at k7; omega)))]; exact no
  rw [if_neg k7]
  rw [i32_lt, z0] at k7
  by_cases k8 : j < 0
  · rw [if_pos k8, if_pos (b0 (decide (0 ≤ j.toInt ∧ _)) (decide_eq_false (fun q => by rw [i32_lt, z0] at k8; omega)))]
    by_cases g : bI (decide (0 ≤ i.toInt ∧ 0 ≤ n.toInt ∧ i.toInt + n.toInt ≤ (zd : Int))) = 0
    · rw [if_pos g]; exact no
    · rw [if_neg g]; exact no
  rw [if_neg k8]
  rw [i32_lt, z0] at k8
  have li := Int32.toInt_lt i
  have lj := Int32.toInt_lt j
  have hs1 : (nI zd - i).toInt = (zd : Int) - i.toInt := by
    rw [t_sub (by rw [nI_toInt (by omega)]; omega) (by rw [nI_toInt (by omega)]; omega), nI_toInt (by omega)]
  have hs2 : (nI ze - j).toInt = (ze : Int) - j.toInt := by
    rw [t_sub (by rw [nI_toInt (by omega)]; omega) (by rw [nI_toInt (by omega)]; omega), nI_toInt (by omega)]
  by_cases k9 : nI zd - i < n
  · rw [if_pos k9, if_pos (b0 _ (decide_eq_false (fun q => by rw [i32_lt, hs1] at k9; omega)))]; exact no
  rw [if_neg k9]
  rw [i32_lt, hs1] at k9
  rw [if_neg (b1 (decide (0 ≤ i.toInt ∧ _)) (decide_eq_true (by omega)))]
  by_cases k10 : n ≤ nI ze - j
  rotate_left
  · rw [if_neg k10, if_pos (b0 _ (decide_eq_false (fun q => by rw [i32_le, hs2] at k10; omega)))]; exact no
  rw [if_pos k10]
  rw [i32_le, hs2] at k10
  rw [if_neg (b1 (decide (0 ≤ j.toInt ∧ _)) (decide_eq_true (by omega)))]
  rw [ck_t _ (show cpok i j n 100 100 from ⟨by omega, by omega, by omega, by omega, by omega⟩)]
  obtain ⟨i', hi', rfl⟩ : ∃ i' : Nat, i' ≤ 100 ∧ i = nI i' := ⟨i.toInt.toNat, by omega, nI_i (by omega) (by omega)⟩
  obtain ⟨j', hj', rfl⟩ : ∃ j' : Nat, j' ≤ 100 ∧ j = nI j' := ⟨j.toInt.toNat, by omega, nI_i (by omega) (by omega)⟩
  obtain ⟨n', hn', rfl⟩ : ∃ n' : Nat, n' ≤ 100 ∧ n = nI n' := ⟨n.toInt.toNat, by omega, nI_i (by omega) (by omega)⟩
  rw [nI_toInt (show i' < 2 ^ 31 by omega), nI_toInt (show n' < 2 ^ 31 by omega)] at k9
  rw [nI_toInt (show j' < 2 ^ 31 by omega), nI_toInt (show n' < 2 ^ 31 by omega)] at k10
  rw [nI_clamp (show i' < 2 ^ 31 by omega), nI_clamp (show j' < 2 ^ 31 by omega), nI_clamp (show n' < 2 ^ 31 by omega)]
  obtain ⟨ρ', a1, a2, a3⟩ := copy_l (d := d) (e := e) (i := i') (j := j') (n := n') ρ hd he (by omega) (by omega) n' 0 FU ρ (by omega) (Nat.lt_of_le_of_lt (show n' ≤ 100 by omega) (by decide)) (fun _ _ => rfl) (fun b => by rw [if_neg (by omega)])
  have a1' : F_X8_copy_122 (nI d) (nI i') (nI e) (nI j') (nI n') FU ρ 0 = some (ρ', nI n') := a1
  have c0 : ∀ b, b ≠ 76 + e → cpm σ (76 + d) i' (76 + e) j' n' b = σ b := fun b hb => by simp [cpm, hb]
  have c1 : ∀ b, cpm σ (76 + d) i' (76 + e) j' n' (76 + e) b = if j' ≤ b ∧ b < j' + n' then σ (76 + d) (i' + (b - j')) else σ (76 + e) b := fun b => by simp [cpm, va_cpy]
  have hSD : SD (cpm σ (76 + d) i' (76 + e) j' n') ρ' e := by
    have s := S e he
    unfold SD
    rw [c0 (68 + e) (by omega), a2 96 (by omega), a2 97 (by omega), a2 98 (by omega), a2 100 (by omega), a2 101 (by omega)]
    refine ⟨s.1, s.2.1, s.2.2.1, s.2.2.2.1, fun b hb => ?_⟩
    rw [c1, a3]
    by_cases w : j' ≤ b ∧ b < j' + n'
    · rw [if_pos w, if_pos (by omega), s6 _ (by omega), show 100 * d + i' + (100 * e + b - (100 * e + j')) = 100 * d + (i' + (b - j')) by omega]
    · rw [if_neg w, if_neg (by omega)]; exact t6 b hb
  obtain ⟨j1, j2, j3⟩ := INV_sh I (σ' := cpm σ (76 + d) i' (76 + e) j' n') (ρ' := ρ') (SH_one S he hSD (fun b _ h => c0 b h) (fun q hq => by rw [a2 96 (by omega), a2 97 (by omega), a2 98 (by omega), a2 100 (by omega), a2 101 (by omega)]; exact ⟨rfl, rfl, rfl, rfl, rfl⟩) (fun q hq => by rw [a3, if_neg (by omega)])) (fun b hb => c0 b (by omega)) (fun b hb => a2 b (by omega))
  exact ⟨_, _, _, rfl, a1', j1, j2, j3⟩
end CY
