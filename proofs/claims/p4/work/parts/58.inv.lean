/-! what holds between calls; frames -/
def LZ (σ : Mem) (t : Nat) : Prop := ∀ j, j < 7 → σ (22 * t + 15 + j) 5 = 0
def SH (σ ρ : Mem) : Prop := ∀ d, d < 8 → (σ (68 + d) 0 = ρ 96 d ∧ (ρ 96 d = 0 ∨ ρ 96 d = 1 ∨ ρ 96 d = 2)) ∧ (ρ 96 d = 1 → σ (68 + d) 1 = ρ 100 d ∧ σ (68 + d) 2 = ρ 101 d ∧ (∃ q : Nat, q < 8 ∧ ρ 100 d = nI q) ∧ (∃ f : Nat, f ≤ 9 ∧ ρ 101 d = nI f)) ∧ σ (68 + d) 3 = ρ 97 d ∧ (σ (68 + d) 4 = ρ 98 d ∧ ∃ z : Nat, z ≤ 100 ∧ ρ 98 d = nI z) ∧ ∀ i, i < 100 → σ (76 + d) i = ρ 99 (100 * d + i)
def IMG (σ ρ : Mem) : Prop := (σ 66 3 = 0 ∧ ρ 91 10 = 0) ∨ (σ 66 3 = 1 ∧ ρ 91 10 = 1 ∧ ∃ (m : Nat) (len : Nat → Nat) (n : Nat), RT σ 1 (ρ 93) m len n ∧ LZ σ 1)
def WN (σ : Mem) : Prop := (σ 0 8 = -4 ∧ σ 0 9 = -4) ∧ (σ 44 8 = -4 ∧ σ 44 9 = -4)
def INV (σ ρ : Mem) : Prop := (∃ (m : Nat) (len : Nat → Nat) (n : Nat), RT σ 0 (ρ 92) m len n) ∧ LZ σ 0 ∧ WN σ ∧ IMG σ ρ ∧ SH σ ρ
def CF (σ σ' : Mem) : Prop := ∀ i, 91 ≤ i → σ' i = σ i
def RF (ρ ρ' : Mem) : Prop := ∀ i, i < 91 → ρ' i = ρ i
section IV
variable {σ σ' ρ ρ' : Mem} {t m n : Nat} {k : Nat → Int32} {len : Nat → Nat}
theorem RT_cc (R : RT σ t k m len n) (h : ∀ i, 22 * t ≤ i → i < 22 * t + 22 → σ' i = σ i) : RT σ' t k m len n := by
  have h7 := RT_7 R
  obtain ⟨V, hn, hM, K, D, f, W, hb, hon, hz⟩ := R
  refine ⟨V, hn, hM, K, ?_, by rw [h (22 * t) (by omega) (by omega)]; exact f, fun c hc => by rw [h (22 * t + 15 + c) (by omega) (by omega)]; exact W c hc, fun j hj b h1 h2 => by rw [h (22 * t + 15 + j) (by omega) (by omega)]; exact hb j hj b h1 h2, fun s hs => by rw [h (22 * t + 14) (by omega) (by omega)]; exact hon s hs, hz⟩
  unfold RD at D ⊢
  rw [h (22 * t + 1) (by omega) (by omega), h (22 * t + 2) (by omega) (by omega), h (22 * t + 3) (by omega) (by omega), h (22 * t + 4) (by omega) (by omega), h (22 * t + 5) (by omega) (by omega), h (22 * t + 6) (by omega) (by omega), h (22 * t + 7) (by omega) (by omega), h (22 * t + 8) (by omega) (by omega), h (22 * t + 9) (by omega) (by omega), h (22 * t + 10) (by omega) (by omega), h (22 * t + 11) (by omega) (by omega), h (22 * t + 12) (by omega) (by omega)]
  exact D
theorem LZ_cc (L : LZ σ t) (h : ∀ i, 22 * t ≤ i → i < 22 * t + 22 → σ' i = σ i) : LZ σ' t := fun j hj => by rw [h _ (by omega) (by omega)]; exact L j hj
theorem IMG_cc (I : IMG σ ρ) (h : ∀ i, 22 ≤ i → i < 44 → σ' i = σ i) (h66 : σ' 66 = σ 66) (h93 : ρ' 93 = ρ 93) (h91 : ρ' 91 10 = ρ 91 10) : IMG σ' ρ' := by
  rcases I with ⟨i1, i2⟩ | ⟨i1, i2, m, len, n, R, L⟩
  · exact Or.inl ⟨by rw [h66]; exact i1, h91.trans i2⟩
  · refine Or.inr ⟨by rw [h66]; exact i1, h91.trans i2, m, len, n, ?_, LZ_cc L (fun i h1 h2 => h i (by omega) (by omega))⟩
    rw [h93]
    exact RT_cc R (fun i h1 h2 => h i (by omega) (by omega))
theorem SH_cc (S : SH σ ρ) (h : ∀ i, 68 ≤ i → i < 84 → σ' i = σ i) (hr : ∀ i, 96 ≤ i → i ≤ 101 → ρ' i = ρ i) : SH σ' ρ' := by
  intro d hd
  have s := S d hd
  rw [h (68 + d) (by omega) (by omega), h (76 + d) (by omega) (by omega), hr 96 (by omega) (by omega), hr 97 (by omega) (by omega), hr 98 (by omega) (by omega), hr 99 (by omega) (by omega), hr 100 (by omega) (by omega), hr 101 (by omega) (by omega)]
  exact s
theorem INV_cc (I : INV σ ρ) (h : ∀ i, i < 91 → σ' i = σ i) (hr : ∀ i, 91 ≤ i → ρ' i = ρ i) : INV σ' ρ' := by
  obtain ⟨⟨m, len, n, R⟩, L, ⟨⟨w1, w2⟩, w3, w4⟩, G, S⟩ := I
  refine ⟨⟨m, len, n, ?_⟩, LZ_cc L (fun i _ h2 => h i (by omega)), ?_, IMG_cc G (fun i _ h2 => h i (by omega)) (h 66 (by omega)) (hr 93 (by omega)) (by rw [hr 91 (by omega)]), SH_cc S (fun i _ h2 => h i (by omega)) (fun i h1 _ => hr i (by omega))⟩
  · rw [hr 92 (by omega)]
    exact RT_cc R (fun i _ h2 => h i (by omega))
  · unfold WN
    rw [h 0 (by omega), h 44 (by omega)]
    exact ⟨⟨w1, w2⟩, w3, w4⟩
/-- a call of each side: what it is to be right -/
def CALL (f g : Mem → Option (Mem × Int32)) : Prop := ∀ σ ρ, INV σ ρ → ∃ σ' r ρ', f σ = some (σ', r) ∧ g ρ = some (ρ', r) ∧ INV σ' ρ' ∧ CF σ σ' ∧ RF ρ ρ'
def CALR (f g : Mem → Option Int32) : Prop := ∀ σ ρ, INV σ ρ → ∃ r, f σ = some r ∧ g ρ = some r
theorem CALL_one {f g : Mem → Option (Mem × Int32)} (h : CALL f g) {σ : Mem} (I : INV σ σ) : ∃ σ' r ρ', f σ = some (σ', r) ∧ g σ' = some (ρ', r) ∧ INV ρ' ρ' := by
  obtain ⟨σ1, r1, ρ1, a1, a2, a3, a4, a5⟩ := h σ σ I
  obtain ⟨σ2, r2, ρ2, b1, b2, b3, b4, b5⟩ := h σ σ1 (INV_cc I (fun _ _ => rfl) (fun i hi => a4 i hi))
  have e := a1.symm.trans b1
  have e1 : σ1 = σ2 := congrArg Prod.fst (Option.some.inj e)
  have e2 : r1 = r2 := congrArg Prod.snd (Option.some.inj e)
  subst e1 e2
  exact ⟨σ1, r1, ρ2, a1, b2, INV_cc b3 (fun i hi => b5 i hi) (fun _ _ => rfl)⟩
theorem CALR_one {f g : Mem → Option Int32} (h : CALR f g) {σ : Mem} (I : INV σ σ) : ∃ r, f σ = some r ∧ g σ = some r := h σ σ I
/-- an int against a range -/
theorem rng {x : Int32} (N : Nat) (hN : N ≤ 1000) : ((x < 0 ∨ nI N ≤ x) ∧ (x < 0 ∨ nI N - 1 < x) ∧ (¬ x < 0 → ¬ x < nI N)) ∨ ∃ j, j < N ∧ x = nI j ∧ ¬ nI j < 0 ∧ nI j < nI N ∧ ¬ nI N ≤ nI j ∧ ¬ nI N - 1 < nI j := by
  have z0 : (0 : Int32).toInt = 0 := by decide
  have z1 : (1 : Int32).toInt = 1 := by decide
  have hs : (nI N - 1).toInt = (N : Int) - 1 := by
    rw [t_sub (by rw [nI_toInt (by omega), z1]; omega) (by rw [nI_toInt (by omega), z1]; omega), nI_toInt (by omega), z1]
  by_cases h : 0 ≤ x.toInt ∧ x.toInt < N
  · right
    refine ⟨x.toInt.toNat, by omega, nI_i h.1 (by omega), nI_pos (by omega), nI_lt (by omega) (by omega), nI_ge (by omega) (by omega), fun q => ?_⟩
    rw [i32_lt, hs, nI_toInt (by omega)] at q
    omega
  · left
    simp only [i32_lt, i32_le, z0, hs, nI_toInt (show N < 2 ^ 31 by omega)]
    omega
theorem isCart_r (x : Int32) : F_X8_isCart ρ x = if x < 0 ∨ ((ρ 92 1) - 1) < x then some 0 else some 1 := rfl
/-- a cart told by an int -/
theorem cart_x (R : RT σ 0 (ρ 92) m len n) (x : Int32) : ((x < 0 ∨ σ (22 * 0) 2 ≤ x ∨ 7 ≤ x) ∧ F_X8_isCart ρ x = some 0) ∨ ∃ c, c < n ∧ x = nI c ∧ ¬ (nI c < 0 ∨ σ (22 * 0) 2 ≤ nI c ∨ 7 ≤ nI c) ∧ F_X8_isCart ρ (nI c) = some 1 := by
  have h7 := RT_7 R
  rw [RT_2 R, isCart_r, RT_n R]
  rcases rng (x := x) n (by omega) with ⟨h1, h2, -⟩ | ⟨c, hc, e, h1, h2, h3, h4⟩
  · left
    refine ⟨h1.imp id Or.inl, if_pos h2⟩
  · right
    refine ⟨c, hc, e, nocart rfl (by omega) h2, ?_⟩
    rw [isCart_r, RT_n R, if_neg (fun q => q.elim h1 h4)]
theorem shelf_x (x : Int32) : ((x < 0 ∨ 8 ≤ x) ∧ F_X8_isShelf ρ x = some 0) ∨ ∃ d, d < 8 ∧ x = nI d ∧ ¬ (nI d < 0 ∨ 8 ≤ nI d) ∧ F_X8_isShelf ρ (nI d) = some 1 := by
  unfold F_X8_isShelf
  rcases rng (x := x) 8 (by omega) with ⟨h1, h2, -⟩ | ⟨c, hc, e, h1, h2, h3, h4⟩
  · exact Or.inl ⟨h1, if_pos h2⟩
  · exact Or.inr ⟨c, hc, e, fun q => q.elim h1 h3, if_neg (fun q => q.elim h1 h4)⟩
theorem vill_x (x : Int32) : ((¬ x < 0 → ¬ x < 3) ∧ F_X8_isVillage ρ x = some 0) ∨ ∃ d, d < 3 ∧ x = nI d ∧ ¬ nI d < 0 ∧ nI d < 3 ∧ F_X8_isVillage ρ (nI d) = some 1 := by
  unfold F_X8_isVillage
  rcases rng (x := x) 3 (by omega) with ⟨h1, h2, h3⟩ | ⟨c, hc, e, h1, h2, h3, h4⟩
  · exact Or.inl ⟨h3, if_pos h2⟩
  · exact Or.inr ⟨c, hc, e, h1, h2, if_neg (fun q => q.elim h1 h4)⟩
end IV
