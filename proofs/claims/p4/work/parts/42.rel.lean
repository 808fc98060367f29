/-! class against reference: the relation, its leaves -/
def bI (b : Bool) : Int32 := if b then 1 else 0
theorem bI_t : bI true = 1 := rfl
theorem bI_f : bI false = 0 := rfl
theorem bd2_s {α β γ : Type} (a : α) (b : β) (f : α → β → Option γ) : bd2 (some (a, b)) f = f a b := rfl
theorem ck_t {α : Type} {c : Prop} [Decidable c] (f : Option α) (h : c) : ck c f = f := if_pos h
theorem lm_e {α β : Type} (x : α) (f : α → Option β) : lm x f = f x := rfl
/-- cart c of the row k, as row r of the class holds it -/
def CW (r k : Nat → Int32) (c : Nat) : Prop := (k (44 + 11 * c) = 1 ∧ r 0 = 1 ∨ k (44 + 11 * c) = -1 ∧ r 0 = 0) ∧ (r 1 = k (46 + 11 * c) ∧ r 2 = k (45 + 11 * c) ∧ r 3 = k (47 + 11 * c) ∧ r 4 = k (48 + 11 * c) ∧ r 5 = k (54 + 11 * c)) ∧ r 6 = k (49 + 11 * c) ∧ (k (50 + 11 * c) = 0 ∧ r 7 = 0 ∨ k (50 + 11 * c) = 1 ∧ r 7 = 1 ∧ r 8 = 0 ∨ k (50 + 11 * c) = 2 ∧ r 7 = 1 ∧ r 8 = 1) ∧ (k (49 + 11 * c) = -3 ∨ r 9 = k (51 + 11 * c)) ∧ r 10 = k (52 + 11 * c) ∧ r 11 = k (53 + 11 * c)
/-- what a cart of the row k may hold; E the end -/
def KO (k : Nat → Int32) (c E : Nat) : Prop := (k (44 + 11 * c) = 1 ∨ k (44 + 11 * c) = -1) ∧ (k (46 + 11 * c) = 0 ∨ k (46 + 11 * c) = 1) ∧ (∃ b : Nat, b ≤ 3 ∧ k (47 + 11 * c) = nI b) ∧ (∃ w : Nat, w ≤ 99 ∧ k (48 + 11 * c) = nI w) ∧ (k (49 + 11 * c) = -2 ∨ k (49 + 11 * c) = -3 ∨ ∃ x : Nat, k (49 + 11 * c) = nI x ∧ x ≤ E ∧ (k (44 + 11 * c) = 1 → x < E) ∧ (k (44 + 11 * c) = -1 → 0 < x))
/-- the road of the row k, as traffic t of the class holds it -/
def RD (σ : Mem) (t : Nat) (k : Nat → Int32) (m : Nat) (len : Nat → Nat) : Prop :=
  σ (22 * t + 1) 0 = nI m ∧ σ (22 * t + 1) 1 = nI (PS len m) ∧
  (∀ p, p < m → σ (22 * t + 2) p = k (14 + 3 * p) ∧ σ (22 * t + 3) p = k (15 + 3 * p) ∧ σ (22 * t + 4) p = k (16 + 3 * p)) ∧
  (∀ p, 1 ≤ p → p ≤ m → σ (22 * t + 5) p = k (5 + p)) ∧
  (∀ p, p ≤ m → σ (22 * t + 6) p = nI (PS len p) ∧ σ (22 * t + 7) (PS len p) = nI p ∧ σ (22 * t + 9) (PS len p) = 0 ∧ σ (22 * t + 10) (PS len p) = 0) ∧
  (∀ p x, p < m → PS len p < x → x < PS len (p + 1) → σ (22 * t + 7) x = -1 ∧ σ (22 * t + 9) x = nI (x - PS len p) ∧ σ (22 * t + 10) x = nI (PS len (p + 1) - x)) ∧
  (∀ p x, p < m → PS len p ≤ x → x < PS len (p + 1) → σ (22 * t + 8) x = nI p) ∧
  (∀ v, v < 3 → σ (22 * t + 11) v = k (38 + 2 * v) ∧ σ (22 * t + 12) v = k (39 + 2 * v))
abbrev spk (k : Nat → Int32) : Nat → Int := fun c => (k (49 + 11 * c)).toInt
/-- traffic t of the class holds what the row k tells: m pieces, n carts -/
def RT (σ : Mem) (t : Nat) (k : Nat → Int32) (m : Nat) (len : Nat → Nat) (n : Nat) : Prop :=
  VS k m len ∧ (k 1 = nI n ∧ n ≤ 7) ∧ (∃ M : Nat, M ≤ 999 ∧ k 2 = nI M) ∧ (∀ c, c < n → KO k c (PS len m)) ∧ RD σ t k m len ∧
  (σ (22 * t) 2 = k 1 ∧ σ (22 * t) 3 = k 2 ∧ σ (22 * t) 4 = k 3 ∧ σ (22 * t) 5 = k 4) ∧ (∀ c, c < n → CW (σ (22 * t + 15 + c)) k c) ∧ cb01 σ t ∧
  (∀ s, s < 73 → σ (22 * t + 14) s = nI (occ (spk k) s n)) ∧ (∀ c, c < n → k (49 + 11 * c) = -2 → k (51 + 11 * c) = 0)
section RL
variable {σ ρ : Mem} {t a m n : Nat} {k : Nat → Int32} {len : Nat → Nat}
theorem RT_V (R : RT σ t k m len n) : VS k m len := R.1
theorem RT_n (R : RT σ t k m len n) : k 1 = nI n := R.2.1.1
theorem RT_7 (R : RT σ t k m len n) : n ≤ 7 := R.2.1.2
theorem RT_M (R : RT σ t k m len n) : ∃ M : Nat, M ≤ 999 ∧ k 2 = nI M := R.2.2.1
theorem RT_K (R : RT σ t k m len n) {c : Nat} (h : c < n) : KO k c (PS len m) := R.2.2.2.1 c h
theorem RT_R (R : RT σ t k m len n) : RD σ t k m len := R.2.2.2.2.1
theorem RT_2 (R : RT σ t k m len n) : σ (22 * t) 2 = nI n := R.2.2.2.2.2.1.1.trans (RT_n R)
theorem RT_3 (R : RT σ t k m len n) : σ (22 * t) 3 = k 2 := R.2.2.2.2.2.1.2.1
theorem RT_4 (R : RT σ t k m len n) : σ (22 * t) 4 = k 3 := R.2.2.2.2.2.1.2.2.1
theorem RT_5 (R : RT σ t k m len n) : σ (22 * t) 5 = k 4 := R.2.2.2.2.2.1.2.2.2
theorem RT_C (R : RT σ t k m len n) {c : Nat} (h : c < n) : CW (σ (22 * t + 15 + c)) k c := R.2.2.2.2.2.2.1 c h
theorem RT_b (R : RT σ t k m len n) : cb01 σ t := R.2.2.2.2.2.2.2.1
theorem RT_on (R : RT σ t k m len n) {s : Nat} (h : s < 73) : σ (22 * t + 14) s = nI (occ (spk k) s n) := R.2.2.2.2.2.2.2.2.1 s h
theorem RT_z (R : RT σ t k m len n) {c : Nat} (h : c < n) (e : k (49 + 11 * c) = -2) : k (51 + 11 * c) = 0 := R.2.2.2.2.2.2.2.2.2 c h e
theorem RT_72 (R : RT σ t k m len n) {p : Nat} (h : p ≤ m) : PS len p ≤ 72 := VS_72 (RT_V R) h
theorem RT_8 (R : RT σ t k m len n) : m ≤ 8 := VS_8 (RT_V R)
theorem spot_cases {x : Nat} (h : x ≤ PS len m) : (∃ p, p ≤ m ∧ x = PS len p) ∨ ∃ p, p < m ∧ PS len p < x ∧ x < PS len (p + 1) := by
  rcases Nat.lt_or_ge x (PS len m) with q | q
  · obtain ⟨p, h1, h2, h3⟩ := PS_in q
    by_cases e : PS len p = x
    · exact Or.inl ⟨p, by omega, e.symm⟩
    · exact Or.inr ⟨p, h1, by omega, h3⟩
  · exact Or.inl ⟨m, Nat.le_refl _, by omega⟩
/-! leaves of the class -/
theorem isSpot_c (R : RT σ t k m len n) {x : Nat} (hx : x ≤ PS len m) : F_X4_isSpot σ t (nI x) = some 1 := by
  have h72 := RT_72 R (Nat.le_refl m)
  unfold F_X4_isSpot
  rw [if_neg (nI_pos (by omega)), (RT_R R).2.1, if_neg (nI_nlt hx (by omega)), if_neg (show ¬ (73 : Int32) ≤ nI x from nI_ge (a := x) (b := 73) (by omega) (by decide))]
theorem isSpot_neg {x : Int32} (hx : x < 0) : F_X4_isSpot σ t x = some 0 := by
  unfold F_X4_isSpot
  rw [if_pos hx]
theorem placeOf_at (R : RT σ t k m len n) {p : Nat} (hp : p ≤ m) : F_X4_placeOf σ t (nI (PS len p)) = some (nI p) := by
  have h72 := RT_72 R hp
  unfold F_X4_placeOf
  rw [isSpot_c R (PS_mono hp), Option.bind_some, if_neg (by decide), ix_nI (by omega) (by decide), Option.bind_some, ((RT_R R).2.2.2.2.1 p hp).2.1]
theorem placeOf_in (R : RT σ t k m len n) {p x : Nat} (hp : p < m) (h1 : PS len p < x) (h2 : x < PS len (p + 1)) : F_X4_placeOf σ t (nI x) = some (-1) := by
  have h72 := RT_72 R (show p + 1 ≤ m by omega)
  have h3 : PS len (p + 1) ≤ PS len m := PS_mono (by omega)
  unfold F_X4_placeOf
  rw [isSpot_c R (by omega), Option.bind_some, if_neg (by decide), ix_nI (by omega) (by decide), Option.bind_some, ((RT_R R).2.2.2.2.2.1 p x hp h1 h2).1]
theorem placeOf_neg {x : Int32} (hx : x < 0) : F_X4_placeOf σ t x = some (-1) := by
  unfold F_X4_placeOf
  rw [isSpot_neg hx, Option.bind_some, if_pos rfl]
theorem hillOf_c (R : RT σ t k m len n) {p : Nat} (hp : p < m) : F_X4_hillOf σ t (nI p) = some (k (15 + 3 * p)) := by
  have h8 := RT_8 R
  unfold F_X4_hillOf
  rw [if_neg (nI_pos (by omega)), (RT_R R).1, if_pos (nI_lt hp (by omega)), ix_nI (by omega) (by decide), Option.bind_some, ((RT_R R).2.2.1 p hp).2.1]
theorem villageBy_c (R : RT σ t k m len n) {p : Nat} (hp : p < m) : F_X4_villageBy σ t (nI p) = some (k (16 + 3 * p)) := by
  have h8 := RT_8 R
  unfold F_X4_villageBy
  rw [if_neg (nI_pos (by omega)), (RT_R R).1, if_pos (nI_lt hp (by omega)), ix_nI (by omega) (by decide), Option.bind_some, ((RT_R R).2.2.1 p hp).2.2]
theorem spotOfPlace_c (R : RT σ t k m len n) {p : Nat} (hp : p ≤ m) : F_X4_spotOfPlace σ t (nI p) = some (nI (PS len p)) := by
  have h8 := RT_8 R
  unfold F_X4_spotOfPlace
  rw [if_neg (nI_pos (by omega)), (RT_R R).1, if_pos (nI_le hp (by omega)), ix_nI (by omega) (by decide), Option.bind_some, ((RT_R R).2.2.2.2.1 p hp).1]
theorem isBetween_c (R : RT σ t k m len n) {p : Nat} (hp : p ≤ m) : F_X4_isBetween σ t (nI p) = some (bI (decide (0 < p ∧ p < m))) := by
  have h8 := RT_8 R
  unfold F_X4_isBetween
  by_cases h0 : p = 0
  · subst h0
    rw [if_pos (by decide)]; simp [bI]
  · rw [if_neg (nI_nle (by omega) (by omega)), (RT_R R).1]
    by_cases h1 : p = m
    · subst h1
      rw [if_pos (nI_le (Nat.le_refl _) (by omega))]; simp [bI]
    · rw [if_neg (nI_ge (by omega) (by omega)), if_neg (show ¬ (8 : Int32) ≤ nI p from nI_ge (a := p) (b := 8) (by omega) (by decide))]
      have : 0 < p ∧ p < m := by omega
      simp [bI, this]
theorem cartsAt_l (hn : ρ a 1 = nI n) (h7 : n ≤ 7) (x : Int32) : ∀ (d c nn : Nat), c + d = n → d < nn → F_X8_cartsAt_4 ρ a x nn (nI c) (nI (occ (spk (ρ a)) x.toInt c)) = some (nI (occ (spk (ρ a)) x.toInt n)) := by
  intro d
  induction d with
  | zero =>
    intro c nn h1 h2
    obtain rfl : c = n := by omega
    obtain ⟨nn, rfl⟩ : ∃ j, nn = j + 1 := ⟨nn - 1, by omega⟩
    rw [F_X8_cartsAt_4, hn, if_pos (nI_le (Nat.le_refl _) (by omega))]
  | succ d ih =>
    intro c nn h1 h2
    obtain ⟨nn, rfl⟩ : ∃ j, nn = j + 1 := ⟨nn - 1, by omega⟩
    have := ih (c + 1) nn (by omega) (by omega)
    rw [F_X8_cartsAt_4, hn, if_neg (nI_ge (by omega) (by omega)), get5 (by omega), Option.bind_some, nI_1]
    by_cases e : ρ a (49 + 11 * c) = x
    · rw [if_pos e, nI_1]
      simp only [occ, spk, e, if_true] at this
      exact this
    · have e2 : ¬ (ρ a (49 + 11 * c)).toInt = x.toInt := fun q => e (Int32.toInt_inj.mp q)
      rw [if_neg e, Int32.add_zero]
      simp only [occ, spk, e2, if_false, Nat.add_zero] at this
      exact this
theorem cartsAt_r (hn : ρ a 1 = nI n) (h7 : n ≤ 7) (x : Int32) : F_X8_cartsAt ρ a x = some (nI (occ (spk (ρ a)) x.toInt n)) :=
  cartsAt_l hn h7 x n 0 FU (by omega) (Nat.lt_of_le_of_lt h7 (by decide))
theorem howMany_l (R : RT σ t k m len n) (x : Int32) : ∀ (d c nn : Nat), c + d = n → d < nn → F_X6_howMany_4 σ t x nn (nI c) (nI (occ (spk k) x.toInt c)) = some (nI (occ (spk k) x.toInt n)) := by
  have h7 := RT_7 R
  intro d
  induction d with
  | zero =>
    intro c nn h1 h2
    obtain rfl : c = n := by omega
    obtain ⟨nn, rfl⟩ : ∃ j, nn = j + 1 := ⟨nn - 1, by omega⟩
    rw [F_X6_howMany_4, RT_2 R, if_pos (nI_le (Nat.le_refl _) (by omega))]
  | succ d ih =>
    intro c nn h1 h2
    obtain ⟨nn, rfl⟩ : ∃ j, nn = j + 1 := ⟨nn - 1, by omega⟩
    have := ih (c + 1) nn (by omega) (by omega)
    rw [F_X6_howMany_4, RT_2 R, if_neg (nI_ge (by omega) (by omega)), ix_nI (by omega) (by decide), Option.bind_some, nI_1, (RT_C R (show c < n by omega)).2.2.1]
    by_cases e : k (49 + 11 * c) = x
    · rw [if_pos e, nI_1]
      simp only [occ, spk, e, if_true] at this
      exact this
    · have e2 : ¬ (k (49 + 11 * c)).toInt = x.toInt := fun q => e (Int32.toInt_inj.mp q)
      rw [if_neg e]
      simp only [occ, spk, e2, if_false, Nat.add_zero] at this
      exact this
theorem howMany_c (R : RT σ t k m len n) (x : Int32) : F_X6_howMany σ t x = some (nI (occ (spk k) x.toInt n)) :=
  howMany_l R x n 0 FU (by omega) (Nat.lt_of_le_of_lt (RT_7 R) (by decide))
theorem doneOf_l (hn : ρ a 1 = nI n) (h7 : n ≤ 7) : ∀ (d c nn : Nat), c + d = n → d < nn → F_X8_doneOf_4 ρ a nn (nI c) (nI (occ (spk (ρ a)) (-3) c)) = some (nI (occ (spk (ρ a)) (-3) n)) := by
  intro d
  induction d with
  | zero =>
    intro c nn h1 h2
    obtain rfl : c = n := by omega
    obtain ⟨nn, rfl⟩ : ∃ j, nn = j + 1 := ⟨nn - 1, by omega⟩
    rw [F_X8_doneOf_4, hn, if_pos (nI_le (Nat.le_refl _) (by omega))]
  | succ d ih =>
    intro c nn h1 h2
    obtain ⟨nn, rfl⟩ : ∃ j, nn = j + 1 := ⟨nn - 1, by omega⟩
    have := ih (c + 1) nn (by omega) (by omega)
    rw [F_X8_doneOf_4, hn, if_neg (nI_ge (by omega) (by omega)), get5 (by omega), Option.bind_some, nI_1]
    by_cases e : ρ a (49 + 11 * c) = -3
    · have e2 : (ρ a (49 + 11 * c)).toInt = -3 := by rw [e]; decide
      rw [if_pos e, nI_1]
      simp only [occ, spk, e2, if_true] at this
      exact this
    · have e2 : ¬ (ρ a (49 + 11 * c)).toInt = -3 := fun q => e (Int32.toInt_inj.mp (q.trans (by decide)))
      rw [if_neg e, Int32.add_zero]
      simp only [occ, spk, e2, if_false, Nat.add_zero] at this
      exact this
theorem doneOf_r (hn : ρ a 1 = nI n) (h7 : n ≤ 7) : F_X8_doneOf ρ a = some (nI (occ (spk (ρ a)) (-3) n)) :=
  doneOf_l hn h7 n 0 FU (by omega) (Nat.lt_of_le_of_lt h7 (by decide))
/-- room at a spot, both sides -/
theorem room_at (R : RT σ t (ρ a) m len n) {p : Nat} (hp : p ≤ m) : F_X6_hasRoom σ t (nI (PS len p)) = some (bI (decide (p = 0 ∨ p = m ∨ ¬ ρ a (5 + p) ≤ nI (occ (spk (ρ a)) (PS len p) n)))) := by
  have h8 := RT_8 R
  have h72 := RT_72 R hp
  unfold F_X6_hasRoom
  rw [isSpot_c R (PS_mono hp), Option.bind_some, if_neg (by decide), ix_nI (by omega) (by decide), Option.bind_some, ((RT_R R).2.2.2.2.1 p hp).2.1, if_pos (nI_pos' (by omega)), isBetween_c R hp, Option.bind_some]
  by_cases h : 0 < p ∧ p < m
  · have h0 : ¬ p = 0 := by omega
    have h1 : ¬ p = m := by omega
    rw [decide_eq_true h, bI_t, if_neg (by decide), Option.bind_some, ix_nI (by omega) (by decide), Option.bind_some, (RT_R R).2.2.2.1 p (by omega) hp, RT_on R (by omega)]
    by_cases e : ρ a (5 + p) ≤ nI (occ (spk (ρ a)) (PS len p) n)
    · rw [if_pos e, decide_eq_false (by simp only [h0, h1, e, not_true, or_self, not_false_eq_true]), bI_f]
    · rw [if_neg e, decide_eq_true (Or.inr (Or.inr e)), bI_t]
  · rw [decide_eq_false h, bI_f, if_pos rfl, decide_eq_true (by omega), bI_t]
theorem hasRoom_p (R : RT σ t (ρ a) m len n) {x : Nat} (hx : x ≤ PS len m) : ∃ b, F_X6_hasRoom σ t (nI x) = some (bI b) ∧ F_X8_hasRoom ρ a (nI x) = some (bI b) := by
  have V := RT_V R
  have h7 := RT_7 R
  have h8 := RT_8 R
  rcases spot_cases hx with ⟨p, hp, rfl⟩ | ⟨p, hp, h1, h2⟩
  · refine ⟨_, room_at R hp, ?_⟩
    have h72 := RT_72 R hp
    unfold F_X8_hasRoom
    rw [placeAt_at V hp, Option.bind_some]
    by_cases h0 : p = 0
    · rw [if_pos (by rw [h0]; rfl), decide_eq_true (Or.inl h0), bI_t]
    · rw [if_neg (nI_ne0 (by omega) (by omega)), VS_m V]
      by_cases h1 : p = m
      · rw [if_pos (by rw [h1]), decide_eq_true (Or.inr (Or.inl h1)), bI_t]
      · rw [if_neg (by rw [neq (by omega) (by omega)]; exact h1), cartsAt_r (RT_n R) h7, Option.bind_some, if_pos (nI_pos' (by omega)), ix5 (by omega), Option.bind_some, nI_toInt (by omega)]
        by_cases e : ρ a (5 + p) ≤ nI (occ (spk (ρ a)) (PS len p) n)
        · rw [if_pos e, decide_eq_false (by simp only [h0, h1, e, not_true, or_self, not_false_eq_true]), bI_f]
        · rw [if_neg e, decide_eq_true (Or.inr (Or.inr e)), bI_t]
  · have h72 := RT_72 R (show p + 1 ≤ m by omega)
    have ho := occ_le (spk (ρ a)) x n
    refine ⟨decide (occ (spk (ρ a)) x n = 0), ?_, ?_⟩
    · unfold F_X6_hasRoom
      rw [isSpot_c R hx, Option.bind_some, if_neg (by decide), ix_nI (by omega) (by decide), Option.bind_some, ((RT_R R).2.2.2.2.2.1 p x hp h1 h2).1, if_neg (by decide), Option.bind_some, RT_on R (by omega)]
      by_cases e : occ (spk (ρ a)) x n = 0
      · rw [e, if_pos nI_0]; rfl
      · rw [if_neg (nI_ne0 (by omega) (by omega)), decide_eq_false e, bI_f]
    · unfold F_X8_hasRoom
      rw [placeAt_no V hp h1 h2, Option.bind_some, if_neg (by decide), VS_m V, if_neg (fun q => nI_neN (a := m) (by omega) (z := -4) (by decide) q.symm), cartsAt_r (RT_n R) h7, Option.bind_some, if_neg (by decide), nI_toInt (by omega)]
      by_cases e : occ (spk (ρ a)) x n = 0
      · rw [e, if_neg (by decide)]; rfl
      · rw [if_pos (show (1 : Int32) ≤ nI (occ (spk (ρ a)) x n) from nI_le (a := 1) (by omega) (by omega)), decide_eq_false e, bI_f]
/-! where a cart goes -/
theorem CW_up {r k : Nat → Int32} {c : Nat} (h : CW r k c) (e : k (44 + 11 * c) = 1) : r 0 = 1 := by
  rcases h.1 with q | q
  · exact q.2
  · exact absurd (e.symm.trans q.1) (by decide)
theorem CW_dn {r k : Nat → Int32} {c : Nat} (h : CW r k c) (e : k (44 + 11 * c) = -1) : r 0 = 0 := by
  rcases h.1 with q | q
  · exact absurd (e.symm.trans q.1) (by decide)
  · exact q.2
/-- the piece ahead of a cart on the road -/
theorem ahead_up (R : RT σ t (ρ a) m len n) {c x : Nat} (hc : c < n) (hw : ρ a (44 + 11 * c) = 1) (hs : ρ a (49 + 11 * c) = nI x) (hx : x < PS len m) : ∃ p, p < m ∧ PS len p ≤ x ∧ x < PS len (p + 1) ∧ F_X6_pieceAhead σ t (22 * t + 15 + c) = some (nI p) ∧ F_X8_pieceFrom ρ a (nI x) 1 = some (nI p) := by
  have h72 := RT_72 R (Nat.le_refl m)
  obtain ⟨p, h1, h2, h3⟩ := PS_in hx
  refine ⟨p, h1, h2, h3, ?_, pieceUp (RT_V R) (by decide) h1 h2 h3⟩
  have C := RT_C R hc
  unfold F_X6_pieceAhead
  rw [CW_up C hw, if_neg (by decide), C.2.2.1, hs, isSpot_c R (by omega), Option.bind_some, if_neg (by decide), ix_nI (by omega) (by decide), Option.bind_some, (RT_R R).2.2.2.2.2.2.1 p x h1 h2 h3]
theorem ahead_dn (R : RT σ t (ρ a) m len n) {c x : Nat} (hc : c < n) (hw : ρ a (44 + 11 * c) = -1) (hs : ρ a (49 + 11 * c) = nI x) (hx : x ≤ PS len m) (h0 : 0 < x) : ∃ p, p < m ∧ PS len p < x ∧ x ≤ PS len (p + 1) ∧ F_X6_pieceAhead σ t (22 * t + 15 + c) = some (nI p) ∧ F_X8_pieceFrom ρ a (nI x) (-1) = some (nI p) := by
  have h72 := RT_72 R (Nat.le_refl m)
  obtain ⟨p, h1, h2, h3⟩ := PS_in (show x - 1 < PS len m by omega)
  refine ⟨p, h1, by omega, by omega, ?_, pieceDn (RT_V R) (by decide) h1 (by omega) (by omega)⟩
  have C := RT_C R hc
  unfold F_X6_pieceAhead
  rw [CW_dn C hw, if_pos rfl, C.2.2.1, hs, nI_sub1 h0, isSpot_c R (by omega), Option.bind_some, if_neg (by decide), ix_nI (by omega) (by decide), Option.bind_some, (RT_R R).2.2.2.2.2.2.1 p (x - 1) h1 h2 h3]
/-- own end and goal -/
theorem ownEnd_up (R : RT σ t (ρ a) m len n) {c : Nat} (hc : c < n) (hw : ρ a (44 + 11 * c) = 1) : F_X6_ownEnd σ t (22 * t + 15 + c) = some (nI 0) ∧ F_X8_origin ρ a (nI c) = some (nI 0) := by
  have h7 := RT_7 R
  refine ⟨?_, ?_⟩
  · unfold F_X6_ownEnd
    rw [CW_up (RT_C R hc) hw, if_neg (by decide)]; rfl
  · unfold F_X8_origin
    rw [get0 (by omega), Option.bind_some, hw, if_neg (by decide)]; rfl
theorem ownEnd_dn (R : RT σ t (ρ a) m len n) {c : Nat} (hc : c < n) (hw : ρ a (44 + 11 * c) = -1) : F_X6_ownEnd σ t (22 * t + 15 + c) = some (nI (PS len m)) ∧ F_X8_origin ρ a (nI c) = some (nI (PS len m)) := by
  have h7 := RT_7 R
  refine ⟨?_, ?_⟩
  · unfold F_X6_ownEnd
    rw [CW_dn (RT_C R hc) hw, if_pos rfl, (RT_R R).2.1]
  · unfold F_X8_origin
    rw [get0 (by omega), Option.bind_some, hw, if_pos (by decide), endOf_r (RT_V R), Option.bind_some]
end RL
