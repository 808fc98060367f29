/-! a cart more; what a statement does, both sides -/
section CO
variable {σ σ' ρ : Mem} {t a m n : Nat} {k : Nat → Int32} {len : Nat → Nat}
theorem LZ_fr (L : LZ σ t) (f : FrC t σ σ') : LZ σ' t := fun j hj => (f.2.1 j hj).trans (L j hj)
/-- a cart more on the class's side against a row that tells it -/
theorem RT_cart (R : RT σ t k m len n) (L : LZ σ t) {σ' : Mem} {k' : Nat → Int32} (h7 : n < 7) {a b c l : Nat} {x : Int32} {u : Bool} (hb : b ≤ 3) (hc : c ≤ 99) (hl : l ≤ 1) (hx : x = (if u then 1 else -1))
    (e1 : σ' (22 * t + 15 + n) = upd (upd (upd (upd (upd (rbeg (σ (22 * t + 15 + n))) 0 (bI u)) 2 (nI a)) 3 (nI b)) 1 (nI l)) 4 (nI c)) (e2 : σ' (22 * t) = upd (σ (22 * t)) 2 (nI (n + 1))) (eo : ∀ i, i ≠ 22 * t → i ≠ 22 * t + 15 + n → σ' i = σ i)
    (k1 : k' 1 = nI (n + 1)) (kc : k' (44 + 11 * n) = x ∧ k' (45 + 11 * n) = nI a ∧ k' (46 + 11 * n) = nI l ∧ k' (47 + 11 * n) = nI b ∧ k' (48 + 11 * n) = nI c ∧ k' (49 + 11 * n) = -2 ∧ k' (50 + 11 * n) = 0 ∧ k' (51 + 11 * n) = 0 ∧ k' (52 + 11 * n) = 0 ∧ k' (53 + 11 * n) = 0 ∧ k' (54 + 11 * n) = 0) (ko : ∀ j, j ≠ 1 → ¬ (44 + 11 * n ≤ j ∧ j ≤ 54 + 11 * n) → k' j = k j) : RT σ' t k' m len (n + 1) := by
  obtain ⟨V, ⟨hn, -⟩, ⟨M, hM, eM⟩, K, D, ⟨f2, f3, f4, f5⟩, W, hbb, hon, hz⟩ := R
  have h8 := V.1.2
  obtain ⟨c0, c1, c2, c3, c4, c5, c6, c7, c8, c9, c10⟩ := kc
  refine ⟨VS_cg V (fun j hj j1 _ _ _ => ko j j1 (by omega)), ⟨k1, by omega⟩, ⟨M, hM, (ko 2 (by omega) (by omega)).trans eM⟩, fun j hj => ?_, ?_, ⟨?_, ?_, ?_, ?_⟩, fun j hj => ?_, fun j hj q h12 h4 => ?_, fun s hs => ?_, fun j hj => ?_⟩
  · by_cases w : j = n
    · subst w
      refine ⟨?_, ?_, ⟨b, hb, c3⟩, ⟨c, hc, c4⟩, Or.inl c5⟩
      · rw [c0, hx]; cases u
        · exact Or.inr rfl
        · exact Or.inl rfl
      · rw [c2]
        have : l = 0 ∨ l = 1 := by omega
        rcases this with rfl | rfl
        · exact Or.inl rfl
        · exact Or.inr rfl
    · have q := K j (by omega)
      unfold KO at q ⊢
      rw [ko (44 + 11 * j) (by omega) (by omega), ko (46 + 11 * j) (by omega) (by omega), ko (47 + 11 * j) (by omega) (by omega), ko (48 + 11 * j) (by omega) (by omega), ko (49 + 11 * j) (by omega) (by omega)]
      exact q
  · obtain ⟨d1, d2, d3, d4, d5, d6, d7, d8⟩ := D
    unfold RD
    rw [eo (22 * t + 1) (by omega) (by omega), eo (22 * t + 2) (by omega) (by omega), eo (22 * t + 3) (by omega) (by omega), eo (22 * t + 4) (by omega) (by omega), eo (22 * t + 5) (by omega) (by omega), eo (22 * t + 6) (by omega) (by omega), eo (22 * t + 7) (by omega) (by omega), eo (22 * t + 8) (by omega) (by omega), eo (22 * t + 9) (by omega) (by omega), eo (22 * t + 10) (by omega) (by omega), eo (22 * t + 11) (by omega) (by omega), eo (22 * t + 12) (by omega) (by omega)]
    refine ⟨d1, d2, fun p hp => ?_, fun p hp hp2 => ?_, d5, d6, d7, fun v hv => ?_⟩
    · rw [ko (14 + 3 * p) (by omega) (by omega), ko (15 + 3 * p) (by omega) (by omega), ko (16 + 3 * p) (by omega) (by omega)]; exact d3 p hp
    · rw [ko (5 + p) (by omega) (by omega)]; exact d4 p hp hp2
    · rw [ko (38 + 2 * v) (by omega) (by omega), ko (39 + 2 * v) (by omega) (by omega)]; exact d8 v hv
  · rw [e2, upd_at, k1]
  · rw [e2, upd_ne _ _ (by omega), ko 2 (by omega) (by omega)]; exact f3
  · rw [e2, upd_ne _ _ (by omega), ko 3 (by omega) (by omega)]; exact f4
  · rw [e2, upd_ne _ _ (by omega), ko 4 (by omega) (by omega)]; exact f5
  · by_cases w : j = n
    · subst w
      unfold CW
      rw [e1, c0, c1, c2, c3, c4, c5, c6, c7, c8, c9, c10]
      simp (disch := omega) only [upd_at, upd_ne]
      rw [rbeg_lo _ (show 5 < 6 by omega), rbeg_hi _ (b := 7) (by omega) (by omega), rbeg_hi _ (b := 9) (by omega) (by omega), rbeg_hi _ (b := 10) (by omega) (by omega), rbeg_hi _ (b := 11) (by omega) (by omega), L j h7]
      refine ⟨?_, ⟨trivial, trivial, trivial, trivial, rfl⟩, rfl, Or.inl ⟨trivial, rfl⟩, Or.inr rfl, rfl, rfl⟩
      rw [hx]; cases u
      · exact Or.inr ⟨rfl, rfl⟩
      · exact Or.inl ⟨rfl, rfl⟩
    · have q := W j (by omega)
      unfold CW at q ⊢
      rw [eo (22 * t + 15 + j) (by omega) (by omega), ko (44 + 11 * j) (by omega) (by omega), ko (45 + 11 * j) (by omega) (by omega), ko (46 + 11 * j) (by omega) (by omega), ko (47 + 11 * j) (by omega) (by omega), ko (48 + 11 * j) (by omega) (by omega), ko (49 + 11 * j) (by omega) (by omega), ko (50 + 11 * j) (by omega) (by omega), ko (51 + 11 * j) (by omega) (by omega), ko (52 + 11 * j) (by omega) (by omega), ko (53 + 11 * j) (by omega) (by omega), ko (54 + 11 * j) (by omega) (by omega)]
      exact q
  · by_cases w : j = n
    · subst w
      rw [e1]
      rcases h4 with rfl | rfl | rfl | rfl
      · simp (disch := omega) only [upd_at, upd_ne]
        cases u
        · exact Or.inl rfl
        · exact Or.inr rfl
      · simp (disch := omega) only [upd_at, upd_ne]
        have : l = 0 ∨ l = 1 := by omega
        rcases this with rfl | rfl
        · exact Or.inl rfl
        · exact Or.inr rfl
      · simp (disch := omega) only [upd_ne]
        rw [rbeg_hi _ (by omega) (by omega)]; exact Or.inl rfl
      · simp (disch := omega) only [upd_ne]
        rw [rbeg_hi _ (by omega) (by omega)]; exact Or.inl rfl
    · rw [eo (22 * t + 15 + j) (by omega) (by omega)]; exact hbb j hj q h12 h4
  · rw [eo (22 * t + 14) (by omega) (by omega), hon s hs]
    congr 1
    have o : occ (spk k') s (n + 1) = occ (spk k') s n := by
      have q : ¬ spk k' n = (s : Int) := by
        show ¬ (k' (49 + 11 * n)).toInt = (s : Int)
        rw [c5, show (-2 : Int32).toInt = -2 by decide]; omega
      show occ (spk k') s n + (if spk k' n = (s : Int) then 1 else 0) = _
      rw [if_neg q]; rfl
    rw [o]
    refine (occ_cg (fun i hi => ?_) _).symm
    show (k' (49 + 11 * i)).toInt = (k (49 + 11 * i)).toInt
    rw [ko (49 + 11 * i) (by omega) (by omega)]
  · by_cases w : j = n
    · subst w; rw [c7]; exact fun _ => rfl
    · rw [ko (49 + 11 * j) (by omega) (by omega), ko (51 + 11 * j) (by omega) (by omega)]; exact hz j (by omega)
/-- the class's addCart -/
theorem cart_c (R : RT σ t k m len n) (h7 : n < 7) {a b c l : Nat} (ha : a ≤ 199) (hb : b ≤ 3) (hc : c ≤ 99) (hl : l ≤ 1) (u : Bool) : ∃ σ', F_X6_addCart σ t (bI u) (nI a) (nI b) (nI l) (nI c) = some (σ', 1) ∧ σ' (22 * t + 15 + n) = upd (upd (upd (upd (upd (rbeg (σ (22 * t + 15 + n))) 0 (bI u)) 2 (nI a)) 3 (nI b)) 1 (nI l)) 4 (nI c) ∧ σ' (22 * t) = upd (σ (22 * t)) 2 (nI (n + 1)) ∧ ∀ i, i ≠ 22 * t → i ≠ 22 * t + 15 + n → σ' i = σ i := by
  have cr : ∀ (τ : Mem) (i : Nat), cbeg τ i i = rbeg (τ i) := fun τ i => if_pos rfl
  have cn : ∀ (τ : Mem) (i j : Nat), j ≠ i → cbeg τ i j = τ j := fun τ i j h => if_neg h
  have l01 : nI l = 0 ∨ nI l = 1 := by
    have : l = 0 ∨ l = 1 := by omega
    rcases this with rfl | rfl
    · exact Or.inl rfl
    · exact Or.inr rfl
  have u01 : bI u = 0 ∨ bI u = 1 := by
    cases u
    · exact Or.inl rfl
    · exact Or.inr rfl
  have e2 : σ (22 * t) 2 = nI n := RT_2 R
  have z : ∀ τ : Mem, ∀ v1 v2 v3 v4 v5 : Int32, stm (stm (stm (stm (stm (cbeg τ (22 * t + 15 + n)) (22 * t + 15 + n) 0 v1) (22 * t + 15 + n) 2 v2) (22 * t + 15 + n) 3 v3) (22 * t + 15 + n) 1 v4) (22 * t + 15 + n) 4 v5 (22 * t) = τ (22 * t) := fun τ v1 v2 v3 v4 v5 => by
    rw [stm_ne _ _ _ (by omega), stm_ne _ _ _ (by omega), stm_ne _ _ _ (by omega), stm_ne _ _ _ (by omega), stm_ne _ _ _ (by omega), cn _ _ _ (by omega)]
  refine ⟨stm (stm (stm (stm (stm (stm (cbeg σ (22 * t + 15 + n)) (22 * t + 15 + n) 0 (bI u)) (22 * t + 15 + n) 2 (nI a)) (22 * t + 15 + n) 3 (nI b)) (22 * t + 15 + n) 1 (nI l)) (22 * t + 15 + n) 4 (nI c)) (22 * t) 2 (nI (n + 1)), ?_, ?_, ?_, ?_⟩
  rotate_left
  · rw [stm_ne _ _ _ (by omega)]
    simp only [stm_row]
    rw [cr]
  · rw [stm_row, z]
  · intro i h1 h2
    rw [stm_ne _ _ _ h1, stm_ne _ _ _ h2, stm_ne _ _ _ h2, stm_ne _ _ _ h2, stm_ne _ _ _ h2, stm_ne _ _ _ h2, cn _ _ _ h2]
  · unfold F_X6_addCart
    rw [e2, if_neg (show ¬ (7 : Int32) ≤ nI n from nI_ge (a := n) (b := 7) h7 (by decide)), if_neg (show ¬ (199 : Int32) < nI a from nI_nlt (a := 199) (b := a) ha (by decide)), if_neg (show ¬ (3 : Int32) < nI b from nI_nlt (a := 3) (b := b) hb (by decide)), if_pos (show nI c ≤ (99 : Int32) from nI_le (a := c) (b := 99) hc (by decide)), ix_nI h7 (by decide), Option.bind_some, ck_t _ u01, ck_t _ l01, z, e2, nI_1]
/-- the reference's cart -/
theorem cart_r (h7 : n < 7) (e1 : ρ 95 1 = nI n) (v va vb : Int32) : ∃ ρ', ((F_X8_puts ρ 95 (ρ 95 1) 0 v).bind fun s1 => (F_X8_puts s1 95 (ρ 95 1) 1 va).bind fun s2 => (F_X8_puts s2 95 (ρ 95 1) 3 vb).bind fun s3 => (F_X8_puts s3 95 (ρ 95 1) 2 (s3 102 2)).bind fun s4 => (F_X8_puts s4 95 (ρ 95 1) 4 (s4 102 3)).bind fun s5 => (F_X8_puts s5 95 (ρ 95 1) 10 0).bind fun s6 => (F_X8_begins s6 95 (ρ 95 1)).bind fun s7 => some ((stm s7 95 1 ((s7 95 1) + 1)), (1 : Int32))) = some (ρ', 1) ∧ (∀ i, i ≠ 95 → ρ' i = ρ i) ∧ ρ' 95 1 = nI (n + 1) ∧ (ρ' 95 (44 + 11 * n) = v ∧ ρ' 95 (45 + 11 * n) = va ∧ ρ' 95 (46 + 11 * n) = ρ 102 2 ∧ ρ' 95 (47 + 11 * n) = vb ∧ ρ' 95 (48 + 11 * n) = ρ 102 3 ∧ ρ' 95 (49 + 11 * n) = -2 ∧ ρ' 95 (50 + 11 * n) = 0 ∧ ρ' 95 (51 + 11 * n) = 0 ∧ ρ' 95 (52 + 11 * n) = 0 ∧ ρ' 95 (53 + 11 * n) = 0 ∧ ρ' 95 (54 + 11 * n) = 0) ∧ ∀ j, j ≠ 1 → ¬ (44 + 11 * n ≤ j ∧ j ≤ 54 + 11 * n) → ρ' 95 j = ρ 95 j := by
  have p0 : ∀ (τ : Mem) (w : Int32), F_X8_puts τ 95 (nI n) 0 w = some (stm τ 95 (44 + 11 * n) w) := fun τ w => puts_at h7 (f := 0) (by omega)
  have p1 : ∀ (τ : Mem) (w : Int32), F_X8_puts τ 95 (nI n) 1 w = some (stm τ 95 (45 + 11 * n) w) := fun τ w => puts_at h7 (f := 1) (by omega)
  have p2 : ∀ (τ : Mem) (w : Int32), F_X8_puts τ 95 (nI n) 2 w = some (stm τ 95 (46 + 11 * n) w) := fun τ w => puts_at h7 (f := 2) (by omega)
  have p3 : ∀ (τ : Mem) (w : Int32), F_X8_puts τ 95 (nI n) 3 w = some (stm τ 95 (47 + 11 * n) w) := fun τ w => puts_at h7 (f := 3) (by omega)
  have p4 : ∀ (τ : Mem) (w : Int32), F_X8_puts τ 95 (nI n) 4 w = some (stm τ 95 (48 + 11 * n) w) := fun τ w => puts_at h7 (f := 4) (by omega)
  have p10 : ∀ (τ : Mem) (w : Int32), F_X8_puts τ 95 (nI n) 10 w = some (stm τ 95 (54 + 11 * n) w) := fun τ w => puts_at h7 (f := 10) (by omega)
  obtain ⟨ρ1, b1, b2, b3, b4, b5, b6, b7, b8⟩ := begins_r (ρ := stm (stm (stm (stm (stm (stm ρ 95 (44 + 11 * n) v) 95 (45 + 11 * n) va) 95 (47 + 11 * n) vb) 95 (46 + 11 * n) (ρ 102 2)) 95 (48 + 11 * n) (ρ 102 3)) 95 (54 + 11 * n) 0) (a := 95) h7
  have g : ∀ (τ : Mem) (j : Nat) (w : Int32), stm τ 95 j w 102 = τ 102 := fun τ j w => stm_ne _ _ _ (by omega)
  have ob : ∀ j, ¬ (49 + 11 * n ≤ j ∧ j ≤ 53 + 11 * n) → ρ1 95 j = upd (upd (upd (upd (upd (upd (ρ 95) (44 + 11 * n) v) (45 + 11 * n) va) (47 + 11 * n) vb) (46 + 11 * n) (ρ 102 2)) (48 + 11 * n) (ρ 102 3)) (54 + 11 * n) 0 j := fun j hj => by
    rw [b3 j hj]; simp only [stm_row]
  have o1 : ρ1 95 1 = nI n := by
    rw [ob 1 (by omega)]; simp (disch := omega) only [upd_ne]; exact e1
  refine ⟨stm ρ1 95 1 (nI (n + 1)), ?_, fun i hi => ?_, ?_, ⟨?_, ?_, ?_, ?_, ?_, ?_, ?_, ?_, ?_, ?_, ?_⟩, fun j j1 j2 => ?_⟩
  · rw [e1, p0, Option.bind_some, p1, Option.bind_some, p3, Option.bind_some, p2, Option.bind_some, p4, Option.bind_some, p10, Option.bind_some]
    simp only [g]
    rw [b1, Option.bind_some, o1, nI_1]
  · rw [stm_ne _ _ _ hi, b2 i hi, stm_ne _ _ _ hi, stm_ne _ _ _ hi, stm_ne _ _ _ hi, stm_ne _ _ _ hi, stm_ne _ _ _ hi, stm_ne _ _ _ hi]
  · rw [stm_row, upd_at]
  · rw [stm_row, upd_ne _ _ (by omega), ob _ (by omega)]; simp (disch := omega) only [upd_ne, upd_at]
  · rw [stm_row, upd_ne _ _ (by omega), ob _ (by omega)]; simp (disch := omega) only [upd_ne, upd_at]
  · rw [stm_row, upd_ne _ _ (by omega), ob _ (by omega)]; simp (disch := omega) only [upd_ne, upd_at]
  · rw [stm_row, upd_ne _ _ (by omega), ob _ (by omega)]; simp (disch := omega) only [upd_ne, upd_at]
  · rw [stm_row, upd_ne _ _ (by omega), ob _ (by omega)]; simp (disch := omega) only [upd_ne, upd_at]
  · rw [stm_row, upd_ne _ _ (by omega)]; exact b4
  · rw [stm_row, upd_ne _ _ (by omega)]; exact b5
  · rw [stm_row, upd_ne _ _ (by omega)]; exact b6
  · rw [stm_row, upd_ne _ _ (by omega)]; exact b7
  · rw [stm_row, upd_ne _ _ (by omega)]; exact b8
  · rw [stm_row, upd_ne _ _ (by omega), ob _ (by omega)]; simp (disch := omega) only [upd_at]
  · rw [stm_row, upd_ne _ _ j1, ob _ (by omega)]; simp (disch := omega) only [upd_ne]
end CO
