/-! reading a road's text: both sides -/
def SFq (T : Nat → Int32) (z p q : Nat) : Prop := q ≤ 1000 ∧ (∀ d σ, CS σ d z T p false → ∃ σ', F_X3_readStatement σ = some σ' ∧ CS σ' d z T q true ∧ ∀ i, i ≠ 85 → σ' i = σ i) ∧ (∀ d ρ, RS ρ d z T p → ∃ ρ', F_X8_readsStatement ρ = some (ρ', 0) ∧ RS ρ' d z T q ∧ KF ρ ρ')
def SKq (T : Nat → Int32) (z p q : Nat) (L : Int32) (a b c l : Nat) : Prop := (p < q ∧ q ≤ z ∧ p < z ∧ T p = L ∧ LET L a b c l) ∧ (∀ d σ, CS σ d z T p false → ∃ σ', F_X3_readStatement σ = some σ' ∧ CS σ' d z T q false ∧ (∀ i, i ≠ 85 → σ' i = σ i) ∧ σ' 85 3 = L ∧ σ' 85 4 = nI a ∧ σ' 85 5 = nI b ∧ σ' 85 6 = nI c ∧ σ' 85 7 = nI l) ∧ (∀ d ρ, RS ρ d z T p → ∃ ρ', F_X8_readsStatement ρ = some (ρ', 1) ∧ RS ρ' d z T q ∧ KF ρ ρ' ∧ NUM (ρ' 102) L a b c l)
def BAD (T : Nat → Int32) (z : Nat) : Nat → Nat → Nat → Prop
  | 0, p, q => SFq T z p q
  | e + 1, p, q => ∃ (p' : Nat) (L : Int32) (a b c l : Nat), SKq T z p p' L a b c l ∧ p' < z ∧ BAD T z e p' q
/-- k + 1 statements from p to the end -/
def GOOD (T : Nat → Int32) (z : Nat) : Nat → Nat → Prop
  | 0, p => ∃ (L : Int32) (a b c l : Nat), SKq T z p z L a b c l
  | k + 1, p => ∃ (p' : Nat) (L : Int32) (a b c l : Nat), SKq T z p p' L a b c l ∧ p' < z ∧ GOOD T z k p'
theorem parse_all {T : Nat → Int32} {z : Nat} (hz : z ≤ 100) : ∀ e p, z - p ≤ e → p ≤ z → (∃ g q, q ≤ 1000 ∧ BAD T z g p q) ∨ ∃ k, p + k < z ∧ GOOD T z k p := by
  intro e
  induction e with
  | zero =>
    intro p h1 h2
    rcases stmt (T := T) hz h2 with ⟨q, h⟩ | ⟨q, L, a, b, c, l, h⟩
    · exact Or.inl ⟨0, q, h.1, h⟩
    · exact absurd h.1.2.2.1 (by omega)
  | succ e ih =>
    intro p h1 h2
    rcases stmt (T := T) hz h2 with ⟨q, h⟩ | ⟨q, L, a, b, c, l, h⟩
    · exact Or.inl ⟨0, q, h.1, h⟩
    · have h' : SKq T z p q L a b c l := h
      have pq := h.1.1
      have qz := h.1.2.1
      by_cases w : q < z
      · rcases ih q (by omega) qz with ⟨g, r, r1, B⟩ | ⟨k, k1, G⟩
        · exact Or.inl ⟨g + 1, r, r1, q, L, a, b, c, l, h', w, B⟩
        · exact Or.inr ⟨k + 1, by omega, q, L, a, b, c, l, h', w, G⟩
      · obtain rfl : q = z := by omega
        exact Or.inr ⟨0, by omega, L, a, b, c, l, h'⟩
/-- what the class's reading may change -/
def MX (σ σ' : Mem) : Prop := (∀ i, i < 44 ∨ 66 ≤ i → i ≠ 85 → σ' i = σ i) ∧ σ' 44 8 = σ 44 8 ∧ σ' 44 9 = σ 44 9
def KG (ρ ρ' : Mem) : Prop := (∀ i, i ≠ 91 → i ≠ 95 → i ≠ 102 → ρ' i = ρ i) ∧ ρ' 91 10 = ρ 91 10
section RO
variable {σ σ' σ'' ρ ρ' ρ'' : Mem} {d z p m n : Nat} {T : Nat → Int32} {k : Nat → Int32} {len : Nat → Nat}
theorem MX_rf (σ : Mem) : MX σ σ := ⟨fun _ _ _ => rfl, rfl, rfl⟩
theorem MX_tr (h : MX σ σ') (h' : MX σ' σ'') : MX σ σ'' := ⟨fun i h1 h2 => (h'.1 i h1 h2).trans (h.1 i h1 h2), h'.2.1.trans h.2.1, h'.2.2.trans h.2.2⟩
theorem MX_85 (h : ∀ i, i ≠ 85 → σ' i = σ i) : MX σ σ' := ⟨fun i _ h2 => h i h2, by rw [h 44 (by omega)], by rw [h 44 (by omega)]⟩
theorem MX_fr (h : FrC 2 σ σ') : MX σ σ' := ⟨fun i h1 _ => h.1 i (by omega), h.2.2.1, h.2.2.2⟩
theorem KG_tr (h : KG ρ ρ') (h' : KG ρ' ρ'') : KG ρ ρ'' := ⟨fun i h1 h2 h3 => (h'.1 i h1 h2 h3).trans (h.1 i h1 h2 h3), h'.2.trans h.2⟩
theorem KG_kf (h : KF ρ ρ') : KG ρ ρ' := ⟨fun i h1 _ h3 => h.1 i h1 h3, h.2 10 (by omega) (by omega)⟩
theorem KG_95 (h : ∀ i, i ≠ 95 → ρ' i = ρ i) : KG ρ ρ' := ⟨fun i _ h2 _ => h i h2, by rw [h 91 (by omega)]⟩
theorem CS_fr {br : Bool} (C : CS σ d z T p br) (f : FrC 2 σ σ') : CS σ' d z T p br := by
  obtain ⟨⟨hd, hz, hp⟩, h0, h4, hT, h1, h2⟩ := C
  have e := fun i (h : 66 ≤ i) => f.1 i (by omega)
  refine ⟨⟨hd, hz, hp⟩, ?_, ?_, ?_, ?_, ?_⟩
  · rw [e 85 (by omega)]; exact h0
  · rw [e (68 + d) (by omega)]; exact h4
  · rw [e (76 + d) (by omega)]; exact hT
  · rw [e 85 (by omega)]; exact h1
  · rw [e 85 (by omega)]; exact h2
theorem RS_95 (R : RS ρ d z T p) (h : ∀ i, i ≠ 95 → ρ' i = ρ i) : RS ρ' d z T p := by
  unfold RS at R ⊢
  rw [h 91 (by omega), h 99 (by omega)]
  exact R
theorem RT_85 (R : RT σ 2 k m len n) (h : ∀ i, i ≠ 85 → σ' i = σ i) : RT σ' 2 k m len n := RT_cc R (fun i h1 h2 => h i (by omega))
theorem LZ_85 (L : LZ σ 2) (h : ∀ i, i ≠ 85 → σ' i = σ i) : LZ σ' 2 := LZ_cc L (fun i h1 h2 => h i (by omega))
/-- one more statement of the class's loop -/
theorem read_1 (C : CS σ d z T p false) {v5 : Nat} (h5 : v5 ≤ 100) (hv : v5 = 0 ∨ p < z) (nn : Nat) (v4 v3 : Int32) : F_X3_read_23 d 2 (nn + 1) σ (nI v5) v4 v3 = (F_X3_readStatement σ).bind fun s7 => if (s7 85 2) = 0 then (if 0 ≤ v4 then (F_X3_read_23 d 2 nn s7 (nI (v5 + 1)) v4 (v3 + 1)) else (bd2 (F_X3_fulfil s7 2) fun s10 r11 => if r11 = 0 then (F_X3_read_23 d 2 nn s10 (nI (v5 + 1)) (nI p) (v3 + 1)) else (F_X3_read_23 d 2 nn s10 (nI (v5 + 1)) v4 (v3 + 1)))) else (some (s7, ((-1000) - (s7 85 1)))) := by
  have t := tx_c C
  obtain ⟨⟨hd, hz, hp⟩, h0, h4, hT, h1, h2⟩ := C
  rw [F_X3_read_23, if_neg (show ¬ (100 : Int32) < nI v5 from nI_nlt (a := 100) (b := v5) h5 (by decide)), h2, if_pos (show bI false = 0 from rfl), h1, nI_1]
  by_cases z0 : v5 = 0
  · subst z0
    rw [if_pos (show nI 0 = 0 from rfl)]
  · have pz : p < z := by omega
    rw [if_neg (nI_ne0 (by omega) (by omega)), t, Option.bind_some, h4, if_neg (nI_ge pz (by omega))]
theorem read_e (C : CS σ d z T z false) {v5 : Nat} (h5 : v5 ≤ 100) (hv : 1 ≤ v5) (nn : Nat) (v4 v3 : Int32) : F_X3_read_23 d 2 (nn + 1) σ (nI v5) v4 v3 = if 0 ≤ v4 then (some (σ, ((-2000) - v4))) else (some (σ, v3)) := by
  have t := tx_c C
  obtain ⟨⟨hd, hz, hp⟩, h0, h4, hT, h1, h2⟩ := C
  rw [F_X3_read_23, if_neg (show ¬ (100 : Int32) < nI v5 from nI_nlt (a := 100) (b := v5) h5 (by decide)), h2, if_pos (show bI false = 0 from rfl), h1, if_neg (nI_ne0 (by omega) (by omega)), t, Option.bind_some, h4, if_pos (nI_le (Nat.le_refl _) (by omega))]
theorem fault_b {q : Nat} (hz : z ≤ 100) : ∀ (g p : Nat) (B : BAD T z g p q) (σ : Mem) (v5 nn f : Nat) (v3 : Int32), CS σ d z T p false → v5 ≤ p → (v5 = 0 ∨ p < z) → z - p < nn → f ≤ 1000 → ∃ σ', F_X3_read_23 d 2 nn σ (nI v5) (nI f) v3 = some (σ', -1000 - nI q) ∧ ∀ i, i ≠ 85 → σ' i = σ i := by
  intro g
  induction g with
  | zero =>
    intro p S σ v5 nn f v3 C h5 hv hn hf
    obtain ⟨nn, rfl⟩ : ∃ j, nn = j + 1 := ⟨nn - 1, by omega⟩
    obtain ⟨σ1, a1, a2, a3⟩ := S.2.1 d σ C
    refine ⟨σ1, ?_, a3⟩
    rw [read_1 C (by omega) hv, a1, Option.bind_some, a2.2.2.2.2.2, if_neg (show ¬ bI true = 0 by decide), a2.2.2.2.2.1]
  | succ g ih =>
    rintro p ⟨p', L, a, b, c, l, S, hp', B⟩ σ v5 nn f v3 C h5 hv hn hf
    obtain ⟨nn, rfl⟩ : ∃ j, nn = j + 1 := ⟨nn - 1, by omega⟩
    have s1 := S.1
    obtain ⟨σ1, a1, a2, a3, -⟩ := S.2.1 d σ C
    obtain ⟨σ2, b1, b2⟩ := ih p' B σ1 (v5 + 1) nn f (v3 + 1) a2 (by omega) (Or.inr hp') (by omega) hf
    refine ⟨σ2, ?_, fun i hi => (b2 i hi).trans (a3 i hi)⟩
    rw [read_1 C (by omega) hv, a1, Option.bind_some, a2.2.2.2.2.2, if_pos (show bI false = 0 from rfl), if_pos (show (0 : Int32) ≤ nI f from nI_le (a := 0) (b := f) (by omega) (by omega))]
    exact b1
theorem fault_g (hz : z ≤ 100) : ∀ (k p : Nat) (B : GOOD T z k p) (σ : Mem) (v5 nn f : Nat) (v3 : Int32), CS σ d z T p false → v5 ≤ p → z - p + 1 < nn → f ≤ 1000 → ∃ σ', F_X3_read_23 d 2 nn σ (nI v5) (nI f) v3 = some (σ', -2000 - nI f) ∧ ∀ i, i ≠ 85 → σ' i = σ i := by
  intro g
  induction g with
  | zero =>
    rintro p ⟨L, a, b, c, l, S⟩ σ v5 nn f v3 C h5 hn hf
    obtain ⟨nn, rfl⟩ : ∃ j, nn = j + 2 := ⟨nn - 2, by omega⟩
    have s1 := S.1
    obtain ⟨σ1, a1, a2, a3, -⟩ := S.2.1 d σ C
    have f0 : (0 : Int32) ≤ nI f := nI_le (a := 0) (b := f) (by omega) (by omega)
    refine ⟨σ1, ?_, a3⟩
    rw [read_1 C (by omega) (Or.inr s1.2.2.1), a1, Option.bind_some, a2.2.2.2.2.2, if_pos (show bI false = 0 from rfl), if_pos f0, read_e a2 (by omega) (by omega), if_pos f0]
  | succ g ih =>
    rintro p ⟨p', L, a, b, c, l, S, hp', B⟩ σ v5 nn f v3 C h5 hn hf
    obtain ⟨nn, rfl⟩ : ∃ j, nn = j + 1 := ⟨nn - 1, by omega⟩
    have s1 := S.1
    obtain ⟨σ1, a1, a2, a3, -⟩ := S.2.1 d σ C
    obtain ⟨σ2, b1, b2⟩ := ih p' B σ1 (v5 + 1) nn f (v3 + 1) a2 (by omega) (by omega) hf
    refine ⟨σ2, ?_, fun i hi => (b2 i hi).trans (a3 i hi)⟩
    rw [read_1 C (by omega) (Or.inr s1.2.2.1), a1, Option.bind_some, a2.2.2.2.2.2, if_pos (show bI false = 0 from rfl), if_pos (show (0 : Int32) ≤ nI f from nI_le (a := 0) (b := f) (by omega) (by omega))]
    exact b1
/-- the class reads a text that breaks -/
theorem run_b {q : Nat} (hz : z ≤ 100) : ∀ (g p : Nat) (B : BAD T z g p q) (σ : Mem) (v5 nn m n : Nat) (v3 : Int32) (k : Nat → Int32) (len : Nat → Nat), CS σ d z T p false → RT σ 2 k m len n → LZ σ 2 → v5 ≤ p → (v5 = 0 ∨ p < z) → z - p < nn → ∃ σ', F_X3_read_23 d 2 nn σ (nI v5) (-1) v3 = some (σ', -1000 - nI q) ∧ MX σ σ' := by
  have n1 : ¬ (0 : Int32) ≤ -1 := by decide
  intro g
  induction g with
  | zero =>
    intro p S σ v5 nn m n v3 k len C R L h5 hv hn
    obtain ⟨nn, rfl⟩ : ∃ j, nn = j + 1 := ⟨nn - 1, by omega⟩
    obtain ⟨σ1, a1, a2, a3⟩ := S.2.1 d σ C
    refine ⟨σ1, ?_, MX_85 a3⟩
    rw [read_1 C (by omega) hv, a1, Option.bind_some, a2.2.2.2.2.2, if_neg (show ¬ bI true = 0 by decide), a2.2.2.2.2.1]
  | succ g ih =>
    rintro p ⟨p', W, a, b, c, l, S, hp', B⟩ σ v5 nn m n v3 k len C R L h5 hv hn
    obtain ⟨nn, rfl⟩ : ∃ j, nn = j + 1 := ⟨nn - 1, by omega⟩
    have s1 := S.1
    have hp := C.1.2.2
    obtain ⟨σ1, a1, a2, a3, a4, a5, a6, a7, a8⟩ := S.2.1 d σ C
    have st := read_1 C (v5 := v5) (by omega) hv nn (-1) v3
    rw [a1, Option.bind_some, a2.2.2.2.2.2, if_pos (show bI false = 0 from rfl), if_neg n1] at st
    rcases fulfil_t (RT_85 R a3) (LZ_85 L a3) s1.2.2.2.2 a4 a5 a6 a7 a8 with x | ⟨σ2, k', m', len', n', x, y, w⟩
    · obtain ⟨σ3, b1, b2⟩ := fault_b (d := d) hz g p' B σ1 (v5 + 1) nn _ (v3 + 1) a2 (by omega) (Or.inr hp') (by omega) hp
      rw [x, bd2_s, if_pos rfl] at st
      exact ⟨σ3, st.trans b1, MX_85 (fun i hi => (b2 i hi).trans (a3 i hi))⟩
    · obtain ⟨σ3, b1, b2⟩ := ih p' B σ2 (v5 + 1) nn m' n' (v3 + 1) k' len' (CS_fr a2 w) y (LZ_fr (LZ_85 L a3) w) (by omega) (Or.inr hp') (by omega)
      rw [x, bd2_s, if_neg i10] at st
      exact ⟨σ3, st.trans b1, MX_tr (MX_85 a3) (MX_tr (MX_fr w) b2)⟩
end RO
