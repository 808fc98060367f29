/-! ROWS: lines of bits, codes, queues -/
def woN (l b : Nat) : Nat := l / 2 ^ (b + 1) * 2 ^ b + l % 2 ^ b
def lgN (l e t : Nat) : Nat := (l / 2 ^ e * 2 + t) * 2 ^ e + l % 2 ^ e
def pcN (l : Nat) : Nat := l % 2 + l / 2 % 2 + l / 4 % 2 + l / 8 % 2 + l / 16 % 2 + l / 32 % 2 + l / 64 % 2
theorem wo_ok : ∀ l, l < 128 → ∀ b, b < 7 → ((nI l >>> ((nI b + 1) &&& 31)) <<< (nI b &&& 31)) ||| (nI l &&& (((1 : Int32) <<< (nI b &&& 31)) - 1)) = nI (woN l b) := by decide +kernel
theorem lg_ok : ∀ l, l < 128 → ∀ e, e < 7 → ∀ t, t < 2 → ((((nI l >>> (nI e &&& 31)) <<< ((1 : Int32) &&& 31)) ||| nI t) <<< (nI e &&& 31)) ||| (nI l &&& (((1 : Int32) <<< (nI e &&& 31)) - 1)) = nI (lgN l e t) := by decide +kernel
theorem ln_ok : ∀ l, l < 128 → ∀ k, k < 8 → ((nI l >>> ((nI k + 1) &&& 31)) = 0 ↔ Nat.log2 l ≤ k) := by decide +kernel
theorem ln_lt : ∀ l, l < 128 → Nat.log2 l < 7 := by decide +kernel
/-- a line's bars: bar carts at the one side, the rest at the other -/
def vc (a b c : Nat) : Prop := c / 128 ≤ Nat.log2 (c % 128) ∧ 1 ≤ c % 128 ∧ pcN (c % 128) - 1 ≤ a ∧ Nat.log2 (c % 128) - (pcN (c % 128) - 1) ≤ b ∧ c < 896
def nbr (a b r x z c : Nat) : List Nat :=
  (if 0 < c / 128 ∧ Nat.log2 (c % 128) - c / 128 < z then [(c / 128 - 1) * 128 + c % 128] else []) ++
  (if 0 < Nat.log2 (c % 128) - c / 128 ∧ c / 128 < x then [(c / 128 + 1) * 128 + c % 128] else []) ++
  (if a + b - Nat.log2 (c % 128) < r ∧ 0 < c / 128 then [(c / 128 - 1) * 128 + woN (c % 128) (Nat.log2 (c % 128) - c / 128)] else []) ++
  (if a + b - Nat.log2 (c % 128) < r ∧ 0 < Nat.log2 (c % 128) - c / 128 then [c / 128 * 128 + woN (c % 128) (Nat.log2 (c % 128) - c / 128 - 1)] else []) ++
  (if pcN (c % 128) - 1 < a ∧ c / 128 < x then [(c / 128 + 1) * 128 + lgN (c % 128) (Nat.log2 (c % 128) - c / 128) 1] else []) ++
  (if pcN (c % 128) - 1 < a ∧ Nat.log2 (c % 128) - c / 128 < z then [c / 128 * 128 + lgN (c % 128) (Nat.log2 (c % 128) - c / 128) 1] else []) ++
  (if Nat.log2 (c % 128) - (pcN (c % 128) - 1) < b ∧ c / 128 < x then [(c / 128 + 1) * 128 + lgN (c % 128) (Nat.log2 (c % 128) - c / 128) 0] else []) ++
  (if Nat.log2 (c % 128) - (pcN (c % 128) - 1) < b ∧ Nat.log2 (c % 128) - c / 128 < z then [c / 128 * 128 + lgN (c % 128) (Nat.log2 (c % 128) - c / 128) 0] else [])
/-- the plain facts of a line: what each move makes of it -/
theorem ln_f1 : ∀ l, l < 128 → (1 ≤ l → 1 ≤ pcN l ∧ pcN l - 1 ≤ Nat.log2 l) := by decide +kernel
theorem ln_f2 : ∀ l, l < 128 → ∀ b, b < 7 → (b < Nat.log2 l → woN l b < 128 ∧ 1 ≤ woN l b ∧ Nat.log2 (woN l b) = Nat.log2 l - 1 ∧ pcN (woN l b) = pcN l - (l / 2 ^ b % 2)) := by decide +kernel
theorem ln_f3a : ∀ l, l < 128 → ∀ e, e < 7 → (1 ≤ l ∧ e ≤ Nat.log2 l ∧ Nat.log2 l < 6 → lgN l e 0 < 128 ∧ 1 ≤ lgN l e 0 ∧ Nat.log2 (lgN l e 0) = Nat.log2 l + 1 ∧ pcN (lgN l e 0) = pcN l) := by decide +kernel
theorem ln_f3b : ∀ l, l < 128 → ∀ e, e < 7 → (1 ≤ l ∧ e ≤ Nat.log2 l ∧ Nat.log2 l < 6 → lgN l e 1 < 128 ∧ 1 ≤ lgN l e 1 ∧ Nat.log2 (lgN l e 1) = Nat.log2 l + 1 ∧ pcN (lgN l e 1) = pcN l + 1) := by decide +kernel
theorem ln_f3 : ∀ l, l < 128 → ∀ e, e < 7 → ∀ t, t < 2 → (1 ≤ l ∧ e ≤ Nat.log2 l ∧ Nat.log2 l < 6 → lgN l e t < 128 ∧ 1 ≤ lgN l e t ∧ Nat.log2 (lgN l e t) = Nat.log2 l + 1 ∧ pcN (lgN l e t) = pcN l + t) := by
  intro l hl e he t ht h
  rcases (show t = 0 ∨ t = 1 by omega) with rfl | rfl
  · exact ln_f3a l hl e he h
  · exact ln_f3b l hl e he h
theorem ln_f4 : ∀ l, l < 128 → ∀ b, b < 7 → (b < Nat.log2 l → pcN (woN l b) - 1 ≤ pcN l - 1 ∧ Nat.log2 l - 1 - (pcN (woN l b) - 1) ≤ Nat.log2 l - (pcN l - 1)) := by decide +kernel
def pushQ (Q : List (Nat × Nat)) (c d : Nat) : List (Nat × Nat) := if c ∈ Q.map Prod.fst then Q else Q ++ [(c, d)]
def foldQ (Q : List (Nat × Nat)) (cs : List Nat) (d : Nat) : List (Nat × Nat) := cs.foldl (fun q c => pushQ q c d) Q
theorem foldQ_app (Q : List (Nat × Nat)) (xs ys : List Nat) (d : Nat) : foldQ Q (xs ++ ys) d = foldQ (foldQ Q xs d) ys d := by simp [foldQ, List.foldl_append]
theorem foldQ_nil (Q : List (Nat × Nat)) (d : Nat) : foldQ Q [] d = Q := rfl
theorem foldQ_one (Q : List (Nat × Nat)) (c d : Nat) : foldQ Q [c] d = pushQ Q c d := rfl
theorem pigeon : ∀ (n : Nat) (l : List Nat), l.Nodup → (∀ c ∈ l, c < n) → l.length ≤ n := by
  intro n
  induction n with
  | zero =>
    intro l _ h
    cases l with
    | nil => exact Nat.le_refl 0
    | cons c r => exact absurd (h c List.mem_cons_self) (Nat.not_lt_zero _)
  | succ n ih =>
    intro l hn h
    have h1 := ih (l.erase n) (hn.erase n) (fun c hc => by
      have h2 := h c (List.mem_of_mem_erase hc)
      have h3 : c ≠ n := fun e => by
        subst e
        exact (List.Nodup.not_mem_erase hn) hc
      omega)
    by_cases hm : n ∈ l
    · rw [List.length_erase_of_mem hm] at h1
      omega
    · rw [List.erase_of_not_mem hm] at h1
      omega
/-- the class's rows hold the queue Q -/
def RepC (Q : List (Nat × Nat)) (σ : Mem) : Prop := σ 88 2 = nI Q.length ∧ (Q.map Prod.fst).Nodup ∧ (∀ k c d : Nat, Q[k]? = some (c, d) → σ 90 k = nI c ∧ σ 89 c = nI d ∧ c < 896 ∧ d ≤ k) ∧ (∀ c, c < 896 → c ∉ Q.map Prod.fst → σ 89 c = -4)
theorem mem_fst {Q : List (Nat × Nat)} {c : Nat} (h : c ∈ Q.map Prod.fst) : ∃ k d : Nat, Q[k]? = some (c, d) := by
  obtain ⟨⟨c', d⟩, hm, rfl⟩ := List.mem_map.mp h
  obtain ⟨k, hk⟩ := List.getElem?_of_mem hm
  exact ⟨k, d, hk⟩
theorem RepC_len {Q : List (Nat × Nat)} {σ : Mem} (h : RepC Q σ) : Q.length ≤ 896 := by
  have := pigeon 896 (Q.map Prod.fst) h.2.1 (fun c hc => by
    obtain ⟨k, d, hk⟩ := mem_fst hc
    exact (h.2.2.1 k c d hk).2.2.1)
  simpa using this
theorem nodup_snoc {l : List Nat} {c : Nat} (h : l.Nodup) (hn : c ∉ l) : (l ++ [c]).Nodup := by
  rw [List.nodup_append]
  exact ⟨h, by simp, fun a ha b hb e => hn (by rw [List.mem_singleton.mp hb] at e; rw [← e]; exact ha)⟩
theorem RepC_new {Q : List (Nat × Nat)} {σ : Mem} (h : RepC Q σ) {c : Nat} (hc : c < 896) (hn : c ∉ Q.map Prod.fst) : Q.length < 896 := by
  have := pigeon 896 ((Q.map Prod.fst) ++ [c]) (by
    rw [List.nodup_append]
    exact ⟨h.2.1, by simp, fun a ha b hb e => hn (by rw [List.mem_singleton.mp hb] at e; rw [← e]; exact ha)⟩) (fun x hx => by
    rcases List.mem_append.mp hx with hx | hx
    · obtain ⟨k, d, hk⟩ := mem_fst hx
      exact (h.2.2.1 k x d hk).2.2.1
    · rw [List.mem_singleton.mp hx]
      exact hc)
  simp at this
  omega
theorem nI_nm4 {d : Nat} (h : d < 2 ^ 31) : ¬ nI d = -4 := fun e => by
  have h1 := congrArg Int32.toInt e
  rw [nI_toInt h] at h1
  have h2 : (-4 : Int32).toInt = -4 := by decide
  omega
theorem RepC_iff {Q : List (Nat × Nat)} {σ : Mem} (h : RepC Q σ) {c : Nat} (hc : c < 896) : σ 89 c = -4 ↔ c ∉ Q.map Prod.fst := by
  constructor
  · intro e hm
    obtain ⟨k, d, hk⟩ := mem_fst hm
    have h1 := h.2.2.1 k c d hk
    have h2 := RepC_len h
    have h3 := (List.getElem?_eq_some_iff.mp hk).1
    rw [h1.2.1] at e
    exact nI_nm4 (by omega) e
  · exact h.2.2.2 c hc
theorem RepC_push {Q : List (Nat × Nat)} {σ : Mem} (h : RepC Q σ) {c d : Nat} (hc : c < 896) (hn : c ∉ Q.map Prod.fst) (hd : d ≤ Q.length) : RepC (Q ++ [(c, d)]) (stm (stm (stm σ 89 c (nI d)) 90 Q.length (nI c)) 88 2 (nI (Q.length + 1))) := by
  have hl := RepC_new h hc hn
  refine ⟨by simp [stm, upd], ?_, ?_, ?_⟩
  · rw [List.map_append]
    exact nodup_snoc h.2.1 hn
  · intro k c' d' hk
    by_cases h1 : k < Q.length
    · rw [List.getElem?_append_left h1] at hk
      have h2 := h.2.2.1 k c' d' hk
      have h3 : c' ≠ c := fun e => hn (by rw [← e]; exact List.mem_map.mpr ⟨(c', d'), List.mem_of_getElem? hk, rfl⟩)
      have h4 : k ≠ Q.length := by omega
      refine ⟨?_, ?_, h2.2.2⟩
      · simp [stm, upd, h4, h2.1]
      · simp [stm, upd, h3, h2.2.1]
    · have h2 : k = Q.length := by
        have := (List.getElem?_eq_some_iff.mp hk).1
        simp at this
        omega
      subst h2
      simp at hk
      obtain ⟨rfl, rfl⟩ := hk
      exact ⟨by simp [stm, upd], by simp [stm, upd], hc, hd⟩
  · intro c' hc' hm
    rw [List.map_append, List.mem_append] at hm
    have h1 : c' ∉ Q.map Prod.fst := fun q => hm (Or.inl q)
    have h2 : c' ≠ c := fun e => hm (Or.inr (by rw [e]; exact List.mem_singleton.mpr rfl))
    simp [stm, upd, h2, h.2.2.2 c' hc' h1]
