/-! THE REFERENCE'S STATES: sides and asides of a code -/
def revN : Nat → Nat → Nat
  | 0, _ => 0
  | n + 1, w => w % 2 * 2 ^ n + revN n (w / 2)
def oneN (l e : Nat) : Nat := 3 * 2 ^ (Nat.log2 l - e) - 1 - l / 2 ^ e
def othN (l e : Nat) : Nat := 2 ^ e + revN e (2 ^ e - 1 - l % 2 ^ e)
theorem en_0 : ∀ l, l < 128 → ∀ e, e < 7 → (1 ≤ l ∧ e ≤ Nat.log2 l → Nat.log2 (oneN l e) = Nat.log2 l - e ∧ Nat.log2 (othN l e) = e ∧ oneN l e < 128 ∧ othN l e < 128) := by decide +kernel
theorem en_00 : ∀ l, l < 128 → ∀ e, e < 7 → (1 ≤ l ∧ e ≤ Nat.log2 l → 1 ≤ oneN l e ∧ 1 ≤ othN l e) := by decide +kernel
theorem en_1 : ∀ l, l < 128 → ∀ e, e < 7 → (1 ≤ l ∧ e < Nat.log2 l → oneN l (e + 1) = oneN l e / 2 ∧ othN l (e + 1) = 2 * othN l e + oneN l e % 2) := by decide +kernel
theorem en_2 : ∀ l, l < 128 → ∀ e, e < 7 → (1 ≤ l ∧ e ≤ Nat.log2 l ∧ 0 < e → oneN l (e - 1) = 2 * oneN l e + othN l e % 2 ∧ othN l (e - 1) = othN l e / 2) := by decide +kernel
theorem en_3 : ∀ l, l < 128 → ∀ e, e < 7 → (1 ≤ l ∧ e < Nat.log2 l → oneN (woN l e) e = oneN l e / 2 ∧ othN (woN l e) e = othN l e ∧ l / 2 ^ e % 2 = 1 - oneN l e % 2) := by decide +kernel
theorem en_4 : ∀ l, l < 128 → ∀ e, e < 7 → (1 ≤ l ∧ e ≤ Nat.log2 l ∧ 0 < e → oneN (woN l (e - 1)) (e - 1) = oneN l e ∧ othN (woN l (e - 1)) (e - 1) = othN l e / 2 ∧ l / 2 ^ (e - 1) % 2 = 1 - othN l e % 2) := by decide +kernel
theorem en_5 : ∀ l, l < 128 → ∀ e, e < 7 → (1 ≤ l ∧ e ≤ Nat.log2 l ∧ Nat.log2 l < 6 → oneN (lgN l e 1) e = 2 * oneN l e ∧ othN (lgN l e 1) e = othN l e) := by decide +kernel
theorem en_6 : ∀ l, l < 128 → ∀ e, e < 7 → (1 ≤ l ∧ e ≤ Nat.log2 l ∧ Nat.log2 l < 6 → oneN (lgN l e 1) (e + 1) = oneN l e ∧ othN (lgN l e 1) (e + 1) = 2 * othN l e) := by decide +kernel
theorem en_7 : ∀ l, l < 128 → ∀ e, e < 7 → (1 ≤ l ∧ e ≤ Nat.log2 l ∧ Nat.log2 l < 6 → oneN (lgN l e 0) e = 2 * oneN l e + 1 ∧ othN (lgN l e 0) e = othN l e) := by decide +kernel
theorem en_8 : ∀ l, l < 128 → ∀ e, e < 7 → (1 ≤ l ∧ e ≤ Nat.log2 l ∧ Nat.log2 l < 6 → oneN (lgN l e 0) (e + 1) = oneN l e ∧ othN (lgN l e 0) (e + 1) = 2 * othN l e + 1) := by decide +kernel
def decN (u v : Nat) : Nat := (3 * 2 ^ Nat.log2 u - 1 - u) * 2 ^ Nat.log2 v + revN (Nat.log2 v) (2 ^ (Nat.log2 v + 1) - 1 - v)
theorem en_9 : ∀ l, l < 128 → ∀ e, e < 7 → (1 ≤ l ∧ e ≤ Nat.log2 l → decN (oneN l e) (othN l e) = l) := by decide +kernel
def eyN (c : Nat) : Nat := Nat.log2 (c % 128) - c / 128
def xN (a c : Nat) : Nat := a - (pcN (c % 128) - 1)
def yN (b c : Nat) : Nat := b - (Nat.log2 (c % 128) - (pcN (c % 128) - 1))
def enc (a b c : Nat) : Nat := (oneN (c % 128) (eyN c) * 128 + othN (c % 128) (eyN c)) * 16 + xN a c * 4 + yN b c
theorem enc_b {a b c : Nat} (ha : a ≤ 3) (hb : b ≤ 3) (h : vcd a b c) : oneN (c % 128) (eyN c) < 128 ∧ othN (c % 128) (eyN c) < 128 ∧ xN a c < 4 ∧ yN b c < 4 ∧ 1 ≤ oneN (c % 128) (eyN c) ∧ 1 ≤ othN (c % 128) (eyN c) ∧ Nat.log2 (oneN (c % 128) (eyN c)) = c / 128 ∧ Nat.log2 (othN (c % 128) (eyN c)) = eyN c := by
  have hl : c % 128 < 128 := Nat.mod_lt _ (by decide)
  have h7 := ln_lt _ hl
  have he : eyN c < 7 := by unfold eyN; omega
  have h0 := en_0 _ hl _ he ⟨h.2.2.1, by unfold eyN; omega⟩
  have h00 := en_00 _ hl _ he ⟨h.2.2.1, by unfold eyN; omega⟩
  have hv := h.2.1
  refine ⟨h0.2.2.1, h0.2.2.2, by unfold xN; omega, by unfold yN; omega, h00.1, h00.2, ?_, h0.2.1⟩
  rw [h0.1]
  unfold eyN
  omega
theorem enc_inj {a b c c' : Nat} (ha : a ≤ 3) (hb : b ≤ 3) (h : vcd a b c) (h' : vcd a b c') (e : enc a b c = enc a b c') : c = c' := by
  have k := enc_b ha hb h
  have k' := enc_b ha hb h'
  unfold enc at e
  have e1 : oneN (c % 128) (eyN c) = oneN (c' % 128) (eyN c') := by omega
  have e2 : othN (c % 128) (eyN c) = othN (c' % 128) (eyN c') := by omega
  have f : ∀ c, vcd a b c → decN (oneN (c % 128) (eyN c)) (othN (c % 128) (eyN c)) = c % 128 := by
    intro c h
    have hl : c % 128 < 128 := Nat.mod_lt _ (by decide)
    have h7 := ln_lt _ hl
    exact en_9 _ hl _ (by unfold eyN; omega) ⟨h.2.2.1, by unfold eyN; omega⟩
  have g1 : c % 128 = c' % 128 := by rw [← f c h, ← f c' h', e1, e2]
  have g2 : c / 128 = c' / 128 := by rw [← k.2.2.2.2.2.2.1, ← k'.2.2.2.2.2.2.1, e1]
  omega
theorem enc_w : ∀ a, a < 4 → ∀ b, b < 4 → enc a b (wtC a b) = 16 * ((2 ^ (b + 1) - 1) * 128 + 2 ^ a) := by decide +kernel
theorem enc_s : ∀ a, a < 4 → ∀ b, b < 4 → enc a b (stC a b) = (2 ^ a * 128 + (2 ^ (b + 1) - 1)) * 16 := by decide +kernel
theorem wt_v1 : ∀ a, a < 4 → ∀ b, b < 4 → (wtC a b / 128 ≤ Nat.log2 (wtC a b % 128) ∧ 1 ≤ wtC a b % 128) := by decide +kernel
theorem wt_v2 : ∀ a, a < 4 → ∀ b, b < 4 → (pcN (wtC a b % 128) - 1 ≤ a ∧ Nat.log2 (wtC a b % 128) - (pcN (wtC a b % 128) - 1) ≤ b) := by decide +kernel
theorem wt_vcd {a b : Nat} (ha : a ≤ 3) (hb : b ≤ 3) : vcd a b (wtC a b) := ⟨(st_lt a (by omega) b (by omega)).2, (wt_v1 a (by omega) b (by omega)).1, (wt_v1 a (by omega) b (by omega)).2, wt_v2 a (by omega) b (by omega)⟩
theorem pigeonL : ∀ (l m : List Nat), l.Nodup → (∀ c ∈ l, c ∈ m) → l.length ≤ m.length := by
  intro l
  induction l with
  | nil => intro m _ _; exact Nat.zero_le _
  | cons c r ih =>
    intro m hn hs
    have hc := hs c List.mem_cons_self
    have h1 := ih (m.erase c) (List.nodup_cons.mp hn).2 (fun d hd => (List.mem_erase_of_ne (fun e => (List.nodup_cons.mp hn).1 (by rw [← e]; exact hd))).mpr (hs d (List.mem_cons_of_mem _ hd)))
    rw [List.length_erase_of_mem hc] at h1
    have h2 := List.length_pos_of_mem hc
    simp only [List.length_cons]
    omega
def vlist : List Nat := (List.range 896).filter (fun c => decide (c / 128 ≤ Nat.log2 (c % 128)) && decide (1 ≤ c % 128) && decide (pcN (c % 128) - 1 ≤ 3) && decide (Nat.log2 (c % 128) - (pcN (c % 128) - 1) ≤ 3))
theorem vlist_len : vlist.length = 379 := by decide +kernel
theorem vlist_mem {a b c : Nat} (ha : a ≤ 3) (hb : b ≤ 3) (h : vcd a b c) : c ∈ vlist := by
  unfold vlist
  rw [List.mem_filter]
  refine ⟨List.mem_range.mpr h.1, ?_⟩
  have h3 : pcN (c % 128) - 1 ≤ 3 := by have := h.2.2.2.1; omega
  have h4 : Nat.log2 (c % 128) - (pcN (c % 128) - 1) ≤ 3 := by have := h.2.2.2.2; omega
  simp [h.2.1, h.2.2.1, h3, h4]
theorem pushQ_nd {Q : List (Nat × Nat)} (h : (Q.map Prod.fst).Nodup) (c d : Nat) : ((pushQ Q c d).map Prod.fst).Nodup := by
  unfold pushQ
  split
  · exact h
  · rename_i hn
    rw [List.map_append]
    exact nodup_snoc h hn
theorem foldQ_nd (d : Nat) (cs : List Nat) : ∀ Q : List (Nat × Nat), (Q.map Prod.fst).Nodup → ((foldQ Q cs d).map Prod.fst).Nodup := by
  induction cs with
  | nil => intro Q h; exact h
  | cons c r ih => intro Q h; exact ih _ (pushQ_nd h c d)
/-- a queue of the search: no code twice, all of them codes of these carts -/
def QG (a b : Nat) (Q : List (Nat × Nat)) : Prop := (Q.map Prod.fst).Nodup ∧ ∀ c ∈ Q.map Prod.fst, vcd a b c
theorem QG_len {a b : Nat} {Q : List (Nat × Nat)} (ha : a ≤ 3) (hb : b ≤ 3) (h : QG a b Q) : Q.length ≤ 379 := by
  have := pigeonL (Q.map Prod.fst) vlist h.1 (fun c hc => vlist_mem ha hb (h.2 c hc))
  rw [vlist_len] at this
  simpa using this
theorem QG_push {a b : Nat} {Q : List (Nat × Nat)} (h : QG a b Q) {c : Nat} (d : Nat) (hc : vcd a b c) : QG a b (pushQ Q c d) := ⟨pushQ_nd h.1 c d, fun w hw => (pushQ_mem hw).elim (h.2 w) (fun e => by rw [e]; exact hc)⟩
theorem QG_fold {a b : Nat} {Q : List (Nat × Nat)} (h : QG a b Q) {cs : List Nat} (d : Nat) (hc : ∀ c ∈ cs, vcd a b c) : QG a b (foldQ Q cs d) := ⟨foldQ_nd d cs Q h.1, fun w hw => (foldQ_mem d cs Q w hw).elim (h.2 w) (hc w)⟩
/-- the reference's rows hold the queue Q -/
def RepR0 (a b : Nat) (Q : List (Nat × Nat)) (σ : Mem) : Prop := σ 91 23 = nI Q.length ∧ ∀ k c d : Nat, Q[k]? = some (c, d) → σ 104 k = nI (enc a b c) ∧ σ 103 k = nI d
theorem RepR0_push {a b : Nat} {Q : List (Nat × Nat)} {σ : Mem} (h : RepR0 a b Q σ) (c d : Nat) : RepR0 a b (Q ++ [(c, d)]) (stm (stm (stm σ 103 Q.length (nI d)) 104 Q.length (nI (enc a b c))) 91 23 (nI (Q.length + 1))) := by
  refine ⟨by simp [stm, upd], ?_⟩
  intro k c' d' hk
  by_cases h1 : k < Q.length
  · rw [List.getElem?_append_left h1] at hk
    have h2 := h.2 k c' d' hk
    have h4 : k ≠ Q.length := by omega
    exact ⟨by simp [stm, upd, h4, h2.1], by simp [stm, upd, h4, h2.2]⟩
  · have h2 : k = Q.length := by
      have := (List.getElem?_eq_some_iff.mp hk).1
      simp at this
      omega
    subst h2
    simp at hk
    obtain ⟨rfl, rfl⟩ := hk
    exact ⟨by simp [stm, upd], by simp [stm, upd]⟩
def Fr9 (σ0 σ : Mem) : Prop := (∀ i, i ≠ 91 → i ≠ 103 → i ≠ 104 → σ i = σ0 i) ∧ ∀ j, j ≠ 23 → σ 91 j = σ0 91 j
theorem Fr9_rf (σ : Mem) : Fr9 σ σ := ⟨fun _ _ _ _ => rfl, fun _ _ => rfl⟩
theorem Fr9_tr {σ σ' σ'' : Mem} (h : Fr9 σ σ') (h' : Fr9 σ' σ'') : Fr9 σ σ'' := ⟨fun i h1 h2 h3 => (h'.1 i h1 h2 h3).trans (h.1 i h1 h2 h3), fun j hj => (h'.2 j hj).trans (h.2 j hj)⟩
theorem Fr9_push {σ0 σ : Mem} (h : Fr9 σ0 σ) (x y w : Int32) (i j : Nat) : Fr9 σ0 (stm (stm (stm σ 103 i x) 104 j y) 91 23 w) := ⟨fun q h1 h2 h3 => by rw [stm_ne _ _ _ h1, stm_ne _ _ _ h3, stm_ne _ _ _ h2]; exact h.1 q h1 h2 h3, fun q hq => by rw [stm_row, upd_ne _ _ hq, stm_ne _ _ _ (by decide), stm_ne _ _ _ (by decide)]; exact h.2 q hq⟩
def RepR (σ0 : Mem) (a b : Nat) (Q : List (Nat × Nat)) (σ : Mem) : Prop := RepR0 a b Q σ ∧ Fr9 σ0 σ
theorem RepR_push {σ0 : Mem} {a b : Nat} {Q : List (Nat × Nat)} {σ : Mem} (h : RepR σ0 a b Q σ) (c d : Nat) : RepR σ0 a b (Q ++ [(c, d)]) (stm (stm (stm σ 103 Q.length (nI d)) 104 Q.length (nI (enc a b c))) 91 23 (nI (Q.length + 1))) := ⟨RepR0_push h.1 c d, Fr9_push h.2 _ _ _ _ _⟩
theorem resQ_hit {Q : List (Nat × Nat)} (hn : (Q.map Prod.fst).Nodup) {k w d : Nat} (h : Q[k]? = some (w, d)) : resQ Q w = nI d := by
  unfold resQ
  cases hf : Q.find? (fun r => r.1 == w) with
  | none => exact absurd (List.find?_eq_none.mp hf (w, d) (List.mem_of_getElem? h)) (by simp)
  | some p =>
    have h1 : p.1 = w := by simpa using List.find?_some hf
    obtain ⟨j, hj⟩ := List.getElem?_of_mem (List.mem_of_find?_eq_some hf)
    have hjl := (List.getElem?_eq_some_iff.mp hj).1
    have hkl := (List.getElem?_eq_some_iff.mp h).1
    have e : j = k := by
      have a1 : (Q.map Prod.fst)[j]? = some w := by rw [List.getElem?_map, hj]; simp [h1]
      have a2 : (Q.map Prod.fst)[k]? = some w := by rw [List.getElem?_map, h]; rfl
      exact (List.getElem?_inj (by simpa using hjl) hn).mp (a1.trans a2.symm)
    rw [e, h] at hj
    rw [← Option.some.inj hj]
theorem resQ_miss {Q : List (Nat × Nat)} {w : Nat} (h : w ∉ Q.map Prod.fst) : resQ Q w = -4 := by
  unfold resQ
  cases hf : Q.find? (fun r => r.1 == w) with
  | none => rfl
  | some p =>
    have h1 : p.1 = w := by simpa using List.find?_some hf
    exact absurd (List.mem_map.mpr ⟨p, List.mem_of_find?_eq_some hf, h1⟩) h
