/-! THE SEARCH, pure: the queue behind i processed states -/
def procQ (a b q x z : Nat) (Q : List (Nat × Nat)) (i : Nat) : List (Nat × Nat) := match Q[i]? with
  | none => Q
  | some p => foldQ Q (nbrL a b q x z (p.1 / 128) (p.1 % 128)) (p.2 + 1)
def stC (a b : Nat) : Nat := a * 128 + (2 ^ (a + b + 1) - 2 ^ b)
def wtC (a b : Nat) : Nat := b * 128 + (2 ^ (a + b) + 2 ^ a - 1)
def QB (a b q x z : Nat) : Nat → List (Nat × Nat)
  | 0 => [(stC a b, 0)]
  | i + 1 => procQ a b q x z (QB a b q x z i) i
def resQ (Q : List (Nat × Nat)) (w : Nat) : Int32 := match Q.find? (fun p => p.1 == w) with
  | some p => nI p.2
  | none => -4
def RWn (a b q x z : Nat) : Int32 := resQ (QB a b q x z 900) (wtC a b)
theorem pushQ_pre (Q : List (Nat × Nat)) (c d : Nat) : ∃ R, pushQ Q c d = Q ++ R := by
  unfold pushQ
  split
  · exact ⟨[], by simp⟩
  · exact ⟨[(c, d)], rfl⟩
theorem foldQ_pre (cs : List Nat) (d : Nat) : ∀ Q : List (Nat × Nat), ∃ R, foldQ Q cs d = Q ++ R := by
  induction cs with
  | nil => intro Q; exact ⟨[], by simp [foldQ]⟩
  | cons c r ih =>
    intro Q
    obtain ⟨R1, h1⟩ := pushQ_pre Q c d
    obtain ⟨R2, h2⟩ := ih (pushQ Q c d)
    exact ⟨R1 ++ R2, by rw [show foldQ Q (c :: r) d = foldQ (pushQ Q c d) r d from rfl, h2, h1, List.append_assoc]⟩
theorem procQ_pre (a b q x z : Nat) (Q : List (Nat × Nat)) (i : Nat) : ∃ R, procQ a b q x z Q i = Q ++ R := by
  unfold procQ
  split
  · exact ⟨[], by simp⟩
  · exact foldQ_pre _ _ _
theorem QB_pre (a b q x z i : Nat) : ∀ k, ∃ R, QB a b q x z (i + k) = QB a b q x z i ++ R := by
  intro k
  induction k with
  | zero => exact ⟨[], by simp⟩
  | succ k ih =>
    obtain ⟨R1, h1⟩ := ih
    obtain ⟨R2, h2⟩ := procQ_pre a b q x z (QB a b q x z (i + k)) (i + k)
    exact ⟨R1 ++ R2, by rw [show QB a b q x z (i + (k + 1)) = procQ a b q x z (QB a b q x z (i + k)) (i + k) from rfl, h2, h1, List.append_assoc]⟩
theorem QB_fix (a b q x z i : Nat) (h : (QB a b q x z i).length ≤ i) : ∀ k, QB a b q x z (i + k) = QB a b q x z i := by
  intro k
  induction k with
  | zero => rfl
  | succ k ih =>
    rw [show QB a b q x z (i + (k + 1)) = procQ a b q x z (QB a b q x z (i + k)) (i + k) from rfl, ih, procQ, List.getElem?_eq_none (by omega)]
theorem resQ_app {Q : List (Nat × Nat)} {w : Nat} (R : List (Nat × Nat)) (h : w ∈ Q.map Prod.fst) : resQ (Q ++ R) w = resQ Q w := by
  unfold resQ
  rw [List.find?_append]
  obtain ⟨p, hp, rfl⟩ := List.mem_map.mp h
  cases hf : Q.find? (fun r => r.1 == p.1) with
  | none => exact absurd (List.find?_eq_none.mp hf p hp) (by simp)
  | some r => rfl
/-- where the search stops, its answer is the last one -/
theorem RWn_at {a b q x z i : Nat} (hi : i ≤ 900) (h : (QB a b q x z i).length ≤ i ∨ wtC a b ∈ (QB a b q x z i).map Prod.fst) : resQ (QB a b q x z i) (wtC a b) = RWn a b q x z := by
  unfold RWn
  obtain ⟨k, hk⟩ : ∃ k, 900 = i + k := ⟨900 - i, by omega⟩
  rw [hk]
  rcases h with h | h
  · rw [QB_fix a b q x z i h]
  · obtain ⟨R, hR⟩ := QB_pre a b q x z i k
    rw [hR, resQ_app R h]
theorem resQ_rep {Q : List (Nat × Nat)} {σ : Mem} (h : RepC Q σ) {w : Nat} (hw : w < 896) : σ 89 w = resQ Q w := by
  unfold resQ
  cases hf : Q.find? (fun r => r.1 == w) with
  | none =>
    refine h.2.2.2 w hw (fun hm => ?_)
    obtain ⟨p, hp, e⟩ := List.mem_map.mp hm
    exact absurd (List.find?_eq_none.mp hf p hp) (by simp [e])
  | some p =>
    have h1 : p.1 = w := by simpa using List.find?_some hf
    obtain ⟨k, hk⟩ := List.getElem?_of_mem (List.mem_of_find?_eq_some hf)
    have h2 := h.2.2.1 k p.1 p.2 hk
    rw [← h1]
    exact h2.2.1
/-- a code of so many carts of each kind at most -/
def vcd (a b c : Nat) : Prop := c < 896 ∧ c / 128 ≤ Nat.log2 (c % 128) ∧ 1 ≤ c % 128 ∧ pcN (c % 128) - 1 ≤ a ∧ Nat.log2 (c % 128) - (pcN (c % 128) - 1) ≤ b
theorem vcd_mk {a b br ln : Nat} (h7 : br < 7) (hl : ln < 128) (h1 : br ≤ Nat.log2 ln) (h2 : 1 ≤ ln) (h3 : pcN ln - 1 ≤ a) (h4 : Nat.log2 ln - (pcN ln - 1) ≤ b) : vcd a b (br * 128 + ln) := by
  have e1 : (br * 128 + ln) / 128 = br := by omega
  have e2 : (br * 128 + ln) % 128 = ln := by omega
  unfold vcd
  rw [e1, e2]
  exact ⟨by omega, h1, h2, h3, h4⟩
theorem nbr_ok {a b q x z br ln : Nat} (ha : a ≤ 3) (hb : b ≤ 3) (hx : x ≤ 6) (hbl : br ≤ Nat.log2 ln) (hln : ln < 128) (hl1 : 1 ≤ ln) (hv1 : pcN ln - 1 ≤ a) (hv2 : Nat.log2 ln - (pcN ln - 1) ≤ b) : ∀ c ∈ nbrL a b q x z br ln, vcd a b c := by
  have h7 := ln_lt ln hln
  have hpc := ln_f1 ln hln hl1
  intro c hc
  have cbs : ∀ t, t < 2 → (t = 1 → pcN ln - 1 < a) → (t = 0 → Nat.log2 ln - (pcN ln - 1) < b) → c ∈ cb1 x br ln t ++ cb2 z br ln t → vcd a b c := by
    intro t ht h1 h0 hm
    have h6 : Nat.log2 ln < 6 := by
      rcases (show t = 0 ∨ t = 1 by omega) with e | e
      · have := h0 e; omega
      · have := h1 e; omega
    have f := ln_f3 ln hln (Nat.log2 ln - br) (by omega) t ht ⟨hl1, by omega, h6⟩
    have g1 : pcN (lgN ln (Nat.log2 ln - br) t) - 1 ≤ a := by
      rw [f.2.2.2]
      rcases (show t = 0 ∨ t = 1 by omega) with e | e
      · omega
      · have := h1 e; omega
    have g2 : Nat.log2 (lgN ln (Nat.log2 ln - br) t) - (pcN (lgN ln (Nat.log2 ln - br) t) - 1) ≤ b := by
      rw [f.2.2.2, f.2.2.1]
      rcases (show t = 0 ∨ t = 1 by omega) with e | e
      · have := h0 e; omega
      · omega
    rcases List.mem_append.mp hm with hm | hm
    · unfold cb1 at hm
      split at hm
      · rw [List.mem_singleton.mp hm]
        exact vcd_mk (by omega) f.1 (by rw [f.2.2.1]; omega) f.2.1 g1 g2
      · exact absurd hm List.not_mem_nil
    · unfold cb2 at hm
      split at hm
      · rw [List.mem_singleton.mp hm]
        exact vcd_mk (by omega) f.1 (by rw [f.2.2.1]; omega) f.2.1 g1 g2
      · exact absurd hm List.not_mem_nil
  unfold nbrL at hc
  simp only [List.mem_append] at hc
  rcases hc with ((((hm | hm) | hm) | hm) | hm) | hm
  · unfold mm1 at hm
    split at hm
    · rw [List.mem_singleton.mp hm]
      exact vcd_mk (by omega) hln (by omega) hl1 hv1 hv2
    · exact absurd hm List.not_mem_nil
  · unfold mm2 at hm
    split at hm
    · rw [List.mem_singleton.mp hm]
      exact vcd_mk (by omega) hln (by omega) hl1 hv1 hv2
    · exact absurd hm List.not_mem_nil
  · unfold mm3 at hm
    split at hm
    · rename_i h
      rw [List.mem_singleton.mp hm]
      have f := ln_f2 ln hln (Nat.log2 ln - br) (by omega) (by omega)
      have f4 := ln_f4 ln hln (Nat.log2 ln - br) (by omega) (by omega)
      exact vcd_mk (by omega) f.1 (by rw [f.2.2.1]; omega) f.2.1 (by omega) (by rw [f.2.2.1]; omega)
    · exact absurd hm List.not_mem_nil
  · unfold mm4 at hm
    split at hm
    · rename_i h
      rw [List.mem_singleton.mp hm]
      have f := ln_f2 ln hln (Nat.log2 ln - br - 1) (by omega) (by omega)
      have f4 := ln_f4 ln hln (Nat.log2 ln - br - 1) (by omega) (by omega)
      exact vcd_mk (by omega) f.1 (by rw [f.2.2.1]; omega) f.2.1 (by omega) (by rw [f.2.2.1]; omega)
    · exact absurd hm List.not_mem_nil
  · unfold mm5 at hm
    split at hm
    · rename_i h
      exact cbs 1 (by decide) (fun _ => h) (fun e => absurd e (by decide)) (List.mem_append.mpr (List.mem_append.mp hm))
    · exact absurd hm List.not_mem_nil
  · unfold mm6 at hm
    split at hm
    · rename_i h
      exact cbs 0 (by decide) (fun e => absurd e (by decide)) (fun _ => h) (List.mem_append.mpr (List.mem_append.mp hm))
    · exact absurd hm List.not_mem_nil
