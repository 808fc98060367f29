/-! copies of rows, resets: what they do to a memory -/
theorem mem_cast {D : va_G} {cA : Nat → ClassId} {ad : Nat → Nat} {o : Int64} {σ σ' : Mem} {H : Heap} (h : σ = σ') (hP : WP D cA ad o σ H) : WP D cA ad o σ' H := h ▸ hP
/-- places dp .. dp + n - 1 of row d become those of row s from sp on -/
def cpm (σ : Mem) (s sp d dp n : Nat) : Mem := fun a => if a = d then va_cpy (σ s) (σ d) sp dp n else σ a
/-- the first n places of row d become those of row s -/
def rcpy (σ : Mem) (d s n : Nat) : Mem := fun a => if a = d then (fun b => if b < n then σ s b else σ d b) else σ a
theorem cpm0 (σ : Mem) (s d n : Nat) : cpm σ s 0 d 0 n = rcpy σ d s n := by
  funext a
  by_cases h : a = d
  · funext b
    by_cases h2 : b < n <;> simp [cpm, rcpy, h, va_cpy, h2]
  · simp [cpm, rcpy, h]
def rbeg (r : Nat → Int32) : Nat → Int32 := fun b => if b = 6 then -2 else if 7 ≤ b ∧ b ≤ 11 then 0 else r b
def cbeg (σ : Mem) (i : Nat) : Mem := fun a => if a = i then rbeg (σ i) else σ a
theorem cbeg_eq (σ : Mem) (i : Nat) : stm (stm (stm (stm (stm (stm σ i 6 (-2)) i 7 0) i 8 0) i 9 0) i 10 0) i 11 0 = cbeg σ i := by
  funext a
  by_cases h : a = i
  · subst h
    funext b
    simp only [stm, cbeg, rbeg, upd, if_true]
    by_cases h1 : b = 11
    · simp [h1]
    by_cases h2 : b = 10
    · simp [h2]
    by_cases h3 : b = 9
    · simp [h3]
    by_cases h4 : b = 8
    · simp [h4]
    by_cases h5 : b = 7
    · simp [h5]
    have h6 : ¬ (7 ≤ b ∧ b ≤ 11) := by omega
    simp [h1, h2, h3, h4, h5, h6]
  · simp [stm, cbeg, h]
def tbegK (σ : Mem) (t k : Nat) : Mem := fun a => if 22 * t + 15 ≤ a ∧ a < 22 * t + 15 + k then rbeg (σ a) else σ a
theorem tbegK_0 (σ : Mem) (t : Nat) : σ = tbegK σ t 0 := by
  funext a
  have h : ¬ (22 * t + 15 ≤ a ∧ a < 22 * t + 15 + 0) := by omega
  simp only [tbegK, if_neg h]
theorem tbegK_s (σ : Mem) (t k : Nat) : cbeg (tbegK σ t k) (22 * t + 15 + k) = tbegK σ t (k + 1) := by
  funext a
  by_cases h : a = 22 * t + 15 + k
  · have h1 : 22 * t + 15 ≤ a ∧ a < 22 * t + 15 + (k + 1) := by omega
    have h2 : ¬ (22 * t + 15 ≤ a ∧ a < 22 * t + 15 + k) := by omega
    subst h
    simp only [cbeg, tbegK, if_true, if_pos h1, if_neg h2]
  · by_cases h1 : 22 * t + 15 ≤ a ∧ a < 22 * t + 15 + k
    · have h2 : 22 * t + 15 ≤ a ∧ a < 22 * t + 15 + (k + 1) := by omega
      simp only [cbeg, tbegK, if_neg h, if_pos h1, if_pos h2]
    · have h2 : ¬ (22 * t + 15 ≤ a ∧ a < 22 * t + 15 + (k + 1)) := by omega
      simp only [cbeg, tbegK, if_neg h, if_neg h1, if_neg h2]
/-- the first k places of row i are 0 -/
def rz (σ : Mem) (i k : Nat) : Mem := fun a => if a = i then (fun b => if b < k then 0 else σ i b) else σ a
theorem rz_0 (σ : Mem) (i : Nat) : σ = rz σ i 0 := by
  funext a
  by_cases h : a = i
  · subst h
    simp [rz]
  · simp [rz, h]
theorem rz_s (σ : Mem) (i k : Nat) : stm (rz σ i k) i k 0 = rz σ i (k + 1) := by
  funext a
  by_cases h : a = i
  · subst h
    funext b
    by_cases h1 : b = k
    · have h2 : b < k + 1 := by omega
      simp [stm, rz, upd, h1]
    · by_cases h2 : b < k
      · have h3 : b < k + 1 := by omega
        simp [stm, rz, upd, h1, h2, h3]
      · have h3 : ¬ b < k + 1 := by omega
        simp [stm, rz, upd, h1, h2, h3]
  · simp [stm, rz, h]
def tbeg (σ : Mem) (t : Nat) : Mem := stm (stm (stm (rz (tbegK σ t 7) (22 * t + 14) 73) (22 * t) 3 0) (22 * t) 4 0) (22 * t) 5 0
/-- as many copies of one row's first places as a row's fields: Cart.copyFrom -/
theorem cart_cpy (σ : Mem) {d s : Nat} (h : s ≠ d) : stm (stm (stm (stm (stm (stm (stm (stm (stm (stm (stm (stm σ d 0 (σ s 0)) d 1 (σ s 1)) d 2 (σ s 2)) d 3 (σ s 3)) d 4 (σ s 4)) d 5 (σ s 5)) d 6 (σ s 6)) d 7 (σ s 7)) d 8 (σ s 8)) d 9 (σ s 9)) d 10 (σ s 10)) d 11 (σ s 11) = rcpy σ d s 12 := by
  funext a
  by_cases hd : a = d
  · subst hd
    funext b
    simp only [stm, rcpy, upd, if_true]
    by_cases hb : b < 12
    · rcases (show b = 0 ∨ b = 1 ∨ b = 2 ∨ b = 3 ∨ b = 4 ∨ b = 5 ∨ b = 6 ∨ b = 7 ∨ b = 8 ∨ b = 9 ∨ b = 10 ∨ b = 11 by omega) with rfl | rfl | rfl | rfl | rfl | rfl | rfl | rfl | rfl | rfl | rfl | rfl <;> simp
    · have h0 : ∀ k, k < 12 → ¬ b = k := fun k hk => by omega
      simp [h0, hb]
  · simp [stm, rcpy, hd]
section FY
variable {p : Program} {l : Launch} {e : Env} {R : Room} {s : State} {m : MethodId} {args : Array Value} {below : List Frame} {meth : Method} {c : Code} {H : Heap} {locs : List Loc} {cells slots : Nat} {Q : State → Prop}
variable {cc : ByteArray} {pc nL : Nat} {ls : Array Slot} {rest : List Value} {D : va_G} {cA : Nat → ClassId} {ad : Nat → Nat} {A : Nat → Prop} {σ : Mem} {o : Int64} {own : String}
theorem r_copy (C0 : CX p s m args c cc nL own) (X : WX D cA ad A s) (hP : WP D cA ad o σ H) (hS : va_S A s.heap H locs) {index : Nat} (hlink : Cond.methodLink own index arraycopyName ∈ tbg) (hsz : ls.size = nL) (i j : Nat) {n0 n1 sp dp n : Nat} (hi : i < 106 ∧ kd i = (9, n0)) (hj : j < 106 ∧ kd j = (9, n1)) {xs xd xn : Int32} (h1 : xs = nI sp) (h2 : xd = nI dp) (h3 : xn = nI n) (h4 : sp + n ≤ n0) (h5 : dp + n ≤ n1) (hframes : 1 ≤ R.frames) (hlocals : (rest.map fun v => v.category).sum + (nativeFrameWords "java/lang/System" "arraycopy" 5 + 11) ≤ R.locals) (hdg : decode cc pc = .ok (.invokestatic index, 3))
    (kk : ∀ (H1 : Heap) (locs1 : List Loc), WP D cA ad o (cpm σ i sp j dp n) H1 → va_S A s.heap H1 locs1 → W p l e R s m args below meth c H1 locs1 cells slots Q (F0 m (pc + 3) ls rest)) : W p l e R s m args below meth c H locs cells slots Q (F0 m pc ls (.int xn :: .int xd :: .ref (ad j) :: .int xs :: .ref (ad i) :: rest)) := by
  have a0 : n0 < 2 ^ 31 := by have := kdlt i hi.1; rw [hi.2] at this; exact this
  have a1 : n1 < 2 ^ 31 := by have := kdlt j hj.1; rw [hj.2] at this; exact this
  obtain ⟨hx, hb, hml, hown, hts⟩ := C0
  subst h1; subst h2; subst h3
  refine va_copyi hx hb (by rw [hml, hsz]) hown (hts _ hlink) (hts _ (tmc sb2 124 (by decide +kernel) (by decide +kernel))) (hts _ (tmc sb2 123 (by decide +kernel) (by decide +kernel))) (hts _ (tmc sb1 10 (by decide +kernel) (by decide +kernel))) X.1 hP (WX_D X o σ) hS i j 0 0 (c0 := cA 0) (c1 := cA 0) (n0 := n0) (n1 := n1) (f := σ i) (g := σ j) (ty := .int) (by rw [wl_get cA ad o σ hi.1, cel_arr hi.2]) (by rw [wl_get cA ad o σ hj.1, cel_arr hj.2]) rfl rfl rfl (nI_pos (by omega)) (nI_pos (by omega)) (nI_pos (by omega)) (by rw [nI_clamp (by omega), nI_clamp (by omega)]; exact h4) (by rw [nI_clamp (by omega), nI_clamp (by omega)]; exact h5) (fun _ _ => rfl) hframes hlocals hdg (fun H1 locs1 hP1 _ hS1 => kk H1 locs1 ?_ hS1)
  rw [nI_clamp (by omega), nI_clamp (by omega), nI_clamp (by omega), ← cel_arr (cA := cA) (ad := ad) (o := o) hj.2, wl_set] at hP1
  exact hP1
theorem fits_lk : Cond.methodLink "WhoBacks$Road" 52 arraycopyName ∈ tbg := tmc sb2 122 (by decide +kernel) (by decide +kernel)
theorem lkTr58 : Cond.methodLink "WhoBacks$Traffic" 58 arraycopyName ∈ tbg := tmc sb2 129 (by decide +kernel) (by decide +kernel)
theorem lkWh310 : Cond.methodLink "WhoBacks" 310 arraycopyName ∈ tbg := tmc sb4 113 (by decide +kernel) (by decide +kernel)
end FY
theorem nosh {j : Nat} (h : j < 8) : ¬ (nI j < 0 ∨ 8 ≤ nI j) := by
  intro q
  rcases q with q | q
  · exact nI_pos (by omega) q
  · exact nI_ge (a := j) (b := 8) h (by decide) q
theorem nI_ltof {k b : Nat} (h : ¬ nI b ≤ nI k) (hk : k < 2 ^ 31) : k < b := by
  rcases Nat.lt_or_ge k b with q | q
  · exact q
  · exact absurd (nI_le q hk) h
theorem nI_geof {k b : Nat} (h : nI b ≤ nI k) (hk : k ≤ b) (hb : b < 2 ^ 31) : k = b := by
  rcases Nat.lt_or_ge k b with q | q
  · exact absurd h (nI_ge q hb)
  · omega
