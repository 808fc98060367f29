/-! methods as functions of memories: the pieces -/
def FU : Nat := 2000
def ix (n : Nat) (x : Int32) : Option Nat := if 0 ≤ x.toInt ∧ x.toInt < n then some x.toInt.toNat else none
def ck {α : Type} (c : Prop) [Decidable c] (f : Option α) : Option α := if c then f else none
def bd2 {α β γ : Type} (x : Option (α × β)) (f : α → β → Option γ) : Option γ := x.bind (fun q => f q.1 q.2)
def lm {α β : Type} (x : α) (f : α → Option β) : Option β := f x
theorem lmp {α β : Type} {x : α} {f : α → Option β} {r : β} (h : lm x f = some r) : ∃ v, v = x ∧ f v = some r := ⟨x, rfl, h⟩
theorem bnd {α β : Type} {x : Option α} {f : α → Option β} {r : β} (h : x.bind f = some r) : ∃ v, x = some v ∧ f v = some r := Option.bind_eq_some_iff.mp h
theorem bnd2 {α β γ : Type} {x : Option (α × β)} {f : α → β → Option γ} {r : γ} (h : bd2 x f = some r) : ∃ a b, x = some (a, b) ∧ f a b = some r := by
  obtain ⟨⟨a, b⟩, h1, h2⟩ := Option.bind_eq_some_iff.mp h
  exact ⟨a, b, h1, h2⟩
theorem it_t {α : Type} {c : Prop} [Decidable c] {a b : Option α} {r : α} (h : (if c then a else b) = some r) (hc : c) : a = some r := by rw [if_pos hc] at h; exact h
theorem it_f {α : Type} {c : Prop} [Decidable c] {a b : Option α} {r : α} (h : (if c then a else b) = some r) (hc : ¬ c) : b = some r := by rw [if_neg hc] at h; exact h
theorem ckp {α : Type} {c : Prop} [Decidable c] {f : Option α} {r : α} (h : ck c f = some r) : c ∧ f = some r := by
  unfold ck at h
  by_cases hc : c
  · exact ⟨hc, it_t h hc⟩
  · rw [if_neg hc] at h; exact absurd h nofun
theorem rt2 {α β : Type} {a : α} {b : β} {r : α × β} (h : some (a, b) = some r) : b = r.2 ∧ a = r.1 := by rw [← Option.some.inj h]; exact ⟨rfl, rfl⟩
theorem ix_s {n k : Nat} {x : Int32} (h : ix n x = some k) (hn : n < 2 ^ 31) : x = nI k ∧ k < n := by
  unfold ix at h
  by_cases hc : 0 ≤ x.toInt ∧ x.toInt < n
  · rw [if_pos hc] at h
    have := Option.some.inj h
    refine ⟨Int32.toInt_inj.mp ?_, by omega⟩
    rw [nI_toInt (by omega)]
    omega
  · rw [if_neg hc] at h; exact absurd h nofun
theorem nI_inj {a b : Nat} (h : nI a = nI b) (ha : a < 2 ^ 31) (hb : b < 2 ^ 31) : a = b := by
  have := congrArg Int32.toInt h
  rw [nI_toInt ha, nI_toInt hb] at this
  omega
theorem ix_nI {n k : Nat} (h : k < n) (hn : n ≤ 2 ^ 31) : ix n (nI k) = some k := by
  unfold ix
  rw [nI_toInt (by omega), if_pos (by omega)]
  simp
theorem inn {a lo hi : Int32} (h : lo ≤ a ∧ a ≤ hi) : ¬ (a < lo ∨ hi < a) := fun q => q.elim (fun q => absurd h.1 (Int32.not_le.mpr q)) (fun q => absurd h.2 (Int32.not_le.mpr q))
theorem nocart {x c : Int32} {j : Nat} (h : x = nI j) (hj : j < 7) (hc : x < c) : ¬ (x < 0 ∨ c ≤ x ∨ 7 ≤ x) := by
  intro q
  rcases q with q | q | q
  · rw [h] at q; exact nI_pos (by omega) q
  · exact absurd q (Int32.not_le.mpr hc)
  · rw [h] at q; exact nI_ge (a := j) (b := 7) hj (by decide) q
def tx (σ : Mem) : Option Nat := if 68 ≤ (σ 85 0).toInt ∧ (σ 85 0).toInt < 76 then some ((σ 85 0).toInt - 68).toNat else none
theorem tx_s {σ : Mem} {d : Nat} (h : tx σ = some d) : σ 85 0 = nI (68 + d) ∧ d < 8 := by
  unfold tx at h
  by_cases hc : 68 ≤ (σ 85 0).toInt ∧ (σ 85 0).toInt < 76
  · rw [if_pos hc] at h
    have := Option.some.inj h
    refine ⟨Int32.toInt_inj.mp ?_, by omega⟩
    rw [nI_toInt (by omega)]
    omega
  · rw [if_neg hc] at h; exact absurd h nofun
abbrev cb01 (σ : Mem) (u : Nat) : Prop := ∀ k, k < 7 → ∀ b, b < 12 → (b = 0 ∨ b = 1 ∨ b = 7 ∨ b = 8) → (σ (22 * u + 15 + k) b = 0 ∨ σ (22 * u + 15 + k) b = 1)
theorem cb01_e {σ : Mem} {u : Nat} (h : cb01 σ u) : ∀ k, k < 7 → ∀ b, b = 0 ∨ b = 1 ∨ b = 7 ∨ b = 8 → (σ (22 * u + 15 + k) b = 0 ∨ σ (22 * u + 15 + k) b = 1) := fun k hk b hb => h k hk b (by omega) hb
theorem i32ne {x : Int32} {v : Int} (h : ¬ x = Int32.ofInt v) (hv : -2 ^ 31 ≤ v ∧ v < 2 ^ 31 := by decide) : ¬ x.toInt = v := fun q => h (by apply Int32.toInt_inj.mp; rw [q, Int32.toInt_ofInt_of_le (by omega) (by omega)])
abbrev cpok (sp dp n : Int32) (a b : Nat) : Prop := 0 ≤ sp.toInt ∧ 0 ≤ dp.toInt ∧ 0 ≤ n.toInt ∧ sp.toInt + n.toInt ≤ a ∧ dp.toInt + n.toInt ≤ b
theorem clamp_nI {x : Int32} (h : 0 ≤ x.toInt) : x = nI x.toNatClampNeg := by
  apply Int32.toInt_inj.mp
  have := Int32.toInt_lt x
  have h2 : x.toNatClampNeg = x.toInt.toNat := rfl
  rw [nI_toInt (by omega)]
  omega
section FZ
variable {p : Program} {l : Launch} {e : Env} {R : Room} {s : State} {m : MethodId} {args : Array Value} {below : List Frame} {meth : Method} {c : Code} {H : Heap} {locs : List Loc} {cells slots : Nat} {Q : State → Prop}
variable {cc : ByteArray} {pc nL : Nat} {ls : Array Slot} {rest : List Value} {D : va_G} {cA : Nat → ClassId} {ad : Nat → Nat} {A : Nat → Prop} {σ : Mem} {o : Int64} {own : String}
theorem r_copyF (C0 : CX p s m args c cc nL own) (X : WX D cA ad A s) (hP : WP D cA ad o σ H) (hS : va_S A s.heap H locs) {index : Nat} (hlink : Cond.methodLink own index arraycopyName ∈ tbg) (hsz : ls.size = nL) (i j : Nat) {n0 n1 : Nat} (hi : i < 106 ∧ kd i = (9, n0)) (hj : j < 106 ∧ kd j = (9, n1)) {xs xd xn : Int32} (hq : cpok xs xd xn n0 n1) (hframes : 1 ≤ R.frames) (hlocals : (rest.map fun v => v.category).sum + (nativeFrameWords "java/lang/System" "arraycopy" 5 + 11) ≤ R.locals) (hdg : decode cc pc = .ok (.invokestatic index, 3))
    (kk : ∀ (H1 : Heap) (locs1 : List Loc), WP D cA ad o (cpm σ i xs.toNatClampNeg j xd.toNatClampNeg xn.toNatClampNeg) H1 → va_S A s.heap H1 locs1 → W p l e R s m args below meth c H1 locs1 cells slots Q (F0 m (pc + 3) ls rest)) : W p l e R s m args below meth c H locs cells slots Q (F0 m pc ls (.int xn :: .int xd :: .ref (ad j) :: .int xs :: .ref (ad i) :: rest)) := by
  obtain ⟨h1, h2, h3, h4, h5⟩ := hq
  have e1 : xs.toNatClampNeg = xs.toInt.toNat := rfl
  have e2 : xd.toNatClampNeg = xd.toInt.toNat := rfl
  have e3 : xn.toNatClampNeg = xn.toInt.toNat := rfl
  exact r_copy C0 X hP hS hlink hsz i j hi hj (clamp_nI h1) (clamp_nI h2) (clamp_nI h3) (by omega) (by omega) hframes hlocals hdg kk
theorem r_get85 (C0 : CX p s m args c cc nL RX3) (X : WX D cA ad A s) (hP : WP D cA ad o σ H) {q : Nat} (hq : σ 85 0 = nI q) (hlt : q < 2 ^ 31) (hdg : decode cc pc = .ok (.getfield 12, 3)) (kk : W p l e R s m args below meth c H locs cells slots Q (F0 m (pc + 3) ls (.ref (ad q) :: rest))) : W p l e R s m args below meth c H locs cells slots Q (F0 m pc ls (.ref (ad 85) :: rest)) := r_get C0 X hP 85 0 (by decide) (show kd 85 = (3, 8) from rfl) (by decide) rfl inX3 (by decide) (tmc sb2 20 (by decide +kernel) (by decide +kernel)) (by rw [fv, if_pos ⟨rfl, rfl⟩, hq, nI_clamp hlt]) hdg kk
theorem r_put85 (C0 : CX p s m args c cc nL RX3) (X : WX D cA ad A s) (hP : WP D cA ad o σ H) (hS : va_S A s.heap H locs) {j : Nat} (hlt : j < 2 ^ 31) (hdg : decode cc pc = .ok (.putfield 12, 3))
    (kk : ∀ (H1 : Heap) (locs1 : List Loc), WP D cA ad o (stm σ 85 0 (nI j)) H1 → va_S A s.heap H1 locs1 → W p l e R s m args below meth c H1 locs1 cells slots Q (F0 m (pc + 3) ls rest)) : W p l e R s m args below meth c H locs cells slots Q (F0 m pc ls (.ref (ad j) :: .ref (ad 85) :: rest)) := by
  obtain ⟨hx, hb, hml, hown, hts⟩ := C0
  refine va_put (D := D) (ci := 3) (C := RX3) (T := TX3) (N := 8) (v := .ref (ad j)) (ty := .object "WhoBacks$Shelf") hx hb hts inX3 tyX3 tyX3_ok nmX3 hown X.1 hP (WX_D X o σ) hS 85 (fs := (List.range 8).map (fv ad (σ 85) 85)) ?_ rfl 0 (by decide) (hts _ (tmc sb2 20 (by decide +kernel) (by decide +kernel))) (fun _ h => h) rfl rfl rfl rfl (by simp) hdg (fun H1 locs1 hP1 _ hS1 => kk H1 locs1 ?_ hS1)
  · rw [wl_get cA ad o σ (by decide), cel_obj (ci := 3) (n := 8) rfl (by decide)]
  · rw [fs_setr ad (σ 85) j hlt, ← cel_obj (cA := cA) (o := o) (ci := 3) (n := 8) rfl (by decide), wl_set] at hP1
    exact hP1
end FZ
