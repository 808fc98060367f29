/-! more rows: indices as naturals, switches, tops -/
theorem sw_in {x : Int32} {lo : Int} {n : Nat} : (x.toInt < lo ∨ lo + n - 1 < x.toInt) ∨ ∃ j : Nat, j < n ∧ x.toInt = lo + j := by
  by_cases h : x.toInt < lo ∨ lo + n - 1 < x.toInt
  · exact Or.inl h
  · exact Or.inr ⟨(x.toInt - lo).toNat, by omega, by omega⟩
theorem sw_eq {x v : Int32} {lo : Int} {j : Nat} (h : x.toInt = lo + j) (hv : v.toInt = lo + j) : x = v := Int32.toInt_inj.mp (h.trans hv.symm)
theorem sw_ne {x v : Int32} {lo : Int} {n : Nat} (h : x.toInt < lo ∨ lo + n - 1 < x.toInt) (hv : lo ≤ v.toInt ∧ v.toInt ≤ lo + n - 1) : ¬ x = v := fun e => by subst e; omega
theorem kdlt : ∀ i, i < 106 → (kd i).2 < 2 ^ 31 := by decide +kernel
section FR
variable {p : Program} {l : Launch} {e : Env} {R : Room} {s : State} {m : MethodId} {args : Array Value} {below : List Frame} {meth : Method} {c : Code} {H : Heap} {locs : List Loc} {cells slots : Nat} {Q : State → Prop}
variable {cc : ByteArray} {pc nL : Nat} {ls : Array Slot} {rest : List Value} {D : va_G} {cA : Nat → ClassId} {ad : Nat → Nat} {A : Nat → Prop} {σ : Mem} {o : Int64} {own : String}
theorem lv_topE {x y : Int32} (h : x = y) (kk : W p l e R s m args below meth c H locs cells slots Q (F0 m pc ls (.int y :: rest))) : W p l e R s m args below meth c H locs cells slots Q (F0 m pc ls (.int x :: rest)) := h ▸ kk
theorem r_ialdN (C0 : CX p s m args c cc nL own) (X : WX D cA ad A s) (hP : WP D cA ad o σ H) (i : Nat) {n k : Nat} (hk : i < 106 ∧ kd i = (9, n)) {j : Int32} (hj : j = nI k) (hkn : k < n) (hdg : decode cc pc = .ok (.iaload, 1))
    (kk : W p l e R s m args below meth c H locs cells slots Q (F0 m (pc + 1) ls (.int (σ i k) :: rest))) : W p l e R s m args below meth c H locs cells slots Q (F0 m pc ls (.int j :: .ref (ad i) :: rest)) := by
  have hn : n < 2 ^ 31 := by have := kdlt i hk.1; rw [hk.2] at this; exact this
  subst hj
  refine r_iald C0 X hP i hk.1 hk.2 (vp_in_nI hkn hn) hdg ?_
  rw [nI_clamp (by omega)]
  exact kk
theorem r_iastN (C0 : CX p s m args c cc nL own) (X : WX D cA ad A s) (hP : WP D cA ad o σ H) (hS : va_S A s.heap H locs) (i : Nat) {n k : Nat} (hk : i < 106 ∧ kd i = (9, n)) {j x : Int32} (hj : j = nI k) (hkn : k < n) (hdg : decode cc pc = .ok (.iastore, 1))
    (kk : ∀ (H1 : Heap) (locs1 : List Loc), WP D cA ad o (stm σ i k x) H1 → va_S A s.heap H1 locs1 → W p l e R s m args below meth c H1 locs1 cells slots Q (F0 m (pc + 1) ls rest)) : W p l e R s m args below meth c H locs cells slots Q (F0 m pc ls (.int x :: .int j :: .ref (ad i) :: rest)) := by
  have hn : n < 2 ^ 31 := by have := kdlt i hk.1; rw [hk.2] at this; exact this
  subst hj
  refine r_iast C0 X hP hS i hk.1 hk.2 (vp_in_nI hkn hn) hdg (fun H1 locs1 hP1 hS1 => kk H1 locs1 ?_ hS1)
  rw [nI_clamp (by omega)] at hP1
  exact hP1
theorem r_aaldCN (C0 : CX p s m args c cc nL own) (X : WX D cA ad A s) (hP : WP D cA ad o σ H) (i : Nat) {n q k : Nat} (hk : i < 106 ∧ kd i = (10, n)) {j : Int32} (hj : j = nI k) (hkn : k < n) (hl : lk i k = some q) (hdg : decode cc pc = .ok (.aaload, 1))
    (kk : W p l e R s m args below meth c H locs cells slots Q (F0 m (pc + 1) ls (.ref (ad q) :: rest))) : W p l e R s m args below meth c H locs cells slots Q (F0 m pc ls (.int j :: .ref (ad i) :: rest)) := by
  have hn : n < 2 ^ 31 := by have := kdlt i hk.1; rw [hk.2] at this; exact this
  subst hj
  exact r_aaldC C0 X hP i hk.1 hk.2 (vp_in_nI hkn hn) (by rw [nI_clamp (by omega)]; exact hl) hdg kk
theorem r_aaldSN (C0 : CX p s m args c cc nL own) (X : WX D cA ad A s) (hP : WP D cA ad o σ H) (i : Nat) {n q k : Nat} (hk : i < 106 ∧ kd i = (11, n)) {j : Int32} (hj : j = nI k) (hkn : k < n) (hl : lk i k = some q) (hdg : decode cc pc = .ok (.aaload, 1))
    (kk : W p l e R s m args below meth c H locs cells slots Q (F0 m (pc + 1) ls (.ref (ad q) :: rest))) : W p l e R s m args below meth c H locs cells slots Q (F0 m pc ls (.int j :: .ref (ad i) :: rest)) := by
  have hn : n < 2 ^ 31 := by have := kdlt i hk.1; rw [hk.2] at this; exact this
  subst hj
  exact r_aaldS C0 X hP i hk.1 hk.2 (vp_in_nI hkn hn) (by rw [nI_clamp (by omega)]; exact hl) hdg kk
theorem r_lret {post : Int64 → Mem → Prop} {v : Int64} (C0 : CX p s m args c cc nL own) (X : WX D cA ad A s) (hP : WP D cA ad o σ H) (hS : va_S A s.heap H locs) (hr : meth.sig.returnType = some .long) (hlk : meth.locks = false) (hdg : decode cc pc = .ok (.lreturn, 1)) (hpost : post v σ) : W p l e R s m args below meth c H locs cells slots (MQ below (va_Ql post (QW D cA ad o) A) args s cells slots A) (F0 m pc ls [.long v]) :=
  W.lret C0.1 C0.2.1 hr (fun t ht hW => ⟨⟨v, σ, rfl, hpost, by rw [ht]; exact hP, va_K.moved hW.alike X.1⟩, hS.F ht⟩) hS.2.2 hdg hlk
end FR
theorem ixN {x : Int32} {M : Int32} {n : Nat} (hM : M.toInt = n) (h : ¬ x < 0) (h2 : x < M) : ∃ j : Nat, j < n ∧ x = nI j := by
  have h1 : 0 ≤ x.toInt := by
    have := Int32.not_lt.mp h
    exact Int32.le_iff_toInt_le.mp this
  have h3 : x.toInt < n := by rw [← hM]; exact Int32.lt_iff_toInt_lt.mp h2
  refine ⟨x.toInt.toNat, by omega, ?_⟩
  apply Int32.toInt_inj.mp
  have h5 := Int32.toInt_lt x
  rw [nI_toInt (by omega)]
  omega
theorem ix8 {x : Int32} (h : ¬ x < 0) (h2 : x < 8) : ∃ j : Nat, j < 8 ∧ x = nI j := ixN (by decide) h h2
