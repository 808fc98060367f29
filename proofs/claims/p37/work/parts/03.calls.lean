/-! CONTRACTS AND CALLS over the flat world -/
theorem WY_good {y : MethodName} {cc : ByteArray} {n : Nat} {ret : Option FieldType} (h : Cond.code y cc n ret ∈ tbg) : ∀ w ∈ WY y cc n ret, w ∈ tbg := fun w hw => (List.mem_cons.mp hw).elim (fun q => q ▸ h) id
def LVt (own : String) (index : Nat) (C : String) (y : MethodName) (bytes : ByteArray) (maxL : Nat) (ret : Option FieldType) (n : Nat) : Prop := GoodIn tbg (wsV own index C y (WY y bytes maxL ret)) ∧ (y.cls = C ∧ y.cls ≠ "java/lang/invoke/MethodHandle" ∧ y.cls ≠ "java/lang/invoke/VarHandle" ∧ (parseMethodDescriptor y.desc).map (fun d => d.parameters.length) = some n)
def LSt (own : String) (index : Nat) (y : MethodName) (bytes : ByteArray) (maxL : Nat) (ret : Option FieldType) (n : Nat) : Prop := GoodIn tbg (wsS own index y (WY y bytes maxL ret)) ∧ (y.cls = own ∧ y.cls ≠ "java/lang/invoke/MethodHandle" ∧ y.cls ≠ "java/lang/invoke/VarHandle" ∧ (parseMethodDescriptor y.desc).map (fun d => d.parameters.length) = some n)
theorem mkLVt {own : String} {index : Nat} {C : String} {y : MethodName} {bytes : ByteArray} {maxL : Nat} {ret : Option FieldType} {n : Nat} (h1 : Cond.methodLink own index y ∈ tbg) (h2 : Cond.instanceMethod y ∈ tbg) (h3 : Cond.selects C y y ∈ tbg) (h4 : Cond.initialized C ∈ tbg) (h5 : Cond.code y bytes maxL ret ∈ tbg) (hd : y.cls = C ∧ y.cls ≠ "java/lang/invoke/MethodHandle" ∧ y.cls ≠ "java/lang/invoke/VarHandle" ∧ (parseMethodDescriptor y.desc).map (fun d => d.parameters.length) = some n) : LVt own index C y bytes maxL ret n := by
  refine ⟨tbg_good (fun w hw => ?_), hd⟩
  simp only [wsV, List.cons_append, List.nil_append, List.mem_cons] at hw
  rcases hw with rfl | rfl | rfl | rfl | hw
  · exact h1
  · exact h2
  · exact h3
  · exact h4
  · exact WY_good h5 w hw
theorem mkLSt {own : String} {index : Nat} {y : MethodName} {bytes : ByteArray} {maxL : Nat} {ret : Option FieldType} {n : Nat} (h1 : Cond.methodLink own index y ∈ tbg) (h2 : Cond.static y ∈ tbg) (h4 : Cond.initialized own ∈ tbg) (h5 : Cond.code y bytes maxL ret ∈ tbg) (hd : y.cls = own ∧ y.cls ≠ "java/lang/invoke/MethodHandle" ∧ y.cls ≠ "java/lang/invoke/VarHandle" ∧ (parseMethodDescriptor y.desc).map (fun d => d.parameters.length) = some n) : LSt own index y bytes maxL ret n := by
  refine ⟨tbg_good (fun w hw => ?_), hd⟩
  simp only [wsS, List.cons_append, List.nil_append, List.mem_cons] at hw
  rcases hw with rfl | rfl | rfl | hw
  · exact h1
  · exact h2
  · exact h4
  · exact WY_good h5 w hw
/-- an answer that is a cell of the world, or null -/
def QQ (ad : Nat → Nat) (post : Option Nat → Mem → Prop) : Option Nat → Mem → Prop := fun r u => ∃ x : Option Nat, r = x.map ad ∧ post x u
section FC
variable {p : Program} {l : Launch} {e : Env} {R : Room} {s : State} {m : MethodId} {args : Array Value} {below : List Frame} {meth : Method} {c : Code} {H : Heap} {locs : List Loc} {cells slots : Nat} {Q : State → Prop}
variable {cc : ByteArray} {pc nL : Nat} {ls : Array Slot} {rest st0 : List Value} {D : va_G} {cA : Nat → ClassId} {ad : Nat → Nat} {A : Nat → Prop} {σ : Mem} {o : Int64} {own : String}
theorem ct_of {y : MethodName} {own : String} (ho : y.cls = own) {n k : Nat} {ret : Option FieldType} {As : List Value} {Qf : (Nat → Prop) → Array Value → State → Outcome → State → Prop} (hy : plainName y.cls = true) (hn : (lg_sl As).length ≤ n)
    (body : ∀ (p : Program) (e : Env) (s : State) (m : MethodId) (below : List Frame) (meth : Method) (c : Code) (ls : Array Slot), CX p s m As.toArray c cc n own → WX D cA ad (FA ad s.heap.size) s → meth.sig.returnType = ret → meth.locks = false → WP D cA ad o σ s.heap → lv_has ls n (lv_args 0 As) → W p l e (RM k) s m As.toArray below meth c s.heap [] 0 0 (MQ below (Qf (FA ad s.heap.size)) As.toArray s 0 0 (FA ad s.heap.size)) (F0 m 0 ls [])) (sz : Nat) :
    Met l y (WY y cc n ret) (RM k) (va_Pc As (PW D cA ad o σ sz)) (Qf (FA ad sz)) 0 0 (FA ad sz) := by
  refine Met.ofW (cc := cc) (maxL := n) (ret := ret) hy rfl ?_
  intro p e s m args below meth c s₁ B hml hv
  obtain ⟨rfl, hsz, hP, hK, hinj⟩ := hv
  subst hsz
  have hl := lv_entry As (n := n) hn
  rw [lg_entry_eq]
  generalize (lg_sl As ++ List.replicate (n - (lg_sl As).length) Slot.unset).toArray = ls at hl ⊢
  have hts := atoms_spec (ws := WY y cc n ret) B.pre
  exact body p e s m below meth c ls ⟨B.exec, B.bytes, hml, ho ▸ findClass_of_methodNamed B.named, fun w hw => hts w (List.mem_cons_of_mem _ hw)⟩ ⟨hK, hinj, fun i h => Or.inl ⟨i, h, rfl⟩, fun q h => Or.inr h⟩ B.returns B.notSynchronized hP hl
theorem r_iret {post : Int32 → Mem → Prop} {v : Int32} (C0 : CX p s m args c cc nL own) (X : WX D cA ad A s) (hP : WP D cA ad o σ H) (hS : va_S A s.heap H locs) (hr : meth.sig.returnType = some .int) (hlk : meth.locks = false) (hdg : decode cc pc = .ok (.ireturn, 1)) (hpost : post v σ) : W p l e R s m args below meth c H locs cells slots (MQ below (va_Qi post (QW D cA ad o) A) args s cells slots A) (F0 m pc ls [.int v]) :=
  W.iret C0.1 C0.2.1 hr (fun t ht hW => ⟨⟨v, σ, rfl, hpost, by rw [ht]; exact hP, va_K.moved hW.alike X.1⟩, hS.F ht⟩) hS.2.2 hdg hlk
theorem r_zret {post : Int32 → Mem → Prop} {v : Int32} (C0 : CX p s m args c cc nL own) (X : WX D cA ad A s) (hP : WP D cA ad o σ H) (hS : va_S A s.heap H locs) (hr : meth.sig.returnType = some .boolean) (hlk : meth.locks = false) (hdg : decode cc pc = .ok (.ireturn, 1)) (h01 : v = 0 ∨ v = 1) (hpost : post v σ) : W p l e R s m args below meth c H locs cells slots (MQ below (va_Qi post (QW D cA ad o) A) args s cells slots A) (F0 m pc ls [.int v]) :=
  W.zret C0.1 C0.2.1 hr (by rcases h01 with rfl | rfl <;> rfl) (fun t ht hW => ⟨⟨v, σ, rfl, hpost, by rw [ht]; exact hP, va_K.moved hW.alike X.1⟩, hS.F ht⟩) hS.2.2 hdg hlk
theorem r_vret {post : Mem → Prop} (C0 : CX p s m args c cc nL own) (X : WX D cA ad A s) (hP : WP D cA ad o σ H) (hS : va_S A s.heap H locs) (hr : meth.sig.returnType = none) (hlk : meth.locks = false) (hdg : decode cc pc = .ok (.return_, 1)) (hpost : post σ) : W p l e R s m args below meth c H locs cells slots (MQ below (va_Qv post (QW D cA ad o) A) args s cells slots A) (F0 m pc ls []) :=
  W.vret C0.1 C0.2.1 hr (fun t ht hW => ⟨⟨σ, rfl, hpost, by rw [ht]; exact hP, va_K.moved hW.alike X.1⟩, hS.F ht⟩) hS.2.2 hdg hlk
theorem r_aret {post : Option Nat → Mem → Prop} {q : Nat} {rt : String} (C0 : CX p s m args c cc nL own) (X : WX D cA ad A s) (hP : WP D cA ad o σ H) (hS : va_S A s.heap H locs) (hr : meth.sig.returnType = some (.object rt)) (hlk : meth.locks = false) (hdg : decode cc pc = .ok (.areturn, 1)) (hpost : post (some q) σ) : W p l e R s m args below meth c H locs cells slots (MQ below (va_Qq (QQ ad post) (QW D cA ad o) A) args s cells slots A) (F0 m pc ls [.ref (ad q)]) :=
  W.aret C0.1 C0.2.1 hr (Or.inl ⟨_, rfl⟩) (Or.inr ⟨_, rfl⟩) (fun t ht hW => ⟨⟨some (ad q), σ, rfl, ⟨some q, rfl, hpost⟩, by rw [ht]; exact hP, va_K.moved hW.alike X.1⟩, hS.F ht⟩) hS.2.2 hdg hlk
theorem r_aretN {post : Option Nat → Mem → Prop} {rt : String} (C0 : CX p s m args c cc nL own) (X : WX D cA ad A s) (hP : WP D cA ad o σ H) (hS : va_S A s.heap H locs) (hr : meth.sig.returnType = some (.object rt)) (hlk : meth.locks = false) (hdg : decode cc pc = .ok (.areturn, 1)) (hpost : post none σ) : W p l e R s m args below meth c H locs cells slots (MQ below (va_Qq (QQ ad post) (QW D cA ad o) A) args s cells slots A) (F0 m pc ls [.null]) :=
  W.aret C0.1 C0.2.1 hr (Or.inl ⟨_, rfl⟩) (Or.inl rfl) (fun t ht hW => ⟨⟨none, σ, rfl, ⟨none, rfl, hpost⟩, by rw [ht]; exact hP, va_K.moved hW.alike X.1⟩, hS.F ht⟩) hS.2.2 hdg hlk
theorem PW_blind {As : List Value} {sz : Nat} : FrameBlind (va_Pc As (PW D cA ad o σ sz)) := fun a U g mk q => ⟨q.1, q.2.1, q.2.2.1, va_K.moved (u := U) (U := U.calling g mk a) (Vm.Alike.refl U.vm) q.2.2.2.1, q.2.2.2.2⟩
theorem FA_sub (X : WX D cA ad A s) (hS : va_S A s.heap H locs) : ∀ q, FA ad H.size q → A q := fun q h => h.elim (fun ⟨i, hi, e⟩ => e ▸ X.2.2.1 i hi) (fun h => X.2.2.2 q (Nat.le_trans hS.1 h))
theorem PW_of (X : WX D cA ad A s) (hP : WP D cA ad o σ H) {U : State} (hU : U.heap = H) (hW : s.WarmedH U.vm) : PW D cA ad o σ H.size U := ⟨by rw [hU], by rw [hU]; exact hP, va_K.moved hW.alike X.1, X.2.1⟩
variable {y : MethodName} {bytes : ByteArray} {maxL n index k : Nat} {ret : Option FieldType} {C : String} {As : List Value} {b ci N : Nat} {T : u_T} {Qf : (Nat → Prop) → Array Value → State → Outcome → State → Prop}
theorem r_runV (C0 : CX p s m args c cc nL own) (X : WX D cA ad A s) (hP : WP D cA ad o σ H) (hL : LVt own index C y bytes maxL ret n) (hM : ∀ sz, Met l y (WY y bytes maxL ret) (RM k) (va_Pc (.ref (ad b) :: As) (PW D cA ad o σ sz)) (Qf (FA ad sz)) 0 0 (FA ad sz)) (hb : b < 106) (hkd : kd b = (ci, N)) (hci : ci < 9) (hc : vwCl[ci]? = some (C, T, N)) (hR : k + 1 ≤ R.frames ∧ 8 + (maxL + 11) + 40 * k ≤ R.locals) (hn : As.length = n) (hsz : ls.size = nL) (hst : st0 = As.reverse ++ .ref (ad b) :: rest) (hrm : (rest.map fun v => v.category).sum ≤ 8) (hdg : decode cc pc = .ok (.invokevirtual index, 3)) (hf : cells ≤ R.cells ∧ slots ≤ R.slots) :
    va_Run p l e R s m args below meth c H locs cells slots 0 0 (F0 m pc ls st0) rest (Qf (FA ad H.size) (Value.ref (ad b) :: As).toArray) (FA ad H.size) :=
  va_runV C0 (hM H.size) (cwV n C0.2.2.2.2 hL.1 rfl rfl rfl hL.2 hR) ⟨PW_blind, va_recv X.1 hP hc (q0 := b) (fs := (List.range N).map (fv ad (σ b) b)) (by rw [wl_get cA ad o σ hb, cel_obj hkd hci]), fun U hU hW => ⟨rfl, PW_of X hP hU hW⟩⟩ rfl hn hsz hst (lv_room hrm) hdg hf
theorem r_runS (C0 : CX p s m args c cc nL own) (X : WX D cA ad A s) (hP : WP D cA ad o σ H) (hL : LSt own index y bytes maxL ret n) (hM : ∀ sz, Met l y (WY y bytes maxL ret) (RM k) (va_Pc As (PW D cA ad o σ sz)) (Qf (FA ad sz)) 0 0 (FA ad sz)) (hR : k + 1 ≤ R.frames ∧ 8 + (maxL + 11) + 40 * k ≤ R.locals) (hn : As.length = n) (hsz : ls.size = nL) (hst : st0 = As.reverse ++ rest) (hrm : (rest.map fun v => v.category).sum ≤ 8) (hdg : decode cc pc = .ok (.invokestatic index, 3)) (hf : cells ≤ R.cells ∧ slots ≤ R.slots) :
    va_Run p l e R s m args below meth c H locs cells slots 0 0 (F0 m pc ls st0) rest (Qf (FA ad H.size) As.toArray) (FA ad H.size) :=
  va_runS C0 (hM H.size) (cwS n C0.2.2.2.2 hL.1 rfl rfl rfl hL.2 hR) ⟨PW_blind, fun U hU hW => ⟨rfl, PW_of X hP hU hW⟩⟩ rfl hn hsz hst (lv_room hrm) hdg hf
theorem r_ci {post : Int32 → Mem → Prop} {aa : Array Value} (X : WX D cA ad A s) (hS : va_S A s.heap H locs) (hr : va_Run p l e R s m args below meth c H locs cells slots 0 0 (F0 m pc ls st0) rest (va_Qi post (QW D cA ad o) (FA ad H.size) aa) (FA ad H.size))
    (kk : ∀ (r : Int32) (σ' : Mem) (H1 : Heap) (locs1 : List Loc), post r σ' → WP D cA ad o σ' H1 → va_S A s.heap H1 locs1 → W p l e R s m args below meth c H1 locs1 cells slots Q (F0 m (pc + 3) ls (.int r :: rest))) : W p l e R s m args below meth c H locs cells slots Q (F0 m pc ls st0) :=
  va_calli hr hS (fun q _ h => FA_sub X hS q h) (FA_sub X hS) (fun r u t H1 locs1 ht _ hw hB _ _ hS1 => kk r u H1 locs1 hw (by rw [← ht]; exact hB.1) hS1)
theorem r_cv {post : Mem → Prop} {aa : Array Value} (X : WX D cA ad A s) (hS : va_S A s.heap H locs) (hr : va_Run p l e R s m args below meth c H locs cells slots 0 0 (F0 m pc ls st0) rest (va_Qv post (QW D cA ad o) (FA ad H.size) aa) (FA ad H.size))
    (kk : ∀ (σ' : Mem) (H1 : Heap) (locs1 : List Loc), post σ' → WP D cA ad o σ' H1 → va_S A s.heap H1 locs1 → W p l e R s m args below meth c H1 locs1 cells slots Q (F0 m (pc + 3) ls rest)) : W p l e R s m args below meth c H locs cells slots Q (F0 m pc ls st0) :=
  va_callv hr hS (fun q _ h => FA_sub X hS q h) (FA_sub X hS) (fun u t H1 locs1 ht _ hw hB _ _ hS1 => kk u H1 locs1 hw (by rw [← ht]; exact hB.1) hS1)
theorem r_cl {post : Int64 → Mem → Prop} {aa : Array Value} (X : WX D cA ad A s) (hS : va_S A s.heap H locs) (hr : va_Run p l e R s m args below meth c H locs cells slots 0 0 (F0 m pc ls st0) rest (va_Ql post (QW D cA ad o) (FA ad H.size) aa) (FA ad H.size))
    (kk : ∀ (r : Int64) (σ' : Mem) (H1 : Heap) (locs1 : List Loc), post r σ' → WP D cA ad o σ' H1 → va_S A s.heap H1 locs1 → W p l e R s m args below meth c H1 locs1 cells slots Q (F0 m (pc + 3) ls (.long r :: rest))) : W p l e R s m args below meth c H locs cells slots Q (F0 m pc ls st0) :=
  va_calll hr hS (fun q _ h => FA_sub X hS q h) (FA_sub X hS) (fun r u t H1 locs1 ht _ hw hB _ _ hS1 => kk r u H1 locs1 hw (by rw [← ht]; exact hB.1) hS1)
theorem r_cq {post : Option Nat → Mem → Prop} {aa : Array Value} (X : WX D cA ad A s) (hS : va_S A s.heap H locs) (hr : va_Run p l e R s m args below meth c H locs cells slots 0 0 (F0 m pc ls st0) rest (va_Qq (QQ ad post) (QW D cA ad o) (FA ad H.size) aa) (FA ad H.size))
    (kn : ∀ (σ' : Mem) (H1 : Heap) (locs1 : List Loc), post none σ' → WP D cA ad o σ' H1 → va_S A s.heap H1 locs1 → W p l e R s m args below meth c H1 locs1 cells slots Q (F0 m (pc + 3) ls (.null :: rest)))
    (kk : ∀ (x : Nat) (σ' : Mem) (H1 : Heap) (locs1 : List Loc), post (some x) σ' → WP D cA ad o σ' H1 → va_S A s.heap H1 locs1 → W p l e R s m args below meth c H1 locs1 cells slots Q (F0 m (pc + 3) ls (.ref (ad x) :: rest))) : W p l e R s m args below meth c H locs cells slots Q (F0 m pc ls st0) :=
  va_callq hr hS (fun q _ h => FA_sub X hS q h) (FA_sub X hS) (fun r u t H1 locs1 ht _ hw hB _ _ hS1 => by
    obtain ⟨x, rfl, hw⟩ := hw
    cases x with
    | none => exact kn u H1 locs1 hw (by rw [← ht]; exact hB.1) hS1
    | some x => exact kk x u H1 locs1 hw (by rw [← ht]; exact hB.1) hS1)
end FC
