/-! CONSTRUCTORS: explicit worlds -/
def RMc (k mc ms : Nat) : Room := { frames := k, cells := mc, slots := ms, locals := 40 * k }
def CAx (cA : Nat → ClassId) (U : State) : Prop := (∀ c', U.vm.findClass ("[" ++ FieldType.int.toString) = some c' → c' = cA 0) ∧ (∀ c', U.vm.findClass ("[" ++ (FieldType.object "WhoBacks$Cart").toString) = some c' → c' = cA 1) ∧ (∀ c', U.vm.findClass ("[" ++ (FieldType.object "WhoBacks$Shelf").toString) = some c' → c' = cA 2)
def NWs : List Cond := [.methodLinkNest "WhoBacks$Traffic" 11 ⟨"WhoBacks$Road", "<init>", "()V"⟩ "WhoBacks", .methodLinkNest "WhoBacks$Traffic" 38 ⟨"WhoBacks$Cart", "<init>", "()V"⟩ "WhoBacks", .methodLinkNest "WhoBacks" 30 ⟨"WhoBacks$Least", "<init>", "()V"⟩ "WhoBacks", .methodLinkNest "WhoBacks" 37 ⟨"WhoBacks$Reader", "<init>", "()V"⟩ "WhoBacks", .methodLinkNest "WhoBacks$Reader" 11 ⟨"WhoBacks$Shelf", "<init>", "()V"⟩ "WhoBacks", .methodLinkNest "WhoBacks" 44 ⟨"WhoBacks$Passing", "<init>", "()V"⟩ "WhoBacks", .methodLinkNest "WhoBacks" 49 ⟨"WhoBacks$Shelf", "<init>", "()V"⟩ "WhoBacks"]
def NW (U : State) : Prop := (∀ w ∈ NWs, va_Nw w U) ∧ va_AO "WhoBacks$Cart" U ∧ va_AO "WhoBacks$Shelf" U
theorem NW_moved {s U : State} (hW : s.WarmedH U.vm) (h : NW s) : NW U := by
  refine ⟨fun w hw => ?_, va_AO.moved hW.alike h.2.1, va_AO.moved hW.alike h.2.2⟩
  have h1 := h.1 w hw
  simp only [NWs, List.mem_cons, List.not_mem_nil, or_false] at hw
  rcases hw with rfl | rfl | rfl | rfl | rfl | rfl | rfl <;> exact va_Nw.warmM hW h1
theorem NW_same {s U : State} (hv : s.vm = U.vm) (h : NW s) : NW U := by
  refine ⟨fun w hw => ?_, va_AO.moved (hv ▸ Vm.Alike.refl s.vm) h.2.1, va_AO.moved (hv ▸ Vm.Alike.refl s.vm) h.2.2⟩
  have h1 := h.1 w hw
  simp only [NWs, List.mem_cons, List.not_mem_nil, or_false] at hw
  rcases hw with rfl | rfl | rfl | rfl | rfl | rfl | rfl <;> exact va_Nw.same rfl hv h1
def KP (D : va_G) (cA : Nat → ClassId) (sz : Nat) (ws : va_W) : State → Prop := fun U => U.heap.size = sz ∧ va_P D vwCl ws U.heap ∧ va_K D vwCl [] U ∧ va_D (fun _ => True) ws ∧ CAx cA U ∧ NW U
def KQ (D : va_G) (w : (Nat → Nat) → va_W) (tys : List (ClassId × FieldType)) (A : Nat → Prop) : (Nat → Nat) → State → Prop := fun q t => va_P D vwCl (w q) t.heap ∧ va_K D vwCl tys t ∧ va_D A (w q)
theorem KP_blind {D : va_G} {cA : Nat → ClassId} {sz : Nat} {ws : va_W} {As : List Value} : FrameBlind (va_Pc As (KP D cA sz ws)) := fun a U g mk q => ⟨q.1, q.2.1, q.2.2.1, va_K.moved (u := U) (U := U.calling g mk a) (Vm.Alike.refl U.vm) q.2.2.2.1, q.2.2.2.2.1, q.2.2.2.2.2.1, NW_same (s := U) (U := U.calling g mk a) rfl q.2.2.2.2.2.2⟩
theorem CAx_moved {cA : Nat → ClassId} {u U : State} (h : u.vm.Alike U.vm) (c : CAx cA u) : CAx cA U := by
  refine ⟨fun c' e => c.1 c' ?_, fun c' e => c.2.1 c' ?_, fun c' e => c.2.2 c' ?_⟩ <;> (rw [h.findClass] at e; exact e)
theorem kt_of {l : Launch} {y : MethodName} {own : String} {cc : ByteArray} (ho : y.cls = own) (hyn : y.name = "<init>") {n k mc ms h0 : Nat} {D : va_G} {cA : Nat → ClassId} {e0 : va_E} {Qf : (Nat → Prop) → Array Value → State → Outcome → State → Prop} (hy : plainName y.cls = true) (hn : 1 ≤ n)
    (body : ∀ (p : Program) (e : Env) (s : State) (m : MethodId) (below : List Frame) (meth : Method) (c : Code) (ls : Array Slot) (A : Nat → Prop), CX p s m #[Value.ref h0] c cc n own → va_K D vwCl [] s → CAx cA s → NW s → va_P D vwCl [(h0, e0)] s.heap → va_D A [(h0, e0)] → (∀ q : Nat, s.heap.size ≤ q → A q) → meth.sig.returnType = none → meth.locks = false → meth.name = "<init>" → lv_has ls n [(0, .ref h0)] → W p l e (RMc k mc ms) s m #[Value.ref h0] below meth c s.heap [] 0 0 (MQ below (Qf A) #[Value.ref h0] s mc ms A) (F0 m 0 ls [])) (sz : Nat) :
    Met l y (WY y cc n none) (RMc k mc ms) (va_Pc [.ref h0] (KP D cA sz [(h0, e0)])) (Qf (va_A [(h0, e0)] sz)) mc ms (va_A [(h0, e0)] sz) := by
  refine Met.ofW (cc := cc) (maxL := n) (ret := none) hy rfl ?_
  intro p e s m args below meth c s₁ B hml hv
  obtain ⟨rfl, hsz, hP, hK, hD0, hC, hNW⟩ := hv
  subst hsz
  have hl := lv_entry [Value.ref h0] (n := n) hn
  rw [lg_entry_eq]
  generalize (lg_sl [Value.ref h0] ++ List.replicate (n - (lg_sl [Value.ref h0]).length) Slot.unset).toArray = ls at hl ⊢
  have hts := atoms_spec (ws := WY y cc n none) B.pre
  have hin : meth.name = "<init>" := by rw [(name_of_methodNamed B.named B.method).1, hyn]
  exact body p e s m below meth c ls _ ⟨B.exec, B.bytes, hml, ho ▸ findClass_of_methodNamed B.named, fun w hw => hts w (List.mem_cons_of_mem _ hw)⟩ hK hC hNW hP (hD0.self (sz := s.heap.size)) (fun q h => Or.inr h) B.returns B.notSynchronized hin hl
theorem dfX0 : ∀ j, j < 12 → defaultValue (tyX0 j) = vp_V [.int 0, .int 0, .int 0, .int 0, .int 0, .int 0, .int 0, .int 0, .int 0, .int 0, .int 0, .int 0] j := by
  intro j hj
  rcases (show j = 0 ∨ j = 1 ∨ j = 2 ∨ j = 3 ∨ j = 4 ∨ j = 5 ∨ j = 6 ∨ j = 7 ∨ j = 8 ∨ j = 9 ∨ j = 10 ∨ j = 11 by omega) with rfl | rfl | rfl | rfl | rfl | rfl | rfl | rfl | rfl | rfl | rfl | rfl <;> rfl
theorem wI0 : Cond.initialized "WhoBacks$Cart" ∈ tbg := (tmc sb1 4 (by decide +kernel) (by decide +kernel))
theorem wN0 : Cond.instantiable "WhoBacks$Cart" 12 ∈ tbg := (tmc sb1 99 (by decide +kernel) (by decide +kernel))
theorem wMi0 : Cond.instanceMethod yX0_init ∈ tbg := (tmc sb1 101 (by decide +kernel) (by decide +kernel))
set_option maxRecDepth 100000 in
theorem wCi0 : Cond.code yX0_init cX0_init 1 none ∈ tbg := tmc sb1 102 rfl (by decide +kernel)
theorem dfX1 : ∀ j, j < 2 → defaultValue (tyX1 j) = vp_V [.int 0, .int 0] j := by
  intro j hj
  rcases (show j = 0 ∨ j = 1 by omega) with rfl | rfl <;> rfl
theorem wI1 : Cond.initialized "WhoBacks$Least" ∈ tbg := (tmc sb1 5 (by decide +kernel) (by decide +kernel))
theorem wN1 : Cond.instantiable "WhoBacks$Least" 2 ∈ tbg := (tmc sb1 209 (by decide +kernel) (by decide +kernel))
theorem wMi1 : Cond.instanceMethod yX1_init ∈ tbg := (tmc sb1 211 (by decide +kernel) (by decide +kernel))
set_option maxRecDepth 100000 in
theorem wCi1 : Cond.code yX1_init cX1_init 1 none ∈ tbg := tmc sb1 212 rfl (by decide +kernel)
theorem dfX2 : ∀ j, j < 8 → defaultValue (tyX2 j) = vp_V [.null, .null, .int 0, .int 0, .int 0, .int 0, .int 0, .int 0] j := by
  intro j hj
  rcases (show j = 0 ∨ j = 1 ∨ j = 2 ∨ j = 3 ∨ j = 4 ∨ j = 5 ∨ j = 6 ∨ j = 7 by omega) with rfl | rfl | rfl | rfl | rfl | rfl | rfl | rfl <;> rfl
theorem wI2 : Cond.initialized "WhoBacks$Passing" ∈ tbg := (tmc sb1 8 (by decide +kernel) (by decide +kernel))
theorem wN2 : Cond.instantiable "WhoBacks$Passing" 8 ∈ tbg := (tmc sb2 46 (by decide +kernel) (by decide +kernel))
theorem wMi2 : Cond.instanceMethod yX2_init ∈ tbg := (tmc sb2 48 (by decide +kernel) (by decide +kernel))
set_option maxRecDepth 100000 in
theorem wCi2 : Cond.code yX2_init cX2_init 1 none ∈ tbg := tmc sb2 49 rfl (by decide +kernel)
theorem dfX3 : ∀ j, j < 8 → defaultValue (tyX3 j) = vp_V [.null, .int 0, .int 0, .int 0, .int 0, .int 0, .int 0, .int 0] j := by
  intro j hj
  rcases (show j = 0 ∨ j = 1 ∨ j = 2 ∨ j = 3 ∨ j = 4 ∨ j = 5 ∨ j = 6 ∨ j = 7 by omega) with rfl | rfl | rfl | rfl | rfl | rfl | rfl | rfl <;> rfl
theorem wI3 : Cond.initialized "WhoBacks$Reader" ∈ tbg := (tmc sb1 6 (by decide +kernel) (by decide +kernel))
theorem wN3 : Cond.instantiable "WhoBacks$Reader" 8 ∈ tbg := (tmc sb1 224 (by decide +kernel) (by decide +kernel))
theorem wMi3 : Cond.instanceMethod yX3_init ∈ tbg := (tmc sb1 226 (by decide +kernel) (by decide +kernel))
set_option maxRecDepth 100000 in
theorem wCi3 : Cond.code yX3_init cX3_init 1 none ∈ tbg := tmc sb1 227 rfl (by decide +kernel)
theorem dfX4 : ∀ j, j < 13 → defaultValue (tyX4 j) = vp_V [.int 0, .int 0, .null, .null, .null, .null, .null, .null, .null, .null, .null, .null, .null] j := by
  intro j hj
  rcases (show j = 0 ∨ j = 1 ∨ j = 2 ∨ j = 3 ∨ j = 4 ∨ j = 5 ∨ j = 6 ∨ j = 7 ∨ j = 8 ∨ j = 9 ∨ j = 10 ∨ j = 11 ∨ j = 12 by omega) with rfl | rfl | rfl | rfl | rfl | rfl | rfl | rfl | rfl | rfl | rfl | rfl | rfl <;> rfl
theorem wI4 : Cond.initialized "WhoBacks$Road" ∈ tbg := (tmc sb1 3 (by decide +kernel) (by decide +kernel))
theorem wN4 : Cond.instantiable "WhoBacks$Road" 13 ∈ tbg := (tmc sb1 34 (by decide +kernel) (by decide +kernel))
theorem wMi4 : Cond.instanceMethod yX4_init ∈ tbg := (tmc sb1 36 (by decide +kernel) (by decide +kernel))
set_option maxRecDepth 100000 in
theorem wCi4 : Cond.code yX4_init cX4_init 1 none ∈ tbg := tmc sb1 37 rfl (by decide +kernel)
theorem dfX5 : ∀ j, j < 6 → defaultValue (tyX5 j) = vp_V [.int 0, .int 0, .int 0, .int 0, .int 0, .null] j := by
  intro j hj
  rcases (show j = 0 ∨ j = 1 ∨ j = 2 ∨ j = 3 ∨ j = 4 ∨ j = 5 by omega) with rfl | rfl | rfl | rfl | rfl | rfl <;> rfl
theorem wI5 : Cond.initialized "WhoBacks$Shelf" ∈ tbg := (tmc sb1 7 (by decide +kernel) (by decide +kernel))
theorem wN5 : Cond.instantiable "WhoBacks$Shelf" 6 ∈ tbg := (tmc sb1 230 (by decide +kernel) (by decide +kernel))
theorem wMi5 : Cond.instanceMethod yX5_init ∈ tbg := (tmc sb1 232 (by decide +kernel) (by decide +kernel))
set_option maxRecDepth 100000 in
theorem wCi5 : Cond.code yX5_init cX5_init 1 none ∈ tbg := tmc sb1 233 rfl (by decide +kernel)
theorem dfX6 : ∀ j, j < 11 → defaultValue (tyX6 j) = vp_V [.null, .null, .int 0, .int 0, .int 0, .int 0, .int 0, .null, .int 0, .int 0, .int 0] j := by
  intro j hj
  rcases (show j = 0 ∨ j = 1 ∨ j = 2 ∨ j = 3 ∨ j = 4 ∨ j = 5 ∨ j = 6 ∨ j = 7 ∨ j = 8 ∨ j = 9 ∨ j = 10 by omega) with rfl | rfl | rfl | rfl | rfl | rfl | rfl | rfl | rfl | rfl | rfl <;> rfl
theorem wI6 : Cond.initialized "WhoBacks$Traffic" ∈ tbg := (tmc sb1 2 (by decide +kernel) (by decide +kernel))
theorem wN6 : Cond.instantiable "WhoBacks$Traffic" 11 ∈ tbg := (tmc sb1 28 (by decide +kernel) (by decide +kernel))
theorem wMi6 : Cond.instanceMethod yX6_init ∈ tbg := (tmc sb1 30 (by decide +kernel) (by decide +kernel))
set_option maxRecDepth 100000 in
theorem wCi6 : Cond.code yX6_init cX6_init 2 none ∈ tbg := tmc sb1 31 rfl (by decide +kernel)
theorem dfX7 : ∀ j, j < 8 → defaultValue (tyX7 j) = vp_V [.null, .null, .null, .int 0, .null, .null, .null, .null] j := by
  intro j hj
  rcases (show j = 0 ∨ j = 1 ∨ j = 2 ∨ j = 3 ∨ j = 4 ∨ j = 5 ∨ j = 6 ∨ j = 7 by omega) with rfl | rfl | rfl | rfl | rfl | rfl | rfl | rfl <;> rfl
theorem wI7 : Cond.initialized "WhoBacks" ∈ tbg := (tmc sb1 1 (by decide +kernel) (by decide +kernel))
theorem wN7 : Cond.instantiable "WhoBacks" 8 ∈ tbg := (tmc sb1 20 (by decide +kernel) (by decide +kernel))
theorem wMi7 : Cond.instanceMethod yX7_init ∈ tbg := (tmc sb1 22 (by decide +kernel) (by decide +kernel))
set_option maxRecDepth 100000 in
theorem wCi7 : Cond.code yX7_init cX7_init 2 none ∈ tbg := tmc sb1 23 rfl (by decide +kernel)
theorem dfX8 : ∀ j, j < 24 → defaultValue (tyX8 j) = vp_V [.null, .null, .null, .null, .null, .null, .null, .null, .null, .null, .int 0, .int 0, .int 0, .int 0, .int 0, .int 0, .null, .int 0, .int 0, .int 0, .int 0, .null, .null, .int 0] j := by
  intro j hj
  rcases (show j = 0 ∨ j = 1 ∨ j = 2 ∨ j = 3 ∨ j = 4 ∨ j = 5 ∨ j = 6 ∨ j = 7 ∨ j = 8 ∨ j = 9 ∨ j = 10 ∨ j = 11 ∨ j = 12 ∨ j = 13 ∨ j = 14 ∨ j = 15 ∨ j = 16 ∨ j = 17 ∨ j = 18 ∨ j = 19 ∨ j = 20 ∨ j = 21 ∨ j = 22 ∨ j = 23 by omega) with rfl | rfl | rfl | rfl | rfl | rfl | rfl | rfl | rfl | rfl | rfl | rfl | rfl | rfl | rfl | rfl | rfl | rfl | rfl | rfl | rfl | rfl | rfl | rfl <;> rfl
theorem wI8 : Cond.initialized "WhoBacksModel" ∈ tbg := (tmc sb1 9 (by decide +kernel) (by decide +kernel))
theorem wN8 : Cond.instantiable "WhoBacksModel" 24 ∈ tbg := (tmc sb4 238 (by decide +kernel) (by decide +kernel))
theorem wMi8 : Cond.instanceMethod yX8_init ∈ tbg := (tmc sb5 0 (by decide +kernel) (by decide +kernel))
set_option maxRecDepth 100000 in
theorem wCi8 : Cond.code yX8_init cX8_init 2 none ∈ tbg := tmc sb5 1 rfl (by decide +kernel)
theorem wOi : Cond.instanceMethod Lib.objectInit ∈ tbg := (tmc sb1 25 (by decide +kernel) (by decide +kernel))
theorem wOc : Cond.code Lib.objectInit ⟨#[0xb1]⟩ 1 none ∈ tbg := (tmc sb1 26 (by decide +kernel) (by decide +kernel))
theorem wAi : Cond.arrayClass (newarray.typeOf .int) ∈ tbg := (tmc sb1 96 (by decide +kernel) (by decide +kernel))
def bB_cX0_init : Nat := 0xb10900b5fe102a0300b72a
theorem yB_cX0_init : BYS cX0_init 11 bB_cX0_init := BYS_of (by decide +kernel)
theorem dX0_init_0 : decode cX0_init 0 = .ok (.aload_n 0, 1) := D_42 yB_cX0_init rfl rfl
theorem dX0_init_1 : decode cX0_init 1 = .ok (.invokespecial 3, 3) := D_183 yB_cX0_init rfl rfl rfl
theorem dX0_init_4 : decode cX0_init 4 = .ok (.aload_n 0, 1) := D_42 yB_cX0_init rfl rfl
theorem dX0_init_5 : decode cX0_init 5 = .ok (.bipush (-2), 2) := D_16 yB_cX0_init rfl rfl (sg_n (m := 128) (N := 2) rfl rfl rfl)
theorem dX0_init_7 : decode cX0_init 7 = .ok (.putfield 9, 3) := D_181 yB_cX0_init rfl rfl rfl
theorem dX0_init_10 : decode cX0_init 10 = .ok (.return_, 1) := D_177 yB_cX0_init rfl rfl
def cw0_0 (cA : Nat → ClassId) (b : Nat) (q : Nat → Nat) : Nat × va_E := (b, .inr (0, [.int 0, .int 0, .int 0, .int 0, .int 0, .int 0, .int (-2), .int 0, .int 0, .int 0, .int 0, .int 0]))
abbrev w_X0 (cA : Nat → ClassId) (q : Nat → Nat) : va_W := [((q 0), .inr (0, [.int 0, .int 0, .int 0, .int 0, .int 0, .int 0, .int (-2), .int 0, .int 0, .int 0, .int 0, .int 0]))]
set_option maxHeartbeats 40000000 in
set_option maxRecDepth 100000 in
theorem k_X0 (l : Launch) (D : va_G) (cA : Nat → ClassId) (h0 : Nat) (sz : Nat) : Met l yX0_init (WY yX0_init cX0_init 1 none) (RMc 1 0 0) (va_Pc [.ref h0] (KP D cA sz [(h0, .inr (0, [.int 0, .int 0, .int 0, .int 0, .int 0, .int 0, .int 0, .int 0, .int 0, .int 0, .int 0, .int 0]))])) (va_Qv (fun q : Nat → Nat => q 0 = h0) (KQ D (w_X0 cA) [] (va_A [(h0, .inr (0, [.int 0, .int 0, .int 0, .int 0, .int 0, .int 0, .int 0, .int 0, .int 0, .int 0, .int 0, .int 0]))] sz)) (va_A [(h0, .inr (0, [.int 0, .int 0, .int 0, .int 0, .int 0, .int 0, .int 0, .int 0, .int 0, .int 0, .int 0, .int 0]))] sz)) 0 0 (va_A [(h0, .inr (0, [.int 0, .int 0, .int 0, .int 0, .int 0, .int 0, .int 0, .int 0, .int 0, .int 0, .int 0, .int 0]))] sz) := by
  refine kt_of (own := RX0) (Qf := fun A => va_Qv (fun q : Nat → Nat => q 0 = h0) (KQ D (w_X0 cA) [] A) A) rfl rfl (by decide) (by decide) (fun p e s m below meth c ls A C0 hK hC hNW hP hD hA hr hlk hin hl => ?_) sz
  have hS : va_S A s.heap s.heap [] := va_S.rf
  obtain ⟨hx, hb, hml, hown, hts⟩ := id C0
  refine lv_aload_n hx hb dX0_init_0 rfl (lv_at hl 0 rfl) ?_
  refine W.objInit hx hb hown (hts _ (tmc sb1 103 (by decide +kernel) (by decide +kernel))) (hts _ wOi) (hts _ wOc) rfl (by rw [hml]; exact hl.1) rfl dX0_init_1 (Nat.le_of_ble_eq_true rfl) (Nat.le_of_ble_eq_true rfl) ?_
  refine W.eq (g2 := F0 m 4 ls []) rfl ?_
  refine lv_aload_n hx hb dX0_init_4 rfl (lv_at hl 0 rfl) ?_
  refine lv_bipush (v := (-2)) hx hb dX0_init_5 (by decide) ?_
  refine va_put (D := D) (ci := 0) (v := .int (-2)) (ty := .int) (C := RX0) (T := TX0) (N := 12) hx hb hts inX0 tyX0 tyX0_ok nmX0 hown hK hP hD hS 0 rfl rfl 6 (by decide) (hts _ (tmc sb1 122 (by decide +kernel) (by decide +kernel))) (fun _ h9 => h9) rfl (by decide +kernel) rfl rfl (Nat.le_of_ble_eq_true rfl) dX0_init_7 (fun H locs hP hD hS => ?_)
  have hP : va_P D vwCl [(h0, .inr (0, [.int 0, .int 0, .int 0, .int 0, .int 0, .int 0, .int (-2), .int 0, .int 0, .int 0, .int 0, .int 0]))] H := hP
  have hD : va_D A [(h0, .inr (0, [.int 0, .int 0, .int 0, .int 0, .int 0, .int 0, .int (-2), .int 0, .int 0, .int 0, .int 0, .int 0]))] := hD
  have hP : va_P D vwCl [(h0, .inr (0, [.int 0, .int 0, .int 0, .int 0, .int 0, .int 0, .int (-2), .int 0, .int 0, .int 0, .int 0, .int 0]))] _ := hP
  refine W.widen (k := 0) (n := 0) (Nat.le_of_ble_eq_true rfl) (Nat.le_of_ble_eq_true rfl) ?_
  exact W.vret hx hb hr (fun t ht hW => ⟨⟨(fun i => ([h0] : List Nat).getD i 0), rfl, rfl, by rw [ht]; exact hP, va_K.moved hW.alike hK, hD⟩, hS.F ht⟩) hS.2.2 dX0_init_10 hlk
def bB_cX1_init : Nat := 0xb10300b72a
theorem yB_cX1_init : BYS cX1_init 5 bB_cX1_init := BYS_of (by decide +kernel)
theorem dX1_init_0 : decode cX1_init 0 = .ok (.aload_n 0, 1) := D_42 yB_cX1_init rfl rfl
theorem dX1_init_1 : decode cX1_init 1 = .ok (.invokespecial 3, 3) := D_183 yB_cX1_init rfl rfl rfl
theorem dX1_init_4 : decode cX1_init 4 = .ok (.return_, 1) := D_177 yB_cX1_init rfl rfl
def cw1_0 (cA : Nat → ClassId) (b : Nat) (q : Nat → Nat) : Nat × va_E := (b, .inr (1, [.int 0, .int 0]))
abbrev w_X1 (cA : Nat → ClassId) (q : Nat → Nat) : va_W := [((q 0), .inr (1, [.int 0, .int 0]))]
set_option maxHeartbeats 40000000 in
set_option maxRecDepth 100000 in
theorem k_X1 (l : Launch) (D : va_G) (cA : Nat → ClassId) (h0 : Nat) (sz : Nat) : Met l yX1_init (WY yX1_init cX1_init 1 none) (RMc 1 0 0) (va_Pc [.ref h0] (KP D cA sz [(h0, .inr (1, [.int 0, .int 0]))])) (va_Qv (fun q : Nat → Nat => q 0 = h0) (KQ D (w_X1 cA) [] (va_A [(h0, .inr (1, [.int 0, .int 0]))] sz)) (va_A [(h0, .inr (1, [.int 0, .int 0]))] sz)) 0 0 (va_A [(h0, .inr (1, [.int 0, .int 0]))] sz) := by
  refine kt_of (own := RX1) (Qf := fun A => va_Qv (fun q : Nat → Nat => q 0 = h0) (KQ D (w_X1 cA) [] A) A) rfl rfl (by decide) (by decide) (fun p e s m below meth c ls A C0 hK hC hNW hP hD hA hr hlk hin hl => ?_) sz
  have hS : va_S A s.heap s.heap [] := va_S.rf
  obtain ⟨hx, hb, hml, hown, hts⟩ := id C0
  refine lv_aload_n hx hb dX1_init_0 rfl (lv_at hl 0 rfl) ?_
  refine W.objInit hx hb hown (hts _ (tmc sb1 213 (by decide +kernel) (by decide +kernel))) (hts _ wOi) (hts _ wOc) rfl (by rw [hml]; exact hl.1) rfl dX1_init_1 (Nat.le_of_ble_eq_true rfl) (Nat.le_of_ble_eq_true rfl) ?_
  refine W.eq (g2 := F0 m 4 ls []) rfl ?_
  have hP : va_P D vwCl [(h0, .inr (1, [.int 0, .int 0]))] _ := hP
  refine W.widen (k := 0) (n := 0) (Nat.le_of_ble_eq_true rfl) (Nat.le_of_ble_eq_true rfl) ?_
  exact W.vret hx hb hr (fun t ht hW => ⟨⟨(fun i => ([h0] : List Nat).getD i 0), rfl, rfl, by rw [ht]; exact hP, va_K.moved hW.alike hK, hD⟩, hS.F ht⟩) hS.2.2 dX1_init_4 hlk
def bB_cX5_init : Nat := 0xb10900b50abc64102a0300b72a
theorem yB_cX5_init : BYS cX5_init 13 bB_cX5_init := BYS_of (by decide +kernel)
theorem dX5_init_0 : decode cX5_init 0 = .ok (.aload_n 0, 1) := D_42 yB_cX5_init rfl rfl
theorem dX5_init_1 : decode cX5_init 1 = .ok (.invokespecial 3, 3) := D_183 yB_cX5_init rfl rfl rfl
theorem dX5_init_4 : decode cX5_init 4 = .ok (.aload_n 0, 1) := D_42 yB_cX5_init rfl rfl
theorem dX5_init_5 : decode cX5_init 5 = .ok (.bipush 100, 2) := D_16 yB_cX5_init rfl rfl (sg_p (m := 128) (N := 100) rfl rfl rfl)
theorem dX5_init_7 : decode cX5_init 7 = .ok (.newarray .int, 2) := D_188_10 yB_cX5_init rfl rfl rfl
theorem dX5_init_9 : decode cX5_init 9 = .ok (.putfield 9, 3) := D_181 yB_cX5_init rfl rfl rfl
theorem dX5_init_12 : decode cX5_init 12 = .ok (.return_, 1) := D_177 yB_cX5_init rfl rfl
def cw5_0 (cA : Nat → ClassId) (b : Nat) (q : Nat → Nat) : Nat × va_E := (b, .inr (5, [.int 0, .int 0, .int 0, .int 0, .int 0, .ref (q 1)]))
def cw5_1 (cA : Nat → ClassId) (b : Nat) (q : Nat → Nat) : Nat × va_E := ((q 1), .inl (cA 0, 100, .inl (fun _ => 0)))
abbrev w_X5 (cA : Nat → ClassId) (q : Nat → Nat) : va_W := [((q 0), .inr (5, [.int 0, .int 0, .int 0, .int 0, .int 0, .ref (q 1)])), ((q 1), .inl (cA 0, 100, .inl (fun _ => 0)))]
set_option maxHeartbeats 40000000 in
set_option maxRecDepth 100000 in
theorem k_X5 (l : Launch) (D : va_G) (cA : Nat → ClassId) (h0 : Nat) (sz : Nat) : Met l yX5_init (WY yX5_init cX5_init 1 none) (RMc 1 1 100) (va_Pc [.ref h0] (KP D cA sz [(h0, .inr (5, [.int 0, .int 0, .int 0, .int 0, .int 0, .null]))])) (va_Qv (fun q : Nat → Nat => q 0 = h0) (KQ D (w_X5 cA) [(cA 0, .int)] (va_A [(h0, .inr (5, [.int 0, .int 0, .int 0, .int 0, .int 0, .null]))] sz)) (va_A [(h0, .inr (5, [.int 0, .int 0, .int 0, .int 0, .int 0, .null]))] sz)) 1 100 (va_A [(h0, .inr (5, [.int 0, .int 0, .int 0, .int 0, .int 0, .null]))] sz) := by
  refine kt_of (own := RX5) (Qf := fun A => va_Qv (fun q : Nat → Nat => q 0 = h0) (KQ D (w_X5 cA) [(cA 0, .int)] A) A) rfl rfl (by decide) (by decide) (fun p e s m below meth c ls A C0 hK hC hNW hP hD hA hr hlk hin hl => ?_) sz
  have hS : va_S A s.heap s.heap [] := va_S.rf
  obtain ⟨hx, hb, hml, hown, hts⟩ := id C0
  refine lv_aload_n hx hb dX5_init_0 rfl (lv_at hl 0 rfl) ?_
  refine W.objInit hx hb hown (hts _ (tmc sb1 234 (by decide +kernel) (by decide +kernel))) (hts _ wOi) (hts _ wOc) rfl (by rw [hml]; exact hl.1) rfl dX5_init_1 (Nat.le_of_ble_eq_true rfl) (Nat.le_of_ble_eq_true rfl) ?_
  refine W.eq (g2 := F0 m 4 ls []) rfl ?_
  refine lv_aload_n hx hb dX5_init_4 rfl (lv_at hl 0 rfl) ?_
  refine lv_bipush (v := 100) hx hb dX5_init_5 (by decide) ?_
  refine va_newa (atype := .int) (ty := .int) (a0 := (100, .inl (fun _ => 0))) (N' := 100) hx hb (hts _ wAi) rfl hK hP hD hS hA (fun _ => rfl) (by decide) (by decide) (by decide) (Nat.le_of_ble_eq_true rfl) (Nat.le_of_ble_eq_true rfl) dX5_init_7 (fun q1 cX H hK2 hP hD hS => ?_)
  obtain rfl : cX = cA 0 := hC.1 _ (hK2.2 0 _ rfl).2
  have hK : va_K D vwCl [(cA 0, .int)] s := hK2
  have hP : va_P D vwCl [(h0, .inr (5, [.int 0, .int 0, .int 0, .int 0, .int 0, .null])), (q1, .inl (cA 0, 100, .inl (fun _ => 0)))] H := hP
  have hD : va_D A [(h0, .inr (5, [.int 0, .int 0, .int 0, .int 0, .int 0, .null])), (q1, .inl (cA 0, 100, .inl (fun _ => 0)))] := hD
  refine va_putF (D := D) (ci := 5) (v := .ref q1) (ty := .array .int) (C := RX5) (T := TX5) (N := 6) hx hb hts inX5 tyX5 tyX5_ok nmX5 hown hK hP hD hS 0 rfl rfl 5 (by decide) (hts _ (tmc sb2 4 (by decide +kernel) (by decide +kernel))) (fun _ h9 => h9) rfl hin rfl (by decide +kernel) rfl rfl (Nat.le_of_ble_eq_true rfl) dX5_init_9 (fun H locs hP hD hS => ?_)
  have hP : va_P D vwCl [(h0, .inr (5, [.int 0, .int 0, .int 0, .int 0, .int 0, .ref q1])), (q1, .inl (cA 0, 100, .inl (fun _ => 0)))] H := hP
  have hD : va_D A [(h0, .inr (5, [.int 0, .int 0, .int 0, .int 0, .int 0, .ref q1])), (q1, .inl (cA 0, 100, .inl (fun _ => 0)))] := hD
  have hP : va_P D vwCl [(h0, .inr (5, [.int 0, .int 0, .int 0, .int 0, .int 0, .ref q1])), (q1, .inl (cA 0, 100, .inl (fun _ => 0)))] _ := hP
  refine W.widen (k := 1) (n := 100) (Nat.le_of_ble_eq_true rfl) (Nat.le_of_ble_eq_true rfl) ?_
  exact W.vret hx hb hr (fun t ht hW => ⟨⟨(fun i => ([h0, q1] : List Nat).getD i 0), rfl, rfl, by rw [ht]; exact hP, va_K.moved hW.alike hK, hD⟩, hS.F ht⟩) hS.2.2 dX5_init_12 hlk
