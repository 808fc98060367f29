/-! toss, element: methods with tables, and a throw -/
def WYW (y : MethodName) (cc : ByteArray) (n : Nat) (ret : Option FieldType) (hh : List (Nat × Nat × Nat × Nat)) : List Cond := .codeWith y cc n ret hh :: tbg
theorem WYW_good {y : MethodName} {cc : ByteArray} {n : Nat} {ret : Option FieldType} {hh : List (Nat × Nat × Nat × Nat)} (h : Cond.codeWith y cc n ret hh ∈ tbg) : ∀ w ∈ WYW y cc n ret hh, w ∈ tbg := fun w hw => (List.mem_cons.mp hw).elim (fun q => q ▸ h) id
def hhT : List (Nat × Nat × Nat × Nat) := [(33, 46, 47, 319), (33, 46, 64, 290), (33, 46, 73, 297)]
def hhE : List (Nat × Nat × Nat × Nat) := [(0, 9, 12, 13), (0, 9, 16, 15)]
set_option maxRecDepth 100000 in
theorem wcT : Cond.codeWith yX7_toss cX7_toss 4 (some .int) hhT ∈ tbg := tm 896 rfl (by decide +kernel)
set_option maxRecDepth 100000 in
theorem wcE : Cond.codeWith yL_element cL_element 5 (some .int) hhE ∈ tbg := tm 1002 rfl (by decide +kernel)
def xnames : List String := ["java/lang/RuntimeException", "java/lang/Exception"]
def FWs : List Cond := lw_tbl.filter (fun w => w.faceAtom && w.onTables)
def FWp (U : State) : Prop := ∀ w ∈ FWs, va_Nw w U
theorem FWp_moved {u U : State} (hvm : u.vm.Alike U.vm) (h : FWp u) : FWp U := by
  intro w hw
  have hf := (List.mem_filter.mp hw).2
  simp only [Bool.and_eq_true] at hf
  have h1 := Cond.faceAtom_setVm (args := #[]) hvm w hf.1 (h w hw)
  exact va_tabs (u := u.setVm U.vm) (U := U) hf.2 rfl h1
theorem fwm {w : Cond} (i : Nat) (h : lw_tbl[i]? = some w) (hg : (w.faceAtom && w.onTables) = true) : w ∈ FWs := List.mem_filter.mpr ⟨List.mem_of_getElem? h, hg⟩
theorem xatX {L : List Cond} (h1 : ∀ w ∈ L, w ∈ lw_tbl) (h2 : L.all (fun w => goodWord w || (w.faceAtom && w.onTables)) = true) {args : Array Value} {s : State} (hts : ∀ w ∈ tbg, w.before args s = true) (hf : FWp s) : ∀ w ∈ L, w.before args s = true := by
  intro w hw
  have h3 := List.all_eq_true.mp h2 w hw
  rw [Bool.or_eq_true] at h3
  rcases h3 with h3 | h3
  · exact hts w (List.mem_filter.mpr ⟨h1 w hw, h3⟩)
  · have h4 := h3
    simp only [Bool.and_eq_true] at h4
    exact va_Nw.use h4.2 (hf w (List.mem_filter.mpr ⟨h1 w hw, h3⟩))
theorem xat1 : (∀ w ∈ vx_atS RX7 294 "java/lang/IllegalArgumentException" xnames, w ∈ lw_tbl) ∧ (vx_atS RX7 294 "java/lang/IllegalArgumentException" xnames).all (fun w => goodWord w || (w.faceAtom && w.onTables)) = true := ⟨by decide +kernel, by decide +kernel⟩
theorem xat2 : (∀ w ∈ vx_atS RX7 301 "java/lang/IllegalStateException" xnames, w ∈ lw_tbl) ∧ (vx_atS RX7 301 "java/lang/IllegalStateException" xnames).all (fun w => goodWord w || (w.faceAtom && w.onTables)) = true := ⟨by decide +kernel, by decide +kernel⟩
theorem xgd1 : ∀ w ∈ Cond.classLink RX7 290 "java/lang/IllegalArgumentException" :: Cond.initialized "java/lang/IllegalArgumentException" :: vx_atS RX7 294 "java/lang/IllegalArgumentException" xnames, vx_ot w = true := by decide +kernel
theorem xgd2 : ∀ w ∈ Cond.classLink RX7 297 "java/lang/IllegalStateException" :: Cond.initialized "java/lang/IllegalStateException" :: vx_atS RX7 301 "java/lang/IllegalStateException" xnames, vx_ot w = true := by decide +kernel
theorem WP_kept {D : va_G} {cA : Nat → ClassId} {ad : Nat → Nat} {o : Int64} {σ : Mem} {H H1 : Heap} (h : WP D cA ad o σ H) (hq : ∀ q : Nat, q < H.size → H1[q]? = H[q]?) : WP D cA ad o σ H1 := va_P.kept h (fun k q hk => hq q.1 (h k q hk).lt)
/-- what a throw needs of the start -/
def XF (ad : Nat → Nat) (sa1 sa2 : Nat) (sz : Nat) (U : State) : Prop := vx_Zq Bundle.tN "UNASSIGNED_STACK" Bundle.steD (FA ad sz) U U.heap ∧ vx_Zq Bundle.tN "SUPPRESSED_SENTINEL" Bundle.listD (FA ad sz) U U.heap ∧ vk_R "WhoBacks" 292 "no such shelf" sa1 U ∧ vk_R "WhoBacks" 299 "no row" sa2 U ∧ va_Nc "java/lang/IllegalStateException" "java/lang/IllegalArgumentException" U ∧ FWp U
def PWX (D : va_G) (cA : Nat → ClassId) (ad : Nat → Nat) (o : Int64) (σ : Mem) (sa1 sa2 sz : Nat) : State → Prop := fun U => PW D cA ad o σ sz U ∧ XF ad sa1 sa2 sz U
theorem PWX_blind {D : va_G} {cA : Nat → ClassId} {ad : Nat → Nat} {o : Int64} {σ : Mem} {sa1 sa2 sz : Nat} {As : List Value} : FrameBlind (va_Pc As (PWX D cA ad o σ sa1 sa2 sz)) := fun a U g mk q => ⟨q.1, (PW_blind (As := As) a U g mk ⟨q.1, q.2.1⟩).2, vx_Zq.moved (u := U) (U := U.calling g mk a) (Vm.Alike.refl U.vm) q.2.2.1, vx_Zq.moved (u := U) (U := U.calling g mk a) (Vm.Alike.refl U.vm) q.2.2.2.1, vk_R.same rfl q.2.2.2.2.1, vk_R.same rfl q.2.2.2.2.2.1, va_Nc.moved (u := U) (U := U.calling g mk a) (Vm.Alike.refl U.vm) q.2.2.2.2.2.2.1, FWp_moved (u := U) (U := U.calling g mk a) (Vm.Alike.refl U.vm) q.2.2.2.2.2.2.2⟩
theorem ct_ofW {l : Launch} {cc : ByteArray} {D : va_G} {cA : Nat → ClassId} {ad : Nat → Nat} {σ : Mem} {o : Int64} {y : MethodName} {own : String} (ho : y.cls = own) {n k : Nat} {ret : Option FieldType} {hh : List (Nat × Nat × Nat × Nat)} {As : List Value} {Qf : (Nat → Prop) → Array Value → State → Outcome → State → Prop} (hy : plainName y.cls = true) (hn : (lg_sl As).length ≤ n)
    (body : ∀ (p : Program) (e : Env) (s : State) (m : MethodId) (below : List Frame) (meth : Method) (c : Code) (ls : Array Slot), CX p s m As.toArray c cc n own → WX D cA ad (FA ad s.heap.size) s → meth.sig.returnType = ret → meth.locks = false → WP D cA ad o σ s.heap → lv_has ls n (lv_args 0 As) → W p l e (RM k) s m As.toArray below meth c s.heap [] 0 0 (MQ below (Qf (FA ad s.heap.size)) As.toArray s 0 0 (FA ad s.heap.size)) (F0 m 0 ls [])) (sz : Nat) :
    Met l y (WYW y cc n ret hh) (RM k) (va_Pc As (PW D cA ad o σ sz)) (Qf (FA ad sz)) 0 0 (FA ad sz) := by
  refine va_MetW (cc := cc) (maxL := n) (ret := ret) (hh := hh) hy rfl ?_
  intro p e s m args below meth c s₁ B hml hv
  obtain ⟨rfl, hsz, hP, hK, hinj⟩ := hv
  subst hsz
  have hl := lv_entry As (n := n) hn
  rw [lg_entry_eq]
  generalize (lg_sl As ++ List.replicate (n - (lg_sl As).length) Slot.unset).toArray = ls at hl ⊢
  have hts := atoms_spec (ws := WYW y cc n ret hh) B.pre
  exact body p e s m below meth c ls ⟨B.exec, B.bytes, hml, ho ▸ findClass_of_methodNamed B.named, fun w hw => hts w (List.mem_cons_of_mem _ hw)⟩ ⟨hK, hinj, fun i h => Or.inl ⟨i, h, rfl⟩, fun q h => Or.inr h⟩ B.returns B.notSynchronized hP hl
theorem dX7_toss_0 : decode cX7_toss 0 = .ok (.aload_n 0, 1) := by decide +kernel
theorem dX7_toss_1 : decode cX7_toss 1 = .ok (.iload_n 1, 1) := by decide +kernel
theorem dX7_toss_2 : decode cX7_toss 2 = .ok (.invokevirtual 50, 3) := by decide +kernel
theorem dX7_toss_5 : decode cX7_toss 5 = .ok (.astore_n 2, 1) := by decide +kernel
theorem dX7_toss_6 : decode cX7_toss 6 = .ok (.aload_n 2, 1) := by decide +kernel
theorem dX7_toss_7 : decode cX7_toss 7 = .ok (.ifnonnull 5, 3) := by decide +kernel
theorem dX7_toss_10 : decode cX7_toss 10 = .ok (.iconst (-1), 1) := by decide +kernel
theorem dX7_toss_11 : decode cX7_toss 11 = .ok (.ireturn, 1) := by decide +kernel
theorem dX7_toss_12 : decode cX7_toss 12 = .ok (.aload_n 2, 1) := by decide +kernel
theorem dX7_toss_13 : decode cX7_toss 13 = .ok (.getfield 54, 3) := by decide +kernel
theorem dX7_toss_16 : decode cX7_toss 16 = .ok (.ifCond .ne 6, 3) := by decide +kernel
theorem dX7_toss_19 : decode cX7_toss 19 = .ok (.bipush (-11), 2) := by decide +kernel
theorem dX7_toss_21 : decode cX7_toss 21 = .ok (.ireturn, 1) := by decide +kernel
theorem dX7_toss_22 : decode cX7_toss 22 = .ok (.aload_n 2, 1) := by decide +kernel
theorem dX7_toss_23 : decode cX7_toss 23 = .ok (.getfield 54, 3) := by decide +kernel
theorem dX7_toss_26 : decode cX7_toss 26 = .ok (.iconst 1, 1) := by decide +kernel
theorem dX7_toss_27 : decode cX7_toss 27 = .ok (.if_icmp .eq 6, 3) := by decide +kernel
theorem dX7_toss_30 : decode cX7_toss 30 = .ok (.bipush (-12), 2) := by decide +kernel
theorem dX7_toss_32 : decode cX7_toss 32 = .ok (.ireturn, 1) := by decide +kernel
theorem dX7_toss_33 : decode cX7_toss 33 = .ok (.aload_n 2, 1) := by decide +kernel
theorem dX7_toss_34 : decode cX7_toss 34 = .ok (.getfield 127, 3) := by decide +kernel
theorem dX7_toss_37 : decode cX7_toss 37 = .ok (.aload_n 2, 1) := by decide +kernel
theorem dX7_toss_38 : decode cX7_toss 38 = .ok (.getfield 129, 3) := by decide +kernel
theorem dX7_toss_41 : decode cX7_toss 41 = .ok (.invokestatic 316, 3) := by decide +kernel
theorem dX7_toss_44 : decode cX7_toss 44 = .ok (.bipush (-15), 2) := by decide +kernel
theorem dX7_toss_46 : decode cX7_toss 46 = .ok (.ireturn, 1) := by decide +kernel
theorem dX7_toss_47 : decode cX7_toss 47 = .ok (.astore_n 3, 1) := by decide +kernel
theorem dX7_toss_48 : decode cX7_toss 48 = .ok (.sipush 200, 3) := by decide +kernel
theorem dX7_toss_51 : decode cX7_toss 51 = .ok (.aload_n 2, 1) := by decide +kernel
theorem dX7_toss_52 : decode cX7_toss 52 = .ok (.getfield 127, 3) := by decide +kernel
theorem dX7_toss_55 : decode cX7_toss 55 = .ok (.aload_n 2, 1) := by decide +kernel
theorem dX7_toss_56 : decode cX7_toss 56 = .ok (.getfield 129, 3) := by decide +kernel
theorem dX7_toss_59 : decode cX7_toss 59 = .ok (.invokestatic 249, 3) := by decide +kernel
theorem dX7_toss_62 : decode cX7_toss 62 = .ok (.iadd, 1) := by decide +kernel
theorem dX7_toss_63 : decode cX7_toss 63 = .ok (.ireturn, 1) := by decide +kernel
theorem dX7_toss_64 : decode cX7_toss 64 = .ok (.astore_n 3, 1) := by decide +kernel
theorem dX7_toss_65 : decode cX7_toss 65 = .ok (.bipush 100, 2) := by decide +kernel
theorem dX7_toss_67 : decode cX7_toss 67 = .ok (.aload_n 2, 1) := by decide +kernel
theorem dX7_toss_68 : decode cX7_toss 68 = .ok (.getfield 129, 3) := by decide +kernel
theorem dX7_toss_71 : decode cX7_toss 71 = .ok (.iadd, 1) := by decide +kernel
theorem dX7_toss_72 : decode cX7_toss 72 = .ok (.ireturn, 1) := by decide +kernel
theorem dX7_toss_73 : decode cX7_toss 73 = .ok (.astore_n 3, 1) := by decide +kernel
theorem dX7_toss_74 : decode cX7_toss 74 = .ok (.aload_n 2, 1) := by decide +kernel
theorem dX7_toss_75 : decode cX7_toss 75 = .ok (.getfield 129, 3) := by decide +kernel
theorem dX7_toss_78 : decode cX7_toss 78 = .ok (.ireturn, 1) := by decide +kernel
set_option maxHeartbeats 4000000 in
set_option maxRecDepth 100000 in
theorem c_X7_toss_f (l : Launch) (D : va_G) (cA : Nat → ClassId) (ad : Nat → Nat) (o : Int64) (σ : Mem) (d : Int32) (hF : Fr σ) (sz : Nat) : Met l yX7_toss (WYW yX7_toss cX7_toss 4 (some .int) hhT) (RM 1) (va_Pc [.ref (ad 66), .int d] (PW D cA ad o σ sz)) (va_Qi (fun r (σ9 : Mem) => r = (if d < 0 ∨ 8 ≤ d then -1 else -11) ∧ ∀ a9, 91 ≤ a9 → σ9 a9 = σ a9) (QW D cA ad o) (FA ad sz)) 0 0 (FA ad sz) := by
  refine ct_ofW (hh := hhT) (own := RX7) (k := 1) (Qf := va_Qi (fun r (σ9 : Mem) => r = (if d < 0 ∨ 8 ≤ d then -1 else -11) ∧ ∀ a9, 91 ≤ a9 → σ9 a9 = σ a9) (QW D cA ad o)) rfl (by decide) (Nat.le_of_ble_eq_true rfl) (fun p e s m below meth c ls C0 X hr hlk hP hl => ?_) sz
  have hS : va_S (FA ad s.heap.size) s.heap s.heap [] := va_S.rf
  have hl : lv_has ls 4 [(0, .ref (ad 66)), (1, .int d)] := hl
  obtain ⟨hx, hb, hml, hown, hts⟩ := id C0
  refine lv_aload_n hx hb dX7_toss_0 rfl (lv_at hl 0 rfl) ?_
  refine lv_iload_n hx hb dX7_toss_1 rfl (lv_at hl 1 rfl) ?_
  refine r_cq X hS (r_runV (As := [.int d]) (rest := []) C0 X hP L_X7_50 (fun sz => c_X7_shelfAt l D cA ad o σ d  sz) (show 66 < 106 ∧ kd 66 = (7, 8) from ⟨by decide, rfl⟩).1 (show 66 < 106 ∧ kd 66 = (7, 8) from ⟨by decide, rfl⟩).2 (by decide) rfl ⟨Nat.le_of_ble_eq_true rfl, Nat.le_of_ble_eq_true rfl⟩ rfl hl.1 rfl (Nat.le_of_ble_eq_true rfl) dX7_toss_2 ⟨Nat.zero_le _, Nat.zero_le _⟩) (fun σ9 H locs hw hP hS => ?_) (fun x9 σ9 H locs hw hP hS => ?_)
  · rw [hw.1] at hP
    have h_1 := hw.2
    refine lv_astore_nN (lv' := [(2, .null), (0, .ref (ad 66)), (1, .int d)]) hx hb dX7_toss_5 rfl hl (by decide) rfl (fun ls hl => ?_)
    refine lv_aload_nN hx hb dX7_toss_6 rfl (lv_at hl 0 rfl) ?_
    refine lv_ifnonnullN hx hb dX7_toss_7 ?_
    refine lv_iconst (v := (-1)) hx hb dX7_toss_10 (by decide) ?_
    exact r_iret C0 X hP hS hr hlk dX7_toss_11 ⟨(by simp only [h_1, if_true, if_false, ite_true, ite_false, true_and, and_true, false_and, and_false, true_or, or_true, false_or, or_false, not_true_eq_false, not_false_eq_true, ne_eq, and_self, or_self]; try rfl), fun _ _ => rfl⟩
  · rw [hw.1] at hP
    obtain ⟨-, j_2, hj_2, ej_2, rfl⟩ := hw
    have h_1 : ¬ (d < 0 ∨ 8 ≤ d) := by rw [ej_2]; exact nosh hj_2
    refine lv_astore_n (lv' := [(2, .ref (ad (68 + j_2))), (0, .ref (ad 66)), (1, .int d)]) hx hb dX7_toss_5 rfl hl (by decide) rfl (fun ls hl => ?_)
    refine lv_aload_n hx hb dX7_toss_6 rfl (lv_at hl 0 rfl) ?_
    refine lv_ifnonnull (tgt := 12) hx hb dX7_toss_7 (by decide) ?_
    refine lv_aload_n hx hb dX7_toss_12 rfl (lv_at hl 0 rfl) ?_
    refine gf_X7_54 C0 X hP (68 + j_2) (kdS j_2 hj_2) dX7_toss_13 ?_
    refine lv_topE (y := 0) (Fr_holds hF hj_2) ?_
    refine lv_if_ne (tgt := 22) hx hb dX7_toss_16 (by decide) (fun c_3 => absurd c_3 (by decide)) (fun c_3 => ?_)
    refine lv_bipush (v := (-11)) hx hb dX7_toss_19 (by decide) ?_
    exact r_iret C0 X hP hS hr hlk dX7_toss_21 ⟨(by simp only [h_1, if_true, if_false, ite_true, ite_false, true_and, and_true, false_and, and_false, true_or, or_true, false_or, or_false, not_true_eq_false, not_false_eq_true, ne_eq, and_self, or_self]; try rfl), fun _ _ => rfl⟩
theorem dX7_element_0 : decode cX7_element 0 = .ok (.aload_n 0, 1) := by decide +kernel
theorem dX7_element_1 : decode cX7_element 1 = .ok (.iload_n 1, 1) := by decide +kernel
theorem dX7_element_2 : decode cX7_element 2 = .ok (.invokevirtual 50, 3) := by decide +kernel
theorem dX7_element_5 : decode cX7_element 5 = .ok (.astore_n 3, 1) := by decide +kernel
theorem dX7_element_6 : decode cX7_element 6 = .ok (.aload_n 3, 1) := by decide +kernel
theorem dX7_element_7 : decode cX7_element 7 = .ok (.ifnonnull 14, 3) := by decide +kernel
theorem dX7_element_10 : decode cX7_element 10 = .ok (.new 290, 3) := by decide +kernel
theorem dX7_element_13 : decode cX7_element 13 = .ok (.dup, 1) := by decide +kernel
theorem dX7_element_14 : decode cX7_element 14 = .ok (.ldc_w 292, 3) := by decide +kernel
theorem dX7_element_17 : decode cX7_element 17 = .ok (.invokespecial 294, 3) := by decide +kernel
theorem dX7_element_20 : decode cX7_element 20 = .ok (.athrow, 1) := by decide +kernel
theorem dX7_element_21 : decode cX7_element 21 = .ok (.aload_n 3, 1) := by decide +kernel
theorem dX7_element_22 : decode cX7_element 22 = .ok (.getfield 54, 3) := by decide +kernel
theorem dX7_element_25 : decode cX7_element 25 = .ok (.iconst 2, 1) := by decide +kernel
theorem dX7_element_26 : decode cX7_element 26 = .ok (.if_icmp .eq 14, 3) := by decide +kernel
theorem dX7_element_29 : decode cX7_element 29 = .ok (.new 297, 3) := by decide +kernel
theorem dX7_element_32 : decode cX7_element 32 = .ok (.dup, 1) := by decide +kernel
theorem dX7_element_33 : decode cX7_element 33 = .ok (.ldc_w 299, 3) := by decide +kernel
theorem dX7_element_36 : decode cX7_element 36 = .ok (.invokespecial 301, 3) := by decide +kernel
theorem dX7_element_39 : decode cX7_element 39 = .ok (.athrow, 1) := by decide +kernel
theorem dX7_element_40 : decode cX7_element 40 = .ok (.aload_n 3, 1) := by decide +kernel
theorem dX7_element_41 : decode cX7_element 41 = .ok (.iload_n 2, 1) := by decide +kernel
theorem dX7_element_42 : decode cX7_element 42 = .ok (.invokevirtual 284, 3) := by decide +kernel
theorem dX7_element_45 : decode cX7_element 45 = .ok (.ifCond .ne 14, 3) := by decide +kernel
theorem dX7_element_48 : decode cX7_element 48 = .ok (.new 297, 3) := by decide +kernel
theorem dX7_element_51 : decode cX7_element 51 = .ok (.dup, 1) := by decide +kernel
theorem dX7_element_52 : decode cX7_element 52 = .ok (.ldc_w 302, 3) := by decide +kernel
theorem dX7_element_55 : decode cX7_element 55 = .ok (.invokespecial 301, 3) := by decide +kernel
theorem dX7_element_58 : decode cX7_element 58 = .ok (.athrow, 1) := by decide +kernel
theorem dX7_element_59 : decode cX7_element 59 = .ok (.aload_n 3, 1) := by decide +kernel
theorem dX7_element_60 : decode cX7_element 60 = .ok (.getfield 207, 3) := by decide +kernel
theorem dX7_element_63 : decode cX7_element 63 = .ok (.iload_n 2, 1) := by decide +kernel
theorem dX7_element_64 : decode cX7_element 64 = .ok (.iaload, 1) := by decide +kernel
theorem dX7_element_65 : decode cX7_element 65 = .ok (.i2l, 1) := by decide +kernel
theorem dX7_element_66 : decode cX7_element 66 = .ok (.lreturn, 1) := by decide +kernel
set_option maxHeartbeats 4000000 in
set_option maxRecDepth 100000 in
theorem x_X7_element (l : Launch) (hfl : l.stackTraces = false) (D : va_G) (cA : Nat → ClassId) (ad : Nat → Nat) (o : Int64) (σ : Mem) (d i : Int32) (hF : Fr σ) (sa1 sa2 sz : Nat) : vx_Met l yX7_element (WY yX7_element cX7_element 4 (some .long)) (RMc 6 1 6) (va_Pc [.ref (ad 66), .int d, .int i] (PWX D cA ad o σ sa1 sa2 sz)) (va_Ql (fun _ (_ : Mem) => False) (QW D cA ad o) (FA ad sz)) (vx_X (fun u : Mem => u = σ) (fun E u t => (((d < 0 ∨ 8 ≤ d) ∧ E = "java/lang/IllegalArgumentException") ∨ (¬ (d < 0 ∨ 8 ≤ d) ∧ E = "java/lang/IllegalStateException")) ∧ QW D cA ad o u t) (FA ad sz)) 1 6 (FA ad sz) := by
  refine vx_ofW (cc := cX7_element) (maxL := 4) (ret := some .long) (by decide) rfl ?_
  intro p e s m args below meth c s₁ B hml htab hv
  obtain ⟨rfl, ⟨hsz, hP, hK, hinj⟩, hU, hN, hR1, hR2, hNc, hFW⟩ := hv
  subst hsz
  have hl := lv_entry ([.ref (ad 66), .int d, .int i] : List Value) (n := 4) (Nat.le_of_ble_eq_true rfl)
  rw [lg_entry_eq]
  generalize (lg_sl ([.ref (ad 66), .int d, .int i] : List Value) ++ List.replicate (4 - (lg_sl ([.ref (ad 66), .int d, .int i] : List Value)).length) Slot.unset).toArray = ls at hl ⊢
  have hl : lv_has ls 4 [(0, .ref (ad 66)), (1, .int d), (2, .int i)] := hl
  have hts0 := atoms_spec (ws := WY yX7_element cX7_element 4 (some .long)) B.pre
  have hts : ∀ w ∈ tbg, w.before ([.ref (ad 66), .int d, .int i] : List Value).toArray s = true := fun w hw => hts0 w (List.mem_cons_of_mem _ hw)
  have hown : s.vm.findClass RX7 = some m.cls := findClass_of_methodNamed B.named
  have hx := B.exec
  have hb := B.bytes
  have C0 : CX p s m ([.ref (ad 66), .int d, .int i] : List Value).toArray c cX7_element 4 RX7 := ⟨hx, hb, hml, hown, hts⟩
  have X : WX D cA ad (FA ad s.heap.size) s := ⟨hK, hinj, fun i h => Or.inl ⟨i, h, rfl⟩, fun q h => Or.inr h⟩
  have hlk := B.notSynchronized
  have hS : va_S (FA ad s.heap.size) s.heap s.heap [] := va_S.rf
  refine lv_aload_n hx hb dX7_element_0 rfl (lv_at hl 0 rfl) ?_
  refine lv_iload_n hx hb dX7_element_1 rfl (lv_at hl 1 rfl) ?_
  refine r_cq X hS (r_runV (As := [.int d]) (rest := []) C0 X hP L_X7_50 (fun sz => c_X7_shelfAt l D cA ad o σ d  sz) (show 66 < 106 ∧ kd 66 = (7, 8) from ⟨by decide, rfl⟩).1 (show 66 < 106 ∧ kd 66 = (7, 8) from ⟨by decide, rfl⟩).2 (by decide) rfl ⟨Nat.le_of_ble_eq_true rfl, Nat.le_of_ble_eq_true rfl⟩ rfl hl.1 rfl (Nat.le_of_ble_eq_true rfl) dX7_element_2 ⟨Nat.zero_le _, Nat.zero_le _⟩) (fun σ9 H locs hw hP hS => ?_) (fun x9 σ9 H locs hw hP hS => ?_)
  · rw [hw.1] at hP
    have h_1 := hw.2
    refine lv_astore_nN (lv' := [(3, .null), (0, .ref (ad 66)), (1, .int d), (2, .int i)]) hx hb dX7_element_5 rfl hl (by decide) rfl (fun ls hl => ?_)
    refine lv_aload_nN hx hb dX7_element_6 rfl (lv_at hl 0 rfl) ?_
    refine lv_ifnonnullN hx hb dX7_element_7 ?_
    exact vx_throwSW (own := RX7) (cls := "java/lang/IllegalArgumentException") (text := "no such shelf") (names := xnames) (ik := 290) (is := 292) (ic := 294) hx hb hfl hown (by decide +kernel) (by decide +kernel) (hts _ (tm 898 (by decide +kernel) (by decide +kernel))) (hts _ (tm 71 (by decide +kernel) (by decide +kernel))) hR1 (xatX xat1.1 xat1.2 hts hFW) xgd1 hU hN hS (by rw [hml]; exact hl.1) dX7_element_10 dX7_element_13 dX7_element_14 dX7_element_17 dX7_element_20 (fun x hx => (htab x hx).elim) (by decide) (by decide) (by decide) (by decide) hlk (fun t hv hz hq => ⟨σ, rfl, ⟨Or.inl ⟨h_1, rfl⟩, WP_kept hP hq, va_K.moved hv X.1⟩, Nat.le_trans hS.1 hz, fun q h1 h2 => (hq q (Nat.lt_of_lt_of_le h1 hS.1)).trans (hS.2.1 q h1 h2)⟩) hS.2.2 (by decide) (by decide)
  · rw [hw.1] at hP
    obtain ⟨-, j_2, hj_2, ej_2, rfl⟩ := hw
    have h_1 : ¬ (d < 0 ∨ 8 ≤ d) := by rw [ej_2]; exact nosh hj_2
    refine lv_astore_n (lv' := [(3, .ref (ad (68 + j_2))), (0, .ref (ad 66)), (1, .int d), (2, .int i)]) hx hb dX7_element_5 rfl hl (by decide) rfl (fun ls hl => ?_)
    refine lv_aload_n hx hb dX7_element_6 rfl (lv_at hl 0 rfl) ?_
    refine lv_ifnonnull (tgt := 21) hx hb dX7_element_7 (by decide) ?_
    refine lv_aload_n hx hb dX7_element_21 rfl (lv_at hl 0 rfl) ?_
    refine gf_X7_54 C0 X hP (68 + j_2) (kdS j_2 hj_2) dX7_element_22 ?_
    refine lv_topE (y := 0) (Fr_holds hF hj_2) ?_
    refine lv_iconst (v := 2) hx hb dX7_element_25 (by decide) ?_
    refine lv_icmp_eq (tgt := 40) hx hb dX7_element_26 (by decide) (fun c_3 => absurd c_3 (by decide)) (fun c_3 => ?_)
    exact vx_throwSW (own := RX7) (cls := "java/lang/IllegalStateException") (text := "no row") (names := xnames) (ik := 297) (is := 299) (ic := 301) hx hb hfl hown (by decide +kernel) (by decide +kernel) (hts _ (tm 899 (by decide +kernel) (by decide +kernel))) (hts _ (tm 72 (by decide +kernel) (by decide +kernel))) hR2 (xatX xat2.1 xat2.2 hts hFW) xgd2 hU hN hS (by rw [hml]; exact hl.1) dX7_element_29 dX7_element_32 dX7_element_33 dX7_element_36 dX7_element_39 (fun x hx => (htab x hx).elim) (by decide) (by decide) (by decide) (by decide) hlk (fun t hv hz hq => ⟨σ, rfl, ⟨Or.inr ⟨h_1, rfl⟩, WP_kept hP hq, va_K.moved hv X.1⟩, Nat.le_trans hS.1 hz, fun q h1 h2 => (hq q (Nat.lt_of_lt_of_le h1 hS.1)).trans (hS.2.1 q h1 h2)⟩) hS.2.2 (by decide) (by decide)
theorem dL_element_0 : decode cL_element 0 = .ok (.aload_n 3, 1) := by decide +kernel
theorem dL_element_1 : decode cL_element 1 = .ok (.iconst 0, 1) := by decide +kernel
theorem dL_element_2 : decode cL_element 2 = .ok (.aload_n 0, 1) := by decide +kernel
theorem dL_element_3 : decode cL_element 3 = .ok (.iload_n 1, 1) := by decide +kernel
theorem dL_element_4 : decode cL_element 4 = .ok (.iload_n 2, 1) := by decide +kernel
theorem dL_element_5 : decode cL_element 5 = .ok (.invokevirtual 7, 3) := by decide +kernel
theorem dL_element_8 : decode cL_element 8 = .ok (.lastore, 1) := by decide +kernel
theorem dL_element_9 : decode cL_element 9 = .ok (.goto 11, 3) := by decide +kernel
theorem dL_element_12 : decode cL_element 12 = .ok (.astore 4, 2) := by decide +kernel
theorem dL_element_14 : decode cL_element 14 = .ok (.iconst 1, 1) := by decide +kernel
theorem dL_element_15 : decode cL_element 15 = .ok (.ireturn, 1) := by decide +kernel
theorem dL_element_16 : decode cL_element 16 = .ok (.astore 4, 2) := by decide +kernel
theorem dL_element_18 : decode cL_element 18 = .ok (.iconst 2, 1) := by decide +kernel
theorem dL_element_19 : decode cL_element 19 = .ok (.ireturn, 1) := by decide +kernel
theorem dL_element_20 : decode cL_element 20 = .ok (.iconst 0, 1) := by decide +kernel
theorem dL_element_21 : decode cL_element 21 = .ok (.ireturn, 1) := by decide +kernel
set_option maxHeartbeats 4000000 in
set_option maxRecDepth 100000 in
theorem c_L_element (l : Launch) (hfl : l.stackTraces = false) (D : va_G) (cA : Nat → ClassId) (ad : Nat → Nat) (o : Int64) (σ : Mem) (d i : Int32) (hF : Fr σ) (sa1 sa2 sz : Nat) : Met l yL_element (WYW yL_element cL_element 5 (some .int) hhE) (RMc 7 1 6) (va_Pc [.ref (ad 66), .int d, .int i, .ref (ad 105)] (PWX D cA ad o σ sa1 sa2 sz)) (va_Qi (fun r (σ9 : Mem) => r = (if (d < 0 ∨ 8 ≤ d) then 1 else 2) ∧ σ9 = σ) (QW D cA ad o) (FA ad sz)) 1 6 (FA ad sz) := by
  refine va_MetW (cc := cL_element) (maxL := 5) (ret := some .int) (hh := hhE) (by decide) rfl ?_
  intro p e s m args below meth c s₁ B hml hv
  obtain ⟨rfl, ⟨hsz, hP, hK, hinj⟩, hXF⟩ := hv
  subst hsz
  have hl := lv_entry ([.ref (ad 66), .int d, .int i, .ref (ad 105)] : List Value) (n := 5) (Nat.le_of_ble_eq_true rfl)
  rw [lg_entry_eq]
  generalize (lg_sl ([.ref (ad 66), .int d, .int i, .ref (ad 105)] : List Value) ++ List.replicate (5 - (lg_sl ([.ref (ad 66), .int d, .int i, .ref (ad 105)] : List Value)).length) Slot.unset).toArray = ls at hl ⊢
  have hl : lv_has ls 5 [(0, .ref (ad 66)), (1, .int d), (2, .int i), (3, .ref (ad 105))] := hl
  have hts0 := atoms_spec (ws := WYW yL_element cL_element 5 (some .int) hhE) B.pre
  have hts : ∀ w ∈ tbg, w.before ([.ref (ad 66), .int d, .int i, .ref (ad 105)] : List Value).toArray s = true := fun w hw => hts0 w (List.mem_cons_of_mem _ hw)
  have htb : c.exceptionTable.toList = tableOf hhE := vx_table (x := yL_element) B (hts0 (Cond.codeWith yL_element cL_element 5 (some .int) hhE) List.mem_cons_self)
  have hown : s.vm.findClass RL = some m.cls := findClass_of_methodNamed B.named
  have hx := B.exec
  have hb := B.bytes
  have C0 : CX p s m ([.ref (ad 66), .int d, .int i, .ref (ad 105)] : List Value).toArray c cL_element 5 RL := ⟨hx, hb, hml, hown, hts⟩
  have X : WX D cA ad (FA ad s.heap.size) s := ⟨hK, hinj, fun i h => Or.inl ⟨i, h, rfl⟩, fun q h => Or.inr h⟩
  have hlk := B.notSynchronized
  have hr := B.returns
  have hS : va_S (FA ad s.heap.size) s.heap s.heap [] := va_S.rf
  refine lv_aload_n hx hb dL_element_0 rfl (lv_at hl 3 rfl) ?_
  refine lv_iconst (v := 0) hx hb dL_element_1 (by decide) ?_
  refine lv_aload_n hx hb dL_element_2 rfl (lv_at hl 0 rfl) ?_
  refine lv_iload_n hx hb dL_element_3 rfl (lv_at hl 1 rfl) ?_
  refine lv_iload_n hx hb dL_element_4 rfl (lv_at hl 2 rfl) ?_
  refine vx_calll (vx_runV (As := [.int d, .int i]) (rest := [.int 0, .ref (ad 105)]) C0 (x_X7_element l hfl D cA ad o σ d i hF sa1 sa2 s.heap.size) (cwV 2 hts L_L_7.1 rfl rfl rfl L_L_7.2 ⟨Nat.le_of_ble_eq_true rfl, Nat.le_of_ble_eq_true rfl⟩) ⟨PWX_blind, va_recv X.1 hP (q := (RX7, TX7, 8)) rfl (q0 := 66) (ci := 7) (fs := (List.range 8).map (fv ad (σ 66) 66)) (by rw [wl_get cA ad o σ (by decide), cel_obj (ci := 7) (n := 8) rfl (by decide)]), fun U hU hW => ⟨rfl, PW_of X hP hU hW, by rw [hU]; exact vx_Zq.moved hW.alike hXF.1, by rw [hU]; exact vx_Zq.moved hW.alike hXF.2.1, vk_R.warm hW hXF.2.2.1, vk_R.warm hW hXF.2.2.2.1, va_Nc.moved hW.alike hXF.2.2.2.2.1, FWp_moved hW.alike hXF.2.2.2.2.2⟩⟩ rfl rfl hl.1 rfl (lv_room (Nat.le_of_ble_eq_true rfl)) dL_element_5 ⟨Nat.le_of_ble_eq_true rfl, Nat.le_of_ble_eq_true rfl⟩) hS (fun q _ h => FA_sub X hS q h) (FA_sub X hS) (fun q _ h => FA_sub X hS q h) (fun E ce q9 u t H1 locs ht hvm hu hB hz hk hS hcell hv0 hcls => ?_) (fun r u t H1 locs ht hvm hw hB hz hk hS => absurd hw id)
  obtain ⟨hE, hP1, -⟩ := hB
  rw [ht] at hP1
  have hP1 : WP D cA ad o σ H1 := by rw [← show u = σ from hu]; exact hP1
  rcases hE with ⟨hd, rfl⟩ | ⟨hd, rfl⟩
  · refine vx_catch (own := RL) (name := "java/lang/IllegalArgumentException") hown [] ⟨0, 9, 12, 13⟩ [⟨0, 9, 16, 15⟩] (by rw [htb]; rfl) (fun z hz => absurd hz List.not_mem_nil) (by decide) (by decide) (hts _ (tm 1003 (by decide +kernel) (by decide +kernel))) (va_Nw.use rfl (hXF.2.2.2.2.2 _ (fwm 971 (by decide +kernel) (by decide +kernel)))) hcell hv0 hcls ?_
    refine lv_astore (lv' := [(4, .ref q9), (0, .ref (ad 66)), (1, .int d), (2, .int i), (3, .ref (ad 105))]) hx hb dL_element_12 hl (by decide) rfl (fun ls hl => ?_)
    refine lv_iconst (v := 1) hx hb dL_element_14 (by decide) ?_
    exact r_iret C0 X hP1 hS hr hlk dL_element_15 ⟨by rw [if_pos hd], rfl⟩
  · refine vx_catch (own := RL) (name := "java/lang/IllegalStateException") hown [⟨0, 9, 12, 13⟩] ⟨0, 9, 16, 15⟩ [] (by rw [htb]; rfl) (fun z hz => ?_) (by decide) (by decide) (hts _ (tm 1004 (by decide +kernel) (by decide +kernel))) (va_Nw.use rfl (hXF.2.2.2.2.2 _ (fwm 986 (by decide +kernel) (by decide +kernel)))) hcell hv0 hcls ?_
    · rw [List.mem_singleton.mp hz]
      exact Or.inr ⟨by decide, "java/lang/IllegalArgumentException", hts _ (tm 1003 (by decide +kernel) (by decide +kernel)), hXF.2.2.2.2.1⟩
    refine lv_astore (lv' := [(4, .ref q9), (0, .ref (ad 66)), (1, .int d), (2, .int i), (3, .ref (ad 105))]) hx hb dL_element_16 hl (by decide) rfl (fun ls hl => ?_)
    refine lv_iconst (v := 2) hx hb dL_element_18 (by decide) ?_
    exact r_iret C0 X hP1 hS hr hlk dL_element_19 ⟨by rw [if_neg hd], rfl⟩
