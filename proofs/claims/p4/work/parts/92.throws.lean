/-! toss, element: methods with tables, and a throw -/
def WYW (y : MethodName) (cc : ByteArray) (n : Nat) (ret : Option FieldType) (hh : List (Nat × Nat × Nat × Nat)) : List Cond := .codeWith y cc n ret hh :: tbg
theorem WYW_good {y : MethodName} {cc : ByteArray} {n : Nat} {ret : Option FieldType} {hh : List (Nat × Nat × Nat × Nat)} (h : Cond.codeWith y cc n ret hh ∈ tbg) : ∀ w ∈ WYW y cc n ret hh, w ∈ tbg := fun w hw => (List.mem_cons.mp hw).elim (fun q => q ▸ h) id
def hhT : List (Nat × Nat × Nat × Nat) := [(33, 46, 47, 319), (33, 46, 64, 290), (33, 46, 73, 297)]
def hhE : List (Nat × Nat × Nat × Nat) := [(0, 9, 12, 13), (0, 9, 16, 15)]
set_option maxRecDepth 100000 in
theorem wcT : Cond.codeWith yX7_toss cX7_toss 4 (some .int) hhT ∈ tbg := tmc sb4 121 rfl (by decide +kernel)
set_option maxRecDepth 100000 in
theorem wcE : Cond.codeWith yL_element cL_element 5 (some .int) hhE ∈ tbg := tmc sb4 227 rfl (by decide +kernel)
def xnames : List String := ["java/lang/RuntimeException", "java/lang/Exception"]
def FWs : List Cond := lw_tbl.filter (fun w => w.faceAtom && w.onTables)
def FWp (U : State) : Prop := ∀ w ∈ FWs, va_Nw w U
theorem FWp_moved {u U : State} (hvm : u.vm.Alike U.vm) (h : FWp u) : FWp U := by
  intro w hw
  have hf := (List.mem_filter.mp hw).2
  simp only [Bool.and_eq_true] at hf
  have h1 := Cond.faceAtom_setVm (args := #[]) hvm w hf.1 (h w hw)
  exact va_tabs (u := u.setVm U.vm) (U := U) hf.2 rfl h1
theorem fwm {w : Cond} (i : Nat) (h : lw_tbl[i]? = some w) (hg : (w.faceAtom && w.onTables) = true) : w ∈ FWs := List.mem_filter.mpr ⟨List.mem_of_getElem? h, hg⟩
theorem xatX {L : List Cond} (h1 : ∀ w ∈ L, w ∈ lw_tbl) (h2 : L.all (fun w => goodWord w || (w.faceAtom && w.onTables)) = true) {args : Array Value} {s : State} (hts : ∀ w ∈ tbg, w.before args s = true) (hf : FWp s) : ∀ w ∈ L, w.before args s = true := by
  intro w hw
  have h3 := List.all_eq_true.mp h2 w hw
  rw [Bool.or_eq_true] at h3
  rcases h3 with h3 | h3
  · exact hts w (List.mem_filter.mpr ⟨h1 w hw, h3⟩)
  · have h4 := h3
    simp only [Bool.and_eq_true] at h4
    exact va_Nw.use h4.2 (hf w (List.mem_filter.mpr ⟨h1 w hw, h3⟩))
theorem xat1 : (∀ w ∈ vx_atS RX7 294 "java/lang/IllegalArgumentException" xnames, w ∈ lw_tbl) ∧ (vx_atS RX7 294 "java/lang/IllegalArgumentException" xnames).all (fun w => goodWord w || (w.faceAtom && w.onTables)) = true := ⟨sbx (by decide +kernel), by decide +kernel⟩
theorem xat2 : (∀ w ∈ vx_atS RX7 301 "java/lang/IllegalStateException" xnames, w ∈ lw_tbl) ∧ (vx_atS RX7 301 "java/lang/IllegalStateException" xnames).all (fun w => goodWord w || (w.faceAtom && w.onTables)) = true := ⟨sbx (by decide +kernel), by decide +kernel⟩
theorem xgd1 : ∀ w ∈ Cond.classLink RX7 290 "java/lang/IllegalArgumentException" :: Cond.initialized "java/lang/IllegalArgumentException" :: vx_atS RX7 294 "java/lang/IllegalArgumentException" xnames, vx_ot w = true := by decide +kernel
theorem xgd2 : ∀ w ∈ Cond.classLink RX7 297 "java/lang/IllegalStateException" :: Cond.initialized "java/lang/IllegalStateException" :: vx_atS RX7 301 "java/lang/IllegalStateException" xnames, vx_ot w = true := by decide +kernel
theorem WP_kept {D : va_G} {cA : Nat → ClassId} {ad : Nat → Nat} {o : Int64} {σ : Mem} {H H1 : Heap} (h : WP D cA ad o σ H) (hq : ∀ q : Nat, q < H.size → H1[q]? = H[q]?) : WP D cA ad o σ H1 := va_P.kept h (fun k q hk => hq q.1 (h k q hk).lt)
/-- the strings of the throws -/
def XS (sa : Nat → Nat) (U : State) : Prop := (vk_R "WhoBacks" 292 "no such shelf" (sa 0) U ∧ vk_R "WhoBacks" 299 "no row" (sa 1) U ∧ vk_R "WhoBacks" 302 "no such place" (sa 2) U) ∧ vk_R "WhoBacks" 323 "the best one fails" (sa 3) U ∧ vk_R "WhoBacks" 326 "the told one fails" (sa 4) U ∧ vk_R "WhoBacks" 328 "the rule fails" (sa 5) U
theorem XS_warm {sa : Nat → Nat} {s U : State} (hW : s.WarmedH U.vm) (h : XS sa s) : XS sa U := ⟨⟨vk_R.warm hW h.1.1, vk_R.warm hW h.1.2.1, vk_R.warm hW h.1.2.2⟩, vk_R.warm hW h.2.1, vk_R.warm hW h.2.2.1, vk_R.warm hW h.2.2.2⟩
theorem XS_same {sa : Nat → Nat} {u U : State} (hv : U.vm = u.vm) (h : XS sa u) : XS sa U := ⟨⟨vk_R.same hv h.1.1, vk_R.same hv h.1.2.1, vk_R.same hv h.1.2.2⟩, vk_R.same hv h.2.1, vk_R.same hv h.2.2.1, vk_R.same hv h.2.2.2⟩
/-- no throw passes for another -/
def XN (U : State) : Prop := va_Nc "java/lang/IllegalStateException" "java/lang/IllegalArgumentException" U ∧ va_Nc "java/lang/IllegalArgumentException" "java/lang/UnsupportedOperationException" U ∧ va_Nc "java/lang/IllegalStateException" "java/lang/UnsupportedOperationException" U
theorem XN_moved {u U : State} (hvm : u.vm.Alike U.vm) (h : XN u) : XN U := ⟨va_Nc.moved hvm h.1, va_Nc.moved hvm h.2.1, va_Nc.moved hvm h.2.2⟩
/-- what a throw needs of the start -/
def XF (ad : Nat → Nat) (sa : Nat → Nat) (sz : Nat) (U : State) : Prop := vx_Zq Bundle.tN "UNASSIGNED_STACK" Bundle.steD (FA ad sz) U U.heap ∧ vx_Zq Bundle.tN "SUPPRESSED_SENTINEL" Bundle.listD (FA ad sz) U U.heap ∧ XS sa U ∧ XN U ∧ FWp U
def PWX (D : va_G) (cA : Nat → ClassId) (ad : Nat → Nat) (o : Int64) (σ : Mem) (sa : Nat → Nat) (sz : Nat) : State → Prop := fun U => PW D cA ad o σ sz U ∧ XF ad sa sz U
theorem PWX_blind {D : va_G} {cA : Nat → ClassId} {ad : Nat → Nat} {o : Int64} {σ : Mem} {sa : Nat → Nat} {sz : Nat} {As : List Value} : FrameBlind (va_Pc As (PWX D cA ad o σ sa sz)) := fun a U g mk q => ⟨q.1, (PW_blind (As := As) a U g mk ⟨q.1, q.2.1⟩).2, vx_Zq.moved (u := U) (U := U.calling g mk a) (Vm.Alike.refl U.vm) q.2.2.1, vx_Zq.moved (u := U) (U := U.calling g mk a) (Vm.Alike.refl U.vm) q.2.2.2.1, XS_same rfl q.2.2.2.2.1, XN_moved (u := U) (U := U.calling g mk a) (Vm.Alike.refl U.vm) q.2.2.2.2.2.1, FWp_moved (u := U) (U := U.calling g mk a) (Vm.Alike.refl U.vm) q.2.2.2.2.2.2⟩
theorem ct_ofW {l : Launch} {cc : ByteArray} {D : va_G} {cA : Nat → ClassId} {ad : Nat → Nat} {σ : Mem} {o : Int64} {y : MethodName} {own : String} (ho : y.cls = own) {n k : Nat} {ret : Option FieldType} {hh : List (Nat × Nat × Nat × Nat)} {As : List Value} {Qf : (Nat → Prop) → Array Value → State → Outcome → State → Prop} (hy : plainName y.cls = true) (hn : (lg_sl As).length ≤ n)
    (body : ∀ (p : Program) (e : Env) (s : State) (m : MethodId) (below : List Frame) (meth : Method) (c : Code) (ls : Array Slot), CX p s m As.toArray c cc n own → WX D cA ad (FA ad s.heap.size) s → meth.sig.returnType = ret → meth.locks = false → WP D cA ad o σ s.heap → lv_has ls n (lv_args 0 As) → W p l e (RM k) s m As.toArray below meth c s.heap [] 0 0 (MQ below (Qf (FA ad s.heap.size)) As.toArray s 0 0 (FA ad s.heap.size)) (F0 m 0 ls [])) (sz : Nat) :
    Met l y (WYW y cc n ret hh) (RM k) (va_Pc As (PW D cA ad o σ sz)) (Qf (FA ad sz)) 0 0 (FA ad sz) := by
  refine va_MetW (cc := cc) (maxL := n) (ret := ret) (hh := hh) hy rfl ?_
  intro p e s m args below meth c s₁ B hml hv
  obtain ⟨rfl, hsz, hP, hK, hinj⟩ := hv
  subst hsz
  have hl := lv_entry As (n := n) hn
  rw [lg_entry_eq]
  generalize (lg_sl As ++ List.replicate (n - (lg_sl As).length) Slot.unset).toArray = ls at hl ⊢
  have hts := atoms_spec (ws := WYW y cc n ret hh) B.pre
  exact body p e s m below meth c ls ⟨B.exec, B.bytes, hml, ho ▸ findClass_of_methodNamed B.named, fun w hw => hts w (List.mem_cons_of_mem _ hw)⟩ ⟨hK, hinj, fun i h => Or.inl ⟨i, h, rfl⟩, fun q h => Or.inr h⟩ B.returns B.notSynchronized hP hl
/-- an element that is there -/
def EOK (σ : Mem) (d i : Int32) (j k : Nat) : Prop := (j < 8 ∧ k < 100) ∧ (d = nI j ∧ i = nI k) ∧ σ (68 + j) 0 = 2 ∧ ¬ σ (68 + j) 4 ≤ nI k
def bB_cX7_element : Nat := 0xad852e1ccf00b42dbf2d01b72e0113592901bb0e009a1c01b61c2dbf2d01b72b0113592901bb0e009f053600b42dbf2601b7240113592201bb0e00c72d4e3200b61b2a
theorem yB_cX7_element : BYS cX7_element 67 bB_cX7_element := BYS_of (by decide +kernel)
theorem dX7_element_0 : decode cX7_element 0 = .ok (.aload_n 0, 1) := D_42 yB_cX7_element rfl rfl
theorem dX7_element_1 : decode cX7_element 1 = .ok (.iload_n 1, 1) := D_27 yB_cX7_element rfl rfl
theorem dX7_element_2 : decode cX7_element 2 = .ok (.invokevirtual 50, 3) := D_182 yB_cX7_element rfl rfl rfl
theorem dX7_element_5 : decode cX7_element 5 = .ok (.astore_n 3, 1) := D_78 yB_cX7_element rfl rfl
theorem dX7_element_6 : decode cX7_element 6 = .ok (.aload_n 3, 1) := D_45 yB_cX7_element rfl rfl
theorem dX7_element_7 : decode cX7_element 7 = .ok (.ifnonnull 14, 3) := D_199 yB_cX7_element rfl rfl (sg_p (m := 32768) (N := 14) rfl rfl rfl)
theorem dX7_element_10 : decode cX7_element 10 = .ok (.new 290, 3) := D_187 yB_cX7_element rfl rfl rfl
theorem dX7_element_13 : decode cX7_element 13 = .ok (.dup, 1) := D_89 yB_cX7_element rfl rfl
theorem dX7_element_14 : decode cX7_element 14 = .ok (.ldc_w 292, 3) := D_19 yB_cX7_element rfl rfl rfl
theorem dX7_element_17 : decode cX7_element 17 = .ok (.invokespecial 294, 3) := D_183 yB_cX7_element rfl rfl rfl
theorem dX7_element_20 : decode cX7_element 20 = .ok (.athrow, 1) := D_191 yB_cX7_element rfl rfl
theorem dX7_element_21 : decode cX7_element 21 = .ok (.aload_n 3, 1) := D_45 yB_cX7_element rfl rfl
theorem dX7_element_22 : decode cX7_element 22 = .ok (.getfield 54, 3) := D_180 yB_cX7_element rfl rfl rfl
theorem dX7_element_25 : decode cX7_element 25 = .ok (.iconst 2, 1) := D_5 yB_cX7_element rfl rfl
theorem dX7_element_26 : decode cX7_element 26 = .ok (.if_icmp .eq 14, 3) := D_159 yB_cX7_element rfl rfl (sg_p (m := 32768) (N := 14) rfl rfl rfl)
theorem dX7_element_29 : decode cX7_element 29 = .ok (.new 297, 3) := D_187 yB_cX7_element rfl rfl rfl
theorem dX7_element_32 : decode cX7_element 32 = .ok (.dup, 1) := D_89 yB_cX7_element rfl rfl
theorem dX7_element_33 : decode cX7_element 33 = .ok (.ldc_w 299, 3) := D_19 yB_cX7_element rfl rfl rfl
theorem dX7_element_36 : decode cX7_element 36 = .ok (.invokespecial 301, 3) := D_183 yB_cX7_element rfl rfl rfl
theorem dX7_element_39 : decode cX7_element 39 = .ok (.athrow, 1) := D_191 yB_cX7_element rfl rfl
theorem dX7_element_40 : decode cX7_element 40 = .ok (.aload_n 3, 1) := D_45 yB_cX7_element rfl rfl
theorem dX7_element_41 : decode cX7_element 41 = .ok (.iload_n 2, 1) := D_28 yB_cX7_element rfl rfl
theorem dX7_element_42 : decode cX7_element 42 = .ok (.invokevirtual 284, 3) := D_182 yB_cX7_element rfl rfl rfl
theorem dX7_element_45 : decode cX7_element 45 = .ok (.ifCond .ne 14, 3) := D_154 yB_cX7_element rfl rfl (sg_p (m := 32768) (N := 14) rfl rfl rfl)
theorem dX7_element_48 : decode cX7_element 48 = .ok (.new 297, 3) := D_187 yB_cX7_element rfl rfl rfl
theorem dX7_element_51 : decode cX7_element 51 = .ok (.dup, 1) := D_89 yB_cX7_element rfl rfl
theorem dX7_element_52 : decode cX7_element 52 = .ok (.ldc_w 302, 3) := D_19 yB_cX7_element rfl rfl rfl
theorem dX7_element_55 : decode cX7_element 55 = .ok (.invokespecial 301, 3) := D_183 yB_cX7_element rfl rfl rfl
theorem dX7_element_58 : decode cX7_element 58 = .ok (.athrow, 1) := D_191 yB_cX7_element rfl rfl
theorem dX7_element_59 : decode cX7_element 59 = .ok (.aload_n 3, 1) := D_45 yB_cX7_element rfl rfl
theorem dX7_element_60 : decode cX7_element 60 = .ok (.getfield 207, 3) := D_180 yB_cX7_element rfl rfl rfl
theorem dX7_element_63 : decode cX7_element 63 = .ok (.iload_n 2, 1) := D_28 yB_cX7_element rfl rfl
theorem dX7_element_64 : decode cX7_element 64 = .ok (.iaload, 1) := D_46 yB_cX7_element rfl rfl
theorem dX7_element_65 : decode cX7_element 65 = .ok (.i2l, 1) := D_133 yB_cX7_element rfl rfl
theorem dX7_element_66 : decode cX7_element 66 = .ok (.lreturn, 1) := D_173 yB_cX7_element rfl rfl
set_option maxHeartbeats 4000000 in
set_option maxRecDepth 100000 in
theorem x_X7_element (l : Launch) (hfl : l.stackTraces = false) (D : va_G) (cA : Nat → ClassId) (ad : Nat → Nat) (o : Int64) (σ : Mem) (d i : Int32) (sa : Nat → Nat) (sz : Nat) : vx_Met l yX7_element (WY yX7_element cX7_element 4 (some .long)) (RMc 6 1 6) (va_Pc [.ref (ad 66), .int d, .int i] (PWX D cA ad o σ sa sz)) (va_Ql (fun r (σ9 : Mem) => (∃ j k, EOK σ d i j k ∧ r = (σ (76 + j) k).toInt64) ∧ σ9 = σ) (QW D cA ad o) (FA ad sz)) (vx_X (fun u : Mem => u = σ) (fun E u t => (((d < 0 ∨ 8 ≤ d) ∧ E = "java/lang/IllegalArgumentException") ∨ (¬ (d < 0 ∨ 8 ≤ d) ∧ (¬ ∃ j k, EOK σ d i j k) ∧ E = "java/lang/IllegalStateException")) ∧ QW D cA ad o u t) (FA ad sz)) 1 6 (FA ad sz) := by
  refine vx_ofW (cc := cX7_element) (maxL := 4) (ret := some .long) (by decide) rfl ?_
  intro p e s m args below meth c s₁ B hml htab hv
  obtain ⟨rfl, ⟨hsz, hP, hK, hinj⟩, hU, hN, hXS, hXN, hFW⟩ := hv
  subst hsz
  have hl := lv_entry ([.ref (ad 66), .int d, .int i] : List Value) (n := 4) (Nat.le_of_ble_eq_true rfl)
  rw [lg_entry_eq]
  generalize (lg_sl ([.ref (ad 66), .int d, .int i] : List Value) ++ List.replicate (4 - (lg_sl ([.ref (ad 66), .int d, .int i] : List Value)).length) Slot.unset).toArray = ls at hl ⊢
  have hl : lv_has ls 4 [(0, .ref (ad 66)), (1, .int d), (2, .int i)] := hl
  have hts0 := atoms_spec (ws := WY yX7_element cX7_element 4 (some .long)) B.pre
  have hts : ∀ w ∈ tbg, w.before ([.ref (ad 66), .int d, .int i] : List Value).toArray s = true := fun w hw => hts0 w (List.mem_cons_of_mem _ hw)
  have hown : s.vm.findClass RX7 = some m.cls := findClass_of_methodNamed B.named
  have hx := B.exec
  have hb := B.bytes
  have C0 : CX p s m ([.ref (ad 66), .int d, .int i] : List Value).toArray c cX7_element 4 RX7 := ⟨hx, hb, hml, hown, hts⟩
  have X : WX D cA ad (FA ad s.heap.size) s := ⟨hK, hinj, fun i h => Or.inl ⟨i, h, rfl⟩, fun q h => Or.inr h⟩
  have hlk := B.notSynchronized
  have hS : va_S (FA ad s.heap.size) s.heap s.heap [] := va_S.rf
  refine lv_aload_n hx hb dX7_element_0 rfl (lv_at hl 0 rfl) ?_
  refine lv_iload_n hx hb dX7_element_1 rfl (lv_at hl 1 rfl) ?_
  refine r_cq X hS (r_runV (As := [.int d]) (rest := []) C0 X hP L_X7_50 (fun sz => c_X7_shelfAt l D cA ad o σ d  sz) (show 66 < 106 ∧ kd 66 = (7, 8) from ⟨by decide, rfl⟩).1 (show 66 < 106 ∧ kd 66 = (7, 8) from ⟨by decide, rfl⟩).2 (by decide) rfl ⟨Nat.le_of_ble_eq_true rfl, Nat.le_of_ble_eq_true rfl⟩ rfl hl.1 rfl (Nat.le_of_ble_eq_true rfl) dX7_element_2 ⟨Nat.zero_le _, Nat.zero_le _⟩) (fun σ9 H locs hw hP hS => ?_) (fun x9 σ9 H locs hw hP hS => ?_)
  · rw [hw.1] at hP
    have h_1 := hw.2
    refine lv_astore_nN (lv' := [(3, .null), (0, .ref (ad 66)), (1, .int d), (2, .int i)]) hx hb dX7_element_5 rfl hl (by decide) rfl (fun ls hl => ?_)
    refine lv_aload_nN hx hb dX7_element_6 rfl (lv_at hl 0 rfl) ?_
    refine lv_ifnonnullN hx hb dX7_element_7 ?_
    exact vx_throwSW (own := RX7) (cls := "java/lang/IllegalArgumentException") (text := "no such shelf") (names := xnames) (ik := 290) (is := 292) (ic := 294) hx hb hfl hown (by decide +kernel) (by decide +kernel) (hts _ (tmc sb4 123 (by decide +kernel) (by decide +kernel))) (hts _ (tmc sb1 16 (by decide +kernel) (by decide +kernel))) hXS.1.1 (xatX xat1.1 xat1.2 hts hFW) xgd1 hU hN hS (by rw [hml]; exact hl.1) dX7_element_10 dX7_element_13 dX7_element_14 dX7_element_17 dX7_element_20 (fun x hx => (htab x hx).elim) (by decide) (by decide) (by decide) (by decide) hlk (fun t hv hz hq => ⟨σ, rfl, ⟨Or.inl ⟨h_1, rfl⟩, WP_kept hP hq, va_K.moved hv X.1⟩, Nat.le_trans hS.1 hz, fun q h1 h2 => (hq q (Nat.lt_of_lt_of_le h1 hS.1)).trans (hS.2.1 q h1 h2)⟩) hS.2.2 (by decide) (by decide)
  · rw [hw.1] at hP
    obtain ⟨-, j_2, hj_2, ej_2, rfl⟩ := hw
    have h_1 : ¬ (d < 0 ∨ 8 ≤ d) := by rw [ej_2]; exact nosh hj_2
    have hjj : ∀ j : Nat, j < 8 → d = nI j → j = j_2 := fun j hj e => nI_inj (e.symm.trans ej_2) (by omega) (by omega)
    refine lv_astore_n (lv' := [(3, .ref (ad (68 + j_2))), (0, .ref (ad 66)), (1, .int d), (2, .int i)]) hx hb dX7_element_5 rfl hl (by decide) rfl (fun ls hl => ?_)
    refine lv_aload_n hx hb dX7_element_6 rfl (lv_at hl 0 rfl) ?_
    refine lv_ifnonnull (tgt := 21) hx hb dX7_element_7 (by decide) ?_
    refine lv_aload_n hx hb dX7_element_21 rfl (lv_at hl 0 rfl) ?_
    refine gf_X7_54 C0 X hP (68 + j_2) (kdS j_2 hj_2) dX7_element_22 ?_
    refine lv_iconst (v := 2) hx hb dX7_element_25 (by decide) ?_
    refine lv_icmp_eq (tgt := 40) hx hb dX7_element_26 (by decide) (fun c_3 => ?_) (fun c_3 => ?_)
    · refine lv_aload_n hx hb dX7_element_40 rfl (lv_at hl 0 rfl) ?_
      refine lv_iload_n hx hb dX7_element_41 rfl (lv_at hl 3 rfl) ?_
      obtain ⟨r_4, er_4⟩ : ∃ r, F_X5_hasElement σ j_2 i = some r := by
        unfold F_X5_hasElement
        by_cases q1 : i < 0
        · exact ⟨0, if_pos q1⟩
        · by_cases q2 : σ (68 + j_2) 4 ≤ i
          · exact ⟨0, by rw [if_neg q1, if_pos q2]⟩
          · by_cases q3 : (100 : Int32) ≤ i
            · exact ⟨0, by rw [if_neg q1, if_neg q2, if_pos q3]⟩
            · exact ⟨1, by rw [if_neg q1, if_neg q2, if_neg q3]⟩
      refine r_ci X hS (r_runV (As := [.int i]) (rest := []) C0 X hP L_X7_284 (fun sz => c_X5_hasElement l D cA ad o σ j_2 i hj_2 r_4 er_4 sz) (kdS j_2 hj_2).1 (kdS j_2 hj_2).2 (by decide) rfl ⟨Nat.le_of_ble_eq_true rfl, Nat.le_of_ble_eq_true rfl⟩ rfl hl.1 rfl (Nat.le_of_ble_eq_true rfl) dX7_element_42 ⟨Nat.zero_le _, Nat.zero_le _⟩) (fun r9 σ9 H locs hw hP hS => ?_)
      rw [hw.2] at hP
      rw [hw.1]
      refine lv_if_ne (tgt := 59) hx hb dX7_element_45 (by decide) (fun c_5 => ?_) (fun c_5 => ?_)
      · obtain ⟨k_6, hk_6, ek_6, hk_7⟩ : ∃ k : Nat, k < 100 ∧ i = nI k ∧ ¬ σ (68 + j_2) 4 ≤ nI k := by
          unfold F_X5_hasElement at er_4
          split at er_4
          · exact absurd (Option.some.inj er_4).symm c_5
          · rename_i q1
            split at er_4
            · exact absurd (Option.some.inj er_4).symm c_5
            · rename_i q2
              split at er_4
              · exact absurd (Option.some.inj er_4).symm c_5
              · rename_i q3
                obtain ⟨k, hk, rfl⟩ := ixN (M := 100) (n := 100) (by decide) q1 (Int32.not_le.mp q3)
                exact ⟨k, hk, rfl, q2⟩
        refine lv_aload_n hx hb dX7_element_59 rfl (lv_at hl 0 rfl) ?_
        refine gf_X7_207 C0 X hP (68 + j_2) (q := (76 + j_2)) (kdS j_2 hj_2) (by omega) (lkS5 j_2 hj_2) dX7_element_60 ?_
        refine lv_iload_n hx hb dX7_element_63 rfl (lv_at hl 3 rfl) ?_
        refine r_ialdN C0 X hP (76 + j_2) (k := k_6) (kdV j_2 hj_2) ek_6 hk_6 dX7_element_64 ?_
        refine lv_i2l (v := (σ (76 + j_2) k_6).toInt64) hx hb dX7_element_65 rfl ?_
        refine vx_ret (W.widen (k := 1) (n := 6) (Nat.zero_le _) (Nat.zero_le _) ?_)
        exact r_lret C0 X hP hS B.returns hlk dX7_element_66 ⟨⟨j_2, k_6, ⟨⟨hj_2, hk_6⟩, ⟨ej_2, ek_6⟩, c_3, hk_7⟩, rfl⟩, rfl⟩
      · have hno : ¬ ∃ j k, EOK σ d i j k := by
          rintro ⟨j, k, ⟨h8, h100⟩, ⟨e1, e2⟩, e3, e4⟩
          obtain rfl := hjj j h8 e1
          unfold F_X5_hasElement at er_4
          rw [e2, if_neg (nI_pos (by omega)), if_neg e4, if_neg (show ¬ (100 : Int32) ≤ nI k from nI_ge (a := k) (b := 100) h100 (by decide))] at er_4
          rw [c_5] at er_4
          exact absurd (Option.some.inj er_4) (by decide)
        exact vx_throwSW (own := RX7) (cls := "java/lang/IllegalStateException") (text := "no such place") (names := xnames) (ik := 297) (is := 302) (ic := 301) hx hb hfl hown (by decide +kernel) (by decide +kernel) (hts _ (tmc sb4 124 (by decide +kernel) (by decide +kernel))) (hts _ (tmc sb1 17 (by decide +kernel) (by decide +kernel))) hXS.1.2.2 (xatX xat2.1 xat2.2 hts hFW) xgd2 hU hN hS (by rw [hml]; exact hl.1) dX7_element_48 dX7_element_51 dX7_element_52 dX7_element_55 dX7_element_58 (fun x hx => (htab x hx).elim) (by decide) (by decide) (by decide) (by decide) hlk (fun t hv hz hq => ⟨σ, rfl, ⟨Or.inr ⟨h_1, hno, rfl⟩, WP_kept hP hq, va_K.moved hv X.1⟩, Nat.le_trans hS.1 hz, fun q h1 h2 => (hq q (Nat.lt_of_lt_of_le h1 hS.1)).trans (hS.2.1 q h1 h2)⟩) hS.2.2 (by decide) (by decide)
    · have hno : ¬ ∃ j k, EOK σ d i j k := by
        rintro ⟨j, k, ⟨h8, -⟩, ⟨e1, -⟩, e3, -⟩
        obtain rfl := hjj j h8 e1
        exact c_3 e3
      exact vx_throwSW (own := RX7) (cls := "java/lang/IllegalStateException") (text := "no row") (names := xnames) (ik := 297) (is := 299) (ic := 301) hx hb hfl hown (by decide +kernel) (by decide +kernel) (hts _ (tmc sb4 124 (by decide +kernel) (by decide +kernel))) (hts _ (tmc sb1 17 (by decide +kernel) (by decide +kernel))) hXS.1.2.1 (xatX xat2.1 xat2.2 hts hFW) xgd2 hU hN hS (by rw [hml]; exact hl.1) dX7_element_29 dX7_element_32 dX7_element_33 dX7_element_36 dX7_element_39 (fun x hx => (htab x hx).elim) (by decide) (by decide) (by decide) (by decide) hlk (fun t hv hz hq => ⟨σ, rfl, ⟨Or.inr ⟨h_1, hno, rfl⟩, WP_kept hP hq, va_K.moved hv X.1⟩, Nat.le_trans hS.1 hz, fun q h1 h2 => (hq q (Nat.lt_of_lt_of_le h1 hS.1)).trans (hS.2.1 q h1 h2)⟩) hS.2.2 (by decide) (by decide)
