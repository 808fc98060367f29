section
/-! toss, element: methods with tables, and a throw -/
def WYW (y : MethodName) (cc : ByteArray) (n : Nat) (ret : Option FieldType) (hh : List (Nat × Nat × Nat × Nat)) : List Cond := .codeWith y cc n ret hh :: tbg
theorem WYW_good {y : MethodName} {cc : ByteArray} {n : Nat} {ret : Option FieldType} {hh : List (Nat × Nat × Nat × Nat)} (h : Cond.codeWith y cc n ret hh ∈ tbg) : ∀ w ∈ WYW y cc n ret hh, w ∈ tbg := fun w hw => (List.mem_cons.mp hw).elim (fun q => q ▸ h) id
def hhT : List (Nat × Nat × Nat × Nat) := [(33, 46, 47, 319), (33, 46, 64, 290), (33, 46, 73, 297)]
def hhE : List (Nat × Nat × Nat × Nat) := [(0, 9, 12, 13), (0, 9, 16, 15)]
set_option maxRecDepth 100000 in
theorem wcT : Cond.codeWith yX7_toss cX7_toss 4 (some .int) hhT ∈ tbg := tmc sb4_7 9 rfl (by decide +kernel)
set_option maxRecDepth 100000 in
theorem wcE : Cond.codeWith yL_element cL_element 5 (some .int) hhE ∈ tbg := tmc sb4_14 3 rfl (by decide +kernel)
def xnames : List String := ["java/lang/RuntimeException", "java/lang/Exception"]
def FWs : List Cond := lw_tbl.filter (fun w => w.faceAtom && w.onTables)
def FWp (U : State) : Prop := ∀ w ∈ FWs, va_Nw w U
theorem FWp_moved {u U : State} (hvm : u.vm.Alike U.vm) (h : FWp u) : FWp U := by
  intro w hw
  have hf := (List.mem_filter.mp hw).2
  simp only [Bool.and_eq_true] at hf
  have h1 := Cond.faceAtom_setVm (args := #[]) hvm w hf.1 (h w hw)
  exact va_tabs (u := u.setVm U.vm) (U := U) hf.2 rfl h1
theorem fwm {w : Cond} (i : Nat) (h : lw_tbl[i]? = some w) (hg : (w.faceAtom && w.onTables) = true) : w ∈ FWs := List.mem_filter.mpr ⟨List.mem_of_getElem? h, hg⟩
theorem xatX {L : List Cond} (h1 : ∀ w ∈ L, w ∈ lw_tbl) (h2 : L.all (fun w => goodWord w || (w.faceAtom && w.onTables)) = true) {args : Array Value} {s : State} (hts : ∀ w ∈ tbg, w.before args s = true) (hf : FWp s) : ∀ w ∈ L, w.before args s = true := by
  intro w hw
  have h3 := List.all_eq_true.mp h2 w hw
  rw [Bool.or_eq_true] at h3
  rcases h3 with h3 | h3
  · exact hts w (List.mem_filter.mpr ⟨h1 w hw, h3⟩)
  · have h4 := h3
    simp only [Bool.and_eq_true] at h4
    exact va_Nw.use h4.2 (hf w (List.mem_filter.mpr ⟨h1 w hw, h3⟩))
theorem xat1 : (∀ w ∈ vx_atS RX7 294 "java/lang/IllegalArgumentException" xnames, w ∈ lw_tbl) ∧ (vx_atS RX7 294 "java/lang/IllegalArgumentException" xnames).all (fun w => goodWord w || (w.faceAtom && w.onTables)) = true := ⟨sbx (by decide +kernel), by decide +kernel⟩
theorem xat2 : (∀ w ∈ vx_atS RX7 301 "java/lang/IllegalStateException" xnames, w ∈ lw_tbl) ∧ (vx_atS RX7 301 "java/lang/IllegalStateException" xnames).all (fun w => goodWord w || (w.faceAtom && w.onTables)) = true := ⟨sbx (by decide +kernel), by decide +kernel⟩
theorem xgd1 : ∀ w ∈ Cond.classLink RX7 290 "java/lang/IllegalArgumentException" :: Cond.initialized "java/lang/IllegalArgumentException" :: vx_atS RX7 294 "java/lang/IllegalArgumentException" xnames, vx_ot w = true := by decide +kernel
theorem xgd2 : ∀ w ∈ Cond.classLink RX7 297 "java/lang/IllegalStateException" :: Cond.initialized "java/lang/IllegalStateException" :: vx_atS RX7 301 "java/lang/IllegalStateException" xnames, vx_ot w = true := by decide +kernel
theorem WP_kept {D : va_G} {cA : Nat → ClassId} {ad : Nat → Nat} {o : Int64} {σ : Mem} {H H1 : Heap} (h : WP D cA ad o σ H) (hq : ∀ q : Nat, q < H.size → H1[q]? = H[q]?) : WP D cA ad o σ H1 := va_P.kept h (fun k q hk => hq q.1 (h k q hk).lt)
/-- the strings of the throws -/
def XS (sa : Nat → Nat) (U : State) : Prop := (vk_R "WhoBacks" 292 "no such shelf" (sa 0) U ∧ vk_R "WhoBacks" 299 "no row" (sa 1) U ∧ vk_R "WhoBacks" 302 "no such place" (sa 2) U) ∧ vk_R "WhoBacks" 323 "the best one fails" (sa 3) U ∧ vk_R "WhoBacks" 326 "the told one fails" (sa 4) U ∧ vk_R "WhoBacks" 328 "the rule fails" (sa 5) U
theorem XS_warm {sa : Nat → Nat} {s U : State} (hW : s.WarmedH U.vm) (h : XS sa s) : XS sa U := ⟨⟨vk_R.warm hW h.1.1, vk_R.warm hW h.1.2.1, vk_R.warm hW h.1.2.2⟩, vk_R.warm hW h.2.1, vk_R.warm hW h.2.2.1, vk_R.warm hW h.2.2.2⟩
theorem XS_same {sa : Nat → Nat} {u U : State} (hv : U.vm = u.vm) (h : XS sa u) : XS sa U := ⟨⟨vk_R.same hv h.1.1, vk_R.same hv h.1.2.1, vk_R.same hv h.1.2.2⟩, vk_R.same hv h.2.1, vk_R.same hv h.2.2.1, vk_R.same hv h.2.2.2⟩
/-- no throw passes for another -/
def XN (U : State) : Prop := va_Nc "java/lang/IllegalStateException" "java/lang/IllegalArgumentException" U ∧ va_Nc "java/lang/IllegalArgumentException" "java/lang/UnsupportedOperationException" U ∧ va_Nc "java/lang/IllegalStateException" "java/lang/UnsupportedOperationException" U
theorem XN_moved {u U : State} (hvm : u.vm.Alike U.vm) (h : XN u) : XN U := ⟨va_Nc.moved hvm h.1, va_Nc.moved hvm h.2.1, va_Nc.moved hvm h.2.2⟩
/-- what a throw needs of the start -/
def XF (ad : Nat → Nat) (sa : Nat → Nat) (sz : Nat) (U : State) : Prop := vx_Zq Bundle.tN "UNASSIGNED_STACK" Bundle.steD (FA ad sz) U U.heap ∧ vx_Zq Bundle.tN "SUPPRESSED_SENTINEL" Bundle.listD (FA ad sz) U U.heap ∧ XS sa U ∧ XN U ∧ FWp U
def PWX (D : va_G) (cA : Nat → ClassId) (ad : Nat → Nat) (o : Int64) (σ : Mem) (sa : Nat → Nat) (sz : Nat) : State → Prop := fun U => PW D cA ad o σ sz U ∧ XF ad sa sz U
theorem PWX_blind {D : va_G} {cA : Nat → ClassId} {ad : Nat → Nat} {o : Int64} {σ : Mem} {sa : Nat → Nat} {sz : Nat} {As : List Value} : FrameBlind (va_Pc As (PWX D cA ad o σ sa sz)) := fun a U g mk q => ⟨q.1, (PW_blind (As := As) a U g mk ⟨q.1, q.2.1⟩).2, vx_Zq.moved (u := U) (U := U.calling g mk a) (Vm.Alike.refl U.vm) q.2.2.1, vx_Zq.moved (u := U) (U := U.calling g mk a) (Vm.Alike.refl U.vm) q.2.2.2.1, XS_same rfl q.2.2.2.2.1, XN_moved (u := U) (U := U.calling g mk a) (Vm.Alike.refl U.vm) q.2.2.2.2.2.1, FWp_moved (u := U) (U := U.calling g mk a) (Vm.Alike.refl U.vm) q.2.2.2.2.2.2⟩
theorem ct_ofW {l : Launch} {cc : ByteArray} {D : va_G} {cA : Nat → ClassId} {ad : Nat → Nat} {σ : Mem} {o : Int64} {y : MethodName} {own : String} (ho : y.cls = own) {n k : Nat} {ret : Option FieldType} {hh : List (Nat × Nat × Nat × Nat)} {As : List Value} {Qf : (Nat → Prop) → Array Value → State → Outcome → State → Prop} (hy : plainName y.cls = true) (hn : (lg_sl As).length ≤ n)
    (body : ∀ (p : Program) (e : Env) (s : State) (m : MethodId) (below : List Frame) (meth : Method) (c : Code) (ls : Array Slot), CX p s m As.toArray c cc n own → WX D cA ad (FA ad s.heap.size) s → meth.sig.returnType = ret → meth.locks = false → WP D cA ad o σ s.heap → lv_has ls n (lv_args 0 As) → W p l e (RM k) s m As.toArray below meth c s.heap [] 0 0 (MQ below (Qf (FA ad s.heap.size)) As.toArray s 0 0 (FA ad s.heap.size)) (F0 m 0 ls [])) (sz : Nat) :
    Met l y (WYW y cc n ret hh) (RM k) (va_Pc As (PW D cA ad o σ sz)) (Qf (FA ad sz)) 0 0 (FA ad sz) := by
  refine va_MetW (cc := cc) (maxL := n) (ret := ret) (hh := hh) hy rfl ?_
  intro p e s m args below meth c s₁ B hml hv
  obtain ⟨rfl, hsz, hP, hK, hinj⟩ := hv
  subst hsz
  have hl := lv_entry As (n := n) hn
  rw [lg_entry_eq]
  generalize (lg_sl As ++ List.replicate (n - (lg_sl As).length) Slot.unset).toArray = ls at hl ⊢
  have hts := atoms_spec (ws := WYW y cc n ret hh) B.pre
  exact body p e s m below meth c ls ⟨B.exec, B.bytes, hml, ho ▸ findClass_of_methodNamed B.named, fun w hw => hts w (List.mem_cons_of_mem _ hw)⟩ ⟨hK, hinj, fun i h => Or.inl ⟨i, h, rfl⟩, fun q h => Or.inr h⟩ B.returns B.notSynchronized hP hl
/-- an element that is there -/
def EOK (σ : Mem) (d i : Int32) (j k : Nat) : Prop := (j < 8 ∧ k < 100) ∧ (d = nI j ∧ i = nI k) ∧ σ (68 + j) 0 = 2 ∧ ¬ σ (68 + j) 4 ≤ nI k
def bB_cX7_element : Nat := 0xad852e1ccf00b42dbf2d01b72e0113592901bb0e009a1c01b61c2dbf2d01b72b0113592901bb0e009f053600b42dbf2601b7240113592201bb0e00c72d4e3200b61b2a
theorem yB_cX7_element : BYS cX7_element 67 bB_cX7_element := BYS_of (by decide +kernel)
theorem dX7_element_0 : decode cX7_element 0 = .ok (.aload_n 0, 1) := D_42 yB_cX7_element rfl rfl
theorem dX7_element_1 : decode cX7_element 1 = .ok (.iload_n 1, 1) := D_27 yB_cX7_element rfl rfl
theorem dX7_element_2 : decode cX7_element 2 = .ok (.invokevirtual 50, 3) := D_182 yB_cX7_element rfl rfl rfl
theorem dX7_element_5 : decode cX7_element 5 = .ok (.astore_n 3, 1) := D_78 yB_cX7_element rfl rfl
theorem dX7_element_6 : decode cX7_element 6 = .ok (.aload_n 3, 1) := D_45 yB_cX7_element rfl rfl
theorem dX7_element_7 : decode cX7_element 7 = .ok (.ifnonnull 14, 3) := D_199 yB_cX7_element rfl rfl (sg_p (m := 32768) (N := 14) rfl rfl rfl)
theorem dX7_element_10 : decode cX7_element 10 = .ok (.new 290, 3) := D_187 yB_cX7_element rfl rfl rfl
theorem dX7_element_13 : decode cX7_element 13 = .ok (.dup, 1) := D_89 yB_cX7_element rfl rfl
theorem dX7_element_14 : decode cX7_element 14 = .ok (.ldc_w 292, 3) := D_19 yB_cX7_element rfl rfl rfl
theorem dX7_element_17 : decode cX7_element 17 = .ok (.invokespecial 294, 3) := D_183 yB_cX7_element rfl rfl rfl
theorem dX7_element_20 : decode cX7_element 20 = .ok (.athrow, 1) := D_191 yB_cX7_element rfl rfl
theorem dX7_element_21 : decode cX7_element 21 = .ok (.aload_n 3, 1) := D_45 yB_cX7_element rfl rfl
theorem dX7_element_22 : decode cX7_element 22 = .ok (.getfield 54, 3) := D_180 yB_cX7_element rfl rfl rfl
theorem dX7_element_25 : decode cX7_element 25 = .ok (.iconst 2, 1) := D_5 yB_cX7_element rfl rfl
theorem dX7_element_26 : decode cX7_element 26 = .ok (.if_icmp .eq 14, 3) := D_159 yB_cX7_element rfl rfl (sg_p (m := 32768) (N := 14) rfl rfl rfl)
theorem dX7_element_29 : decode cX7_element 29 = .ok (.new 297, 3) := D_187 yB_cX7_element rfl rfl rfl
theorem dX7_element_32 : decode cX7_element 32 = .ok (.dup, 1) := D_89 yB_cX7_element rfl rfl
theorem dX7_element_33 : decode cX7_element 33 = .ok (.ldc_w 299, 3) := D_19 yB_cX7_element rfl rfl rfl
theorem dX7_element_36 : decode cX7_element 36 = .ok (.invokespecial 301, 3) := D_183 yB_cX7_element rfl rfl rfl
theorem dX7_element_39 : decode cX7_element 39 = .ok (.athrow, 1) := D_191 yB_cX7_element rfl rfl
theorem dX7_element_40 : decode cX7_element 40 = .ok (.aload_n 3, 1) := D_45 yB_cX7_element rfl rfl
theorem dX7_element_41 : decode cX7_element 41 = .ok (.iload_n 2, 1) := D_28 yB_cX7_element rfl rfl
theorem dX7_element_42 : decode cX7_element 42 = .ok (.invokevirtual 284, 3) := D_182 yB_cX7_element rfl rfl rfl
theorem dX7_element_45 : decode cX7_element 45 = .ok (.ifCond .ne 14, 3) := D_154 yB_cX7_element rfl rfl (sg_p (m := 32768) (N := 14) rfl rfl rfl)
theorem dX7_element_48 : decode cX7_element 48 = .ok (.new 297, 3) := D_187 yB_cX7_element rfl rfl rfl
theorem dX7_element_51 : decode cX7_element 51 = .ok (.dup, 1) := D_89 yB_cX7_element rfl rfl
theorem dX7_element_52 : decode cX7_element 52 = .ok (.ldc_w 302, 3) := D_19 yB_cX7_element rfl rfl rfl
theorem dX7_element_55 : decode cX7_element 55 = .ok (.invokespecial 301, 3) := D_183 yB_cX7_element rfl rfl rfl
theorem dX7_element_58 : decode cX7_element 58 = .ok (.athrow, 1) := D_191 yB_cX7_element rfl rfl
theorem dX7_element_59 : decode cX7_element 59 = .ok (.aload_n 3, 1) := D_45 yB_cX7_element rfl rfl
theorem dX7_element_60 : decode cX7_element 60 = .ok (.getfield 207, 3) := D_180 yB_cX7_element rfl rfl rfl
theorem dX7_element_63 : decode cX7_element 63 = .ok (.iload_n 2, 1) := D_28 yB_cX7_element rfl rfl
theorem dX7_element_64 : decode cX7_element 64 = .ok (.iaload, 1) := D_46 yB_cX7_element rfl rfl
theorem dX7_element_65 : decode cX7_element 65 = .ok (.i2l, 1) := D_133 yB_cX7_element rfl rfl
theorem dX7_element_66 : decode cX7_element 66 = .ok (.lreturn, 1) := D_173 yB_cX7_element rfl rfl
set_option maxHeartbeats 4000000 in
set_option maxRecDepth 100000 in
theorem x_X7_element (l : Launch) (hfl : l.stackTraces = false) (D : va_G) (cA : Nat → ClassId) (ad : Nat → Nat) (o : Int64) (σ : Mem) (d i : Int32) (sa : Nat → Nat) (sz : Nat) : vx_Met l yX7_element (WY yX7_element cX7_element 4 (some .long)) (RMc 6 1 6) (va_Pc [.ref (ad 66), .int d, .int i] (PWX D cA ad o σ sa sz)) (va_Ql (fun r (σ9 : Mem) => (∃ j k, EOK σ d i j k ∧ r = (σ (76 + j) k).toInt64) ∧ σ9 = σ) (QW D cA ad o) (FA ad sz)) (vx_X (fun u : Mem => u = σ) (fun E u t => (((d < 0 ∨ 8 ≤ d) ∧ E = "java/lang/IllegalArgumentException") ∨ (¬ (d < 0 ∨ 8 ≤ d) ∧ (¬ ∃ j k, EOK σ d i j k) ∧ E = "java/lang/IllegalStateException")) ∧ QW D cA ad o u t) (FA ad sz)) 1 6 (FA ad sz) := by
  refine vx_ofW (cc := cX7_element) (maxL := 4) (ret := some .long) (by decide) rfl ?_
  intro p e s m args below meth c s₁ B hml htab hv
  obtain ⟨rfl, ⟨hsz, hP, hK, hinj⟩, hU, hN, hXS, hXN, hFW⟩ := hv
  subst hsz
  have hl := lv_entry ([.ref (ad 66), .int d, .int i] : List Value) (n := 4) (Nat.le_of_ble_eq_true rfl)
  rw [lg_entry_eq]
  generalize (lg_sl ([.ref (ad 66), .int d, .int i] : List Value) ++ List.replicate (4 - (lg_sl ([.ref (ad 66), .int d, .int i] : List Value)).length) Slot.unset).toArray = ls at hl ⊢
  have hl : lv_has ls 4 [(0, .ref (ad 66)), (1, .int d), (2, .int i)] := hl
  have hts0 := atoms_spec (ws := WY yX7_element cX7_element 4 (some .long)) B.pre
  have hts : ∀ w ∈ tbg, w.before ([.ref (ad 66), .int d, .int i] : List Value).toArray s = true := fun w hw => hts0 w (List.mem_cons_of_mem _ hw)
  have hown : s.vm.findClass RX7 = some m.cls := findClass_of_methodNamed B.named
  have hx := B.exec
  have hb := B.bytes
  have C0 : CX p s m ([.ref (ad 66), .int d, .int i] : List Value).toArray c cX7_element 4 RX7 := ⟨hx, hb, hml, hown, hts⟩
  have X : WX D cA ad (FA ad s.heap.size) s := ⟨hK, hinj, fun i h => Or.inl ⟨i, h, rfl⟩, fun q h => Or.inr h⟩
  have hlk := B.notSynchronized
  have hS : va_S (FA ad s.heap.size) s.heap s.heap [] := va_S.rf
  refine lv_aload_n hx hb dX7_element_0 rfl (lv_at hl 0 rfl) ?_
  refine lv_iload_n hx hb dX7_element_1 rfl (lv_at hl 1 rfl) ?_
  refine r_cq X hS (r_runV (As := [.int d]) (rest := []) C0 X hP L_X7_50 (fun sz => c_X7_shelfAt l D cA ad o σ d  sz) (show 66 < 106 ∧ kd 66 = (7, 8) from ⟨by decide, rfl⟩).1 (show 66 < 106 ∧ kd 66 = (7, 8) from ⟨by decide, rfl⟩).2 (by decide) rfl ⟨Nat.le_of_ble_eq_true rfl, Nat.le_of_ble_eq_true rfl⟩ rfl hl.1 rfl (Nat.le_of_ble_eq_true rfl) dX7_element_2 ⟨Nat.zero_le _, Nat.zero_le _⟩) (fun σ9 H locs hw hP hS => ?_) (fun x9 σ9 H locs hw hP hS => ?_)
  · rw [hw.1] at hP
    have h_1 := hw.2
    refine lv_astore_nN (lv' := [(3, .null), (0, .ref (ad 66)), (1, .int d), (2, .int i)]) hx hb dX7_element_5 rfl hl (by decide) rfl (fun ls hl => ?_)
    refine lv_aload_nN hx hb dX7_element_6 rfl (lv_at hl 0 rfl) ?_
    refine lv_ifnonnullN hx hb dX7_element_7 ?_
    exact vx_throwSW (own := RX7) (cls := "java/lang/IllegalArgumentException") (text := "no such shelf") (names := xnames) (ik := 290) (is := 292) (ic := 294) hx hb hfl hown (by decide +kernel) (by decide +kernel) (hts _ (tmc sb4_7 11 rfl (by decide +kernel))) (hts _ (tmc sb1_1 0 rfl (by decide +kernel))) hXS.1.1 (xatX xat1.1 xat1.2 hts hFW) xgd1 hU hN hS (by rw [hml]; exact hl.1) dX7_element_10 dX7_element_13 dX7_element_14 dX7_element_17 dX7_element_20 (fun x hx => (htab x hx).elim) (by decide) (by decide) (by decide) (by decide) hlk (fun t hv hz hq => ⟨σ, rfl, ⟨Or.inl ⟨h_1, rfl⟩, WP_kept hP hq, va_K.moved hv X.1⟩, Nat.le_trans hS.1 hz, fun q h1 h2 => (hq q (Nat.lt_of_lt_of_le h1 hS.1)).trans (hS.2.1 q h1 h2)⟩) hS.2.2 (by decide) (by decide)
  · rw [hw.1] at hP
    obtain ⟨-, j_2, hj_2, ej_2, rfl⟩ := hw
    have h_1 : ¬ (d < 0 ∨ 8 ≤ d) := by rw [ej_2]; exact nosh hj_2
    have hjj : ∀ j : Nat, j < 8 → d = nI j → j = j_2 := fun j hj e => nI_inj (e.symm.trans ej_2) (by omega) (by omega)
    refine lv_astore_n (lv' := [(3, .ref (ad (68 + j_2))), (0, .ref (ad 66)), (1, .int d), (2, .int i)]) hx hb dX7_element_5 rfl hl (by decide) rfl (fun ls hl => ?_)
    refine lv_aload_n hx hb dX7_element_6 rfl (lv_at hl 0 rfl) ?_
    refine lv_ifnonnull (tgt := 21) hx hb dX7_element_7 (by decide) ?_
    refine lv_aload_n hx hb dX7_element_21 rfl (lv_at hl 0 rfl) ?_
    refine gf_X7_54 C0 X hP (68 + j_2) (kdS j_2 hj_2) dX7_element_22 ?_
    refine lv_iconst (v := 2) hx hb dX7_element_25 (by decide) ?_
    refine lv_icmp_eq (tgt := 40) hx hb dX7_element_26 (by decide) (fun c_3 => ?_) (fun c_3 => ?_)
    · refine lv_aload_n hx hb dX7_element_40 rfl (lv_at hl 0 rfl) ?_
      refine lv_iload_n hx hb dX7_element_41 rfl (lv_at hl 3 rfl) ?_
      obtain ⟨r_4, er_4⟩ : ∃ r, F_X5_hasElement σ j_2 i = some r := by
        unfold F_X5_hasElement
        by_cases q1 : i < 0
        · exact ⟨0, if_pos q1⟩
        · by_cases q2 : σ (68 + j_2) 4 ≤ i
          · exact ⟨0, by rw [if_neg q1, if_pos q2]⟩
          · by_cases q3 : (100 : Int32) ≤ i
            · exact ⟨0, by rw [if_neg q1, if_neg q2, if_pos q3]⟩
            · exact ⟨1, by rw [if_neg q1, if_neg q2, if_neg q3]⟩
      refine r_ci X hS (r_runV (As := [.int i]) (rest := []) C0 X hP L_X7_284 (fun sz => c_X5_hasElement l D cA ad o σ j_2 i hj_2 r_4 er_4 sz) (kdS j_2 hj_2).1 (kdS j_2 hj_2).2 (by decide) rfl ⟨Nat.le_of_ble_eq_true rfl, Nat.le_of_ble_eq_true rfl⟩ rfl hl.1 rfl (Nat.le_of_ble_eq_true rfl) dX7_element_42 ⟨Nat.zero_le _, Nat.zero_le _⟩) (fun r9 σ9 H locs hw hP hS => ?_)
      rw [hw.2] at hP
      rw [hw.1]
      refine lv_if_ne (tgt := 59) hx hb dX7_element_45 (by decide) (fun c_5 => ?_) (fun c_5 => ?_)
      · obtain ⟨k_6, hk_6, ek_6, hk_7⟩ : ∃ k : Nat, k < 100 ∧ i = nI k ∧ ¬ σ (68 + j_2) 4 ≤ nI k := by
          unfold F_X5_hasElement at er_4
          split at er_4
          · exact absurd (Option.some.inj er_4).symm c_5
          · rename_i q1
            split at er_4
            · exact absurd (Option.some.inj er_4).symm c_5
            · rename_i q2
              split at er_4
              · exact absurd (Option.some.inj er_4).symm c_5
              · rename_i q3
                obtain ⟨k, hk, rfl⟩ := ixN (M := 100) (n := 100) (by decide) q1 (Int32.not_le.mp q3)
                exact ⟨k, hk, rfl, q2⟩
        refine lv_aload_n hx hb dX7_element_59 rfl (lv_at hl 0 rfl) ?_
        refine gf_X7_207 C0 X hP (68 + j_2) (q := (76 + j_2)) (kdS j_2 hj_2) (by omega) (lkS5 j_2 hj_2) dX7_element_60 ?_
        refine lv_iload_n hx hb dX7_element_63 rfl (lv_at hl 3 rfl) ?_
        refine r_ialdN C0 X hP (76 + j_2) (k := k_6) (kdV j_2 hj_2) ek_6 hk_6 dX7_element_64 ?_
        refine lv_i2l (v := (σ (76 + j_2) k_6).toInt64) hx hb dX7_element_65 rfl ?_
        refine vx_ret (W.widen (k := 1) (n := 6) (Nat.zero_le _) (Nat.zero_le _) ?_)
        exact r_lret C0 X hP hS B.returns hlk dX7_element_66 ⟨⟨j_2, k_6, ⟨⟨hj_2, hk_6⟩, ⟨ej_2, ek_6⟩, c_3, hk_7⟩, rfl⟩, rfl⟩
      · have hno : ¬ ∃ j k, EOK σ d i j k := by
          rintro ⟨j, k, ⟨h8, h100⟩, ⟨e1, e2⟩, e3, e4⟩
          obtain rfl := hjj j h8 e1
          unfold F_X5_hasElement at er_4
          rw [e2, if_neg (nI_pos (by omega)), if_neg e4, if_neg (show ¬ (100 : Int32) ≤ nI k from nI_ge (a := k) (b := 100) h100 (by decide))] at er_4
          rw [c_5] at er_4
          exact absurd (Option.some.inj er_4) (by decide)
        exact vx_throwSW (own := RX7) (cls := "java/lang/IllegalStateException") (text := "no such place") (names := xnames) (ik := 297) (is := 302) (ic := 301) hx hb hfl hown (by decide +kernel) (by decide +kernel) (hts _ (tmc sb4_7 12 rfl (by decide +kernel))) (hts _ (tmc sb1_1 1 rfl (by decide +kernel))) hXS.1.2.2 (xatX xat2.1 xat2.2 hts hFW) xgd2 hU hN hS (by rw [hml]; exact hl.1) dX7_element_48 dX7_element_51 dX7_element_52 dX7_element_55 dX7_element_58 (fun x hx => (htab x hx).elim) (by decide) (by decide) (by decide) (by decide) hlk (fun t hv hz hq => ⟨σ, rfl, ⟨Or.inr ⟨h_1, hno, rfl⟩, WP_kept hP hq, va_K.moved hv X.1⟩, Nat.le_trans hS.1 hz, fun q h1 h2 => (hq q (Nat.lt_of_lt_of_le h1 hS.1)).trans (hS.2.1 q h1 h2)⟩) hS.2.2 (by decide) (by decide)
    · have hno : ¬ ∃ j k, EOK σ d i j k := by
        rintro ⟨j, k, ⟨h8, -⟩, ⟨e1, -⟩, e3, -⟩
        obtain rfl := hjj j h8 e1
        exact c_3 e3
      exact vx_throwSW (own := RX7) (cls := "java/lang/IllegalStateException") (text := "no row") (names := xnames) (ik := 297) (is := 299) (ic := 301) hx hb hfl hown (by decide +kernel) (by decide +kernel) (hts _ (tmc sb4_7 12 rfl (by decide +kernel))) (hts _ (tmc sb1_1 1 rfl (by decide +kernel))) hXS.1.2.1 (xatX xat2.1 xat2.2 hts hFW) xgd2 hU hN hS (by rw [hml]; exact hl.1) dX7_element_29 dX7_element_32 dX7_element_33 dX7_element_36 dX7_element_39 (fun x hx => (htab x hx).elim) (by decide) (by decide) (by decide) (by decide) hlk (fun t hv hz hq => ⟨σ, rfl, ⟨Or.inr ⟨h_1, hno, rfl⟩, WP_kept hP hq, va_K.moved hv X.1⟩, Nat.le_trans hS.1 hz, fun q h1 h2 => (hq q (Nat.lt_of_lt_of_le h1 hS.1)).trans (hS.2.1 q h1 h2)⟩) hS.2.2 (by decide) (by decide)
end
section
/-! the law's element, for every state -/
/-- a memory and what the law's own cell holds -/
def QWo (D : va_G) (cA : Nat → ClassId) (ad : Nat → Nat) : Mem × Int64 → State → Prop := fun q t => QW D cA ad q.2 q.1 t
section RL9
variable {p : Program} {l : Launch} {e : Env} {R : Room} {s : State} {m : MethodId} {args : Array Value} {below : List Frame} {meth : Method} {c : Code} {H : Heap} {locs : List Loc} {cells slots : Nat} {Q : State → Prop}
variable {cc : ByteArray} {pc nL : Nat} {ls : Array Slot} {rest : List Value} {D : va_G} {cA : Nat → ClassId} {ad : Nat → Nat} {A : Nat → Prop} {σ : Mem} {o : Int64} {own : String}
theorem cel105 (r : Nat → Int32) : cel cA ad o r 105 = .inl (cA 3, 1, .inr (.inl (fun _ => o))) := rfl
theorem r_last (C0 : CX p s m args c cc nL own) (X : WX D cA ad A s) (hP : WP D cA ad o σ H) (hS : va_S A s.heap H locs) {x : Int64} (hdg : decode cc pc = .ok (.lastore, 1))
    (kk : ∀ (H1 : Heap) (locs1 : List Loc), WP D cA ad x σ H1 → va_S A s.heap H1 locs1 → W p l e R s m args below meth c H1 locs1 cells slots Q (F0 m (pc + 1) ls rest)) : W p l e R s m args below meth c H locs cells slots Q (F0 m pc ls (.long x :: .int 0 :: .ref (ad 105) :: rest)) := by
  refine va_last C0.1 C0.2.1 X.1 hP (WX_D X o σ) hS 105 3 (cA := cA 3) (n := 1) (f := fun _ => o) (by rw [wl_get cA ad o σ (by decide), cel105]) rfl (by intro h; rcases h with h | h <;> exact absurd h (by decide)) hdg (fun H1 locs1 hP1 _ hS1 => kk H1 locs1 ?_ hS1)
  intro k q hq
  have hk : k < 106 := by
    have := (List.getElem?_eq_some_iff.mp hq).1
    simpa [wl] using this
  by_cases k5 : k = 105
  · subst k5
    rw [wl_get cA ad x σ (by decide), cel105] at hq
    obtain rfl := Option.some.inj hq
    have h := hP1 105 (ad 105, .inl (cA 3, 1, .inr (.inl (vp_updL (fun _ => o) (0 : Int32).toNatClampNeg x)))) (by
      rw [List.getElem?_set_self (by simp [wl])])
    have h' : H1[ad 105]? = some (vp_cell (cA 3) (1, .inr (.inl (vp_updL (fun _ => o) (0 : Int32).toNatClampNeg x)))) := h
    show H1[ad 105]? = some (vp_cell (cA 3) (1, .inr (.inl (fun _ => x))))
    rw [h']
    rw [vp_cell_l, vp_cell_l]
    have : ∀ j : Fin 1, vp_updL (fun _ => o) (0 : Int32).toNatClampNeg x j.val = x := fun j => by
      have hj : j.val = 0 := by omega
      rw [hj]; exact if_pos rfl
    unfold arrV
    simp only [this]
  · have e : ∀ y : Int64, cel cA ad y (σ k) k = cel cA ad o (σ k) k := fun y => by
      have : ¬ (kd k).1 = 12 := by
        have z : ∀ i, i < 106 → i ≠ 105 → (kd i).1 ≠ 12 := by decide +kernel
        exact z k hk k5
      unfold cel
      simp only [if_neg this]
    rw [wl_get cA ad x σ hk, e x] at hq
    refine hP1 k q ?_
    rw [List.getElem?_set_ne (fun z => k5 z.symm), wl_get cA ad o σ hk]
    exact hq
end RL9
def bB_cL_element : Nat := 0xac03ac05043aac04043a0b00a7500700b61c1b2a032d
theorem yB_cL_element : BYS cL_element 22 bB_cL_element := BYS_of (by decide +kernel)
theorem dL_element_0 : decode cL_element 0 = .ok (.aload_n 3, 1) := D_45 yB_cL_element rfl rfl
theorem dL_element_1 : decode cL_element 1 = .ok (.iconst 0, 1) := D_3 yB_cL_element rfl rfl
theorem dL_element_2 : decode cL_element 2 = .ok (.aload_n 0, 1) := D_42 yB_cL_element rfl rfl
theorem dL_element_3 : decode cL_element 3 = .ok (.iload_n 1, 1) := D_27 yB_cL_element rfl rfl
theorem dL_element_4 : decode cL_element 4 = .ok (.iload_n 2, 1) := D_28 yB_cL_element rfl rfl
theorem dL_element_5 : decode cL_element 5 = .ok (.invokevirtual 7, 3) := D_182 yB_cL_element rfl rfl rfl
theorem dL_element_8 : decode cL_element 8 = .ok (.lastore, 1) := D_80 yB_cL_element rfl rfl
theorem dL_element_9 : decode cL_element 9 = .ok (.goto 11, 3) := D_167 yB_cL_element rfl rfl (sg_p (m := 32768) (N := 11) rfl rfl rfl)
theorem dL_element_12 : decode cL_element 12 = .ok (.astore 4, 2) := D_58 yB_cL_element rfl rfl rfl
theorem dL_element_14 : decode cL_element 14 = .ok (.iconst 1, 1) := D_4 yB_cL_element rfl rfl
theorem dL_element_15 : decode cL_element 15 = .ok (.ireturn, 1) := D_172 yB_cL_element rfl rfl
theorem dL_element_16 : decode cL_element 16 = .ok (.astore 4, 2) := D_58 yB_cL_element rfl rfl rfl
theorem dL_element_18 : decode cL_element 18 = .ok (.iconst 2, 1) := D_5 yB_cL_element rfl rfl
theorem dL_element_19 : decode cL_element 19 = .ok (.ireturn, 1) := D_172 yB_cL_element rfl rfl
theorem dL_element_20 : decode cL_element 20 = .ok (.iconst 0, 1) := D_3 yB_cL_element rfl rfl
theorem dL_element_21 : decode cL_element 21 = .ok (.ireturn, 1) := D_172 yB_cL_element rfl rfl
set_option maxHeartbeats 4000000 in
set_option maxRecDepth 100000 in
theorem c_L_element (l : Launch) (hfl : l.stackTraces = false) (D : va_G) (cA : Nat → ClassId) (ad : Nat → Nat) (o : Int64) (σ : Mem) (d i : Int32) (sa : Nat → Nat) (sz : Nat) : Met l yL_element (WYW yL_element cL_element 5 (some .int) hhE) (RMc 7 1 6) (va_Pc [.ref (ad 66), .int d, .int i, .ref (ad 105)] (PWX D cA ad o σ sa sz)) (va_Qi (fun (r : Int32) (q : Mem × Int64) => q.1 = σ ∧ (((d < 0 ∨ 8 ≤ d) ∧ r = 1 ∧ q.2 = o) ∨ (¬ (d < 0 ∨ 8 ≤ d) ∧ (¬ ∃ j k, EOK σ d i j k) ∧ r = 2 ∧ q.2 = o) ∨ ∃ j k, EOK σ d i j k ∧ r = 0 ∧ q.2 = (σ (76 + j) k).toInt64)) (QWo D cA ad) (FA ad sz)) 1 6 (FA ad sz) := by
  refine va_MetW (cc := cL_element) (maxL := 5) (ret := some .int) (hh := hhE) (by decide) rfl ?_
  intro p e s m args below meth c s₁ B hml hv
  obtain ⟨rfl, ⟨hsz, hP, hK, hinj⟩, hXF⟩ := hv
  subst hsz
  have hl := lv_entry ([.ref (ad 66), .int d, .int i, .ref (ad 105)] : List Value) (n := 5) (Nat.le_of_ble_eq_true rfl)
  rw [lg_entry_eq]
  generalize (lg_sl ([.ref (ad 66), .int d, .int i, .ref (ad 105)] : List Value) ++ List.replicate (5 - (lg_sl ([.ref (ad 66), .int d, .int i, .ref (ad 105)] : List Value)).length) Slot.unset).toArray = ls at hl ⊢
  have hl : lv_has ls 5 [(0, .ref (ad 66)), (1, .int d), (2, .int i), (3, .ref (ad 105))] := hl
  have hts0 := atoms_spec (ws := WYW yL_element cL_element 5 (some .int) hhE) B.pre
  have hts : ∀ w ∈ tbg, w.before ([.ref (ad 66), .int d, .int i, .ref (ad 105)] : List Value).toArray s = true := fun w hw => hts0 w (List.mem_cons_of_mem _ hw)
  have htb : c.exceptionTable.toList = tableOf hhE := vx_table (x := yL_element) B (hts0 (Cond.codeWith yL_element cL_element 5 (some .int) hhE) List.mem_cons_self)
  have hown : s.vm.findClass RL = some m.cls := findClass_of_methodNamed B.named
  have hx := B.exec
  have hb := B.bytes
  have C0 : CX p s m ([.ref (ad 66), .int d, .int i, .ref (ad 105)] : List Value).toArray c cL_element 5 RL := ⟨hx, hb, hml, hown, hts⟩
  have X : WX D cA ad (FA ad s.heap.size) s := ⟨hK, hinj, fun i h => Or.inl ⟨i, h, rfl⟩, fun q h => Or.inr h⟩
  have hlk := B.notSynchronized
  have hr := B.returns
  have hS : va_S (FA ad s.heap.size) s.heap s.heap [] := va_S.rf
  refine lv_aload_n hx hb dL_element_0 rfl (lv_at hl 3 rfl) ?_
  refine lv_iconst (v := 0) hx hb dL_element_1 (by decide) ?_
  refine lv_aload_n hx hb dL_element_2 rfl (lv_at hl 0 rfl) ?_
  refine lv_iload_n hx hb dL_element_3 rfl (lv_at hl 1 rfl) ?_
  refine lv_iload_n hx hb dL_element_4 rfl (lv_at hl 2 rfl) ?_
  refine vx_calll (vx_runV (As := [.int d, .int i]) (rest := [.int 0, .ref (ad 105)]) C0 (x_X7_element l hfl D cA ad o σ d i sa s.heap.size) (cwV 2 hts L_L_7.1 rfl rfl rfl L_L_7.2 ⟨Nat.le_of_ble_eq_true rfl, Nat.le_of_ble_eq_true rfl⟩) ⟨PWX_blind, va_recv X.1 hP (q := (RX7, TX7, 8)) rfl (q0 := 66) (ci := 7) (fs := (List.range 8).map (fv ad (σ 66) 66)) (by rw [wl_get cA ad o σ (by decide), cel_obj (ci := 7) (n := 8) rfl (by decide)]), fun U hU hW => ⟨rfl, PW_of X hP hU hW, by rw [hU]; exact vx_Zq.moved hW.alike hXF.1, by rw [hU]; exact vx_Zq.moved hW.alike hXF.2.1, XS_warm hW hXF.2.2.1, XN_moved hW.alike hXF.2.2.2.1, FWp_moved hW.alike hXF.2.2.2.2⟩⟩ rfl rfl hl.1 rfl (lv_room (Nat.le_of_ble_eq_true rfl)) dL_element_5 ⟨Nat.le_of_ble_eq_true rfl, Nat.le_of_ble_eq_true rfl⟩) hS (fun q _ h => FA_sub X hS q h) (FA_sub X hS) (fun q _ h => FA_sub X hS q h) (fun E ce q9 u t H1 locs ht hvm hu hB hz hk hS hcell hv0 hcls => ?_) (fun r u t H1 locs ht hvm hw hB hz hk hS => ?_)
  · obtain ⟨hE, hP1, -⟩ := hB
    rw [ht] at hP1
    have hP1 : WP D cA ad o σ H1 := by rw [← show u = σ from hu]; exact hP1
    rcases hE with ⟨hd, rfl⟩ | ⟨hd, hno, rfl⟩
    · refine vx_catch (own := RL) (name := "java/lang/IllegalArgumentException") hown [] ⟨0, 9, 12, 13⟩ [⟨0, 9, 16, 15⟩] (by rw [htb]; rfl) (fun z hz => absurd hz List.not_mem_nil) (by decide) (by decide) (hts _ (tmc sb4_14 4 rfl (by decide +kernel))) (va_Nw.use rfl (hXF.2.2.2.2 _ (fwm 971 (by decide +kernel) (by decide +kernel)))) hcell hv0 hcls ?_
      refine lv_astore (lv' := [(4, .ref q9), (0, .ref (ad 66)), (1, .int d), (2, .int i), (3, .ref (ad 105))]) hx hb dL_element_12 hl (by decide) rfl (fun ls hl => ?_)
      refine lv_iconst (v := 1) hx hb dL_element_14 (by decide) ?_
      exact W.iret hx hb hr (fun t ht hW => ⟨⟨1, (σ, o), rfl, ⟨rfl, Or.inl ⟨hd, rfl, rfl⟩⟩, by show WP D cA ad o σ t.heap; rw [ht]; exact hP1, va_K.moved hW.alike X.1⟩, hS.F ht⟩) hS.2.2 dL_element_15 hlk
    · refine vx_catch (own := RL) (name := "java/lang/IllegalStateException") hown [⟨0, 9, 12, 13⟩] ⟨0, 9, 16, 15⟩ [] (by rw [htb]; rfl) (fun z hz => ?_) (by decide) (by decide) (hts _ (tmc sb4_14 5 rfl (by decide +kernel))) (va_Nw.use rfl (hXF.2.2.2.2 _ (fwm 986 (by decide +kernel) (by decide +kernel)))) hcell hv0 hcls ?_
      · rw [List.mem_singleton.mp hz]
        exact Or.inr ⟨by decide, "java/lang/IllegalArgumentException", hts _ (tmc sb4_14 4 rfl (by decide +kernel)), hXF.2.2.2.1.1⟩
      refine lv_astore (lv' := [(4, .ref q9), (0, .ref (ad 66)), (1, .int d), (2, .int i), (3, .ref (ad 105))]) hx hb dL_element_16 hl (by decide) rfl (fun ls hl => ?_)
      refine lv_iconst (v := 2) hx hb dL_element_18 (by decide) ?_
      exact W.iret hx hb hr (fun t ht hW => ⟨⟨2, (σ, o), rfl, ⟨rfl, Or.inr (Or.inl ⟨hd, hno, rfl, rfl⟩)⟩, by show WP D cA ad o σ t.heap; rw [ht]; exact hP1, va_K.moved hW.alike X.1⟩, hS.F ht⟩) hS.2.2 dL_element_19 hlk
  · obtain ⟨hP1, -⟩ := hB
    rw [ht] at hP1
    obtain ⟨⟨j, k, hE, rfl⟩, hu⟩ := hw
    have hP1 : WP D cA ad o σ H1 := by rw [← show u = σ from hu]; exact hP1
    refine r_last C0 X hP1 hS dL_element_8 (fun H2 locs2 hP2 hS2 => ?_)
    refine lv_goto (tgt := 20) hx hb dL_element_9 (by decide) ?_
    refine lv_iconst (v := 0) hx hb dL_element_20 (by decide) ?_
    exact W.iret hx hb hr (fun t ht hW => ⟨⟨0, (σ, (σ (76 + j) k).toInt64), rfl, ⟨rfl, Or.inr (Or.inr ⟨j, k, hE, rfl, rfl⟩)⟩, by show WP D cA ad _ σ t.heap; rw [ht]; exact hP2, va_K.moved hW.alike X.1⟩, hS2.F ht⟩) hS2.2.2 dL_element_21 hlk
end
section
/-! throwFailure, toss, for every state -/
theorem xat3 : (∀ w ∈ vx_atS RX7 325 "java/lang/UnsupportedOperationException" xnames, w ∈ lw_tbl) ∧ (vx_atS RX7 325 "java/lang/UnsupportedOperationException" xnames).all (fun w => goodWord w || (w.faceAtom && w.onTables)) = true := ⟨sbx (by decide +kernel), by decide +kernel⟩
theorem xgd3 : ∀ w ∈ Cond.classLink RX7 319 "java/lang/UnsupportedOperationException" :: Cond.initialized "java/lang/UnsupportedOperationException" :: vx_atS RX7 325 "java/lang/UnsupportedOperationException" xnames, vx_ot w = true := by decide +kernel
theorem XF_at {D : va_G} {cA : Nat → ClassId} {ad : Nat → Nat} {s U : State} {H : Heap} {locs : List Loc} {sa : Nat → Nat} (X : WX D cA ad (FA ad s.heap.size) s) (hZ : XF ad sa s.heap.size s) (hS : va_S (FA ad s.heap.size) s.heap H locs) (hU : U.heap = H) (hW : s.WarmedH U.vm) : XF ad sa H.size U := by
  subst hU
  exact ⟨vx_Zq.moved hW.alike ((vx_Zq.kept hZ.1 hS.2.1).narrow (FA_sub X hS)), vx_Zq.moved hW.alike ((vx_Zq.kept hZ.2.1 hS.2.1).narrow (FA_sub X hS)), XS_warm hW hZ.2.2.1, XN_moved hW.alike hZ.2.2.2.1, FWp_moved hW.alike hZ.2.2.2.2⟩
def bB_cX7_throwFailure : Nat := 0xbf2d01b7480113592901bbbf2601b7460113592201bb0e00a006101abf4501b7430113593f01bb0e00a0081ab104009a1b07009f061a
theorem yB_cX7_throwFailure : BYS cX7_throwFailure 54 bB_cX7_throwFailure := BYS_of (by decide +kernel)
theorem dX7_throwFailure_0 : decode cX7_throwFailure 0 = .ok (.iload_n 0, 1) := D_26 yB_cX7_throwFailure rfl rfl
theorem dX7_throwFailure_1 : decode cX7_throwFailure 1 = .ok (.iconst 3, 1) := D_6 yB_cX7_throwFailure rfl rfl
theorem dX7_throwFailure_2 : decode cX7_throwFailure 2 = .ok (.if_icmp .eq 7, 3) := D_159 yB_cX7_throwFailure rfl rfl (sg_p (m := 32768) (N := 7) rfl rfl rfl)
theorem dX7_throwFailure_5 : decode cX7_throwFailure 5 = .ok (.iload_n 1, 1) := D_27 yB_cX7_throwFailure rfl rfl
theorem dX7_throwFailure_6 : decode cX7_throwFailure 6 = .ok (.ifCond .ne 4, 3) := D_154 yB_cX7_throwFailure rfl rfl (sg_p (m := 32768) (N := 4) rfl rfl rfl)
theorem dX7_throwFailure_9 : decode cX7_throwFailure 9 = .ok (.return_, 1) := D_177 yB_cX7_throwFailure rfl rfl
theorem dX7_throwFailure_10 : decode cX7_throwFailure 10 = .ok (.iload_n 0, 1) := D_26 yB_cX7_throwFailure rfl rfl
theorem dX7_throwFailure_11 : decode cX7_throwFailure 11 = .ok (.iconst 5, 1) := D_8 yB_cX7_throwFailure rfl rfl
theorem dX7_throwFailure_12 : decode cX7_throwFailure 12 = .ok (.if_icmp .ne 14, 3) := D_160 yB_cX7_throwFailure rfl rfl (sg_p (m := 32768) (N := 14) rfl rfl rfl)
theorem dX7_throwFailure_15 : decode cX7_throwFailure 15 = .ok (.new 319, 3) := D_187 yB_cX7_throwFailure rfl rfl rfl
theorem dX7_throwFailure_18 : decode cX7_throwFailure 18 = .ok (.dup, 1) := D_89 yB_cX7_throwFailure rfl rfl
theorem dX7_throwFailure_19 : decode cX7_throwFailure 19 = .ok (.ldc_w 323, 3) := D_19 yB_cX7_throwFailure rfl rfl rfl
theorem dX7_throwFailure_22 : decode cX7_throwFailure 22 = .ok (.invokespecial 325, 3) := D_183 yB_cX7_throwFailure rfl rfl rfl
theorem dX7_throwFailure_25 : decode cX7_throwFailure 25 = .ok (.athrow, 1) := D_191 yB_cX7_throwFailure rfl rfl
theorem dX7_throwFailure_26 : decode cX7_throwFailure 26 = .ok (.iload_n 0, 1) := D_26 yB_cX7_throwFailure rfl rfl
theorem dX7_throwFailure_27 : decode cX7_throwFailure 27 = .ok (.bipush 6, 2) := D_16 yB_cX7_throwFailure rfl rfl (sg_p (m := 128) (N := 6) rfl rfl rfl)
theorem dX7_throwFailure_29 : decode cX7_throwFailure 29 = .ok (.if_icmp .ne 14, 3) := D_160 yB_cX7_throwFailure rfl rfl (sg_p (m := 32768) (N := 14) rfl rfl rfl)
theorem dX7_throwFailure_32 : decode cX7_throwFailure 32 = .ok (.new 290, 3) := D_187 yB_cX7_throwFailure rfl rfl rfl
theorem dX7_throwFailure_35 : decode cX7_throwFailure 35 = .ok (.dup, 1) := D_89 yB_cX7_throwFailure rfl rfl
theorem dX7_throwFailure_36 : decode cX7_throwFailure 36 = .ok (.ldc_w 326, 3) := D_19 yB_cX7_throwFailure rfl rfl rfl
theorem dX7_throwFailure_39 : decode cX7_throwFailure 39 = .ok (.invokespecial 294, 3) := D_183 yB_cX7_throwFailure rfl rfl rfl
theorem dX7_throwFailure_42 : decode cX7_throwFailure 42 = .ok (.athrow, 1) := D_191 yB_cX7_throwFailure rfl rfl
theorem dX7_throwFailure_43 : decode cX7_throwFailure 43 = .ok (.new 297, 3) := D_187 yB_cX7_throwFailure rfl rfl rfl
theorem dX7_throwFailure_46 : decode cX7_throwFailure 46 = .ok (.dup, 1) := D_89 yB_cX7_throwFailure rfl rfl
theorem dX7_throwFailure_47 : decode cX7_throwFailure 47 = .ok (.ldc_w 328, 3) := D_19 yB_cX7_throwFailure rfl rfl rfl
theorem dX7_throwFailure_50 : decode cX7_throwFailure 50 = .ok (.invokespecial 301, 3) := D_183 yB_cX7_throwFailure rfl rfl rfl
theorem dX7_throwFailure_53 : decode cX7_throwFailure 53 = .ok (.athrow, 1) := D_191 yB_cX7_throwFailure rfl rfl
set_option maxHeartbeats 4000000 in
set_option maxRecDepth 100000 in
theorem x_X7_throwFailure (l : Launch) (hfl : l.stackTraces = false) (D : va_G) (cA : Nat → ClassId) (ad : Nat → Nat) (o : Int64) (σ : Mem) (q f : Int32) (sa : Nat → Nat) (sz : Nat) : vx_Met l yX7_throwFailure (WY yX7_throwFailure cX7_throwFailure 2 none) (RMc 6 1 6) (va_Pc [.int q, .int f] (PWX D cA ad o σ sa sz)) (va_Qv (fun (σ9 : Mem) => (q = 3 ∨ f = 0) ∧ σ9 = σ) (QW D cA ad o) (FA ad sz)) (vx_X (fun u : Mem => u = σ) (fun E u t => (¬ (q = 3 ∨ f = 0) ∧ ((q = 5 ∧ E = "java/lang/UnsupportedOperationException") ∨ (q ≠ 5 ∧ q = 6 ∧ E = "java/lang/IllegalArgumentException") ∨ (q ≠ 5 ∧ q ≠ 6 ∧ E = "java/lang/IllegalStateException"))) ∧ QW D cA ad o u t) (FA ad sz)) 1 6 (FA ad sz) := by
  refine vx_ofW (cc := cX7_throwFailure) (maxL := 2) (ret := none) (by decide) rfl ?_
  intro p e s m args below meth c s₁ B hml htab hv
  obtain ⟨rfl, ⟨hsz, hP, hK, hinj⟩, hU, hN, hXS, hXN, hFW⟩ := hv
  subst hsz
  have hl := lv_entry ([.int q, .int f] : List Value) (n := 2) (Nat.le_of_ble_eq_true rfl)
  rw [lg_entry_eq]
  generalize (lg_sl ([.int q, .int f] : List Value) ++ List.replicate (2 - (lg_sl ([.int q, .int f] : List Value)).length) Slot.unset).toArray = ls at hl ⊢
  have hl : lv_has ls 2 [(0, .int q), (1, .int f)] := hl
  have hts0 := atoms_spec (ws := WY yX7_throwFailure cX7_throwFailure 2 none) B.pre
  have hts : ∀ w ∈ tbg, w.before ([.int q, .int f] : List Value).toArray s = true := fun w hw => hts0 w (List.mem_cons_of_mem _ hw)
  have hown : s.vm.findClass RX7 = some m.cls := findClass_of_methodNamed B.named
  have hx := B.exec
  have hb := B.bytes
  have C0 : CX p s m ([.int q, .int f] : List Value).toArray c cX7_throwFailure 2 RX7 := ⟨hx, hb, hml, hown, hts⟩
  have X : WX D cA ad (FA ad s.heap.size) s := ⟨hK, hinj, fun i h => Or.inl ⟨i, h, rfl⟩, fun q h => Or.inr h⟩
  have hlk := B.notSynchronized
  have hS : va_S (FA ad s.heap.size) s.heap s.heap [] := va_S.rf
  refine lv_iload_n hx hb dX7_throwFailure_0 rfl (lv_at hl 0 rfl) ?_
  refine lv_iconst (v := 3) hx hb dX7_throwFailure_1 (by decide) ?_
  refine lv_icmp_eq (tgt := 9) hx hb dX7_throwFailure_2 (by decide) (fun c_3 => ?_) (fun c_3 => ?_)
  · refine vx_ret (W.widen (k := 1) (n := 6) (Nat.zero_le _) (Nat.zero_le _) ?_)
    exact r_vret C0 X hP hS B.returns hlk dX7_throwFailure_9 ⟨Or.inl c_3, rfl⟩
  refine lv_iload_n hx hb dX7_throwFailure_5 rfl (lv_at hl 1 rfl) ?_
  refine lv_if_ne (tgt := 10) hx hb dX7_throwFailure_6 (by decide) (fun c_4 => ?_) (fun c_4 => ?_)
  rotate_left
  · refine vx_ret (W.widen (k := 1) (n := 6) (Nat.zero_le _) (Nat.zero_le _) ?_)
    exact r_vret C0 X hP hS B.returns hlk dX7_throwFailure_9 ⟨Or.inr c_4, rfl⟩
  have hno : ¬ (q = 3 ∨ f = 0) := fun z => z.elim c_3 c_4
  refine lv_iload_n hx hb dX7_throwFailure_10 rfl (lv_at hl 0 rfl) ?_
  refine lv_iconst (v := 5) hx hb dX7_throwFailure_11 (by decide) ?_
  refine lv_icmp_ne (tgt := 26) hx hb dX7_throwFailure_12 (by decide) (fun c_5 => ?_) (fun c_5 => ?_)
  rotate_left
  · exact vx_throwSW (own := RX7) (cls := "java/lang/UnsupportedOperationException") (text := "the best one fails") (names := xnames) (ik := 319) (is := 323) (ic := 325) hx hb hfl hown (by decide +kernel) (by decide +kernel) (hts _ (tmc sb4_7 10 rfl (by decide +kernel))) (hts _ (tmc sb1_1 2 rfl (by decide +kernel))) hXS.2.1 (xatX xat3.1 xat3.2 hts hFW) xgd3 hU hN hS (by rw [hml]; exact hl.1) dX7_throwFailure_15 dX7_throwFailure_18 dX7_throwFailure_19 dX7_throwFailure_22 dX7_throwFailure_25 (fun x hx => (htab x hx).elim) (by decide) (by decide) (by decide) (by decide) hlk (fun t hv hz hq => ⟨σ, rfl, ⟨⟨hno, Or.inl ⟨c_5, rfl⟩⟩, WP_kept hP hq, va_K.moved hv X.1⟩, Nat.le_trans hS.1 hz, fun q h1 h2 => (hq q (Nat.lt_of_lt_of_le h1 hS.1)).trans (hS.2.1 q h1 h2)⟩) hS.2.2 (by decide) (by decide)
  refine lv_iload_n hx hb dX7_throwFailure_26 rfl (lv_at hl 0 rfl) ?_
  refine lv_bipush (v := 6) hx hb dX7_throwFailure_27 (by decide) ?_
  refine lv_icmp_ne (tgt := 43) hx hb dX7_throwFailure_29 (by decide) (fun c_6 => ?_) (fun c_6 => ?_)
  · exact vx_throwSW (own := RX7) (cls := "java/lang/IllegalStateException") (text := "the rule fails") (names := xnames) (ik := 297) (is := 328) (ic := 301) hx hb hfl hown (by decide +kernel) (by decide +kernel) (hts _ (tmc sb4_7 12 rfl (by decide +kernel))) (hts _ (tmc sb1_1 1 rfl (by decide +kernel))) hXS.2.2.2 (xatX xat2.1 xat2.2 hts hFW) xgd2 hU hN hS (by rw [hml]; exact hl.1) dX7_throwFailure_43 dX7_throwFailure_46 dX7_throwFailure_47 dX7_throwFailure_50 dX7_throwFailure_53 (fun x hx => (htab x hx).elim) (by decide) (by decide) (by decide) (by decide) hlk (fun t hv hz hq => ⟨σ, rfl, ⟨⟨hno, Or.inr (Or.inr ⟨c_5, c_6, rfl⟩)⟩, WP_kept hP hq, va_K.moved hv X.1⟩, Nat.le_trans hS.1 hz, fun q h1 h2 => (hq q (Nat.lt_of_lt_of_le h1 hS.1)).trans (hS.2.1 q h1 h2)⟩) hS.2.2 (by decide) (by decide)
  · exact vx_throwSW (own := RX7) (cls := "java/lang/IllegalArgumentException") (text := "the told one fails") (names := xnames) (ik := 290) (is := 326) (ic := 294) hx hb hfl hown (by decide +kernel) (by decide +kernel) (hts _ (tmc sb4_7 11 rfl (by decide +kernel))) (hts _ (tmc sb1_1 0 rfl (by decide +kernel))) hXS.2.2.1 (xatX xat1.1 xat1.2 hts hFW) xgd1 hU hN hS (by rw [hml]; exact hl.1) dX7_throwFailure_32 dX7_throwFailure_35 dX7_throwFailure_36 dX7_throwFailure_39 dX7_throwFailure_42 (fun x hx => (htab x hx).elim) (by decide) (by decide) (by decide) (by decide) hlk (fun t hv hz hq => ⟨σ, rfl, ⟨⟨hno, Or.inr (Or.inl ⟨c_5, c_6, rfl⟩)⟩, WP_kept hP hq, va_K.moved hv X.1⟩, Nat.le_trans hS.1 hz, fun q h1 h2 => (hq q (Nat.lt_of_lt_of_le h1 hS.1)).trans (hS.2.1 q h1 h2)⟩) hS.2.2 (by decide) (by decide)
def F_X7_toss (σ : Mem) (d : Int32) : Option Int32 := if d < 0 ∨ 8 ≤ d then some (-1) else (ix 8 d).bind fun j => if σ (68 + j) 0 = 0 then some (-11) else if σ (68 + j) 0 = 1 then (if σ (68 + j) 1 = 3 ∨ σ (68 + j) 2 = 0 then some (-15) else if σ (68 + j) 1 = 5 then (F_X7_wordsOf σ (σ (68 + j) 1) (σ (68 + j) 2)).bind fun w => some (200 + w) else if σ (68 + j) 1 = 6 then some (100 + σ (68 + j) 2) else some (σ (68 + j) 2)) else some (-12)
def bB_cX7_toss : Nat := 0xac8100b42c4eac608100b42c64104eac60f900b88100b42c7f00b42cc800114eacf1103c01b88100b42c7f00b42cacf41006009f043600b42cacf51006009a3600b42cac020500c72c4d3200b61b2a
theorem yB_cX7_toss : BYS cX7_toss 79 bB_cX7_toss := BYS_of (by decide +kernel)
theorem dX7_toss_0 : decode cX7_toss 0 = .ok (.aload_n 0, 1) := D_42 yB_cX7_toss rfl rfl
theorem dX7_toss_1 : decode cX7_toss 1 = .ok (.iload_n 1, 1) := D_27 yB_cX7_toss rfl rfl
theorem dX7_toss_2 : decode cX7_toss 2 = .ok (.invokevirtual 50, 3) := D_182 yB_cX7_toss rfl rfl rfl
theorem dX7_toss_5 : decode cX7_toss 5 = .ok (.astore_n 2, 1) := D_77 yB_cX7_toss rfl rfl
theorem dX7_toss_6 : decode cX7_toss 6 = .ok (.aload_n 2, 1) := D_44 yB_cX7_toss rfl rfl
theorem dX7_toss_7 : decode cX7_toss 7 = .ok (.ifnonnull 5, 3) := D_199 yB_cX7_toss rfl rfl (sg_p (m := 32768) (N := 5) rfl rfl rfl)
theorem dX7_toss_10 : decode cX7_toss 10 = .ok (.iconst (-1), 1) := D_2 yB_cX7_toss rfl rfl
theorem dX7_toss_11 : decode cX7_toss 11 = .ok (.ireturn, 1) := D_172 yB_cX7_toss rfl rfl
theorem dX7_toss_12 : decode cX7_toss 12 = .ok (.aload_n 2, 1) := D_44 yB_cX7_toss rfl rfl
theorem dX7_toss_13 : decode cX7_toss 13 = .ok (.getfield 54, 3) := D_180 yB_cX7_toss rfl rfl rfl
theorem dX7_toss_16 : decode cX7_toss 16 = .ok (.ifCond .ne 6, 3) := D_154 yB_cX7_toss rfl rfl (sg_p (m := 32768) (N := 6) rfl rfl rfl)
theorem dX7_toss_19 : decode cX7_toss 19 = .ok (.bipush (-11), 2) := D_16 yB_cX7_toss rfl rfl (sg_n (m := 128) (N := 11) rfl rfl rfl)
theorem dX7_toss_21 : decode cX7_toss 21 = .ok (.ireturn, 1) := D_172 yB_cX7_toss rfl rfl
theorem dX7_toss_22 : decode cX7_toss 22 = .ok (.aload_n 2, 1) := D_44 yB_cX7_toss rfl rfl
theorem dX7_toss_23 : decode cX7_toss 23 = .ok (.getfield 54, 3) := D_180 yB_cX7_toss rfl rfl rfl
theorem dX7_toss_26 : decode cX7_toss 26 = .ok (.iconst 1, 1) := D_4 yB_cX7_toss rfl rfl
theorem dX7_toss_27 : decode cX7_toss 27 = .ok (.if_icmp .eq 6, 3) := D_159 yB_cX7_toss rfl rfl (sg_p (m := 32768) (N := 6) rfl rfl rfl)
theorem dX7_toss_30 : decode cX7_toss 30 = .ok (.bipush (-12), 2) := D_16 yB_cX7_toss rfl rfl (sg_n (m := 128) (N := 12) rfl rfl rfl)
theorem dX7_toss_32 : decode cX7_toss 32 = .ok (.ireturn, 1) := D_172 yB_cX7_toss rfl rfl
theorem dX7_toss_33 : decode cX7_toss 33 = .ok (.aload_n 2, 1) := D_44 yB_cX7_toss rfl rfl
theorem dX7_toss_34 : decode cX7_toss 34 = .ok (.getfield 127, 3) := D_180 yB_cX7_toss rfl rfl rfl
theorem dX7_toss_37 : decode cX7_toss 37 = .ok (.aload_n 2, 1) := D_44 yB_cX7_toss rfl rfl
theorem dX7_toss_38 : decode cX7_toss 38 = .ok (.getfield 129, 3) := D_180 yB_cX7_toss rfl rfl rfl
theorem dX7_toss_41 : decode cX7_toss 41 = .ok (.invokestatic 316, 3) := D_184 yB_cX7_toss rfl rfl rfl
theorem dX7_toss_44 : decode cX7_toss 44 = .ok (.bipush (-15), 2) := D_16 yB_cX7_toss rfl rfl (sg_n (m := 128) (N := 15) rfl rfl rfl)
theorem dX7_toss_46 : decode cX7_toss 46 = .ok (.ireturn, 1) := D_172 yB_cX7_toss rfl rfl
theorem dX7_toss_47 : decode cX7_toss 47 = .ok (.astore_n 3, 1) := D_78 yB_cX7_toss rfl rfl
theorem dX7_toss_48 : decode cX7_toss 48 = .ok (.sipush 200, 3) := D_17 yB_cX7_toss rfl rfl (sg_p (m := 32768) (N := 200) rfl rfl rfl)
theorem dX7_toss_51 : decode cX7_toss 51 = .ok (.aload_n 2, 1) := D_44 yB_cX7_toss rfl rfl
theorem dX7_toss_52 : decode cX7_toss 52 = .ok (.getfield 127, 3) := D_180 yB_cX7_toss rfl rfl rfl
theorem dX7_toss_55 : decode cX7_toss 55 = .ok (.aload_n 2, 1) := D_44 yB_cX7_toss rfl rfl
theorem dX7_toss_56 : decode cX7_toss 56 = .ok (.getfield 129, 3) := D_180 yB_cX7_toss rfl rfl rfl
theorem dX7_toss_59 : decode cX7_toss 59 = .ok (.invokestatic 249, 3) := D_184 yB_cX7_toss rfl rfl rfl
theorem dX7_toss_62 : decode cX7_toss 62 = .ok (.iadd, 1) := D_96 yB_cX7_toss rfl rfl
theorem dX7_toss_63 : decode cX7_toss 63 = .ok (.ireturn, 1) := D_172 yB_cX7_toss rfl rfl
theorem dX7_toss_64 : decode cX7_toss 64 = .ok (.astore_n 3, 1) := D_78 yB_cX7_toss rfl rfl
theorem dX7_toss_65 : decode cX7_toss 65 = .ok (.bipush 100, 2) := D_16 yB_cX7_toss rfl rfl (sg_p (m := 128) (N := 100) rfl rfl rfl)
theorem dX7_toss_67 : decode cX7_toss 67 = .ok (.aload_n 2, 1) := D_44 yB_cX7_toss rfl rfl
theorem dX7_toss_68 : decode cX7_toss 68 = .ok (.getfield 129, 3) := D_180 yB_cX7_toss rfl rfl rfl
theorem dX7_toss_71 : decode cX7_toss 71 = .ok (.iadd, 1) := D_96 yB_cX7_toss rfl rfl
theorem dX7_toss_72 : decode cX7_toss 72 = .ok (.ireturn, 1) := D_172 yB_cX7_toss rfl rfl
theorem dX7_toss_73 : decode cX7_toss 73 = .ok (.astore_n 3, 1) := D_78 yB_cX7_toss rfl rfl
theorem dX7_toss_74 : decode cX7_toss 74 = .ok (.aload_n 2, 1) := D_44 yB_cX7_toss rfl rfl
theorem dX7_toss_75 : decode cX7_toss 75 = .ok (.getfield 129, 3) := D_180 yB_cX7_toss rfl rfl rfl
theorem dX7_toss_78 : decode cX7_toss 78 = .ok (.ireturn, 1) := D_172 yB_cX7_toss rfl rfl
set_option maxHeartbeats 4000000 in
set_option maxRecDepth 100000 in
theorem c_X7_toss (l : Launch) (hfl : l.stackTraces = false) (D : va_G) (cA : Nat → ClassId) (ad : Nat → Nat) (o : Int64) (σ : Mem) (d : Int32) (sa : Nat → Nat) (res : Int32) (h : F_X7_toss σ d = some res) (sz : Nat) : Met l yX7_toss (WYW yX7_toss cX7_toss 4 (some .int) hhT) (RMc 7 1 6) (va_Pc [.ref (ad 66), .int d] (PWX D cA ad o σ sa sz)) (va_Qi (fun r (σ9 : Mem) => r = res ∧ σ9 = σ) (QW D cA ad o) (FA ad sz)) 1 6 (FA ad sz) := by
  refine va_MetW (cc := cX7_toss) (maxL := 4) (ret := some .int) (hh := hhT) (by decide) rfl ?_
  intro p e s m args below meth c s₁ B hml hv
  obtain ⟨rfl, ⟨hsz, hP, hK, hinj⟩, hXF⟩ := hv
  subst hsz
  have hl := lv_entry ([.ref (ad 66), .int d] : List Value) (n := 4) (Nat.le_of_ble_eq_true rfl)
  rw [lg_entry_eq]
  generalize (lg_sl ([.ref (ad 66), .int d] : List Value) ++ List.replicate (4 - (lg_sl ([.ref (ad 66), .int d] : List Value)).length) Slot.unset).toArray = ls at hl ⊢
  have hl : lv_has ls 4 [(0, .ref (ad 66)), (1, .int d)] := hl
  have hts0 := atoms_spec (ws := WYW yX7_toss cX7_toss 4 (some .int) hhT) B.pre
  have hts : ∀ w ∈ tbg, w.before ([.ref (ad 66), .int d] : List Value).toArray s = true := fun w hw => hts0 w (List.mem_cons_of_mem _ hw)
  have htb : c.exceptionTable.toList = tableOf hhT := vx_table (x := yX7_toss) B (hts0 (Cond.codeWith yX7_toss cX7_toss 4 (some .int) hhT) List.mem_cons_self)
  have hown : s.vm.findClass RX7 = some m.cls := findClass_of_methodNamed B.named
  have hx := B.exec
  have hb := B.bytes
  have C0 : CX p s m ([.ref (ad 66), .int d] : List Value).toArray c cX7_toss 4 RX7 := ⟨hx, hb, hml, hown, hts⟩
  have X : WX D cA ad (FA ad s.heap.size) s := ⟨hK, hinj, fun i h => Or.inl ⟨i, h, rfl⟩, fun q h => Or.inr h⟩
  have hlk := B.notSynchronized
  have hr := B.returns
  have hS : va_S (FA ad s.heap.size) s.heap s.heap [] := va_S.rf
  refine lv_aload_n hx hb dX7_toss_0 rfl (lv_at hl 0 rfl) ?_
  refine lv_iload_n hx hb dX7_toss_1 rfl (lv_at hl 1 rfl) ?_
  refine r_cq X hS (r_runV (As := [.int d]) (rest := []) C0 X hP L_X7_50 (fun sz => c_X7_shelfAt l D cA ad o σ d  sz) (show 66 < 106 ∧ kd 66 = (7, 8) from ⟨by decide, rfl⟩).1 (show 66 < 106 ∧ kd 66 = (7, 8) from ⟨by decide, rfl⟩).2 (by decide) rfl ⟨Nat.le_of_ble_eq_true rfl, Nat.le_of_ble_eq_true rfl⟩ rfl hl.1 rfl (Nat.le_of_ble_eq_true rfl) dX7_toss_2 ⟨Nat.zero_le _, Nat.zero_le _⟩) (fun σ9 H locs hw hP hS => ?_) (fun x9 σ9 H locs hw hP hS => ?_)
  · rw [hw.1] at hP
    have h_1 := hw.2
    refine lv_astore_nN (lv' := [(2, .null), (0, .ref (ad 66)), (1, .int d)]) hx hb dX7_toss_5 rfl hl (by decide) rfl (fun ls hl => ?_)
    refine lv_aload_nN hx hb dX7_toss_6 rfl (lv_at hl 0 rfl) ?_
    refine lv_ifnonnullN hx hb dX7_toss_7 ?_
    refine lv_iconst (v := (-1)) hx hb dX7_toss_10 (by decide) ?_
    refine W.widen (k := 1) (n := 6) (Nat.zero_le _) (Nat.zero_le _) ?_
    exact r_iret C0 X hP hS hr hlk dX7_toss_11 ⟨by unfold F_X7_toss at h; rw [if_pos h_1] at h; exact Option.some.inj h, rfl⟩
  · rw [hw.1] at hP
    obtain ⟨-, j_2, hj_2, ej_2, rfl⟩ := hw
    have h_1 : ¬ (d < 0 ∨ 8 ≤ d) := by rw [ej_2]; exact nosh hj_2
    unfold F_X7_toss at h
    rw [if_neg h_1, ej_2, ix_nI hj_2 (by decide), Option.bind_some] at h
    refine lv_astore_n (lv' := [(2, .ref (ad (68 + j_2))), (0, .ref (ad 66)), (1, .int d)]) hx hb dX7_toss_5 rfl hl (by decide) rfl (fun ls hl => ?_)
    refine lv_aload_n hx hb dX7_toss_6 rfl (lv_at hl 0 rfl) ?_
    refine lv_ifnonnull (tgt := 12) hx hb dX7_toss_7 (by decide) ?_
    refine lv_aload_n hx hb dX7_toss_12 rfl (lv_at hl 0 rfl) ?_
    refine gf_X7_54 C0 X hP (68 + j_2) (kdS j_2 hj_2) dX7_toss_13 ?_
    refine lv_if_ne (tgt := 22) hx hb dX7_toss_16 (by decide) (fun c_3 => ?_) (fun c_3 => ?_)
    rotate_left
    · refine lv_bipush (v := (-11)) hx hb dX7_toss_19 (by decide) ?_
      refine W.widen (k := 1) (n := 6) (Nat.zero_le _) (Nat.zero_le _) ?_
      exact r_iret C0 X hP hS hr hlk dX7_toss_21 ⟨by rw [if_pos c_3] at h; exact Option.some.inj h, rfl⟩
    rw [if_neg c_3] at h
    refine lv_aload_n hx hb dX7_toss_22 rfl (lv_at hl 0 rfl) ?_
    refine gf_X7_54 C0 X hP (68 + j_2) (kdS j_2 hj_2) dX7_toss_23 ?_
    refine lv_iconst (v := 1) hx hb dX7_toss_26 (by decide) ?_
    refine lv_icmp_eq (tgt := 33) hx hb dX7_toss_27 (by decide) (fun c_4 => ?_) (fun c_4 => ?_)
    rotate_left
    · refine lv_bipush (v := (-12)) hx hb dX7_toss_30 (by decide) ?_
      refine W.widen (k := 1) (n := 6) (Nat.zero_le _) (Nat.zero_le _) ?_
      exact r_iret C0 X hP hS hr hlk dX7_toss_32 ⟨by rw [if_neg c_4] at h; exact Option.some.inj h, rfl⟩
    rw [if_pos c_4] at h
    refine lv_aload_n hx hb dX7_toss_33 rfl (lv_at hl 0 rfl) ?_
    refine gf_X7_127 C0 X hP (68 + j_2) (kdS j_2 hj_2) dX7_toss_34 ?_
    refine lv_aload_n hx hb dX7_toss_37 rfl (lv_at hl 0 rfl) ?_
    refine gf_X7_129 C0 X hP (68 + j_2) (kdS j_2 hj_2) dX7_toss_38 ?_
    refine vx_callv (vx_runS (As := [.int (σ (68 + j_2) 1), .int (σ (68 + j_2) 2)]) (rest := []) C0 (x_X7_throwFailure l hfl D cA ad o σ (σ (68 + j_2) 1) (σ (68 + j_2) 2) sa _) (cwS 2 hts L_X7_316.1 rfl rfl rfl L_X7_316.2 ⟨Nat.le_of_ble_eq_true rfl, Nat.le_of_ble_eq_true rfl⟩) ⟨PWX_blind, fun U hU hW => ⟨rfl, PW_of X hP hU hW, XF_at X hXF hS hU hW⟩⟩ rfl rfl hl.1 rfl (lv_room (Nat.le_of_ble_eq_true rfl)) dX7_toss_41 ⟨Nat.le_of_ble_eq_true rfl, Nat.le_of_ble_eq_true rfl⟩) hS (fun q _ h => FA_sub X hS q h) (FA_sub X hS) (fun q _ h => FA_sub X hS q h) (fun E ce q9 u t H1 locs ht hvm hu hB hz hk hS hcell hv0 hcls => ?_) (fun u t H1 locs ht hvm hw hB hz hk hS => ?_)
    · obtain ⟨⟨hno, hE⟩, hP1, -⟩ := hB
      rw [ht] at hP1
      have hP1 : WP D cA ad o σ H1 := by rw [← show u = σ from hu]; exact hP1
      rw [if_neg hno] at h
      rcases hE with ⟨k5, rfl⟩ | ⟨k5, k6, rfl⟩ | ⟨k5, k6, rfl⟩
      · rw [if_pos k5] at h
        obtain ⟨r_w, er_w, h⟩ := bnd h
        refine vx_catch (own := RX7) (name := "java/lang/UnsupportedOperationException") hown [] ⟨33, 46, 47, 319⟩ [⟨33, 46, 64, 290⟩, ⟨33, 46, 73, 297⟩] (by rw [htb]; rfl) (fun z hz => absurd hz List.not_mem_nil) (by decide) (by decide) (hts _ (tmc sb4_7 10 rfl (by decide +kernel))) (va_Nw.use rfl (hXF.2.2.2.2 _ (fwm 904 (by decide +kernel) (by decide +kernel)))) hcell hv0 hcls ?_
        refine lv_astore_n (lv' := [(3, .ref q9), (2, .ref (ad (68 + j_2))), (0, .ref (ad 66)), (1, .int d)]) hx hb dX7_toss_47 rfl hl (by decide) rfl (fun ls hl => ?_)
        refine lv_sipush (v := 200) hx hb dX7_toss_48 (by decide) ?_
        refine lv_aload_n hx hb dX7_toss_51 rfl (lv_at hl 1 rfl) ?_
        refine gf_X7_127 C0 X hP1 (68 + j_2) (kdS j_2 hj_2) dX7_toss_52 ?_
        refine lv_aload_n hx hb dX7_toss_55 rfl (lv_at hl 1 rfl) ?_
        refine gf_X7_129 C0 X hP1 (68 + j_2) (kdS j_2 hj_2) dX7_toss_56 ?_
        refine r_ci X hS (r_runS (As := [.int (σ (68 + j_2) 1), .int (σ (68 + j_2) 2)]) (rest := [.int 200]) C0 X hP1 L_X7_249 (fun sz => c_X7_wordsOf l D cA ad o σ (σ (68 + j_2) 1) (σ (68 + j_2) 2) r_w er_w sz) ⟨Nat.le_of_ble_eq_true rfl, Nat.le_of_ble_eq_true rfl⟩ rfl hl.1 rfl (Nat.le_of_ble_eq_true rfl) dX7_toss_59 ⟨Nat.le_of_ble_eq_true rfl, Nat.le_of_ble_eq_true rfl⟩) (fun r9 σ9 H locs hw hP hS => ?_)
        rw [hw.2] at hP
        rw [hw.1]
        refine lv_iadd hx hb dX7_toss_62 ?_
        exact r_iret C0 X hP hS hr hlk dX7_toss_63 ⟨Option.some.inj h, rfl⟩
      · rw [if_neg k5, if_pos k6] at h
        refine vx_catch (own := RX7) (name := "java/lang/IllegalArgumentException") hown [⟨33, 46, 47, 319⟩] ⟨33, 46, 64, 290⟩ [⟨33, 46, 73, 297⟩] (by rw [htb]; rfl) (fun z hz => ?_) (by decide) (by decide) (hts _ (tmc sb4_7 11 rfl (by decide +kernel))) (va_Nw.use rfl (hXF.2.2.2.2 _ (fwm 971 (by decide +kernel) (by decide +kernel)))) hcell hv0 hcls ?_
        · rw [List.mem_singleton.mp hz]
          exact Or.inr ⟨by decide, "java/lang/UnsupportedOperationException", hts _ (tmc sb4_7 10 rfl (by decide +kernel)), hXF.2.2.2.1.2.1⟩
        refine lv_astore_n (lv' := [(3, .ref q9), (2, .ref (ad (68 + j_2))), (0, .ref (ad 66)), (1, .int d)]) hx hb dX7_toss_64 rfl hl (by decide) rfl (fun ls hl => ?_)
        refine lv_bipush (v := 100) hx hb dX7_toss_65 (by decide) ?_
        refine lv_aload_n hx hb dX7_toss_67 rfl (lv_at hl 1 rfl) ?_
        refine gf_X7_129 C0 X hP1 (68 + j_2) (kdS j_2 hj_2) dX7_toss_68 ?_
        refine lv_iadd hx hb dX7_toss_71 ?_
        exact r_iret C0 X hP1 hS hr hlk dX7_toss_72 ⟨Option.some.inj h, rfl⟩
      · rw [if_neg k5, if_neg k6] at h
        refine vx_catch (own := RX7) (name := "java/lang/IllegalStateException") hown [⟨33, 46, 47, 319⟩, ⟨33, 46, 64, 290⟩] ⟨33, 46, 73, 297⟩ [] (by rw [htb]; rfl) (fun z hz => ?_) (by decide) (by decide) (hts _ (tmc sb4_7 12 rfl (by decide +kernel))) (va_Nw.use rfl (hXF.2.2.2.2 _ (fwm 986 (by decide +kernel) (by decide +kernel)))) hcell hv0 hcls ?_
        · rcases List.mem_cons.mp hz with rfl | hz
          · exact Or.inr ⟨by decide, "java/lang/UnsupportedOperationException", hts _ (tmc sb4_7 10 rfl (by decide +kernel)), hXF.2.2.2.1.2.2⟩
          · rw [List.mem_singleton.mp hz]
            exact Or.inr ⟨by decide, "java/lang/IllegalArgumentException", hts _ (tmc sb4_7 11 rfl (by decide +kernel)), hXF.2.2.2.1.1⟩
        refine lv_astore_n (lv' := [(3, .ref q9), (2, .ref (ad (68 + j_2))), (0, .ref (ad 66)), (1, .int d)]) hx hb dX7_toss_73 rfl hl (by decide) rfl (fun ls hl => ?_)
        refine lv_aload_n hx hb dX7_toss_74 rfl (lv_at hl 1 rfl) ?_
        refine gf_X7_129 C0 X hP1 (68 + j_2) (kdS j_2 hj_2) dX7_toss_75 ?_
        exact r_iret C0 X hP1 hS hr hlk dX7_toss_78 ⟨Option.some.inj h, rfl⟩
    · obtain ⟨hP1, -⟩ := hB
      rw [ht] at hP1
      have hP1 : WP D cA ad o σ H1 := by rw [← hw.2]; exact hP1
      rw [if_pos hw.1] at h
      refine lv_bipush (v := (-15)) hx hb dX7_toss_44 (by decide) ?_
      exact r_iret C0 X hP1 hS hr hlk dX7_toss_46 ⟨Option.some.inj h, rfl⟩
end
section
/-! toss on both sides; the reference's element -/
theorem call_toss (x : Int32) : CALR (fun σ => F_X7_toss σ x) (fun σ => F_X8_toss σ x) := by
  intro σ ρ I
  have S := I.2.2.2.2
  show ∃ r, F_X7_toss σ x = some r ∧ F_X8_toss ρ x = some r
  unfold F_X7_toss F_X8_toss F_X8_wrongRule
  rcases shelf_x (ρ := ρ) x with ⟨h1, h2⟩ | ⟨d, hd, rfl, h1, h2⟩
  · rw [if_pos h1, h2, Option.bind_some, if_pos rfl]; exact ⟨-1, rfl, rfl⟩
  · obtain ⟨⟨s1, s2⟩, s3, -, -, -⟩ := S d hd
    rw [if_neg h1, h2, ix_nI hd (by decide)]
    simp only [obs, i10, if_false]
    rw [s1]
    rcases s2 with q | q | q <;> rw [q]
    · exact ⟨-11, rfl, rfl⟩
    · obtain ⟨t1, t2, -, -⟩ := s3 q
      rw [t1, t2]
      obtain ⟨w, w1, w2⟩ := words_t (ρ 100 d) (ρ 101 d)
      rw [w1, w2]
      generalize ρ 100 d = K
      generalize ρ 101 d = F
      show ∃ r, (if K = 3 ∨ F = 0 then some (-15) else if K = 5 then some (200 + w) else if K = 6 then some (100 + F) else some F) = some r ∧ (if K = 3 then some (-15) else if F = 0 then some (-15) else if K = 6 then some (100 + F) else if K = 5 then some (200 + w) else some F) = some r
      by_cases k3 : K = 3
      · rw [if_pos (Or.inl k3), if_pos k3]; exact ⟨_, rfl, rfl⟩
      · by_cases f0 : F = 0
        · rw [if_pos (Or.inr f0), if_neg k3, if_pos f0]; exact ⟨_, rfl, rfl⟩
        · rw [if_neg (fun z => z.elim k3 f0), if_neg k3, if_neg f0]
          by_cases k5 : K = 5
          · have k6 : ¬ K = 6 := by rw [k5]; decide
            rw [if_pos k5, if_neg k6, if_pos k5]; exact ⟨_, rfl, rfl⟩
          · rw [if_neg k5]
            by_cases k6 : K = 6
            · rw [if_pos k6, if_pos k6]; exact ⟨_, rfl, rfl⟩
            · rw [if_neg k6, if_neg k6, if_neg k5]; exact ⟨_, rfl, rfl⟩
    · exact ⟨-12, rfl, rfl⟩
/-- the reference's element: what it writes, what it answers -/
def F_X8_element (σ : Mem) (x1 x2 : Int32) : Option (Mem × Int64) := (F_X8_isShelf σ x1).bind fun r => if r = 0 then some (stm σ 91 11 1, (0 : Int32).toInt64) else (ix 8 x1).bind fun k => if σ 96 k = 2 then (if 0 ≤ x2 ∧ x2 ≤ (σ 98 k) - 1 then (ix 800 (100 * x1 + x2)).bind fun q => some (stm σ 91 11 0, (σ 99 q).toInt64) else some (stm σ 91 11 2, (0 : Int32).toInt64)) else some (stm σ 91 11 2, (0 : Int32).toInt64)
def bB_cX8_element : Nat := 0xad090400a7852e601c681b64101f00b42a12009a3100b42a3100b5030400a70507009a3500b88564042e1b1c00b42a09851c1500a0052e1b1600b42a2400a70407009a6900b81b2a
theorem yB_cX8_element : BYS cX8_element 72 bB_cX8_element := BYS_of (by decide +kernel)
theorem dX8_element_0 : decode cX8_element 0 = .ok (.aload_n 0, 1) := D_42 yB_cX8_element rfl rfl
theorem dX8_element_1 : decode cX8_element 1 = .ok (.iload_n 1, 1) := D_27 yB_cX8_element rfl rfl
theorem dX8_element_2 : decode cX8_element 2 = .ok (.invokestatic 105, 3) := D_184 yB_cX8_element rfl rfl rfl
theorem dX8_element_5 : decode cX8_element 5 = .ok (.ifCond .ne 7, 3) := D_154 yB_cX8_element rfl rfl (sg_p (m := 32768) (N := 7) rfl rfl rfl)
theorem dX8_element_8 : decode cX8_element 8 = .ok (.iconst 1, 1) := D_4 yB_cX8_element rfl rfl
theorem dX8_element_9 : decode cX8_element 9 = .ok (.goto 36, 3) := D_167 yB_cX8_element rfl rfl (sg_p (m := 32768) (N := 36) rfl rfl rfl)
theorem dX8_element_12 : decode cX8_element 12 = .ok (.aload_n 0, 1) := D_42 yB_cX8_element rfl rfl
theorem dX8_element_13 : decode cX8_element 13 = .ok (.getfield 22, 3) := D_180 yB_cX8_element rfl rfl rfl
theorem dX8_element_16 : decode cX8_element 16 = .ok (.iload_n 1, 1) := D_27 yB_cX8_element rfl rfl
theorem dX8_element_17 : decode cX8_element 17 = .ok (.iaload, 1) := D_46 yB_cX8_element rfl rfl
theorem dX8_element_18 : decode cX8_element 18 = .ok (.iconst 2, 1) := D_5 yB_cX8_element rfl rfl
theorem dX8_element_19 : decode cX8_element 19 = .ok (.if_icmp .ne 21, 3) := D_160 yB_cX8_element rfl rfl (sg_p (m := 32768) (N := 21) rfl rfl rfl)
theorem dX8_element_22 : decode cX8_element 22 = .ok (.iload_n 2, 1) := D_28 yB_cX8_element rfl rfl
theorem dX8_element_23 : decode cX8_element 23 = .ok (.i2l, 1) := D_133 yB_cX8_element rfl rfl
theorem dX8_element_24 : decode cX8_element 24 = .ok (.lconst 0, 1) := D_9 yB_cX8_element rfl rfl
theorem dX8_element_25 : decode cX8_element 25 = .ok (.aload_n 0, 1) := D_42 yB_cX8_element rfl rfl
theorem dX8_element_26 : decode cX8_element 26 = .ok (.getfield 28, 3) := D_180 yB_cX8_element rfl rfl rfl
theorem dX8_element_29 : decode cX8_element 29 = .ok (.iload_n 1, 1) := D_27 yB_cX8_element rfl rfl
theorem dX8_element_30 : decode cX8_element 30 = .ok (.iaload, 1) := D_46 yB_cX8_element rfl rfl
theorem dX8_element_31 : decode cX8_element 31 = .ok (.iconst 1, 1) := D_4 yB_cX8_element rfl rfl
theorem dX8_element_32 : decode cX8_element 32 = .ok (.isub, 1) := D_100 yB_cX8_element rfl rfl
theorem dX8_element_33 : decode cX8_element 33 = .ok (.i2l, 1) := D_133 yB_cX8_element rfl rfl
theorem dX8_element_34 : decode cX8_element 34 = .ok (.invokestatic 53, 3) := D_184 yB_cX8_element rfl rfl rfl
theorem dX8_element_37 : decode cX8_element 37 = .ok (.ifCond .ne 7, 3) := D_154 yB_cX8_element rfl rfl (sg_p (m := 32768) (N := 7) rfl rfl rfl)
theorem dX8_element_40 : decode cX8_element 40 = .ok (.iconst 2, 1) := D_5 yB_cX8_element rfl rfl
theorem dX8_element_41 : decode cX8_element 41 = .ok (.goto 4, 3) := D_167 yB_cX8_element rfl rfl (sg_p (m := 32768) (N := 4) rfl rfl rfl)
theorem dX8_element_44 : decode cX8_element 44 = .ok (.iconst 0, 1) := D_3 yB_cX8_element rfl rfl
theorem dX8_element_45 : decode cX8_element 45 = .ok (.putfield 49, 3) := D_181 yB_cX8_element rfl rfl rfl
theorem dX8_element_48 : decode cX8_element 48 = .ok (.aload_n 0, 1) := D_42 yB_cX8_element rfl rfl
theorem dX8_element_49 : decode cX8_element 49 = .ok (.getfield 49, 3) := D_180 yB_cX8_element rfl rfl rfl
theorem dX8_element_52 : decode cX8_element 52 = .ok (.ifCond .ne 18, 3) := D_154 yB_cX8_element rfl rfl (sg_p (m := 32768) (N := 18) rfl rfl rfl)
theorem dX8_element_55 : decode cX8_element 55 = .ok (.aload_n 0, 1) := D_42 yB_cX8_element rfl rfl
theorem dX8_element_56 : decode cX8_element 56 = .ok (.getfield 31, 3) := D_180 yB_cX8_element rfl rfl rfl
theorem dX8_element_59 : decode cX8_element 59 = .ok (.bipush 100, 2) := D_16 yB_cX8_element rfl rfl (sg_p (m := 128) (N := 100) rfl rfl rfl)
theorem dX8_element_61 : decode cX8_element 61 = .ok (.iload_n 1, 1) := D_27 yB_cX8_element rfl rfl
theorem dX8_element_62 : decode cX8_element 62 = .ok (.imul, 1) := D_104 yB_cX8_element rfl rfl
theorem dX8_element_63 : decode cX8_element 63 = .ok (.iload_n 2, 1) := D_28 yB_cX8_element rfl rfl
theorem dX8_element_64 : decode cX8_element 64 = .ok (.iadd, 1) := D_96 yB_cX8_element rfl rfl
theorem dX8_element_65 : decode cX8_element 65 = .ok (.iaload, 1) := D_46 yB_cX8_element rfl rfl
theorem dX8_element_66 : decode cX8_element 66 = .ok (.i2l, 1) := D_133 yB_cX8_element rfl rfl
theorem dX8_element_67 : decode cX8_element 67 = .ok (.goto 4, 3) := D_167 yB_cX8_element rfl rfl (sg_p (m := 32768) (N := 4) rfl rfl rfl)
theorem dX8_element_70 : decode cX8_element 70 = .ok (.lconst 0, 1) := D_9 yB_cX8_element rfl rfl
theorem dX8_element_71 : decode cX8_element 71 = .ok (.lreturn, 1) := D_173 yB_cX8_element rfl rfl
set_option maxHeartbeats 4000000 in
set_option maxRecDepth 100000 in
theorem c_X8_element (l : Launch) (D : va_G) (cA : Nat → ClassId) (ad : Nat → Nat) (o : Int64) (σ : Mem) (x1 x2 : Int32) (res : Mem × Int64) (h : F_X8_element σ x1 x2 = some res) (sz : Nat) : Met l yX8_element (WY yX8_element cX8_element 3 (some .long)) (RM 2) (va_Pc [.ref (ad 91), .int x1, .int x2] (PW D cA ad o σ sz)) (va_Ql (fun r σ9 => r = res.2 ∧ σ9 = res.1) (QW D cA ad o) (FA ad sz)) 0 0 (FA ad sz) := by
  refine ct_of (own := RX8) (k := 2) (Qf := va_Ql (fun r σ9 => r = res.2 ∧ σ9 = res.1) (QW D cA ad o)) rfl (by decide) (Nat.le_of_ble_eq_true rfl) (fun p e s m below meth c ls C0 X hr hlk hP hl => ?_) sz
  have hS : va_S (FA ad s.heap.size) s.heap s.heap [] := va_S.rf
  have hl : lv_has ls 3 [(0, .ref (ad 91)), (1, .int x1), (2, .int x2)] := hl
  obtain ⟨hx, hb, hml, hown, hts⟩ := id C0
  unfold F_X8_element at h
  refine lv_aload_n hx hb dX8_element_0 rfl (lv_at hl 0 rfl) ?_
  refine lv_iload_n hx hb dX8_element_1 rfl (lv_at hl 1 rfl) ?_
  obtain ⟨r_1, er_1, h⟩ := bnd h
  refine r_ci X hS (r_runS (As := [.int x1]) (rest := [.ref (ad 91)]) C0 X hP L_X8_105 (fun sz => c_X8_isShelf l D cA ad o σ x1 r_1 er_1 sz) ⟨Nat.le_of_ble_eq_true rfl, Nat.le_of_ble_eq_true rfl⟩ rfl hl.1 rfl (Nat.le_of_ble_eq_true rfl) dX8_element_2 ⟨Nat.zero_le _, Nat.zero_le _⟩) (fun r9 σ9 H locs hw hP hS => ?_)
  rw [hw.2] at hP
  rw [hw.1]
  refine lv_if_ne (tgt := 12) hx hb dX8_element_5 (by decide) (fun c_2 => ?_) (fun c_2 => ?_)
  rotate_left
  · rw [if_pos c_2] at h
    refine lv_iconst (v := 1) hx hb dX8_element_8 (by decide) ?_
    refine lv_goto (tgt := 45) hx hb dX8_element_9 (by decide) ?_
    refine pf_X8_49 C0 X hP hS 91 ⟨by decide, rfl⟩ dX8_element_45 (fun H locs hP hS => ?_)
    refine lv_aload_n hx hb dX8_element_48 rfl (lv_at hl 0 rfl) ?_
    refine gf_X8_49 C0 X hP 91 ⟨by decide, rfl⟩ dX8_element_49 ?_
    refine lv_topE (y := 1) (by rw [stm_row, upd_at]) ?_
    refine lv_if_ne (tgt := 70) hx hb dX8_element_52 (by decide) (fun c_7 => ?_) (fun c_7 => absurd c_7 (by decide))
    refine lv_lconst (v := ((0 : Int32).toInt64)) hx hb dX8_element_70 (by decide) ?_
    exact r_lret C0 X hP hS hr hlk dX8_element_71 ⟨congrArg Prod.snd (Option.some.inj h), congrArg Prod.fst (Option.some.inj h)⟩
  rw [if_neg c_2] at h
  obtain ⟨k_3, ek_3, h⟩ := bnd h
  replace ek_3 := ix_s ek_3 (by decide)
  refine lv_aload_n hx hb dX8_element_12 rfl (lv_at hl 0 rfl) ?_
  refine gf_X8_22 C0 X hP 91 (q := 96) ⟨by decide, rfl⟩ (by omega) rfl dX8_element_13 ?_
  refine lv_iload_n hx hb dX8_element_16 rfl (lv_at hl 1 rfl) ?_
  refine r_ialdN C0 X hP 96 (k := k_3) ⟨by decide, rfl⟩ ek_3.1 ek_3.2 dX8_element_17 ?_
  refine lv_iconst (v := 2) hx hb dX8_element_18 (by decide) ?_
  refine lv_icmp_ne (tgt := 40) hx hb dX8_element_19 (by decide) (fun c_4 => ?_) (fun c_4 => ?_)
  · rw [if_neg c_4] at h
    refine lv_iconst (v := 2) hx hb dX8_element_40 (by decide) ?_
    refine lv_goto (tgt := 45) hx hb dX8_element_41 (by decide) ?_
    refine pf_X8_49 C0 X hP hS 91 ⟨by decide, rfl⟩ dX8_element_45 (fun H locs hP hS => ?_)
    refine lv_aload_n hx hb dX8_element_48 rfl (lv_at hl 0 rfl) ?_
    refine gf_X8_49 C0 X hP 91 ⟨by decide, rfl⟩ dX8_element_49 ?_
    refine lv_topE (y := 2) (by rw [stm_row, upd_at]) ?_
    refine lv_if_ne (tgt := 70) hx hb dX8_element_52 (by decide) (fun c_7 => ?_) (fun c_7 => absurd c_7 (by decide))
    refine lv_lconst (v := ((0 : Int32).toInt64)) hx hb dX8_element_70 (by decide) ?_
    exact r_lret C0 X hP hS hr hlk dX8_element_71 ⟨congrArg Prod.snd (Option.some.inj h), congrArg Prod.fst (Option.some.inj h)⟩
  rw [if_pos c_4] at h
  refine lv_iload_n hx hb dX8_element_22 rfl (lv_at hl 2 rfl) ?_
  refine lv_i2l (v := x2.toInt64) hx hb dX8_element_23 rfl ?_
  refine lv_lconst (v := ((0 : Int32).toInt64)) hx hb dX8_element_24 (by decide) ?_
  refine lv_aload_n hx hb dX8_element_25 rfl (lv_at hl 0 rfl) ?_
  refine gf_X8_28 C0 X hP 91 (q := 98) ⟨by decide, rfl⟩ (by omega) rfl dX8_element_26 ?_
  refine lv_iload_n hx hb dX8_element_29 rfl (lv_at hl 1 rfl) ?_
  refine r_ialdN C0 X hP 98 (k := k_3) ⟨by decide, rfl⟩ ek_3.1 ek_3.2 dX8_element_30 ?_
  refine lv_iconst (v := 1) hx hb dX8_element_31 (by decide) ?_
  refine lv_isub hx hb dX8_element_32 ?_
  refine lv_i2l (v := ((σ 98 k_3 - 1).toInt64)) hx hb dX8_element_33 rfl ?_
  refine r_ci X hS (r_runS (As := [.long (x2.toInt64), .long ((0 : Int32).toInt64), .long ((σ 98 k_3 - 1).toInt64)]) (rest := [.ref (ad 91)]) C0 X hP L_X8_53 (fun sz => c_X8_isIn l D cA ad o σ x2 0 (σ 98 k_3 - 1) sz) ⟨Nat.le_of_ble_eq_true rfl, Nat.le_of_ble_eq_true rfl⟩ rfl hl.1 rfl (Nat.le_of_ble_eq_true rfl) dX8_element_34 ⟨Nat.zero_le _, Nat.zero_le _⟩) (fun r9 σ9 H locs hw hP hS => ?_)
  rw [hw.2] at hP
  obtain ⟨⟨b_5, rfl⟩ | ⟨b_5, rfl⟩, -⟩ := hw
  · rw [if_pos b_5] at h
    obtain ⟨k_6, ek_6, h⟩ := bnd h
    replace ek_6 := ix_s ek_6 (by decide)
    refine lv_if_ne (tgt := 44) hx hb dX8_element_37 (by decide) (fun c_6 => ?_) (fun c_6 => absurd c_6 (by decide))
    refine lv_iconst (v := 0) hx hb dX8_element_44 (by decide) ?_
    refine pf_X8_49 C0 X hP hS 91 ⟨by decide, rfl⟩ dX8_element_45 (fun H locs hP hS => ?_)
    refine lv_aload_n hx hb dX8_element_48 rfl (lv_at hl 0 rfl) ?_
    refine gf_X8_49 C0 X hP 91 ⟨by decide, rfl⟩ dX8_element_49 ?_
    refine lv_topE (y := 0) (by rw [stm_row, upd_at]) ?_
    refine lv_if_ne (tgt := 70) hx hb dX8_element_52 (by decide) (fun c_7 => absurd rfl c_7) (fun c_7 => ?_)
    refine lv_aload_n hx hb dX8_element_55 rfl (lv_at hl 0 rfl) ?_
    refine gf_X8_31 C0 X hP 91 (q := 99) ⟨by decide, rfl⟩ (by omega) rfl dX8_element_56 ?_
    refine lv_bipush (v := 100) hx hb dX8_element_59 (by decide) ?_
    refine lv_iload_n hx hb dX8_element_61 rfl (lv_at hl 1 rfl) ?_
    refine lv_imul hx hb dX8_element_62 ?_
    refine lv_iload_n hx hb dX8_element_63 rfl (lv_at hl 2 rfl) ?_
    refine lv_iadd hx hb dX8_element_64 ?_
    refine r_ialdN C0 X hP 99 (k := k_6) ⟨by decide, rfl⟩ ek_6.1 ek_6.2 dX8_element_65 ?_
    refine lv_topE (y := σ 99 k_6) (by rw [stm_ne _ _ _ (by decide)]) ?_
    refine lv_i2l (v := (σ 99 k_6).toInt64) hx hb dX8_element_66 rfl ?_
    refine lv_goto (tgt := 71) hx hb dX8_element_67 (by decide) ?_
    exact r_lret C0 X hP hS hr hlk dX8_element_71 ⟨congrArg Prod.snd (Option.some.inj h), congrArg Prod.fst (Option.some.inj h)⟩
  · rw [if_neg (fun z => b_5.elim (Int32.not_lt.mpr z.1) (Int32.not_lt.mpr z.2))] at h
    refine lv_if_ne (tgt := 44) hx hb dX8_element_37 (by decide) (fun c_6 => absurd rfl c_6) (fun c_6 => ?_)
    refine lv_iconst (v := 2) hx hb dX8_element_40 (by decide) ?_
    refine lv_goto (tgt := 45) hx hb dX8_element_41 (by decide) ?_
    refine pf_X8_49 C0 X hP hS 91 ⟨by decide, rfl⟩ dX8_element_45 (fun H locs hP hS => ?_)
    refine lv_aload_n hx hb dX8_element_48 rfl (lv_at hl 0 rfl) ?_
    refine gf_X8_49 C0 X hP 91 ⟨by decide, rfl⟩ dX8_element_49 ?_
    refine lv_topE (y := 2) (by rw [stm_row, upd_at]) ?_
    refine lv_if_ne (tgt := 70) hx hb dX8_element_52 (by decide) (fun c_7 => ?_) (fun c_7 => absurd c_7 (by decide))
    refine lv_lconst (v := ((0 : Int32).toInt64)) hx hb dX8_element_70 (by decide) ?_
    exact r_lret C0 X hP hS hr hlk dX8_element_71 ⟨congrArg Prod.snd (Option.some.inj h), congrArg Prod.fst (Option.some.inj h)⟩
end
section
/-! what keeps the invariant: the searches, element -/
section KE9
variable {σ σ' ρ ρ' : Mem}
theorem INV_w (I : INV σ ρ) (h : ∀ i, i < 84 → σ' i = σ i) (hr : ∀ i, 92 ≤ i → i ≤ 101 → ρ' i = ρ i) (h91 : ρ' 91 10 = ρ 91 10) : INV σ' ρ' := by
  obtain ⟨⟨m, len, n, R⟩, L, ⟨⟨w1, w2⟩, w3, w4⟩, G, S⟩ := I
  refine ⟨⟨m, len, n, ?_⟩, LZ_cc L (fun i _ h2 => h i (by omega)), ?_, IMG_cc G (fun i _ h2 => h i (by omega)) (h 66 (by omega)) (hr 93 (by omega) (by omega)) h91, SH_cc S (fun i _ h2 => h i (by omega)) (fun i h1 h2 => hr i (by omega) (by omega))⟩
  · rw [hr 92 (by omega) (by omega)]
    exact RT_cc R (fun i _ h2 => h i (by omega))
  · unfold WN
    rw [h 0 (by omega), h 44 (by omega)]
    exact ⟨⟨w1, w2⟩, w3, w4⟩
theorem INV_rowsC (I : INV σ σ) (h : ∀ a, a ≠ 88 → a ≠ 89 → a ≠ 90 → σ' a = σ a) : INV σ' σ' := INV_w I (fun i hi => h i (by omega) (by omega) (by omega)) (fun i h1 _ => h i (by omega) (by omega) (by omega)) (by rw [h 91 (by omega) (by omega) (by omega)])
theorem INV_rowsR (I : INV σ σ) (h : Fr9 σ σ') : INV σ' σ' := INV_w I (fun i hi => h.1 i (by omega) (by omega) (by omega)) (fun i h1 h2 => h.1 i (by omega) (by omega) (by omega)) (h.2 10 (by omega))
theorem INV_elem (I : INV σ σ) (v : Int32) : INV (stm σ 91 11 v) (stm σ 91 11 v) := INV_w I (fun i hi => stm_ne _ _ _ (by omega)) (fun i h1 h2 => stm_ne _ _ _ (by omega)) (by rw [stm_row, upd_ne _ _ (by omega)])
/-- the reference's element returns; the invariant stays; its code is the class's, its value too -/
theorem elem_one (I : INV σ σ) (d i : Int32) : ∃ σ' r, F_X8_element σ d i = some (σ', r) ∧ INV σ' σ' ∧ ((d < 0 ∨ 8 ≤ d) ∧ σ' = stm σ 91 11 1 ∨ (¬ (d < 0 ∨ 8 ≤ d) ∧ (¬ ∃ j k, EOK σ d i j k) ∧ σ' = stm σ 91 11 2) ∨ ∃ j k, EOK σ d i j k ∧ σ' = stm σ 91 11 0 ∧ r = (σ (76 + j) k).toInt64) := by
  have S := I.2.2.2.2
  unfold F_X8_element
  rcases shelf_x (ρ := σ) d with ⟨h1, h2⟩ | ⟨j, hj, rfl, h1, h2⟩
  · rw [h2, Option.bind_some, if_pos rfl]
    exact ⟨_, _, rfl, INV_elem I 1, Or.inl ⟨h1, rfl⟩⟩
  · obtain ⟨⟨s1, s2⟩, s3, s4, ⟨s5, z, hz, ez⟩, s6⟩ := S j hj
    rw [h2, Option.bind_some, if_neg i10, ix_nI hj (by decide), Option.bind_some]
    have jj : ∀ q : Nat, q < 8 → nI j = nI q → q = j := fun q hq e => (nI_inj e (by omega) (by omega)).symm
    by_cases k2 : σ 96 j = 2
    · rw [if_pos k2]
      by_cases b : 0 ≤ i ∧ i ≤ σ 98 j - 1
      · have hi : ∃ k : Nat, k < z ∧ i = nI k := by
          obtain ⟨b1, b2⟩ := b
          have z0 : (0 : Int32).toInt = 0 := by decide
          have z1 : (1 : Int32).toInt = 1 := by decide
          have e := nI_toInt (n := z) (by omega)
          rw [i32_le, z0] at b1
          rw [ez, i32_le, t_sub (by rw [e, z1]; omega) (by rw [e, z1]; omega), e, z1] at b2
          exact ⟨i.toInt.toNat, by omega, nI_i b1 (by omega)⟩
        obtain ⟨k, hk, rfl⟩ := hi
        rw [if_pos b, ix99 hj (by omega), Option.bind_some]
        refine ⟨_, _, rfl, INV_elem I 0, Or.inr (Or.inr ⟨j, k, ⟨⟨hj, by omega⟩, ⟨rfl, rfl⟩, s1.trans k2, ?_⟩, rfl, by rw [s6 k (by omega)]⟩)⟩
        rw [s5, ez]
        exact nI_ge hk (by omega)
      · rw [if_neg b]
        refine ⟨_, _, rfl, INV_elem I 2, Or.inr (Or.inl ⟨h1, ?_, rfl⟩)⟩
        rintro ⟨q, k, ⟨q8, k100⟩, ⟨e1, rfl⟩, e3, e4⟩
        obtain rfl := jj q q8 e1
        rw [s5, ez] at e4
        have kz : k < z := by
          rcases Nat.lt_or_ge k z with w | w
          · exact w
          · exact absurd (nI_le w (by omega)) e4
        refine b ⟨nI_le (a := 0) (b := k) (by omega) (by omega), ?_⟩
        have z1 : (1 : Int32).toInt = 1 := by decide
        have e := nI_toInt (n := z) (by omega)
        have e' := nI_toInt (n := k) (by omega)
        rw [ez, i32_le, t_sub (by rw [e, z1]; omega) (by rw [e, z1]; omega), e, e', z1]
        omega
    · rw [if_neg k2]
      refine ⟨_, _, rfl, INV_elem I 2, Or.inr (Or.inl ⟨h1, ?_, rfl⟩)⟩
      rintro ⟨q, k, ⟨q8, -⟩, ⟨e1, -⟩, e3, -⟩
      obtain rfl := jj q q8 e1
      exact k2 (s1.symm.trans e3)
end KE9
end
