/-! the law's element, for every state -/
/-- a memory and what the law's own cell holds -/
def QWo (D : va_G) (cA : Nat → ClassId) (ad : Nat → Nat) : Mem × Int64 → State → Prop := fun q t => QW D cA ad q.2 q.1 t
section RL9
variable {p : Program} {l : Launch} {e : Env} {R : Room} {s : State} {m : MethodId} {args : Array Value} {below : List Frame} {meth : Method} {c : Code} {H : Heap} {locs : List Loc} {cells slots : Nat} {Q : State → Prop}
variable {cc : ByteArray} {pc nL : Nat} {ls : Array Slot} {rest : List Value} {D : va_G} {cA : Nat → ClassId} {ad : Nat → Nat} {A : Nat → Prop} {σ : Mem} {o : Int64} {own : String}
theorem cel105 (r : Nat → Int32) : cel cA ad o r 105 = .inl (cA 3, 1, .inr (.inl (fun _ => o))) := rfl
theorem r_last (C0 : CX p s m args c cc nL own) (X : WX D cA ad A s) (hP : WP D cA ad o σ H) (hS : va_S A s.heap H locs) {x : Int64} (hdg : decode cc pc = .ok (.lastore, 1))
    (kk : ∀ (H1 : Heap) (locs1 : List Loc), WP D cA ad x σ H1 → va_S A s.heap H1 locs1 → W p l e R s m args below meth c H1 locs1 cells slots Q (F0 m (pc + 1) ls rest)) : W p l e R s m args below meth c H locs cells slots Q (F0 m pc ls (.long x :: .int 0 :: .ref (ad 105) :: rest)) := by
  refine va_last C0.1 C0.2.1 X.1 hP (WX_D X o σ) hS 105 3 (cA := cA 3) (n := 1) (f := fun _ => o) (by rw [wl_get cA ad o σ (by decide), cel105]) rfl (by intro h; rcases h with h | h <;> exact absurd h (by decide)) hdg (fun H1 locs1 hP1 _ hS1 => kk H1 locs1 ?_ hS1)
  intro k q hq
  have hk : k < 106 := by
    have := (List.getElem?_eq_some_iff.mp hq).1
    simpa [wl] using this
  by_cases k5 : k = 105
  · subst k5
    rw [wl_get cA ad x σ (by decide), cel105] at hq
    obtain rfl := Option.some.inj hq
    have h := hP1 105 (ad 105, .inl (cA 3, 1, .inr (.inl (vp_updL (fun _ => o) (0 : Int32).toNatClampNeg x)))) (by
      rw [List.getElem?_set_self (by simp [wl])])
    have h' : H1[ad 105]? = some (vp_cell (cA 3) (1, .inr (.inl (vp_updL (fun _ => o) (0 : Int32).toNatClampNeg x)))) := h
    show H1[ad 105]? = some (vp_cell (cA 3) (1, .inr (.inl (fun _ => x))))
    rw [h']
    rw [vp_cell_l, vp_cell_l]
    have : ∀ j : Fin 1, vp_updL (fun _ => o) (0 : Int32).toNatClampNeg x j.val = x := fun j => by
      have hj : j.val = 0 := by omega
      rw [hj]; exact if_pos rfl
    unfold arrV
    simp only [this]
  · have e : ∀ y : Int64, cel cA ad y (σ k) k = cel cA ad o (σ k) k := fun y => by
      have : ¬ (kd k).1 = 12 := by
        have z : ∀ i, i < 106 → i ≠ 105 → (kd i).1 ≠ 12 := by decide +kernel
        exact z k hk k5
      unfold cel
      simp only [if_neg this]
    rw [wl_get cA ad x σ hk, e x] at hq
    refine hP1 k q ?_
    rw [List.getElem?_set_ne (fun z => k5 z.symm), wl_get cA ad o σ hk]
    exact hq
end RL9
def bB_cL_element : Nat := 0xac03ac05043aac04043a0b00a7500700b61c1b2a032d
theorem yB_cL_element : BYS cL_element 22 bB_cL_element := BYS_of (by decide +kernel)
theorem dL_element_0 : decode cL_element 0 = .ok (.aload_n 3, 1) := D_45 yB_cL_element rfl rfl
theorem dL_element_1 : decode cL_element 1 = .ok (.iconst 0, 1) := D_3 yB_cL_element rfl rfl
theorem dL_element_2 : decode cL_element 2 = .ok (.aload_n 0, 1) := D_42 yB_cL_element rfl rfl
theorem dL_element_3 : decode cL_element 3 = .ok (.iload_n 1, 1) := D_27 yB_cL_element rfl rfl
theorem dL_element_4 : decode cL_element 4 = .ok (.iload_n 2, 1) := D_28 yB_cL_element rfl rfl
theorem dL_element_5 : decode cL_element 5 = .ok (.invokevirtual 7, 3) := D_182 yB_cL_element rfl rfl rfl
theorem dL_element_8 : decode cL_element 8 = .ok (.lastore, 1) := D_80 yB_cL_element rfl rfl
theorem dL_element_9 : decode cL_element 9 = .ok (.goto 11, 3) := D_167 yB_cL_element rfl rfl (sg_p (m := 32768) (N := 11) rfl rfl rfl)
theorem dL_element_12 : decode cL_element 12 = .ok (.astore 4, 2) := D_58 yB_cL_element rfl rfl rfl
theorem dL_element_14 : decode cL_element 14 = .ok (.iconst 1, 1) := D_4 yB_cL_element rfl rfl
theorem dL_element_15 : decode cL_element 15 = .ok (.ireturn, 1) := D_172 yB_cL_element rfl rfl
theorem dL_element_16 : decode cL_element 16 = .ok (.astore 4, 2) := D_58 yB_cL_element rfl rfl rfl
theorem dL_element_18 : decode cL_element 18 = .ok (.iconst 2, 1) := D_5 yB_cL_element rfl rfl
theorem dL_element_19 : decode cL_element 19 = .ok (.ireturn, 1) := D_172 yB_cL_element rfl rfl
theorem dL_element_20 : decode cL_element 20 = .ok (.iconst 0, 1) := D_3 yB_cL_element rfl rfl
theorem dL_element_21 : decode cL_element 21 = .ok (.ireturn, 1) := D_172 yB_cL_element rfl rfl
set_option maxHeartbeats 4000000 in
set_option maxRecDepth 100000 in
theorem c_L_element (l : Launch) (hfl : l.stackTraces = false) (D : va_G) (cA : Nat → ClassId) (ad : Nat → Nat) (o : Int64) (σ : Mem) (d i : Int32) (sa : Nat → Nat) (sz : Nat) : Met l yL_element (WYW yL_element cL_element 5 (some .int) hhE) (RMc 7 1 6) (va_Pc [.ref (ad 66), .int d, .int i, .ref (ad 105)] (PWX D cA ad o σ sa sz)) (va_Qi (fun (r : Int32) (q : Mem × Int64) => q.1 = σ ∧ (((d < 0 ∨ 8 ≤ d) ∧ r = 1 ∧ q.2 = o) ∨ (¬ (d < 0 ∨ 8 ≤ d) ∧ (¬ ∃ j k, EOK σ d i j k) ∧ r = 2 ∧ q.2 = o) ∨ ∃ j k, EOK σ d i j k ∧ r = 0 ∧ q.2 = (σ (76 + j) k).toInt64)) (QWo D cA ad) (FA ad sz)) 1 6 (FA ad sz) := by
  refine va_MetW (cc := cL_element) (maxL := 5) (ret := some .int) (hh := hhE) (by decide) rfl ?_
  intro p e s m args below meth c s₁ B hml hv
  obtain ⟨rfl, ⟨hsz, hP, hK, hinj⟩, hXF⟩ := hv
  subst hsz
  have hl := lv_entry ([.ref (ad 66), .int d, .int i, .ref (ad 105)] : List Value) (n := 5) (Nat.le_of_ble_eq_true rfl)
  rw [lg_entry_eq]
  generalize (lg_sl ([.ref (ad 66), .int d, .int i, .ref (ad 105)] : List Value) ++ List.replicate (5 - (lg_sl ([.ref (ad 66), .int d, .int i, .ref (ad 105)] : List Value)).length) Slot.unset).toArray = ls at hl ⊢
  have hl : lv_has ls 5 [(0, .ref (ad 66)), (1, .int d), (2, .int i), (3, .ref (ad 105))] := hl
  have hts0 := atoms_spec (ws := WYW yL_element cL_element 5 (some .int) hhE) B.pre
  have hts : ∀ w ∈ tbg, w.before ([.ref (ad 66), .int d, .int i, .ref (ad 105)] : List Value).toArray s = true := fun w hw => hts0 w (List.mem_cons_of_mem _ hw)
  have htb : c.exceptionTable.toList = tableOf hhE := vx_table (x := yL_element) B (hts0 (Cond.codeWith yL_element cL_element 5 (some .int) hhE) List.mem_cons_self)
  have hown : s.vm.findClass RL = some m.cls := findClass_of_methodNamed B.named
  have hx := B.exec
  have hb := B.bytes
  have C0 : CX p s m ([.ref (ad 66), .int d, .int i, .ref (ad 105)] : List Value).toArray c cL_element 5 RL := ⟨hx, hb, hml, hown, hts⟩
  have X : WX D cA ad (FA ad s.heap.size) s := ⟨hK, hinj, fun i h => Or.inl ⟨i, h, rfl⟩, fun q h => Or.inr h⟩
  have hlk := B.notSynchronized
  have hr := B.returns
  have hS : va_S (FA ad s.heap.size) s.heap s.heap [] := va_S.rf
  refine lv_aload_n hx hb dL_element_0 rfl (lv_at hl 3 rfl) ?_
  refine lv_iconst (v := 0) hx hb dL_element_1 (by decide) ?_
  refine lv_aload_n hx hb dL_element_2 rfl (lv_at hl 0 rfl) ?_
  refine lv_iload_n hx hb dL_element_3 rfl (lv_at hl 1 rfl) ?_
  refine lv_iload_n hx hb dL_element_4 rfl (lv_at hl 2 rfl) ?_
  refine vx_calll (vx_runV (As := [.int d, .int i]) (rest := [.int 0, .ref (ad 105)]) C0 (x_X7_element l hfl D cA ad o σ d i sa s.heap.size) (cwV 2 hts L_L_7.1 rfl rfl rfl L_L_7.2 ⟨Nat.le_of_ble_eq_true rfl, Nat.le_of_ble_eq_true rfl⟩) ⟨PWX_blind, va_recv X.1 hP (q := (RX7, TX7, 8)) rfl (q0 := 66) (ci := 7) (fs := (List.range 8).map (fv ad (σ 66) 66)) (by rw [wl_get cA ad o σ (by decide), cel_obj (ci := 7) (n := 8) rfl (by decide)]), fun U hU hW => ⟨rfl, PW_of X hP hU hW, by rw [hU]; exact vx_Zq.moved hW.alike hXF.1, by rw [hU]; exact vx_Zq.moved hW.alike hXF.2.1, XS_warm hW hXF.2.2.1, XN_moved hW.alike hXF.2.2.2.1, FWp_moved hW.alike hXF.2.2.2.2⟩⟩ rfl rfl hl.1 rfl (lv_room (Nat.le_of_ble_eq_true rfl)) dL_element_5 ⟨Nat.le_of_ble_eq_true rfl, Nat.le_of_ble_eq_true rfl⟩) hS (fun q _ h => FA_sub X hS q h) (FA_sub X hS) (fun q _ h => FA_sub X hS q h) (fun E ce q9 u t H1 locs ht hvm hu hB hz hk hS hcell hv0 hcls => ?_) (fun r u t H1 locs ht hvm hw hB hz hk hS => ?_)
  · obtain ⟨hE, hP1, -⟩ := hB
    rw [ht] at hP1
    have hP1 : WP D cA ad o σ H1 := by rw [← show u = σ from hu]; exact hP1
    rcases hE with ⟨hd, rfl⟩ | ⟨hd, hno, rfl⟩
    · refine vx_catch (own := RL) (name := "java/lang/IllegalArgumentException") hown [] ⟨0, 9, 12, 13⟩ [⟨0, 9, 16, 15⟩] (by rw [htb]; rfl) (fun z hz => absurd hz List.not_mem_nil) (by decide) (by decide) (hts _ (tmc sb4 228 (by decide +kernel) (by decide +kernel))) (va_Nw.use rfl (hXF.2.2.2.2 _ (fwm 971 (by decide +kernel) (by decide +kernel)))) hcell hv0 hcls ?_
      refine lv_astore (lv' := [(4, .ref q9), (0, .ref (ad 66)), (1, .int d), (2, .int i), (3, .ref (ad 105))]) hx hb dL_element_12 hl (by decide) rfl (fun ls hl => ?_)
      refine lv_iconst (v := 1) hx hb dL_element_14 (by decide) ?_
      exact W.iret hx hb hr (fun t ht hW => ⟨⟨1, (σ, o), rfl, ⟨rfl, Or.inl ⟨hd, rfl, rfl⟩⟩, by show WP D cA ad o σ t.heap; rw [ht]; exact hP1, va_K.moved hW.alike X.1⟩, hS.F ht⟩) hS.2.2 dL_element_15 hlk
    · refine vx_catch (own := RL) (name := "java/lang/IllegalStateException") hown [⟨0, 9, 12, 13⟩] ⟨0, 9, 16, 15⟩ [] (by rw [htb]; rfl) (fun z hz => ?_) (by decide) (by decide) (hts _ (tmc sb4 229 (by decide +kernel) (by decide +kernel))) (va_Nw.use rfl (hXF.2.2.2.2 _ (fwm 986 (by decide +kernel) (by decide +kernel)))) hcell hv0 hcls ?_
      · rw [List.mem_singleton.mp hz]
        exact Or.inr ⟨by decide, "java/lang/IllegalArgumentException", hts _ (tmc sb4 228 (by decide +kernel) (by decide +kernel)), hXF.2.2.2.1.1⟩
      refine lv_astore (lv' := [(4, .ref q9), (0, .ref (ad 66)), (1, .int d), (2, .int i), (3, .ref (ad 105))]) hx hb dL_element_16 hl (by decide) rfl (fun ls hl => ?_)
      refine lv_iconst (v := 2) hx hb dL_element_18 (by decide) ?_
      exact W.iret hx hb hr (fun t ht hW => ⟨⟨2, (σ, o), rfl, ⟨rfl, Or.inr (Or.inl ⟨hd, hno, rfl, rfl⟩)⟩, by show WP D cA ad o σ t.heap; rw [ht]; exact hP1, va_K.moved hW.alike X.1⟩, hS.F ht⟩) hS.2.2 dL_element_19 hlk
  · obtain ⟨hP1, -⟩ := hB
    rw [ht] at hP1
    obtain ⟨⟨j, k, hE, rfl⟩, hu⟩ := hw
    have hP1 : WP D cA ad o σ H1 := by rw [← show u = σ from hu]; exact hP1
    refine r_last C0 X hP1 hS dL_element_8 (fun H2 locs2 hP2 hS2 => ?_)
    refine lv_goto (tgt := 20) hx hb dL_element_9 (by decide) ?_
    refine lv_iconst (v := 0) hx hb dL_element_20 (by decide) ?_
    exact W.iret hx hb hr (fun t ht hW => ⟨⟨0, (σ, (σ (76 + j) k).toInt64), rfl, ⟨rfl, Or.inr (Or.inr ⟨j, k, hE, rfl, rfl⟩)⟩, by show WP D cA ad _ σ t.heap; rw [ht]; exact hP2, va_K.moved hW.alike X.1⟩, hS2.F ht⟩) hS2.2.2 dL_element_21 hlk
