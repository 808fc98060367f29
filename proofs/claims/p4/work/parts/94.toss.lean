/-! throwFailure, toss, for every state -/
theorem xat3 : (∀ w ∈ vx_atS RX7 325 "java/lang/UnsupportedOperationException" xnames, w ∈ lw_tbl) ∧ (vx_atS RX7 325 "java/lang/UnsupportedOperationException" xnames).all (fun w => goodWord w || (w.faceAtom && w.onTables)) = true := ⟨sbx (by decide +kernel), by decide +kernel⟩
theorem xgd3 : ∀ w ∈ Cond.classLink RX7 319 "java/lang/UnsupportedOperationException" :: Cond.initialized "java/lang/UnsupportedOperationException" :: vx_atS RX7 325 "java/lang/UnsupportedOperationException" xnames, vx_ot w = true := by decide +kernel
theorem XF_at {D : va_G} {cA : Nat → ClassId} {ad : Nat → Nat} {s U : State} {H : Heap} {locs : List Loc} {sa : Nat → Nat} (X : WX D cA ad (FA ad s.heap.size) s) (hZ : XF ad sa s.heap.size s) (hS : va_S (FA ad s.heap.size) s.heap H locs) (hU : U.heap = H) (hW : s.WarmedH U.vm) : XF ad sa H.size U := by
  subst hU
  exact ⟨vx_Zq.moved hW.alike ((vx_Zq.kept hZ.1 hS.2.1).narrow (FA_sub X hS)), vx_Zq.moved hW.alike ((vx_Zq.kept hZ.2.1 hS.2.1).narrow (FA_sub X hS)), XS_warm hW hZ.2.2.1, XN_moved hW.alike hZ.2.2.2.1, FWp_moved hW.alike hZ.2.2.2.2⟩
def bB_cX7_throwFailure : Nat := 0xbf2d01b7480113592901bbbf2601b7460113592201bb0e00a006101abf4501b7430113593f01bb0e00a0081ab104009a1b07009f061a
theorem yB_cX7_throwFailure : BYS cX7_throwFailure 54 bB_cX7_throwFailure := BYS_of (by decide +kernel)
theorem dX7_throwFailure_0 : decode cX7_throwFailure 0 = .ok (.iload_n 0, 1) := D_26 yB_cX7_throwFailure rfl rfl
theorem dX7_throwFailure_1 : decode cX7_throwFailure 1 = .ok (.iconst 3, 1) := D_6 yB_cX7_throwFailure rfl rfl
theorem dX7_throwFailure_2 : decode cX7_throwFailure 2 = .ok (.if_icmp .eq 7, 3) := D_159 yB_cX7_throwFailure rfl rfl (sg_p (m := 32768) (N := 7) rfl rfl rfl)
theorem dX7_throwFailure_5 : decode cX7_throwFailure 5 = .ok (.iload_n 1, 1) := D_27 yB_cX7_throwFailure rfl rfl
theorem dX7_throwFailure_6 : decode cX7_throwFailure 6 = .ok (.ifCond .ne 4, 3) := D_154 yB_cX7_throwFailure rfl rfl (sg_p (m := 32768) (N := 4) rfl rfl rfl)
theorem dX7_throwFailure_9 : decode cX7_throwFailure 9 = .ok (.return_, 1) := D_177 yB_cX7_throwFailure rfl rfl
theorem dX7_throwFailure_10 : decode cX7_throwFailure 10 = .ok (.iload_n 0, 1) := D_26 yB_cX7_throwFailure rfl rfl
theorem dX7_throwFailure_11 : decode cX7_throwFailure 11 = .ok (.iconst 5, 1) := D_8 yB_cX7_throwFailure rfl rfl
theorem dX7_throwFailure_12 : decode cX7_throwFailure 12 = .ok (.if_icmp .ne 14, 3) := D_160 yB_cX7_throwFailure rfl rfl (sg_p (m := 32768) (N := 14) rfl rfl rfl)
theorem dX7_throwFailure_15 : decode cX7_throwFailure 15 = .ok (.new 319, 3) := D_187 yB_cX7_throwFailure rfl rfl rfl
theorem dX7_throwFailure_18 : decode cX7_throwFailure 18 = .ok (.dup, 1) := D_89 yB_cX7_throwFailure rfl rfl
theorem dX7_throwFailure_19 : decode cX7_throwFailure 19 = .ok (.ldc_w 323, 3) := D_19 yB_cX7_throwFailure rfl rfl rfl
theorem dX7_throwFailure_22 : decode cX7_throwFailure 22 = .ok (.invokespecial 325, 3) := D_183 yB_cX7_throwFailure rfl rfl rfl
theorem dX7_throwFailure_25 : decode cX7_throwFailure 25 = .ok (.athrow, 1) := D_191 yB_cX7_throwFailure rfl rfl
theorem dX7_throwFailure_26 : decode cX7_throwFailure 26 = .ok (.iload_n 0, 1) := D_26 yB_cX7_throwFailure rfl rfl
theorem dX7_throwFailure_27 : decode cX7_throwFailure 27 = .ok (.bipush 6, 2) := D_16 yB_cX7_throwFailure rfl rfl (sg_p (m := 128) (N := 6) rfl rfl rfl)
theorem dX7_throwFailure_29 : decode cX7_throwFailure 29 = .ok (.if_icmp .ne 14, 3) := D_160 yB_cX7_throwFailure rfl rfl (sg_p (m := 32768) (N := 14) rfl rfl rfl)
theorem dX7_throwFailure_32 : decode cX7_throwFailure 32 = .ok (.new 290, 3) := D_187 yB_cX7_throwFailure rfl rfl rfl
theorem dX7_throwFailure_35 : decode cX7_throwFailure 35 = .ok (.dup, 1) := D_89 yB_cX7_throwFailure rfl rfl
theorem dX7_throwFailure_36 : decode cX7_throwFailure 36 = .ok (.ldc_w 326, 3) := D_19 yB_cX7_throwFailure rfl rfl rfl
theorem dX7_throwFailure_39 : decode cX7_throwFailure 39 = .ok (.invokespecial 294, 3) := D_183 yB_cX7_throwFailure rfl rfl rfl
theorem dX7_throwFailure_42 : decode cX7_throwFailure 42 = .ok (.athrow, 1) := D_191 yB_cX7_throwFailure rfl rfl
theorem dX7_throwFailure_43 : decode cX7_throwFailure 43 = .ok (.new 297, 3) := D_187 yB_cX7_throwFailure rfl rfl rfl
theorem dX7_throwFailure_46 : decode cX7_throwFailure 46 = .ok (.dup, 1) := D_89 yB_cX7_throwFailure rfl rfl
theorem dX7_throwFailure_47 : decode cX7_throwFailure 47 = .ok (.ldc_w 328, 3) := D_19 yB_cX7_throwFailure rfl rfl rfl
theorem dX7_throwFailure_50 : decode cX7_throwFailure 50 = .ok (.invokespecial 301, 3) := D_183 yB_cX7_throwFailure rfl rfl rfl
theorem dX7_throwFailure_53 : decode cX7_throwFailure 53 = .ok (.athrow, 1) := D_191 yB_cX7_throwFailure rfl rfl
set_option maxHeartbeats 4000000 in
set_option maxRecDepth 100000 in
theorem x_X7_throwFailure (l : Launch) (hfl : l.stackTraces = false) (D : va_G) (cA : Nat → ClassId) (ad : Nat → Nat) (o : Int64) (σ : Mem) (q f : Int32) (sa : Nat → Nat) (sz : Nat) : vx_Met l yX7_throwFailure (WY yX7_throwFailure cX7_throwFailure 2 none) (RMc 6 1 6) (va_Pc [.int q, .int f] (PWX D cA ad o σ sa sz)) (va_Qv (fun (σ9 : Mem) => (q = 3 ∨ f = 0) ∧ σ9 = σ) (QW D cA ad o) (FA ad sz)) (vx_X (fun u : Mem => u = σ) (fun E u t => (¬ (q = 3 ∨ f = 0) ∧ ((q = 5 ∧ E = "java/lang/UnsupportedOperationException") ∨ (q ≠ 5 ∧ q = 6 ∧ E = "java/lang/IllegalArgumentException") ∨ (q ≠ 5 ∧ q ≠ 6 ∧ E = "java/lang/IllegalStateException"))) ∧ QW D cA ad o u t) (FA ad sz)) 1 6 (FA ad sz) := by
  refine vx_ofW (cc := cX7_throwFailure) (maxL := 2) (ret := none) (by decide) rfl ?_
  intro p e s m args below meth c s₁ B hml htab hv
  obtain ⟨rfl, ⟨hsz, hP, hK, hinj⟩, hU, hN, hXS, hXN, hFW⟩ := hv
  subst hsz
  have hl := lv_entry ([.int q, .int f] : List Value) (n := 2) (Nat.le_of_ble_eq_true rfl)
  rw [lg_entry_eq]
  generalize (lg_sl ([.int q, .int f] : List Value) ++ List.replicate (2 - (lg_sl ([.int q, .int f] : List Value)).length) Slot.unset).toArray = ls at hl ⊢
  have hl : lv_has ls 2 [(0, .int q), (1, .int f)] := hl
  have hts0 := atoms_spec (ws := WY yX7_throwFailure cX7_throwFailure 2 none) B.pre
  have hts : ∀ w ∈ tbg, w.before ([.int q, .int f] : List Value).toArray s = true := fun w hw => hts0 w (List.mem_cons_of_mem _ hw)
  have hown : s.vm.findClass RX7 = some m.cls := findClass_of_methodNamed B.named
  have hx := B.exec
  have hb := B.bytes
  have C0 : CX p s m ([.int q, .int f] : List Value).toArray c cX7_throwFailure 2 RX7 := ⟨hx, hb, hml, hown, hts⟩
  have X : WX D cA ad (FA ad s.heap.size) s := ⟨hK, hinj, fun i h => Or.inl ⟨i, h, rfl⟩, fun q h => Or.inr h⟩
  have hlk := B.notSynchronized
  have hS : va_S (FA ad s.heap.size) s.heap s.heap [] := va_S.rf
  refine lv_iload_n hx hb dX7_throwFailure_0 rfl (lv_at hl 0 rfl) ?_
  refine lv_iconst (v := 3) hx hb dX7_throwFailure_1 (by decide) ?_
  refine lv_icmp_eq (tgt := 9) hx hb dX7_throwFailure_2 (by decide) (fun c_3 => ?_) (fun c_3 => ?_)
  · refine vx_ret (W.widen (k := 1) (n := 6) (Nat.zero_le _) (Nat.zero_le _) ?_)
    exact r_vret C0 X hP hS B.returns hlk dX7_throwFailure_9 ⟨Or.inl c_3, rfl⟩
  refine lv_iload_n hx hb dX7_throwFailure_5 rfl (lv_at hl 1 rfl) ?_
  refine lv_if_ne (tgt := 10) hx hb dX7_throwFailure_6 (by decide) (fun c_4 => ?_) (fun c_4 => ?_)
  rotate_left
  · refine vx_ret (W.widen (k := 1) (n := 6) (Nat.zero_le _) (Nat.zero_le _) ?_)
    exact r_vret C0 X hP hS B.returns hlk dX7_throwFailure_9 ⟨Or.inr c_4, rfl⟩
  have hno : ¬ (q = 3 ∨ f = 0) := fun z => z.elim c_3 c_4
  refine lv_iload_n hx hb dX7_throwFailure_10 rfl (lv_at hl 0 rfl) ?_
  refine lv_iconst (v := 5) hx hb dX7_throwFailure_11 (by decide) ?_
  refine lv_icmp_ne (tgt := 26) hx hb dX7_throwFailure_12 (by decide) (fun c_5 => ?_) (fun c_5 => ?_)
  rotate_left
  · exact vx_throwSW (own := RX7) (cls := "java/lang/UnsupportedOperationException") (text := "the best one fails") (names := xnames) (ik := 319) (is := 323) (ic := 325) hx hb hfl hown (by decide +kernel) (by decide +kernel) (hts _ (tmc sb4 122 (by decide +kernel) (by decide +kernel))) (hts _ (tmc sb1 18 (by decide +kernel) (by decide +kernel))) hXS.2.1 (xatX xat3.1 xat3.2 hts hFW) xgd3 hU hN hS (by rw [hml]; exact hl.1) dX7_throwFailure_15 dX7_throwFailure_18 dX7_throwFailure_19 dX7_throwFailure_22 dX7_throwFailure_25 (fun x hx => (htab x hx).elim) (by decide) (by decide) (by decide) (by decide) hlk (fun t hv hz hq => ⟨σ, rfl, ⟨⟨hno, Or.inl ⟨c_5, rfl⟩⟩, WP_kept hP hq, va_K.moved hv X.1⟩, Nat.le_trans hS.1 hz, fun q h1 h2 => (hq q (Nat.lt_of_lt_of_le h1 hS.1)).trans (hS.2.1 q h1 h2)⟩) hS.2.2 (by decide) (by decide)
  refine lv_iload_n hx hb dX7_throwFailure_26 rfl (lv_at hl 0 rfl) ?_
  refine lv_bipush (v := 6) hx hb dX7_throwFailure_27 (by decide) ?_
  refine lv_icmp_ne (tgt := 43) hx hb dX7_throwFailure_29 (by decide) (fun c_6 => ?_) (fun c_6 => ?_)
  · exact vx_throwSW (own := RX7) (cls := "java/lang/IllegalStateException") (text := "the rule fails") (names := xnames) (ik := 297) (is := 328) (ic := 301) hx hb hfl hown (by decide +kernel) (by decide +kernel) (hts _ (tmc sb4 124 (by decide +kernel) (by decide +kernel))) (hts _ (tmc sb1 17 (by decide +kernel) (by decide +kernel))) hXS.2.2.2 (xatX xat2.1 xat2.2 hts hFW) xgd2 hU hN hS (by rw [hml]; exact hl.1) dX7_throwFailure_43 dX7_throwFailure_46 dX7_throwFailure_47 dX7_throwFailure_50 dX7_throwFailure_53 (fun x hx => (htab x hx).elim) (by decide) (by decide) (by decide) (by decide) hlk (fun t hv hz hq => ⟨σ, rfl, ⟨⟨hno, Or.inr (Or.inr ⟨c_5, c_6, rfl⟩)⟩, WP_kept hP hq, va_K.moved hv X.1⟩, Nat.le_trans hS.1 hz, fun q h1 h2 => (hq q (Nat.lt_of_lt_of_le h1 hS.1)).trans (hS.2.1 q h1 h2)⟩) hS.2.2 (by decide) (by decide)
  · exact vx_throwSW (own := RX7) (cls := "java/lang/IllegalArgumentException") (text := "the told one fails") (names := xnames) (ik := 290) (is := 326) (ic := 294) hx hb hfl hown (by decide +kernel) (by decide +kernel) (hts _ (tmc sb4 123 (by decide +kernel) (by decide +kernel))) (hts _ (tmc sb1 16 (by decide +kernel) (by decide +kernel))) hXS.2.2.1 (xatX xat1.1 xat1.2 hts hFW) xgd1 hU hN hS (by rw [hml]; exact hl.1) dX7_throwFailure_32 dX7_throwFailure_35 dX7_throwFailure_36 dX7_throwFailure_39 dX7_throwFailure_42 (fun x hx => (htab x hx).elim) (by decide) (by decide) (by decide) (by decide) hlk (fun t hv hz hq => ⟨σ, rfl, ⟨⟨hno, Or.inr (Or.inl ⟨c_5, c_6, rfl⟩)⟩, WP_kept hP hq, va_K.moved hv X.1⟩, Nat.le_trans hS.1 hz, fun q h1 h2 => (hq q (Nat.lt_of_lt_of_le h1 hS.1)).trans (hS.2.1 q h1 h2)⟩) hS.2.2 (by decide) (by decide)
def F_X7_toss (σ : Mem) (d : Int32) : Option Int32 := if d < 0 ∨ 8 ≤ d then some (-1) else (ix 8 d).bind fun j => if σ (68 + j) 0 = 0 then some (-11) else if σ (68 + j) 0 = 1 then (if σ (68 + j) 1 = 3 ∨ σ (68 + j) 2 = 0 then some (-15) else if σ (68 + j) 1 = 5 then (F_X7_wordsOf σ (σ (68 + j) 1) (σ (68 + j) 2)).bind fun w => some (200 + w) else if σ (68 + j) 1 = 6 then some (100 + σ (68 + j) 2) else some (σ (68 + j) 2)) else some (-12)
def bB_cX7_toss : Nat := 0xac8100b42c4eac608100b42c64104eac60f900b88100b42c7f00b42cc800114eacf1103c01b88100b42c7f00b42cacf41006009f043600b42cacf51006009a3600b42cac020500c72c4d3200b61b2a
theorem yB_cX7_toss : BYS cX7_toss 79 bB_cX7_toss := BYS_of (by decide +kernel)
theorem dX7_toss_0 : decode cX7_toss 0 = .ok (.aload_n 0, 1) := D_42 yB_cX7_toss rfl rfl
theorem dX7_toss_1 : decode cX7_toss 1 = .ok (.iload_n 1, 1) := D_27 yB_cX7_toss rfl rfl
theorem dX7_toss_2 : decode cX7_toss 2 = .ok (.invokevirtual 50, 3) := D_182 yB_cX7_toss rfl rfl rfl
theorem dX7_toss_5 : decode cX7_toss 5 = .ok (.astore_n 2, 1) := D_77 yB_cX7_toss rfl rfl
theorem dX7_toss_6 : decode cX7_toss 6 = .ok (.aload_n 2, 1) := D_44 yB_cX7_toss rfl rfl
theorem dX7_toss_7 : decode cX7_toss 7 = .ok (.ifnonnull 5, 3) := D_199 yB_cX7_toss rfl rfl (sg_p (m := 32768) (N := 5) rfl rfl rfl)
theorem dX7_toss_10 : decode cX7_toss 10 = .ok (.iconst (-1), 1) := D_2 yB_cX7_toss rfl rfl
theorem dX7_toss_11 : decode cX7_toss 11 = .ok (.ireturn, 1) := D_172 yB_cX7_toss rfl rfl
theorem dX7_toss_12 : decode cX7_toss 12 = .ok (.aload_n 2, 1) := D_44 yB_cX7_toss rfl rfl
theorem dX7_toss_13 : decode cX7_toss 13 = .ok (.getfield 54, 3) := D_180 yB_cX7_toss rfl rfl rfl
theorem dX7_toss_16 : decode cX7_toss 16 = .ok (.ifCond .ne 6, 3) := D_154 yB_cX7_toss rfl rfl (sg_p (m := 32768) (N := 6) rfl rfl rfl)
theorem dX7_toss_19 : decode cX7_toss 19 = .ok (.bipush (-11), 2) := D_16 yB_cX7_toss rfl rfl (sg_n (m := 128) (N := 11) rfl rfl rfl)
theorem dX7_toss_21 : decode cX7_toss 21 = .ok (.ireturn, 1) := D_172 yB_cX7_toss rfl rfl
theorem dX7_toss_22 : decode cX7_toss 22 = .ok (.aload_n 2, 1) := D_44 yB_cX7_toss rfl rfl
theorem dX7_toss_23 : decode cX7_toss 23 = .ok (.getfield 54, 3) := D_180 yB_cX7_toss rfl rfl rfl
theorem dX7_toss_26 : decode cX7_toss 26 = .ok (.iconst 1, 1) := D_4 yB_cX7_toss rfl rfl
theorem dX7_toss_27 : decode cX7_toss 27 = .ok (.if_icmp .eq 6, 3) := D_159 yB_cX7_toss rfl rfl (sg_p (m := 32768) (N := 6) rfl rfl rfl)
theorem dX7_toss_30 : decode cX7_toss 30 = .ok (.bipush (-12), 2) := D_16 yB_cX7_toss rfl rfl (sg_n (m := 128) (N := 12) rfl rfl rfl)
theorem dX7_toss_32 : decode cX7_toss 32 = .ok (.ireturn, 1) := D_172 yB_cX7_toss rfl rfl
theorem dX7_toss_33 : decode cX7_toss 33 = .ok (.aload_n 2, 1) := D_44 yB_cX7_toss rfl rfl
theorem dX7_toss_34 : decode cX7_toss 34 = .ok (.getfield 127, 3) := D_180 yB_cX7_toss rfl rfl rfl
theorem dX7_toss_37 : decode cX7_toss 37 = .ok (.aload_n 2, 1) := D_44 yB_cX7_toss rfl rfl
theorem dX7_toss_38 : decode cX7_toss 38 = .ok (.getfield 129, 3) := D_180 yB_cX7_toss rfl rfl rfl
theorem dX7_toss_41 : decode cX7_toss 41 = .ok (.invokestatic 316, 3) := D_184 yB_cX7_toss rfl rfl rfl
theorem dX7_toss_44 : decode cX7_toss 44 = .ok (.bipush (-15), 2) := D_16 yB_cX7_toss rfl rfl (sg_n (m := 128) (N := 15) rfl rfl rfl)
theorem dX7_toss_46 : decode cX7_toss 46 = .ok (.ireturn, 1) := D_172 yB_cX7_toss rfl rfl
theorem dX7_toss_47 : decode cX7_toss 47 = .ok (.astore_n 3, 1) := D_78 yB_cX7_toss rfl rfl
theorem dX7_toss_48 : decode cX7_toss 48 = .ok (.sipush 200, 3) := D_17 yB_cX7_toss rfl rfl (sg_p (m := 32768) (N := 200) rfl rfl rfl)
theorem dX7_toss_51 : decode cX7_toss 51 = .ok (.aload_n 2, 1) := D_44 yB_cX7_toss rfl rfl
theorem dX7_toss_52 : decode cX7_toss 52 = .ok (.getfield 127, 3) := D_180 yB_cX7_toss rfl rfl rfl
theorem dX7_toss_55 : decode cX7_toss 55 = .ok (.aload_n 2, 1) := D_44 yB_cX7_toss rfl rfl
theorem dX7_toss_56 : decode cX7_toss 56 = .ok (.getfield 129, 3) := D_180 yB_cX7_toss rfl rfl rfl
theorem dX7_toss_59 : decode cX7_toss 59 = .ok (.invokestatic 249, 3) := D_184 yB_cX7_toss rfl rfl rfl
theorem dX7_toss_62 : decode cX7_toss 62 = .ok (.iadd, 1) := D_96 yB_cX7_toss rfl rfl
theorem dX7_toss_63 : decode cX7_toss 63 = .ok (.ireturn, 1) := D_172 yB_cX7_toss rfl rfl
theorem dX7_toss_64 : decode cX7_toss 64 = .ok (.astore_n 3, 1) := D_78 yB_cX7_toss rfl rfl
theorem dX7_toss_65 : decode cX7_toss 65 = .ok (.bipush 100, 2) := D_16 yB_cX7_toss rfl rfl (sg_p (m := 128) (N := 100) rfl rfl rfl)
theorem dX7_toss_67 : decode cX7_toss 67 = .ok (.aload_n 2, 1) := D_44 yB_cX7_toss rfl rfl
theorem dX7_toss_68 : decode cX7_toss 68 = .ok (.getfield 129, 3) := D_180 yB_cX7_toss rfl rfl rfl
theorem dX7_toss_71 : decode cX7_toss 71 = .ok (.iadd, 1) := D_96 yB_cX7_toss rfl rfl
theorem dX7_toss_72 : decode cX7_toss 72 = .ok (.ireturn, 1) := D_172 yB_cX7_toss rfl rfl
theorem dX7_toss_73 : decode cX7_toss 73 = .ok (.astore_n 3, 1) := D_78 yB_cX7_toss rfl rfl
theorem dX7_toss_74 : decode cX7_toss 74 = .ok (.aload_n 2, 1) := D_44 yB_cX7_toss rfl rfl
theorem dX7_toss_75 : decode cX7_toss 75 = .ok (.getfield 129, 3) := D_180 yB_cX7_toss rfl rfl rfl
theorem dX7_toss_78 : decode cX7_toss 78 = .ok (.ireturn, 1) := D_172 yB_cX7_toss rfl rfl
set_option maxHeartbeats 4000000 in
set_option maxRecDepth 100000 in
theorem c_X7_toss (l : Launch) (hfl : l.stackTraces = false) (D : va_G) (cA : Nat → ClassId) (ad : Nat → Nat) (o : Int64) (σ : Mem) (d : Int32) (sa : Nat → Nat) (res : Int32) (h : F_X7_toss σ d = some res) (sz : Nat) : Met l yX7_toss (WYW yX7_toss cX7_toss 4 (some .int) hhT) (RMc 7 1 6) (va_Pc [.ref (ad 66), .int d] (PWX D cA ad o σ sa sz)) (va_Qi (fun r (σ9 : Mem) => r = res ∧ σ9 = σ) (QW D cA ad o) (FA ad sz)) 1 6 (FA ad sz) := by
  refine va_MetW (cc := cX7_toss) (maxL := 4) (ret := some .int) (hh := hhT) (by decide) rfl ?_
  intro p e s m args below meth c s₁ B hml hv
  obtain ⟨rfl, ⟨hsz, hP, hK, hinj⟩, hXF⟩ := hv
  subst hsz
  have hl := lv_entry ([.ref (ad 66), .int d] : List Value) (n := 4) (Nat.le_of_ble_eq_true rfl)
  rw [lg_entry_eq]
  generalize (lg_sl ([.ref (ad 66), .int d] : List Value) ++ List.replicate (4 - (lg_sl ([.ref (ad 66), .int d] : List Value)).length) Slot.unset).toArray = ls at hl ⊢
  have hl : lv_has ls 4 [(0, .ref (ad 66)), (1, .int d)] := hl
  have hts0 := atoms_spec (ws := WYW yX7_toss cX7_toss 4 (some .int) hhT) B.pre
  have hts : ∀ w ∈ tbg, w.before ([.ref (ad 66), .int d] : List Value).toArray s = true := fun w hw => hts0 w (List.mem_cons_of_mem _ hw)
  have htb : c.exceptionTable.toList = tableOf hhT := vx_table (x := yX7_toss) B (hts0 (Cond.codeWith yX7_toss cX7_toss 4 (some .int) hhT) List.mem_cons_self)
  have hown : s.vm.findClass RX7 = some m.cls := findClass_of_methodNamed B.named
  have hx := B.exec
  have hb := B.bytes
  have C0 : CX p s m ([.ref (ad 66), .int d] : List Value).toArray c cX7_toss 4 RX7 := ⟨hx, hb, hml, hown, hts⟩
  have X : WX D cA ad (FA ad s.heap.size) s := ⟨hK, hinj, fun i h => Or.inl ⟨i, h, rfl⟩, fun q h => Or.inr h⟩
  have hlk := B.notSynchronized
  have hr := B.returns
  have hS : va_S (FA ad s.heap.size) s.heap s.heap [] := va_S.rf
  refine lv_aload_n hx hb dX7_toss_0 rfl (lv_at hl 0 rfl) ?_
  refine lv_iload_n hx hb dX7_toss_1 rfl (lv_at hl 1 rfl) ?_
  refine r_cq X hS (r_runV (As := [.int d]) (rest := []) C0 X hP L_X7_50 (fun sz => c_X7_shelfAt l D cA ad o σ d  sz) (show 66 < 106 ∧ kd 66 = (7, 8) from ⟨by decide, rfl⟩).1 (show 66 < 106 ∧ kd 66 = (7, 8) from ⟨by decide, rfl⟩).2 (by decide) rfl ⟨Nat.le_of_ble_eq_true rfl, Nat.le_of_ble_eq_true rfl⟩ rfl hl.1 rfl (Nat.le_of_ble_eq_true rfl) dX7_toss_2 ⟨Nat.zero_le _, Nat.zero_le _⟩) (fun σ9 H locs hw hP hS => ?_) (fun x9 σ9 H locs hw hP hS => ?_)
  · rw [hw.1] at hP
    have h_1 := hw.2
    refine lv_astore_nN (lv' := [(2, .null), (0, .ref (ad 66)), (1, .int d)]) hx hb dX7_toss_5 rfl hl (by decide) rfl (fun ls hl => ?_)
    refine lv_aload_nN hx hb dX7_toss_6 rfl (lv_at hl 0 rfl) ?_
    refine lv_ifnonnullN hx hb dX7_toss_7 ?_
    refine lv_iconst (v := (-1)) hx hb dX7_toss_10 (by decide) ?_
    refine W.widen (k := 1) (n := 6) (Nat.zero_le _) (Nat.zero_le _) ?_
    exact r_iret C0 X hP hS hr hlk dX7_toss_11 ⟨by unfold F_X7_toss at h; rw [if_pos h_1] at h; exact Option.some.inj h, rfl⟩
  · rw [hw.1] at hP
    obtain ⟨-, j_2, hj_2, ej_2, rfl⟩ := hw
    have h_1 : ¬ (d < 0 ∨ 8 ≤ d) := by rw [ej_2]; exact nosh hj_2
    unfold F_X7_toss at h
    rw [if_neg h_1, ej_2, ix_nI hj_2 (by decide), Option.bind_some] at h
    refine lv_astore_n (lv' := [(2, .ref (ad (68 + j_2))), (0, .ref (ad 66)), (1, .int d)]) hx hb dX7_toss_5 rfl hl (by decide) rfl (fun ls hl => ?_)
    refine lv_aload_n hx hb dX7_toss_6 rfl (lv_at hl 0 rfl) ?_
    refine lv_ifnonnull (tgt := 12) hx hb dX7_toss_7 (by decide) ?_
    refine lv_aload_n hx hb dX7_toss_12 rfl (lv_at hl 0 rfl) ?_
    refine gf_X7_54 C0 X hP (68 + j_2) (kdS j_2 hj_2) dX7_toss_13 ?_
    refine lv_if_ne (tgt := 22) hx hb dX7_toss_16 (by decide) (fun c_3 => ?_) (fun c_3 => ?_)
    rotate_left
    · refine lv_bipush (v := (-11)) hx hb dX7_toss_19 (by decide) ?_
      refine W.widen (k := 1) (n := 6) (Nat.zero_le _) (Nat.zero_le _) ?_
      exact r_iret C0 X hP hS hr hlk dX7_toss_21 ⟨by rw [if_pos c_3] at h; exact Option.some.inj h, rfl⟩
    rw [if_neg c_3] at h
    refine lv_aload_n hx hb dX7_toss_22 rfl (lv_at hl 0 rfl) ?_
    refine gf_X7_54 C0 X hP (68 + j_2) (kdS j_2 hj_2) dX7_toss_23 ?_
    refine lv_iconst (v := 1) hx hb dX7_toss_26 (by decide) ?_
    refine lv_icmp_eq (tgt := 33) hx hb dX7_toss_27 (by decide) (fun c_4 => ?_) (fun c_4 => ?_)
    rotate_left
    · refine lv_bipush (v := (-12)) hx hb dX7_toss_30 (by decide) ?_
      refine W.widen (k := 1) (n := 6) (Nat.zero_le _) (Nat.zero_le _) ?_
      exact r_iret C0 X hP hS hr hlk dX7_toss_32 ⟨by rw [if_neg c_4] at h; exact Option.some.inj h, rfl⟩
    rw [if_pos c_4] at h
    refine lv_aload_n hx hb dX7_toss_33 rfl (lv_at hl 0 rfl) ?_
    refine gf_X7_127 C0 X hP (68 + j_2) (kdS j_2 hj_2) dX7_toss_34 ?_
    refine lv_aload_n hx hb dX7_toss_37 rfl (lv_at hl 0 rfl) ?_
    refine gf_X7_129 C0 X hP (68 + j_2) (kdS j_2 hj_2) dX7_toss_38 ?_
    refine vx_callv (vx_runS (As := [.int (σ (68 + j_2) 1), .int (σ (68 + j_2) 2)]) (rest := []) C0 (x_X7_throwFailure l hfl D cA ad o σ (σ (68 + j_2) 1) (σ (68 + j_2) 2) sa _) (cwS 2 hts L_X7_316.1 rfl rfl rfl L_X7_316.2 ⟨Nat.le_of_ble_eq_true rfl, Nat.le_of_ble_eq_true rfl⟩) ⟨PWX_blind, fun U hU hW => ⟨rfl, PW_of X hP hU hW, XF_at X hXF hS hU hW⟩⟩ rfl rfl hl.1 rfl (lv_room (Nat.le_of_ble_eq_true rfl)) dX7_toss_41 ⟨Nat.le_of_ble_eq_true rfl, Nat.le_of_ble_eq_true rfl⟩) hS (fun q _ h => FA_sub X hS q h) (FA_sub X hS) (fun q _ h => FA_sub X hS q h) (fun E ce q9 u t H1 locs ht hvm hu hB hz hk hS hcell hv0 hcls => ?_) (fun u t H1 locs ht hvm hw hB hz hk hS => ?_)
    · obtain ⟨⟨hno, hE⟩, hP1, -⟩ := hB
      rw [ht] at hP1
      have hP1 : WP D cA ad o σ H1 := by rw [← show u = σ from hu]; exact hP1
      rw [if_neg hno] at h
      rcases hE with ⟨k5, rfl⟩ | ⟨k5, k6, rfl⟩ | ⟨k5, k6, rfl⟩
      · rw [if_pos k5] at h
        obtain ⟨r_w, er_w, h⟩ := bnd h
        refine vx_catch (own := RX7) (name := "java/lang/UnsupportedOperationException") hown [] ⟨33, 46, 47, 319⟩ [⟨33, 46, 64, 290⟩, ⟨33, 46, 73, 297⟩] (by rw [htb]; rfl) (fun z hz => absurd hz List.not_mem_nil) (by decide) (by decide) (hts _ (tmc sb4 122 (by decide +kernel) (by decide +kernel))) (va_Nw.use rfl (hXF.2.2.2.2 _ (fwm 904 (by decide +kernel) (by decide +kernel)))) hcell hv0 hcls ?_
        refine lv_astore_n (lv' := [(3, .ref q9), (2, .ref (ad (68 + j_2))), (0, .ref (ad 66)), (1, .int d)]) hx hb dX7_toss_47 rfl hl (by decide) rfl (fun ls hl => ?_)
        refine lv_sipush (v := 200) hx hb dX7_toss_48 (by decide) ?_
        refine lv_aload_n hx hb dX7_toss_51 rfl (lv_at hl 1 rfl) ?_
        refine gf_X7_127 C0 X hP1 (68 + j_2) (kdS j_2 hj_2) dX7_toss_52 ?_
        refine lv_aload_n hx hb dX7_toss_55 rfl (lv_at hl 1 rfl) ?_
        refine gf_X7_129 C0 X hP1 (68 + j_2) (kdS j_2 hj_2) dX7_toss_56 ?_
        refine r_ci X hS (r_runS (As := [.int (σ (68 + j_2) 1), .int (σ (68 + j_2) 2)]) (rest := [.int 200]) C0 X hP1 L_X7_249 (fun sz => c_X7_wordsOf l D cA ad o σ (σ (68 + j_2) 1) (σ (68 + j_2) 2) r_w er_w sz) ⟨Nat.le_of_ble_eq_true rfl, Nat.le_of_ble_eq_true rfl⟩ rfl hl.1 rfl (Nat.le_of_ble_eq_true rfl) dX7_toss_59 ⟨Nat.le_of_ble_eq_true rfl, Nat.le_of_ble_eq_true rfl⟩) (fun r9 σ9 H locs hw hP hS => ?_)
        rw [hw.2] at hP
        rw [hw.1]
        refine lv_iadd hx hb dX7_toss_62 ?_
        exact r_iret C0 X hP hS hr hlk dX7_toss_63 ⟨Option.some.inj h, rfl⟩
      · rw [if_neg k5, if_pos k6] at h
        refine vx_catch (own := RX7) (name := "java/lang/IllegalArgumentException") hown [⟨33, 46, 47, 319⟩] ⟨33, 46, 64, 290⟩ [⟨33, 46, 73, 297⟩] (by rw [htb]; rfl) (fun z hz => ?_) (by decide) (by decide) (hts _ (tmc sb4 123 (by decide +kernel) (by decide +kernel))) (va_Nw.use rfl (hXF.2.2.2.2 _ (fwm 971 (by decide +kernel) (by decide +kernel)))) hcell hv0 hcls ?_
        · rw [List.mem_singleton.mp hz]
          exact Or.inr ⟨by decide, "java/lang/UnsupportedOperationException", hts _ (tmc sb4 122 (by decide +kernel) (by decide +kernel)), hXF.2.2.2.1.2.1⟩
        refine lv_astore_n (lv' := [(3, .ref q9), (2, .ref (ad (68 + j_2))), (0, .ref (ad 66)), (1, .int d)]) hx hb dX7_toss_64 rfl hl (by decide) rfl (fun ls hl => ?_)
        refine lv_bipush (v := 100) hx hb dX7_toss_65 (by decide) ?_
        refine lv_aload_n hx hb dX7_toss_67 rfl (lv_at hl 1 rfl) ?_
        refine gf_X7_129 C0 X hP1 (68 + j_2) (kdS j_2 hj_2) dX7_toss_68 ?_
        refine lv_iadd hx hb dX7_toss_71 ?_
        exact r_iret C0 X hP1 hS hr hlk dX7_toss_72 ⟨Option.some.inj h, rfl⟩
      · rw [if_neg k5, if_neg k6] at h
        refine vx_catch (own := RX7) (name := "java/lang/IllegalStateException") hown [⟨33, 46, 47, 319⟩, ⟨33, 46, 64, 290⟩] ⟨33, 46, 73, 297⟩ [] (by rw [htb]; rfl) (fun z hz => ?_) (by decide) (by decide) (hts _ (tmc sb4 124 (by decide +kernel) (by decide +kernel))) (va_Nw.use rfl (hXF.2.2.2.2 _ (fwm 986 (by decide +kernel) (by decide +kernel)))) hcell hv0 hcls ?_
        · rcases List.mem_cons.mp hz with rfl | hz
          · exact Or.inr ⟨by decide, "java/lang/UnsupportedOperationException", hts _ (tmc sb4 122 (by decide +kernel) (by decide +kernel)), hXF.2.2.2.1.2.2⟩
          · rw [List.mem_singleton.mp hz]
            exact Or.inr ⟨by decide, "java/lang/IllegalArgumentException", hts _ (tmc sb4 123 (by decide +kernel) (by decide +kernel)), hXF.2.2.2.1.1⟩
        refine lv_astore_n (lv' := [(3, .ref q9), (2, .ref (ad (68 + j_2))), (0, .ref (ad 66)), (1, .int d)]) hx hb dX7_toss_73 rfl hl (by decide) rfl (fun ls hl => ?_)
        refine lv_aload_n hx hb dX7_toss_74 rfl (lv_at hl 1 rfl) ?_
        refine gf_X7_129 C0 X hP1 (68 + j_2) (kdS j_2 hj_2) dX7_toss_75 ?_
        exact r_iret C0 X hP1 hS hr hlk dX7_toss_78 ⟨Option.some.inj h, rfl⟩
    · obtain ⟨hP1, -⟩ := hB
      rw [ht] at hP1
      have hP1 : WP D cA ad o σ H1 := by rw [← hw.2]; exact hP1
      rw [if_pos hw.1] at h
      refine lv_bipush (v := (-15)) hx hb dX7_toss_44 (by decide) ?_
      exact r_iret C0 X hP1 hS hr hlk dX7_toss_46 ⟨Option.some.inj h, rfl⟩
