/-! the cases that throw -/
theorem gLtoss : GoodIn tbg (wsV RL 173 RX7 yX7_toss (WYW yX7_toss cX7_toss 4 (some .int) hhT)) := by
  refine tbg_good (fun w hw => ?_)
  simp only [wsV, List.cons_append, List.nil_append, List.mem_cons] at hw
  rcases hw with rfl | rfl | rfl | rfl | hw
  · exact tmc sb4 118 (by decide +kernel) (by decide +kernel)
  · exact tmc sb4 119 (by decide +kernel) (by decide +kernel)
  · exact tmc sb4 120 (by decide +kernel) (by decide +kernel)
  · exact wI7
  · exact WYW_good wcT w hw
theorem gLelem : GoodIn tbg (va_wsS RL 159 yL_element (WYW yL_element cL_element 5 (some .int) hhE)) := by
  refine tbg_good (fun w hw => ?_)
  simp only [va_wsS, List.cons_append, List.nil_append, List.mem_cons] at hw
  rcases hw with rfl | rfl | rfl | hw
  · exact tmc sb4 225 (by decide +kernel) (by decide +kernel)
  · exact tmc sb4 226 (by decide +kernel) (by decide +kernel)
  · exact tmc sb1 0 (by decide +kernel) (by decide +kernel)
  · exact WYW_good wcE w hw
set_option maxHeartbeats 4000000 in
set_option maxRecDepth 100000 in
theorem law_c33 {p : Program} {l : Launch} {e : Env} {s : State} {m : MethodId} {below : List Frame} {meth : Method} {c : Code} {D : va_G} {cA : Nat → ClassId} {ad : Nat → Nat} {o : Int64} {σ : Mem} {b Lx i : Nat} {xs : Nat → Int32} {H : Heap} {locs : List Loc} {cells slots : Nat} {ls : Array Slot} {sa : Nat → Nat} (hfl : l.stackTraces = false) (C0 : CX p s m #[Value.ref b] c code 8 RL) (hX : va_X b Lx xs s s.heap) (hi : 6 * i + 6 ≤ Lx) (hL : Lx ≤ 384) (hbl : b < s.heap.size) (X : WX D cA ad (fun q => s.heap.size ≤ q) s) (hZ : XL sa s) (hP : WP D cA ad o σ H) (hI : INV σ σ) (hS : va_S (fun q => s.heap.size ≤ q) s.heap H locs) (hl : lv_has ls 8 [(0, .ref b), (1, .ref (ad 66)), (2, .ref (ad 91)), (3, .ref (ad 105)), (4, .int (nI (6 * i)))]) (hc : cells ≤ 600000) (hs : slots ≤ 7300000) (kk : ∀ (σ' : Mem) (o' : Int64) (H1 : Heap) (locs1 : List Loc) (c1 s1 : Nat) (ls' : Array Slot), INV σ' σ' → WP D cA ad o' σ' H1 → va_S (fun q => s.heap.size ≤ q) s.heap H1 locs1 → c1 ≤ cells + 1 → s1 ≤ slots + 6 → lv_has ls' 8 [(0, .ref b), (1, .ref (ad 66)), (2, .ref (ad 91)), (3, .ref (ad 105)), (4, .int (nI (6 * i)))] → W p l e room_1 s m #[Value.ref b] below meth c H1 locs1 c1 s1 (lw_Z below #[Value.ref b] s) (F0 m 1480 ls' [])) : W p l e room_1 s m #[Value.ref b] below meth c H locs cells slots (lw_Z below #[Value.ref b] s) (F0 m 1317 ls []) := by
  obtain ⟨hx, hb, hml, hown, hts⟩ := id C0
  have hbA : ¬ (fun q => s.heap.size ≤ q) b := Nat.not_le.mpr hbl
  refine lv_aload_n hx hb dL_law_1317 rfl (lv_at hl 1 rfl) ?_
  refine lv_aload_n hx hb dL_law_1318 rfl (lv_at hl 0 rfl) ?_
  refine lv_iload hx hb dL_law_1319 (lv_at hl 4 rfl) ?_
  refine lv_iconst (v := 1) hx hb dL_law_1321 (by decide) ?_
  refine lv_iadd hx hb dL_law_1322 ?_
  refine lv_topE (y := nI (6 * i + 1)) (nI_add (6 * i) 1) ?_
  refine va_sld (xs := xs) hx hb hX hbl hbA hS (vp_in_nI (by omega) (by omega)) dL_law_1323 ?_
  refine lv_topE (y := xs (6 * i + 1)) (congrArg xs (nI_clamp (by omega))) ?_
  refine lv_aload_n hx hb dL_law_1324 rfl (lv_at hl 0 rfl) ?_
  refine lv_iload hx hb dL_law_1325 (lv_at hl 4 rfl) ?_
  refine lv_iconst (v := 2) hx hb dL_law_1327 (by decide) ?_
  refine lv_iadd hx hb dL_law_1328 ?_
  refine lv_topE (y := nI (6 * i + 2)) (nI_add (6 * i) 2) ?_
  refine va_sld (xs := xs) hx hb hX hbl hbA hS (vp_in_nI (by omega) (by omega)) dL_law_1329 ?_
  refine lv_topE (y := xs (6 * i + 2)) (congrArg xs (nI_clamp (by omega))) ?_
  refine lv_aload_n hx hb dL_law_1330 rfl (lv_at hl 3 rfl) ?_
  refine va_calli (vx_runSW (As := [.ref (ad 66), .int (xs (6 * i + 1)), .int (xs (6 * i + 2)), .ref (ad 105)]) (rest := []) C0 (c_L_element l hfl D cA ad o σ (xs (6 * i + 1)) (xs (6 * i + 2)) sa H.size) (vx_cwSW 4 hts gLelem rfl rfl rfl (by decide +kernel) ⟨(Nat.le_of_ble_eq_true rfl), (Nat.le_of_ble_eq_true rfl)⟩) ⟨PWX_blind, fun U hU hW => ⟨rfl, PW_of X hP hU hW, XF_of X hZ hS hU hW⟩⟩ rfl rfl hl.1 rfl (lv_room (Nat.le_of_ble_eq_true rfl)) dL_law_1331 ⟨Nat.add_le_of_le_sub (by decide) (Nat.le_trans hc (by decide)), Nat.add_le_of_le_sub (by decide) (Nat.le_trans hs (by decide))⟩) hS (fun q _ h => FA_sub X hS q h) (FA_sub X hS) (fun r1 u t H locs ht hvm hwe hB hz hk hS => ?_)
  obtain ⟨u1, o1⟩ := u
  have hu : u1 = σ := hwe.1
  have hP : WP D cA ad o1 σ H := by rw [← ht, ← hu]; exact hB.1
  have hc2 : cells + 1 ≤ 600001 := Nat.succ_le_succ hc
  have hs2 : slots + 6 ≤ 7300006 := Nat.add_le_add_right hs 6
  refine lv_istore (lv' := [(5, .int r1), (0, .ref b), (1, .ref (ad 66)), (2, .ref (ad 91)), (3, .ref (ad 105)), (4, .int (nI (6 * i)))]) hx hb dL_law_1334 hl (by decide) rfl (fun ls hl => ?_)
  refine lv_aload_n hx hb dL_law_1336 rfl (lv_at hl 3 rfl) ?_
  refine lv_aload_n hx hb dL_law_1337 rfl (lv_at hl 1 rfl) ?_
  refine lv_iload hx hb dL_law_1338 (lv_at hl 5 rfl) ?_
  refine lv_iconst (v := 1) hx hb dL_law_1340 (by decide) ?_
  refine lv_iadd hx hb dL_law_1341 ?_
  refine lv_topE (y := nI (6 * i + 1)) (nI_add (6 * i) 1) ?_
  refine va_sld (xs := xs) hx hb hX hbl hbA hS (vp_in_nI (by omega) (by omega)) dL_law_1342 ?_
  refine lv_topE (y := xs (6 * i + 1)) (congrArg xs (nI_clamp (by omega))) ?_
  refine lv_aload_n hx hb dL_law_1343 rfl (lv_at hl 1 rfl) ?_
  refine lv_iload hx hb dL_law_1344 (lv_at hl 5 rfl) ?_
  refine lv_iconst (v := 2) hx hb dL_law_1346 (by decide) ?_
  refine lv_iadd hx hb dL_law_1347 ?_
  refine lv_topE (y := nI (6 * i + 2)) (nI_add (6 * i) 2) ?_
  refine va_sld (xs := xs) hx hb hX hbl hbA hS (vp_in_nI (by omega) (by omega)) dL_law_1348 ?_
  refine lv_topE (y := xs (6 * i + 2)) (congrArg xs (nI_clamp (by omega))) ?_
  obtain ⟨ρ1, r2, b1, I1, -⟩ := elem_one hI (xs (6 * i + 1)) (xs (6 * i + 2))
  refine r_cl X hS (r_runV (As := [.int (xs (6 * i + 1)), .int (xs (6 * i + 2))]) (rest := []) C0 X hP L_L_164 (fun sz => c_X8_element l D cA ad o1 σ (xs (6 * i + 1)) (xs (6 * i + 2)) (ρ1, r2) b1 sz) (by decide) (show kd 91 = (8, 24) from rfl) (by decide) rfl ⟨(Nat.le_of_ble_eq_true rfl), (Nat.le_of_ble_eq_true rfl)⟩ rfl hl.1 rfl (Nat.le_of_ble_eq_true rfl) dL_law_1349 ⟨Nat.le_trans hc2 (Nat.le_of_ble_eq_true rfl), Nat.le_trans hs2 (Nat.le_of_ble_eq_true rfl)⟩) (fun r9 σ9 H locs hw hP hS => ?_)
  rw [hw.2] at hP
  refine lv_lstore (lv' := [(6, .long r9), (5, .int r1), (0, .ref b), (1, .ref (ad 66)), (2, .ref (ad 91)), (3, .ref (ad 105)), (4, .int (nI (6 * i)))]) hx hb dL_law_1352 hl (by decide) rfl (fun ls hl => ?_)
  refine lv_goto (tgt := 1480) hx hb dL_law_1354 (by decide) ?_
  exact kk _ _ _ _ _ _ _ I1 hP hS (Nat.le_refl _) (Nat.le_refl _) (lv_sub hl [2, 3, 4, 5, 6] rfl)
set_option maxHeartbeats 4000000 in
set_option maxRecDepth 100000 in
theorem law_c36 {p : Program} {l : Launch} {e : Env} {s : State} {m : MethodId} {below : List Frame} {meth : Method} {c : Code} {D : va_G} {cA : Nat → ClassId} {ad : Nat → Nat} {o : Int64} {σ : Mem} {b Lx i : Nat} {xs : Nat → Int32} {H : Heap} {locs : List Loc} {cells slots : Nat} {ls : Array Slot} {sa : Nat → Nat} (hfl : l.stackTraces = false) (C0 : CX p s m #[Value.ref b] c code 8 RL) (hX : va_X b Lx xs s s.heap) (hi : 6 * i + 6 ≤ Lx) (hL : Lx ≤ 384) (hbl : b < s.heap.size) (X : WX D cA ad (fun q => s.heap.size ≤ q) s) (hZ : XL sa s) (hP : WP D cA ad o σ H) (hI : INV σ σ) (hS : va_S (fun q => s.heap.size ≤ q) s.heap H locs) (hl : lv_has ls 8 [(0, .ref b), (1, .ref (ad 66)), (2, .ref (ad 91)), (3, .ref (ad 105)), (4, .int (nI (6 * i)))]) (hc : cells ≤ 600000) (hs : slots ≤ 7300000) (kk : ∀ (σ' : Mem) (o' : Int64) (H1 : Heap) (locs1 : List Loc) (c1 s1 : Nat) (ls' : Array Slot), INV σ' σ' → WP D cA ad o' σ' H1 → va_S (fun q => s.heap.size ≤ q) s.heap H1 locs1 → c1 ≤ cells + 1 → s1 ≤ slots + 6 → lv_has ls' 8 [(0, .ref b), (1, .ref (ad 66)), (2, .ref (ad 91)), (3, .ref (ad 105)), (4, .int (nI (6 * i)))] → W p l e room_1 s m #[Value.ref b] below meth c H1 locs1 c1 s1 (lw_Z below #[Value.ref b] s) (F0 m 1480 ls' [])) : W p l e room_1 s m #[Value.ref b] below meth c H locs cells slots (lw_Z below #[Value.ref b] s) (F0 m 1455 ls []) := by
  obtain ⟨hx, hb, hml, hown, hts⟩ := id C0
  have hbA : ¬ (fun q => s.heap.size ≤ q) b := Nat.not_le.mpr hbl
  refine lv_aload_n hx hb dL_law_1455 rfl (lv_at hl 1 rfl) ?_
  refine lv_aload_n hx hb dL_law_1456 rfl (lv_at hl 0 rfl) ?_
  refine lv_iload hx hb dL_law_1457 (lv_at hl 4 rfl) ?_
  refine lv_iconst (v := 1) hx hb dL_law_1459 (by decide) ?_
  refine lv_iadd hx hb dL_law_1460 ?_
  refine lv_topE (y := nI (6 * i + 1)) (nI_add (6 * i) 1) ?_
  refine va_sld (xs := xs) hx hb hX hbl hbA hS (vp_in_nI (by omega) (by omega)) dL_law_1461 ?_
  refine lv_topE (y := xs (6 * i + 1)) (congrArg xs (nI_clamp (by omega))) ?_
  obtain ⟨r1, a1, b1⟩ := CALR_one (call_toss (xs (6 * i + 1))) hI
  refine va_calli (vx_runVW (As := [.int (xs (6 * i + 1))]) (rest := []) C0 (c_X7_toss l hfl D cA ad o σ (xs (6 * i + 1)) sa r1 a1 H.size) (vx_cwVW 1 hts gLtoss rfl rfl rfl (by decide +kernel) ⟨(Nat.le_of_ble_eq_true rfl), (Nat.le_of_ble_eq_true rfl)⟩) ⟨PWX_blind, va_recv X.1 hP (q := (RX7, TX7, 8)) rfl (q0 := 66) (ci := 7) (fs := (List.range 8).map (fv ad (σ 66) 66)) (by rw [wl_get cA ad o σ (by decide), cel_obj (ci := 7) (n := 8) rfl (by decide)]), fun U hU hW => ⟨rfl, PW_of X hP hU hW, XF_of X hZ hS hU hW⟩⟩ rfl rfl hl.1 rfl (lv_room (Nat.le_of_ble_eq_true rfl)) dL_law_1462 ⟨Nat.add_le_of_le_sub (by decide) (Nat.le_trans hc (by decide)), Nat.add_le_of_le_sub (by decide) (Nat.le_trans hs (by decide))⟩) hS (fun q _ h => FA_sub X hS q h) (FA_sub X hS) (fun r9 u t H locs ht hvm hw hB hz hk hS => ?_)
  have hP : WP D cA ad o σ H := by rw [← ht, ← hw.2]; exact hB.1
  have hc2 : cells + 1 ≤ 600001 := Nat.succ_le_succ hc
  have hs2 : slots + 6 ≤ 7300006 := Nat.add_le_add_right hs 6
  refine lv_pop hx hb dL_law_1465 rfl ?_
  refine lv_aload_n hx hb dL_law_1466 rfl (lv_at hl 2 rfl) ?_
  refine lv_aload_n hx hb dL_law_1467 rfl (lv_at hl 0 rfl) ?_
  refine lv_iload hx hb dL_law_1468 (lv_at hl 4 rfl) ?_
  refine lv_iconst (v := 1) hx hb dL_law_1470 (by decide) ?_
  refine lv_iadd hx hb dL_law_1471 ?_
  refine lv_topE (y := nI (6 * i + 1)) (nI_add (6 * i) 1) ?_
  refine va_sld (xs := xs) hx hb hX hbl hbA hS (vp_in_nI (by omega) (by omega)) dL_law_1472 ?_
  refine lv_topE (y := xs (6 * i + 1)) (congrArg xs (nI_clamp (by omega))) ?_
  refine r_ci X hS (r_runV (As := [.int (xs (6 * i + 1))]) (rest := []) C0 X hP L_L_176 (fun sz => c_X8_toss l D cA ad o σ (xs (6 * i + 1)) r1 b1 sz) (by decide) (show kd 91 = (8, 24) from rfl) (by decide) rfl ⟨(Nat.le_of_ble_eq_true rfl), (Nat.le_of_ble_eq_true rfl)⟩ rfl hl.1 rfl (Nat.le_of_ble_eq_true rfl) dL_law_1473 ⟨Nat.le_trans hc2 (Nat.le_of_ble_eq_true rfl), Nat.le_trans hs2 (Nat.le_of_ble_eq_true rfl)⟩) (fun r9 σ9 H locs hw hP hS => ?_)
  rw [hw.2] at hP
  refine lv_pop hx hb dL_law_1476 rfl ?_
  refine lv_goto (tgt := 1480) hx hb dL_law_1477 (by decide) ?_
  exact kk _ _ _ _ _ _ _ hI hP hS (Nat.le_refl _) (Nat.le_refl _) hl
