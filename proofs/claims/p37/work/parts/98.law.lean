section
/-! the law's cases -/
/-- what a throw needs of the law's start -/
def XL (sa : Nat → Nat) (s : State) : Prop := vx_Zq Bundle.tN "UNASSIGNED_STACK" Bundle.steD (fun q => s.heap.size ≤ q) s s.heap ∧ vx_Zq Bundle.tN "SUPPRESSED_SENTINEL" Bundle.listD (fun q => s.heap.size ≤ q) s s.heap ∧ XS sa s ∧ XN s ∧ FWp s
theorem XF_of {D : va_G} {cA : Nat → ClassId} {ad : Nat → Nat} {s U : State} {H : Heap} {locs : List Loc} {sa : Nat → Nat} (X : WX D cA ad (fun q => s.heap.size ≤ q) s) (hZ : XL sa s) (hS : va_S (fun q => s.heap.size ≤ q) s.heap H locs) (hU : U.heap = H) (hW : s.WarmedH U.vm) : XF ad sa H.size U := by
  subst hU
  exact ⟨vx_Zq.moved hW.alike ((vx_Zq.kept hZ.1 hS.2.1).narrow (FA_sub X hS)), vx_Zq.moved hW.alike ((vx_Zq.kept hZ.2.1 hS.2.1).narrow (FA_sub X hS)), XS_warm hW hZ.2.2.1, XN_moved hW.alike hZ.2.2.2.1, FWp_moved hW.alike hZ.2.2.2.2⟩
set_option maxHeartbeats 4000000 in
set_option maxRecDepth 100000 in
theorem law_c0 {p : Program} {l : Launch} {e : Env} {s : State} {m : MethodId} {below : List Frame} {meth : Method} {c : Code} {D : va_G} {cA : Nat → ClassId} {ad : Nat → Nat} {o : Int64} {σ : Mem} {b Lx i : Nat} {xs : Nat → Int32} {H : Heap} {locs : List Loc} {cells slots : Nat} {ls : Array Slot} {sa : Nat → Nat} (hfl : l.stackTraces = false) (C0 : CX p s m #[Value.ref b] c code 8 RL) (hX : va_X b Lx xs s s.heap) (hi : 6 * i + 6 ≤ Lx) (hL : Lx ≤ 384) (hbl : b < s.heap.size) (X : WX D cA ad (fun q => s.heap.size ≤ q) s) (hZ : XL sa s) (hP : WP D cA ad o σ H) (hI : INV σ σ) (hS : va_S (fun q => s.heap.size ≤ q) s.heap H locs) (hl : lv_has ls 8 [(0, .ref b), (1, .ref (ad 66)), (2, .ref (ad 91)), (3, .ref (ad 105)), (4, .int (nI (6 * i)))]) (hc : cells ≤ 600000) (hs : slots ≤ 7300000) (kk : ∀ (σ' : Mem) (o' : Int64) (H1 : Heap) (locs1 : List Loc) (c1 s1 : Nat) (ls' : Array Slot), INV σ' σ' → WP D cA ad o' σ' H1 → va_S (fun q => s.heap.size ≤ q) s.heap H1 locs1 → c1 ≤ cells + 1 → s1 ≤ slots + 6 → lv_has ls' 8 [(0, .ref b), (1, .ref (ad 66)), (2, .ref (ad 91)), (3, .ref (ad 105)), (4, .int (nI (6 * i)))] → W p l e room_1 s m #[Value.ref b] below meth c H1 locs1 c1 s1 (lw_Z below #[Value.ref b] s) (F0 m 1480 ls' [])) : W p l e room_1 s m #[Value.ref b] below meth c H locs cells slots (lw_Z below #[Value.ref b] s) (F0 m 204 ls []) := by
  obtain ⟨hx, hb, hml, hown, hts⟩ := id C0
  have hbA : ¬ (fun q => s.heap.size ≤ q) b := Nat.not_le.mpr hbl
  refine lv_aload_n hx hb dL_law_204 rfl (lv_at hl 1 rfl) ?_
  refine lv_aload_n hx hb dL_law_205 rfl (lv_at hl 0 rfl) ?_
  refine lv_iload hx hb dL_law_206 (lv_at hl 4 rfl) ?_
  refine lv_iconst (v := 1) hx hb dL_law_208 (by decide) ?_
  refine lv_iadd hx hb dL_law_209 ?_
  refine lv_topE (y := nI (6 * i + 1)) (nI_add (6 * i) 1) ?_
  refine va_sld (xs := xs) hx hb hX hbl hbA hS (vp_in_nI (by omega) (by omega)) dL_law_210 ?_
  refine lv_topE (y := xs (6 * i + 1)) (congrArg xs (nI_clamp (by omega))) ?_
  obtain ⟨σ1, r1, ρ1, a1, b1, I1⟩ := CALL_one (call_road (xs (6 * i + 1))) hI
  refine r_ci X hS (r_runV (As := [.int (xs (6 * i + 1))]) (rest := []) C0 X hP L_L_21 (fun sz => c_X7_road l D cA ad o σ (xs (6 * i + 1)) (σ1, r1) a1 sz) (by decide) (show kd 66 = (7, 8) from rfl) (by decide) rfl ⟨(Nat.le_of_ble_eq_true rfl), (Nat.le_of_ble_eq_true rfl)⟩ rfl hl.1 rfl (Nat.le_of_ble_eq_true rfl) dL_law_211 ⟨Nat.le_trans hc (Nat.le_of_ble_eq_true rfl), Nat.le_trans hs (Nat.le_of_ble_eq_true rfl)⟩) (fun r9 σ9 H locs hw hP hS => ?_)
  rw [hw.2] at hP
  rw [hw.1]
  refine lv_pop hx hb dL_law_214 rfl ?_
  refine lv_aload_n hx hb dL_law_215 rfl (lv_at hl 2 rfl) ?_
  refine lv_aload_n hx hb dL_law_216 rfl (lv_at hl 0 rfl) ?_
  refine lv_iload hx hb dL_law_217 (lv_at hl 4 rfl) ?_
  refine lv_iconst (v := 1) hx hb dL_law_219 (by decide) ?_
  refine lv_iadd hx hb dL_law_220 ?_
  refine lv_topE (y := nI (6 * i + 1)) (nI_add (6 * i) 1) ?_
  refine va_sld (xs := xs) hx hb hX hbl hbA hS (vp_in_nI (by omega) (by omega)) dL_law_221 ?_
  refine lv_topE (y := xs (6 * i + 1)) (congrArg xs (nI_clamp (by omega))) ?_
  refine r_ci X hS (r_runV (As := [.int (xs (6 * i + 1))]) (rest := []) C0 X hP L_L_25 (fun sz => c_X8_road l D cA ad o σ1 (xs (6 * i + 1)) (ρ1, r1) b1 sz) (by decide) (show kd 91 = (8, 24) from rfl) (by decide) rfl ⟨(Nat.le_of_ble_eq_true rfl), (Nat.le_of_ble_eq_true rfl)⟩ rfl hl.1 rfl (Nat.le_of_ble_eq_true rfl) dL_law_222 ⟨Nat.le_trans hc (Nat.le_of_ble_eq_true rfl), Nat.le_trans hs (Nat.le_of_ble_eq_true rfl)⟩) (fun r9 σ9 H locs hw hP hS => ?_)
  rw [hw.2] at hP
  rw [hw.1]
  replace hI := I1
  refine lv_pop hx hb dL_law_225 rfl ?_
  refine lv_goto (tgt := 1480) hx hb dL_law_226 (by decide) ?_
  exact kk _ _ _ _ _ _ _ hI hP hS (Nat.le_add_right _ _) (Nat.le_add_right _ _) hl
set_option maxHeartbeats 4000000 in
set_option maxRecDepth 100000 in
theorem law_c1 {p : Program} {l : Launch} {e : Env} {s : State} {m : MethodId} {below : List Frame} {meth : Method} {c : Code} {D : va_G} {cA : Nat → ClassId} {ad : Nat → Nat} {o : Int64} {σ : Mem} {b Lx i : Nat} {xs : Nat → Int32} {H : Heap} {locs : List Loc} {cells slots : Nat} {ls : Array Slot} {sa : Nat → Nat} (hfl : l.stackTraces = false) (C0 : CX p s m #[Value.ref b] c code 8 RL) (hX : va_X b Lx xs s s.heap) (hi : 6 * i + 6 ≤ Lx) (hL : Lx ≤ 384) (hbl : b < s.heap.size) (X : WX D cA ad (fun q => s.heap.size ≤ q) s) (hZ : XL sa s) (hP : WP D cA ad o σ H) (hI : INV σ σ) (hS : va_S (fun q => s.heap.size ≤ q) s.heap H locs) (hl : lv_has ls 8 [(0, .ref b), (1, .ref (ad 66)), (2, .ref (ad 91)), (3, .ref (ad 105)), (4, .int (nI (6 * i)))]) (hc : cells ≤ 600000) (hs : slots ≤ 7300000) (kk : ∀ (σ' : Mem) (o' : Int64) (H1 : Heap) (locs1 : List Loc) (c1 s1 : Nat) (ls' : Array Slot), INV σ' σ' → WP D cA ad o' σ' H1 → va_S (fun q => s.heap.size ≤ q) s.heap H1 locs1 → c1 ≤ cells + 1 → s1 ≤ slots + 6 → lv_has ls' 8 [(0, .ref b), (1, .ref (ad 66)), (2, .ref (ad 91)), (3, .ref (ad 105)), (4, .int (nI (6 * i)))] → W p l e room_1 s m #[Value.ref b] below meth c H1 locs1 c1 s1 (lw_Z below #[Value.ref b] s) (F0 m 1480 ls' [])) : W p l e room_1 s m #[Value.ref b] below meth c H locs cells slots (lw_Z below #[Value.ref b] s) (F0 m 229 ls []) := by
  obtain ⟨hx, hb, hml, hown, hts⟩ := id C0
  have hbA : ¬ (fun q => s.heap.size ≤ q) b := Nat.not_le.mpr hbl
  refine lv_aload_n hx hb dL_law_229 rfl (lv_at hl 1 rfl) ?_
  refine lv_aload_n hx hb dL_law_230 rfl (lv_at hl 0 rfl) ?_
  refine lv_iload hx hb dL_law_231 (lv_at hl 4 rfl) ?_
  refine lv_iconst (v := 1) hx hb dL_law_233 (by decide) ?_
  refine lv_iadd hx hb dL_law_234 ?_
  refine lv_topE (y := nI (6 * i + 1)) (nI_add (6 * i) 1) ?_
  refine va_sld (xs := xs) hx hb hX hbl hbA hS (vp_in_nI (by omega) (by omega)) dL_law_235 ?_
  refine lv_topE (y := xs (6 * i + 1)) (congrArg xs (nI_clamp (by omega))) ?_
  refine lv_aload_n hx hb dL_law_236 rfl (lv_at hl 0 rfl) ?_
  refine lv_iload hx hb dL_law_237 (lv_at hl 4 rfl) ?_
  refine lv_iconst (v := 2) hx hb dL_law_239 (by decide) ?_
  refine lv_iadd hx hb dL_law_240 ?_
  refine lv_topE (y := nI (6 * i + 2)) (nI_add (6 * i) 2) ?_
  refine va_sld (xs := xs) hx hb hX hbl hbA hS (vp_in_nI (by omega) (by omega)) dL_law_241 ?_
  refine lv_topE (y := xs (6 * i + 2)) (congrArg xs (nI_clamp (by omega))) ?_
  obtain ⟨r1, a1, b1⟩ := CALR_one (call_piece (xs (6 * i + 1)) (xs (6 * i + 2))) hI
  refine r_ci X hS (r_runV (As := [.int (xs (6 * i + 1)), .int (xs (6 * i + 2))]) (rest := []) C0 X hP L_L_26 (fun sz => c_X7_piece l D cA ad o σ (xs (6 * i + 1)) (xs (6 * i + 2)) r1 a1 sz) (by decide) (show kd 66 = (7, 8) from rfl) (by decide) rfl ⟨(Nat.le_of_ble_eq_true rfl), (Nat.le_of_ble_eq_true rfl)⟩ rfl hl.1 rfl (Nat.le_of_ble_eq_true rfl) dL_law_242 ⟨Nat.le_trans hc (Nat.le_of_ble_eq_true rfl), Nat.le_trans hs (Nat.le_of_ble_eq_true rfl)⟩) (fun r9 σ9 H locs hw hP hS => ?_)
  rw [hw.2] at hP
  rw [hw.1]
  refine lv_pop hx hb dL_law_245 rfl ?_
  refine lv_aload_n hx hb dL_law_246 rfl (lv_at hl 2 rfl) ?_
  refine lv_aload_n hx hb dL_law_247 rfl (lv_at hl 0 rfl) ?_
  refine lv_iload hx hb dL_law_248 (lv_at hl 4 rfl) ?_
  refine lv_iconst (v := 1) hx hb dL_law_250 (by decide) ?_
  refine lv_iadd hx hb dL_law_251 ?_
  refine lv_topE (y := nI (6 * i + 1)) (nI_add (6 * i) 1) ?_
  refine va_sld (xs := xs) hx hb hX hbl hbA hS (vp_in_nI (by omega) (by omega)) dL_law_252 ?_
  refine lv_topE (y := xs (6 * i + 1)) (congrArg xs (nI_clamp (by omega))) ?_
  refine lv_aload_n hx hb dL_law_253 rfl (lv_at hl 0 rfl) ?_
  refine lv_iload hx hb dL_law_254 (lv_at hl 4 rfl) ?_
  refine lv_iconst (v := 2) hx hb dL_law_256 (by decide) ?_
  refine lv_iadd hx hb dL_law_257 ?_
  refine lv_topE (y := nI (6 * i + 2)) (nI_add (6 * i) 2) ?_
  refine va_sld (xs := xs) hx hb hX hbl hbA hS (vp_in_nI (by omega) (by omega)) dL_law_258 ?_
  refine lv_topE (y := xs (6 * i + 2)) (congrArg xs (nI_clamp (by omega))) ?_
  refine r_ci X hS (r_runV (As := [.int (xs (6 * i + 1)), .int (xs (6 * i + 2))]) (rest := []) C0 X hP L_L_30 (fun sz => c_X8_piece l D cA ad o σ (xs (6 * i + 1)) (xs (6 * i + 2)) r1 b1 sz) (by decide) (show kd 91 = (8, 24) from rfl) (by decide) rfl ⟨(Nat.le_of_ble_eq_true rfl), (Nat.le_of_ble_eq_true rfl)⟩ rfl hl.1 rfl (Nat.le_of_ble_eq_true rfl) dL_law_259 ⟨Nat.le_trans hc (Nat.le_of_ble_eq_true rfl), Nat.le_trans hs (Nat.le_of_ble_eq_true rfl)⟩) (fun r9 σ9 H locs hw hP hS => ?_)
  rw [hw.2] at hP
  rw [hw.1]
  refine lv_pop hx hb dL_law_262 rfl ?_
  refine lv_goto (tgt := 1480) hx hb dL_law_263 (by decide) ?_
  exact kk _ _ _ _ _ _ _ hI hP hS (Nat.le_add_right _ _) (Nat.le_add_right _ _) hl
set_option maxHeartbeats 4000000 in
set_option maxRecDepth 100000 in
theorem law_c2 {p : Program} {l : Launch} {e : Env} {s : State} {m : MethodId} {below : List Frame} {meth : Method} {c : Code} {D : va_G} {cA : Nat → ClassId} {ad : Nat → Nat} {o : Int64} {σ : Mem} {b Lx i : Nat} {xs : Nat → Int32} {H : Heap} {locs : List Loc} {cells slots : Nat} {ls : Array Slot} {sa : Nat → Nat} (hfl : l.stackTraces = false) (C0 : CX p s m #[Value.ref b] c code 8 RL) (hX : va_X b Lx xs s s.heap) (hi : 6 * i + 6 ≤ Lx) (hL : Lx ≤ 384) (hbl : b < s.heap.size) (X : WX D cA ad (fun q => s.heap.size ≤ q) s) (hZ : XL sa s) (hP : WP D cA ad o σ H) (hI : INV σ σ) (hS : va_S (fun q => s.heap.size ≤ q) s.heap H locs) (hl : lv_has ls 8 [(0, .ref b), (1, .ref (ad 66)), (2, .ref (ad 91)), (3, .ref (ad 105)), (4, .int (nI (6 * i)))]) (hc : cells ≤ 600000) (hs : slots ≤ 7300000) (kk : ∀ (σ' : Mem) (o' : Int64) (H1 : Heap) (locs1 : List Loc) (c1 s1 : Nat) (ls' : Array Slot), INV σ' σ' → WP D cA ad o' σ' H1 → va_S (fun q => s.heap.size ≤ q) s.heap H1 locs1 → c1 ≤ cells + 1 → s1 ≤ slots + 6 → lv_has ls' 8 [(0, .ref b), (1, .ref (ad 66)), (2, .ref (ad 91)), (3, .ref (ad 105)), (4, .int (nI (6 * i)))] → W p l e room_1 s m #[Value.ref b] below meth c H1 locs1 c1 s1 (lw_Z below #[Value.ref b] s) (F0 m 1480 ls' [])) : W p l e room_1 s m #[Value.ref b] below meth c H locs cells slots (lw_Z below #[Value.ref b] s) (F0 m 266 ls []) := by
  obtain ⟨hx, hb, hml, hown, hts⟩ := id C0
  have hbA : ¬ (fun q => s.heap.size ≤ q) b := Nat.not_le.mpr hbl
  refine lv_aload_n hx hb dL_law_266 rfl (lv_at hl 1 rfl) ?_
  refine lv_aload_n hx hb dL_law_267 rfl (lv_at hl 0 rfl) ?_
  refine lv_iload hx hb dL_law_268 (lv_at hl 4 rfl) ?_
  refine lv_iconst (v := 1) hx hb dL_law_270 (by decide) ?_
  refine lv_iadd hx hb dL_law_271 ?_
  refine lv_topE (y := nI (6 * i + 1)) (nI_add (6 * i) 1) ?_
  refine va_sld (xs := xs) hx hb hX hbl hbA hS (vp_in_nI (by omega) (by omega)) dL_law_272 ?_
  refine lv_topE (y := xs (6 * i + 1)) (congrArg xs (nI_clamp (by omega))) ?_
  obtain ⟨r1, a1, b1⟩ := CALR_one (call_room (xs (6 * i + 1))) hI
  refine r_ci X hS (r_runV (As := [.int (xs (6 * i + 1))]) (rest := []) C0 X hP L_L_31 (fun sz => c_X7_room l D cA ad o σ (xs (6 * i + 1)) r1 a1 sz) (by decide) (show kd 66 = (7, 8) from rfl) (by decide) rfl ⟨(Nat.le_of_ble_eq_true rfl), (Nat.le_of_ble_eq_true rfl)⟩ rfl hl.1 rfl (Nat.le_of_ble_eq_true rfl) dL_law_273 ⟨Nat.le_trans hc (Nat.le_of_ble_eq_true rfl), Nat.le_trans hs (Nat.le_of_ble_eq_true rfl)⟩) (fun r9 σ9 H locs hw hP hS => ?_)
  rw [hw.2] at hP
  rw [hw.1]
  refine lv_pop hx hb dL_law_276 rfl ?_
  refine lv_aload_n hx hb dL_law_277 rfl (lv_at hl 2 rfl) ?_
  refine lv_aload_n hx hb dL_law_278 rfl (lv_at hl 0 rfl) ?_
  refine lv_iload hx hb dL_law_279 (lv_at hl 4 rfl) ?_
  refine lv_iconst (v := 1) hx hb dL_law_281 (by decide) ?_
  refine lv_iadd hx hb dL_law_282 ?_
  refine lv_topE (y := nI (6 * i + 1)) (nI_add (6 * i) 1) ?_
  refine va_sld (xs := xs) hx hb hX hbl hbA hS (vp_in_nI (by omega) (by omega)) dL_law_283 ?_
  refine lv_topE (y := xs (6 * i + 1)) (congrArg xs (nI_clamp (by omega))) ?_
  refine r_ci X hS (r_runV (As := [.int (xs (6 * i + 1))]) (rest := []) C0 X hP L_L_34 (fun sz => c_X8_room l D cA ad o σ (xs (6 * i + 1)) r1 b1 sz) (by decide) (show kd 91 = (8, 24) from rfl) (by decide) rfl ⟨(Nat.le_of_ble_eq_true rfl), (Nat.le_of_ble_eq_true rfl)⟩ rfl hl.1 rfl (Nat.le_of_ble_eq_true rfl) dL_law_284 ⟨Nat.le_trans hc (Nat.le_of_ble_eq_true rfl), Nat.le_trans hs (Nat.le_of_ble_eq_true rfl)⟩) (fun r9 σ9 H locs hw hP hS => ?_)
  rw [hw.2] at hP
  rw [hw.1]
  refine lv_pop hx hb dL_law_287 rfl ?_
  refine lv_goto (tgt := 1480) hx hb dL_law_288 (by decide) ?_
  exact kk _ _ _ _ _ _ _ hI hP hS (Nat.le_add_right _ _) (Nat.le_add_right _ _) hl
set_option maxHeartbeats 4000000 in
set_option maxRecDepth 100000 in
theorem law_c3 {p : Program} {l : Launch} {e : Env} {s : State} {m : MethodId} {below : List Frame} {meth : Method} {c : Code} {D : va_G} {cA : Nat → ClassId} {ad : Nat → Nat} {o : Int64} {σ : Mem} {b Lx i : Nat} {xs : Nat → Int32} {H : Heap} {locs : List Loc} {cells slots : Nat} {ls : Array Slot} {sa : Nat → Nat} (hfl : l.stackTraces = false) (C0 : CX p s m #[Value.ref b] c code 8 RL) (hX : va_X b Lx xs s s.heap) (hi : 6 * i + 6 ≤ Lx) (hL : Lx ≤ 384) (hbl : b < s.heap.size) (X : WX D cA ad (fun q => s.heap.size ≤ q) s) (hZ : XL sa s) (hP : WP D cA ad o σ H) (hI : INV σ σ) (hS : va_S (fun q => s.heap.size ≤ q) s.heap H locs) (hl : lv_has ls 8 [(0, .ref b), (1, .ref (ad 66)), (2, .ref (ad 91)), (3, .ref (ad 105)), (4, .int (nI (6 * i)))]) (hc : cells ≤ 600000) (hs : slots ≤ 7300000) (kk : ∀ (σ' : Mem) (o' : Int64) (H1 : Heap) (locs1 : List Loc) (c1 s1 : Nat) (ls' : Array Slot), INV σ' σ' → WP D cA ad o' σ' H1 → va_S (fun q => s.heap.size ≤ q) s.heap H1 locs1 → c1 ≤ cells + 1 → s1 ≤ slots + 6 → lv_has ls' 8 [(0, .ref b), (1, .ref (ad 66)), (2, .ref (ad 91)), (3, .ref (ad 105)), (4, .int (nI (6 * i)))] → W p l e room_1 s m #[Value.ref b] below meth c H1 locs1 c1 s1 (lw_Z below #[Value.ref b] s) (F0 m 1480 ls' [])) : W p l e room_1 s m #[Value.ref b] below meth c H locs cells slots (lw_Z below #[Value.ref b] s) (F0 m 291 ls []) := by
  obtain ⟨hx, hb, hml, hown, hts⟩ := id C0
  have hbA : ¬ (fun q => s.heap.size ≤ q) b := Nat.not_le.mpr hbl
  refine lv_aload_n hx hb dL_law_291 rfl (lv_at hl 1 rfl) ?_
  refine lv_aload_n hx hb dL_law_292 rfl (lv_at hl 0 rfl) ?_
  refine lv_iload hx hb dL_law_293 (lv_at hl 4 rfl) ?_
  refine lv_iconst (v := 1) hx hb dL_law_295 (by decide) ?_
  refine lv_iadd hx hb dL_law_296 ?_
  refine lv_topE (y := nI (6 * i + 1)) (nI_add (6 * i) 1) ?_
  refine va_sld (xs := xs) hx hb hX hbl hbA hS (vp_in_nI (by omega) (by omega)) dL_law_297 ?_
  refine lv_topE (y := xs (6 * i + 1)) (congrArg xs (nI_clamp (by omega))) ?_
  refine lv_aload_n hx hb dL_law_298 rfl (lv_at hl 0 rfl) ?_
  refine lv_iload hx hb dL_law_299 (lv_at hl 4 rfl) ?_
  refine lv_iconst (v := 2) hx hb dL_law_301 (by decide) ?_
  refine lv_iadd hx hb dL_law_302 ?_
  refine lv_topE (y := nI (6 * i + 2)) (nI_add (6 * i) 2) ?_
  refine va_sld (xs := xs) hx hb hX hbl hbA hS (vp_in_nI (by omega) (by omega)) dL_law_303 ?_
  refine lv_topE (y := xs (6 * i + 2)) (congrArg xs (nI_clamp (by omega))) ?_
  obtain ⟨r1, a1, b1⟩ := CALR_one (call_cart (xs (6 * i + 1)) (xs (6 * i + 2))) hI
  refine r_ci X hS (r_runV (As := [.int (xs (6 * i + 1)), .int (xs (6 * i + 2))]) (rest := []) C0 X hP L_L_35 (fun sz => c_X7_cart l D cA ad o σ (xs (6 * i + 1)) (xs (6 * i + 2)) r1 a1 sz) (by decide) (show kd 66 = (7, 8) from rfl) (by decide) rfl ⟨(Nat.le_of_ble_eq_true rfl), (Nat.le_of_ble_eq_true rfl)⟩ rfl hl.1 rfl (Nat.le_of_ble_eq_true rfl) dL_law_304 ⟨Nat.le_trans hc (Nat.le_of_ble_eq_true rfl), Nat.le_trans hs (Nat.le_of_ble_eq_true rfl)⟩) (fun r9 σ9 H locs hw hP hS => ?_)
  rw [hw.2] at hP
  rw [hw.1]
  refine lv_pop hx hb dL_law_307 rfl ?_
  refine lv_aload_n hx hb dL_law_308 rfl (lv_at hl 2 rfl) ?_
  refine lv_aload_n hx hb dL_law_309 rfl (lv_at hl 0 rfl) ?_
  refine lv_iload hx hb dL_law_310 (lv_at hl 4 rfl) ?_
  refine lv_iconst (v := 1) hx hb dL_law_312 (by decide) ?_
  refine lv_iadd hx hb dL_law_313 ?_
  refine lv_topE (y := nI (6 * i + 1)) (nI_add (6 * i) 1) ?_
  refine va_sld (xs := xs) hx hb hX hbl hbA hS (vp_in_nI (by omega) (by omega)) dL_law_314 ?_
  refine lv_topE (y := xs (6 * i + 1)) (congrArg xs (nI_clamp (by omega))) ?_
  refine lv_aload_n hx hb dL_law_315 rfl (lv_at hl 0 rfl) ?_
  refine lv_iload hx hb dL_law_316 (lv_at hl 4 rfl) ?_
  refine lv_iconst (v := 2) hx hb dL_law_318 (by decide) ?_
  refine lv_iadd hx hb dL_law_319 ?_
  refine lv_topE (y := nI (6 * i + 2)) (nI_add (6 * i) 2) ?_
  refine va_sld (xs := xs) hx hb hX hbl hbA hS (vp_in_nI (by omega) (by omega)) dL_law_320 ?_
  refine lv_topE (y := xs (6 * i + 2)) (congrArg xs (nI_clamp (by omega))) ?_
  refine r_ci X hS (r_runV (As := [.int (xs (6 * i + 1)), .int (xs (6 * i + 2))]) (rest := []) C0 X hP L_L_38 (fun sz => c_X8_cart l D cA ad o σ (xs (6 * i + 1)) (xs (6 * i + 2)) r1 b1 sz) (by decide) (show kd 91 = (8, 24) from rfl) (by decide) rfl ⟨(Nat.le_of_ble_eq_true rfl), (Nat.le_of_ble_eq_true rfl)⟩ rfl hl.1 rfl (Nat.le_of_ble_eq_true rfl) dL_law_321 ⟨Nat.le_trans hc (Nat.le_of_ble_eq_true rfl), Nat.le_trans hs (Nat.le_of_ble_eq_true rfl)⟩) (fun r9 σ9 H locs hw hP hS => ?_)
  rw [hw.2] at hP
  rw [hw.1]
  refine lv_pop hx hb dL_law_324 rfl ?_
  refine lv_goto (tgt := 1480) hx hb dL_law_325 (by decide) ?_
  exact kk _ _ _ _ _ _ _ hI hP hS (Nat.le_add_right _ _) (Nat.le_add_right _ _) hl
set_option maxHeartbeats 4000000 in
set_option maxRecDepth 100000 in
theorem law_c4 {p : Program} {l : Launch} {e : Env} {s : State} {m : MethodId} {below : List Frame} {meth : Method} {c : Code} {D : va_G} {cA : Nat → ClassId} {ad : Nat → Nat} {o : Int64} {σ : Mem} {b Lx i : Nat} {xs : Nat → Int32} {H : Heap} {locs : List Loc} {cells slots : Nat} {ls : Array Slot} {sa : Nat → Nat} (hfl : l.stackTraces = false) (C0 : CX p s m #[Value.ref b] c code 8 RL) (hX : va_X b Lx xs s s.heap) (hi : 6 * i + 6 ≤ Lx) (hL : Lx ≤ 384) (hbl : b < s.heap.size) (X : WX D cA ad (fun q => s.heap.size ≤ q) s) (hZ : XL sa s) (hP : WP D cA ad o σ H) (hI : INV σ σ) (hS : va_S (fun q => s.heap.size ≤ q) s.heap H locs) (hl : lv_has ls 8 [(0, .ref b), (1, .ref (ad 66)), (2, .ref (ad 91)), (3, .ref (ad 105)), (4, .int (nI (6 * i)))]) (hc : cells ≤ 600000) (hs : slots ≤ 7300000) (kk : ∀ (σ' : Mem) (o' : Int64) (H1 : Heap) (locs1 : List Loc) (c1 s1 : Nat) (ls' : Array Slot), INV σ' σ' → WP D cA ad o' σ' H1 → va_S (fun q => s.heap.size ≤ q) s.heap H1 locs1 → c1 ≤ cells + 1 → s1 ≤ slots + 6 → lv_has ls' 8 [(0, .ref b), (1, .ref (ad 66)), (2, .ref (ad 91)), (3, .ref (ad 105)), (4, .int (nI (6 * i)))] → W p l e room_1 s m #[Value.ref b] below meth c H1 locs1 c1 s1 (lw_Z below #[Value.ref b] s) (F0 m 1480 ls' [])) : W p l e room_1 s m #[Value.ref b] below meth c H locs cells slots (lw_Z below #[Value.ref b] s) (F0 m 328 ls []) := by
  obtain ⟨hx, hb, hml, hown, hts⟩ := id C0
  have hbA : ¬ (fun q => s.heap.size ≤ q) b := Nat.not_le.mpr hbl
  refine lv_aload_n hx hb dL_law_328 rfl (lv_at hl 1 rfl) ?_
  refine lv_aload_n hx hb dL_law_329 rfl (lv_at hl 0 rfl) ?_
  refine lv_iload hx hb dL_law_330 (lv_at hl 4 rfl) ?_
  refine lv_iconst (v := 1) hx hb dL_law_332 (by decide) ?_
  refine lv_iadd hx hb dL_law_333 ?_
  refine lv_topE (y := nI (6 * i + 1)) (nI_add (6 * i) 1) ?_
  refine va_sld (xs := xs) hx hb hX hbl hbA hS (vp_in_nI (by omega) (by omega)) dL_law_334 ?_
  refine lv_topE (y := xs (6 * i + 1)) (congrArg xs (nI_clamp (by omega))) ?_
  refine lv_aload_n hx hb dL_law_335 rfl (lv_at hl 0 rfl) ?_
  refine lv_iload hx hb dL_law_336 (lv_at hl 4 rfl) ?_
  refine lv_iconst (v := 2) hx hb dL_law_338 (by decide) ?_
  refine lv_iadd hx hb dL_law_339 ?_
  refine lv_topE (y := nI (6 * i + 2)) (nI_add (6 * i) 2) ?_
  refine va_sld (xs := xs) hx hb hX hbl hbA hS (vp_in_nI (by omega) (by omega)) dL_law_340 ?_
  refine lv_topE (y := xs (6 * i + 2)) (congrArg xs (nI_clamp (by omega))) ?_
  obtain ⟨σ1, r1, ρ1, a1, b1, I1⟩ := CALL_one (call_backs (xs (6 * i + 1)) (xs (6 * i + 2))) hI
  refine r_ci X hS (r_runV (As := [.int (xs (6 * i + 1)), .int (xs (6 * i + 2))]) (rest := []) C0 X hP L_L_39 (fun sz => c_X7_backs l D cA ad o σ (xs (6 * i + 1)) (xs (6 * i + 2)) (σ1, r1) a1 sz) (by decide) (show kd 66 = (7, 8) from rfl) (by decide) rfl ⟨(Nat.le_of_ble_eq_true rfl), (Nat.le_of_ble_eq_true rfl)⟩ rfl hl.1 rfl (Nat.le_of_ble_eq_true rfl) dL_law_341 ⟨Nat.le_trans hc (Nat.le_of_ble_eq_true rfl), Nat.le_trans hs (Nat.le_of_ble_eq_true rfl)⟩) (fun r9 σ9 H locs hw hP hS => ?_)
  rw [hw.2] at hP
  rw [hw.1]
  refine lv_pop hx hb dL_law_344 rfl ?_
  refine lv_aload_n hx hb dL_law_345 rfl (lv_at hl 2 rfl) ?_
  refine lv_aload_n hx hb dL_law_346 rfl (lv_at hl 0 rfl) ?_
  refine lv_iload hx hb dL_law_347 (lv_at hl 4 rfl) ?_
  refine lv_iconst (v := 1) hx hb dL_law_349 (by decide) ?_
  refine lv_iadd hx hb dL_law_350 ?_
  refine lv_topE (y := nI (6 * i + 1)) (nI_add (6 * i) 1) ?_
  refine va_sld (xs := xs) hx hb hX hbl hbA hS (vp_in_nI (by omega) (by omega)) dL_law_351 ?_
  refine lv_topE (y := xs (6 * i + 1)) (congrArg xs (nI_clamp (by omega))) ?_
  refine lv_aload_n hx hb dL_law_352 rfl (lv_at hl 0 rfl) ?_
  refine lv_iload hx hb dL_law_353 (lv_at hl 4 rfl) ?_
  refine lv_iconst (v := 2) hx hb dL_law_355 (by decide) ?_
  refine lv_iadd hx hb dL_law_356 ?_
  refine lv_topE (y := nI (6 * i + 2)) (nI_add (6 * i) 2) ?_
  refine va_sld (xs := xs) hx hb hX hbl hbA hS (vp_in_nI (by omega) (by omega)) dL_law_357 ?_
  refine lv_topE (y := xs (6 * i + 2)) (congrArg xs (nI_clamp (by omega))) ?_
  refine r_ci X hS (r_runV (As := [.int (xs (6 * i + 1)), .int (xs (6 * i + 2))]) (rest := []) C0 X hP L_L_42 (fun sz => c_X8_backs l D cA ad o σ1 (xs (6 * i + 1)) (xs (6 * i + 2)) (ρ1, r1) b1 sz) (by decide) (show kd 91 = (8, 24) from rfl) (by decide) rfl ⟨(Nat.le_of_ble_eq_true rfl), (Nat.le_of_ble_eq_true rfl)⟩ rfl hl.1 rfl (Nat.le_of_ble_eq_true rfl) dL_law_358 ⟨Nat.le_trans hc (Nat.le_of_ble_eq_true rfl), Nat.le_trans hs (Nat.le_of_ble_eq_true rfl)⟩) (fun r9 σ9 H locs hw hP hS => ?_)
  rw [hw.2] at hP
  rw [hw.1]
  replace hI := I1
  refine lv_pop hx hb dL_law_361 rfl ?_
  refine lv_goto (tgt := 1480) hx hb dL_law_362 (by decide) ?_
  exact kk _ _ _ _ _ _ _ hI hP hS (Nat.le_add_right _ _) (Nat.le_add_right _ _) hl
set_option maxHeartbeats 4000000 in
set_option maxRecDepth 100000 in
theorem law_c5 {p : Program} {l : Launch} {e : Env} {s : State} {m : MethodId} {below : List Frame} {meth : Method} {c : Code} {D : va_G} {cA : Nat → ClassId} {ad : Nat → Nat} {o : Int64} {σ : Mem} {b Lx i : Nat} {xs : Nat → Int32} {H : Heap} {locs : List Loc} {cells slots : Nat} {ls : Array Slot} {sa : Nat → Nat} (hfl : l.stackTraces = false) (C0 : CX p s m #[Value.ref b] c code 8 RL) (hX : va_X b Lx xs s s.heap) (hi : 6 * i + 6 ≤ Lx) (hL : Lx ≤ 384) (hbl : b < s.heap.size) (X : WX D cA ad (fun q => s.heap.size ≤ q) s) (hZ : XL sa s) (hP : WP D cA ad o σ H) (hI : INV σ σ) (hS : va_S (fun q => s.heap.size ≤ q) s.heap H locs) (hl : lv_has ls 8 [(0, .ref b), (1, .ref (ad 66)), (2, .ref (ad 91)), (3, .ref (ad 105)), (4, .int (nI (6 * i)))]) (hc : cells ≤ 600000) (hs : slots ≤ 7300000) (kk : ∀ (σ' : Mem) (o' : Int64) (H1 : Heap) (locs1 : List Loc) (c1 s1 : Nat) (ls' : Array Slot), INV σ' σ' → WP D cA ad o' σ' H1 → va_S (fun q => s.heap.size ≤ q) s.heap H1 locs1 → c1 ≤ cells + 1 → s1 ≤ slots + 6 → lv_has ls' 8 [(0, .ref b), (1, .ref (ad 66)), (2, .ref (ad 91)), (3, .ref (ad 105)), (4, .int (nI (6 * i)))] → W p l e room_1 s m #[Value.ref b] below meth c H1 locs1 c1 s1 (lw_Z below #[Value.ref b] s) (F0 m 1480 ls' [])) : W p l e room_1 s m #[Value.ref b] below meth c H locs cells slots (lw_Z below #[Value.ref b] s) (F0 m 365 ls []) := by
  obtain ⟨hx, hb, hml, hown, hts⟩ := id C0
  have hbA : ¬ (fun q => s.heap.size ≤ q) b := Nat.not_le.mpr hbl
  refine lv_aload_n hx hb dL_law_365 rfl (lv_at hl 1 rfl) ?_
  refine lv_aload_n hx hb dL_law_366 rfl (lv_at hl 0 rfl) ?_
  refine lv_iload hx hb dL_law_367 (lv_at hl 4 rfl) ?_
  refine lv_iconst (v := 1) hx hb dL_law_369 (by decide) ?_
  refine lv_iadd hx hb dL_law_370 ?_
  refine lv_topE (y := nI (6 * i + 1)) (nI_add (6 * i) 1) ?_
  refine va_sld (xs := xs) hx hb hX hbl hbA hS (vp_in_nI (by omega) (by omega)) dL_law_371 ?_
  refine lv_topE (y := xs (6 * i + 1)) (congrArg xs (nI_clamp (by omega))) ?_
  refine lv_aload_n hx hb dL_law_372 rfl (lv_at hl 0 rfl) ?_
  refine lv_iload hx hb dL_law_373 (lv_at hl 4 rfl) ?_
  refine lv_iconst (v := 2) hx hb dL_law_375 (by decide) ?_
  refine lv_iadd hx hb dL_law_376 ?_
  refine lv_topE (y := nI (6 * i + 2)) (nI_add (6 * i) 2) ?_
  refine va_sld (xs := xs) hx hb hX hbl hbA hS (vp_in_nI (by omega) (by omega)) dL_law_377 ?_
  refine lv_topE (y := xs (6 * i + 2)) (congrArg xs (nI_clamp (by omega))) ?_
  obtain ⟨r1, a1, b1⟩ := CALR_one (call_village (xs (6 * i + 1)) (xs (6 * i + 2))) hI
  refine r_ci X hS (r_runV (As := [.int (xs (6 * i + 1)), .int (xs (6 * i + 2))]) (rest := []) C0 X hP L_L_43 (fun sz => c_X7_village l D cA ad o σ (xs (6 * i + 1)) (xs (6 * i + 2)) r1 a1 sz) (by decide) (show kd 66 = (7, 8) from rfl) (by decide) rfl ⟨(Nat.le_of_ble_eq_true rfl), (Nat.le_of_ble_eq_true rfl)⟩ rfl hl.1 rfl (Nat.le_of_ble_eq_true rfl) dL_law_378 ⟨Nat.le_trans hc (Nat.le_of_ble_eq_true rfl), Nat.le_trans hs (Nat.le_of_ble_eq_true rfl)⟩) (fun r9 σ9 H locs hw hP hS => ?_)
  rw [hw.2] at hP
  rw [hw.1]
  refine lv_pop hx hb dL_law_381 rfl ?_
  refine lv_aload_n hx hb dL_law_382 rfl (lv_at hl 2 rfl) ?_
  refine lv_aload_n hx hb dL_law_383 rfl (lv_at hl 0 rfl) ?_
  refine lv_iload hx hb dL_law_384 (lv_at hl 4 rfl) ?_
  refine lv_iconst (v := 1) hx hb dL_law_386 (by decide) ?_
  refine lv_iadd hx hb dL_law_387 ?_
  refine lv_topE (y := nI (6 * i + 1)) (nI_add (6 * i) 1) ?_
  refine va_sld (xs := xs) hx hb hX hbl hbA hS (vp_in_nI (by omega) (by omega)) dL_law_388 ?_
  refine lv_topE (y := xs (6 * i + 1)) (congrArg xs (nI_clamp (by omega))) ?_
  refine lv_aload_n hx hb dL_law_389 rfl (lv_at hl 0 rfl) ?_
  refine lv_iload hx hb dL_law_390 (lv_at hl 4 rfl) ?_
  refine lv_iconst (v := 2) hx hb dL_law_392 (by decide) ?_
  refine lv_iadd hx hb dL_law_393 ?_
  refine lv_topE (y := nI (6 * i + 2)) (nI_add (6 * i) 2) ?_
  refine va_sld (xs := xs) hx hb hX hbl hbA hS (vp_in_nI (by omega) (by omega)) dL_law_394 ?_
  refine lv_topE (y := xs (6 * i + 2)) (congrArg xs (nI_clamp (by omega))) ?_
  refine r_ci X hS (r_runV (As := [.int (xs (6 * i + 1)), .int (xs (6 * i + 2))]) (rest := []) C0 X hP L_L_46 (fun sz => c_X8_village l D cA ad o σ (xs (6 * i + 1)) (xs (6 * i + 2)) r1 b1 sz) (by decide) (show kd 91 = (8, 24) from rfl) (by decide) rfl ⟨(Nat.le_of_ble_eq_true rfl), (Nat.le_of_ble_eq_true rfl)⟩ rfl hl.1 rfl (Nat.le_of_ble_eq_true rfl) dL_law_395 ⟨Nat.le_trans hc (Nat.le_of_ble_eq_true rfl), Nat.le_trans hs (Nat.le_of_ble_eq_true rfl)⟩) (fun r9 σ9 H locs hw hP hS => ?_)
  rw [hw.2] at hP
  rw [hw.1]
  refine lv_pop hx hb dL_law_398 rfl ?_
  refine lv_goto (tgt := 1480) hx hb dL_law_399 (by decide) ?_
  exact kk _ _ _ _ _ _ _ hI hP hS (Nat.le_add_right _ _) (Nat.le_add_right _ _) hl
set_option maxHeartbeats 4000000 in
set_option maxRecDepth 100000 in
theorem law_c6 {p : Program} {l : Launch} {e : Env} {s : State} {m : MethodId} {below : List Frame} {meth : Method} {c : Code} {D : va_G} {cA : Nat → ClassId} {ad : Nat → Nat} {o : Int64} {σ : Mem} {b Lx i : Nat} {xs : Nat → Int32} {H : Heap} {locs : List Loc} {cells slots : Nat} {ls : Array Slot} {sa : Nat → Nat} (hfl : l.stackTraces = false) (C0 : CX p s m #[Value.ref b] c code 8 RL) (hX : va_X b Lx xs s s.heap) (hi : 6 * i + 6 ≤ Lx) (hL : Lx ≤ 384) (hbl : b < s.heap.size) (X : WX D cA ad (fun q => s.heap.size ≤ q) s) (hZ : XL sa s) (hP : WP D cA ad o σ H) (hI : INV σ σ) (hS : va_S (fun q => s.heap.size ≤ q) s.heap H locs) (hl : lv_has ls 8 [(0, .ref b), (1, .ref (ad 66)), (2, .ref (ad 91)), (3, .ref (ad 105)), (4, .int (nI (6 * i)))]) (hc : cells ≤ 600000) (hs : slots ≤ 7300000) (kk : ∀ (σ' : Mem) (o' : Int64) (H1 : Heap) (locs1 : List Loc) (c1 s1 : Nat) (ls' : Array Slot), INV σ' σ' → WP D cA ad o' σ' H1 → va_S (fun q => s.heap.size ≤ q) s.heap H1 locs1 → c1 ≤ cells + 1 → s1 ≤ slots + 6 → lv_has ls' 8 [(0, .ref b), (1, .ref (ad 66)), (2, .ref (ad 91)), (3, .ref (ad 105)), (4, .int (nI (6 * i)))] → W p l e room_1 s m #[Value.ref b] below meth c H1 locs1 c1 s1 (lw_Z below #[Value.ref b] s) (F0 m 1480 ls' [])) : W p l e room_1 s m #[Value.ref b] below meth c H locs cells slots (lw_Z below #[Value.ref b] s) (F0 m 402 ls []) := by
  obtain ⟨hx, hb, hml, hown, hts⟩ := id C0
  have hbA : ¬ (fun q => s.heap.size ≤ q) b := Nat.not_le.mpr hbl
  refine lv_aload_n hx hb dL_law_402 rfl (lv_at hl 1 rfl) ?_
  refine lv_aload_n hx hb dL_law_403 rfl (lv_at hl 0 rfl) ?_
  refine lv_iload hx hb dL_law_404 (lv_at hl 4 rfl) ?_
  refine lv_iconst (v := 1) hx hb dL_law_406 (by decide) ?_
  refine lv_iadd hx hb dL_law_407 ?_
  refine lv_topE (y := nI (6 * i + 1)) (nI_add (6 * i) 1) ?_
  refine va_sld (xs := xs) hx hb hX hbl hbA hS (vp_in_nI (by omega) (by omega)) dL_law_408 ?_
  refine lv_topE (y := xs (6 * i + 1)) (congrArg xs (nI_clamp (by omega))) ?_
  refine lv_aload_n hx hb dL_law_409 rfl (lv_at hl 0 rfl) ?_
  refine lv_iload hx hb dL_law_410 (lv_at hl 4 rfl) ?_
  refine lv_iconst (v := 2) hx hb dL_law_412 (by decide) ?_
  refine lv_iadd hx hb dL_law_413 ?_
  refine lv_topE (y := nI (6 * i + 2)) (nI_add (6 * i) 2) ?_
  refine va_sld (xs := xs) hx hb hX hbl hbA hS (vp_in_nI (by omega) (by omega)) dL_law_414 ?_
  refine lv_topE (y := xs (6 * i + 2)) (congrArg xs (nI_clamp (by omega))) ?_
  obtain ⟨σ1, r1, ρ1, a1, b1, I1⟩ := CALL_one (call_rule (xs (6 * i + 1)) (xs (6 * i + 2))) hI
  refine r_ci X hS (r_runV (As := [.int (xs (6 * i + 1)), .int (xs (6 * i + 2))]) (rest := []) C0 X hP L_L_47 (fun sz => c_X7_rule l D cA ad o σ (xs (6 * i + 1)) (xs (6 * i + 2)) (σ1, r1) a1 sz) (by decide) (show kd 66 = (7, 8) from rfl) (by decide) rfl ⟨(Nat.le_of_ble_eq_true rfl), (Nat.le_of_ble_eq_true rfl)⟩ rfl hl.1 rfl (Nat.le_of_ble_eq_true rfl) dL_law_415 ⟨Nat.le_trans hc (Nat.le_of_ble_eq_true rfl), Nat.le_trans hs (Nat.le_of_ble_eq_true rfl)⟩) (fun r9 σ9 H locs hw hP hS => ?_)
  rw [hw.2] at hP
  rw [hw.1]
  refine lv_pop hx hb dL_law_418 rfl ?_
  refine lv_aload_n hx hb dL_law_419 rfl (lv_at hl 2 rfl) ?_
  refine lv_aload_n hx hb dL_law_420 rfl (lv_at hl 0 rfl) ?_
  refine lv_iload hx hb dL_law_421 (lv_at hl 4 rfl) ?_
  refine lv_iconst (v := 1) hx hb dL_law_423 (by decide) ?_
  refine lv_iadd hx hb dL_law_424 ?_
  refine lv_topE (y := nI (6 * i + 1)) (nI_add (6 * i) 1) ?_
  refine va_sld (xs := xs) hx hb hX hbl hbA hS (vp_in_nI (by omega) (by omega)) dL_law_425 ?_
  refine lv_topE (y := xs (6 * i + 1)) (congrArg xs (nI_clamp (by omega))) ?_
  refine lv_aload_n hx hb dL_law_426 rfl (lv_at hl 0 rfl) ?_
  refine lv_iload hx hb dL_law_427 (lv_at hl 4 rfl) ?_
  refine lv_iconst (v := 2) hx hb dL_law_429 (by decide) ?_
  refine lv_iadd hx hb dL_law_430 ?_
  refine lv_topE (y := nI (6 * i + 2)) (nI_add (6 * i) 2) ?_
  refine va_sld (xs := xs) hx hb hX hbl hbA hS (vp_in_nI (by omega) (by omega)) dL_law_431 ?_
  refine lv_topE (y := xs (6 * i + 2)) (congrArg xs (nI_clamp (by omega))) ?_
  refine r_ci X hS (r_runV (As := [.int (xs (6 * i + 1)), .int (xs (6 * i + 2))]) (rest := []) C0 X hP L_L_50 (fun sz => c_X8_rule l D cA ad o σ1 (xs (6 * i + 1)) (xs (6 * i + 2)) (ρ1, r1) b1 sz) (by decide) (show kd 91 = (8, 24) from rfl) (by decide) rfl ⟨(Nat.le_of_ble_eq_true rfl), (Nat.le_of_ble_eq_true rfl)⟩ rfl hl.1 rfl (Nat.le_of_ble_eq_true rfl) dL_law_432 ⟨Nat.le_trans hc (Nat.le_of_ble_eq_true rfl), Nat.le_trans hs (Nat.le_of_ble_eq_true rfl)⟩) (fun r9 σ9 H locs hw hP hS => ?_)
  rw [hw.2] at hP
  rw [hw.1]
  replace hI := I1
  refine lv_pop hx hb dL_law_435 rfl ?_
  refine lv_goto (tgt := 1480) hx hb dL_law_436 (by decide) ?_
  exact kk _ _ _ _ _ _ _ hI hP hS (Nat.le_add_right _ _) (Nat.le_add_right _ _) hl
set_option maxHeartbeats 4000000 in
set_option maxRecDepth 100000 in
theorem law_c7 {p : Program} {l : Launch} {e : Env} {s : State} {m : MethodId} {below : List Frame} {meth : Method} {c : Code} {D : va_G} {cA : Nat → ClassId} {ad : Nat → Nat} {o : Int64} {σ : Mem} {b Lx i : Nat} {xs : Nat → Int32} {H : Heap} {locs : List Loc} {cells slots : Nat} {ls : Array Slot} {sa : Nat → Nat} (hfl : l.stackTraces = false) (C0 : CX p s m #[Value.ref b] c code 8 RL) (hX : va_X b Lx xs s s.heap) (hi : 6 * i + 6 ≤ Lx) (hL : Lx ≤ 384) (hbl : b < s.heap.size) (X : WX D cA ad (fun q => s.heap.size ≤ q) s) (hZ : XL sa s) (hP : WP D cA ad o σ H) (hI : INV σ σ) (hS : va_S (fun q => s.heap.size ≤ q) s.heap H locs) (hl : lv_has ls 8 [(0, .ref b), (1, .ref (ad 66)), (2, .ref (ad 91)), (3, .ref (ad 105)), (4, .int (nI (6 * i)))]) (hc : cells ≤ 600000) (hs : slots ≤ 7300000) (kk : ∀ (σ' : Mem) (o' : Int64) (H1 : Heap) (locs1 : List Loc) (c1 s1 : Nat) (ls' : Array Slot), INV σ' σ' → WP D cA ad o' σ' H1 → va_S (fun q => s.heap.size ≤ q) s.heap H1 locs1 → c1 ≤ cells + 1 → s1 ≤ slots + 6 → lv_has ls' 8 [(0, .ref b), (1, .ref (ad 66)), (2, .ref (ad 91)), (3, .ref (ad 105)), (4, .int (nI (6 * i)))] → W p l e room_1 s m #[Value.ref b] below meth c H1 locs1 c1 s1 (lw_Z below #[Value.ref b] s) (F0 m 1480 ls' [])) : W p l e room_1 s m #[Value.ref b] below meth c H locs cells slots (lw_Z below #[Value.ref b] s) (F0 m 439 ls []) := by
  obtain ⟨hx, hb, hml, hown, hts⟩ := id C0
  have hbA : ¬ (fun q => s.heap.size ≤ q) b := Nat.not_le.mpr hbl
  refine lv_aload_n hx hb dL_law_439 rfl (lv_at hl 1 rfl) ?_
  refine lv_aload_n hx hb dL_law_440 rfl (lv_at hl 0 rfl) ?_
  refine lv_iload hx hb dL_law_441 (lv_at hl 4 rfl) ?_
  refine lv_iconst (v := 1) hx hb dL_law_443 (by decide) ?_
  refine lv_iadd hx hb dL_law_444 ?_
  refine lv_topE (y := nI (6 * i + 1)) (nI_add (6 * i) 1) ?_
  refine va_sld (xs := xs) hx hb hX hbl hbA hS (vp_in_nI (by omega) (by omega)) dL_law_445 ?_
  refine lv_topE (y := xs (6 * i + 1)) (congrArg xs (nI_clamp (by omega))) ?_
  obtain ⟨σ1, r1, ρ1, a1, b1, I1⟩ := CALL_one (call_go (xs (6 * i + 1))) hI
  refine r_ci X hS (r_runV (As := [.int (xs (6 * i + 1))]) (rest := []) C0 X hP L_L_51 (fun sz => c_X7_go l D cA ad o σ (xs (6 * i + 1)) (σ1, r1) a1 sz) (by decide) (show kd 66 = (7, 8) from rfl) (by decide) rfl ⟨(Nat.le_of_ble_eq_true rfl), (Nat.le_of_ble_eq_true rfl)⟩ rfl hl.1 rfl (Nat.le_of_ble_eq_true rfl) dL_law_446 ⟨Nat.le_trans hc (Nat.le_of_ble_eq_true rfl), Nat.le_trans hs (Nat.le_of_ble_eq_true rfl)⟩) (fun r9 σ9 H locs hw hP hS => ?_)
  rw [hw.2] at hP
  rw [hw.1]
  refine lv_pop hx hb dL_law_449 rfl ?_
  refine lv_aload_n hx hb dL_law_450 rfl (lv_at hl 2 rfl) ?_
  refine lv_aload_n hx hb dL_law_451 rfl (lv_at hl 0 rfl) ?_
  refine lv_iload hx hb dL_law_452 (lv_at hl 4 rfl) ?_
  refine lv_iconst (v := 1) hx hb dL_law_454 (by decide) ?_
  refine lv_iadd hx hb dL_law_455 ?_
  refine lv_topE (y := nI (6 * i + 1)) (nI_add (6 * i) 1) ?_
  refine va_sld (xs := xs) hx hb hX hbl hbA hS (vp_in_nI (by omega) (by omega)) dL_law_456 ?_
  refine lv_topE (y := xs (6 * i + 1)) (congrArg xs (nI_clamp (by omega))) ?_
  refine r_ci X hS (r_runV (As := [.int (xs (6 * i + 1))]) (rest := []) C0 X hP L_L_54 (fun sz => c_X8_go l D cA ad o σ1 (xs (6 * i + 1)) (ρ1, r1) b1 sz) (by decide) (show kd 91 = (8, 24) from rfl) (by decide) rfl ⟨(Nat.le_of_ble_eq_true rfl), (Nat.le_of_ble_eq_true rfl)⟩ rfl hl.1 rfl (Nat.le_of_ble_eq_true rfl) dL_law_457 ⟨Nat.le_trans hc (Nat.le_of_ble_eq_true rfl), Nat.le_trans hs (Nat.le_of_ble_eq_true rfl)⟩) (fun r9 σ9 H locs hw hP hS => ?_)
  rw [hw.2] at hP
  rw [hw.1]
  replace hI := I1
  refine lv_pop hx hb dL_law_460 rfl ?_
  refine lv_goto (tgt := 1480) hx hb dL_law_461 (by decide) ?_
  exact kk _ _ _ _ _ _ _ hI hP hS (Nat.le_add_right _ _) (Nat.le_add_right _ _) hl
set_option maxHeartbeats 4000000 in
set_option maxRecDepth 100000 in
theorem law_c8 {p : Program} {l : Launch} {e : Env} {s : State} {m : MethodId} {below : List Frame} {meth : Method} {c : Code} {D : va_G} {cA : Nat → ClassId} {ad : Nat → Nat} {o : Int64} {σ : Mem} {b Lx i : Nat} {xs : Nat → Int32} {H : Heap} {locs : List Loc} {cells slots : Nat} {ls : Array Slot} {sa : Nat → Nat} (hfl : l.stackTraces = false) (C0 : CX p s m #[Value.ref b] c code 8 RL) (hX : va_X b Lx xs s s.heap) (hi : 6 * i + 6 ≤ Lx) (hL : Lx ≤ 384) (hbl : b < s.heap.size) (X : WX D cA ad (fun q => s.heap.size ≤ q) s) (hZ : XL sa s) (hP : WP D cA ad o σ H) (hI : INV σ σ) (hS : va_S (fun q => s.heap.size ≤ q) s.heap H locs) (hl : lv_has ls 8 [(0, .ref b), (1, .ref (ad 66)), (2, .ref (ad 91)), (3, .ref (ad 105)), (4, .int (nI (6 * i)))]) (hc : cells ≤ 600000) (hs : slots ≤ 7300000) (kk : ∀ (σ' : Mem) (o' : Int64) (H1 : Heap) (locs1 : List Loc) (c1 s1 : Nat) (ls' : Array Slot), INV σ' σ' → WP D cA ad o' σ' H1 → va_S (fun q => s.heap.size ≤ q) s.heap H1 locs1 → c1 ≤ cells + 1 → s1 ≤ slots + 6 → lv_has ls' 8 [(0, .ref b), (1, .ref (ad 66)), (2, .ref (ad 91)), (3, .ref (ad 105)), (4, .int (nI (6 * i)))] → W p l e room_1 s m #[Value.ref b] below meth c H1 locs1 c1 s1 (lw_Z below #[Value.ref b] s) (F0 m 1480 ls' [])) : W p l e room_1 s m #[Value.ref b] below meth c H locs cells slots (lw_Z below #[Value.ref b] s) (F0 m 464 ls []) := by
  obtain ⟨hx, hb, hml, hown, hts⟩ := id C0
  have hbA : ¬ (fun q => s.heap.size ≤ q) b := Nat.not_le.mpr hbl
  refine lv_aload_n hx hb dL_law_464 rfl (lv_at hl 1 rfl) ?_
  obtain ⟨σ1, r1, ρ1, a1, b1, I1⟩ := CALL_one call_anew hI
  refine r_ci X hS (r_runV (As := []) (rest := []) C0 X hP L_L_55 (fun sz => c_X7_anew l D cA ad o σ  (σ1, r1) a1 sz) (by decide) (show kd 66 = (7, 8) from rfl) (by decide) rfl ⟨(Nat.le_of_ble_eq_true rfl), (Nat.le_of_ble_eq_true rfl)⟩ rfl hl.1 rfl (Nat.le_of_ble_eq_true rfl) dL_law_465 ⟨Nat.le_trans hc (Nat.le_of_ble_eq_true rfl), Nat.le_trans hs (Nat.le_of_ble_eq_true rfl)⟩) (fun r9 σ9 H locs hw hP hS => ?_)
  rw [hw.2] at hP
  rw [hw.1]
  refine lv_pop hx hb dL_law_468 rfl ?_
  refine lv_aload_n hx hb dL_law_469 rfl (lv_at hl 2 rfl) ?_
  refine r_ci X hS (r_runV (As := []) (rest := []) C0 X hP L_L_59 (fun sz => c_X8_anew l D cA ad o σ1  (ρ1, r1) b1 sz) (by decide) (show kd 91 = (8, 24) from rfl) (by decide) rfl ⟨(Nat.le_of_ble_eq_true rfl), (Nat.le_of_ble_eq_true rfl)⟩ rfl hl.1 rfl (Nat.le_of_ble_eq_true rfl) dL_law_470 ⟨Nat.le_trans hc (Nat.le_of_ble_eq_true rfl), Nat.le_trans hs (Nat.le_of_ble_eq_true rfl)⟩) (fun r9 σ9 H locs hw hP hS => ?_)
  rw [hw.2] at hP
  rw [hw.1]
  replace hI := I1
  refine lv_pop hx hb dL_law_473 rfl ?_
  refine lv_goto (tgt := 1480) hx hb dL_law_474 (by decide) ?_
  exact kk _ _ _ _ _ _ _ hI hP hS (Nat.le_add_right _ _) (Nat.le_add_right _ _) hl
set_option maxHeartbeats 4000000 in
set_option maxRecDepth 100000 in
theorem law_c9 {p : Program} {l : Launch} {e : Env} {s : State} {m : MethodId} {below : List Frame} {meth : Method} {c : Code} {D : va_G} {cA : Nat → ClassId} {ad : Nat → Nat} {o : Int64} {σ : Mem} {b Lx i : Nat} {xs : Nat → Int32} {H : Heap} {locs : List Loc} {cells slots : Nat} {ls : Array Slot} {sa : Nat → Nat} (hfl : l.stackTraces = false) (C0 : CX p s m #[Value.ref b] c code 8 RL) (hX : va_X b Lx xs s s.heap) (hi : 6 * i + 6 ≤ Lx) (hL : Lx ≤ 384) (hbl : b < s.heap.size) (X : WX D cA ad (fun q => s.heap.size ≤ q) s) (hZ : XL sa s) (hP : WP D cA ad o σ H) (hI : INV σ σ) (hS : va_S (fun q => s.heap.size ≤ q) s.heap H locs) (hl : lv_has ls 8 [(0, .ref b), (1, .ref (ad 66)), (2, .ref (ad 91)), (3, .ref (ad 105)), (4, .int (nI (6 * i)))]) (hc : cells ≤ 600000) (hs : slots ≤ 7300000) (kk : ∀ (σ' : Mem) (o' : Int64) (H1 : Heap) (locs1 : List Loc) (c1 s1 : Nat) (ls' : Array Slot), INV σ' σ' → WP D cA ad o' σ' H1 → va_S (fun q => s.heap.size ≤ q) s.heap H1 locs1 → c1 ≤ cells + 1 → s1 ≤ slots + 6 → lv_has ls' 8 [(0, .ref b), (1, .ref (ad 66)), (2, .ref (ad 91)), (3, .ref (ad 105)), (4, .int (nI (6 * i)))] → W p l e room_1 s m #[Value.ref b] below meth c H1 locs1 c1 s1 (lw_Z below #[Value.ref b] s) (F0 m 1480 ls' [])) : W p l e room_1 s m #[Value.ref b] below meth c H locs cells slots (lw_Z below #[Value.ref b] s) (F0 m 477 ls []) := by
  obtain ⟨hx, hb, hml, hown, hts⟩ := id C0
  have hbA : ¬ (fun q => s.heap.size ≤ q) b := Nat.not_le.mpr hbl
  refine lv_aload_n hx hb dL_law_477 rfl (lv_at hl 1 rfl) ?_
  refine lv_aload_n hx hb dL_law_478 rfl (lv_at hl 0 rfl) ?_
  refine lv_iload hx hb dL_law_479 (lv_at hl 4 rfl) ?_
  refine lv_iconst (v := 1) hx hb dL_law_481 (by decide) ?_
  refine lv_iadd hx hb dL_law_482 ?_
  refine lv_topE (y := nI (6 * i + 1)) (nI_add (6 * i) 1) ?_
  refine va_sld (xs := xs) hx hb hX hbl hbA hS (vp_in_nI (by omega) (by omega)) dL_law_483 ?_
  refine lv_topE (y := xs (6 * i + 1)) (congrArg xs (nI_clamp (by omega))) ?_
  refine lv_aload_n hx hb dL_law_484 rfl (lv_at hl 0 rfl) ?_
  refine lv_iload hx hb dL_law_485 (lv_at hl 4 rfl) ?_
  refine lv_iconst (v := 2) hx hb dL_law_487 (by decide) ?_
  refine lv_iadd hx hb dL_law_488 ?_
  refine lv_topE (y := nI (6 * i + 2)) (nI_add (6 * i) 2) ?_
  refine va_sld (xs := xs) hx hb hX hbl hbA hS (vp_in_nI (by omega) (by omega)) dL_law_489 ?_
  refine lv_topE (y := xs (6 * i + 2)) (congrArg xs (nI_clamp (by omega))) ?_
  obtain ⟨r1, r2, a1, b1⟩ := call_where (xs (6 * i + 1)) (xs (6 * i + 2)) σ σ hI
  refine r_ci X hS (r_runV (As := [.int (xs (6 * i + 1)), .int (xs (6 * i + 2))]) (rest := []) C0 X hP L_L_60 (fun sz => c_X7_where l D cA ad o σ (xs (6 * i + 1)) (xs (6 * i + 2)) r1 a1 sz) (by decide) (show kd 66 = (7, 8) from rfl) (by decide) rfl ⟨(Nat.le_of_ble_eq_true rfl), (Nat.le_of_ble_eq_true rfl)⟩ rfl hl.1 rfl (Nat.le_of_ble_eq_true rfl) dL_law_490 ⟨Nat.le_trans hc (Nat.le_of_ble_eq_true rfl), Nat.le_trans hs (Nat.le_of_ble_eq_true rfl)⟩) (fun r9 σ9 H locs hw hP hS => ?_)
  rw [hw.2] at hP
  rw [hw.1]
  refine lv_pop hx hb dL_law_493 rfl ?_
  refine lv_aload_n hx hb dL_law_494 rfl (lv_at hl 2 rfl) ?_
  refine lv_aload_n hx hb dL_law_495 rfl (lv_at hl 0 rfl) ?_
  refine lv_iload hx hb dL_law_496 (lv_at hl 4 rfl) ?_
  refine lv_iconst (v := 1) hx hb dL_law_498 (by decide) ?_
  refine lv_iadd hx hb dL_law_499 ?_
  refine lv_topE (y := nI (6 * i + 1)) (nI_add (6 * i) 1) ?_
  refine va_sld (xs := xs) hx hb hX hbl hbA hS (vp_in_nI (by omega) (by omega)) dL_law_500 ?_
  refine lv_topE (y := xs (6 * i + 1)) (congrArg xs (nI_clamp (by omega))) ?_
  refine lv_aload_n hx hb dL_law_501 rfl (lv_at hl 0 rfl) ?_
  refine lv_iload hx hb dL_law_502 (lv_at hl 4 rfl) ?_
  refine lv_iconst (v := 2) hx hb dL_law_504 (by decide) ?_
  refine lv_iadd hx hb dL_law_505 ?_
  refine lv_topE (y := nI (6 * i + 2)) (nI_add (6 * i) 2) ?_
  refine va_sld (xs := xs) hx hb hX hbl hbA hS (vp_in_nI (by omega) (by omega)) dL_law_506 ?_
  refine lv_topE (y := xs (6 * i + 2)) (congrArg xs (nI_clamp (by omega))) ?_
  refine r_ci X hS (r_runV (As := [.int (xs (6 * i + 1)), .int (xs (6 * i + 2))]) (rest := []) C0 X hP L_L_63 (fun sz => c_X8_where l D cA ad o σ (xs (6 * i + 1)) (xs (6 * i + 2)) r2 b1 sz) (by decide) (show kd 91 = (8, 24) from rfl) (by decide) rfl ⟨(Nat.le_of_ble_eq_true rfl), (Nat.le_of_ble_eq_true rfl)⟩ rfl hl.1 rfl (Nat.le_of_ble_eq_true rfl) dL_law_507 ⟨Nat.le_trans hc (Nat.le_of_ble_eq_true rfl), Nat.le_trans hs (Nat.le_of_ble_eq_true rfl)⟩) (fun r9 σ9 H locs hw hP hS => ?_)
  rw [hw.2] at hP
  rw [hw.1]
  refine lv_pop hx hb dL_law_510 rfl ?_
  refine lv_goto (tgt := 1480) hx hb dL_law_511 (by decide) ?_
  exact kk _ _ _ _ _ _ _ hI hP hS (Nat.le_add_right _ _) (Nat.le_add_right _ _) hl
set_option maxHeartbeats 4000000 in
set_option maxRecDepth 100000 in
theorem law_c10 {p : Program} {l : Launch} {e : Env} {s : State} {m : MethodId} {below : List Frame} {meth : Method} {c : Code} {D : va_G} {cA : Nat → ClassId} {ad : Nat → Nat} {o : Int64} {σ : Mem} {b Lx i : Nat} {xs : Nat → Int32} {H : Heap} {locs : List Loc} {cells slots : Nat} {ls : Array Slot} {sa : Nat → Nat} (hfl : l.stackTraces = false) (C0 : CX p s m #[Value.ref b] c code 8 RL) (hX : va_X b Lx xs s s.heap) (hi : 6 * i + 6 ≤ Lx) (hL : Lx ≤ 384) (hbl : b < s.heap.size) (X : WX D cA ad (fun q => s.heap.size ≤ q) s) (hZ : XL sa s) (hP : WP D cA ad o σ H) (hI : INV σ σ) (hS : va_S (fun q => s.heap.size ≤ q) s.heap H locs) (hl : lv_has ls 8 [(0, .ref b), (1, .ref (ad 66)), (2, .ref (ad 91)), (3, .ref (ad 105)), (4, .int (nI (6 * i)))]) (hc : cells ≤ 600000) (hs : slots ≤ 7300000) (kk : ∀ (σ' : Mem) (o' : Int64) (H1 : Heap) (locs1 : List Loc) (c1 s1 : Nat) (ls' : Array Slot), INV σ' σ' → WP D cA ad o' σ' H1 → va_S (fun q => s.heap.size ≤ q) s.heap H1 locs1 → c1 ≤ cells + 1 → s1 ≤ slots + 6 → lv_has ls' 8 [(0, .ref b), (1, .ref (ad 66)), (2, .ref (ad 91)), (3, .ref (ad 105)), (4, .int (nI (6 * i)))] → W p l e room_1 s m #[Value.ref b] below meth c H1 locs1 c1 s1 (lw_Z below #[Value.ref b] s) (F0 m 1480 ls' [])) : W p l e room_1 s m #[Value.ref b] below meth c H locs cells slots (lw_Z below #[Value.ref b] s) (F0 m 514 ls []) := by
  obtain ⟨hx, hb, hml, hown, hts⟩ := id C0
  have hbA : ¬ (fun q => s.heap.size ≤ q) b := Nat.not_le.mpr hbl
  refine lv_aload_n hx hb dL_law_514 rfl (lv_at hl 1 rfl) ?_
  refine lv_aload_n hx hb dL_law_515 rfl (lv_at hl 0 rfl) ?_
  refine lv_iload hx hb dL_law_516 (lv_at hl 4 rfl) ?_
  refine lv_iconst (v := 1) hx hb dL_law_518 (by decide) ?_
  refine lv_iadd hx hb dL_law_519 ?_
  refine lv_topE (y := nI (6 * i + 1)) (nI_add (6 * i) 1) ?_
  refine va_sld (xs := xs) hx hb hX hbl hbA hS (vp_in_nI (by omega) (by omega)) dL_law_520 ?_
  refine lv_topE (y := xs (6 * i + 1)) (congrArg xs (nI_clamp (by omega))) ?_
  obtain ⟨r1, a1, b1⟩ := CALR_one (call_state (xs (6 * i + 1))) hI
  refine r_ci X hS (r_runV (As := [.int (xs (6 * i + 1))]) (rest := []) C0 X hP L_L_64 (fun sz => c_X7_state l D cA ad o σ (xs (6 * i + 1)) r1 a1 sz) (by decide) (show kd 66 = (7, 8) from rfl) (by decide) rfl ⟨(Nat.le_of_ble_eq_true rfl), (Nat.le_of_ble_eq_true rfl)⟩ rfl hl.1 rfl (Nat.le_of_ble_eq_true rfl) dL_law_521 ⟨Nat.le_trans hc (Nat.le_of_ble_eq_true rfl), Nat.le_trans hs (Nat.le_of_ble_eq_true rfl)⟩) (fun r9 σ9 H locs hw hP hS => ?_)
  rw [hw.2] at hP
  rw [hw.1]
  refine lv_pop hx hb dL_law_524 rfl ?_
  refine lv_aload_n hx hb dL_law_525 rfl (lv_at hl 2 rfl) ?_
  refine lv_aload_n hx hb dL_law_526 rfl (lv_at hl 0 rfl) ?_
  refine lv_iload hx hb dL_law_527 (lv_at hl 4 rfl) ?_
  refine lv_iconst (v := 1) hx hb dL_law_529 (by decide) ?_
  refine lv_iadd hx hb dL_law_530 ?_
  refine lv_topE (y := nI (6 * i + 1)) (nI_add (6 * i) 1) ?_
  refine va_sld (xs := xs) hx hb hX hbl hbA hS (vp_in_nI (by omega) (by omega)) dL_law_531 ?_
  refine lv_topE (y := xs (6 * i + 1)) (congrArg xs (nI_clamp (by omega))) ?_
  refine r_ci X hS (r_runV (As := [.int (xs (6 * i + 1))]) (rest := []) C0 X hP L_L_67 (fun sz => c_X8_state l D cA ad o σ (xs (6 * i + 1)) r1 b1 sz) (by decide) (show kd 91 = (8, 24) from rfl) (by decide) rfl ⟨(Nat.le_of_ble_eq_true rfl), (Nat.le_of_ble_eq_true rfl)⟩ rfl hl.1 rfl (Nat.le_of_ble_eq_true rfl) dL_law_532 ⟨Nat.le_trans hc (Nat.le_of_ble_eq_true rfl), Nat.le_trans hs (Nat.le_of_ble_eq_true rfl)⟩) (fun r9 σ9 H locs hw hP hS => ?_)
  rw [hw.2] at hP
  rw [hw.1]
  refine lv_pop hx hb dL_law_535 rfl ?_
  refine lv_goto (tgt := 1480) hx hb dL_law_536 (by decide) ?_
  exact kk _ _ _ _ _ _ _ hI hP hS (Nat.le_add_right _ _) (Nat.le_add_right _ _) hl
set_option maxHeartbeats 4000000 in
set_option maxRecDepth 100000 in
theorem law_c11 {p : Program} {l : Launch} {e : Env} {s : State} {m : MethodId} {below : List Frame} {meth : Method} {c : Code} {D : va_G} {cA : Nat → ClassId} {ad : Nat → Nat} {o : Int64} {σ : Mem} {b Lx i : Nat} {xs : Nat → Int32} {H : Heap} {locs : List Loc} {cells slots : Nat} {ls : Array Slot} {sa : Nat → Nat} (hfl : l.stackTraces = false) (C0 : CX p s m #[Value.ref b] c code 8 RL) (hX : va_X b Lx xs s s.heap) (hi : 6 * i + 6 ≤ Lx) (hL : Lx ≤ 384) (hbl : b < s.heap.size) (X : WX D cA ad (fun q => s.heap.size ≤ q) s) (hZ : XL sa s) (hP : WP D cA ad o σ H) (hI : INV σ σ) (hS : va_S (fun q => s.heap.size ≤ q) s.heap H locs) (hl : lv_has ls 8 [(0, .ref b), (1, .ref (ad 66)), (2, .ref (ad 91)), (3, .ref (ad 105)), (4, .int (nI (6 * i)))]) (hc : cells ≤ 600000) (hs : slots ≤ 7300000) (kk : ∀ (σ' : Mem) (o' : Int64) (H1 : Heap) (locs1 : List Loc) (c1 s1 : Nat) (ls' : Array Slot), INV σ' σ' → WP D cA ad o' σ' H1 → va_S (fun q => s.heap.size ≤ q) s.heap H1 locs1 → c1 ≤ cells + 1 → s1 ≤ slots + 6 → lv_has ls' 8 [(0, .ref b), (1, .ref (ad 66)), (2, .ref (ad 91)), (3, .ref (ad 105)), (4, .int (nI (6 * i)))] → W p l e room_1 s m #[Value.ref b] below meth c H1 locs1 c1 s1 (lw_Z below #[Value.ref b] s) (F0 m 1480 ls' [])) : W p l e room_1 s m #[Value.ref b] below meth c H locs cells slots (lw_Z below #[Value.ref b] s) (F0 m 539 ls []) := by
  obtain ⟨hx, hb, hml, hown, hts⟩ := id C0
  have hbA : ¬ (fun q => s.heap.size ≤ q) b := Nat.not_le.mpr hbl
  refine lv_aload_n hx hb dL_law_539 rfl (lv_at hl 1 rfl) ?_
  refine lv_aload_n hx hb dL_law_540 rfl (lv_at hl 0 rfl) ?_
  refine lv_iload hx hb dL_law_541 (lv_at hl 4 rfl) ?_
  refine lv_iconst (v := 1) hx hb dL_law_543 (by decide) ?_
  refine lv_iadd hx hb dL_law_544 ?_
  refine lv_topE (y := nI (6 * i + 1)) (nI_add (6 * i) 1) ?_
  refine va_sld (xs := xs) hx hb hX hbl hbA hS (vp_in_nI (by omega) (by omega)) dL_law_545 ?_
  refine lv_topE (y := xs (6 * i + 1)) (congrArg xs (nI_clamp (by omega))) ?_
  obtain ⟨r1, a1, b1⟩ := CALR_one (call_enters (xs (6 * i + 1))) hI
  refine r_ci X hS (r_runV (As := [.int (xs (6 * i + 1))]) (rest := []) C0 X hP L_L_68 (fun sz => c_X7_enters l D cA ad o σ (xs (6 * i + 1)) r1 a1 sz) (by decide) (show kd 66 = (7, 8) from rfl) (by decide) rfl ⟨(Nat.le_of_ble_eq_true rfl), (Nat.le_of_ble_eq_true rfl)⟩ rfl hl.1 rfl (Nat.le_of_ble_eq_true rfl) dL_law_546 ⟨Nat.le_trans hc (Nat.le_of_ble_eq_true rfl), Nat.le_trans hs (Nat.le_of_ble_eq_true rfl)⟩) (fun r9 σ9 H locs hw hP hS => ?_)
  rw [hw.2] at hP
  rw [hw.1]
  refine lv_pop hx hb dL_law_549 rfl ?_
  refine lv_aload_n hx hb dL_law_550 rfl (lv_at hl 2 rfl) ?_
  refine lv_aload_n hx hb dL_law_551 rfl (lv_at hl 0 rfl) ?_
  refine lv_iload hx hb dL_law_552 (lv_at hl 4 rfl) ?_
  refine lv_iconst (v := 1) hx hb dL_law_554 (by decide) ?_
  refine lv_iadd hx hb dL_law_555 ?_
  refine lv_topE (y := nI (6 * i + 1)) (nI_add (6 * i) 1) ?_
  refine va_sld (xs := xs) hx hb hX hbl hbA hS (vp_in_nI (by omega) (by omega)) dL_law_556 ?_
  refine lv_topE (y := xs (6 * i + 1)) (congrArg xs (nI_clamp (by omega))) ?_
  refine r_ci X hS (r_runV (As := [.int (xs (6 * i + 1))]) (rest := []) C0 X hP L_L_71 (fun sz => c_X8_enters l D cA ad o σ (xs (6 * i + 1)) r1 b1 sz) (by decide) (show kd 91 = (8, 24) from rfl) (by decide) rfl ⟨(Nat.le_of_ble_eq_true rfl), (Nat.le_of_ble_eq_true rfl)⟩ rfl hl.1 rfl (Nat.le_of_ble_eq_true rfl) dL_law_557 ⟨Nat.le_trans hc (Nat.le_of_ble_eq_true rfl), Nat.le_trans hs (Nat.le_of_ble_eq_true rfl)⟩) (fun r9 σ9 H locs hw hP hS => ?_)
  rw [hw.2] at hP
  rw [hw.1]
  refine lv_pop hx hb dL_law_560 rfl ?_
  refine lv_goto (tgt := 1480) hx hb dL_law_561 (by decide) ?_
  exact kk _ _ _ _ _ _ _ hI hP hS (Nat.le_add_right _ _) (Nat.le_add_right _ _) hl
set_option maxHeartbeats 4000000 in
set_option maxRecDepth 100000 in
theorem law_c12 {p : Program} {l : Launch} {e : Env} {s : State} {m : MethodId} {below : List Frame} {meth : Method} {c : Code} {D : va_G} {cA : Nat → ClassId} {ad : Nat → Nat} {o : Int64} {σ : Mem} {b Lx i : Nat} {xs : Nat → Int32} {H : Heap} {locs : List Loc} {cells slots : Nat} {ls : Array Slot} {sa : Nat → Nat} (hfl : l.stackTraces = false) (C0 : CX p s m #[Value.ref b] c code 8 RL) (hX : va_X b Lx xs s s.heap) (hi : 6 * i + 6 ≤ Lx) (hL : Lx ≤ 384) (hbl : b < s.heap.size) (X : WX D cA ad (fun q => s.heap.size ≤ q) s) (hZ : XL sa s) (hP : WP D cA ad o σ H) (hI : INV σ σ) (hS : va_S (fun q => s.heap.size ≤ q) s.heap H locs) (hl : lv_has ls 8 [(0, .ref b), (1, .ref (ad 66)), (2, .ref (ad 91)), (3, .ref (ad 105)), (4, .int (nI (6 * i)))]) (hc : cells ≤ 600000) (hs : slots ≤ 7300000) (kk : ∀ (σ' : Mem) (o' : Int64) (H1 : Heap) (locs1 : List Loc) (c1 s1 : Nat) (ls' : Array Slot), INV σ' σ' → WP D cA ad o' σ' H1 → va_S (fun q => s.heap.size ≤ q) s.heap H1 locs1 → c1 ≤ cells + 1 → s1 ≤ slots + 6 → lv_has ls' 8 [(0, .ref b), (1, .ref (ad 66)), (2, .ref (ad 91)), (3, .ref (ad 105)), (4, .int (nI (6 * i)))] → W p l e room_1 s m #[Value.ref b] below meth c H1 locs1 c1 s1 (lw_Z below #[Value.ref b] s) (F0 m 1480 ls' [])) : W p l e room_1 s m #[Value.ref b] below meth c H locs cells slots (lw_Z below #[Value.ref b] s) (F0 m 564 ls []) := by
  obtain ⟨hx, hb, hml, hown, hts⟩ := id C0
  have hbA : ¬ (fun q => s.heap.size ≤ q) b := Nat.not_le.mpr hbl
  refine lv_aload_n hx hb dL_law_564 rfl (lv_at hl 1 rfl) ?_
  refine lv_aload_n hx hb dL_law_565 rfl (lv_at hl 0 rfl) ?_
  refine lv_iload hx hb dL_law_566 (lv_at hl 4 rfl) ?_
  refine lv_iconst (v := 1) hx hb dL_law_568 (by decide) ?_
  refine lv_iadd hx hb dL_law_569 ?_
  refine lv_topE (y := nI (6 * i + 1)) (nI_add (6 * i) 1) ?_
  refine va_sld (xs := xs) hx hb hX hbl hbA hS (vp_in_nI (by omega) (by omega)) dL_law_570 ?_
  refine lv_topE (y := xs (6 * i + 1)) (congrArg xs (nI_clamp (by omega))) ?_
  refine lv_aload_n hx hb dL_law_571 rfl (lv_at hl 0 rfl) ?_
  refine lv_iload hx hb dL_law_572 (lv_at hl 4 rfl) ?_
  refine lv_iconst (v := 2) hx hb dL_law_574 (by decide) ?_
  refine lv_iadd hx hb dL_law_575 ?_
  refine lv_topE (y := nI (6 * i + 2)) (nI_add (6 * i) 2) ?_
  refine va_sld (xs := xs) hx hb hX hbl hbA hS (vp_in_nI (by omega) (by omega)) dL_law_576 ?_
  refine lv_topE (y := xs (6 * i + 2)) (congrArg xs (nI_clamp (by omega))) ?_
  refine lv_aload_n hx hb dL_law_577 rfl (lv_at hl 0 rfl) ?_
  refine lv_iload hx hb dL_law_578 (lv_at hl 4 rfl) ?_
  refine lv_iconst (v := 3) hx hb dL_law_580 (by decide) ?_
  refine lv_iadd hx hb dL_law_581 ?_
  refine lv_topE (y := nI (6 * i + 3)) (nI_add (6 * i) 3) ?_
  refine va_sld (xs := xs) hx hb hX hbl hbA hS (vp_in_nI (by omega) (by omega)) dL_law_582 ?_
  refine lv_topE (y := xs (6 * i + 3)) (congrArg xs (nI_clamp (by omega))) ?_
  obtain ⟨r1, a1, b1⟩ := CALR_one (call_yields (xs (6 * i + 1)) (xs (6 * i + 2)) (xs (6 * i + 3))) hI
  refine r_ci X hS (r_runV (As := [.int (xs (6 * i + 1)), .int (xs (6 * i + 2)), .int (xs (6 * i + 3))]) (rest := []) C0 X hP L_L_72 (fun sz => c_X7_yields l D cA ad o σ (xs (6 * i + 1)) (xs (6 * i + 2)) (xs (6 * i + 3)) r1 a1 sz) (by decide) (show kd 66 = (7, 8) from rfl) (by decide) rfl ⟨(Nat.le_of_ble_eq_true rfl), (Nat.le_of_ble_eq_true rfl)⟩ rfl hl.1 rfl (Nat.le_of_ble_eq_true rfl) dL_law_583 ⟨Nat.le_trans hc (Nat.le_of_ble_eq_true rfl), Nat.le_trans hs (Nat.le_of_ble_eq_true rfl)⟩) (fun r9 σ9 H locs hw hP hS => ?_)
  rw [hw.2] at hP
  rw [hw.1]
  refine lv_pop hx hb dL_law_586 rfl ?_
  refine lv_aload_n hx hb dL_law_587 rfl (lv_at hl 2 rfl) ?_
  refine lv_aload_n hx hb dL_law_588 rfl (lv_at hl 0 rfl) ?_
  refine lv_iload hx hb dL_law_589 (lv_at hl 4 rfl) ?_
  refine lv_iconst (v := 1) hx hb dL_law_591 (by decide) ?_
  refine lv_iadd hx hb dL_law_592 ?_
  refine lv_topE (y := nI (6 * i + 1)) (nI_add (6 * i) 1) ?_
  refine va_sld (xs := xs) hx hb hX hbl hbA hS (vp_in_nI (by omega) (by omega)) dL_law_593 ?_
  refine lv_topE (y := xs (6 * i + 1)) (congrArg xs (nI_clamp (by omega))) ?_
  refine lv_aload_n hx hb dL_law_594 rfl (lv_at hl 0 rfl) ?_
  refine lv_iload hx hb dL_law_595 (lv_at hl 4 rfl) ?_
  refine lv_iconst (v := 2) hx hb dL_law_597 (by decide) ?_
  refine lv_iadd hx hb dL_law_598 ?_
  refine lv_topE (y := nI (6 * i + 2)) (nI_add (6 * i) 2) ?_
  refine va_sld (xs := xs) hx hb hX hbl hbA hS (vp_in_nI (by omega) (by omega)) dL_law_599 ?_
  refine lv_topE (y := xs (6 * i + 2)) (congrArg xs (nI_clamp (by omega))) ?_
  refine lv_aload_n hx hb dL_law_600 rfl (lv_at hl 0 rfl) ?_
  refine lv_iload hx hb dL_law_601 (lv_at hl 4 rfl) ?_
  refine lv_iconst (v := 3) hx hb dL_law_603 (by decide) ?_
  refine lv_iadd hx hb dL_law_604 ?_
  refine lv_topE (y := nI (6 * i + 3)) (nI_add (6 * i) 3) ?_
  refine va_sld (xs := xs) hx hb hX hbl hbA hS (vp_in_nI (by omega) (by omega)) dL_law_605 ?_
  refine lv_topE (y := xs (6 * i + 3)) (congrArg xs (nI_clamp (by omega))) ?_
  refine r_ci X hS (r_runV (As := [.int (xs (6 * i + 1)), .int (xs (6 * i + 2)), .int (xs (6 * i + 3))]) (rest := []) C0 X hP L_L_76 (fun sz => c_X8_yields l D cA ad o σ (xs (6 * i + 1)) (xs (6 * i + 2)) (xs (6 * i + 3)) r1 b1 sz) (by decide) (show kd 91 = (8, 24) from rfl) (by decide) rfl ⟨(Nat.le_of_ble_eq_true rfl), (Nat.le_of_ble_eq_true rfl)⟩ rfl hl.1 rfl (Nat.le_of_ble_eq_true rfl) dL_law_606 ⟨Nat.le_trans hc (Nat.le_of_ble_eq_true rfl), Nat.le_trans hs (Nat.le_of_ble_eq_true rfl)⟩) (fun r9 σ9 H locs hw hP hS => ?_)
  rw [hw.2] at hP
  rw [hw.1]
  refine lv_pop hx hb dL_law_609 rfl ?_
  refine lv_goto (tgt := 1480) hx hb dL_law_610 (by decide) ?_
  exact kk _ _ _ _ _ _ _ hI hP hS (Nat.le_add_right _ _) (Nat.le_add_right _ _) hl
set_option maxHeartbeats 4000000 in
set_option maxRecDepth 100000 in
theorem law_c13 {p : Program} {l : Launch} {e : Env} {s : State} {m : MethodId} {below : List Frame} {meth : Method} {c : Code} {D : va_G} {cA : Nat → ClassId} {ad : Nat → Nat} {o : Int64} {σ : Mem} {b Lx i : Nat} {xs : Nat → Int32} {H : Heap} {locs : List Loc} {cells slots : Nat} {ls : Array Slot} {sa : Nat → Nat} (hfl : l.stackTraces = false) (C0 : CX p s m #[Value.ref b] c code 8 RL) (hX : va_X b Lx xs s s.heap) (hi : 6 * i + 6 ≤ Lx) (hL : Lx ≤ 384) (hbl : b < s.heap.size) (X : WX D cA ad (fun q => s.heap.size ≤ q) s) (hZ : XL sa s) (hP : WP D cA ad o σ H) (hI : INV σ σ) (hS : va_S (fun q => s.heap.size ≤ q) s.heap H locs) (hl : lv_has ls 8 [(0, .ref b), (1, .ref (ad 66)), (2, .ref (ad 91)), (3, .ref (ad 105)), (4, .int (nI (6 * i)))]) (hc : cells ≤ 600000) (hs : slots ≤ 7300000) (kk : ∀ (σ' : Mem) (o' : Int64) (H1 : Heap) (locs1 : List Loc) (c1 s1 : Nat) (ls' : Array Slot), INV σ' σ' → WP D cA ad o' σ' H1 → va_S (fun q => s.heap.size ≤ q) s.heap H1 locs1 → c1 ≤ cells + 1 → s1 ≤ slots + 6 → lv_has ls' 8 [(0, .ref b), (1, .ref (ad 66)), (2, .ref (ad 91)), (3, .ref (ad 105)), (4, .int (nI (6 * i)))] → W p l e room_1 s m #[Value.ref b] below meth c H1 locs1 c1 s1 (lw_Z below #[Value.ref b] s) (F0 m 1480 ls' [])) : W p l e room_1 s m #[Value.ref b] below meth c H locs cells slots (lw_Z below #[Value.ref b] s) (F0 m 613 ls []) := by
  obtain ⟨hx, hb, hml, hown, hts⟩ := id C0
  have hbA : ¬ (fun q => s.heap.size ≤ q) b := Nat.not_le.mpr hbl
  refine lv_aload_n hx hb dL_law_613 rfl (lv_at hl 1 rfl) ?_
  refine lv_aload_n hx hb dL_law_614 rfl (lv_at hl 0 rfl) ?_
  refine lv_iload hx hb dL_law_615 (lv_at hl 4 rfl) ?_
  refine lv_iconst (v := 1) hx hb dL_law_617 (by decide) ?_
  refine lv_iadd hx hb dL_law_618 ?_
  refine lv_topE (y := nI (6 * i + 1)) (nI_add (6 * i) 1) ?_
  refine va_sld (xs := xs) hx hb hX hbl hbA hS (vp_in_nI (by omega) (by omega)) dL_law_619 ?_
  refine lv_topE (y := xs (6 * i + 1)) (congrArg xs (nI_clamp (by omega))) ?_
  refine lv_aload_n hx hb dL_law_620 rfl (lv_at hl 0 rfl) ?_
  refine lv_iload hx hb dL_law_621 (lv_at hl 4 rfl) ?_
  refine lv_iconst (v := 2) hx hb dL_law_623 (by decide) ?_
  refine lv_iadd hx hb dL_law_624 ?_
  refine lv_topE (y := nI (6 * i + 2)) (nI_add (6 * i) 2) ?_
  refine va_sld (xs := xs) hx hb hX hbl hbA hS (vp_in_nI (by omega) (by omega)) dL_law_625 ?_
  refine lv_topE (y := xs (6 * i + 2)) (congrArg xs (nI_clamp (by omega))) ?_
  obtain ⟨σ1, r1, ρ1, a1, b1, I1⟩ := CALL_one (call_judge (xs (6 * i + 1)) (xs (6 * i + 2))) hI
  refine r_ci X hS (r_runV (As := [.int (xs (6 * i + 1)), .int (xs (6 * i + 2))]) (rest := []) C0 X hP L_L_77 (fun sz => c_X7_judge l D cA ad o σ (xs (6 * i + 1)) (xs (6 * i + 2)) (σ1, r1) a1 sz) (by decide) (show kd 66 = (7, 8) from rfl) (by decide) rfl ⟨(Nat.le_of_ble_eq_true rfl), (Nat.le_of_ble_eq_true rfl)⟩ rfl hl.1 rfl (Nat.le_of_ble_eq_true rfl) dL_law_626 ⟨Nat.le_trans hc (Nat.le_of_ble_eq_true rfl), Nat.le_trans hs (Nat.le_of_ble_eq_true rfl)⟩) (fun r9 σ9 H locs hw hP hS => ?_)
  rw [hw.2] at hP
  rw [hw.1]
  refine lv_pop hx hb dL_law_629 rfl ?_
  refine lv_aload_n hx hb dL_law_630 rfl (lv_at hl 2 rfl) ?_
  refine lv_aload_n hx hb dL_law_631 rfl (lv_at hl 0 rfl) ?_
  refine lv_iload hx hb dL_law_632 (lv_at hl 4 rfl) ?_
  refine lv_iconst (v := 1) hx hb dL_law_634 (by decide) ?_
  refine lv_iadd hx hb dL_law_635 ?_
  refine lv_topE (y := nI (6 * i + 1)) (nI_add (6 * i) 1) ?_
  refine va_sld (xs := xs) hx hb hX hbl hbA hS (vp_in_nI (by omega) (by omega)) dL_law_636 ?_
  refine lv_topE (y := xs (6 * i + 1)) (congrArg xs (nI_clamp (by omega))) ?_
  refine lv_aload_n hx hb dL_law_637 rfl (lv_at hl 0 rfl) ?_
  refine lv_iload hx hb dL_law_638 (lv_at hl 4 rfl) ?_
  refine lv_iconst (v := 2) hx hb dL_law_640 (by decide) ?_
  refine lv_iadd hx hb dL_law_641 ?_
  refine lv_topE (y := nI (6 * i + 2)) (nI_add (6 * i) 2) ?_
  refine va_sld (xs := xs) hx hb hX hbl hbA hS (vp_in_nI (by omega) (by omega)) dL_law_642 ?_
  refine lv_topE (y := xs (6 * i + 2)) (congrArg xs (nI_clamp (by omega))) ?_
  refine r_ci X hS (r_runV (As := [.int (xs (6 * i + 1)), .int (xs (6 * i + 2))]) (rest := []) C0 X hP L_L_80 (fun sz => c_X8_judge l D cA ad o σ1 (xs (6 * i + 1)) (xs (6 * i + 2)) (ρ1, r1) b1 sz) (by decide) (show kd 91 = (8, 24) from rfl) (by decide) rfl ⟨(Nat.le_of_ble_eq_true rfl), (Nat.le_of_ble_eq_true rfl)⟩ rfl hl.1 rfl (Nat.le_of_ble_eq_true rfl) dL_law_643 ⟨Nat.le_trans hc (Nat.le_of_ble_eq_true rfl), Nat.le_trans hs (Nat.le_of_ble_eq_true rfl)⟩) (fun r9 σ9 H locs hw hP hS => ?_)
  rw [hw.2] at hP
  rw [hw.1]
  replace hI := I1
  refine lv_pop hx hb dL_law_646 rfl ?_
  refine lv_goto (tgt := 1480) hx hb dL_law_647 (by decide) ?_
  exact kk _ _ _ _ _ _ _ hI hP hS (Nat.le_add_right _ _) (Nat.le_add_right _ _) hl
set_option maxHeartbeats 4000000 in
set_option maxRecDepth 100000 in
theorem law_c14 {p : Program} {l : Launch} {e : Env} {s : State} {m : MethodId} {below : List Frame} {meth : Method} {c : Code} {D : va_G} {cA : Nat → ClassId} {ad : Nat → Nat} {o : Int64} {σ : Mem} {b Lx i : Nat} {xs : Nat → Int32} {H : Heap} {locs : List Loc} {cells slots : Nat} {ls : Array Slot} {sa : Nat → Nat} (hfl : l.stackTraces = false) (C0 : CX p s m #[Value.ref b] c code 8 RL) (hX : va_X b Lx xs s s.heap) (hi : 6 * i + 6 ≤ Lx) (hL : Lx ≤ 384) (hbl : b < s.heap.size) (X : WX D cA ad (fun q => s.heap.size ≤ q) s) (hZ : XL sa s) (hP : WP D cA ad o σ H) (hI : INV σ σ) (hS : va_S (fun q => s.heap.size ≤ q) s.heap H locs) (hl : lv_has ls 8 [(0, .ref b), (1, .ref (ad 66)), (2, .ref (ad 91)), (3, .ref (ad 105)), (4, .int (nI (6 * i)))]) (hc : cells ≤ 600000) (hs : slots ≤ 7300000) (kk : ∀ (σ' : Mem) (o' : Int64) (H1 : Heap) (locs1 : List Loc) (c1 s1 : Nat) (ls' : Array Slot), INV σ' σ' → WP D cA ad o' σ' H1 → va_S (fun q => s.heap.size ≤ q) s.heap H1 locs1 → c1 ≤ cells + 1 → s1 ≤ slots + 6 → lv_has ls' 8 [(0, .ref b), (1, .ref (ad 66)), (2, .ref (ad 91)), (3, .ref (ad 105)), (4, .int (nI (6 * i)))] → W p l e room_1 s m #[Value.ref b] below meth c H1 locs1 c1 s1 (lw_Z below #[Value.ref b] s) (F0 m 1480 ls' [])) : W p l e room_1 s m #[Value.ref b] below meth c H locs cells slots (lw_Z below #[Value.ref b] s) (F0 m 650 ls []) := by
  obtain ⟨hx, hb, hml, hown, hts⟩ := id C0
  have hbA : ¬ (fun q => s.heap.size ≤ q) b := Nat.not_le.mpr hbl
  refine lv_aload_n hx hb dL_law_650 rfl (lv_at hl 1 rfl) ?_
  refine lv_aload_n hx hb dL_law_651 rfl (lv_at hl 0 rfl) ?_
  refine lv_iload hx hb dL_law_652 (lv_at hl 4 rfl) ?_
  refine lv_iconst (v := 1) hx hb dL_law_654 (by decide) ?_
  refine lv_iadd hx hb dL_law_655 ?_
  refine lv_topE (y := nI (6 * i + 1)) (nI_add (6 * i) 1) ?_
  refine va_sld (xs := xs) hx hb hX hbl hbA hS (vp_in_nI (by omega) (by omega)) dL_law_656 ?_
  refine lv_topE (y := xs (6 * i + 1)) (congrArg xs (nI_clamp (by omega))) ?_
  refine lv_aload_n hx hb dL_law_657 rfl (lv_at hl 0 rfl) ?_
  refine lv_iload hx hb dL_law_658 (lv_at hl 4 rfl) ?_
  refine lv_iconst (v := 2) hx hb dL_law_660 (by decide) ?_
  refine lv_iadd hx hb dL_law_661 ?_
  refine lv_topE (y := nI (6 * i + 2)) (nI_add (6 * i) 2) ?_
  refine va_sld (xs := xs) hx hb hX hbl hbA hS (vp_in_nI (by omega) (by omega)) dL_law_662 ?_
  refine lv_topE (y := xs (6 * i + 2)) (congrArg xs (nI_clamp (by omega))) ?_
  obtain ⟨σ1, r1, ρ1, a1, b1, I1⟩ := CALL_one (call_run (xs (6 * i + 1)) (xs (6 * i + 2))) hI
  refine r_ci X hS (r_runV (As := [.int (xs (6 * i + 1)), .int (xs (6 * i + 2))]) (rest := []) C0 X hP L_L_81 (fun sz => c_X7_run l D cA ad o σ (xs (6 * i + 1)) (xs (6 * i + 2)) (σ1, r1) a1 sz) (by decide) (show kd 66 = (7, 8) from rfl) (by decide) rfl ⟨(Nat.le_of_ble_eq_true rfl), (Nat.le_of_ble_eq_true rfl)⟩ rfl hl.1 rfl (Nat.le_of_ble_eq_true rfl) dL_law_663 ⟨Nat.le_trans hc (Nat.le_of_ble_eq_true rfl), Nat.le_trans hs (Nat.le_of_ble_eq_true rfl)⟩) (fun r9 σ9 H locs hw hP hS => ?_)
  rw [hw.2] at hP
  rw [hw.1]
  refine lv_pop hx hb dL_law_666 rfl ?_
  refine lv_aload_n hx hb dL_law_667 rfl (lv_at hl 2 rfl) ?_
  refine lv_aload_n hx hb dL_law_668 rfl (lv_at hl 0 rfl) ?_
  refine lv_iload hx hb dL_law_669 (lv_at hl 4 rfl) ?_
  refine lv_iconst (v := 1) hx hb dL_law_671 (by decide) ?_
  refine lv_iadd hx hb dL_law_672 ?_
  refine lv_topE (y := nI (6 * i + 1)) (nI_add (6 * i) 1) ?_
  refine va_sld (xs := xs) hx hb hX hbl hbA hS (vp_in_nI (by omega) (by omega)) dL_law_673 ?_
  refine lv_topE (y := xs (6 * i + 1)) (congrArg xs (nI_clamp (by omega))) ?_
  refine lv_aload_n hx hb dL_law_674 rfl (lv_at hl 0 rfl) ?_
  refine lv_iload hx hb dL_law_675 (lv_at hl 4 rfl) ?_
  refine lv_iconst (v := 2) hx hb dL_law_677 (by decide) ?_
  refine lv_iadd hx hb dL_law_678 ?_
  refine lv_topE (y := nI (6 * i + 2)) (nI_add (6 * i) 2) ?_
  refine va_sld (xs := xs) hx hb hX hbl hbA hS (vp_in_nI (by omega) (by omega)) dL_law_679 ?_
  refine lv_topE (y := xs (6 * i + 2)) (congrArg xs (nI_clamp (by omega))) ?_
  refine r_ci X hS (r_runV (As := [.int (xs (6 * i + 1)), .int (xs (6 * i + 2))]) (rest := []) C0 X hP L_L_84 (fun sz => c_X8_run l D cA ad o σ1 (xs (6 * i + 1)) (xs (6 * i + 2)) (ρ1, r1) b1 sz) (by decide) (show kd 91 = (8, 24) from rfl) (by decide) rfl ⟨(Nat.le_of_ble_eq_true rfl), (Nat.le_of_ble_eq_true rfl)⟩ rfl hl.1 rfl (Nat.le_of_ble_eq_true rfl) dL_law_680 ⟨Nat.le_trans hc (Nat.le_of_ble_eq_true rfl), Nat.le_trans hs (Nat.le_of_ble_eq_true rfl)⟩) (fun r9 σ9 H locs hw hP hS => ?_)
  rw [hw.2] at hP
  rw [hw.1]
  replace hI := I1
  refine lv_pop hx hb dL_law_683 rfl ?_
  refine lv_goto (tgt := 1480) hx hb dL_law_684 (by decide) ?_
  exact kk _ _ _ _ _ _ _ hI hP hS (Nat.le_add_right _ _) (Nat.le_add_right _ _) hl
set_option maxHeartbeats 4000000 in
set_option maxRecDepth 100000 in
theorem law_c15 {p : Program} {l : Launch} {e : Env} {s : State} {m : MethodId} {below : List Frame} {meth : Method} {c : Code} {D : va_G} {cA : Nat → ClassId} {ad : Nat → Nat} {o : Int64} {σ : Mem} {b Lx i : Nat} {xs : Nat → Int32} {H : Heap} {locs : List Loc} {cells slots : Nat} {ls : Array Slot} {sa : Nat → Nat} (hfl : l.stackTraces = false) (C0 : CX p s m #[Value.ref b] c code 8 RL) (hX : va_X b Lx xs s s.heap) (hi : 6 * i + 6 ≤ Lx) (hL : Lx ≤ 384) (hbl : b < s.heap.size) (X : WX D cA ad (fun q => s.heap.size ≤ q) s) (hZ : XL sa s) (hP : WP D cA ad o σ H) (hI : INV σ σ) (hS : va_S (fun q => s.heap.size ≤ q) s.heap H locs) (hl : lv_has ls 8 [(0, .ref b), (1, .ref (ad 66)), (2, .ref (ad 91)), (3, .ref (ad 105)), (4, .int (nI (6 * i)))]) (hc : cells ≤ 600000) (hs : slots ≤ 7300000) (kk : ∀ (σ' : Mem) (o' : Int64) (H1 : Heap) (locs1 : List Loc) (c1 s1 : Nat) (ls' : Array Slot), INV σ' σ' → WP D cA ad o' σ' H1 → va_S (fun q => s.heap.size ≤ q) s.heap H1 locs1 → c1 ≤ cells + 1 → s1 ≤ slots + 6 → lv_has ls' 8 [(0, .ref b), (1, .ref (ad 66)), (2, .ref (ad 91)), (3, .ref (ad 105)), (4, .int (nI (6 * i)))] → W p l e room_1 s m #[Value.ref b] below meth c H1 locs1 c1 s1 (lw_Z below #[Value.ref b] s) (F0 m 1480 ls' [])) : W p l e room_1 s m #[Value.ref b] below meth c H locs cells slots (lw_Z below #[Value.ref b] s) (F0 m 687 ls []) := by
  obtain ⟨hx, hb, hml, hown, hts⟩ := id C0
  have hbA : ¬ (fun q => s.heap.size ≤ q) b := Nat.not_le.mpr hbl
  refine lv_aload_n hx hb dL_law_687 rfl (lv_at hl 1 rfl) ?_
  refine lv_aload_n hx hb dL_law_688 rfl (lv_at hl 0 rfl) ?_
  refine lv_iload hx hb dL_law_689 (lv_at hl 4 rfl) ?_
  refine lv_iconst (v := 1) hx hb dL_law_691 (by decide) ?_
  refine lv_iadd hx hb dL_law_692 ?_
  refine lv_topE (y := nI (6 * i + 1)) (nI_add (6 * i) 1) ?_
  refine va_sld (xs := xs) hx hb hX hbl hbA hS (vp_in_nI (by omega) (by omega)) dL_law_693 ?_
  refine lv_topE (y := xs (6 * i + 1)) (congrArg xs (nI_clamp (by omega))) ?_
  obtain ⟨σ1, r1, ρ1, a1, b1, I1⟩ := CALL_one (call_ever (xs (6 * i + 1))) hI
  refine r_ci X hS (r_runV (As := [.int (xs (6 * i + 1))]) (rest := []) C0 X hP L_L_85 (fun sz => c_X7_ever l D cA ad o σ (xs (6 * i + 1)) (σ1, r1) a1 sz) (by decide) (show kd 66 = (7, 8) from rfl) (by decide) rfl ⟨(Nat.le_of_ble_eq_true rfl), (Nat.le_of_ble_eq_true rfl)⟩ rfl hl.1 rfl (Nat.le_of_ble_eq_true rfl) dL_law_694 ⟨Nat.le_trans hc (Nat.le_of_ble_eq_true rfl), Nat.le_trans hs (Nat.le_of_ble_eq_true rfl)⟩) (fun r9 σ9 H locs hw hP hS => ?_)
  rw [hw.2] at hP
  rw [hw.1]
  refine lv_pop hx hb dL_law_697 rfl ?_
  refine lv_aload_n hx hb dL_law_698 rfl (lv_at hl 2 rfl) ?_
  refine lv_aload_n hx hb dL_law_699 rfl (lv_at hl 0 rfl) ?_
  refine lv_iload hx hb dL_law_700 (lv_at hl 4 rfl) ?_
  refine lv_iconst (v := 1) hx hb dL_law_702 (by decide) ?_
  refine lv_iadd hx hb dL_law_703 ?_
  refine lv_topE (y := nI (6 * i + 1)) (nI_add (6 * i) 1) ?_
  refine va_sld (xs := xs) hx hb hX hbl hbA hS (vp_in_nI (by omega) (by omega)) dL_law_704 ?_
  refine lv_topE (y := xs (6 * i + 1)) (congrArg xs (nI_clamp (by omega))) ?_
  refine r_ci X hS (r_runV (As := [.int (xs (6 * i + 1))]) (rest := []) C0 X hP L_L_88 (fun sz => c_X8_ever l D cA ad o σ1 (xs (6 * i + 1)) (ρ1, r1) b1 sz) (by decide) (show kd 91 = (8, 24) from rfl) (by decide) rfl ⟨(Nat.le_of_ble_eq_true rfl), (Nat.le_of_ble_eq_true rfl)⟩ rfl hl.1 rfl (Nat.le_of_ble_eq_true rfl) dL_law_705 ⟨Nat.le_trans hc (Nat.le_of_ble_eq_true rfl), Nat.le_trans hs (Nat.le_of_ble_eq_true rfl)⟩) (fun r9 σ9 H locs hw hP hS => ?_)
  rw [hw.2] at hP
  rw [hw.1]
  replace hI := I1
  refine lv_pop hx hb dL_law_708 rfl ?_
  refine lv_goto (tgt := 1480) hx hb dL_law_709 (by decide) ?_
  exact kk _ _ _ _ _ _ _ hI hP hS (Nat.le_add_right _ _) (Nat.le_add_right _ _) hl
set_option maxHeartbeats 4000000 in
set_option maxRecDepth 100000 in
theorem law_c16 {p : Program} {l : Launch} {e : Env} {s : State} {m : MethodId} {below : List Frame} {meth : Method} {c : Code} {D : va_G} {cA : Nat → ClassId} {ad : Nat → Nat} {o : Int64} {σ : Mem} {b Lx i : Nat} {xs : Nat → Int32} {H : Heap} {locs : List Loc} {cells slots : Nat} {ls : Array Slot} {sa : Nat → Nat} (hfl : l.stackTraces = false) (C0 : CX p s m #[Value.ref b] c code 8 RL) (hX : va_X b Lx xs s s.heap) (hi : 6 * i + 6 ≤ Lx) (hL : Lx ≤ 384) (hbl : b < s.heap.size) (X : WX D cA ad (fun q => s.heap.size ≤ q) s) (hZ : XL sa s) (hP : WP D cA ad o σ H) (hI : INV σ σ) (hS : va_S (fun q => s.heap.size ≤ q) s.heap H locs) (hl : lv_has ls 8 [(0, .ref b), (1, .ref (ad 66)), (2, .ref (ad 91)), (3, .ref (ad 105)), (4, .int (nI (6 * i)))]) (hc : cells ≤ 600000) (hs : slots ≤ 7300000) (kk : ∀ (σ' : Mem) (o' : Int64) (H1 : Heap) (locs1 : List Loc) (c1 s1 : Nat) (ls' : Array Slot), INV σ' σ' → WP D cA ad o' σ' H1 → va_S (fun q => s.heap.size ≤ q) s.heap H1 locs1 → c1 ≤ cells + 1 → s1 ≤ slots + 6 → lv_has ls' 8 [(0, .ref b), (1, .ref (ad 66)), (2, .ref (ad 91)), (3, .ref (ad 105)), (4, .int (nI (6 * i)))] → W p l e room_1 s m #[Value.ref b] below meth c H1 locs1 c1 s1 (lw_Z below #[Value.ref b] s) (F0 m 1480 ls' [])) : W p l e room_1 s m #[Value.ref b] below meth c H locs cells slots (lw_Z below #[Value.ref b] s) (F0 m 712 ls []) := by
  obtain ⟨hx, hb, hml, hown, hts⟩ := id C0
  have hbA : ¬ (fun q => s.heap.size ≤ q) b := Nat.not_le.mpr hbl
  refine lv_aload_n hx hb dL_law_712 rfl (lv_at hl 1 rfl) ?_
  refine lv_aload_n hx hb dL_law_713 rfl (lv_at hl 0 rfl) ?_
  refine lv_iload hx hb dL_law_714 (lv_at hl 4 rfl) ?_
  refine lv_iconst (v := 1) hx hb dL_law_716 (by decide) ?_
  refine lv_iadd hx hb dL_law_717 ?_
  refine lv_topE (y := nI (6 * i + 1)) (nI_add (6 * i) 1) ?_
  refine va_sld (xs := xs) hx hb hX hbl hbA hS (vp_in_nI (by omega) (by omega)) dL_law_718 ?_
  refine lv_topE (y := xs (6 * i + 1)) (congrArg xs (nI_clamp (by omega))) ?_
  obtain ⟨σ1, r1, ρ1, a1, b1, I1⟩ := CALL_one (call_best (xs (6 * i + 1))) hI
  refine r_ci X hS (r_runV (As := [.int (xs (6 * i + 1))]) (rest := []) C0 X hP L_L_89 (fun sz => c_X7_best l D cA ad o σ (xs (6 * i + 1)) (σ1, r1) a1 sz) (by decide) (show kd 66 = (7, 8) from rfl) (by decide) rfl ⟨(Nat.le_of_ble_eq_true rfl), (Nat.le_of_ble_eq_true rfl)⟩ rfl hl.1 rfl (Nat.le_of_ble_eq_true rfl) dL_law_719 ⟨Nat.le_trans hc (Nat.le_of_ble_eq_true rfl), Nat.le_trans hs (Nat.le_of_ble_eq_true rfl)⟩) (fun r9 σ9 H locs hw hP hS => ?_)
  rw [hw.2] at hP
  rw [hw.1]
  refine lv_pop hx hb dL_law_722 rfl ?_
  refine lv_aload_n hx hb dL_law_723 rfl (lv_at hl 2 rfl) ?_
  refine lv_aload_n hx hb dL_law_724 rfl (lv_at hl 0 rfl) ?_
  refine lv_iload hx hb dL_law_725 (lv_at hl 4 rfl) ?_
  refine lv_iconst (v := 1) hx hb dL_law_727 (by decide) ?_
  refine lv_iadd hx hb dL_law_728 ?_
  refine lv_topE (y := nI (6 * i + 1)) (nI_add (6 * i) 1) ?_
  refine va_sld (xs := xs) hx hb hX hbl hbA hS (vp_in_nI (by omega) (by omega)) dL_law_729 ?_
  refine lv_topE (y := xs (6 * i + 1)) (congrArg xs (nI_clamp (by omega))) ?_
  refine r_ci X hS (r_runV (As := [.int (xs (6 * i + 1))]) (rest := []) C0 X hP L_L_92 (fun sz => c_X8_best l D cA ad o σ1 (xs (6 * i + 1)) (ρ1, r1) b1 sz) (by decide) (show kd 91 = (8, 24) from rfl) (by decide) rfl ⟨(Nat.le_of_ble_eq_true rfl), (Nat.le_of_ble_eq_true rfl)⟩ rfl hl.1 rfl (Nat.le_of_ble_eq_true rfl) dL_law_730 ⟨Nat.le_trans hc (Nat.le_of_ble_eq_true rfl), Nat.le_trans hs (Nat.le_of_ble_eq_true rfl)⟩) (fun r9 σ9 H locs hw hP hS => ?_)
  rw [hw.2] at hP
  rw [hw.1]
  replace hI := I1
  refine lv_pop hx hb dL_law_733 rfl ?_
  refine lv_goto (tgt := 1480) hx hb dL_law_734 (by decide) ?_
  exact kk _ _ _ _ _ _ _ hI hP hS (Nat.le_add_right _ _) (Nat.le_add_right _ _) hl
set_option maxHeartbeats 4000000 in
set_option maxRecDepth 100000 in
theorem law_c17 {p : Program} {l : Launch} {e : Env} {s : State} {m : MethodId} {below : List Frame} {meth : Method} {c : Code} {D : va_G} {cA : Nat → ClassId} {ad : Nat → Nat} {o : Int64} {σ : Mem} {b Lx i : Nat} {xs : Nat → Int32} {H : Heap} {locs : List Loc} {cells slots : Nat} {ls : Array Slot} {sa : Nat → Nat} (hfl : l.stackTraces = false) (C0 : CX p s m #[Value.ref b] c code 8 RL) (hX : va_X b Lx xs s s.heap) (hi : 6 * i + 6 ≤ Lx) (hL : Lx ≤ 384) (hbl : b < s.heap.size) (X : WX D cA ad (fun q => s.heap.size ≤ q) s) (hZ : XL sa s) (hP : WP D cA ad o σ H) (hI : INV σ σ) (hS : va_S (fun q => s.heap.size ≤ q) s.heap H locs) (hl : lv_has ls 8 [(0, .ref b), (1, .ref (ad 66)), (2, .ref (ad 91)), (3, .ref (ad 105)), (4, .int (nI (6 * i)))]) (hc : cells ≤ 600000) (hs : slots ≤ 7300000) (kk : ∀ (σ' : Mem) (o' : Int64) (H1 : Heap) (locs1 : List Loc) (c1 s1 : Nat) (ls' : Array Slot), INV σ' σ' → WP D cA ad o' σ' H1 → va_S (fun q => s.heap.size ≤ q) s.heap H1 locs1 → c1 ≤ cells + 1 → s1 ≤ slots + 6 → lv_has ls' 8 [(0, .ref b), (1, .ref (ad 66)), (2, .ref (ad 91)), (3, .ref (ad 105)), (4, .int (nI (6 * i)))] → W p l e room_1 s m #[Value.ref b] below meth c H1 locs1 c1 s1 (lw_Z below #[Value.ref b] s) (F0 m 1480 ls' [])) : W p l e room_1 s m #[Value.ref b] below meth c H locs cells slots (lw_Z below #[Value.ref b] s) (F0 m 737 ls []) := by
  obtain ⟨hx, hb, hml, hown, hts⟩ := id C0
  have hbA : ¬ (fun q => s.heap.size ≤ q) b := Nat.not_le.mpr hbl
  refine lv_aload_n hx hb dL_law_737 rfl (lv_at hl 1 rfl) ?_
  refine lv_aload_n hx hb dL_law_738 rfl (lv_at hl 0 rfl) ?_
  refine lv_iload hx hb dL_law_739 (lv_at hl 4 rfl) ?_
  refine lv_iconst (v := 1) hx hb dL_law_741 (by decide) ?_
  refine lv_iadd hx hb dL_law_742 ?_
  refine lv_topE (y := nI (6 * i + 1)) (nI_add (6 * i) 1) ?_
  refine va_sld (xs := xs) hx hb hX hbl hbA hS (vp_in_nI (by omega) (by omega)) dL_law_743 ?_
  refine lv_topE (y := xs (6 * i + 1)) (congrArg xs (nI_clamp (by omega))) ?_
  obtain ⟨σ1, r1, ρ1, a1, b1, I1⟩ := CALL_one (call_more (xs (6 * i + 1))) hI
  refine r_ci X hS (r_runV (As := [.int (xs (6 * i + 1))]) (rest := []) C0 X hP L_L_93 (fun sz => c_X7_more l D cA ad o σ (xs (6 * i + 1)) (σ1, r1) a1 sz) (by decide) (show kd 66 = (7, 8) from rfl) (by decide) rfl ⟨(Nat.le_of_ble_eq_true rfl), (Nat.le_of_ble_eq_true rfl)⟩ rfl hl.1 rfl (Nat.le_of_ble_eq_true rfl) dL_law_744 ⟨Nat.le_trans hc (Nat.le_of_ble_eq_true rfl), Nat.le_trans hs (Nat.le_of_ble_eq_true rfl)⟩) (fun r9 σ9 H locs hw hP hS => ?_)
  rw [hw.2] at hP
  rw [hw.1]
  refine lv_pop hx hb dL_law_747 rfl ?_
  refine lv_aload_n hx hb dL_law_748 rfl (lv_at hl 2 rfl) ?_
  refine lv_aload_n hx hb dL_law_749 rfl (lv_at hl 0 rfl) ?_
  refine lv_iload hx hb dL_law_750 (lv_at hl 4 rfl) ?_
  refine lv_iconst (v := 1) hx hb dL_law_752 (by decide) ?_
  refine lv_iadd hx hb dL_law_753 ?_
  refine lv_topE (y := nI (6 * i + 1)) (nI_add (6 * i) 1) ?_
  refine va_sld (xs := xs) hx hb hX hbl hbA hS (vp_in_nI (by omega) (by omega)) dL_law_754 ?_
  refine lv_topE (y := xs (6 * i + 1)) (congrArg xs (nI_clamp (by omega))) ?_
  refine r_ci X hS (r_runV (As := [.int (xs (6 * i + 1))]) (rest := []) C0 X hP L_L_96 (fun sz => c_X8_more l D cA ad o σ1 (xs (6 * i + 1)) (ρ1, r1) b1 sz) (by decide) (show kd 91 = (8, 24) from rfl) (by decide) rfl ⟨(Nat.le_of_ble_eq_true rfl), (Nat.le_of_ble_eq_true rfl)⟩ rfl hl.1 rfl (Nat.le_of_ble_eq_true rfl) dL_law_755 ⟨Nat.le_trans hc (Nat.le_of_ble_eq_true rfl), Nat.le_trans hs (Nat.le_of_ble_eq_true rfl)⟩) (fun r9 σ9 H locs hw hP hS => ?_)
  rw [hw.2] at hP
  rw [hw.1]
  replace hI := I1
  refine lv_pop hx hb dL_law_758 rfl ?_
  refine lv_goto (tgt := 1480) hx hb dL_law_759 (by decide) ?_
  exact kk _ _ _ _ _ _ _ hI hP hS (Nat.le_add_right _ _) (Nat.le_add_right _ _) hl
set_option maxHeartbeats 4000000 in
set_option maxRecDepth 100000 in
theorem law_c18 {p : Program} {l : Launch} {e : Env} {s : State} {m : MethodId} {below : List Frame} {meth : Method} {c : Code} {D : va_G} {cA : Nat → ClassId} {ad : Nat → Nat} {o : Int64} {σ : Mem} {b Lx i : Nat} {xs : Nat → Int32} {H : Heap} {locs : List Loc} {cells slots : Nat} {ls : Array Slot} {sa : Nat → Nat} (hfl : l.stackTraces = false) (C0 : CX p s m #[Value.ref b] c code 8 RL) (hX : va_X b Lx xs s s.heap) (hi : 6 * i + 6 ≤ Lx) (hL : Lx ≤ 384) (hbl : b < s.heap.size) (X : WX D cA ad (fun q => s.heap.size ≤ q) s) (hZ : XL sa s) (hP : WP D cA ad o σ H) (hI : INV σ σ) (hS : va_S (fun q => s.heap.size ≤ q) s.heap H locs) (hl : lv_has ls 8 [(0, .ref b), (1, .ref (ad 66)), (2, .ref (ad 91)), (3, .ref (ad 105)), (4, .int (nI (6 * i)))]) (hc : cells ≤ 600000) (hs : slots ≤ 7300000) (kk : ∀ (σ' : Mem) (o' : Int64) (H1 : Heap) (locs1 : List Loc) (c1 s1 : Nat) (ls' : Array Slot), INV σ' σ' → WP D cA ad o' σ' H1 → va_S (fun q => s.heap.size ≤ q) s.heap H1 locs1 → c1 ≤ cells + 1 → s1 ≤ slots + 6 → lv_has ls' 8 [(0, .ref b), (1, .ref (ad 66)), (2, .ref (ad 91)), (3, .ref (ad 105)), (4, .int (nI (6 * i)))] → W p l e room_1 s m #[Value.ref b] below meth c H1 locs1 c1 s1 (lw_Z below #[Value.ref b] s) (F0 m 1480 ls' [])) : W p l e room_1 s m #[Value.ref b] below meth c H locs cells slots (lw_Z below #[Value.ref b] s) (F0 m 762 ls []) := by
  obtain ⟨hx, hb, hml, hown, hts⟩ := id C0
  have hbA : ¬ (fun q => s.heap.size ≤ q) b := Nat.not_le.mpr hbl
  refine lv_aload_n hx hb dL_law_762 rfl (lv_at hl 1 rfl) ?_
  refine lv_aload_n hx hb dL_law_763 rfl (lv_at hl 0 rfl) ?_
  refine lv_iload hx hb dL_law_764 (lv_at hl 4 rfl) ?_
  refine lv_iconst (v := 1) hx hb dL_law_766 (by decide) ?_
  refine lv_iadd hx hb dL_law_767 ?_
  refine lv_topE (y := nI (6 * i + 1)) (nI_add (6 * i) 1) ?_
  refine va_sld (xs := xs) hx hb hX hbl hbA hS (vp_in_nI (by omega) (by omega)) dL_law_768 ?_
  refine lv_topE (y := xs (6 * i + 1)) (congrArg xs (nI_clamp (by omega))) ?_
  refine lv_aload_n hx hb dL_law_769 rfl (lv_at hl 0 rfl) ?_
  refine lv_iload hx hb dL_law_770 (lv_at hl 4 rfl) ?_
  refine lv_iconst (v := 2) hx hb dL_law_772 (by decide) ?_
  refine lv_iadd hx hb dL_law_773 ?_
  refine lv_topE (y := nI (6 * i + 2)) (nI_add (6 * i) 2) ?_
  refine va_sld (xs := xs) hx hb hX hbl hbA hS (vp_in_nI (by omega) (by omega)) dL_law_774 ?_
  refine lv_topE (y := xs (6 * i + 2)) (congrArg xs (nI_clamp (by omega))) ?_
  obtain ⟨σ1, r1, ρ1, a1, b1, I1⟩ := CALL_one (call_fit (xs (6 * i + 1)) (xs (6 * i + 2))) hI
  refine r_ci X hS (r_runV (As := [.int (xs (6 * i + 1)), .int (xs (6 * i + 2))]) (rest := []) C0 X hP L_L_97 (fun sz => c_X7_fit l D cA ad o σ (xs (6 * i + 1)) (xs (6 * i + 2)) (σ1, r1) a1 sz) (by decide) (show kd 66 = (7, 8) from rfl) (by decide) rfl ⟨(Nat.le_of_ble_eq_true rfl), (Nat.le_of_ble_eq_true rfl)⟩ rfl hl.1 rfl (Nat.le_of_ble_eq_true rfl) dL_law_775 ⟨Nat.le_trans hc (Nat.le_of_ble_eq_true rfl), Nat.le_trans hs (Nat.le_of_ble_eq_true rfl)⟩) (fun r9 σ9 H locs hw hP hS => ?_)
  rw [hw.2] at hP
  rw [hw.1]
  refine lv_pop hx hb dL_law_778 rfl ?_
  refine lv_aload_n hx hb dL_law_779 rfl (lv_at hl 2 rfl) ?_
  refine lv_aload_n hx hb dL_law_780 rfl (lv_at hl 0 rfl) ?_
  refine lv_iload hx hb dL_law_781 (lv_at hl 4 rfl) ?_
  refine lv_iconst (v := 1) hx hb dL_law_783 (by decide) ?_
  refine lv_iadd hx hb dL_law_784 ?_
  refine lv_topE (y := nI (6 * i + 1)) (nI_add (6 * i) 1) ?_
  refine va_sld (xs := xs) hx hb hX hbl hbA hS (vp_in_nI (by omega) (by omega)) dL_law_785 ?_
  refine lv_topE (y := xs (6 * i + 1)) (congrArg xs (nI_clamp (by omega))) ?_
  refine lv_aload_n hx hb dL_law_786 rfl (lv_at hl 0 rfl) ?_
  refine lv_iload hx hb dL_law_787 (lv_at hl 4 rfl) ?_
  refine lv_iconst (v := 2) hx hb dL_law_789 (by decide) ?_
  refine lv_iadd hx hb dL_law_790 ?_
  refine lv_topE (y := nI (6 * i + 2)) (nI_add (6 * i) 2) ?_
  refine va_sld (xs := xs) hx hb hX hbl hbA hS (vp_in_nI (by omega) (by omega)) dL_law_791 ?_
  refine lv_topE (y := xs (6 * i + 2)) (congrArg xs (nI_clamp (by omega))) ?_
  refine r_ci X hS (r_runV (As := [.int (xs (6 * i + 1)), .int (xs (6 * i + 2))]) (rest := []) C0 X hP L_L_100 (fun sz => c_X8_fit l D cA ad o σ1 (xs (6 * i + 1)) (xs (6 * i + 2)) (ρ1, r1) b1 sz) (by decide) (show kd 91 = (8, 24) from rfl) (by decide) rfl ⟨(Nat.le_of_ble_eq_true rfl), (Nat.le_of_ble_eq_true rfl)⟩ rfl hl.1 rfl (Nat.le_of_ble_eq_true rfl) dL_law_792 ⟨Nat.le_trans hc (Nat.le_of_ble_eq_true rfl), Nat.le_trans hs (Nat.le_of_ble_eq_true rfl)⟩) (fun r9 σ9 H locs hw hP hS => ?_)
  rw [hw.2] at hP
  rw [hw.1]
  replace hI := I1
  refine lv_pop hx hb dL_law_795 rfl ?_
  refine lv_goto (tgt := 1480) hx hb dL_law_796 (by decide) ?_
  exact kk _ _ _ _ _ _ _ hI hP hS (Nat.le_add_right _ _) (Nat.le_add_right _ _) hl
set_option maxHeartbeats 4000000 in
set_option maxRecDepth 100000 in
theorem law_c19 {p : Program} {l : Launch} {e : Env} {s : State} {m : MethodId} {below : List Frame} {meth : Method} {c : Code} {D : va_G} {cA : Nat → ClassId} {ad : Nat → Nat} {o : Int64} {σ : Mem} {b Lx i : Nat} {xs : Nat → Int32} {H : Heap} {locs : List Loc} {cells slots : Nat} {ls : Array Slot} {sa : Nat → Nat} (hfl : l.stackTraces = false) (C0 : CX p s m #[Value.ref b] c code 8 RL) (hX : va_X b Lx xs s s.heap) (hi : 6 * i + 6 ≤ Lx) (hL : Lx ≤ 384) (hbl : b < s.heap.size) (X : WX D cA ad (fun q => s.heap.size ≤ q) s) (hZ : XL sa s) (hP : WP D cA ad o σ H) (hI : INV σ σ) (hS : va_S (fun q => s.heap.size ≤ q) s.heap H locs) (hl : lv_has ls 8 [(0, .ref b), (1, .ref (ad 66)), (2, .ref (ad 91)), (3, .ref (ad 105)), (4, .int (nI (6 * i)))]) (hc : cells ≤ 600000) (hs : slots ≤ 7300000) (kk : ∀ (σ' : Mem) (o' : Int64) (H1 : Heap) (locs1 : List Loc) (c1 s1 : Nat) (ls' : Array Slot), INV σ' σ' → WP D cA ad o' σ' H1 → va_S (fun q => s.heap.size ≤ q) s.heap H1 locs1 → c1 ≤ cells + 1 → s1 ≤ slots + 6 → lv_has ls' 8 [(0, .ref b), (1, .ref (ad 66)), (2, .ref (ad 91)), (3, .ref (ad 105)), (4, .int (nI (6 * i)))] → W p l e room_1 s m #[Value.ref b] below meth c H1 locs1 c1 s1 (lw_Z below #[Value.ref b] s) (F0 m 1480 ls' [])) : W p l e room_1 s m #[Value.ref b] below meth c H locs cells slots (lw_Z below #[Value.ref b] s) (F0 m 799 ls []) := by
  obtain ⟨hx, hb, hml, hown, hts⟩ := id C0
  have hbA : ¬ (fun q => s.heap.size ≤ q) b := Nat.not_le.mpr hbl
  refine lv_aload_n hx hb dL_law_799 rfl (lv_at hl 1 rfl) ?_
  obtain ⟨σ1, r1, ρ1, a1, b1, I1⟩ := CALL_one call_shortest hI
  refine r_ci X hS (r_runV (As := []) (rest := []) C0 X hP L_L_101 (fun sz => c_X7_shortest l D cA ad o σ  (σ1, r1) a1 sz) (by decide) (show kd 66 = (7, 8) from rfl) (by decide) rfl ⟨(Nat.le_of_ble_eq_true rfl), (Nat.le_of_ble_eq_true rfl)⟩ rfl hl.1 rfl (Nat.le_of_ble_eq_true rfl) dL_law_800 ⟨Nat.le_trans hc (Nat.le_of_ble_eq_true rfl), Nat.le_trans hs (Nat.le_of_ble_eq_true rfl)⟩) (fun r9 σ9 H locs hw hP hS => ?_)
  rw [hw.2] at hP
  rw [hw.1]
  refine lv_pop hx hb dL_law_803 rfl ?_
  refine lv_aload_n hx hb dL_law_804 rfl (lv_at hl 2 rfl) ?_
  refine r_ci X hS (r_runV (As := []) (rest := []) C0 X hP L_L_104 (fun sz => c_X8_shortest l D cA ad o σ1  (ρ1, r1) b1 sz) (by decide) (show kd 91 = (8, 24) from rfl) (by decide) rfl ⟨(Nat.le_of_ble_eq_true rfl), (Nat.le_of_ble_eq_true rfl)⟩ rfl hl.1 rfl (Nat.le_of_ble_eq_true rfl) dL_law_805 ⟨Nat.le_trans hc (Nat.le_of_ble_eq_true rfl), Nat.le_trans hs (Nat.le_of_ble_eq_true rfl)⟩) (fun r9 σ9 H locs hw hP hS => ?_)
  rw [hw.2] at hP
  rw [hw.1]
  replace hI := I1
  refine lv_pop hx hb dL_law_808 rfl ?_
  refine lv_goto (tgt := 1480) hx hb dL_law_809 (by decide) ?_
  exact kk _ _ _ _ _ _ _ hI hP hS (Nat.le_add_right _ _) (Nat.le_add_right _ _) hl
set_option maxHeartbeats 4000000 in
set_option maxRecDepth 100000 in
theorem law_c20 {p : Program} {l : Launch} {e : Env} {s : State} {m : MethodId} {below : List Frame} {meth : Method} {c : Code} {D : va_G} {cA : Nat → ClassId} {ad : Nat → Nat} {o : Int64} {σ : Mem} {b Lx i : Nat} {xs : Nat → Int32} {H : Heap} {locs : List Loc} {cells slots : Nat} {ls : Array Slot} {sa : Nat → Nat} (hfl : l.stackTraces = false) (C0 : CX p s m #[Value.ref b] c code 8 RL) (hX : va_X b Lx xs s s.heap) (hi : 6 * i + 6 ≤ Lx) (hL : Lx ≤ 384) (hbl : b < s.heap.size) (X : WX D cA ad (fun q => s.heap.size ≤ q) s) (hZ : XL sa s) (hP : WP D cA ad o σ H) (hI : INV σ σ) (hS : va_S (fun q => s.heap.size ≤ q) s.heap H locs) (hl : lv_has ls 8 [(0, .ref b), (1, .ref (ad 66)), (2, .ref (ad 91)), (3, .ref (ad 105)), (4, .int (nI (6 * i)))]) (hc : cells ≤ 600000) (hs : slots ≤ 7300000) (kk : ∀ (σ' : Mem) (o' : Int64) (H1 : Heap) (locs1 : List Loc) (c1 s1 : Nat) (ls' : Array Slot), INV σ' σ' → WP D cA ad o' σ' H1 → va_S (fun q => s.heap.size ≤ q) s.heap H1 locs1 → c1 ≤ cells + 1 → s1 ≤ slots + 6 → lv_has ls' 8 [(0, .ref b), (1, .ref (ad 66)), (2, .ref (ad 91)), (3, .ref (ad 105)), (4, .int (nI (6 * i)))] → W p l e room_1 s m #[Value.ref b] below meth c H1 locs1 c1 s1 (lw_Z below #[Value.ref b] s) (F0 m 1480 ls' [])) : W p l e room_1 s m #[Value.ref b] below meth c H locs cells slots (lw_Z below #[Value.ref b] s) (F0 m 812 ls []) := by
  obtain ⟨hx, hb, hml, hown, hts⟩ := id C0
  have hbA : ¬ (fun q => s.heap.size ≤ q) b := Nat.not_le.mpr hbl
  refine lv_aload_n hx hb dL_law_812 rfl (lv_at hl 1 rfl) ?_
  refine lv_aload_n hx hb dL_law_813 rfl (lv_at hl 0 rfl) ?_
  refine lv_iload hx hb dL_law_814 (lv_at hl 4 rfl) ?_
  refine lv_iconst (v := 1) hx hb dL_law_816 (by decide) ?_
  refine lv_iadd hx hb dL_law_817 ?_
  refine lv_topE (y := nI (6 * i + 1)) (nI_add (6 * i) 1) ?_
  refine va_sld (xs := xs) hx hb hX hbl hbA hS (vp_in_nI (by omega) (by omega)) dL_law_818 ?_
  refine lv_topE (y := xs (6 * i + 1)) (congrArg xs (nI_clamp (by omega))) ?_
  obtain ⟨σ1, r1, ρ1, a1, b1, I1⟩ := CALL_one (call_hours (xs (6 * i + 1))) hI
  refine r_ci X hS (r_runV (As := [.int (xs (6 * i + 1))]) (rest := []) C0 X hP L_L_105 (fun sz => c_X7_hours l D cA ad o σ (xs (6 * i + 1)) (σ1, r1) a1 sz) (by decide) (show kd 66 = (7, 8) from rfl) (by decide) rfl ⟨(Nat.le_of_ble_eq_true rfl), (Nat.le_of_ble_eq_true rfl)⟩ rfl hl.1 rfl (Nat.le_of_ble_eq_true rfl) dL_law_819 ⟨Nat.le_trans hc (Nat.le_of_ble_eq_true rfl), Nat.le_trans hs (Nat.le_of_ble_eq_true rfl)⟩) (fun r9 σ9 H locs hw hP hS => ?_)
  rw [hw.2] at hP
  rw [hw.1]
  refine lv_pop hx hb dL_law_822 rfl ?_
  refine lv_aload_n hx hb dL_law_823 rfl (lv_at hl 2 rfl) ?_
  refine lv_aload_n hx hb dL_law_824 rfl (lv_at hl 0 rfl) ?_
  refine lv_iload hx hb dL_law_825 (lv_at hl 4 rfl) ?_
  refine lv_iconst (v := 1) hx hb dL_law_827 (by decide) ?_
  refine lv_iadd hx hb dL_law_828 ?_
  refine lv_topE (y := nI (6 * i + 1)) (nI_add (6 * i) 1) ?_
  refine va_sld (xs := xs) hx hb hX hbl hbA hS (vp_in_nI (by omega) (by omega)) dL_law_829 ?_
  refine lv_topE (y := xs (6 * i + 1)) (congrArg xs (nI_clamp (by omega))) ?_
  refine r_ci X hS (r_runV (As := [.int (xs (6 * i + 1))]) (rest := []) C0 X hP L_L_108 (fun sz => c_X8_hours l D cA ad o σ1 (xs (6 * i + 1)) (ρ1, r1) b1 sz) (by decide) (show kd 91 = (8, 24) from rfl) (by decide) rfl ⟨(Nat.le_of_ble_eq_true rfl), (Nat.le_of_ble_eq_true rfl)⟩ rfl hl.1 rfl (Nat.le_of_ble_eq_true rfl) dL_law_830 ⟨Nat.le_trans hc (Nat.le_of_ble_eq_true rfl), Nat.le_trans hs (Nat.le_of_ble_eq_true rfl)⟩) (fun r9 σ9 H locs hw hP hS => ?_)
  rw [hw.2] at hP
  rw [hw.1]
  replace hI := I1
  refine lv_pop hx hb dL_law_833 rfl ?_
  refine lv_goto (tgt := 1480) hx hb dL_law_834 (by decide) ?_
  exact kk _ _ _ _ _ _ _ hI hP hS (Nat.le_add_right _ _) (Nat.le_add_right _ _) hl
set_option maxHeartbeats 4000000 in
set_option maxRecDepth 100000 in
theorem law_c21 {p : Program} {l : Launch} {e : Env} {s : State} {m : MethodId} {below : List Frame} {meth : Method} {c : Code} {D : va_G} {cA : Nat → ClassId} {ad : Nat → Nat} {o : Int64} {σ : Mem} {b Lx i : Nat} {xs : Nat → Int32} {H : Heap} {locs : List Loc} {cells slots : Nat} {ls : Array Slot} {sa : Nat → Nat} (hfl : l.stackTraces = false) (C0 : CX p s m #[Value.ref b] c code 8 RL) (hX : va_X b Lx xs s s.heap) (hi : 6 * i + 6 ≤ Lx) (hL : Lx ≤ 384) (hbl : b < s.heap.size) (X : WX D cA ad (fun q => s.heap.size ≤ q) s) (hZ : XL sa s) (hP : WP D cA ad o σ H) (hI : INV σ σ) (hS : va_S (fun q => s.heap.size ≤ q) s.heap H locs) (hl : lv_has ls 8 [(0, .ref b), (1, .ref (ad 66)), (2, .ref (ad 91)), (3, .ref (ad 105)), (4, .int (nI (6 * i)))]) (hc : cells ≤ 600000) (hs : slots ≤ 7300000) (kk : ∀ (σ' : Mem) (o' : Int64) (H1 : Heap) (locs1 : List Loc) (c1 s1 : Nat) (ls' : Array Slot), INV σ' σ' → WP D cA ad o' σ' H1 → va_S (fun q => s.heap.size ≤ q) s.heap H1 locs1 → c1 ≤ cells + 1 → s1 ≤ slots + 6 → lv_has ls' 8 [(0, .ref b), (1, .ref (ad 66)), (2, .ref (ad 91)), (3, .ref (ad 105)), (4, .int (nI (6 * i)))] → W p l e room_1 s m #[Value.ref b] below meth c H1 locs1 c1 s1 (lw_Z below #[Value.ref b] s) (F0 m 1480 ls' [])) : W p l e room_1 s m #[Value.ref b] below meth c H locs cells slots (lw_Z below #[Value.ref b] s) (F0 m 837 ls []) := by
  obtain ⟨hx, hb, hml, hown, hts⟩ := id C0
  have hbA : ¬ (fun q => s.heap.size ≤ q) b := Nat.not_le.mpr hbl
  refine lv_aload_n hx hb dL_law_837 rfl (lv_at hl 1 rfl) ?_
  refine lv_aload_n hx hb dL_law_838 rfl (lv_at hl 0 rfl) ?_
  refine lv_iload hx hb dL_law_839 (lv_at hl 4 rfl) ?_
  refine lv_iconst (v := 1) hx hb dL_law_841 (by decide) ?_
  refine lv_iadd hx hb dL_law_842 ?_
  refine lv_topE (y := nI (6 * i + 1)) (nI_add (6 * i) 1) ?_
  refine va_sld (xs := xs) hx hb hX hbl hbA hS (vp_in_nI (by omega) (by omega)) dL_law_843 ?_
  refine lv_topE (y := xs (6 * i + 1)) (congrArg xs (nI_clamp (by omega))) ?_
  obtain ⟨σ1, r1, ρ1, a1, b1, I1⟩ := CALL_one (call_stubborn (xs (6 * i + 1))) hI
  refine r_ci X hS (r_runV (As := [.int (xs (6 * i + 1))]) (rest := []) C0 X hP L_L_109 (fun sz => c_X7_stubborn l D cA ad o σ (xs (6 * i + 1)) (σ1, r1) a1 sz) (by decide) (show kd 66 = (7, 8) from rfl) (by decide) rfl ⟨(Nat.le_of_ble_eq_true rfl), (Nat.le_of_ble_eq_true rfl)⟩ rfl hl.1 rfl (Nat.le_of_ble_eq_true rfl) dL_law_844 ⟨Nat.le_trans hc (Nat.le_of_ble_eq_true rfl), Nat.le_trans hs (Nat.le_of_ble_eq_true rfl)⟩) (fun r9 σ9 H locs hw hP hS => ?_)
  rw [hw.2] at hP
  rw [hw.1]
  refine lv_pop hx hb dL_law_847 rfl ?_
  refine lv_aload_n hx hb dL_law_848 rfl (lv_at hl 2 rfl) ?_
  refine lv_aload_n hx hb dL_law_849 rfl (lv_at hl 0 rfl) ?_
  refine lv_iload hx hb dL_law_850 (lv_at hl 4 rfl) ?_
  refine lv_iconst (v := 1) hx hb dL_law_852 (by decide) ?_
  refine lv_iadd hx hb dL_law_853 ?_
  refine lv_topE (y := nI (6 * i + 1)) (nI_add (6 * i) 1) ?_
  refine va_sld (xs := xs) hx hb hX hbl hbA hS (vp_in_nI (by omega) (by omega)) dL_law_854 ?_
  refine lv_topE (y := xs (6 * i + 1)) (congrArg xs (nI_clamp (by omega))) ?_
  refine r_ci X hS (r_runV (As := [.int (xs (6 * i + 1))]) (rest := []) C0 X hP L_L_112 (fun sz => c_X8_stubborn l D cA ad o σ1 (xs (6 * i + 1)) (ρ1, r1) b1 sz) (by decide) (show kd 91 = (8, 24) from rfl) (by decide) rfl ⟨(Nat.le_of_ble_eq_true rfl), (Nat.le_of_ble_eq_true rfl)⟩ rfl hl.1 rfl (Nat.le_of_ble_eq_true rfl) dL_law_855 ⟨Nat.le_trans hc (Nat.le_of_ble_eq_true rfl), Nat.le_trans hs (Nat.le_of_ble_eq_true rfl)⟩) (fun r9 σ9 H locs hw hP hS => ?_)
  rw [hw.2] at hP
  rw [hw.1]
  replace hI := I1
  refine lv_pop hx hb dL_law_858 rfl ?_
  refine lv_goto (tgt := 1480) hx hb dL_law_859 (by decide) ?_
  exact kk _ _ _ _ _ _ _ hI hP hS (Nat.le_add_right _ _) (Nat.le_add_right _ _) hl
set_option maxHeartbeats 4000000 in
set_option maxRecDepth 100000 in
theorem law_c22 {p : Program} {l : Launch} {e : Env} {s : State} {m : MethodId} {below : List Frame} {meth : Method} {c : Code} {D : va_G} {cA : Nat → ClassId} {ad : Nat → Nat} {o : Int64} {σ : Mem} {b Lx i : Nat} {xs : Nat → Int32} {H : Heap} {locs : List Loc} {cells slots : Nat} {ls : Array Slot} {sa : Nat → Nat} (hfl : l.stackTraces = false) (C0 : CX p s m #[Value.ref b] c code 8 RL) (hX : va_X b Lx xs s s.heap) (hi : 6 * i + 6 ≤ Lx) (hL : Lx ≤ 384) (hbl : b < s.heap.size) (X : WX D cA ad (fun q => s.heap.size ≤ q) s) (hZ : XL sa s) (hP : WP D cA ad o σ H) (hI : INV σ σ) (hS : va_S (fun q => s.heap.size ≤ q) s.heap H locs) (hl : lv_has ls 8 [(0, .ref b), (1, .ref (ad 66)), (2, .ref (ad 91)), (3, .ref (ad 105)), (4, .int (nI (6 * i)))]) (hc : cells ≤ 600000) (hs : slots ≤ 7300000) (kk : ∀ (σ' : Mem) (o' : Int64) (H1 : Heap) (locs1 : List Loc) (c1 s1 : Nat) (ls' : Array Slot), INV σ' σ' → WP D cA ad o' σ' H1 → va_S (fun q => s.heap.size ≤ q) s.heap H1 locs1 → c1 ≤ cells + 1 → s1 ≤ slots + 6 → lv_has ls' 8 [(0, .ref b), (1, .ref (ad 66)), (2, .ref (ad 91)), (3, .ref (ad 105)), (4, .int (nI (6 * i)))] → W p l e room_1 s m #[Value.ref b] below meth c H1 locs1 c1 s1 (lw_Z below #[Value.ref b] s) (F0 m 1480 ls' [])) : W p l e room_1 s m #[Value.ref b] below meth c H locs cells slots (lw_Z below #[Value.ref b] s) (F0 m 862 ls []) := by
  obtain ⟨hx, hb, hml, hown, hts⟩ := id C0
  have hbA : ¬ (fun q => s.heap.size ≤ q) b := Nat.not_le.mpr hbl
  refine lv_aload_n hx hb dL_law_862 rfl (lv_at hl 1 rfl) ?_
  refine lv_aload_n hx hb dL_law_863 rfl (lv_at hl 0 rfl) ?_
  refine lv_iload hx hb dL_law_864 (lv_at hl 4 rfl) ?_
  refine lv_iconst (v := 1) hx hb dL_law_866 (by decide) ?_
  refine lv_iadd hx hb dL_law_867 ?_
  refine lv_topE (y := nI (6 * i + 1)) (nI_add (6 * i) 1) ?_
  refine va_sld (xs := xs) hx hb hX hbl hbA hS (vp_in_nI (by omega) (by omega)) dL_law_868 ?_
  refine lv_topE (y := xs (6 * i + 1)) (congrArg xs (nI_clamp (by omega))) ?_
  obtain ⟨σ1, r1, ρ1, a1, b1, I1⟩ := CALL_one (call_heard (xs (6 * i + 1))) hI
  refine r_ci X hS (r_runV (As := [.int (xs (6 * i + 1))]) (rest := []) C0 X hP L_L_113 (fun sz => c_X7_heard l D cA ad o σ (xs (6 * i + 1)) (σ1, r1) a1 sz) (by decide) (show kd 66 = (7, 8) from rfl) (by decide) rfl ⟨(Nat.le_of_ble_eq_true rfl), (Nat.le_of_ble_eq_true rfl)⟩ rfl hl.1 rfl (Nat.le_of_ble_eq_true rfl) dL_law_869 ⟨Nat.le_trans hc (Nat.le_of_ble_eq_true rfl), Nat.le_trans hs (Nat.le_of_ble_eq_true rfl)⟩) (fun r9 σ9 H locs hw hP hS => ?_)
  rw [hw.2] at hP
  rw [hw.1]
  refine lv_pop hx hb dL_law_872 rfl ?_
  refine lv_aload_n hx hb dL_law_873 rfl (lv_at hl 2 rfl) ?_
  refine lv_aload_n hx hb dL_law_874 rfl (lv_at hl 0 rfl) ?_
  refine lv_iload hx hb dL_law_875 (lv_at hl 4 rfl) ?_
  refine lv_iconst (v := 1) hx hb dL_law_877 (by decide) ?_
  refine lv_iadd hx hb dL_law_878 ?_
  refine lv_topE (y := nI (6 * i + 1)) (nI_add (6 * i) 1) ?_
  refine va_sld (xs := xs) hx hb hX hbl hbA hS (vp_in_nI (by omega) (by omega)) dL_law_879 ?_
  refine lv_topE (y := xs (6 * i + 1)) (congrArg xs (nI_clamp (by omega))) ?_
  refine r_ci X hS (r_runV (As := [.int (xs (6 * i + 1))]) (rest := []) C0 X hP L_L_116 (fun sz => c_X8_heard l D cA ad o σ1 (xs (6 * i + 1)) (ρ1, r1) b1 sz) (by decide) (show kd 91 = (8, 24) from rfl) (by decide) rfl ⟨(Nat.le_of_ble_eq_true rfl), (Nat.le_of_ble_eq_true rfl)⟩ rfl hl.1 rfl (Nat.le_of_ble_eq_true rfl) dL_law_880 ⟨Nat.le_trans hc (Nat.le_of_ble_eq_true rfl), Nat.le_trans hs (Nat.le_of_ble_eq_true rfl)⟩) (fun r9 σ9 H locs hw hP hS => ?_)
  rw [hw.2] at hP
  rw [hw.1]
  replace hI := I1
  refine lv_pop hx hb dL_law_883 rfl ?_
  refine lv_goto (tgt := 1480) hx hb dL_law_884 (by decide) ?_
  exact kk _ _ _ _ _ _ _ hI hP hS (Nat.le_add_right _ _) (Nat.le_add_right _ _) hl
set_option maxHeartbeats 4000000 in
set_option maxRecDepth 100000 in
theorem law_c23 {p : Program} {l : Launch} {e : Env} {s : State} {m : MethodId} {below : List Frame} {meth : Method} {c : Code} {D : va_G} {cA : Nat → ClassId} {ad : Nat → Nat} {o : Int64} {σ : Mem} {b Lx i : Nat} {xs : Nat → Int32} {H : Heap} {locs : List Loc} {cells slots : Nat} {ls : Array Slot} {sa : Nat → Nat} (hfl : l.stackTraces = false) (C0 : CX p s m #[Value.ref b] c code 8 RL) (hX : va_X b Lx xs s s.heap) (hi : 6 * i + 6 ≤ Lx) (hL : Lx ≤ 384) (hbl : b < s.heap.size) (X : WX D cA ad (fun q => s.heap.size ≤ q) s) (hZ : XL sa s) (hP : WP D cA ad o σ H) (hI : INV σ σ) (hS : va_S (fun q => s.heap.size ≤ q) s.heap H locs) (hl : lv_has ls 8 [(0, .ref b), (1, .ref (ad 66)), (2, .ref (ad 91)), (3, .ref (ad 105)), (4, .int (nI (6 * i)))]) (hc : cells ≤ 600000) (hs : slots ≤ 7300000) (kk : ∀ (σ' : Mem) (o' : Int64) (H1 : Heap) (locs1 : List Loc) (c1 s1 : Nat) (ls' : Array Slot), INV σ' σ' → WP D cA ad o' σ' H1 → va_S (fun q => s.heap.size ≤ q) s.heap H1 locs1 → c1 ≤ cells + 1 → s1 ≤ slots + 6 → lv_has ls' 8 [(0, .ref b), (1, .ref (ad 66)), (2, .ref (ad 91)), (3, .ref (ad 105)), (4, .int (nI (6 * i)))] → W p l e room_1 s m #[Value.ref b] below meth c H1 locs1 c1 s1 (lw_Z below #[Value.ref b] s) (F0 m 1480 ls' [])) : W p l e room_1 s m #[Value.ref b] below meth c H locs cells slots (lw_Z below #[Value.ref b] s) (F0 m 887 ls []) := by
  obtain ⟨hx, hb, hml, hown, hts⟩ := id C0
  have hbA : ¬ (fun q => s.heap.size ≤ q) b := Nat.not_le.mpr hbl
  refine lv_aload_n hx hb dL_law_887 rfl (lv_at hl 1 rfl) ?_
  refine lv_aload_n hx hb dL_law_888 rfl (lv_at hl 0 rfl) ?_
  refine lv_iload hx hb dL_law_889 (lv_at hl 4 rfl) ?_
  refine lv_iconst (v := 1) hx hb dL_law_891 (by decide) ?_
  refine lv_iadd hx hb dL_law_892 ?_
  refine lv_topE (y := nI (6 * i + 1)) (nI_add (6 * i) 1) ?_
  refine va_sld (xs := xs) hx hb hX hbl hbA hS (vp_in_nI (by omega) (by omega)) dL_law_893 ?_
  refine lv_topE (y := xs (6 * i + 1)) (congrArg xs (nI_clamp (by omega))) ?_
  refine lv_aload_n hx hb dL_law_894 rfl (lv_at hl 0 rfl) ?_
  refine lv_iload hx hb dL_law_895 (lv_at hl 4 rfl) ?_
  refine lv_iconst (v := 2) hx hb dL_law_897 (by decide) ?_
  refine lv_iadd hx hb dL_law_898 ?_
  refine lv_topE (y := nI (6 * i + 2)) (nI_add (6 * i) 2) ?_
  refine va_sld (xs := xs) hx hb hX hbl hbA hS (vp_in_nI (by omega) (by omega)) dL_law_899 ?_
  refine lv_topE (y := xs (6 * i + 2)) (congrArg xs (nI_clamp (by omega))) ?_
  refine lv_aload_n hx hb dL_law_900 rfl (lv_at hl 0 rfl) ?_
  refine lv_iload hx hb dL_law_901 (lv_at hl 4 rfl) ?_
  refine lv_iconst (v := 3) hx hb dL_law_903 (by decide) ?_
  refine lv_iadd hx hb dL_law_904 ?_
  refine lv_topE (y := nI (6 * i + 3)) (nI_add (6 * i) 3) ?_
  refine va_sld (xs := xs) hx hb hX hbl hbA hS (vp_in_nI (by omega) (by omega)) dL_law_905 ?_
  refine lv_topE (y := xs (6 * i + 3)) (congrArg xs (nI_clamp (by omega))) ?_
  obtain ⟨σ1, r1, ρ1, a1, b1, I1⟩ := CALL_one (call_days (xs (6 * i + 1)) (xs (6 * i + 2)) (xs (6 * i + 3))) hI
  refine r_ci X hS (r_runV (As := [.int (xs (6 * i + 1)), .int (xs (6 * i + 2)), .int (xs (6 * i + 3))]) (rest := []) C0 X hP L_L_117 (fun sz => c_X7_days l D cA ad o σ (xs (6 * i + 1)) (xs (6 * i + 2)) (xs (6 * i + 3)) (σ1, r1) a1 sz) (by decide) (show kd 66 = (7, 8) from rfl) (by decide) rfl ⟨(Nat.le_of_ble_eq_true rfl), (Nat.le_of_ble_eq_true rfl)⟩ rfl hl.1 rfl (Nat.le_of_ble_eq_true rfl) dL_law_906 ⟨Nat.le_trans hc (Nat.le_of_ble_eq_true rfl), Nat.le_trans hs (Nat.le_of_ble_eq_true rfl)⟩) (fun r9 σ9 H locs hw hP hS => ?_)
  rw [hw.2] at hP
  rw [hw.1]
  refine lv_pop hx hb dL_law_909 rfl ?_
  refine lv_aload_n hx hb dL_law_910 rfl (lv_at hl 2 rfl) ?_
  refine lv_aload_n hx hb dL_law_911 rfl (lv_at hl 0 rfl) ?_
  refine lv_iload hx hb dL_law_912 (lv_at hl 4 rfl) ?_
  refine lv_iconst (v := 1) hx hb dL_law_914 (by decide) ?_
  refine lv_iadd hx hb dL_law_915 ?_
  refine lv_topE (y := nI (6 * i + 1)) (nI_add (6 * i) 1) ?_
  refine va_sld (xs := xs) hx hb hX hbl hbA hS (vp_in_nI (by omega) (by omega)) dL_law_916 ?_
  refine lv_topE (y := xs (6 * i + 1)) (congrArg xs (nI_clamp (by omega))) ?_
  refine lv_aload_n hx hb dL_law_917 rfl (lv_at hl 0 rfl) ?_
  refine lv_iload hx hb dL_law_918 (lv_at hl 4 rfl) ?_
  refine lv_iconst (v := 2) hx hb dL_law_920 (by decide) ?_
  refine lv_iadd hx hb dL_law_921 ?_
  refine lv_topE (y := nI (6 * i + 2)) (nI_add (6 * i) 2) ?_
  refine va_sld (xs := xs) hx hb hX hbl hbA hS (vp_in_nI (by omega) (by omega)) dL_law_922 ?_
  refine lv_topE (y := xs (6 * i + 2)) (congrArg xs (nI_clamp (by omega))) ?_
  refine lv_aload_n hx hb dL_law_923 rfl (lv_at hl 0 rfl) ?_
  refine lv_iload hx hb dL_law_924 (lv_at hl 4 rfl) ?_
  refine lv_iconst (v := 3) hx hb dL_law_926 (by decide) ?_
  refine lv_iadd hx hb dL_law_927 ?_
  refine lv_topE (y := nI (6 * i + 3)) (nI_add (6 * i) 3) ?_
  refine va_sld (xs := xs) hx hb hX hbl hbA hS (vp_in_nI (by omega) (by omega)) dL_law_928 ?_
  refine lv_topE (y := xs (6 * i + 3)) (congrArg xs (nI_clamp (by omega))) ?_
  refine r_ci X hS (r_runV (As := [.int (xs (6 * i + 1)), .int (xs (6 * i + 2)), .int (xs (6 * i + 3))]) (rest := []) C0 X hP L_L_120 (fun sz => c_X8_days l D cA ad o σ1 (xs (6 * i + 1)) (xs (6 * i + 2)) (xs (6 * i + 3)) (ρ1, r1) b1 sz) (by decide) (show kd 91 = (8, 24) from rfl) (by decide) rfl ⟨(Nat.le_of_ble_eq_true rfl), (Nat.le_of_ble_eq_true rfl)⟩ rfl hl.1 rfl (Nat.le_of_ble_eq_true rfl) dL_law_929 ⟨Nat.le_trans hc (Nat.le_of_ble_eq_true rfl), Nat.le_trans hs (Nat.le_of_ble_eq_true rfl)⟩) (fun r9 σ9 H locs hw hP hS => ?_)
  rw [hw.2] at hP
  rw [hw.1]
  replace hI := I1
  refine lv_pop hx hb dL_law_932 rfl ?_
  refine lv_goto (tgt := 1480) hx hb dL_law_933 (by decide) ?_
  exact kk _ _ _ _ _ _ _ hI hP hS (Nat.le_add_right _ _) (Nat.le_add_right _ _) hl
set_option maxHeartbeats 4000000 in
set_option maxRecDepth 100000 in
theorem law_c24 {p : Program} {l : Launch} {e : Env} {s : State} {m : MethodId} {below : List Frame} {meth : Method} {c : Code} {D : va_G} {cA : Nat → ClassId} {ad : Nat → Nat} {o : Int64} {σ : Mem} {b Lx i : Nat} {xs : Nat → Int32} {H : Heap} {locs : List Loc} {cells slots : Nat} {ls : Array Slot} {sa : Nat → Nat} (hfl : l.stackTraces = false) (C0 : CX p s m #[Value.ref b] c code 8 RL) (hX : va_X b Lx xs s s.heap) (hi : 6 * i + 6 ≤ Lx) (hL : Lx ≤ 384) (hbl : b < s.heap.size) (X : WX D cA ad (fun q => s.heap.size ≤ q) s) (hZ : XL sa s) (hP : WP D cA ad o σ H) (hI : INV σ σ) (hS : va_S (fun q => s.heap.size ≤ q) s.heap H locs) (hl : lv_has ls 8 [(0, .ref b), (1, .ref (ad 66)), (2, .ref (ad 91)), (3, .ref (ad 105)), (4, .int (nI (6 * i)))]) (hc : cells ≤ 600000) (hs : slots ≤ 7300000) (kk : ∀ (σ' : Mem) (o' : Int64) (H1 : Heap) (locs1 : List Loc) (c1 s1 : Nat) (ls' : Array Slot), INV σ' σ' → WP D cA ad o' σ' H1 → va_S (fun q => s.heap.size ≤ q) s.heap H1 locs1 → c1 ≤ cells + 1 → s1 ≤ slots + 6 → lv_has ls' 8 [(0, .ref b), (1, .ref (ad 66)), (2, .ref (ad 91)), (3, .ref (ad 105)), (4, .int (nI (6 * i)))] → W p l e room_1 s m #[Value.ref b] below meth c H1 locs1 c1 s1 (lw_Z below #[Value.ref b] s) (F0 m 1480 ls' [])) : W p l e room_1 s m #[Value.ref b] below meth c H locs cells slots (lw_Z below #[Value.ref b] s) (F0 m 936 ls []) := by
  obtain ⟨hx, hb, hml, hown, hts⟩ := id C0
  have hbA : ¬ (fun q => s.heap.size ≤ q) b := Nat.not_le.mpr hbl
  refine lv_aload_n hx hb dL_law_936 rfl (lv_at hl 1 rfl) ?_
  refine lv_aload_n hx hb dL_law_937 rfl (lv_at hl 0 rfl) ?_
  refine lv_iload hx hb dL_law_938 (lv_at hl 4 rfl) ?_
  refine lv_iconst (v := 1) hx hb dL_law_940 (by decide) ?_
  refine lv_iadd hx hb dL_law_941 ?_
  refine lv_topE (y := nI (6 * i + 1)) (nI_add (6 * i) 1) ?_
  refine va_sld (xs := xs) hx hb hX hbl hbA hS (vp_in_nI (by omega) (by omega)) dL_law_942 ?_
  refine lv_topE (y := xs (6 * i + 1)) (congrArg xs (nI_clamp (by omega))) ?_
  refine lv_aload_n hx hb dL_law_943 rfl (lv_at hl 0 rfl) ?_
  refine lv_iload hx hb dL_law_944 (lv_at hl 4 rfl) ?_
  refine lv_iconst (v := 2) hx hb dL_law_946 (by decide) ?_
  refine lv_iadd hx hb dL_law_947 ?_
  refine lv_topE (y := nI (6 * i + 2)) (nI_add (6 * i) 2) ?_
  refine va_sld (xs := xs) hx hb hX hbl hbA hS (vp_in_nI (by omega) (by omega)) dL_law_948 ?_
  refine lv_topE (y := xs (6 * i + 2)) (congrArg xs (nI_clamp (by omega))) ?_
  obtain ⟨σ1, r1, ρ1, a1, b1, I1⟩ := CALL_one (call_met (xs (6 * i + 1)) (xs (6 * i + 2))) hI
  refine r_ci X hS (r_runV (As := [.int (xs (6 * i + 1)), .int (xs (6 * i + 2))]) (rest := []) C0 X hP L_L_121 (fun sz => c_X7_met l D cA ad o σ (xs (6 * i + 1)) (xs (6 * i + 2)) (σ1, r1) a1 sz) (by decide) (show kd 66 = (7, 8) from rfl) (by decide) rfl ⟨(Nat.le_of_ble_eq_true rfl), (Nat.le_of_ble_eq_true rfl)⟩ rfl hl.1 rfl (Nat.le_of_ble_eq_true rfl) dL_law_949 ⟨Nat.le_trans hc (Nat.le_of_ble_eq_true rfl), Nat.le_trans hs (Nat.le_of_ble_eq_true rfl)⟩) (fun r9 σ9 H locs hw hP hS => ?_)
  rw [hw.2] at hP
  rw [hw.1]
  refine lv_pop hx hb dL_law_952 rfl ?_
  refine lv_aload_n hx hb dL_law_953 rfl (lv_at hl 2 rfl) ?_
  refine lv_aload_n hx hb dL_law_954 rfl (lv_at hl 0 rfl) ?_
  refine lv_iload hx hb dL_law_955 (lv_at hl 4 rfl) ?_
  refine lv_iconst (v := 1) hx hb dL_law_957 (by decide) ?_
  refine lv_iadd hx hb dL_law_958 ?_
  refine lv_topE (y := nI (6 * i + 1)) (nI_add (6 * i) 1) ?_
  refine va_sld (xs := xs) hx hb hX hbl hbA hS (vp_in_nI (by omega) (by omega)) dL_law_959 ?_
  refine lv_topE (y := xs (6 * i + 1)) (congrArg xs (nI_clamp (by omega))) ?_
  refine lv_aload_n hx hb dL_law_960 rfl (lv_at hl 0 rfl) ?_
  refine lv_iload hx hb dL_law_961 (lv_at hl 4 rfl) ?_
  refine lv_iconst (v := 2) hx hb dL_law_963 (by decide) ?_
  refine lv_iadd hx hb dL_law_964 ?_
  refine lv_topE (y := nI (6 * i + 2)) (nI_add (6 * i) 2) ?_
  refine va_sld (xs := xs) hx hb hX hbl hbA hS (vp_in_nI (by omega) (by omega)) dL_law_965 ?_
  refine lv_topE (y := xs (6 * i + 2)) (congrArg xs (nI_clamp (by omega))) ?_
  refine r_ci X hS (r_runV (As := [.int (xs (6 * i + 1)), .int (xs (6 * i + 2))]) (rest := []) C0 X hP L_L_124 (fun sz => c_X8_met l D cA ad o σ1 (xs (6 * i + 1)) (xs (6 * i + 2)) (ρ1, r1) b1 sz) (by decide) (show kd 91 = (8, 24) from rfl) (by decide) rfl ⟨(Nat.le_of_ble_eq_true rfl), (Nat.le_of_ble_eq_true rfl)⟩ rfl hl.1 rfl (Nat.le_of_ble_eq_true rfl) dL_law_966 ⟨Nat.le_trans hc (Nat.le_of_ble_eq_true rfl), Nat.le_trans hs (Nat.le_of_ble_eq_true rfl)⟩) (fun r9 σ9 H locs hw hP hS => ?_)
  rw [hw.2] at hP
  rw [hw.1]
  replace hI := I1
  refine lv_pop hx hb dL_law_969 rfl ?_
  refine lv_goto (tgt := 1480) hx hb dL_law_970 (by decide) ?_
  exact kk _ _ _ _ _ _ _ hI hP hS (Nat.le_add_right _ _) (Nat.le_add_right _ _) hl
set_option maxHeartbeats 4000000 in
set_option maxRecDepth 100000 in
theorem law_c25 {p : Program} {l : Launch} {e : Env} {s : State} {m : MethodId} {below : List Frame} {meth : Method} {c : Code} {D : va_G} {cA : Nat → ClassId} {ad : Nat → Nat} {o : Int64} {σ : Mem} {b Lx i : Nat} {xs : Nat → Int32} {H : Heap} {locs : List Loc} {cells slots : Nat} {ls : Array Slot} {sa : Nat → Nat} (hfl : l.stackTraces = false) (C0 : CX p s m #[Value.ref b] c code 8 RL) (hX : va_X b Lx xs s s.heap) (hi : 6 * i + 6 ≤ Lx) (hL : Lx ≤ 384) (hbl : b < s.heap.size) (X : WX D cA ad (fun q => s.heap.size ≤ q) s) (hZ : XL sa s) (hP : WP D cA ad o σ H) (hI : INV σ σ) (hS : va_S (fun q => s.heap.size ≤ q) s.heap H locs) (hl : lv_has ls 8 [(0, .ref b), (1, .ref (ad 66)), (2, .ref (ad 91)), (3, .ref (ad 105)), (4, .int (nI (6 * i)))]) (hc : cells ≤ 600000) (hs : slots ≤ 7300000) (kk : ∀ (σ' : Mem) (o' : Int64) (H1 : Heap) (locs1 : List Loc) (c1 s1 : Nat) (ls' : Array Slot), INV σ' σ' → WP D cA ad o' σ' H1 → va_S (fun q => s.heap.size ≤ q) s.heap H1 locs1 → c1 ≤ cells + 1 → s1 ≤ slots + 6 → lv_has ls' 8 [(0, .ref b), (1, .ref (ad 66)), (2, .ref (ad 91)), (3, .ref (ad 105)), (4, .int (nI (6 * i)))] → W p l e room_1 s m #[Value.ref b] below meth c H1 locs1 c1 s1 (lw_Z below #[Value.ref b] s) (F0 m 1480 ls' [])) : W p l e room_1 s m #[Value.ref b] below meth c H locs cells slots (lw_Z below #[Value.ref b] s) (F0 m 973 ls []) := by
  obtain ⟨hx, hb, hml, hown, hts⟩ := id C0
  have hbA : ¬ (fun q => s.heap.size ≤ q) b := Nat.not_le.mpr hbl
  refine lv_aload_n hx hb dL_law_973 rfl (lv_at hl 1 rfl) ?_
  refine lv_aload_n hx hb dL_law_974 rfl (lv_at hl 0 rfl) ?_
  refine lv_iload hx hb dL_law_975 (lv_at hl 4 rfl) ?_
  refine lv_iconst (v := 1) hx hb dL_law_977 (by decide) ?_
  refine lv_iadd hx hb dL_law_978 ?_
  refine lv_topE (y := nI (6 * i + 1)) (nI_add (6 * i) 1) ?_
  refine va_sld (xs := xs) hx hb hX hbl hbA hS (vp_in_nI (by omega) (by omega)) dL_law_979 ?_
  refine lv_topE (y := xs (6 * i + 1)) (congrArg xs (nI_clamp (by omega))) ?_
  refine lv_aload_n hx hb dL_law_980 rfl (lv_at hl 0 rfl) ?_
  refine lv_iload hx hb dL_law_981 (lv_at hl 4 rfl) ?_
  refine lv_iconst (v := 2) hx hb dL_law_983 (by decide) ?_
  refine lv_iadd hx hb dL_law_984 ?_
  refine lv_topE (y := nI (6 * i + 2)) (nI_add (6 * i) 2) ?_
  refine va_sld (xs := xs) hx hb hX hbl hbA hS (vp_in_nI (by omega) (by omega)) dL_law_985 ?_
  refine lv_topE (y := xs (6 * i + 2)) (congrArg xs (nI_clamp (by omega))) ?_
  refine lv_aload_n hx hb dL_law_986 rfl (lv_at hl 0 rfl) ?_
  refine lv_iload hx hb dL_law_987 (lv_at hl 4 rfl) ?_
  refine lv_iconst (v := 3) hx hb dL_law_989 (by decide) ?_
  refine lv_iadd hx hb dL_law_990 ?_
  refine lv_topE (y := nI (6 * i + 3)) (nI_add (6 * i) 3) ?_
  refine va_sld (xs := xs) hx hb hX hbl hbA hS (vp_in_nI (by omega) (by omega)) dL_law_991 ?_
  refine lv_topE (y := xs (6 * i + 3)) (congrArg xs (nI_clamp (by omega))) ?_
  refine lv_aload_n hx hb dL_law_992 rfl (lv_at hl 0 rfl) ?_
  refine lv_iload hx hb dL_law_993 (lv_at hl 4 rfl) ?_
  refine lv_iconst (v := 4) hx hb dL_law_995 (by decide) ?_
  refine lv_iadd hx hb dL_law_996 ?_
  refine lv_topE (y := nI (6 * i + 4)) (nI_add (6 * i) 4) ?_
  refine va_sld (xs := xs) hx hb hX hbl hbA hS (vp_in_nI (by omega) (by omega)) dL_law_997 ?_
  refine lv_topE (y := xs (6 * i + 4)) (congrArg xs (nI_clamp (by omega))) ?_
  refine lv_aload_n hx hb dL_law_998 rfl (lv_at hl 0 rfl) ?_
  refine lv_iload hx hb dL_law_999 (lv_at hl 4 rfl) ?_
  refine lv_iconst (v := 5) hx hb dL_law_1001 (by decide) ?_
  refine lv_iadd hx hb dL_law_1002 ?_
  refine lv_topE (y := nI (6 * i + 5)) (nI_add (6 * i) 5) ?_
  refine va_sld (xs := xs) hx hb hX hbl hbA hS (vp_in_nI (by omega) (by omega)) dL_law_1003 ?_
  refine lv_topE (y := xs (6 * i + 5)) (congrArg xs (nI_clamp (by omega))) ?_
  refine r_ci X hS (r_runV (As := [.int (xs (6 * i + 1)), .int (xs (6 * i + 2)), .int (xs (6 * i + 3)), .int (xs (6 * i + 4)), .int (xs (6 * i + 5))]) (rest := []) C0 X hP L_L_125 (fun sz => c_X7_rows l D cA ad o σ (xs (6 * i + 1)) (xs (6 * i + 2)) (xs (6 * i + 3)) (xs (6 * i + 4)) (xs (6 * i + 5)) sz) (by decide) (show kd 66 = (7, 8) from rfl) (by decide) rfl ⟨(Nat.le_of_ble_eq_true rfl), (Nat.le_of_ble_eq_true rfl)⟩ rfl hl.1 rfl (Nat.le_of_ble_eq_true rfl) dL_law_1004 ⟨Nat.le_trans hc (Nat.le_of_ble_eq_true rfl), Nat.le_trans hs (Nat.le_of_ble_eq_true rfl)⟩) (fun r9 σ9 H locs hw hP hS => ?_)
  replace hI := INV_rowsC hI hw.2
  rw [hw.1]
  refine lv_pop hx hb dL_law_1007 rfl ?_
  refine lv_aload_n hx hb dL_law_1008 rfl (lv_at hl 2 rfl) ?_
  refine lv_aload_n hx hb dL_law_1009 rfl (lv_at hl 0 rfl) ?_
  refine lv_iload hx hb dL_law_1010 (lv_at hl 4 rfl) ?_
  refine lv_iconst (v := 1) hx hb dL_law_1012 (by decide) ?_
  refine lv_iadd hx hb dL_law_1013 ?_
  refine lv_topE (y := nI (6 * i + 1)) (nI_add (6 * i) 1) ?_
  refine va_sld (xs := xs) hx hb hX hbl hbA hS (vp_in_nI (by omega) (by omega)) dL_law_1014 ?_
  refine lv_topE (y := xs (6 * i + 1)) (congrArg xs (nI_clamp (by omega))) ?_
  refine lv_aload_n hx hb dL_law_1015 rfl (lv_at hl 0 rfl) ?_
  refine lv_iload hx hb dL_law_1016 (lv_at hl 4 rfl) ?_
  refine lv_iconst (v := 2) hx hb dL_law_1018 (by decide) ?_
  refine lv_iadd hx hb dL_law_1019 ?_
  refine lv_topE (y := nI (6 * i + 2)) (nI_add (6 * i) 2) ?_
  refine va_sld (xs := xs) hx hb hX hbl hbA hS (vp_in_nI (by omega) (by omega)) dL_law_1020 ?_
  refine lv_topE (y := xs (6 * i + 2)) (congrArg xs (nI_clamp (by omega))) ?_
  refine lv_aload_n hx hb dL_law_1021 rfl (lv_at hl 0 rfl) ?_
  refine lv_iload hx hb dL_law_1022 (lv_at hl 4 rfl) ?_
  refine lv_iconst (v := 3) hx hb dL_law_1024 (by decide) ?_
  refine lv_iadd hx hb dL_law_1025 ?_
  refine lv_topE (y := nI (6 * i + 3)) (nI_add (6 * i) 3) ?_
  refine va_sld (xs := xs) hx hb hX hbl hbA hS (vp_in_nI (by omega) (by omega)) dL_law_1026 ?_
  refine lv_topE (y := xs (6 * i + 3)) (congrArg xs (nI_clamp (by omega))) ?_
  refine lv_aload_n hx hb dL_law_1027 rfl (lv_at hl 0 rfl) ?_
  refine lv_iload hx hb dL_law_1028 (lv_at hl 4 rfl) ?_
  refine lv_iconst (v := 4) hx hb dL_law_1030 (by decide) ?_
  refine lv_iadd hx hb dL_law_1031 ?_
  refine lv_topE (y := nI (6 * i + 4)) (nI_add (6 * i) 4) ?_
  refine va_sld (xs := xs) hx hb hX hbl hbA hS (vp_in_nI (by omega) (by omega)) dL_law_1032 ?_
  refine lv_topE (y := xs (6 * i + 4)) (congrArg xs (nI_clamp (by omega))) ?_
  refine lv_aload_n hx hb dL_law_1033 rfl (lv_at hl 0 rfl) ?_
  refine lv_iload hx hb dL_law_1034 (lv_at hl 4 rfl) ?_
  refine lv_iconst (v := 5) hx hb dL_law_1036 (by decide) ?_
  refine lv_iadd hx hb dL_law_1037 ?_
  refine lv_topE (y := nI (6 * i + 5)) (nI_add (6 * i) 5) ?_
  refine va_sld (xs := xs) hx hb hX hbl hbA hS (vp_in_nI (by omega) (by omega)) dL_law_1038 ?_
  refine lv_topE (y := xs (6 * i + 5)) (congrArg xs (nI_clamp (by omega))) ?_
  refine r_ci X hS (r_runV (As := [.int (xs (6 * i + 1)), .int (xs (6 * i + 2)), .int (xs (6 * i + 3)), .int (xs (6 * i + 4)), .int (xs (6 * i + 5))]) (rest := []) C0 X hP L_L_129 (fun sz => c_X8_rows l D cA ad o σ9 (xs (6 * i + 1)) (xs (6 * i + 2)) (xs (6 * i + 3)) (xs (6 * i + 4)) (xs (6 * i + 5)) sz) (by decide) (show kd 91 = (8, 24) from rfl) (by decide) rfl ⟨(Nat.le_of_ble_eq_true rfl), (Nat.le_of_ble_eq_true rfl)⟩ rfl hl.1 rfl (Nat.le_of_ble_eq_true rfl) dL_law_1039 ⟨Nat.le_trans hc (Nat.le_of_ble_eq_true rfl), Nat.le_trans hs (Nat.le_of_ble_eq_true rfl)⟩) (fun r9 σ9 H locs hw hP hS => ?_)
  replace hI := INV_rowsR hI hw.2
  rw [hw.1]
  refine lv_pop hx hb dL_law_1042 rfl ?_
  refine lv_goto (tgt := 1480) hx hb dL_law_1043 (by decide) ?_
  exact kk _ _ _ _ _ _ _ hI hP hS (Nat.le_add_right _ _) (Nat.le_add_right _ _) hl
set_option maxHeartbeats 4000000 in
set_option maxRecDepth 100000 in
theorem law_c26 {p : Program} {l : Launch} {e : Env} {s : State} {m : MethodId} {below : List Frame} {meth : Method} {c : Code} {D : va_G} {cA : Nat → ClassId} {ad : Nat → Nat} {o : Int64} {σ : Mem} {b Lx i : Nat} {xs : Nat → Int32} {H : Heap} {locs : List Loc} {cells slots : Nat} {ls : Array Slot} {sa : Nat → Nat} (hfl : l.stackTraces = false) (C0 : CX p s m #[Value.ref b] c code 8 RL) (hX : va_X b Lx xs s s.heap) (hi : 6 * i + 6 ≤ Lx) (hL : Lx ≤ 384) (hbl : b < s.heap.size) (X : WX D cA ad (fun q => s.heap.size ≤ q) s) (hZ : XL sa s) (hP : WP D cA ad o σ H) (hI : INV σ σ) (hS : va_S (fun q => s.heap.size ≤ q) s.heap H locs) (hl : lv_has ls 8 [(0, .ref b), (1, .ref (ad 66)), (2, .ref (ad 91)), (3, .ref (ad 105)), (4, .int (nI (6 * i)))]) (hc : cells ≤ 600000) (hs : slots ≤ 7300000) (kk : ∀ (σ' : Mem) (o' : Int64) (H1 : Heap) (locs1 : List Loc) (c1 s1 : Nat) (ls' : Array Slot), INV σ' σ' → WP D cA ad o' σ' H1 → va_S (fun q => s.heap.size ≤ q) s.heap H1 locs1 → c1 ≤ cells + 1 → s1 ≤ slots + 6 → lv_has ls' 8 [(0, .ref b), (1, .ref (ad 66)), (2, .ref (ad 91)), (3, .ref (ad 105)), (4, .int (nI (6 * i)))] → W p l e room_1 s m #[Value.ref b] below meth c H1 locs1 c1 s1 (lw_Z below #[Value.ref b] s) (F0 m 1480 ls' [])) : W p l e room_1 s m #[Value.ref b] below meth c H locs cells slots (lw_Z below #[Value.ref b] s) (F0 m 1046 ls []) := by
  obtain ⟨hx, hb, hml, hown, hts⟩ := id C0
  have hbA : ¬ (fun q => s.heap.size ≤ q) b := Nat.not_le.mpr hbl
  refine lv_aload_n hx hb dL_law_1046 rfl (lv_at hl 1 rfl) ?_
  refine lv_aload_n hx hb dL_law_1047 rfl (lv_at hl 0 rfl) ?_
  refine lv_iload hx hb dL_law_1048 (lv_at hl 4 rfl) ?_
  refine lv_iconst (v := 1) hx hb dL_law_1050 (by decide) ?_
  refine lv_iadd hx hb dL_law_1051 ?_
  refine lv_topE (y := nI (6 * i + 1)) (nI_add (6 * i) 1) ?_
  refine va_sld (xs := xs) hx hb hX hbl hbA hS (vp_in_nI (by omega) (by omega)) dL_law_1052 ?_
  refine lv_topE (y := xs (6 * i + 1)) (congrArg xs (nI_clamp (by omega))) ?_
  refine lv_aload_n hx hb dL_law_1053 rfl (lv_at hl 0 rfl) ?_
  refine lv_iload hx hb dL_law_1054 (lv_at hl 4 rfl) ?_
  refine lv_iconst (v := 2) hx hb dL_law_1056 (by decide) ?_
  refine lv_iadd hx hb dL_law_1057 ?_
  refine lv_topE (y := nI (6 * i + 2)) (nI_add (6 * i) 2) ?_
  refine va_sld (xs := xs) hx hb hX hbl hbA hS (vp_in_nI (by omega) (by omega)) dL_law_1058 ?_
  refine lv_topE (y := xs (6 * i + 2)) (congrArg xs (nI_clamp (by omega))) ?_
  refine lv_aload_n hx hb dL_law_1059 rfl (lv_at hl 0 rfl) ?_
  refine lv_iload hx hb dL_law_1060 (lv_at hl 4 rfl) ?_
  refine lv_iconst (v := 3) hx hb dL_law_1062 (by decide) ?_
  refine lv_iadd hx hb dL_law_1063 ?_
  refine lv_topE (y := nI (6 * i + 3)) (nI_add (6 * i) 3) ?_
  refine va_sld (xs := xs) hx hb hX hbl hbA hS (vp_in_nI (by omega) (by omega)) dL_law_1064 ?_
  refine lv_topE (y := xs (6 * i + 3)) (congrArg xs (nI_clamp (by omega))) ?_
  refine lv_aload_n hx hb dL_law_1065 rfl (lv_at hl 0 rfl) ?_
  refine lv_iload hx hb dL_law_1066 (lv_at hl 4 rfl) ?_
  refine lv_iconst (v := 4) hx hb dL_law_1068 (by decide) ?_
  refine lv_iadd hx hb dL_law_1069 ?_
  refine lv_topE (y := nI (6 * i + 4)) (nI_add (6 * i) 4) ?_
  refine va_sld (xs := xs) hx hb hX hbl hbA hS (vp_in_nI (by omega) (by omega)) dL_law_1070 ?_
  refine lv_topE (y := xs (6 * i + 4)) (congrArg xs (nI_clamp (by omega))) ?_
  refine r_ci X hS (r_runV (As := [.int (xs (6 * i + 1)), .int (xs (6 * i + 2)), .int (xs (6 * i + 3)), .int (xs (6 * i + 4))]) (rest := []) C0 X hP L_L_130 (fun sz => c_X7_aside l D cA ad o σ (xs (6 * i + 1)) (xs (6 * i + 2)) (xs (6 * i + 3)) (xs (6 * i + 4)) sz) (by decide) (show kd 66 = (7, 8) from rfl) (by decide) rfl ⟨(Nat.le_of_ble_eq_true rfl), (Nat.le_of_ble_eq_true rfl)⟩ rfl hl.1 rfl (Nat.le_of_ble_eq_true rfl) dL_law_1071 ⟨Nat.le_trans hc (Nat.le_of_ble_eq_true rfl), Nat.le_trans hs (Nat.le_of_ble_eq_true rfl)⟩) (fun r9 σ9 H locs hw hP hS => ?_)
  replace hI := INV_rowsC hI hw.2
  rw [hw.1]
  refine lv_pop hx hb dL_law_1074 rfl ?_
  refine lv_aload_n hx hb dL_law_1075 rfl (lv_at hl 2 rfl) ?_
  refine lv_aload_n hx hb dL_law_1076 rfl (lv_at hl 0 rfl) ?_
  refine lv_iload hx hb dL_law_1077 (lv_at hl 4 rfl) ?_
  refine lv_iconst (v := 1) hx hb dL_law_1079 (by decide) ?_
  refine lv_iadd hx hb dL_law_1080 ?_
  refine lv_topE (y := nI (6 * i + 1)) (nI_add (6 * i) 1) ?_
  refine va_sld (xs := xs) hx hb hX hbl hbA hS (vp_in_nI (by omega) (by omega)) dL_law_1081 ?_
  refine lv_topE (y := xs (6 * i + 1)) (congrArg xs (nI_clamp (by omega))) ?_
  refine lv_aload_n hx hb dL_law_1082 rfl (lv_at hl 0 rfl) ?_
  refine lv_iload hx hb dL_law_1083 (lv_at hl 4 rfl) ?_
  refine lv_iconst (v := 2) hx hb dL_law_1085 (by decide) ?_
  refine lv_iadd hx hb dL_law_1086 ?_
  refine lv_topE (y := nI (6 * i + 2)) (nI_add (6 * i) 2) ?_
  refine va_sld (xs := xs) hx hb hX hbl hbA hS (vp_in_nI (by omega) (by omega)) dL_law_1087 ?_
  refine lv_topE (y := xs (6 * i + 2)) (congrArg xs (nI_clamp (by omega))) ?_
  refine lv_aload_n hx hb dL_law_1088 rfl (lv_at hl 0 rfl) ?_
  refine lv_iload hx hb dL_law_1089 (lv_at hl 4 rfl) ?_
  refine lv_iconst (v := 3) hx hb dL_law_1091 (by decide) ?_
  refine lv_iadd hx hb dL_law_1092 ?_
  refine lv_topE (y := nI (6 * i + 3)) (nI_add (6 * i) 3) ?_
  refine va_sld (xs := xs) hx hb hX hbl hbA hS (vp_in_nI (by omega) (by omega)) dL_law_1093 ?_
  refine lv_topE (y := xs (6 * i + 3)) (congrArg xs (nI_clamp (by omega))) ?_
  refine lv_aload_n hx hb dL_law_1094 rfl (lv_at hl 0 rfl) ?_
  refine lv_iload hx hb dL_law_1095 (lv_at hl 4 rfl) ?_
  refine lv_iconst (v := 4) hx hb dL_law_1097 (by decide) ?_
  refine lv_iadd hx hb dL_law_1098 ?_
  refine lv_topE (y := nI (6 * i + 4)) (nI_add (6 * i) 4) ?_
  refine va_sld (xs := xs) hx hb hX hbl hbA hS (vp_in_nI (by omega) (by omega)) dL_law_1099 ?_
  refine lv_topE (y := xs (6 * i + 4)) (congrArg xs (nI_clamp (by omega))) ?_
  refine r_ci X hS (r_runV (As := [.int (xs (6 * i + 1)), .int (xs (6 * i + 2)), .int (xs (6 * i + 3)), .int (xs (6 * i + 4))]) (rest := []) C0 X hP L_L_134 (fun sz => c_X8_aside l D cA ad o σ9 (xs (6 * i + 1)) (xs (6 * i + 2)) (xs (6 * i + 3)) (xs (6 * i + 4)) sz) (by decide) (show kd 91 = (8, 24) from rfl) (by decide) rfl ⟨(Nat.le_of_ble_eq_true rfl), (Nat.le_of_ble_eq_true rfl)⟩ rfl hl.1 rfl (Nat.le_of_ble_eq_true rfl) dL_law_1100 ⟨Nat.le_trans hc (Nat.le_of_ble_eq_true rfl), Nat.le_trans hs (Nat.le_of_ble_eq_true rfl)⟩) (fun r9 σ9 H locs hw hP hS => ?_)
  replace hI := INV_rowsR hI hw.2
  rw [hw.1]
  refine lv_pop hx hb dL_law_1103 rfl ?_
  refine lv_goto (tgt := 1480) hx hb dL_law_1104 (by decide) ?_
  exact kk _ _ _ _ _ _ _ hI hP hS (Nat.le_add_right _ _) (Nat.le_add_right _ _) hl
set_option maxHeartbeats 4000000 in
set_option maxRecDepth 100000 in
theorem law_c27 {p : Program} {l : Launch} {e : Env} {s : State} {m : MethodId} {below : List Frame} {meth : Method} {c : Code} {D : va_G} {cA : Nat → ClassId} {ad : Nat → Nat} {o : Int64} {σ : Mem} {b Lx i : Nat} {xs : Nat → Int32} {H : Heap} {locs : List Loc} {cells slots : Nat} {ls : Array Slot} {sa : Nat → Nat} (hfl : l.stackTraces = false) (C0 : CX p s m #[Value.ref b] c code 8 RL) (hX : va_X b Lx xs s s.heap) (hi : 6 * i + 6 ≤ Lx) (hL : Lx ≤ 384) (hbl : b < s.heap.size) (X : WX D cA ad (fun q => s.heap.size ≤ q) s) (hZ : XL sa s) (hP : WP D cA ad o σ H) (hI : INV σ σ) (hS : va_S (fun q => s.heap.size ≤ q) s.heap H locs) (hl : lv_has ls 8 [(0, .ref b), (1, .ref (ad 66)), (2, .ref (ad 91)), (3, .ref (ad 105)), (4, .int (nI (6 * i)))]) (hc : cells ≤ 600000) (hs : slots ≤ 7300000) (kk : ∀ (σ' : Mem) (o' : Int64) (H1 : Heap) (locs1 : List Loc) (c1 s1 : Nat) (ls' : Array Slot), INV σ' σ' → WP D cA ad o' σ' H1 → va_S (fun q => s.heap.size ≤ q) s.heap H1 locs1 → c1 ≤ cells + 1 → s1 ≤ slots + 6 → lv_has ls' 8 [(0, .ref b), (1, .ref (ad 66)), (2, .ref (ad 91)), (3, .ref (ad 105)), (4, .int (nI (6 * i)))] → W p l e room_1 s m #[Value.ref b] below meth c H1 locs1 c1 s1 (lw_Z below #[Value.ref b] s) (F0 m 1480 ls' [])) : W p l e room_1 s m #[Value.ref b] below meth c H locs cells slots (lw_Z below #[Value.ref b] s) (F0 m 1107 ls []) := by
  obtain ⟨hx, hb, hml, hown, hts⟩ := id C0
  have hbA : ¬ (fun q => s.heap.size ≤ q) b := Nat.not_le.mpr hbl
  refine lv_aload_n hx hb dL_law_1107 rfl (lv_at hl 1 rfl) ?_
  obtain ⟨σ1, r1, ρ1, a1, b1, I1⟩ := CALL_one call_image hI
  refine r_ci X hS (r_runV (As := []) (rest := []) C0 X hP L_L_135 (fun sz => c_X7_image l D cA ad o σ  (σ1, r1) a1 sz) (by decide) (show kd 66 = (7, 8) from rfl) (by decide) rfl ⟨(Nat.le_of_ble_eq_true rfl), (Nat.le_of_ble_eq_true rfl)⟩ rfl hl.1 rfl (Nat.le_of_ble_eq_true rfl) dL_law_1108 ⟨Nat.le_trans hc (Nat.le_of_ble_eq_true rfl), Nat.le_trans hs (Nat.le_of_ble_eq_true rfl)⟩) (fun r9 σ9 H locs hw hP hS => ?_)
  rw [hw.2] at hP
  rw [hw.1]
  refine lv_pop hx hb dL_law_1111 rfl ?_
  refine lv_aload_n hx hb dL_law_1112 rfl (lv_at hl 2 rfl) ?_
  refine r_ci X hS (r_runV (As := []) (rest := []) C0 X hP L_L_138 (fun sz => c_X8_image l D cA ad o σ1  (ρ1, r1) b1 sz) (by decide) (show kd 91 = (8, 24) from rfl) (by decide) rfl ⟨(Nat.le_of_ble_eq_true rfl), (Nat.le_of_ble_eq_true rfl)⟩ rfl hl.1 rfl (Nat.le_of_ble_eq_true rfl) dL_law_1113 ⟨Nat.le_trans hc (Nat.le_of_ble_eq_true rfl), Nat.le_trans hs (Nat.le_of_ble_eq_true rfl)⟩) (fun r9 σ9 H locs hw hP hS => ?_)
  rw [hw.2] at hP
  rw [hw.1]
  replace hI := I1
  refine lv_pop hx hb dL_law_1116 rfl ?_
  refine lv_goto (tgt := 1480) hx hb dL_law_1117 (by decide) ?_
  exact kk _ _ _ _ _ _ _ hI hP hS (Nat.le_add_right _ _) (Nat.le_add_right _ _) hl
set_option maxHeartbeats 4000000 in
set_option maxRecDepth 100000 in
theorem law_c28 {p : Program} {l : Launch} {e : Env} {s : State} {m : MethodId} {below : List Frame} {meth : Method} {c : Code} {D : va_G} {cA : Nat → ClassId} {ad : Nat → Nat} {o : Int64} {σ : Mem} {b Lx i : Nat} {xs : Nat → Int32} {H : Heap} {locs : List Loc} {cells slots : Nat} {ls : Array Slot} {sa : Nat → Nat} (hfl : l.stackTraces = false) (C0 : CX p s m #[Value.ref b] c code 8 RL) (hX : va_X b Lx xs s s.heap) (hi : 6 * i + 6 ≤ Lx) (hL : Lx ≤ 384) (hbl : b < s.heap.size) (X : WX D cA ad (fun q => s.heap.size ≤ q) s) (hZ : XL sa s) (hP : WP D cA ad o σ H) (hI : INV σ σ) (hS : va_S (fun q => s.heap.size ≤ q) s.heap H locs) (hl : lv_has ls 8 [(0, .ref b), (1, .ref (ad 66)), (2, .ref (ad 91)), (3, .ref (ad 105)), (4, .int (nI (6 * i)))]) (hc : cells ≤ 600000) (hs : slots ≤ 7300000) (kk : ∀ (σ' : Mem) (o' : Int64) (H1 : Heap) (locs1 : List Loc) (c1 s1 : Nat) (ls' : Array Slot), INV σ' σ' → WP D cA ad o' σ' H1 → va_S (fun q => s.heap.size ≤ q) s.heap H1 locs1 → c1 ≤ cells + 1 → s1 ≤ slots + 6 → lv_has ls' 8 [(0, .ref b), (1, .ref (ad 66)), (2, .ref (ad 91)), (3, .ref (ad 105)), (4, .int (nI (6 * i)))] → W p l e room_1 s m #[Value.ref b] below meth c H1 locs1 c1 s1 (lw_Z below #[Value.ref b] s) (F0 m 1480 ls' [])) : W p l e room_1 s m #[Value.ref b] below meth c H locs cells slots (lw_Z below #[Value.ref b] s) (F0 m 1120 ls []) := by
  obtain ⟨hx, hb, hml, hown, hts⟩ := id C0
  have hbA : ¬ (fun q => s.heap.size ≤ q) b := Nat.not_le.mpr hbl
  refine lv_aload_n hx hb dL_law_1120 rfl (lv_at hl 1 rfl) ?_
  obtain ⟨σ1, r1, ρ1, a1, b1, I1⟩ := CALL_one call_restore hI
  refine r_ci X hS (r_runV (As := []) (rest := []) C0 X hP L_L_139 (fun sz => c_X7_restore l D cA ad o σ  (σ1, r1) a1 sz) (by decide) (show kd 66 = (7, 8) from rfl) (by decide) rfl ⟨(Nat.le_of_ble_eq_true rfl), (Nat.le_of_ble_eq_true rfl)⟩ rfl hl.1 rfl (Nat.le_of_ble_eq_true rfl) dL_law_1121 ⟨Nat.le_trans hc (Nat.le_of_ble_eq_true rfl), Nat.le_trans hs (Nat.le_of_ble_eq_true rfl)⟩) (fun r9 σ9 H locs hw hP hS => ?_)
  rw [hw.2] at hP
  rw [hw.1]
  refine lv_pop hx hb dL_law_1124 rfl ?_
  refine lv_aload_n hx hb dL_law_1125 rfl (lv_at hl 2 rfl) ?_
  refine r_ci X hS (r_runV (As := []) (rest := []) C0 X hP L_L_142 (fun sz => c_X8_restore l D cA ad o σ1  (ρ1, r1) b1 sz) (by decide) (show kd 91 = (8, 24) from rfl) (by decide) rfl ⟨(Nat.le_of_ble_eq_true rfl), (Nat.le_of_ble_eq_true rfl)⟩ rfl hl.1 rfl (Nat.le_of_ble_eq_true rfl) dL_law_1126 ⟨Nat.le_trans hc (Nat.le_of_ble_eq_true rfl), Nat.le_trans hs (Nat.le_of_ble_eq_true rfl)⟩) (fun r9 σ9 H locs hw hP hS => ?_)
  rw [hw.2] at hP
  rw [hw.1]
  replace hI := I1
  refine lv_pop hx hb dL_law_1129 rfl ?_
  refine lv_goto (tgt := 1480) hx hb dL_law_1130 (by decide) ?_
  exact kk _ _ _ _ _ _ _ hI hP hS (Nat.le_add_right _ _) (Nat.le_add_right _ _) hl
set_option maxHeartbeats 4000000 in
set_option maxRecDepth 100000 in
theorem law_c29 {p : Program} {l : Launch} {e : Env} {s : State} {m : MethodId} {below : List Frame} {meth : Method} {c : Code} {D : va_G} {cA : Nat → ClassId} {ad : Nat → Nat} {o : Int64} {σ : Mem} {b Lx i : Nat} {xs : Nat → Int32} {H : Heap} {locs : List Loc} {cells slots : Nat} {ls : Array Slot} {sa : Nat → Nat} (hfl : l.stackTraces = false) (C0 : CX p s m #[Value.ref b] c code 8 RL) (hX : va_X b Lx xs s s.heap) (hi : 6 * i + 6 ≤ Lx) (hL : Lx ≤ 384) (hbl : b < s.heap.size) (X : WX D cA ad (fun q => s.heap.size ≤ q) s) (hZ : XL sa s) (hP : WP D cA ad o σ H) (hI : INV σ σ) (hS : va_S (fun q => s.heap.size ≤ q) s.heap H locs) (hl : lv_has ls 8 [(0, .ref b), (1, .ref (ad 66)), (2, .ref (ad 91)), (3, .ref (ad 105)), (4, .int (nI (6 * i)))]) (hc : cells ≤ 600000) (hs : slots ≤ 7300000) (kk : ∀ (σ' : Mem) (o' : Int64) (H1 : Heap) (locs1 : List Loc) (c1 s1 : Nat) (ls' : Array Slot), INV σ' σ' → WP D cA ad o' σ' H1 → va_S (fun q => s.heap.size ≤ q) s.heap H1 locs1 → c1 ≤ cells + 1 → s1 ≤ slots + 6 → lv_has ls' 8 [(0, .ref b), (1, .ref (ad 66)), (2, .ref (ad 91)), (3, .ref (ad 105)), (4, .int (nI (6 * i)))] → W p l e room_1 s m #[Value.ref b] below meth c H1 locs1 c1 s1 (lw_Z below #[Value.ref b] s) (F0 m 1480 ls' [])) : W p l e room_1 s m #[Value.ref b] below meth c H locs cells slots (lw_Z below #[Value.ref b] s) (F0 m 1133 ls []) := by
  obtain ⟨hx, hb, hml, hown, hts⟩ := id C0
  have hbA : ¬ (fun q => s.heap.size ≤ q) b := Nat.not_le.mpr hbl
  refine lv_aload_n hx hb dL_law_1133 rfl (lv_at hl 1 rfl) ?_
  refine lv_aload_n hx hb dL_law_1134 rfl (lv_at hl 0 rfl) ?_
  refine lv_iload hx hb dL_law_1135 (lv_at hl 4 rfl) ?_
  refine lv_iconst (v := 1) hx hb dL_law_1137 (by decide) ?_
  refine lv_iadd hx hb dL_law_1138 ?_
  refine lv_topE (y := nI (6 * i + 1)) (nI_add (6 * i) 1) ?_
  refine va_sld (xs := xs) hx hb hX hbl hbA hS (vp_in_nI (by omega) (by omega)) dL_law_1139 ?_
  refine lv_topE (y := xs (6 * i + 1)) (congrArg xs (nI_clamp (by omega))) ?_
  obtain ⟨r1, a1, b1⟩ := CALR_one (call_count (xs (6 * i + 1))) hI
  refine r_ci X hS (r_runV (As := [.int (xs (6 * i + 1))]) (rest := []) C0 X hP L_L_143 (fun sz => c_X7_count l D cA ad o σ (xs (6 * i + 1)) r1 a1 sz) (by decide) (show kd 66 = (7, 8) from rfl) (by decide) rfl ⟨(Nat.le_of_ble_eq_true rfl), (Nat.le_of_ble_eq_true rfl)⟩ rfl hl.1 rfl (Nat.le_of_ble_eq_true rfl) dL_law_1140 ⟨Nat.le_trans hc (Nat.le_of_ble_eq_true rfl), Nat.le_trans hs (Nat.le_of_ble_eq_true rfl)⟩) (fun r9 σ9 H locs hw hP hS => ?_)
  rw [hw.2] at hP
  rw [hw.1]
  refine lv_pop hx hb dL_law_1143 rfl ?_
  refine lv_aload_n hx hb dL_law_1144 rfl (lv_at hl 2 rfl) ?_
  refine lv_aload_n hx hb dL_law_1145 rfl (lv_at hl 0 rfl) ?_
  refine lv_iload hx hb dL_law_1146 (lv_at hl 4 rfl) ?_
  refine lv_iconst (v := 1) hx hb dL_law_1148 (by decide) ?_
  refine lv_iadd hx hb dL_law_1149 ?_
  refine lv_topE (y := nI (6 * i + 1)) (nI_add (6 * i) 1) ?_
  refine va_sld (xs := xs) hx hb hX hbl hbA hS (vp_in_nI (by omega) (by omega)) dL_law_1150 ?_
  refine lv_topE (y := xs (6 * i + 1)) (congrArg xs (nI_clamp (by omega))) ?_
  refine r_ci X hS (r_runV (As := [.int (xs (6 * i + 1))]) (rest := []) C0 X hP L_L_146 (fun sz => c_X8_count l D cA ad o σ (xs (6 * i + 1)) r1 b1 sz) (by decide) (show kd 91 = (8, 24) from rfl) (by decide) rfl ⟨(Nat.le_of_ble_eq_true rfl), (Nat.le_of_ble_eq_true rfl)⟩ rfl hl.1 rfl (Nat.le_of_ble_eq_true rfl) dL_law_1151 ⟨Nat.le_trans hc (Nat.le_of_ble_eq_true rfl), Nat.le_trans hs (Nat.le_of_ble_eq_true rfl)⟩) (fun r9 σ9 H locs hw hP hS => ?_)
  rw [hw.2] at hP
  rw [hw.1]
  refine lv_pop hx hb dL_law_1154 rfl ?_
  refine lv_goto (tgt := 1480) hx hb dL_law_1155 (by decide) ?_
  exact kk _ _ _ _ _ _ _ hI hP hS (Nat.le_add_right _ _) (Nat.le_add_right _ _) hl
set_option maxHeartbeats 4000000 in
set_option maxRecDepth 100000 in
theorem law_c30 {p : Program} {l : Launch} {e : Env} {s : State} {m : MethodId} {below : List Frame} {meth : Method} {c : Code} {D : va_G} {cA : Nat → ClassId} {ad : Nat → Nat} {o : Int64} {σ : Mem} {b Lx i : Nat} {xs : Nat → Int32} {H : Heap} {locs : List Loc} {cells slots : Nat} {ls : Array Slot} {sa : Nat → Nat} (hfl : l.stackTraces = false) (C0 : CX p s m #[Value.ref b] c code 8 RL) (hX : va_X b Lx xs s s.heap) (hi : 6 * i + 6 ≤ Lx) (hL : Lx ≤ 384) (hbl : b < s.heap.size) (X : WX D cA ad (fun q => s.heap.size ≤ q) s) (hZ : XL sa s) (hP : WP D cA ad o σ H) (hI : INV σ σ) (hS : va_S (fun q => s.heap.size ≤ q) s.heap H locs) (hl : lv_has ls 8 [(0, .ref b), (1, .ref (ad 66)), (2, .ref (ad 91)), (3, .ref (ad 105)), (4, .int (nI (6 * i)))]) (hc : cells ≤ 600000) (hs : slots ≤ 7300000) (kk : ∀ (σ' : Mem) (o' : Int64) (H1 : Heap) (locs1 : List Loc) (c1 s1 : Nat) (ls' : Array Slot), INV σ' σ' → WP D cA ad o' σ' H1 → va_S (fun q => s.heap.size ≤ q) s.heap H1 locs1 → c1 ≤ cells + 1 → s1 ≤ slots + 6 → lv_has ls' 8 [(0, .ref b), (1, .ref (ad 66)), (2, .ref (ad 91)), (3, .ref (ad 105)), (4, .int (nI (6 * i)))] → W p l e room_1 s m #[Value.ref b] below meth c H1 locs1 c1 s1 (lw_Z below #[Value.ref b] s) (F0 m 1480 ls' [])) : W p l e room_1 s m #[Value.ref b] below meth c H locs cells slots (lw_Z below #[Value.ref b] s) (F0 m 1158 ls []) := by
  obtain ⟨hx, hb, hml, hown, hts⟩ := id C0
  have hbA : ¬ (fun q => s.heap.size ≤ q) b := Nat.not_le.mpr hbl
  refine lv_aload_n hx hb dL_law_1158 rfl (lv_at hl 1 rfl) ?_
  refine lv_aload_n hx hb dL_law_1159 rfl (lv_at hl 0 rfl) ?_
  refine lv_iload hx hb dL_law_1160 (lv_at hl 4 rfl) ?_
  refine lv_iconst (v := 1) hx hb dL_law_1162 (by decide) ?_
  refine lv_iadd hx hb dL_law_1163 ?_
  refine lv_topE (y := nI (6 * i + 1)) (nI_add (6 * i) 1) ?_
  refine va_sld (xs := xs) hx hb hX hbl hbA hS (vp_in_nI (by omega) (by omega)) dL_law_1164 ?_
  refine lv_topE (y := xs (6 * i + 1)) (congrArg xs (nI_clamp (by omega))) ?_
  refine lv_aload_n hx hb dL_law_1165 rfl (lv_at hl 0 rfl) ?_
  refine lv_iload hx hb dL_law_1166 (lv_at hl 4 rfl) ?_
  refine lv_iconst (v := 2) hx hb dL_law_1168 (by decide) ?_
  refine lv_iadd hx hb dL_law_1169 ?_
  refine lv_topE (y := nI (6 * i + 2)) (nI_add (6 * i) 2) ?_
  refine va_sld (xs := xs) hx hb hX hbl hbA hS (vp_in_nI (by omega) (by omega)) dL_law_1170 ?_
  refine lv_topE (y := xs (6 * i + 2)) (congrArg xs (nI_clamp (by omega))) ?_
  refine lv_aload_n hx hb dL_law_1171 rfl (lv_at hl 0 rfl) ?_
  refine lv_iload hx hb dL_law_1172 (lv_at hl 4 rfl) ?_
  refine lv_iconst (v := 3) hx hb dL_law_1174 (by decide) ?_
  refine lv_iadd hx hb dL_law_1175 ?_
  refine lv_topE (y := nI (6 * i + 3)) (nI_add (6 * i) 3) ?_
  refine va_sld (xs := xs) hx hb hX hbl hbA hS (vp_in_nI (by omega) (by omega)) dL_law_1176 ?_
  refine lv_topE (y := xs (6 * i + 3)) (congrArg xs (nI_clamp (by omega))) ?_
  refine lv_aload_n hx hb dL_law_1177 rfl (lv_at hl 0 rfl) ?_
  refine lv_iload hx hb dL_law_1178 (lv_at hl 4 rfl) ?_
  refine lv_iconst (v := 4) hx hb dL_law_1180 (by decide) ?_
  refine lv_iadd hx hb dL_law_1181 ?_
  refine lv_topE (y := nI (6 * i + 4)) (nI_add (6 * i) 4) ?_
  refine va_sld (xs := xs) hx hb hX hbl hbA hS (vp_in_nI (by omega) (by omega)) dL_law_1182 ?_
  refine lv_topE (y := xs (6 * i + 4)) (congrArg xs (nI_clamp (by omega))) ?_
  obtain ⟨σ1, r1, ρ1, a1, b1, I1⟩ := CALL_one (call_keep (xs (6 * i + 1)) (xs (6 * i + 2)) (xs (6 * i + 3)) (xs (6 * i + 4))) hI
  refine r_ci X hS (r_runV (As := [.int (xs (6 * i + 1)), .int (xs (6 * i + 2)), .int (xs (6 * i + 3)), .int (xs (6 * i + 4))]) (rest := []) C0 X hP L_L_147 (fun sz => c_X7_keep l D cA ad o σ (xs (6 * i + 1)) (xs (6 * i + 2)) (xs (6 * i + 3)) (xs (6 * i + 4)) (σ1, r1) a1 sz) (by decide) (show kd 66 = (7, 8) from rfl) (by decide) rfl ⟨(Nat.le_of_ble_eq_true rfl), (Nat.le_of_ble_eq_true rfl)⟩ rfl hl.1 rfl (Nat.le_of_ble_eq_true rfl) dL_law_1183 ⟨Nat.le_trans hc (Nat.le_of_ble_eq_true rfl), Nat.le_trans hs (Nat.le_of_ble_eq_true rfl)⟩) (fun r9 σ9 H locs hw hP hS => ?_)
  rw [hw.2] at hP
  rw [hw.1]
  refine lv_pop hx hb dL_law_1186 rfl ?_
  refine lv_aload_n hx hb dL_law_1187 rfl (lv_at hl 2 rfl) ?_
  refine lv_aload_n hx hb dL_law_1188 rfl (lv_at hl 0 rfl) ?_
  refine lv_iload hx hb dL_law_1189 (lv_at hl 4 rfl) ?_
  refine lv_iconst (v := 1) hx hb dL_law_1191 (by decide) ?_
  refine lv_iadd hx hb dL_law_1192 ?_
  refine lv_topE (y := nI (6 * i + 1)) (nI_add (6 * i) 1) ?_
  refine va_sld (xs := xs) hx hb hX hbl hbA hS (vp_in_nI (by omega) (by omega)) dL_law_1193 ?_
  refine lv_topE (y := xs (6 * i + 1)) (congrArg xs (nI_clamp (by omega))) ?_
  refine lv_aload_n hx hb dL_law_1194 rfl (lv_at hl 0 rfl) ?_
  refine lv_iload hx hb dL_law_1195 (lv_at hl 4 rfl) ?_
  refine lv_iconst (v := 2) hx hb dL_law_1197 (by decide) ?_
  refine lv_iadd hx hb dL_law_1198 ?_
  refine lv_topE (y := nI (6 * i + 2)) (nI_add (6 * i) 2) ?_
  refine va_sld (xs := xs) hx hb hX hbl hbA hS (vp_in_nI (by omega) (by omega)) dL_law_1199 ?_
  refine lv_topE (y := xs (6 * i + 2)) (congrArg xs (nI_clamp (by omega))) ?_
  refine lv_aload_n hx hb dL_law_1200 rfl (lv_at hl 0 rfl) ?_
  refine lv_iload hx hb dL_law_1201 (lv_at hl 4 rfl) ?_
  refine lv_iconst (v := 3) hx hb dL_law_1203 (by decide) ?_
  refine lv_iadd hx hb dL_law_1204 ?_
  refine lv_topE (y := nI (6 * i + 3)) (nI_add (6 * i) 3) ?_
  refine va_sld (xs := xs) hx hb hX hbl hbA hS (vp_in_nI (by omega) (by omega)) dL_law_1205 ?_
  refine lv_topE (y := xs (6 * i + 3)) (congrArg xs (nI_clamp (by omega))) ?_
  refine lv_aload_n hx hb dL_law_1206 rfl (lv_at hl 0 rfl) ?_
  refine lv_iload hx hb dL_law_1207 (lv_at hl 4 rfl) ?_
  refine lv_iconst (v := 4) hx hb dL_law_1209 (by decide) ?_
  refine lv_iadd hx hb dL_law_1210 ?_
  refine lv_topE (y := nI (6 * i + 4)) (nI_add (6 * i) 4) ?_
  refine va_sld (xs := xs) hx hb hX hbl hbA hS (vp_in_nI (by omega) (by omega)) dL_law_1211 ?_
  refine lv_topE (y := xs (6 * i + 4)) (congrArg xs (nI_clamp (by omega))) ?_
  refine r_ci X hS (r_runV (As := [.int (xs (6 * i + 1)), .int (xs (6 * i + 2)), .int (xs (6 * i + 3)), .int (xs (6 * i + 4))]) (rest := []) C0 X hP L_L_150 (fun sz => c_X8_keep l D cA ad o σ1 (xs (6 * i + 1)) (xs (6 * i + 2)) (xs (6 * i + 3)) (xs (6 * i + 4)) (ρ1, r1) b1 sz) (by decide) (show kd 91 = (8, 24) from rfl) (by decide) rfl ⟨(Nat.le_of_ble_eq_true rfl), (Nat.le_of_ble_eq_true rfl)⟩ rfl hl.1 rfl (Nat.le_of_ble_eq_true rfl) dL_law_1212 ⟨Nat.le_trans hc (Nat.le_of_ble_eq_true rfl), Nat.le_trans hs (Nat.le_of_ble_eq_true rfl)⟩) (fun r9 σ9 H locs hw hP hS => ?_)
  rw [hw.2] at hP
  rw [hw.1]
  replace hI := I1
  refine lv_pop hx hb dL_law_1215 rfl ?_
  refine lv_goto (tgt := 1480) hx hb dL_law_1216 (by decide) ?_
  exact kk _ _ _ _ _ _ _ hI hP hS (Nat.le_add_right _ _) (Nat.le_add_right _ _) hl
set_option maxHeartbeats 4000000 in
set_option maxRecDepth 100000 in
theorem law_c31 {p : Program} {l : Launch} {e : Env} {s : State} {m : MethodId} {below : List Frame} {meth : Method} {c : Code} {D : va_G} {cA : Nat → ClassId} {ad : Nat → Nat} {o : Int64} {σ : Mem} {b Lx i : Nat} {xs : Nat → Int32} {H : Heap} {locs : List Loc} {cells slots : Nat} {ls : Array Slot} {sa : Nat → Nat} (hfl : l.stackTraces = false) (C0 : CX p s m #[Value.ref b] c code 8 RL) (hX : va_X b Lx xs s s.heap) (hi : 6 * i + 6 ≤ Lx) (hL : Lx ≤ 384) (hbl : b < s.heap.size) (X : WX D cA ad (fun q => s.heap.size ≤ q) s) (hZ : XL sa s) (hP : WP D cA ad o σ H) (hI : INV σ σ) (hS : va_S (fun q => s.heap.size ≤ q) s.heap H locs) (hl : lv_has ls 8 [(0, .ref b), (1, .ref (ad 66)), (2, .ref (ad 91)), (3, .ref (ad 105)), (4, .int (nI (6 * i)))]) (hc : cells ≤ 600000) (hs : slots ≤ 7300000) (kk : ∀ (σ' : Mem) (o' : Int64) (H1 : Heap) (locs1 : List Loc) (c1 s1 : Nat) (ls' : Array Slot), INV σ' σ' → WP D cA ad o' σ' H1 → va_S (fun q => s.heap.size ≤ q) s.heap H1 locs1 → c1 ≤ cells + 1 → s1 ≤ slots + 6 → lv_has ls' 8 [(0, .ref b), (1, .ref (ad 66)), (2, .ref (ad 91)), (3, .ref (ad 105)), (4, .int (nI (6 * i)))] → W p l e room_1 s m #[Value.ref b] below meth c H1 locs1 c1 s1 (lw_Z below #[Value.ref b] s) (F0 m 1480 ls' [])) : W p l e room_1 s m #[Value.ref b] below meth c H locs cells slots (lw_Z below #[Value.ref b] s) (F0 m 1219 ls []) := by
  obtain ⟨hx, hb, hml, hown, hts⟩ := id C0
  have hbA : ¬ (fun q => s.heap.size ≤ q) b := Nat.not_le.mpr hbl
  refine lv_aload_n hx hb dL_law_1219 rfl (lv_at hl 1 rfl) ?_
  refine lv_aload_n hx hb dL_law_1220 rfl (lv_at hl 0 rfl) ?_
  refine lv_iload hx hb dL_law_1221 (lv_at hl 4 rfl) ?_
  refine lv_iconst (v := 1) hx hb dL_law_1223 (by decide) ?_
  refine lv_iadd hx hb dL_law_1224 ?_
  refine lv_topE (y := nI (6 * i + 1)) (nI_add (6 * i) 1) ?_
  refine va_sld (xs := xs) hx hb hX hbl hbA hS (vp_in_nI (by omega) (by omega)) dL_law_1225 ?_
  refine lv_topE (y := xs (6 * i + 1)) (congrArg xs (nI_clamp (by omega))) ?_
  refine lv_aload_n hx hb dL_law_1226 rfl (lv_at hl 0 rfl) ?_
  refine lv_iload hx hb dL_law_1227 (lv_at hl 4 rfl) ?_
  refine lv_iconst (v := 2) hx hb dL_law_1229 (by decide) ?_
  refine lv_iadd hx hb dL_law_1230 ?_
  refine lv_topE (y := nI (6 * i + 2)) (nI_add (6 * i) 2) ?_
  refine va_sld (xs := xs) hx hb hX hbl hbA hS (vp_in_nI (by omega) (by omega)) dL_law_1231 ?_
  refine lv_topE (y := xs (6 * i + 2)) (congrArg xs (nI_clamp (by omega))) ?_
  refine lv_aload_n hx hb dL_law_1232 rfl (lv_at hl 0 rfl) ?_
  refine lv_iload hx hb dL_law_1233 (lv_at hl 4 rfl) ?_
  refine lv_iconst (v := 3) hx hb dL_law_1235 (by decide) ?_
  refine lv_iadd hx hb dL_law_1236 ?_
  refine lv_topE (y := nI (6 * i + 3)) (nI_add (6 * i) 3) ?_
  refine va_sld (xs := xs) hx hb hX hbl hbA hS (vp_in_nI (by omega) (by omega)) dL_law_1237 ?_
  refine lv_topE (y := xs (6 * i + 3)) (congrArg xs (nI_clamp (by omega))) ?_
  obtain ⟨σ1, r1, ρ1, a1, b1, I1⟩ := CALL_one (call_row (xs (6 * i + 1)) (xs (6 * i + 2)) (xs (6 * i + 3))) hI
  refine r_ci X hS (r_runV (As := [.int (xs (6 * i + 1)), .int (xs (6 * i + 2)), .int (xs (6 * i + 3))]) (rest := []) C0 X hP L_L_151 (fun sz => c_X7_row l D cA ad o σ (xs (6 * i + 1)) (xs (6 * i + 2)) (xs (6 * i + 3)) (σ1, r1) a1 sz) (by decide) (show kd 66 = (7, 8) from rfl) (by decide) rfl ⟨(Nat.le_of_ble_eq_true rfl), (Nat.le_of_ble_eq_true rfl)⟩ rfl hl.1 rfl (Nat.le_of_ble_eq_true rfl) dL_law_1238 ⟨Nat.le_trans hc (Nat.le_of_ble_eq_true rfl), Nat.le_trans hs (Nat.le_of_ble_eq_true rfl)⟩) (fun r9 σ9 H locs hw hP hS => ?_)
  rw [hw.2] at hP
  rw [hw.1]
  refine lv_pop hx hb dL_law_1241 rfl ?_
  refine lv_aload_n hx hb dL_law_1242 rfl (lv_at hl 2 rfl) ?_
  refine lv_aload_n hx hb dL_law_1243 rfl (lv_at hl 0 rfl) ?_
  refine lv_iload hx hb dL_law_1244 (lv_at hl 4 rfl) ?_
  refine lv_iconst (v := 1) hx hb dL_law_1246 (by decide) ?_
  refine lv_iadd hx hb dL_law_1247 ?_
  refine lv_topE (y := nI (6 * i + 1)) (nI_add (6 * i) 1) ?_
  refine va_sld (xs := xs) hx hb hX hbl hbA hS (vp_in_nI (by omega) (by omega)) dL_law_1248 ?_
  refine lv_topE (y := xs (6 * i + 1)) (congrArg xs (nI_clamp (by omega))) ?_
  refine lv_aload_n hx hb dL_law_1249 rfl (lv_at hl 0 rfl) ?_
  refine lv_iload hx hb dL_law_1250 (lv_at hl 4 rfl) ?_
  refine lv_iconst (v := 2) hx hb dL_law_1252 (by decide) ?_
  refine lv_iadd hx hb dL_law_1253 ?_
  refine lv_topE (y := nI (6 * i + 2)) (nI_add (6 * i) 2) ?_
  refine va_sld (xs := xs) hx hb hX hbl hbA hS (vp_in_nI (by omega) (by omega)) dL_law_1254 ?_
  refine lv_topE (y := xs (6 * i + 2)) (congrArg xs (nI_clamp (by omega))) ?_
  refine lv_aload_n hx hb dL_law_1255 rfl (lv_at hl 0 rfl) ?_
  refine lv_iload hx hb dL_law_1256 (lv_at hl 4 rfl) ?_
  refine lv_iconst (v := 3) hx hb dL_law_1258 (by decide) ?_
  refine lv_iadd hx hb dL_law_1259 ?_
  refine lv_topE (y := nI (6 * i + 3)) (nI_add (6 * i) 3) ?_
  refine va_sld (xs := xs) hx hb hX hbl hbA hS (vp_in_nI (by omega) (by omega)) dL_law_1260 ?_
  refine lv_topE (y := xs (6 * i + 3)) (congrArg xs (nI_clamp (by omega))) ?_
  refine r_ci X hS (r_runV (As := [.int (xs (6 * i + 1)), .int (xs (6 * i + 2)), .int (xs (6 * i + 3))]) (rest := []) C0 X hP L_L_154 (fun sz => c_X8_row l D cA ad o σ1 (xs (6 * i + 1)) (xs (6 * i + 2)) (xs (6 * i + 3)) (ρ1, r1) b1 sz) (by decide) (show kd 91 = (8, 24) from rfl) (by decide) rfl ⟨(Nat.le_of_ble_eq_true rfl), (Nat.le_of_ble_eq_true rfl)⟩ rfl hl.1 rfl (Nat.le_of_ble_eq_true rfl) dL_law_1261 ⟨Nat.le_trans hc (Nat.le_of_ble_eq_true rfl), Nat.le_trans hs (Nat.le_of_ble_eq_true rfl)⟩) (fun r9 σ9 H locs hw hP hS => ?_)
  rw [hw.2] at hP
  rw [hw.1]
  replace hI := I1
  refine lv_pop hx hb dL_law_1264 rfl ?_
  refine lv_goto (tgt := 1480) hx hb dL_law_1265 (by decide) ?_
  exact kk _ _ _ _ _ _ _ hI hP hS (Nat.le_add_right _ _) (Nat.le_add_right _ _) hl
set_option maxHeartbeats 4000000 in
set_option maxRecDepth 100000 in
theorem law_c32 {p : Program} {l : Launch} {e : Env} {s : State} {m : MethodId} {below : List Frame} {meth : Method} {c : Code} {D : va_G} {cA : Nat → ClassId} {ad : Nat → Nat} {o : Int64} {σ : Mem} {b Lx i : Nat} {xs : Nat → Int32} {H : Heap} {locs : List Loc} {cells slots : Nat} {ls : Array Slot} {sa : Nat → Nat} (hfl : l.stackTraces = false) (C0 : CX p s m #[Value.ref b] c code 8 RL) (hX : va_X b Lx xs s s.heap) (hi : 6 * i + 6 ≤ Lx) (hL : Lx ≤ 384) (hbl : b < s.heap.size) (X : WX D cA ad (fun q => s.heap.size ≤ q) s) (hZ : XL sa s) (hP : WP D cA ad o σ H) (hI : INV σ σ) (hS : va_S (fun q => s.heap.size ≤ q) s.heap H locs) (hl : lv_has ls 8 [(0, .ref b), (1, .ref (ad 66)), (2, .ref (ad 91)), (3, .ref (ad 105)), (4, .int (nI (6 * i)))]) (hc : cells ≤ 600000) (hs : slots ≤ 7300000) (kk : ∀ (σ' : Mem) (o' : Int64) (H1 : Heap) (locs1 : List Loc) (c1 s1 : Nat) (ls' : Array Slot), INV σ' σ' → WP D cA ad o' σ' H1 → va_S (fun q => s.heap.size ≤ q) s.heap H1 locs1 → c1 ≤ cells + 1 → s1 ≤ slots + 6 → lv_has ls' 8 [(0, .ref b), (1, .ref (ad 66)), (2, .ref (ad 91)), (3, .ref (ad 105)), (4, .int (nI (6 * i)))] → W p l e room_1 s m #[Value.ref b] below meth c H1 locs1 c1 s1 (lw_Z below #[Value.ref b] s) (F0 m 1480 ls' [])) : W p l e room_1 s m #[Value.ref b] below meth c H locs cells slots (lw_Z below #[Value.ref b] s) (F0 m 1268 ls []) := by
  obtain ⟨hx, hb, hml, hown, hts⟩ := id C0
  have hbA : ¬ (fun q => s.heap.size ≤ q) b := Nat.not_le.mpr hbl
  refine lv_aload_n hx hb dL_law_1268 rfl (lv_at hl 1 rfl) ?_
  refine lv_aload_n hx hb dL_law_1269 rfl (lv_at hl 0 rfl) ?_
  refine lv_iload hx hb dL_law_1270 (lv_at hl 4 rfl) ?_
  refine lv_iconst (v := 1) hx hb dL_law_1272 (by decide) ?_
  refine lv_iadd hx hb dL_law_1273 ?_
  refine lv_topE (y := nI (6 * i + 1)) (nI_add (6 * i) 1) ?_
  refine va_sld (xs := xs) hx hb hX hbl hbA hS (vp_in_nI (by omega) (by omega)) dL_law_1274 ?_
  refine lv_topE (y := xs (6 * i + 1)) (congrArg xs (nI_clamp (by omega))) ?_
  refine lv_aload_n hx hb dL_law_1275 rfl (lv_at hl 0 rfl) ?_
  refine lv_iload hx hb dL_law_1276 (lv_at hl 4 rfl) ?_
  refine lv_iconst (v := 2) hx hb dL_law_1278 (by decide) ?_
  refine lv_iadd hx hb dL_law_1279 ?_
  refine lv_topE (y := nI (6 * i + 2)) (nI_add (6 * i) 2) ?_
  refine va_sld (xs := xs) hx hb hX hbl hbA hS (vp_in_nI (by omega) (by omega)) dL_law_1280 ?_
  refine lv_topE (y := xs (6 * i + 2)) (congrArg xs (nI_clamp (by omega))) ?_
  refine lv_aload_n hx hb dL_law_1281 rfl (lv_at hl 0 rfl) ?_
  refine lv_iload hx hb dL_law_1282 (lv_at hl 4 rfl) ?_
  refine lv_iconst (v := 3) hx hb dL_law_1284 (by decide) ?_
  refine lv_iadd hx hb dL_law_1285 ?_
  refine lv_topE (y := nI (6 * i + 3)) (nI_add (6 * i) 3) ?_
  refine va_sld (xs := xs) hx hb hX hbl hbA hS (vp_in_nI (by omega) (by omega)) dL_law_1286 ?_
  refine lv_topE (y := xs (6 * i + 3)) (congrArg xs (nI_clamp (by omega))) ?_
  obtain ⟨σ1, r1, ρ1, a1, b1, I1⟩ := CALL_one (call_put (xs (6 * i + 1)) (xs (6 * i + 2)) (xs (6 * i + 3))) hI
  refine r_ci X hS (r_runV (As := [.int (xs (6 * i + 1)), .int (xs (6 * i + 2)), .int (xs (6 * i + 3))]) (rest := []) C0 X hP L_L_155 (fun sz => c_X7_put l D cA ad o σ (xs (6 * i + 1)) (xs (6 * i + 2)) (xs (6 * i + 3)) (σ1, r1) a1 sz) (by decide) (show kd 66 = (7, 8) from rfl) (by decide) rfl ⟨(Nat.le_of_ble_eq_true rfl), (Nat.le_of_ble_eq_true rfl)⟩ rfl hl.1 rfl (Nat.le_of_ble_eq_true rfl) dL_law_1287 ⟨Nat.le_trans hc (Nat.le_of_ble_eq_true rfl), Nat.le_trans hs (Nat.le_of_ble_eq_true rfl)⟩) (fun r9 σ9 H locs hw hP hS => ?_)
  rw [hw.2] at hP
  rw [hw.1]
  refine lv_pop hx hb dL_law_1290 rfl ?_
  refine lv_aload_n hx hb dL_law_1291 rfl (lv_at hl 2 rfl) ?_
  refine lv_aload_n hx hb dL_law_1292 rfl (lv_at hl 0 rfl) ?_
  refine lv_iload hx hb dL_law_1293 (lv_at hl 4 rfl) ?_
  refine lv_iconst (v := 1) hx hb dL_law_1295 (by decide) ?_
  refine lv_iadd hx hb dL_law_1296 ?_
  refine lv_topE (y := nI (6 * i + 1)) (nI_add (6 * i) 1) ?_
  refine va_sld (xs := xs) hx hb hX hbl hbA hS (vp_in_nI (by omega) (by omega)) dL_law_1297 ?_
  refine lv_topE (y := xs (6 * i + 1)) (congrArg xs (nI_clamp (by omega))) ?_
  refine lv_aload_n hx hb dL_law_1298 rfl (lv_at hl 0 rfl) ?_
  refine lv_iload hx hb dL_law_1299 (lv_at hl 4 rfl) ?_
  refine lv_iconst (v := 2) hx hb dL_law_1301 (by decide) ?_
  refine lv_iadd hx hb dL_law_1302 ?_
  refine lv_topE (y := nI (6 * i + 2)) (nI_add (6 * i) 2) ?_
  refine va_sld (xs := xs) hx hb hX hbl hbA hS (vp_in_nI (by omega) (by omega)) dL_law_1303 ?_
  refine lv_topE (y := xs (6 * i + 2)) (congrArg xs (nI_clamp (by omega))) ?_
  refine lv_aload_n hx hb dL_law_1304 rfl (lv_at hl 0 rfl) ?_
  refine lv_iload hx hb dL_law_1305 (lv_at hl 4 rfl) ?_
  refine lv_iconst (v := 3) hx hb dL_law_1307 (by decide) ?_
  refine lv_iadd hx hb dL_law_1308 ?_
  refine lv_topE (y := nI (6 * i + 3)) (nI_add (6 * i) 3) ?_
  refine va_sld (xs := xs) hx hb hX hbl hbA hS (vp_in_nI (by omega) (by omega)) dL_law_1309 ?_
  refine lv_topE (y := xs (6 * i + 3)) (congrArg xs (nI_clamp (by omega))) ?_
  refine r_ci X hS (r_runV (As := [.int (xs (6 * i + 1)), .int (xs (6 * i + 2)), .int (xs (6 * i + 3))]) (rest := []) C0 X hP L_L_158 (fun sz => c_X8_put l D cA ad o σ1 (xs (6 * i + 1)) (xs (6 * i + 2)) (xs (6 * i + 3)) (ρ1, r1) b1 sz) (by decide) (show kd 91 = (8, 24) from rfl) (by decide) rfl ⟨(Nat.le_of_ble_eq_true rfl), (Nat.le_of_ble_eq_true rfl)⟩ rfl hl.1 rfl (Nat.le_of_ble_eq_true rfl) dL_law_1310 ⟨Nat.le_trans hc (Nat.le_of_ble_eq_true rfl), Nat.le_trans hs (Nat.le_of_ble_eq_true rfl)⟩) (fun r9 σ9 H locs hw hP hS => ?_)
  rw [hw.2] at hP
  rw [hw.1]
  replace hI := I1
  refine lv_pop hx hb dL_law_1313 rfl ?_
  refine lv_goto (tgt := 1480) hx hb dL_law_1314 (by decide) ?_
  exact kk _ _ _ _ _ _ _ hI hP hS (Nat.le_add_right _ _) (Nat.le_add_right _ _) hl
set_option maxHeartbeats 4000000 in
set_option maxRecDepth 100000 in
theorem law_c34 {p : Program} {l : Launch} {e : Env} {s : State} {m : MethodId} {below : List Frame} {meth : Method} {c : Code} {D : va_G} {cA : Nat → ClassId} {ad : Nat → Nat} {o : Int64} {σ : Mem} {b Lx i : Nat} {xs : Nat → Int32} {H : Heap} {locs : List Loc} {cells slots : Nat} {ls : Array Slot} {sa : Nat → Nat} (hfl : l.stackTraces = false) (C0 : CX p s m #[Value.ref b] c code 8 RL) (hX : va_X b Lx xs s s.heap) (hi : 6 * i + 6 ≤ Lx) (hL : Lx ≤ 384) (hbl : b < s.heap.size) (X : WX D cA ad (fun q => s.heap.size ≤ q) s) (hZ : XL sa s) (hP : WP D cA ad o σ H) (hI : INV σ σ) (hS : va_S (fun q => s.heap.size ≤ q) s.heap H locs) (hl : lv_has ls 8 [(0, .ref b), (1, .ref (ad 66)), (2, .ref (ad 91)), (3, .ref (ad 105)), (4, .int (nI (6 * i)))]) (hc : cells ≤ 600000) (hs : slots ≤ 7300000) (kk : ∀ (σ' : Mem) (o' : Int64) (H1 : Heap) (locs1 : List Loc) (c1 s1 : Nat) (ls' : Array Slot), INV σ' σ' → WP D cA ad o' σ' H1 → va_S (fun q => s.heap.size ≤ q) s.heap H1 locs1 → c1 ≤ cells + 1 → s1 ≤ slots + 6 → lv_has ls' 8 [(0, .ref b), (1, .ref (ad 66)), (2, .ref (ad 91)), (3, .ref (ad 105)), (4, .int (nI (6 * i)))] → W p l e room_1 s m #[Value.ref b] below meth c H1 locs1 c1 s1 (lw_Z below #[Value.ref b] s) (F0 m 1480 ls' [])) : W p l e room_1 s m #[Value.ref b] below meth c H locs cells slots (lw_Z below #[Value.ref b] s) (F0 m 1357 ls []) := by
  obtain ⟨hx, hb, hml, hown, hts⟩ := id C0
  have hbA : ¬ (fun q => s.heap.size ≤ q) b := Nat.not_le.mpr hbl
  refine lv_aload_n hx hb dL_law_1357 rfl (lv_at hl 1 rfl) ?_
  refine lv_aload_n hx hb dL_law_1358 rfl (lv_at hl 0 rfl) ?_
  refine lv_iload hx hb dL_law_1359 (lv_at hl 4 rfl) ?_
  refine lv_iconst (v := 1) hx hb dL_law_1361 (by decide) ?_
  refine lv_iadd hx hb dL_law_1362 ?_
  refine lv_topE (y := nI (6 * i + 1)) (nI_add (6 * i) 1) ?_
  refine va_sld (xs := xs) hx hb hX hbl hbA hS (vp_in_nI (by omega) (by omega)) dL_law_1363 ?_
  refine lv_topE (y := xs (6 * i + 1)) (congrArg xs (nI_clamp (by omega))) ?_
  refine lv_aload_n hx hb dL_law_1364 rfl (lv_at hl 0 rfl) ?_
  refine lv_iload hx hb dL_law_1365 (lv_at hl 4 rfl) ?_
  refine lv_iconst (v := 2) hx hb dL_law_1367 (by decide) ?_
  refine lv_iadd hx hb dL_law_1368 ?_
  refine lv_topE (y := nI (6 * i + 2)) (nI_add (6 * i) 2) ?_
  refine va_sld (xs := xs) hx hb hX hbl hbA hS (vp_in_nI (by omega) (by omega)) dL_law_1369 ?_
  refine lv_topE (y := xs (6 * i + 2)) (congrArg xs (nI_clamp (by omega))) ?_
  refine lv_aload_n hx hb dL_law_1370 rfl (lv_at hl 0 rfl) ?_
  refine lv_iload hx hb dL_law_1371 (lv_at hl 4 rfl) ?_
  refine lv_iconst (v := 3) hx hb dL_law_1373 (by decide) ?_
  refine lv_iadd hx hb dL_law_1374 ?_
  refine lv_topE (y := nI (6 * i + 3)) (nI_add (6 * i) 3) ?_
  refine va_sld (xs := xs) hx hb hX hbl hbA hS (vp_in_nI (by omega) (by omega)) dL_law_1375 ?_
  refine lv_topE (y := xs (6 * i + 3)) (congrArg xs (nI_clamp (by omega))) ?_
  refine lv_aload_n hx hb dL_law_1376 rfl (lv_at hl 0 rfl) ?_
  refine lv_iload hx hb dL_law_1377 (lv_at hl 4 rfl) ?_
  refine lv_iconst (v := 4) hx hb dL_law_1379 (by decide) ?_
  refine lv_iadd hx hb dL_law_1380 ?_
  refine lv_topE (y := nI (6 * i + 4)) (nI_add (6 * i) 4) ?_
  refine va_sld (xs := xs) hx hb hX hbl hbA hS (vp_in_nI (by omega) (by omega)) dL_law_1381 ?_
  refine lv_topE (y := xs (6 * i + 4)) (congrArg xs (nI_clamp (by omega))) ?_
  refine lv_aload_n hx hb dL_law_1382 rfl (lv_at hl 0 rfl) ?_
  refine lv_iload hx hb dL_law_1383 (lv_at hl 4 rfl) ?_
  refine lv_iconst (v := 5) hx hb dL_law_1385 (by decide) ?_
  refine lv_iadd hx hb dL_law_1386 ?_
  refine lv_topE (y := nI (6 * i + 5)) (nI_add (6 * i) 5) ?_
  refine va_sld (xs := xs) hx hb hX hbl hbA hS (vp_in_nI (by omega) (by omega)) dL_law_1387 ?_
  refine lv_topE (y := xs (6 * i + 5)) (congrArg xs (nI_clamp (by omega))) ?_
  obtain ⟨σ1, r1, ρ1, a1, b1, I1⟩ := CALL_one (call_copy (xs (6 * i + 1)) (xs (6 * i + 2)) (xs (6 * i + 3)) (xs (6 * i + 4)) (xs (6 * i + 5))) hI
  refine r_ci X hS (r_runV (As := [.int (xs (6 * i + 1)), .int (xs (6 * i + 2)), .int (xs (6 * i + 3)), .int (xs (6 * i + 4)), .int (xs (6 * i + 5))]) (rest := []) C0 X hP L_L_165 (fun sz => c_X7_copy l D cA ad o σ (xs (6 * i + 1)) (xs (6 * i + 2)) (xs (6 * i + 3)) (xs (6 * i + 4)) (xs (6 * i + 5)) (σ1, r1) a1 sz) (by decide) (show kd 66 = (7, 8) from rfl) (by decide) rfl ⟨(Nat.le_of_ble_eq_true rfl), (Nat.le_of_ble_eq_true rfl)⟩ rfl hl.1 rfl (Nat.le_of_ble_eq_true rfl) dL_law_1388 ⟨Nat.le_trans hc (Nat.le_of_ble_eq_true rfl), Nat.le_trans hs (Nat.le_of_ble_eq_true rfl)⟩) (fun r9 σ9 H locs hw hP hS => ?_)
  rw [hw.2] at hP
  rw [hw.1]
  refine lv_pop hx hb dL_law_1391 rfl ?_
  refine lv_aload_n hx hb dL_law_1392 rfl (lv_at hl 2 rfl) ?_
  refine lv_aload_n hx hb dL_law_1393 rfl (lv_at hl 0 rfl) ?_
  refine lv_iload hx hb dL_law_1394 (lv_at hl 4 rfl) ?_
  refine lv_iconst (v := 1) hx hb dL_law_1396 (by decide) ?_
  refine lv_iadd hx hb dL_law_1397 ?_
  refine lv_topE (y := nI (6 * i + 1)) (nI_add (6 * i) 1) ?_
  refine va_sld (xs := xs) hx hb hX hbl hbA hS (vp_in_nI (by omega) (by omega)) dL_law_1398 ?_
  refine lv_topE (y := xs (6 * i + 1)) (congrArg xs (nI_clamp (by omega))) ?_
  refine lv_aload_n hx hb dL_law_1399 rfl (lv_at hl 0 rfl) ?_
  refine lv_iload hx hb dL_law_1400 (lv_at hl 4 rfl) ?_
  refine lv_iconst (v := 2) hx hb dL_law_1402 (by decide) ?_
  refine lv_iadd hx hb dL_law_1403 ?_
  refine lv_topE (y := nI (6 * i + 2)) (nI_add (6 * i) 2) ?_
  refine va_sld (xs := xs) hx hb hX hbl hbA hS (vp_in_nI (by omega) (by omega)) dL_law_1404 ?_
  refine lv_topE (y := xs (6 * i + 2)) (congrArg xs (nI_clamp (by omega))) ?_
  refine lv_aload_n hx hb dL_law_1405 rfl (lv_at hl 0 rfl) ?_
  refine lv_iload hx hb dL_law_1406 (lv_at hl 4 rfl) ?_
  refine lv_iconst (v := 3) hx hb dL_law_1408 (by decide) ?_
  refine lv_iadd hx hb dL_law_1409 ?_
  refine lv_topE (y := nI (6 * i + 3)) (nI_add (6 * i) 3) ?_
  refine va_sld (xs := xs) hx hb hX hbl hbA hS (vp_in_nI (by omega) (by omega)) dL_law_1410 ?_
  refine lv_topE (y := xs (6 * i + 3)) (congrArg xs (nI_clamp (by omega))) ?_
  refine lv_aload_n hx hb dL_law_1411 rfl (lv_at hl 0 rfl) ?_
  refine lv_iload hx hb dL_law_1412 (lv_at hl 4 rfl) ?_
  refine lv_iconst (v := 4) hx hb dL_law_1414 (by decide) ?_
  refine lv_iadd hx hb dL_law_1415 ?_
  refine lv_topE (y := nI (6 * i + 4)) (nI_add (6 * i) 4) ?_
  refine va_sld (xs := xs) hx hb hX hbl hbA hS (vp_in_nI (by omega) (by omega)) dL_law_1416 ?_
  refine lv_topE (y := xs (6 * i + 4)) (congrArg xs (nI_clamp (by omega))) ?_
  refine lv_aload_n hx hb dL_law_1417 rfl (lv_at hl 0 rfl) ?_
  refine lv_iload hx hb dL_law_1418 (lv_at hl 4 rfl) ?_
  refine lv_iconst (v := 5) hx hb dL_law_1420 (by decide) ?_
  refine lv_iadd hx hb dL_law_1421 ?_
  refine lv_topE (y := nI (6 * i + 5)) (nI_add (6 * i) 5) ?_
  refine va_sld (xs := xs) hx hb hX hbl hbA hS (vp_in_nI (by omega) (by omega)) dL_law_1422 ?_
  refine lv_topE (y := xs (6 * i + 5)) (congrArg xs (nI_clamp (by omega))) ?_
  refine r_ci X hS (r_runV (As := [.int (xs (6 * i + 1)), .int (xs (6 * i + 2)), .int (xs (6 * i + 3)), .int (xs (6 * i + 4)), .int (xs (6 * i + 5))]) (rest := []) C0 X hP L_L_168 (fun sz => c_X8_copy l D cA ad o σ1 (xs (6 * i + 1)) (xs (6 * i + 2)) (xs (6 * i + 3)) (xs (6 * i + 4)) (xs (6 * i + 5)) (ρ1, r1) b1 sz) (by decide) (show kd 91 = (8, 24) from rfl) (by decide) rfl ⟨(Nat.le_of_ble_eq_true rfl), (Nat.le_of_ble_eq_true rfl)⟩ rfl hl.1 rfl (Nat.le_of_ble_eq_true rfl) dL_law_1423 ⟨Nat.le_trans hc (Nat.le_of_ble_eq_true rfl), Nat.le_trans hs (Nat.le_of_ble_eq_true rfl)⟩) (fun r9 σ9 H locs hw hP hS => ?_)
  rw [hw.2] at hP
  rw [hw.1]
  replace hI := I1
  refine lv_pop hx hb dL_law_1426 rfl ?_
  refine lv_goto (tgt := 1480) hx hb dL_law_1427 (by decide) ?_
  exact kk _ _ _ _ _ _ _ hI hP hS (Nat.le_add_right _ _) (Nat.le_add_right _ _) hl
set_option maxHeartbeats 4000000 in
set_option maxRecDepth 100000 in
theorem law_c35 {p : Program} {l : Launch} {e : Env} {s : State} {m : MethodId} {below : List Frame} {meth : Method} {c : Code} {D : va_G} {cA : Nat → ClassId} {ad : Nat → Nat} {o : Int64} {σ : Mem} {b Lx i : Nat} {xs : Nat → Int32} {H : Heap} {locs : List Loc} {cells slots : Nat} {ls : Array Slot} {sa : Nat → Nat} (hfl : l.stackTraces = false) (C0 : CX p s m #[Value.ref b] c code 8 RL) (hX : va_X b Lx xs s s.heap) (hi : 6 * i + 6 ≤ Lx) (hL : Lx ≤ 384) (hbl : b < s.heap.size) (X : WX D cA ad (fun q => s.heap.size ≤ q) s) (hZ : XL sa s) (hP : WP D cA ad o σ H) (hI : INV σ σ) (hS : va_S (fun q => s.heap.size ≤ q) s.heap H locs) (hl : lv_has ls 8 [(0, .ref b), (1, .ref (ad 66)), (2, .ref (ad 91)), (3, .ref (ad 105)), (4, .int (nI (6 * i)))]) (hc : cells ≤ 600000) (hs : slots ≤ 7300000) (kk : ∀ (σ' : Mem) (o' : Int64) (H1 : Heap) (locs1 : List Loc) (c1 s1 : Nat) (ls' : Array Slot), INV σ' σ' → WP D cA ad o' σ' H1 → va_S (fun q => s.heap.size ≤ q) s.heap H1 locs1 → c1 ≤ cells + 1 → s1 ≤ slots + 6 → lv_has ls' 8 [(0, .ref b), (1, .ref (ad 66)), (2, .ref (ad 91)), (3, .ref (ad 105)), (4, .int (nI (6 * i)))] → W p l e room_1 s m #[Value.ref b] below meth c H1 locs1 c1 s1 (lw_Z below #[Value.ref b] s) (F0 m 1480 ls' [])) : W p l e room_1 s m #[Value.ref b] below meth c H locs cells slots (lw_Z below #[Value.ref b] s) (F0 m 1430 ls []) := by
  obtain ⟨hx, hb, hml, hown, hts⟩ := id C0
  have hbA : ¬ (fun q => s.heap.size ≤ q) b := Nat.not_le.mpr hbl
  refine lv_aload_n hx hb dL_law_1430 rfl (lv_at hl 1 rfl) ?_
  refine lv_aload_n hx hb dL_law_1431 rfl (lv_at hl 0 rfl) ?_
  refine lv_iload hx hb dL_law_1432 (lv_at hl 4 rfl) ?_
  refine lv_iconst (v := 1) hx hb dL_law_1434 (by decide) ?_
  refine lv_iadd hx hb dL_law_1435 ?_
  refine lv_topE (y := nI (6 * i + 1)) (nI_add (6 * i) 1) ?_
  refine va_sld (xs := xs) hx hb hX hbl hbA hS (vp_in_nI (by omega) (by omega)) dL_law_1436 ?_
  refine lv_topE (y := xs (6 * i + 1)) (congrArg xs (nI_clamp (by omega))) ?_
  obtain ⟨r1, a1, b1⟩ := CALR_one (call_words (xs (6 * i + 1))) hI
  refine r_ci X hS (r_runV (As := [.int (xs (6 * i + 1))]) (rest := []) C0 X hP L_L_169 (fun sz => c_X7_words l D cA ad o σ (xs (6 * i + 1)) r1 a1 sz) (by decide) (show kd 66 = (7, 8) from rfl) (by decide) rfl ⟨(Nat.le_of_ble_eq_true rfl), (Nat.le_of_ble_eq_true rfl)⟩ rfl hl.1 rfl (Nat.le_of_ble_eq_true rfl) dL_law_1437 ⟨Nat.le_trans hc (Nat.le_of_ble_eq_true rfl), Nat.le_trans hs (Nat.le_of_ble_eq_true rfl)⟩) (fun r9 σ9 H locs hw hP hS => ?_)
  rw [hw.2] at hP
  rw [hw.1]
  refine lv_aload_n hx hb dL_law_1440 rfl (lv_at hl 2 rfl) ?_
  refine lv_aload_n hx hb dL_law_1441 rfl (lv_at hl 0 rfl) ?_
  refine lv_iload hx hb dL_law_1442 (lv_at hl 4 rfl) ?_
  refine lv_iconst (v := 1) hx hb dL_law_1444 (by decide) ?_
  refine lv_iadd hx hb dL_law_1445 ?_
  refine lv_topE (y := nI (6 * i + 1)) (nI_add (6 * i) 1) ?_
  refine va_sld (xs := xs) hx hb hX hbl hbA hS (vp_in_nI (by omega) (by omega)) dL_law_1446 ?_
  refine lv_topE (y := xs (6 * i + 1)) (congrArg xs (nI_clamp (by omega))) ?_
  refine r_ci X hS (r_runV (As := [.int (xs (6 * i + 1))]) (rest := [.int r1]) C0 X hP L_L_172 (fun sz => c_X8_words l D cA ad o σ (xs (6 * i + 1)) r1 b1 sz) (by decide) (show kd 91 = (8, 24) from rfl) (by decide) rfl ⟨(Nat.le_of_ble_eq_true rfl), (Nat.le_of_ble_eq_true rfl)⟩ rfl hl.1 rfl (Nat.le_of_ble_eq_true rfl) dL_law_1447 ⟨Nat.le_trans hc (Nat.le_of_ble_eq_true rfl), Nat.le_trans hs (Nat.le_of_ble_eq_true rfl)⟩) (fun r9 σ9 H locs hw hP hS => ?_)
  rw [hw.2] at hP
  rw [hw.1]
  refine lv_icmp_eq (tgt := 1480) hx hb dL_law_1450 (by decide) (fun _ => ?_) (fun z => absurd rfl z)
  exact kk _ _ _ _ _ _ _ hI hP hS (Nat.le_add_right _ _) (Nat.le_add_right _ _) hl
end
section
/-! the cases that throw -/
theorem gLtoss : GoodIn tbg (wsV RL 173 RX7 yX7_toss (WYW yX7_toss cX7_toss 4 (some .int) hhT)) := by
  refine tbg_good (fun w hw => ?_)
  simp only [wsV, List.cons_append, List.nil_append, List.mem_cons] at hw
  rcases hw with rfl | rfl | rfl | rfl | hw
  · exact tmc sb4_7 6 rfl (by decide +kernel)
  · exact tmc sb4_7 7 rfl (by decide +kernel)
  · exact tmc sb4_7 8 rfl (by decide +kernel)
  · exact wI7
  · exact WYW_good wcT w hw
theorem gLelem : GoodIn tbg (va_wsS RL 159 yL_element (WYW yL_element cL_element 5 (some .int) hhE)) := by
  refine tbg_good (fun w hw => ?_)
  simp only [va_wsS, List.cons_append, List.nil_append, List.mem_cons] at hw
  rcases hw with rfl | rfl | rfl | hw
  · exact tmc sb4_14 1 rfl (by decide +kernel)
  · exact tmc sb4_14 2 rfl (by decide +kernel)
  · exact tmc sb1_0 0 rfl (by decide +kernel)
  · exact WYW_good wcE w hw
set_option maxHeartbeats 4000000 in
set_option maxRecDepth 100000 in
theorem law_c33 {p : Program} {l : Launch} {e : Env} {s : State} {m : MethodId} {below : List Frame} {meth : Method} {c : Code} {D : va_G} {cA : Nat → ClassId} {ad : Nat → Nat} {o : Int64} {σ : Mem} {b Lx i : Nat} {xs : Nat → Int32} {H : Heap} {locs : List Loc} {cells slots : Nat} {ls : Array Slot} {sa : Nat → Nat} (hfl : l.stackTraces = false) (C0 : CX p s m #[Value.ref b] c code 8 RL) (hX : va_X b Lx xs s s.heap) (hi : 6 * i + 6 ≤ Lx) (hL : Lx ≤ 384) (hbl : b < s.heap.size) (X : WX D cA ad (fun q => s.heap.size ≤ q) s) (hZ : XL sa s) (hP : WP D cA ad o σ H) (hI : INV σ σ) (hS : va_S (fun q => s.heap.size ≤ q) s.heap H locs) (hl : lv_has ls 8 [(0, .ref b), (1, .ref (ad 66)), (2, .ref (ad 91)), (3, .ref (ad 105)), (4, .int (nI (6 * i)))]) (hc : cells ≤ 600000) (hs : slots ≤ 7300000) (kk : ∀ (σ' : Mem) (o' : Int64) (H1 : Heap) (locs1 : List Loc) (c1 s1 : Nat) (ls' : Array Slot), INV σ' σ' → WP D cA ad o' σ' H1 → va_S (fun q => s.heap.size ≤ q) s.heap H1 locs1 → c1 ≤ cells + 1 → s1 ≤ slots + 6 → lv_has ls' 8 [(0, .ref b), (1, .ref (ad 66)), (2, .ref (ad 91)), (3, .ref (ad 105)), (4, .int (nI (6 * i)))] → W p l e room_1 s m #[Value.ref b] below meth c H1 locs1 c1 s1 (lw_Z below #[Value.ref b] s) (F0 m 1480 ls' [])) : W p l e room_1 s m #[Value.ref b] below meth c H locs cells slots (lw_Z below #[Value.ref b] s) (F0 m 1317 ls []) := by
  obtain ⟨hx, hb, hml, hown, hts⟩ := id C0
  have hbA : ¬ (fun q => s.heap.size ≤ q) b := Nat.not_le.mpr hbl
  refine lv_aload_n hx hb dL_law_1317 rfl (lv_at hl 1 rfl) ?_
  refine lv_aload_n hx hb dL_law_1318 rfl (lv_at hl 0 rfl) ?_
  refine lv_iload hx hb dL_law_1319 (lv_at hl 4 rfl) ?_
  refine lv_iconst (v := 1) hx hb dL_law_1321 (by decide) ?_
  refine lv_iadd hx hb dL_law_1322 ?_
  refine lv_topE (y := nI (6 * i + 1)) (nI_add (6 * i) 1) ?_
  refine va_sld (xs := xs) hx hb hX hbl hbA hS (vp_in_nI (by omega) (by omega)) dL_law_1323 ?_
  refine lv_topE (y := xs (6 * i + 1)) (congrArg xs (nI_clamp (by omega))) ?_
  refine lv_aload_n hx hb dL_law_1324 rfl (lv_at hl 0 rfl) ?_
  refine lv_iload hx hb dL_law_1325 (lv_at hl 4 rfl) ?_
  refine lv_iconst (v := 2) hx hb dL_law_1327 (by decide) ?_
  refine lv_iadd hx hb dL_law_1328 ?_
  refine lv_topE (y := nI (6 * i + 2)) (nI_add (6 * i) 2) ?_
  refine va_sld (xs := xs) hx hb hX hbl hbA hS (vp_in_nI (by omega) (by omega)) dL_law_1329 ?_
  refine lv_topE (y := xs (6 * i + 2)) (congrArg xs (nI_clamp (by omega))) ?_
  refine lv_aload_n hx hb dL_law_1330 rfl (lv_at hl 3 rfl) ?_
  refine va_calli (vx_runSW (As := [.ref (ad 66), .int (xs (6 * i + 1)), .int (xs (6 * i + 2)), .ref (ad 105)]) (rest := []) C0 (c_L_element l hfl D cA ad o σ (xs (6 * i + 1)) (xs (6 * i + 2)) sa H.size) (vx_cwSW 4 hts gLelem rfl rfl rfl (by decide +kernel) ⟨(Nat.le_of_ble_eq_true rfl), (Nat.le_of_ble_eq_true rfl)⟩) ⟨PWX_blind, fun U hU hW => ⟨rfl, PW_of X hP hU hW, XF_of X hZ hS hU hW⟩⟩ rfl rfl hl.1 rfl (lv_room (Nat.le_of_ble_eq_true rfl)) dL_law_1331 ⟨Nat.add_le_of_le_sub (by decide) (Nat.le_trans hc (by decide)), Nat.add_le_of_le_sub (by decide) (Nat.le_trans hs (by decide))⟩) hS (fun q _ h => FA_sub X hS q h) (FA_sub X hS) (fun r1 u t H locs ht hvm hwe hB hz hk hS => ?_)
  obtain ⟨u1, o1⟩ := u
  have hu : u1 = σ := hwe.1
  have hP : WP D cA ad o1 σ H := by rw [← ht, ← hu]; exact hB.1
  have hc2 : cells + 1 ≤ 600001 := Nat.succ_le_succ hc
  have hs2 : slots + 6 ≤ 7300006 := Nat.add_le_add_right hs 6
  refine lv_istore (lv' := [(5, .int r1), (0, .ref b), (1, .ref (ad 66)), (2, .ref (ad 91)), (3, .ref (ad 105)), (4, .int (nI (6 * i)))]) hx hb dL_law_1334 hl (by decide) rfl (fun ls hl => ?_)
  refine lv_aload_n hx hb dL_law_1336 rfl (lv_at hl 3 rfl) ?_
  refine lv_aload_n hx hb dL_law_1337 rfl (lv_at hl 1 rfl) ?_
  refine lv_iload hx hb dL_law_1338 (lv_at hl 5 rfl) ?_
  refine lv_iconst (v := 1) hx hb dL_law_1340 (by decide) ?_
  refine lv_iadd hx hb dL_law_1341 ?_
  refine lv_topE (y := nI (6 * i + 1)) (nI_add (6 * i) 1) ?_
  refine va_sld (xs := xs) hx hb hX hbl hbA hS (vp_in_nI (by omega) (by omega)) dL_law_1342 ?_
  refine lv_topE (y := xs (6 * i + 1)) (congrArg xs (nI_clamp (by omega))) ?_
  refine lv_aload_n hx hb dL_law_1343 rfl (lv_at hl 1 rfl) ?_
  refine lv_iload hx hb dL_law_1344 (lv_at hl 5 rfl) ?_
  refine lv_iconst (v := 2) hx hb dL_law_1346 (by decide) ?_
  refine lv_iadd hx hb dL_law_1347 ?_
  refine lv_topE (y := nI (6 * i + 2)) (nI_add (6 * i) 2) ?_
  refine va_sld (xs := xs) hx hb hX hbl hbA hS (vp_in_nI (by omega) (by omega)) dL_law_1348 ?_
  refine lv_topE (y := xs (6 * i + 2)) (congrArg xs (nI_clamp (by omega))) ?_
  obtain ⟨ρ1, r2, b1, I1, -⟩ := elem_one hI (xs (6 * i + 1)) (xs (6 * i + 2))
  refine r_cl X hS (r_runV (As := [.int (xs (6 * i + 1)), .int (xs (6 * i + 2))]) (rest := []) C0 X hP L_L_164 (fun sz => c_X8_element l D cA ad o1 σ (xs (6 * i + 1)) (xs (6 * i + 2)) (ρ1, r2) b1 sz) (by decide) (show kd 91 = (8, 24) from rfl) (by decide) rfl ⟨(Nat.le_of_ble_eq_true rfl), (Nat.le_of_ble_eq_true rfl)⟩ rfl hl.1 rfl (Nat.le_of_ble_eq_true rfl) dL_law_1349 ⟨Nat.le_trans hc2 (Nat.le_of_ble_eq_true rfl), Nat.le_trans hs2 (Nat.le_of_ble_eq_true rfl)⟩) (fun r9 σ9 H locs hw hP hS => ?_)
  rw [hw.2] at hP
  refine lv_lstore (lv' := [(6, .long r9), (5, .int r1), (0, .ref b), (1, .ref (ad 66)), (2, .ref (ad 91)), (3, .ref (ad 105)), (4, .int (nI (6 * i)))]) hx hb dL_law_1352 hl (by decide) rfl (fun ls hl => ?_)
  refine lv_goto (tgt := 1480) hx hb dL_law_1354 (by decide) ?_
  exact kk _ _ _ _ _ _ _ I1 hP hS (Nat.le_refl _) (Nat.le_refl _) (lv_sub hl [2, 3, 4, 5, 6] rfl)
set_option maxHeartbeats 4000000 in
set_option maxRecDepth 100000 in
theorem law_c36 {p : Program} {l : Launch} {e : Env} {s : State} {m : MethodId} {below : List Frame} {meth : Method} {c : Code} {D : va_G} {cA : Nat → ClassId} {ad : Nat → Nat} {o : Int64} {σ : Mem} {b Lx i : Nat} {xs : Nat → Int32} {H : Heap} {locs : List Loc} {cells slots : Nat} {ls : Array Slot} {sa : Nat → Nat} (hfl : l.stackTraces = false) (C0 : CX p s m #[Value.ref b] c code 8 RL) (hX : va_X b Lx xs s s.heap) (hi : 6 * i + 6 ≤ Lx) (hL : Lx ≤ 384) (hbl : b < s.heap.size) (X : WX D cA ad (fun q => s.heap.size ≤ q) s) (hZ : XL sa s) (hP : WP D cA ad o σ H) (hI : INV σ σ) (hS : va_S (fun q => s.heap.size ≤ q) s.heap H locs) (hl : lv_has ls 8 [(0, .ref b), (1, .ref (ad 66)), (2, .ref (ad 91)), (3, .ref (ad 105)), (4, .int (nI (6 * i)))]) (hc : cells ≤ 600000) (hs : slots ≤ 7300000) (kk : ∀ (σ' : Mem) (o' : Int64) (H1 : Heap) (locs1 : List Loc) (c1 s1 : Nat) (ls' : Array Slot), INV σ' σ' → WP D cA ad o' σ' H1 → va_S (fun q => s.heap.size ≤ q) s.heap H1 locs1 → c1 ≤ cells + 1 → s1 ≤ slots + 6 → lv_has ls' 8 [(0, .ref b), (1, .ref (ad 66)), (2, .ref (ad 91)), (3, .ref (ad 105)), (4, .int (nI (6 * i)))] → W p l e room_1 s m #[Value.ref b] below meth c H1 locs1 c1 s1 (lw_Z below #[Value.ref b] s) (F0 m 1480 ls' [])) : W p l e room_1 s m #[Value.ref b] below meth c H locs cells slots (lw_Z below #[Value.ref b] s) (F0 m 1455 ls []) := by
  obtain ⟨hx, hb, hml, hown, hts⟩ := id C0
  have hbA : ¬ (fun q => s.heap.size ≤ q) b := Nat.not_le.mpr hbl
  refine lv_aload_n hx hb dL_law_1455 rfl (lv_at hl 1 rfl) ?_
  refine lv_aload_n hx hb dL_law_1456 rfl (lv_at hl 0 rfl) ?_
  refine lv_iload hx hb dL_law_1457 (lv_at hl 4 rfl) ?_
  refine lv_iconst (v := 1) hx hb dL_law_1459 (by decide) ?_
  refine lv_iadd hx hb dL_law_1460 ?_
  refine lv_topE (y := nI (6 * i + 1)) (nI_add (6 * i) 1) ?_
  refine va_sld (xs := xs) hx hb hX hbl hbA hS (vp_in_nI (by omega) (by omega)) dL_law_1461 ?_
  refine lv_topE (y := xs (6 * i + 1)) (congrArg xs (nI_clamp (by omega))) ?_
  obtain ⟨r1, a1, b1⟩ := CALR_one (call_toss (xs (6 * i + 1))) hI
  refine va_calli (vx_runVW (As := [.int (xs (6 * i + 1))]) (rest := []) C0 (c_X7_toss l hfl D cA ad o σ (xs (6 * i + 1)) sa r1 a1 H.size) (vx_cwVW 1 hts gLtoss rfl rfl rfl (by decide +kernel) ⟨(Nat.le_of_ble_eq_true rfl), (Nat.le_of_ble_eq_true rfl)⟩) ⟨PWX_blind, va_recv X.1 hP (q := (RX7, TX7, 8)) rfl (q0 := 66) (ci := 7) (fs := (List.range 8).map (fv ad (σ 66) 66)) (by rw [wl_get cA ad o σ (by decide), cel_obj (ci := 7) (n := 8) rfl (by decide)]), fun U hU hW => ⟨rfl, PW_of X hP hU hW, XF_of X hZ hS hU hW⟩⟩ rfl rfl hl.1 rfl (lv_room (Nat.le_of_ble_eq_true rfl)) dL_law_1462 ⟨Nat.add_le_of_le_sub (by decide) (Nat.le_trans hc (by decide)), Nat.add_le_of_le_sub (by decide) (Nat.le_trans hs (by decide))⟩) hS (fun q _ h => FA_sub X hS q h) (FA_sub X hS) (fun r9 u t H locs ht hvm hw hB hz hk hS => ?_)
  have hP : WP D cA ad o σ H := by rw [← ht, ← hw.2]; exact hB.1
  have hc2 : cells + 1 ≤ 600001 := Nat.succ_le_succ hc
  have hs2 : slots + 6 ≤ 7300006 := Nat.add_le_add_right hs 6
  refine lv_pop hx hb dL_law_1465 rfl ?_
  refine lv_aload_n hx hb dL_law_1466 rfl (lv_at hl 2 rfl) ?_
  refine lv_aload_n hx hb dL_law_1467 rfl (lv_at hl 0 rfl) ?_
  refine lv_iload hx hb dL_law_1468 (lv_at hl 4 rfl) ?_
  refine lv_iconst (v := 1) hx hb dL_law_1470 (by decide) ?_
  refine lv_iadd hx hb dL_law_1471 ?_
  refine lv_topE (y := nI (6 * i + 1)) (nI_add (6 * i) 1) ?_
  refine va_sld (xs := xs) hx hb hX hbl hbA hS (vp_in_nI (by omega) (by omega)) dL_law_1472 ?_
  refine lv_topE (y := xs (6 * i + 1)) (congrArg xs (nI_clamp (by omega))) ?_
  refine r_ci X hS (r_runV (As := [.int (xs (6 * i + 1))]) (rest := []) C0 X hP L_L_176 (fun sz => c_X8_toss l D cA ad o σ (xs (6 * i + 1)) r1 b1 sz) (by decide) (show kd 91 = (8, 24) from rfl) (by decide) rfl ⟨(Nat.le_of_ble_eq_true rfl), (Nat.le_of_ble_eq_true rfl)⟩ rfl hl.1 rfl (Nat.le_of_ble_eq_true rfl) dL_law_1473 ⟨Nat.le_trans hc2 (Nat.le_of_ble_eq_true rfl), Nat.le_trans hs2 (Nat.le_of_ble_eq_true rfl)⟩) (fun r9 σ9 H locs hw hP hS => ?_)
  rw [hw.2] at hP
  refine lv_pop hx hb dL_law_1476 rfl ?_
  refine lv_goto (tgt := 1480) hx hb dL_law_1477 (by decide) ?_
  exact kk _ _ _ _ _ _ _ hI hP hS (Nat.le_refl _) (Nat.le_refl _) hl
end
section
/-! the law's loop -/
theorem i32_len {L i : Nat} (hL : L ≤ 384) (hi : i ≤ 1000) : (nI L - 6 < nI i ↔ L < i + 6) := by
  have z : (6 : Int32).toInt = 6 := by decide
  have e := nI_toInt (n := L) (by omega)
  have f := nI_toInt (n := i) (by omega)
  rw [i32_lt, t_sub (by rw [e, z]; omega) (by rw [e, z]; omega), e, f, z]
  omega
set_option maxHeartbeats 4000000 in
set_option maxRecDepth 100000 in
theorem law_loop {p : Program} {l : Launch} {e : Env} {s : State} {m : MethodId} {below : List Frame} {meth : Method} {c : Code} {D : va_G} {cA : Nat → ClassId} {ad : Nat → Nat} {b Lx : Nat} {xs : Nat → Int32} {sa : Nat → Nat} (hfl : l.stackTraces = false) (C0 : CX p s m #[Value.ref b] c code 8 RL) (hr : meth.sig.returnType = ret) (hlk : meth.locks = false) (hX : va_X b Lx xs s s.heap) (hL : Lx ≤ 384) (hbl : b < s.heap.size) (X : WX D cA ad (fun q => s.heap.size ≤ q) s) (hZ : XL sa s) : ∀ (nn i : Nat) (o : Int64) (σ : Mem) (H : Heap) (locs : List Loc) (cells slots : Nat) (ls : Array Slot), 64 < nn + i → i ≤ 64 → WP D cA ad o σ H → INV σ σ → va_S (fun q => s.heap.size ≤ q) s.heap H locs → lv_has ls 8 [(0, .ref b), (1, .ref (ad 66)), (2, .ref (ad 91)), (3, .ref (ad 105)), (4, .int (nI (6 * i)))] → cells ≤ 500000 + i → slots ≤ 7200000 + 6 * i → W p l e room_1 s m #[Value.ref b] below meth c H locs cells slots (lw_Z below #[Value.ref b] s) (F0 m 23 ls []) := by
  intro nn
  induction nn with
  | zero => intro i o σ H locs cells slots ls h1 h2; exact absurd h1 (by omega)
  | succ nn ih =>
    intro i o σ H locs cells slots ls h1 h2 hP hI hS hl hc hs
    obtain ⟨hx, hb, hml, hown, hts⟩ := id C0
    have hbA : ¬ (fun q => s.heap.size ≤ q) b := Nat.not_le.mpr hbl
    refine lv_iload hx hb dL_law_23 (lv_at hl 4 rfl) ?_
    refine lv_aload_n hx hb dL_law_25 rfl (lv_at hl 0 rfl) ?_
    refine va_slen hx hb hX hbl hbA hS dL_law_26 ?_
    refine lv_bipush (v := 6) hx hb dL_law_27 (by decide) ?_
    refine lv_isub hx hb dL_law_29 ?_
    refine lv_icmp_gt (tgt := 1486) hx hb dL_law_30 (by decide) (fun c_1 => ?_) (fun c_1 => ?_)
    · refine lv_iconst (v := 1) hx hb dL_law_1486 (by decide) ?_
      refine va_forget (fun q hq => hS.2.2 q hq) ?_
      refine W.widen (k := 600128) (n := 7301098) (by omega) (by omega) ?_
      exact lw_ret hx hb hr hlk dL_law_1487
    · have hi : 6 * i + 6 ≤ Lx := by
        have h9 : ¬ Lx < 6 * i + 6 := fun z => c_1 ((i32_len (L := Lx) (i := 6 * i) hL (by omega)).mpr z)
        omega
      have kk : ∀ (σ' : Mem) (o' : Int64) (H1 : Heap) (locs1 : List Loc) (c1 s1 : Nat) (ls' : Array Slot), INV σ' σ' → WP D cA ad o' σ' H1 → va_S (fun q => s.heap.size ≤ q) s.heap H1 locs1 → c1 ≤ cells + 1 → s1 ≤ slots + 6 → lv_has ls' 8 [(0, .ref b), (1, .ref (ad 66)), (2, .ref (ad 91)), (3, .ref (ad 105)), (4, .int (nI (6 * i)))] → W p l e room_1 s m #[Value.ref b] below meth c H1 locs1 c1 s1 (lw_Z below #[Value.ref b] s) (F0 m 1480 ls' []) := by
        intro σ' o' H1 locs1 c1 s1 ls' I' P' S' hc' hs' hl'
        refine lv_iinc (v := nI (6 * (i + 1))) (lv' := [(4, .int (nI (6 * (i + 1)))), (0, .ref b), (1, .ref (ad 66)), (2, .ref (ad 91)), (3, .ref (ad 105))]) hx hb dL_law_1480 hl' (k := 4) rfl (by rw [show 6 * (i + 1) = 6 * i + 6 by omega]; exact nI_add (6 * i) 6) (by decide) rfl (fun ls hl => ?_)
        refine lv_goto (tgt := 23) hx hb dL_law_1483 (by decide) ?_
        exact ih (i + 1) o' σ' H1 locs1 c1 s1 ls (by omega) (by omega) P' I' S' (lv_sub hl [1, 2, 3, 4, 0] rfl) (by omega) (by omega)
      have hc' : cells ≤ 600000 := by omega
      have hs' : slots ≤ 7300000 := by omega
      refine lv_aload_n hx hb dL_law_33 rfl (lv_at hl 0 rfl) ?_
      refine lv_iload hx hb dL_law_34 (lv_at hl 4 rfl) ?_
      refine va_sld (xs := xs) hx hb hX hbl hbA hS (vp_in_nI (by omega) (by omega)) dL_law_36 ?_
      refine lv_bipush (v := 63) hx hb dL_law_37 (by decide) ?_
      refine lv_iand hx hb dL_law_39 ?_
      refine lv_topi (fun y ey => ?_)
      rcases sw_in (x := y) (lo := 0) (n := 37) with hn | ⟨j, hj, hn⟩
      · refine lv_tableOut (tgt := 1480) hx hb dL_law_40 (by omega) (by decide) ?_
        exact kk _ _ _ _ _ _ _ hI hP hS (Nat.le_add_right _ _) (Nat.le_add_right _ _) hl
      · rcases (show j = 0 ∨ j = 1 ∨ j = 2 ∨ j = 3 ∨ j = 4 ∨ j = 5 ∨ j = 6 ∨ j = 7 ∨ j = 8 ∨ j = 9 ∨ j = 10 ∨ j = 11 ∨ j = 12 ∨ j = 13 ∨ j = 14 ∨ j = 15 ∨ j = 16 ∨ j = 17 ∨ j = 18 ∨ j = 19 ∨ j = 20 ∨ j = 21 ∨ j = 22 ∨ j = 23 ∨ j = 24 ∨ j = 25 ∨ j = 26 ∨ j = 27 ∨ j = 28 ∨ j = 29 ∨ j = 30 ∨ j = 31 ∨ j = 32 ∨ j = 33 ∨ j = 34 ∨ j = 35 ∨ j = 36 by omega) with rfl | rfl | rfl | rfl | rfl | rfl | rfl | rfl | rfl | rfl | rfl | rfl | rfl | rfl | rfl | rfl | rfl | rfl | rfl | rfl | rfl | rfl | rfl | rfl | rfl | rfl | rfl | rfl | rfl | rfl | rfl | rfl | rfl | rfl | rfl | rfl | rfl
        · have ex : y = 0 := sw_eq hn (by decide)
          refine lv_tableIn (off := 164) (tgt := 204) hx hb dL_law_40 (by rw [ex]; decide) (by rw [ex]; decide) (by rw [ex]; rfl) (by decide) ?_
          exact law_c0 hfl C0 hX hi hL hbl X hZ hP hI hS hl hc' hs' kk
        · have ex : y = 1 := sw_eq hn (by decide)
          refine lv_tableIn (off := 189) (tgt := 229) hx hb dL_law_40 (by rw [ex]; decide) (by rw [ex]; decide) (by rw [ex]; rfl) (by decide) ?_
          exact law_c1 hfl C0 hX hi hL hbl X hZ hP hI hS hl hc' hs' kk
        · have ex : y = 2 := sw_eq hn (by decide)
          refine lv_tableIn (off := 226) (tgt := 266) hx hb dL_law_40 (by rw [ex]; decide) (by rw [ex]; decide) (by rw [ex]; rfl) (by decide) ?_
          exact law_c2 hfl C0 hX hi hL hbl X hZ hP hI hS hl hc' hs' kk
        · have ex : y = 3 := sw_eq hn (by decide)
          refine lv_tableIn (off := 251) (tgt := 291) hx hb dL_law_40 (by rw [ex]; decide) (by rw [ex]; decide) (by rw [ex]; rfl) (by decide) ?_
          exact law_c3 hfl C0 hX hi hL hbl X hZ hP hI hS hl hc' hs' kk
        · have ex : y = 4 := sw_eq hn (by decide)
          refine lv_tableIn (off := 288) (tgt := 328) hx hb dL_law_40 (by rw [ex]; decide) (by rw [ex]; decide) (by rw [ex]; rfl) (by decide) ?_
          exact law_c4 hfl C0 hX hi hL hbl X hZ hP hI hS hl hc' hs' kk
        · have ex : y = 5 := sw_eq hn (by decide)
          refine lv_tableIn (off := 325) (tgt := 365) hx hb dL_law_40 (by rw [ex]; decide) (by rw [ex]; decide) (by rw [ex]; rfl) (by decide) ?_
          exact law_c5 hfl C0 hX hi hL hbl X hZ hP hI hS hl hc' hs' kk
        · have ex : y = 6 := sw_eq hn (by decide)
          refine lv_tableIn (off := 362) (tgt := 402) hx hb dL_law_40 (by rw [ex]; decide) (by rw [ex]; decide) (by rw [ex]; rfl) (by decide) ?_
          exact law_c6 hfl C0 hX hi hL hbl X hZ hP hI hS hl hc' hs' kk
        · have ex : y = 7 := sw_eq hn (by decide)
          refine lv_tableIn (off := 399) (tgt := 439) hx hb dL_law_40 (by rw [ex]; decide) (by rw [ex]; decide) (by rw [ex]; rfl) (by decide) ?_
          exact law_c7 hfl C0 hX hi hL hbl X hZ hP hI hS hl hc' hs' kk
        · have ex : y = 8 := sw_eq hn (by decide)
          refine lv_tableIn (off := 424) (tgt := 464) hx hb dL_law_40 (by rw [ex]; decide) (by rw [ex]; decide) (by rw [ex]; rfl) (by decide) ?_
          exact law_c8 hfl C0 hX hi hL hbl X hZ hP hI hS hl hc' hs' kk
        · have ex : y = 9 := sw_eq hn (by decide)
          refine lv_tableIn (off := 437) (tgt := 477) hx hb dL_law_40 (by rw [ex]; decide) (by rw [ex]; decide) (by rw [ex]; rfl) (by decide) ?_
          exact law_c9 hfl C0 hX hi hL hbl X hZ hP hI hS hl hc' hs' kk
        · have ex : y = 10 := sw_eq hn (by decide)
          refine lv_tableIn (off := 474) (tgt := 514) hx hb dL_law_40 (by rw [ex]; decide) (by rw [ex]; decide) (by rw [ex]; rfl) (by decide) ?_
          exact law_c10 hfl C0 hX hi hL hbl X hZ hP hI hS hl hc' hs' kk
        · have ex : y = 11 := sw_eq hn (by decide)
          refine lv_tableIn (off := 499) (tgt := 539) hx hb dL_law_40 (by rw [ex]; decide) (by rw [ex]; decide) (by rw [ex]; rfl) (by decide) ?_
          exact law_c11 hfl C0 hX hi hL hbl X hZ hP hI hS hl hc' hs' kk
        · have ex : y = 12 := sw_eq hn (by decide)
          refine lv_tableIn (off := 524) (tgt := 564) hx hb dL_law_40 (by rw [ex]; decide) (by rw [ex]; decide) (by rw [ex]; rfl) (by decide) ?_
          exact law_c12 hfl C0 hX hi hL hbl X hZ hP hI hS hl hc' hs' kk
        · have ex : y = 13 := sw_eq hn (by decide)
          refine lv_tableIn (off := 573) (tgt := 613) hx hb dL_law_40 (by rw [ex]; decide) (by rw [ex]; decide) (by rw [ex]; rfl) (by decide) ?_
          exact law_c13 hfl C0 hX hi hL hbl X hZ hP hI hS hl hc' hs' kk
        · have ex : y = 14 := sw_eq hn (by decide)
          refine lv_tableIn (off := 610) (tgt := 650) hx hb dL_law_40 (by rw [ex]; decide) (by rw [ex]; decide) (by rw [ex]; rfl) (by decide) ?_
          exact law_c14 hfl C0 hX hi hL hbl X hZ hP hI hS hl hc' hs' kk
        · have ex : y = 15 := sw_eq hn (by decide)
          refine lv_tableIn (off := 647) (tgt := 687) hx hb dL_law_40 (by rw [ex]; decide) (by rw [ex]; decide) (by rw [ex]; rfl) (by decide) ?_
          exact law_c15 hfl C0 hX hi hL hbl X hZ hP hI hS hl hc' hs' kk
        · have ex : y = 16 := sw_eq hn (by decide)
          refine lv_tableIn (off := 672) (tgt := 712) hx hb dL_law_40 (by rw [ex]; decide) (by rw [ex]; decide) (by rw [ex]; rfl) (by decide) ?_
          exact law_c16 hfl C0 hX hi hL hbl X hZ hP hI hS hl hc' hs' kk
        · have ex : y = 17 := sw_eq hn (by decide)
          refine lv_tableIn (off := 697) (tgt := 737) hx hb dL_law_40 (by rw [ex]; decide) (by rw [ex]; decide) (by rw [ex]; rfl) (by decide) ?_
          exact law_c17 hfl C0 hX hi hL hbl X hZ hP hI hS hl hc' hs' kk
        · have ex : y = 18 := sw_eq hn (by decide)
          refine lv_tableIn (off := 722) (tgt := 762) hx hb dL_law_40 (by rw [ex]; decide) (by rw [ex]; decide) (by rw [ex]; rfl) (by decide) ?_
          exact law_c18 hfl C0 hX hi hL hbl X hZ hP hI hS hl hc' hs' kk
        · have ex : y = 19 := sw_eq hn (by decide)
          refine lv_tableIn (off := 759) (tgt := 799) hx hb dL_law_40 (by rw [ex]; decide) (by rw [ex]; decide) (by rw [ex]; rfl) (by decide) ?_
          exact law_c19 hfl C0 hX hi hL hbl X hZ hP hI hS hl hc' hs' kk
        · have ex : y = 20 := sw_eq hn (by decide)
          refine lv_tableIn (off := 772) (tgt := 812) hx hb dL_law_40 (by rw [ex]; decide) (by rw [ex]; decide) (by rw [ex]; rfl) (by decide) ?_
          exact law_c20 hfl C0 hX hi hL hbl X hZ hP hI hS hl hc' hs' kk
        · have ex : y = 21 := sw_eq hn (by decide)
          refine lv_tableIn (off := 797) (tgt := 837) hx hb dL_law_40 (by rw [ex]; decide) (by rw [ex]; decide) (by rw [ex]; rfl) (by decide) ?_
          exact law_c21 hfl C0 hX hi hL hbl X hZ hP hI hS hl hc' hs' kk
        · have ex : y = 22 := sw_eq hn (by decide)
          refine lv_tableIn (off := 822) (tgt := 862) hx hb dL_law_40 (by rw [ex]; decide) (by rw [ex]; decide) (by rw [ex]; rfl) (by decide) ?_
          exact law_c22 hfl C0 hX hi hL hbl X hZ hP hI hS hl hc' hs' kk
        · have ex : y = 23 := sw_eq hn (by decide)
          refine lv_tableIn (off := 847) (tgt := 887) hx hb dL_law_40 (by rw [ex]; decide) (by rw [ex]; decide) (by rw [ex]; rfl) (by decide) ?_
          exact law_c23 hfl C0 hX hi hL hbl X hZ hP hI hS hl hc' hs' kk
        · have ex : y = 24 := sw_eq hn (by decide)
          refine lv_tableIn (off := 896) (tgt := 936) hx hb dL_law_40 (by rw [ex]; decide) (by rw [ex]; decide) (by rw [ex]; rfl) (by decide) ?_
          exact law_c24 hfl C0 hX hi hL hbl X hZ hP hI hS hl hc' hs' kk
        · have ex : y = 25 := sw_eq hn (by decide)
          refine lv_tableIn (off := 933) (tgt := 973) hx hb dL_law_40 (by rw [ex]; decide) (by rw [ex]; decide) (by rw [ex]; rfl) (by decide) ?_
          exact law_c25 hfl C0 hX hi hL hbl X hZ hP hI hS hl hc' hs' kk
        · have ex : y = 26 := sw_eq hn (by decide)
          refine lv_tableIn (off := 1006) (tgt := 1046) hx hb dL_law_40 (by rw [ex]; decide) (by rw [ex]; decide) (by rw [ex]; rfl) (by decide) ?_
          exact law_c26 hfl C0 hX hi hL hbl X hZ hP hI hS hl hc' hs' kk
        · have ex : y = 27 := sw_eq hn (by decide)
          refine lv_tableIn (off := 1067) (tgt := 1107) hx hb dL_law_40 (by rw [ex]; decide) (by rw [ex]; decide) (by rw [ex]; rfl) (by decide) ?_
          exact law_c27 hfl C0 hX hi hL hbl X hZ hP hI hS hl hc' hs' kk
        · have ex : y = 28 := sw_eq hn (by decide)
          refine lv_tableIn (off := 1080) (tgt := 1120) hx hb dL_law_40 (by rw [ex]; decide) (by rw [ex]; decide) (by rw [ex]; rfl) (by decide) ?_
          exact law_c28 hfl C0 hX hi hL hbl X hZ hP hI hS hl hc' hs' kk
        · have ex : y = 29 := sw_eq hn (by decide)
          refine lv_tableIn (off := 1093) (tgt := 1133) hx hb dL_law_40 (by rw [ex]; decide) (by rw [ex]; decide) (by rw [ex]; rfl) (by decide) ?_
          exact law_c29 hfl C0 hX hi hL hbl X hZ hP hI hS hl hc' hs' kk
        · have ex : y = 30 := sw_eq hn (by decide)
          refine lv_tableIn (off := 1118) (tgt := 1158) hx hb dL_law_40 (by rw [ex]; decide) (by rw [ex]; decide) (by rw [ex]; rfl) (by decide) ?_
          exact law_c30 hfl C0 hX hi hL hbl X hZ hP hI hS hl hc' hs' kk
        · have ex : y = 31 := sw_eq hn (by decide)
          refine lv_tableIn (off := 1179) (tgt := 1219) hx hb dL_law_40 (by rw [ex]; decide) (by rw [ex]; decide) (by rw [ex]; rfl) (by decide) ?_
          exact law_c31 hfl C0 hX hi hL hbl X hZ hP hI hS hl hc' hs' kk
        · have ex : y = 32 := sw_eq hn (by decide)
          refine lv_tableIn (off := 1228) (tgt := 1268) hx hb dL_law_40 (by rw [ex]; decide) (by rw [ex]; decide) (by rw [ex]; rfl) (by decide) ?_
          exact law_c32 hfl C0 hX hi hL hbl X hZ hP hI hS hl hc' hs' kk
        · have ex : y = 33 := sw_eq hn (by decide)
          refine lv_tableIn (off := 1277) (tgt := 1317) hx hb dL_law_40 (by rw [ex]; decide) (by rw [ex]; decide) (by rw [ex]; rfl) (by decide) ?_
          exact law_c33 hfl C0 hX hi hL hbl X hZ hP hI hS hl hc' hs' kk
        · have ex : y = 34 := sw_eq hn (by decide)
          refine lv_tableIn (off := 1317) (tgt := 1357) hx hb dL_law_40 (by rw [ex]; decide) (by rw [ex]; decide) (by rw [ex]; rfl) (by decide) ?_
          exact law_c34 hfl C0 hX hi hL hbl X hZ hP hI hS hl hc' hs' kk
        · have ex : y = 35 := sw_eq hn (by decide)
          refine lv_tableIn (off := 1390) (tgt := 1430) hx hb dL_law_40 (by rw [ex]; decide) (by rw [ex]; decide) (by rw [ex]; rfl) (by decide) ?_
          exact law_c35 hfl C0 hX hi hL hbl X hZ hP hI hS hl hc' hs' kk
        · have ex : y = 36 := sw_eq hn (by decide)
          refine lv_tableIn (off := 1415) (tgt := 1455) hx hb dL_law_40 (by rw [ex]; decide) (by rw [ex]; decide) (by rw [ex]; rfl) (by decide) ?_
          exact law_c36 hfl C0 hX hi hL hbl X hZ hP hI hS hl hc' hs' kk
end
