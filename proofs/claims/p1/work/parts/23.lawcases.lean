theorem law_end {p : Program} {l : Launch} {e : Env} {s : State} {m : MethodId} {below : List Frame} {meth : Method} {c : Code} {b : Nat} {xs : Nat → Int32} {H : Heap} {locs : List Loc} {cells slots : Nat} {ls : Array Slot} (C0 : CX p s m #[Value.ref b] c code 8 RL) (hr : meth.sig.returnType = ret) (hlk : meth.locks = false) (hX : va_X b 6 xs s s.heap) (hbl : b < s.heap.size) (hS : va_S (fun q => s.heap.size ≤ q) s.heap H locs) (hl : lv_has ls 8 [(0, .ref b), (4, .int 0)]) (hc : cells ≤ 600002) (hs : slots ≤ 7302232) : W p l e room_1 s m #[Value.ref b] below meth c H locs cells slots (lw_Z below #[Value.ref b] s) (F0 m 1507 ls []) := by
  obtain ⟨hx, hb, hml, hown, hts⟩ := id C0
  have hbA : ¬ (fun q => s.heap.size ≤ q) b := Nat.not_le.mpr hbl
  refine lv_iinc (v := 6) (lv' := [(4, .int 6), (0, .ref b)]) hx hb dL_law_1507 hl (k := 1) rfl (by decide) (by decide) rfl (fun ls hl => ?_)
  refine lv_goto (tgt := 23) hx hb dL_law_1510 (by decide) ?_
  refine lv_iload hx hb dL_law_23 (lv_at hl 0 rfl) ?_
  refine lv_aload_n hx hb dL_law_25 rfl (lv_at hl 1 rfl) ?_
  refine va_slen hx hb hX hbl hbA hS dL_law_26 ?_
  refine lv_bipush (v := 6) hx hb dL_law_27 (by decide) ?_
  refine lv_isub hx hb dL_law_29 ?_
  refine lv_icmp_gt (tgt := 1513) hx hb dL_law_30 (by decide) (fun _ => ?_) (fun z => absurd (by decide) z)
  refine lv_iconst (v := 1) hx hb dL_law_1513 (by decide) ?_
  refine va_forget (fun q hq => hS.2.2 q hq) ?_
  refine W.widen (k := 600002) (n := 7302232) hc hs ?_
  exact lw_ret hx hb hr hlk dL_law_1514
/-- what a throw needs of the law's start -/
def XL (sa1 sa2 : Nat) (s : State) : Prop := vx_Zq Bundle.tN "UNASSIGNED_STACK" Bundle.steD (fun q => s.heap.size ≤ q) s s.heap ∧ vx_Zq Bundle.tN "SUPPRESSED_SENTINEL" Bundle.listD (fun q => s.heap.size ≤ q) s s.heap ∧ vk_R "WhoBacks" 292 "no such shelf" sa1 s ∧ vk_R "WhoBacks" 299 "no row" sa2 s ∧ va_Nc "java/lang/IllegalStateException" "java/lang/IllegalArgumentException" s ∧ FWp s
theorem XF_of {D : va_G} {cA : Nat → ClassId} {ad : Nat → Nat} {s U : State} {H : Heap} {locs : List Loc} {sa1 sa2 : Nat} (X : WX D cA ad (fun q => s.heap.size ≤ q) s) (hZ : XL sa1 sa2 s) (hS : va_S (fun q => s.heap.size ≤ q) s.heap H locs) (hU : U.heap = H) (hW : s.WarmedH U.vm) : XF ad sa1 sa2 H.size U := by
  subst hU
  exact ⟨vx_Zq.moved hW.alike ((vx_Zq.kept hZ.1 hS.2.1).narrow (FA_sub X hS)), vx_Zq.moved hW.alike ((vx_Zq.kept hZ.2.1 hS.2.1).narrow (FA_sub X hS)), vk_R.warm hW hZ.2.2.1, vk_R.warm hW hZ.2.2.2.1, va_Nc.moved hW.alike hZ.2.2.2.2.1, FWp_moved hW.alike hZ.2.2.2.2.2⟩
theorem w01 {w : Int32} : (w = 0 ∨ w = 1) ↔ ¬ (w < 0 ∨ 1 < w) := by
  constructor
  · rintro (rfl | rfl) <;> decide
  · intro h
    have h1 : ¬ w < 0 := fun q => h (Or.inl q)
    have h2 : ¬ 1 < w := fun q => h (Or.inr q)
    obtain ⟨j, hj, rfl⟩ : ∃ j : Nat, j < 2 ∧ w = nI j := ixN (M := 2) (by decide) h1 (Int32.not_le.mp (nsucc (by decide) h2))
    rcases (show j = 0 ∨ j = 1 by omega) with rfl | rfl
    · exact Or.inl rfl
    · exact Or.inr rfl
theorem eq_b {w : Int32} : (if w = 0 ∨ w = 1 then (-3 : Int32) else -1) = (if w < 0 ∨ 1 < w then -1 else -3) := by
  by_cases h : w < 0 ∨ 1 < w
  · rw [if_pos h, if_neg (fun q => w01.mp q h)]
  · rw [if_neg h, if_pos (w01.mpr h)]
theorem eq_v {v w : Int32} : (if v < 0 ∨ 3 ≤ v then (-1 : Int32) else if w = 0 ∨ w = 1 then 0 else -1) = (if (v < 0 ∨ 3 ≤ v) ∨ (w < 0 ∨ 1 < w) then -1 else 0) := by
  by_cases h : v < 0 ∨ 3 ≤ v
  · rw [if_pos h, if_pos (Or.inl h)]
  · rw [if_neg h]
    by_cases h2 : w < 0 ∨ 1 < w
    · rw [if_neg (fun q => w01.mp q h2), if_pos (Or.inr h2)]
    · rw [if_pos (w01.mpr h2), if_neg (fun q => q.elim h h2)]
theorem eq_d {a b : Int32} : (if a < 1 ∨ 5 < a ∨ b < 1 ∨ 60 < b then (-1 : Int32) else -3) = (if (a < 1 ∨ 5 < a) ∨ (b < 1 ∨ 60 < b) then -1 else -3) := by
  simp only [or_assoc]
theorem eq_k {d w k f : Int32} : (if (d < 0 ∨ 8 ≤ d) ∨ w < 0 ∨ 1 < w then (-1 : Int32) else if w = 0 then 0 else if k < 0 ∨ 8 ≤ k ∨ f < 0 ∨ 9 < f then -1 else 0) = (if (d < 0 ∨ 8 ≤ d) ∨ (w < 0 ∨ 1 < w) ∨ (w = 1 ∧ ((k < 0 ∨ 8 ≤ k) ∨ (f < 0 ∨ 9 < f))) then -1 else 0) := by
  by_cases h : (d < 0 ∨ 8 ≤ d) ∨ w < 0 ∨ 1 < w
  · rw [if_pos h, if_pos (h.elim Or.inl (fun q => Or.inr (Or.inl q)))]
  · rw [if_neg h]
    rcases w01.mpr (fun q => h (Or.inr q)) with rfl | rfl
    · rw [if_pos rfl, if_neg]
      rintro (q | q | q)
      · exact h (Or.inl q)
      · exact h (Or.inr q)
      · exact absurd q.1 (by decide)
    · rw [if_neg (by decide)]
      by_cases h2 : k < 0 ∨ 8 ≤ k ∨ f < 0 ∨ 9 < f
      · rw [if_pos h2, if_pos (Or.inr (Or.inr ⟨rfl, or_assoc.mpr h2⟩))]
      · rw [if_neg h2, if_neg]
        rintro (q | q | q)
        · exact h (Or.inl q)
        · exact h (Or.inr q)
        · exact h2 (or_assoc.mp q.2)
theorem eq_r {d w n : Int32} : (if (d < 0 ∨ 8 ≤ d) ∨ w < 0 ∨ 2 < w ∨ 100 < n then (-1 : Int32) else if n < 0 then -14 else 0) = (if (d < 0 ∨ 8 ≤ d) ∨ (w < 0 ∨ 2 < w) ∨ 100 < n then -1 else if n < 0 then -14 else 0) := by
  simp only [or_assoc]
theorem gL176 : GoodIn tbg (wsV RL 176 RX7 yX7_toss (WYW yX7_toss cX7_toss 4 (some .int) hhT)) := by
  refine tbg_good (fun w hw => ?_)
  simp only [wsV, List.cons_append, List.nil_append, List.mem_cons] at hw
  rcases hw with rfl | rfl | rfl | rfl | hw
  · exact tm 893 (by decide +kernel) (by decide +kernel)
  · exact tm 894 (by decide +kernel) (by decide +kernel)
  · exact tm 895 (by decide +kernel) (by decide +kernel)
  · exact wI7
  · exact WYW_good wcT w hw
theorem gL159 : GoodIn tbg (va_wsS RL 159 yL_element (WYW yL_element cL_element 5 (some .int) hhE)) := by
  refine tbg_good (fun w hw => ?_)
  simp only [va_wsS, List.cons_append, List.nil_append, List.mem_cons] at hw
  rcases hw with rfl | rfl | rfl | hw
  · exact tm 1000 (by decide +kernel) (by decide +kernel)
  · exact tm 1001 (by decide +kernel) (by decide +kernel)
  · exact tm 55 (by decide +kernel) (by decide +kernel)
  · exact WYW_good wcE w hw
set_option maxHeartbeats 4000000 in
set_option maxRecDepth 100000 in
theorem law_c0 {p : Program} {l : Launch} {e : Env} {s : State} {m : MethodId} {below : List Frame} {meth : Method} {c : Code} {D : va_G} {cA : Nat → ClassId} {ad : Nat → Nat} {o : Int64} {σ : Mem} {b : Nat} {xs : Nat → Int32} {H : Heap} {locs : List Loc} {cells slots : Nat} {ls : Array Slot} {sa1 sa2 : Nat} (hfl : l.stackTraces = false) (C0 : CX p s m #[Value.ref b] c code 8 RL) (hr : meth.sig.returnType = ret) (hlk : meth.locks = false) (hX : va_X b 6 xs s s.heap) (hbl : b < s.heap.size) (X : WX D cA ad (fun q => s.heap.size ≤ q) s) (hZ : XL sa1 sa2 s) (hP : WP D cA ad o σ H) (hF : Fr σ) (hS : va_S (fun q => s.heap.size ≤ q) s.heap H locs) (hl : lv_has ls 8 [(0, .ref b), (1, .ref (ad 66)), (2, .ref (ad 91)), (3, .ref (ad 105)), (4, .int 0)]) (hc : cells ≤ 600000) (hs : slots ≤ 7300000) : W p l e room_1 s m #[Value.ref b] below meth c H locs cells slots (lw_Z below #[Value.ref b] s) (F0 m 204 ls []) := by
  obtain ⟨hx, hb, hml, hown, hts⟩ := id C0
  have hbA : ¬ (fun q => s.heap.size ≤ q) b := Nat.not_le.mpr hbl
  refine lv_aload_n hx hb dL_law_204 rfl (lv_at hl 1 rfl) ?_
  refine lv_aload_n hx hb dL_law_205 rfl (lv_at hl 0 rfl) ?_
  refine lv_iload hx hb dL_law_206 (lv_at hl 4 rfl) ?_
  refine lv_iconst (v := 1) hx hb dL_law_208 (by decide) ?_
  refine lv_iadd hx hb dL_law_209 ?_
  refine lv_topE (y := 1) (by decide) ?_
  refine va_sld (xs := xs) hx hb hX hbl hbA hS (by unfold vp_in; decide) dL_law_210 ?_
  refine lv_topE (y := (xs 1)) rfl ?_
  refine r_ci X hS (r_runV (As := [.int (xs 1)]) (rest := []) C0 X hP L_L_21 (fun sz => c_X7_road_f l D cA ad o σ (xs 1) hF sz) (by decide) (show kd 66 = (7, 8) from rfl) (by decide) rfl ⟨(Nat.le_of_ble_eq_true rfl), (Nat.le_of_ble_eq_true rfl)⟩ rfl hl.1 rfl (Nat.le_of_ble_eq_true rfl) dL_law_211 ⟨Nat.le_trans hc (Nat.le_of_ble_eq_true rfl), Nat.le_trans hs (Nat.le_of_ble_eq_true rfl)⟩) (fun r_1 σ_1 H locs hw_1 hP hS => ?_)
  refine lv_aload_n hx hb dL_law_214 rfl (lv_at hl 2 rfl) ?_
  refine lv_aload_n hx hb dL_law_215 rfl (lv_at hl 0 rfl) ?_
  refine lv_iload hx hb dL_law_216 (lv_at hl 4 rfl) ?_
  refine lv_iconst (v := 1) hx hb dL_law_218 (by decide) ?_
  refine lv_iadd hx hb dL_law_219 ?_
  refine lv_topE (y := 1) (by decide) ?_
  refine va_sld (xs := xs) hx hb hX hbl hbA hS (by unfold vp_in; decide) dL_law_220 ?_
  refine lv_topE (y := (xs 1)) rfl ?_
  refine r_ci X hS (r_runV (As := [.int (xs 1)]) (rest := [.int r_1]) C0 X hP L_L_25 (fun sz => c_X8_road_f l D cA ad o σ_1 (xs 1) (FrM_of hF hw_1.2) sz) (by decide) (show kd 91 = (8, 24) from rfl) (by decide) rfl ⟨(Nat.le_of_ble_eq_true rfl), (Nat.le_of_ble_eq_true rfl)⟩ rfl hl.1 rfl (Nat.le_of_ble_eq_true rfl) dL_law_221 ⟨Nat.le_trans hc (Nat.le_of_ble_eq_true rfl), Nat.le_trans hs (Nat.le_of_ble_eq_true rfl)⟩) (fun r_2 σ_2 H locs hw_2 hP hS => ?_)
  refine lv_icmp_eq (tgt := 1507) hx hb dL_law_224 (by decide) (fun c_3 => ?_) (fun c_3 => absurd (by rw [hw_1.1, hw_2]) c_3)
  exact law_end C0 hr hlk hX hbl hS (lv_sub hl [0, 4] rfl) (Nat.le_trans hc (Nat.le_of_ble_eq_true rfl)) (Nat.le_trans hs (Nat.le_of_ble_eq_true rfl))
set_option maxHeartbeats 4000000 in
set_option maxRecDepth 100000 in
theorem law_c1 {p : Program} {l : Launch} {e : Env} {s : State} {m : MethodId} {below : List Frame} {meth : Method} {c : Code} {D : va_G} {cA : Nat → ClassId} {ad : Nat → Nat} {o : Int64} {σ : Mem} {b : Nat} {xs : Nat → Int32} {H : Heap} {locs : List Loc} {cells slots : Nat} {ls : Array Slot} {sa1 sa2 : Nat} (hfl : l.stackTraces = false) (C0 : CX p s m #[Value.ref b] c code 8 RL) (hr : meth.sig.returnType = ret) (hlk : meth.locks = false) (hX : va_X b 6 xs s s.heap) (hbl : b < s.heap.size) (X : WX D cA ad (fun q => s.heap.size ≤ q) s) (hZ : XL sa1 sa2 s) (hP : WP D cA ad o σ H) (hF : Fr σ) (hS : va_S (fun q => s.heap.size ≤ q) s.heap H locs) (hl : lv_has ls 8 [(0, .ref b), (1, .ref (ad 66)), (2, .ref (ad 91)), (3, .ref (ad 105)), (4, .int 0)]) (hc : cells ≤ 600000) (hs : slots ≤ 7300000) : W p l e room_1 s m #[Value.ref b] below meth c H locs cells slots (lw_Z below #[Value.ref b] s) (F0 m 229 ls []) := by
  obtain ⟨hx, hb, hml, hown, hts⟩ := id C0
  have hbA : ¬ (fun q => s.heap.size ≤ q) b := Nat.not_le.mpr hbl
  refine lv_aload_n hx hb dL_law_229 rfl (lv_at hl 1 rfl) ?_
  refine lv_aload_n hx hb dL_law_230 rfl (lv_at hl 0 rfl) ?_
  refine lv_iload hx hb dL_law_231 (lv_at hl 4 rfl) ?_
  refine lv_iconst (v := 1) hx hb dL_law_233 (by decide) ?_
  refine lv_iadd hx hb dL_law_234 ?_
  refine lv_topE (y := 1) (by decide) ?_
  refine va_sld (xs := xs) hx hb hX hbl hbA hS (by unfold vp_in; decide) dL_law_235 ?_
  refine lv_topE (y := (xs 1)) rfl ?_
  refine lv_aload_n hx hb dL_law_236 rfl (lv_at hl 0 rfl) ?_
  refine lv_iload hx hb dL_law_237 (lv_at hl 4 rfl) ?_
  refine lv_iconst (v := 2) hx hb dL_law_239 (by decide) ?_
  refine lv_iadd hx hb dL_law_240 ?_
  refine lv_topE (y := 2) (by decide) ?_
  refine va_sld (xs := xs) hx hb hX hbl hbA hS (by unfold vp_in; decide) dL_law_241 ?_
  refine lv_topE (y := (xs 2)) rfl ?_
  refine r_ci X hS (r_runV (As := [.int (xs 1), .int (xs 2)]) (rest := []) C0 X hP L_L_26 (fun sz => c_X7_piece_f l D cA ad o σ (xs 1) (xs 2) hF sz) (by decide) (show kd 66 = (7, 8) from rfl) (by decide) rfl ⟨(Nat.le_of_ble_eq_true rfl), (Nat.le_of_ble_eq_true rfl)⟩ rfl hl.1 rfl (Nat.le_of_ble_eq_true rfl) dL_law_242 ⟨Nat.le_trans hc (Nat.le_of_ble_eq_true rfl), Nat.le_trans hs (Nat.le_of_ble_eq_true rfl)⟩) (fun r_1 σ_1 H locs hw_1 hP hS => ?_)
  refine lv_aload_n hx hb dL_law_245 rfl (lv_at hl 2 rfl) ?_
  refine lv_aload_n hx hb dL_law_246 rfl (lv_at hl 0 rfl) ?_
  refine lv_iload hx hb dL_law_247 (lv_at hl 4 rfl) ?_
  refine lv_iconst (v := 1) hx hb dL_law_249 (by decide) ?_
  refine lv_iadd hx hb dL_law_250 ?_
  refine lv_topE (y := 1) (by decide) ?_
  refine va_sld (xs := xs) hx hb hX hbl hbA hS (by unfold vp_in; decide) dL_law_251 ?_
  refine lv_topE (y := (xs 1)) rfl ?_
  refine lv_aload_n hx hb dL_law_252 rfl (lv_at hl 0 rfl) ?_
  refine lv_iload hx hb dL_law_253 (lv_at hl 4 rfl) ?_
  refine lv_iconst (v := 2) hx hb dL_law_255 (by decide) ?_
  refine lv_iadd hx hb dL_law_256 ?_
  refine lv_topE (y := 2) (by decide) ?_
  refine va_sld (xs := xs) hx hb hX hbl hbA hS (by unfold vp_in; decide) dL_law_257 ?_
  refine lv_topE (y := (xs 2)) rfl ?_
  refine r_ci X hS (r_runV (As := [.int (xs 1), .int (xs 2)]) (rest := [.int r_1]) C0 X hP L_L_30 (fun sz => c_X8_piece_f l D cA ad o σ_1 (xs 1) (xs 2) (FrM_of hF hw_1.2) sz) (by decide) (show kd 91 = (8, 24) from rfl) (by decide) rfl ⟨(Nat.le_of_ble_eq_true rfl), (Nat.le_of_ble_eq_true rfl)⟩ rfl hl.1 rfl (Nat.le_of_ble_eq_true rfl) dL_law_258 ⟨Nat.le_trans hc (Nat.le_of_ble_eq_true rfl), Nat.le_trans hs (Nat.le_of_ble_eq_true rfl)⟩) (fun r_2 σ_2 H locs hw_2 hP hS => ?_)
  refine lv_icmp_eq (tgt := 1507) hx hb dL_law_261 (by decide) (fun c_3 => ?_) (fun c_3 => absurd (by rw [hw_1.1, hw_2]) c_3)
  exact law_end C0 hr hlk hX hbl hS (lv_sub hl [0, 4] rfl) (Nat.le_trans hc (Nat.le_of_ble_eq_true rfl)) (Nat.le_trans hs (Nat.le_of_ble_eq_true rfl))
set_option maxHeartbeats 4000000 in
set_option maxRecDepth 100000 in
theorem law_c2 {p : Program} {l : Launch} {e : Env} {s : State} {m : MethodId} {below : List Frame} {meth : Method} {c : Code} {D : va_G} {cA : Nat → ClassId} {ad : Nat → Nat} {o : Int64} {σ : Mem} {b : Nat} {xs : Nat → Int32} {H : Heap} {locs : List Loc} {cells slots : Nat} {ls : Array Slot} {sa1 sa2 : Nat} (hfl : l.stackTraces = false) (C0 : CX p s m #[Value.ref b] c code 8 RL) (hr : meth.sig.returnType = ret) (hlk : meth.locks = false) (hX : va_X b 6 xs s s.heap) (hbl : b < s.heap.size) (X : WX D cA ad (fun q => s.heap.size ≤ q) s) (hZ : XL sa1 sa2 s) (hP : WP D cA ad o σ H) (hF : Fr σ) (hS : va_S (fun q => s.heap.size ≤ q) s.heap H locs) (hl : lv_has ls 8 [(0, .ref b), (1, .ref (ad 66)), (2, .ref (ad 91)), (3, .ref (ad 105)), (4, .int 0)]) (hc : cells ≤ 600000) (hs : slots ≤ 7300000) : W p l e room_1 s m #[Value.ref b] below meth c H locs cells slots (lw_Z below #[Value.ref b] s) (F0 m 266 ls []) := by
  obtain ⟨hx, hb, hml, hown, hts⟩ := id C0
  have hbA : ¬ (fun q => s.heap.size ≤ q) b := Nat.not_le.mpr hbl
  refine lv_aload_n hx hb dL_law_266 rfl (lv_at hl 1 rfl) ?_
  refine lv_aload_n hx hb dL_law_267 rfl (lv_at hl 0 rfl) ?_
  refine lv_iload hx hb dL_law_268 (lv_at hl 4 rfl) ?_
  refine lv_iconst (v := 1) hx hb dL_law_270 (by decide) ?_
  refine lv_iadd hx hb dL_law_271 ?_
  refine lv_topE (y := 1) (by decide) ?_
  refine va_sld (xs := xs) hx hb hX hbl hbA hS (by unfold vp_in; decide) dL_law_272 ?_
  refine lv_topE (y := (xs 1)) rfl ?_
  refine r_ci X hS (r_runV (As := [.int (xs 1)]) (rest := []) C0 X hP L_L_31 (fun sz => c_X7_room_f l D cA ad o σ (xs 1) hF sz) (by decide) (show kd 66 = (7, 8) from rfl) (by decide) rfl ⟨(Nat.le_of_ble_eq_true rfl), (Nat.le_of_ble_eq_true rfl)⟩ rfl hl.1 rfl (Nat.le_of_ble_eq_true rfl) dL_law_273 ⟨Nat.le_trans hc (Nat.le_of_ble_eq_true rfl), Nat.le_trans hs (Nat.le_of_ble_eq_true rfl)⟩) (fun r_1 σ_1 H locs hw_1 hP hS => ?_)
  refine lv_aload_n hx hb dL_law_276 rfl (lv_at hl 2 rfl) ?_
  refine lv_aload_n hx hb dL_law_277 rfl (lv_at hl 0 rfl) ?_
  refine lv_iload hx hb dL_law_278 (lv_at hl 4 rfl) ?_
  refine lv_iconst (v := 1) hx hb dL_law_280 (by decide) ?_
  refine lv_iadd hx hb dL_law_281 ?_
  refine lv_topE (y := 1) (by decide) ?_
  refine va_sld (xs := xs) hx hb hX hbl hbA hS (by unfold vp_in; decide) dL_law_282 ?_
  refine lv_topE (y := (xs 1)) rfl ?_
  refine r_ci X hS (r_runV (As := [.int (xs 1)]) (rest := [.int r_1]) C0 X hP L_L_34 (fun sz => c_X8_room_f l D cA ad o σ_1 (xs 1) (FrM_of hF hw_1.2) sz) (by decide) (show kd 91 = (8, 24) from rfl) (by decide) rfl ⟨(Nat.le_of_ble_eq_true rfl), (Nat.le_of_ble_eq_true rfl)⟩ rfl hl.1 rfl (Nat.le_of_ble_eq_true rfl) dL_law_283 ⟨Nat.le_trans hc (Nat.le_of_ble_eq_true rfl), Nat.le_trans hs (Nat.le_of_ble_eq_true rfl)⟩) (fun r_2 σ_2 H locs hw_2 hP hS => ?_)
  refine lv_icmp_eq (tgt := 1507) hx hb dL_law_286 (by decide) (fun c_3 => ?_) (fun c_3 => absurd (by rw [hw_1.1, hw_2]) c_3)
  exact law_end C0 hr hlk hX hbl hS (lv_sub hl [0, 4] rfl) (Nat.le_trans hc (Nat.le_of_ble_eq_true rfl)) (Nat.le_trans hs (Nat.le_of_ble_eq_true rfl))
set_option maxHeartbeats 4000000 in
set_option maxRecDepth 100000 in
theorem law_c3 {p : Program} {l : Launch} {e : Env} {s : State} {m : MethodId} {below : List Frame} {meth : Method} {c : Code} {D : va_G} {cA : Nat → ClassId} {ad : Nat → Nat} {o : Int64} {σ : Mem} {b : Nat} {xs : Nat → Int32} {H : Heap} {locs : List Loc} {cells slots : Nat} {ls : Array Slot} {sa1 sa2 : Nat} (hfl : l.stackTraces = false) (C0 : CX p s m #[Value.ref b] c code 8 RL) (hr : meth.sig.returnType = ret) (hlk : meth.locks = false) (hX : va_X b 6 xs s s.heap) (hbl : b < s.heap.size) (X : WX D cA ad (fun q => s.heap.size ≤ q) s) (hZ : XL sa1 sa2 s) (hP : WP D cA ad o σ H) (hF : Fr σ) (hS : va_S (fun q => s.heap.size ≤ q) s.heap H locs) (hl : lv_has ls 8 [(0, .ref b), (1, .ref (ad 66)), (2, .ref (ad 91)), (3, .ref (ad 105)), (4, .int 0)]) (hc : cells ≤ 600000) (hs : slots ≤ 7300000) : W p l e room_1 s m #[Value.ref b] below meth c H locs cells slots (lw_Z below #[Value.ref b] s) (F0 m 291 ls []) := by
  obtain ⟨hx, hb, hml, hown, hts⟩ := id C0
  have hbA : ¬ (fun q => s.heap.size ≤ q) b := Nat.not_le.mpr hbl
  refine lv_aload_n hx hb dL_law_291 rfl (lv_at hl 1 rfl) ?_
  refine lv_aload_n hx hb dL_law_292 rfl (lv_at hl 0 rfl) ?_
  refine lv_iload hx hb dL_law_293 (lv_at hl 4 rfl) ?_
  refine lv_iconst (v := 1) hx hb dL_law_295 (by decide) ?_
  refine lv_iadd hx hb dL_law_296 ?_
  refine lv_topE (y := 1) (by decide) ?_
  refine va_sld (xs := xs) hx hb hX hbl hbA hS (by unfold vp_in; decide) dL_law_297 ?_
  refine lv_topE (y := (xs 1)) rfl ?_
  refine lv_aload_n hx hb dL_law_298 rfl (lv_at hl 0 rfl) ?_
  refine lv_iload hx hb dL_law_299 (lv_at hl 4 rfl) ?_
  refine lv_iconst (v := 2) hx hb dL_law_301 (by decide) ?_
  refine lv_iadd hx hb dL_law_302 ?_
  refine lv_topE (y := 2) (by decide) ?_
  refine va_sld (xs := xs) hx hb hX hbl hbA hS (by unfold vp_in; decide) dL_law_303 ?_
  refine lv_topE (y := (xs 2)) rfl ?_
  refine r_ci X hS (r_runV (As := [.int (xs 1), .int (xs 2)]) (rest := []) C0 X hP L_L_35 (fun sz => c_X7_cart_f l D cA ad o σ (xs 1) (xs 2) hF sz) (by decide) (show kd 66 = (7, 8) from rfl) (by decide) rfl ⟨(Nat.le_of_ble_eq_true rfl), (Nat.le_of_ble_eq_true rfl)⟩ rfl hl.1 rfl (Nat.le_of_ble_eq_true rfl) dL_law_304 ⟨Nat.le_trans hc (Nat.le_of_ble_eq_true rfl), Nat.le_trans hs (Nat.le_of_ble_eq_true rfl)⟩) (fun r_1 σ_1 H locs hw_1 hP hS => ?_)
  refine lv_aload_n hx hb dL_law_307 rfl (lv_at hl 2 rfl) ?_
  refine lv_aload_n hx hb dL_law_308 rfl (lv_at hl 0 rfl) ?_
  refine lv_iload hx hb dL_law_309 (lv_at hl 4 rfl) ?_
  refine lv_iconst (v := 1) hx hb dL_law_311 (by decide) ?_
  refine lv_iadd hx hb dL_law_312 ?_
  refine lv_topE (y := 1) (by decide) ?_
  refine va_sld (xs := xs) hx hb hX hbl hbA hS (by unfold vp_in; decide) dL_law_313 ?_
  refine lv_topE (y := (xs 1)) rfl ?_
  refine lv_aload_n hx hb dL_law_314 rfl (lv_at hl 0 rfl) ?_
  refine lv_iload hx hb dL_law_315 (lv_at hl 4 rfl) ?_
  refine lv_iconst (v := 2) hx hb dL_law_317 (by decide) ?_
  refine lv_iadd hx hb dL_law_318 ?_
  refine lv_topE (y := 2) (by decide) ?_
  refine va_sld (xs := xs) hx hb hX hbl hbA hS (by unfold vp_in; decide) dL_law_319 ?_
  refine lv_topE (y := (xs 2)) rfl ?_
  refine r_ci X hS (r_runV (As := [.int (xs 1), .int (xs 2)]) (rest := [.int r_1]) C0 X hP L_L_38 (fun sz => c_X8_cart_f l D cA ad o σ_1 (xs 1) (xs 2) (FrM_of hF hw_1.2) sz) (by decide) (show kd 91 = (8, 24) from rfl) (by decide) rfl ⟨(Nat.le_of_ble_eq_true rfl), (Nat.le_of_ble_eq_true rfl)⟩ rfl hl.1 rfl (Nat.le_of_ble_eq_true rfl) dL_law_320 ⟨Nat.le_trans hc (Nat.le_of_ble_eq_true rfl), Nat.le_trans hs (Nat.le_of_ble_eq_true rfl)⟩) (fun r_2 σ_2 H locs hw_2 hP hS => ?_)
  refine lv_icmp_eq (tgt := 1507) hx hb dL_law_323 (by decide) (fun c_3 => ?_) (fun c_3 => absurd (by rw [hw_1.1, hw_2]) c_3)
  exact law_end C0 hr hlk hX hbl hS (lv_sub hl [0, 4] rfl) (Nat.le_trans hc (Nat.le_of_ble_eq_true rfl)) (Nat.le_trans hs (Nat.le_of_ble_eq_true rfl))
set_option maxHeartbeats 4000000 in
set_option maxRecDepth 100000 in
theorem law_c4 {p : Program} {l : Launch} {e : Env} {s : State} {m : MethodId} {below : List Frame} {meth : Method} {c : Code} {D : va_G} {cA : Nat → ClassId} {ad : Nat → Nat} {o : Int64} {σ : Mem} {b : Nat} {xs : Nat → Int32} {H : Heap} {locs : List Loc} {cells slots : Nat} {ls : Array Slot} {sa1 sa2 : Nat} (hfl : l.stackTraces = false) (C0 : CX p s m #[Value.ref b] c code 8 RL) (hr : meth.sig.returnType = ret) (hlk : meth.locks = false) (hX : va_X b 6 xs s s.heap) (hbl : b < s.heap.size) (X : WX D cA ad (fun q => s.heap.size ≤ q) s) (hZ : XL sa1 sa2 s) (hP : WP D cA ad o σ H) (hF : Fr σ) (hS : va_S (fun q => s.heap.size ≤ q) s.heap H locs) (hl : lv_has ls 8 [(0, .ref b), (1, .ref (ad 66)), (2, .ref (ad 91)), (3, .ref (ad 105)), (4, .int 0)]) (hc : cells ≤ 600000) (hs : slots ≤ 7300000) : W p l e room_1 s m #[Value.ref b] below meth c H locs cells slots (lw_Z below #[Value.ref b] s) (F0 m 328 ls []) := by
  obtain ⟨hx, hb, hml, hown, hts⟩ := id C0
  have hbA : ¬ (fun q => s.heap.size ≤ q) b := Nat.not_le.mpr hbl
  refine lv_aload_n hx hb dL_law_328 rfl (lv_at hl 1 rfl) ?_
  refine lv_aload_n hx hb dL_law_329 rfl (lv_at hl 0 rfl) ?_
  refine lv_iload hx hb dL_law_330 (lv_at hl 4 rfl) ?_
  refine lv_iconst (v := 1) hx hb dL_law_332 (by decide) ?_
  refine lv_iadd hx hb dL_law_333 ?_
  refine lv_topE (y := 1) (by decide) ?_
  refine va_sld (xs := xs) hx hb hX hbl hbA hS (by unfold vp_in; decide) dL_law_334 ?_
  refine lv_topE (y := (xs 1)) rfl ?_
  refine lv_aload_n hx hb dL_law_335 rfl (lv_at hl 0 rfl) ?_
  refine lv_iload hx hb dL_law_336 (lv_at hl 4 rfl) ?_
  refine lv_iconst (v := 2) hx hb dL_law_338 (by decide) ?_
  refine lv_iadd hx hb dL_law_339 ?_
  refine lv_topE (y := 2) (by decide) ?_
  refine va_sld (xs := xs) hx hb hX hbl hbA hS (by unfold vp_in; decide) dL_law_340 ?_
  refine lv_topE (y := (xs 2)) rfl ?_
  refine r_ci X hS (r_runV (As := [.int (xs 1), .int (xs 2)]) (rest := []) C0 X hP L_L_39 (fun sz => c_X7_backs_f l D cA ad o σ (xs 1) (xs 2) hF sz) (by decide) (show kd 66 = (7, 8) from rfl) (by decide) rfl ⟨(Nat.le_of_ble_eq_true rfl), (Nat.le_of_ble_eq_true rfl)⟩ rfl hl.1 rfl (Nat.le_of_ble_eq_true rfl) dL_law_341 ⟨Nat.le_trans hc (Nat.le_of_ble_eq_true rfl), Nat.le_trans hs (Nat.le_of_ble_eq_true rfl)⟩) (fun r_1 σ_1 H locs hw_1 hP hS => ?_)
  refine lv_aload_n hx hb dL_law_344 rfl (lv_at hl 2 rfl) ?_
  refine lv_aload_n hx hb dL_law_345 rfl (lv_at hl 0 rfl) ?_
  refine lv_iload hx hb dL_law_346 (lv_at hl 4 rfl) ?_
  refine lv_iconst (v := 1) hx hb dL_law_348 (by decide) ?_
  refine lv_iadd hx hb dL_law_349 ?_
  refine lv_topE (y := 1) (by decide) ?_
  refine va_sld (xs := xs) hx hb hX hbl hbA hS (by unfold vp_in; decide) dL_law_350 ?_
  refine lv_topE (y := (xs 1)) rfl ?_
  refine lv_aload_n hx hb dL_law_351 rfl (lv_at hl 0 rfl) ?_
  refine lv_iload hx hb dL_law_352 (lv_at hl 4 rfl) ?_
  refine lv_iconst (v := 2) hx hb dL_law_354 (by decide) ?_
  refine lv_iadd hx hb dL_law_355 ?_
  refine lv_topE (y := 2) (by decide) ?_
  refine va_sld (xs := xs) hx hb hX hbl hbA hS (by unfold vp_in; decide) dL_law_356 ?_
  refine lv_topE (y := (xs 2)) rfl ?_
  refine r_ci X hS (r_runV (As := [.int (xs 1), .int (xs 2)]) (rest := [.int r_1]) C0 X hP L_L_42 (fun sz => c_X8_backs_f l D cA ad o σ_1 (xs 1) (xs 2) (FrM_of hF hw_1.2) sz) (by decide) (show kd 91 = (8, 24) from rfl) (by decide) rfl ⟨(Nat.le_of_ble_eq_true rfl), (Nat.le_of_ble_eq_true rfl)⟩ rfl hl.1 rfl (Nat.le_of_ble_eq_true rfl) dL_law_357 ⟨Nat.le_trans hc (Nat.le_of_ble_eq_true rfl), Nat.le_trans hs (Nat.le_of_ble_eq_true rfl)⟩) (fun r_2 σ_2 H locs hw_2 hP hS => ?_)
  refine lv_icmp_eq (tgt := 1507) hx hb dL_law_360 (by decide) (fun c_3 => ?_) (fun c_3 => absurd (by rw [hw_1.1, hw_2]) c_3)
  exact law_end C0 hr hlk hX hbl hS (lv_sub hl [0, 4] rfl) (Nat.le_trans hc (Nat.le_of_ble_eq_true rfl)) (Nat.le_trans hs (Nat.le_of_ble_eq_true rfl))
set_option maxHeartbeats 4000000 in
set_option maxRecDepth 100000 in
theorem law_c5 {p : Program} {l : Launch} {e : Env} {s : State} {m : MethodId} {below : List Frame} {meth : Method} {c : Code} {D : va_G} {cA : Nat → ClassId} {ad : Nat → Nat} {o : Int64} {σ : Mem} {b : Nat} {xs : Nat → Int32} {H : Heap} {locs : List Loc} {cells slots : Nat} {ls : Array Slot} {sa1 sa2 : Nat} (hfl : l.stackTraces = false) (C0 : CX p s m #[Value.ref b] c code 8 RL) (hr : meth.sig.returnType = ret) (hlk : meth.locks = false) (hX : va_X b 6 xs s s.heap) (hbl : b < s.heap.size) (X : WX D cA ad (fun q => s.heap.size ≤ q) s) (hZ : XL sa1 sa2 s) (hP : WP D cA ad o σ H) (hF : Fr σ) (hS : va_S (fun q => s.heap.size ≤ q) s.heap H locs) (hl : lv_has ls 8 [(0, .ref b), (1, .ref (ad 66)), (2, .ref (ad 91)), (3, .ref (ad 105)), (4, .int 0)]) (hc : cells ≤ 600000) (hs : slots ≤ 7300000) : W p l e room_1 s m #[Value.ref b] below meth c H locs cells slots (lw_Z below #[Value.ref b] s) (F0 m 365 ls []) := by
  obtain ⟨hx, hb, hml, hown, hts⟩ := id C0
  have hbA : ¬ (fun q => s.heap.size ≤ q) b := Nat.not_le.mpr hbl
  refine lv_aload_n hx hb dL_law_365 rfl (lv_at hl 1 rfl) ?_
  refine lv_aload_n hx hb dL_law_366 rfl (lv_at hl 0 rfl) ?_
  refine lv_iload hx hb dL_law_367 (lv_at hl 4 rfl) ?_
  refine lv_iconst (v := 1) hx hb dL_law_369 (by decide) ?_
  refine lv_iadd hx hb dL_law_370 ?_
  refine lv_topE (y := 1) (by decide) ?_
  refine va_sld (xs := xs) hx hb hX hbl hbA hS (by unfold vp_in; decide) dL_law_371 ?_
  refine lv_topE (y := (xs 1)) rfl ?_
  refine lv_aload_n hx hb dL_law_372 rfl (lv_at hl 0 rfl) ?_
  refine lv_iload hx hb dL_law_373 (lv_at hl 4 rfl) ?_
  refine lv_iconst (v := 2) hx hb dL_law_375 (by decide) ?_
  refine lv_iadd hx hb dL_law_376 ?_
  refine lv_topE (y := 2) (by decide) ?_
  refine va_sld (xs := xs) hx hb hX hbl hbA hS (by unfold vp_in; decide) dL_law_377 ?_
  refine lv_topE (y := (xs 2)) rfl ?_
  refine r_ci X hS (r_runV (As := [.int (xs 1), .int (xs 2)]) (rest := []) C0 X hP L_L_43 (fun sz => c_X7_village_f l D cA ad o σ (xs 1) (xs 2) hF sz) (by decide) (show kd 66 = (7, 8) from rfl) (by decide) rfl ⟨(Nat.le_of_ble_eq_true rfl), (Nat.le_of_ble_eq_true rfl)⟩ rfl hl.1 rfl (Nat.le_of_ble_eq_true rfl) dL_law_378 ⟨Nat.le_trans hc (Nat.le_of_ble_eq_true rfl), Nat.le_trans hs (Nat.le_of_ble_eq_true rfl)⟩) (fun r_1 σ_1 H locs hw_1 hP hS => ?_)
  refine lv_aload_n hx hb dL_law_381 rfl (lv_at hl 2 rfl) ?_
  refine lv_aload_n hx hb dL_law_382 rfl (lv_at hl 0 rfl) ?_
  refine lv_iload hx hb dL_law_383 (lv_at hl 4 rfl) ?_
  refine lv_iconst (v := 1) hx hb dL_law_385 (by decide) ?_
  refine lv_iadd hx hb dL_law_386 ?_
  refine lv_topE (y := 1) (by decide) ?_
  refine va_sld (xs := xs) hx hb hX hbl hbA hS (by unfold vp_in; decide) dL_law_387 ?_
  refine lv_topE (y := (xs 1)) rfl ?_
  refine lv_aload_n hx hb dL_law_388 rfl (lv_at hl 0 rfl) ?_
  refine lv_iload hx hb dL_law_389 (lv_at hl 4 rfl) ?_
  refine lv_iconst (v := 2) hx hb dL_law_391 (by decide) ?_
  refine lv_iadd hx hb dL_law_392 ?_
  refine lv_topE (y := 2) (by decide) ?_
  refine va_sld (xs := xs) hx hb hX hbl hbA hS (by unfold vp_in; decide) dL_law_393 ?_
  refine lv_topE (y := (xs 2)) rfl ?_
  refine r_ci X hS (r_runV (As := [.int (xs 1), .int (xs 2)]) (rest := [.int r_1]) C0 X hP L_L_46 (fun sz => c_X8_village_f l D cA ad o σ_1 (xs 1) (xs 2) (FrM_of hF hw_1.2) sz) (by decide) (show kd 91 = (8, 24) from rfl) (by decide) rfl ⟨(Nat.le_of_ble_eq_true rfl), (Nat.le_of_ble_eq_true rfl)⟩ rfl hl.1 rfl (Nat.le_of_ble_eq_true rfl) dL_law_394 ⟨Nat.le_trans hc (Nat.le_of_ble_eq_true rfl), Nat.le_trans hs (Nat.le_of_ble_eq_true rfl)⟩) (fun r_2 σ_2 H locs hw_2 hP hS => ?_)
  refine lv_icmp_eq (tgt := 1507) hx hb dL_law_397 (by decide) (fun c_3 => ?_) (fun c_3 => absurd (by rw [hw_1.1, hw_2, eq_v]) c_3)
  exact law_end C0 hr hlk hX hbl hS (lv_sub hl [0, 4] rfl) (Nat.le_trans hc (Nat.le_of_ble_eq_true rfl)) (Nat.le_trans hs (Nat.le_of_ble_eq_true rfl))
set_option maxHeartbeats 4000000 in
set_option maxRecDepth 100000 in
theorem law_c6 {p : Program} {l : Launch} {e : Env} {s : State} {m : MethodId} {below : List Frame} {meth : Method} {c : Code} {D : va_G} {cA : Nat → ClassId} {ad : Nat → Nat} {o : Int64} {σ : Mem} {b : Nat} {xs : Nat → Int32} {H : Heap} {locs : List Loc} {cells slots : Nat} {ls : Array Slot} {sa1 sa2 : Nat} (hfl : l.stackTraces = false) (C0 : CX p s m #[Value.ref b] c code 8 RL) (hr : meth.sig.returnType = ret) (hlk : meth.locks = false) (hX : va_X b 6 xs s s.heap) (hbl : b < s.heap.size) (X : WX D cA ad (fun q => s.heap.size ≤ q) s) (hZ : XL sa1 sa2 s) (hP : WP D cA ad o σ H) (hF : Fr σ) (hS : va_S (fun q => s.heap.size ≤ q) s.heap H locs) (hl : lv_has ls 8 [(0, .ref b), (1, .ref (ad 66)), (2, .ref (ad 91)), (3, .ref (ad 105)), (4, .int 0)]) (hc : cells ≤ 600000) (hs : slots ≤ 7300000) : W p l e room_1 s m #[Value.ref b] below meth c H locs cells slots (lw_Z below #[Value.ref b] s) (F0 m 402 ls []) := by
  obtain ⟨hx, hb, hml, hown, hts⟩ := id C0
  have hbA : ¬ (fun q => s.heap.size ≤ q) b := Nat.not_le.mpr hbl
  refine lv_aload_n hx hb dL_law_402 rfl (lv_at hl 1 rfl) ?_
  refine lv_aload_n hx hb dL_law_403 rfl (lv_at hl 0 rfl) ?_
  refine lv_iload hx hb dL_law_404 (lv_at hl 4 rfl) ?_
  refine lv_iconst (v := 1) hx hb dL_law_406 (by decide) ?_
  refine lv_iadd hx hb dL_law_407 ?_
  refine lv_topE (y := 1) (by decide) ?_
  refine va_sld (xs := xs) hx hb hX hbl hbA hS (by unfold vp_in; decide) dL_law_408 ?_
  refine lv_topE (y := (xs 1)) rfl ?_
  refine lv_aload_n hx hb dL_law_409 rfl (lv_at hl 0 rfl) ?_
  refine lv_iload hx hb dL_law_410 (lv_at hl 4 rfl) ?_
  refine lv_iconst (v := 2) hx hb dL_law_412 (by decide) ?_
  refine lv_iadd hx hb dL_law_413 ?_
  refine lv_topE (y := 2) (by decide) ?_
  refine va_sld (xs := xs) hx hb hX hbl hbA hS (by unfold vp_in; decide) dL_law_414 ?_
  refine lv_topE (y := (xs 2)) rfl ?_
  refine r_ci X hS (r_runV (As := [.int (xs 1), .int (xs 2)]) (rest := []) C0 X hP L_L_47 (fun sz => c_X7_rule_f l D cA ad o σ (xs 1) (xs 2) hF sz) (by decide) (show kd 66 = (7, 8) from rfl) (by decide) rfl ⟨(Nat.le_of_ble_eq_true rfl), (Nat.le_of_ble_eq_true rfl)⟩ rfl hl.1 rfl (Nat.le_of_ble_eq_true rfl) dL_law_415 ⟨Nat.le_trans hc (Nat.le_of_ble_eq_true rfl), Nat.le_trans hs (Nat.le_of_ble_eq_true rfl)⟩) (fun r_1 σ_1 H locs hw_1 hP hS => ?_)
  refine lv_aload_n hx hb dL_law_418 rfl (lv_at hl 2 rfl) ?_
  refine lv_aload_n hx hb dL_law_419 rfl (lv_at hl 0 rfl) ?_
  refine lv_iload hx hb dL_law_420 (lv_at hl 4 rfl) ?_
  refine lv_iconst (v := 1) hx hb dL_law_422 (by decide) ?_
  refine lv_iadd hx hb dL_law_423 ?_
  refine lv_topE (y := 1) (by decide) ?_
  refine va_sld (xs := xs) hx hb hX hbl hbA hS (by unfold vp_in; decide) dL_law_424 ?_
  refine lv_topE (y := (xs 1)) rfl ?_
  refine lv_aload_n hx hb dL_law_425 rfl (lv_at hl 0 rfl) ?_
  refine lv_iload hx hb dL_law_426 (lv_at hl 4 rfl) ?_
  refine lv_iconst (v := 2) hx hb dL_law_428 (by decide) ?_
  refine lv_iadd hx hb dL_law_429 ?_
  refine lv_topE (y := 2) (by decide) ?_
  refine va_sld (xs := xs) hx hb hX hbl hbA hS (by unfold vp_in; decide) dL_law_430 ?_
  refine lv_topE (y := (xs 2)) rfl ?_
  refine r_ci X hS (r_runV (As := [.int (xs 1), .int (xs 2)]) (rest := [.int r_1]) C0 X hP L_L_50 (fun sz => c_X8_rule_f l D cA ad o σ_1 (xs 1) (xs 2) (FrM_of hF hw_1.2) sz) (by decide) (show kd 91 = (8, 24) from rfl) (by decide) rfl ⟨(Nat.le_of_ble_eq_true rfl), (Nat.le_of_ble_eq_true rfl)⟩ rfl hl.1 rfl (Nat.le_of_ble_eq_true rfl) dL_law_431 ⟨Nat.le_trans hc (Nat.le_of_ble_eq_true rfl), Nat.le_trans hs (Nat.le_of_ble_eq_true rfl)⟩) (fun r_2 σ_2 H locs hw_2 hP hS => ?_)
  refine lv_icmp_eq (tgt := 1507) hx hb dL_law_434 (by decide) (fun c_3 => ?_) (fun c_3 => absurd (by rw [hw_1.1, hw_2]) c_3)
  exact law_end C0 hr hlk hX hbl hS (lv_sub hl [0, 4] rfl) (Nat.le_trans hc (Nat.le_of_ble_eq_true rfl)) (Nat.le_trans hs (Nat.le_of_ble_eq_true rfl))
set_option maxHeartbeats 4000000 in
set_option maxRecDepth 100000 in
theorem law_c7 {p : Program} {l : Launch} {e : Env} {s : State} {m : MethodId} {below : List Frame} {meth : Method} {c : Code} {D : va_G} {cA : Nat → ClassId} {ad : Nat → Nat} {o : Int64} {σ : Mem} {b : Nat} {xs : Nat → Int32} {H : Heap} {locs : List Loc} {cells slots : Nat} {ls : Array Slot} {sa1 sa2 : Nat} (hfl : l.stackTraces = false) (C0 : CX p s m #[Value.ref b] c code 8 RL) (hr : meth.sig.returnType = ret) (hlk : meth.locks = false) (hX : va_X b 6 xs s s.heap) (hbl : b < s.heap.size) (X : WX D cA ad (fun q => s.heap.size ≤ q) s) (hZ : XL sa1 sa2 s) (hP : WP D cA ad o σ H) (hF : Fr σ) (hS : va_S (fun q => s.heap.size ≤ q) s.heap H locs) (hl : lv_has ls 8 [(0, .ref b), (1, .ref (ad 66)), (2, .ref (ad 91)), (3, .ref (ad 105)), (4, .int 0)]) (hc : cells ≤ 600000) (hs : slots ≤ 7300000) : W p l e room_1 s m #[Value.ref b] below meth c H locs cells slots (lw_Z below #[Value.ref b] s) (F0 m 439 ls []) := by
  obtain ⟨hx, hb, hml, hown, hts⟩ := id C0
  have hbA : ¬ (fun q => s.heap.size ≤ q) b := Nat.not_le.mpr hbl
  refine lv_aload_n hx hb dL_law_439 rfl (lv_at hl 1 rfl) ?_
  refine lv_aload_n hx hb dL_law_440 rfl (lv_at hl 0 rfl) ?_
  refine lv_iload hx hb dL_law_441 (lv_at hl 4 rfl) ?_
  refine lv_iconst (v := 1) hx hb dL_law_443 (by decide) ?_
  refine lv_iadd hx hb dL_law_444 ?_
  refine lv_topE (y := 1) (by decide) ?_
  refine va_sld (xs := xs) hx hb hX hbl hbA hS (by unfold vp_in; decide) dL_law_445 ?_
  refine lv_topE (y := (xs 1)) rfl ?_
  refine r_ci X hS (r_runV (As := [.int (xs 1)]) (rest := []) C0 X hP L_L_51 (fun sz => c_X7_go_f l D cA ad o σ (xs 1) hF sz) (by decide) (show kd 66 = (7, 8) from rfl) (by decide) rfl ⟨(Nat.le_of_ble_eq_true rfl), (Nat.le_of_ble_eq_true rfl)⟩ rfl hl.1 rfl (Nat.le_of_ble_eq_true rfl) dL_law_446 ⟨Nat.le_trans hc (Nat.le_of_ble_eq_true rfl), Nat.le_trans hs (Nat.le_of_ble_eq_true rfl)⟩) (fun r_1 σ_1 H locs hw_1 hP hS => ?_)
  refine lv_aload_n hx hb dL_law_449 rfl (lv_at hl 2 rfl) ?_
  refine lv_aload_n hx hb dL_law_450 rfl (lv_at hl 0 rfl) ?_
  refine lv_iload hx hb dL_law_451 (lv_at hl 4 rfl) ?_
  refine lv_iconst (v := 1) hx hb dL_law_453 (by decide) ?_
  refine lv_iadd hx hb dL_law_454 ?_
  refine lv_topE (y := 1) (by decide) ?_
  refine va_sld (xs := xs) hx hb hX hbl hbA hS (by unfold vp_in; decide) dL_law_455 ?_
  refine lv_topE (y := (xs 1)) rfl ?_
  refine r_ci X hS (r_runV (As := [.int (xs 1)]) (rest := [.int r_1]) C0 X hP L_L_54 (fun sz => c_X8_go_f l D cA ad o σ_1 (xs 1) (FrM_of hF hw_1.2) sz) (by decide) (show kd 91 = (8, 24) from rfl) (by decide) rfl ⟨(Nat.le_of_ble_eq_true rfl), (Nat.le_of_ble_eq_true rfl)⟩ rfl hl.1 rfl (Nat.le_of_ble_eq_true rfl) dL_law_456 ⟨Nat.le_trans hc (Nat.le_of_ble_eq_true rfl), Nat.le_trans hs (Nat.le_of_ble_eq_true rfl)⟩) (fun r_2 σ_2 H locs hw_2 hP hS => ?_)
  refine lv_icmp_eq (tgt := 1507) hx hb dL_law_459 (by decide) (fun c_3 => ?_) (fun c_3 => absurd (by rw [hw_1.1, hw_2]) c_3)
  exact law_end C0 hr hlk hX hbl hS (lv_sub hl [0, 4] rfl) (Nat.le_trans hc (Nat.le_of_ble_eq_true rfl)) (Nat.le_trans hs (Nat.le_of_ble_eq_true rfl))
set_option maxHeartbeats 4000000 in
set_option maxRecDepth 100000 in
theorem law_c8 {p : Program} {l : Launch} {e : Env} {s : State} {m : MethodId} {below : List Frame} {meth : Method} {c : Code} {D : va_G} {cA : Nat → ClassId} {ad : Nat → Nat} {o : Int64} {σ : Mem} {b : Nat} {xs : Nat → Int32} {H : Heap} {locs : List Loc} {cells slots : Nat} {ls : Array Slot} {sa1 sa2 : Nat} (hfl : l.stackTraces = false) (C0 : CX p s m #[Value.ref b] c code 8 RL) (hr : meth.sig.returnType = ret) (hlk : meth.locks = false) (hX : va_X b 6 xs s s.heap) (hbl : b < s.heap.size) (X : WX D cA ad (fun q => s.heap.size ≤ q) s) (hZ : XL sa1 sa2 s) (hP : WP D cA ad o σ H) (hF : Fr σ) (hS : va_S (fun q => s.heap.size ≤ q) s.heap H locs) (hl : lv_has ls 8 [(0, .ref b), (1, .ref (ad 66)), (2, .ref (ad 91)), (3, .ref (ad 105)), (4, .int 0)]) (hc : cells ≤ 600000) (hs : slots ≤ 7300000) : W p l e room_1 s m #[Value.ref b] below meth c H locs cells slots (lw_Z below #[Value.ref b] s) (F0 m 464 ls []) := by
  obtain ⟨hx, hb, hml, hown, hts⟩ := id C0
  have hbA : ¬ (fun q => s.heap.size ≤ q) b := Nat.not_le.mpr hbl
  refine lv_aload_n hx hb dL_law_464 rfl (lv_at hl 1 rfl) ?_
  refine r_ci X hS (r_runV (As := []) (rest := []) C0 X hP L_L_55 (fun sz => c_X7_anew_f l D cA ad o σ  hF sz) (by decide) (show kd 66 = (7, 8) from rfl) (by decide) rfl ⟨(Nat.le_of_ble_eq_true rfl), (Nat.le_of_ble_eq_true rfl)⟩ rfl hl.1 rfl (Nat.le_of_ble_eq_true rfl) dL_law_465 ⟨Nat.le_trans hc (Nat.le_of_ble_eq_true rfl), Nat.le_trans hs (Nat.le_of_ble_eq_true rfl)⟩) (fun r_1 σ_1 H locs hw_1 hP hS => ?_)
  refine lv_aload_n hx hb dL_law_468 rfl (lv_at hl 2 rfl) ?_
  refine r_ci X hS (r_runV (As := []) (rest := [.int r_1]) C0 X hP L_L_59 (fun sz => c_X8_anew_f l D cA ad o σ_1  (FrM_of hF hw_1.2) sz) (by decide) (show kd 91 = (8, 24) from rfl) (by decide) rfl ⟨(Nat.le_of_ble_eq_true rfl), (Nat.le_of_ble_eq_true rfl)⟩ rfl hl.1 rfl (Nat.le_of_ble_eq_true rfl) dL_law_469 ⟨Nat.le_trans hc (Nat.le_of_ble_eq_true rfl), Nat.le_trans hs (Nat.le_of_ble_eq_true rfl)⟩) (fun r_2 σ_2 H locs hw_2 hP hS => ?_)
  refine lv_icmp_eq (tgt := 1507) hx hb dL_law_472 (by decide) (fun c_3 => ?_) (fun c_3 => absurd (by rw [hw_1.1, hw_2]) c_3)
  exact law_end C0 hr hlk hX hbl hS (lv_sub hl [0, 4] rfl) (Nat.le_trans hc (Nat.le_of_ble_eq_true rfl)) (Nat.le_trans hs (Nat.le_of_ble_eq_true rfl))
set_option maxHeartbeats 4000000 in
set_option maxRecDepth 100000 in
theorem law_c9 {p : Program} {l : Launch} {e : Env} {s : State} {m : MethodId} {below : List Frame} {meth : Method} {c : Code} {D : va_G} {cA : Nat → ClassId} {ad : Nat → Nat} {o : Int64} {σ : Mem} {b : Nat} {xs : Nat → Int32} {H : Heap} {locs : List Loc} {cells slots : Nat} {ls : Array Slot} {sa1 sa2 : Nat} (hfl : l.stackTraces = false) (C0 : CX p s m #[Value.ref b] c code 8 RL) (hr : meth.sig.returnType = ret) (hlk : meth.locks = false) (hX : va_X b 6 xs s s.heap) (hbl : b < s.heap.size) (X : WX D cA ad (fun q => s.heap.size ≤ q) s) (hZ : XL sa1 sa2 s) (hP : WP D cA ad o σ H) (hF : Fr σ) (hS : va_S (fun q => s.heap.size ≤ q) s.heap H locs) (hl : lv_has ls 8 [(0, .ref b), (1, .ref (ad 66)), (2, .ref (ad 91)), (3, .ref (ad 105)), (4, .int 0)]) (hc : cells ≤ 600000) (hs : slots ≤ 7300000) : W p l e room_1 s m #[Value.ref b] below meth c H locs cells slots (lw_Z below #[Value.ref b] s) (F0 m 477 ls []) := by
  obtain ⟨hx, hb, hml, hown, hts⟩ := id C0
  have hbA : ¬ (fun q => s.heap.size ≤ q) b := Nat.not_le.mpr hbl
  refine lv_aload_n hx hb dL_law_477 rfl (lv_at hl 1 rfl) ?_
  refine lv_aload_n hx hb dL_law_478 rfl (lv_at hl 0 rfl) ?_
  refine lv_iload hx hb dL_law_479 (lv_at hl 4 rfl) ?_
  refine lv_iconst (v := 1) hx hb dL_law_481 (by decide) ?_
  refine lv_iadd hx hb dL_law_482 ?_
  refine lv_topE (y := 1) (by decide) ?_
  refine va_sld (xs := xs) hx hb hX hbl hbA hS (by unfold vp_in; decide) dL_law_483 ?_
  refine lv_topE (y := (xs 1)) rfl ?_
  refine lv_aload_n hx hb dL_law_484 rfl (lv_at hl 0 rfl) ?_
  refine lv_iload hx hb dL_law_485 (lv_at hl 4 rfl) ?_
  refine lv_iconst (v := 2) hx hb dL_law_487 (by decide) ?_
  refine lv_iadd hx hb dL_law_488 ?_
  refine lv_topE (y := 2) (by decide) ?_
  refine va_sld (xs := xs) hx hb hX hbl hbA hS (by unfold vp_in; decide) dL_law_489 ?_
  refine lv_topE (y := (xs 2)) rfl ?_
  refine r_ci X hS (r_runV (As := [.int (xs 1), .int (xs 2)]) (rest := []) C0 X hP L_L_60 (fun sz => c_X7_where_f l D cA ad o σ (xs 1) (xs 2) hF sz) (by decide) (show kd 66 = (7, 8) from rfl) (by decide) rfl ⟨(Nat.le_of_ble_eq_true rfl), (Nat.le_of_ble_eq_true rfl)⟩ rfl hl.1 rfl (Nat.le_of_ble_eq_true rfl) dL_law_490 ⟨Nat.le_trans hc (Nat.le_of_ble_eq_true rfl), Nat.le_trans hs (Nat.le_of_ble_eq_true rfl)⟩) (fun r_1 σ_1 H locs hw_1 hP hS => ?_)
  refine lv_aload_n hx hb dL_law_493 rfl (lv_at hl 2 rfl) ?_
  refine lv_aload_n hx hb dL_law_494 rfl (lv_at hl 0 rfl) ?_
  refine lv_iload hx hb dL_law_495 (lv_at hl 4 rfl) ?_
  refine lv_iconst (v := 1) hx hb dL_law_497 (by decide) ?_
  refine lv_iadd hx hb dL_law_498 ?_
  refine lv_topE (y := 1) (by decide) ?_
  refine va_sld (xs := xs) hx hb hX hbl hbA hS (by unfold vp_in; decide) dL_law_499 ?_
  refine lv_topE (y := (xs 1)) rfl ?_
  refine lv_aload_n hx hb dL_law_500 rfl (lv_at hl 0 rfl) ?_
  refine lv_iload hx hb dL_law_501 (lv_at hl 4 rfl) ?_
  refine lv_iconst (v := 2) hx hb dL_law_503 (by decide) ?_
  refine lv_iadd hx hb dL_law_504 ?_
  refine lv_topE (y := 2) (by decide) ?_
  refine va_sld (xs := xs) hx hb hX hbl hbA hS (by unfold vp_in; decide) dL_law_505 ?_
  refine lv_topE (y := (xs 2)) rfl ?_
  refine r_ci X hS (r_runV (As := [.int (xs 1), .int (xs 2)]) (rest := [.int r_1]) C0 X hP L_L_63 (fun sz => c_X8_where_f l D cA ad o σ_1 (xs 1) (xs 2) (FrM_of hF hw_1.2) sz) (by decide) (show kd 91 = (8, 24) from rfl) (by decide) rfl ⟨(Nat.le_of_ble_eq_true rfl), (Nat.le_of_ble_eq_true rfl)⟩ rfl hl.1 rfl (Nat.le_of_ble_eq_true rfl) dL_law_506 ⟨Nat.le_trans hc (Nat.le_of_ble_eq_true rfl), Nat.le_trans hs (Nat.le_of_ble_eq_true rfl)⟩) (fun r_2 σ_2 H locs hw_2 hP hS => ?_)
  refine lv_icmp_eq (tgt := 1507) hx hb dL_law_509 (by decide) (fun c_3 => ?_) (fun c_3 => absurd (by rw [hw_1.1, hw_2]) c_3)
  exact law_end C0 hr hlk hX hbl hS (lv_sub hl [0, 4] rfl) (Nat.le_trans hc (Nat.le_of_ble_eq_true rfl)) (Nat.le_trans hs (Nat.le_of_ble_eq_true rfl))
set_option maxHeartbeats 4000000 in
set_option maxRecDepth 100000 in
theorem law_c10 {p : Program} {l : Launch} {e : Env} {s : State} {m : MethodId} {below : List Frame} {meth : Method} {c : Code} {D : va_G} {cA : Nat → ClassId} {ad : Nat → Nat} {o : Int64} {σ : Mem} {b : Nat} {xs : Nat → Int32} {H : Heap} {locs : List Loc} {cells slots : Nat} {ls : Array Slot} {sa1 sa2 : Nat} (hfl : l.stackTraces = false) (C0 : CX p s m #[Value.ref b] c code 8 RL) (hr : meth.sig.returnType = ret) (hlk : meth.locks = false) (hX : va_X b 6 xs s s.heap) (hbl : b < s.heap.size) (X : WX D cA ad (fun q => s.heap.size ≤ q) s) (hZ : XL sa1 sa2 s) (hP : WP D cA ad o σ H) (hF : Fr σ) (hS : va_S (fun q => s.heap.size ≤ q) s.heap H locs) (hl : lv_has ls 8 [(0, .ref b), (1, .ref (ad 66)), (2, .ref (ad 91)), (3, .ref (ad 105)), (4, .int 0)]) (hc : cells ≤ 600000) (hs : slots ≤ 7300000) : W p l e room_1 s m #[Value.ref b] below meth c H locs cells slots (lw_Z below #[Value.ref b] s) (F0 m 514 ls []) := by
  obtain ⟨hx, hb, hml, hown, hts⟩ := id C0
  have hbA : ¬ (fun q => s.heap.size ≤ q) b := Nat.not_le.mpr hbl
  refine lv_aload_n hx hb dL_law_514 rfl (lv_at hl 1 rfl) ?_
  refine lv_aload_n hx hb dL_law_515 rfl (lv_at hl 0 rfl) ?_
  refine lv_iload hx hb dL_law_516 (lv_at hl 4 rfl) ?_
  refine lv_iconst (v := 1) hx hb dL_law_518 (by decide) ?_
  refine lv_iadd hx hb dL_law_519 ?_
  refine lv_topE (y := 1) (by decide) ?_
  refine va_sld (xs := xs) hx hb hX hbl hbA hS (by unfold vp_in; decide) dL_law_520 ?_
  refine lv_topE (y := (xs 1)) rfl ?_
  refine r_ci X hS (r_runV (As := [.int (xs 1)]) (rest := []) C0 X hP L_L_64 (fun sz => c_X7_state_f l D cA ad o σ (xs 1) hF sz) (by decide) (show kd 66 = (7, 8) from rfl) (by decide) rfl ⟨(Nat.le_of_ble_eq_true rfl), (Nat.le_of_ble_eq_true rfl)⟩ rfl hl.1 rfl (Nat.le_of_ble_eq_true rfl) dL_law_521 ⟨Nat.le_trans hc (Nat.le_of_ble_eq_true rfl), Nat.le_trans hs (Nat.le_of_ble_eq_true rfl)⟩) (fun r_1 σ_1 H locs hw_1 hP hS => ?_)
  refine lv_aload_n hx hb dL_law_524 rfl (lv_at hl 2 rfl) ?_
  refine lv_aload_n hx hb dL_law_525 rfl (lv_at hl 0 rfl) ?_
  refine lv_iload hx hb dL_law_526 (lv_at hl 4 rfl) ?_
  refine lv_iconst (v := 1) hx hb dL_law_528 (by decide) ?_
  refine lv_iadd hx hb dL_law_529 ?_
  refine lv_topE (y := 1) (by decide) ?_
  refine va_sld (xs := xs) hx hb hX hbl hbA hS (by unfold vp_in; decide) dL_law_530 ?_
  refine lv_topE (y := (xs 1)) rfl ?_
  refine r_ci X hS (r_runV (As := [.int (xs 1)]) (rest := [.int r_1]) C0 X hP L_L_67 (fun sz => c_X8_state_f l D cA ad o σ_1 (xs 1) (FrM_of hF hw_1.2) sz) (by decide) (show kd 91 = (8, 24) from rfl) (by decide) rfl ⟨(Nat.le_of_ble_eq_true rfl), (Nat.le_of_ble_eq_true rfl)⟩ rfl hl.1 rfl (Nat.le_of_ble_eq_true rfl) dL_law_531 ⟨Nat.le_trans hc (Nat.le_of_ble_eq_true rfl), Nat.le_trans hs (Nat.le_of_ble_eq_true rfl)⟩) (fun r_2 σ_2 H locs hw_2 hP hS => ?_)
  refine lv_icmp_eq (tgt := 1507) hx hb dL_law_534 (by decide) (fun c_3 => ?_) (fun c_3 => absurd (by rw [hw_1.1, hw_2]) c_3)
  exact law_end C0 hr hlk hX hbl hS (lv_sub hl [0, 4] rfl) (Nat.le_trans hc (Nat.le_of_ble_eq_true rfl)) (Nat.le_trans hs (Nat.le_of_ble_eq_true rfl))
set_option maxHeartbeats 4000000 in
set_option maxRecDepth 100000 in
theorem law_c11 {p : Program} {l : Launch} {e : Env} {s : State} {m : MethodId} {below : List Frame} {meth : Method} {c : Code} {D : va_G} {cA : Nat → ClassId} {ad : Nat → Nat} {o : Int64} {σ : Mem} {b : Nat} {xs : Nat → Int32} {H : Heap} {locs : List Loc} {cells slots : Nat} {ls : Array Slot} {sa1 sa2 : Nat} (hfl : l.stackTraces = false) (C0 : CX p s m #[Value.ref b] c code 8 RL) (hr : meth.sig.returnType = ret) (hlk : meth.locks = false) (hX : va_X b 6 xs s s.heap) (hbl : b < s.heap.size) (X : WX D cA ad (fun q => s.heap.size ≤ q) s) (hZ : XL sa1 sa2 s) (hP : WP D cA ad o σ H) (hF : Fr σ) (hS : va_S (fun q => s.heap.size ≤ q) s.heap H locs) (hl : lv_has ls 8 [(0, .ref b), (1, .ref (ad 66)), (2, .ref (ad 91)), (3, .ref (ad 105)), (4, .int 0)]) (hc : cells ≤ 600000) (hs : slots ≤ 7300000) : W p l e room_1 s m #[Value.ref b] below meth c H locs cells slots (lw_Z below #[Value.ref b] s) (F0 m 539 ls []) := by
  obtain ⟨hx, hb, hml, hown, hts⟩ := id C0
  have hbA : ¬ (fun q => s.heap.size ≤ q) b := Nat.not_le.mpr hbl
  refine lv_aload_n hx hb dL_law_539 rfl (lv_at hl 1 rfl) ?_
  refine lv_aload_n hx hb dL_law_540 rfl (lv_at hl 0 rfl) ?_
  refine lv_iload hx hb dL_law_541 (lv_at hl 4 rfl) ?_
  refine lv_iconst (v := 1) hx hb dL_law_543 (by decide) ?_
  refine lv_iadd hx hb dL_law_544 ?_
  refine lv_topE (y := 1) (by decide) ?_
  refine va_sld (xs := xs) hx hb hX hbl hbA hS (by unfold vp_in; decide) dL_law_545 ?_
  refine lv_topE (y := (xs 1)) rfl ?_
  refine r_ci X hS (r_runV (As := [.int (xs 1)]) (rest := []) C0 X hP L_L_68 (fun sz => c_X7_enters_f l D cA ad o σ (xs 1) hF sz) (by decide) (show kd 66 = (7, 8) from rfl) (by decide) rfl ⟨(Nat.le_of_ble_eq_true rfl), (Nat.le_of_ble_eq_true rfl)⟩ rfl hl.1 rfl (Nat.le_of_ble_eq_true rfl) dL_law_546 ⟨Nat.le_trans hc (Nat.le_of_ble_eq_true rfl), Nat.le_trans hs (Nat.le_of_ble_eq_true rfl)⟩) (fun r_1 σ_1 H locs hw_1 hP hS => ?_)
  refine lv_aload_n hx hb dL_law_549 rfl (lv_at hl 2 rfl) ?_
  refine lv_aload_n hx hb dL_law_550 rfl (lv_at hl 0 rfl) ?_
  refine lv_iload hx hb dL_law_551 (lv_at hl 4 rfl) ?_
  refine lv_iconst (v := 1) hx hb dL_law_553 (by decide) ?_
  refine lv_iadd hx hb dL_law_554 ?_
  refine lv_topE (y := 1) (by decide) ?_
  refine va_sld (xs := xs) hx hb hX hbl hbA hS (by unfold vp_in; decide) dL_law_555 ?_
  refine lv_topE (y := (xs 1)) rfl ?_
  refine r_ci X hS (r_runV (As := [.int (xs 1)]) (rest := [.int r_1]) C0 X hP L_L_71 (fun sz => c_X8_enters_f l D cA ad o σ_1 (xs 1) (FrM_of hF hw_1.2) sz) (by decide) (show kd 91 = (8, 24) from rfl) (by decide) rfl ⟨(Nat.le_of_ble_eq_true rfl), (Nat.le_of_ble_eq_true rfl)⟩ rfl hl.1 rfl (Nat.le_of_ble_eq_true rfl) dL_law_556 ⟨Nat.le_trans hc (Nat.le_of_ble_eq_true rfl), Nat.le_trans hs (Nat.le_of_ble_eq_true rfl)⟩) (fun r_2 σ_2 H locs hw_2 hP hS => ?_)
  refine lv_icmp_eq (tgt := 1507) hx hb dL_law_559 (by decide) (fun c_3 => ?_) (fun c_3 => absurd (by rw [hw_1.1, hw_2]) c_3)
  exact law_end C0 hr hlk hX hbl hS (lv_sub hl [0, 4] rfl) (Nat.le_trans hc (Nat.le_of_ble_eq_true rfl)) (Nat.le_trans hs (Nat.le_of_ble_eq_true rfl))
set_option maxHeartbeats 4000000 in
set_option maxRecDepth 100000 in
theorem law_c12 {p : Program} {l : Launch} {e : Env} {s : State} {m : MethodId} {below : List Frame} {meth : Method} {c : Code} {D : va_G} {cA : Nat → ClassId} {ad : Nat → Nat} {o : Int64} {σ : Mem} {b : Nat} {xs : Nat → Int32} {H : Heap} {locs : List Loc} {cells slots : Nat} {ls : Array Slot} {sa1 sa2 : Nat} (hfl : l.stackTraces = false) (C0 : CX p s m #[Value.ref b] c code 8 RL) (hr : meth.sig.returnType = ret) (hlk : meth.locks = false) (hX : va_X b 6 xs s s.heap) (hbl : b < s.heap.size) (X : WX D cA ad (fun q => s.heap.size ≤ q) s) (hZ : XL sa1 sa2 s) (hP : WP D cA ad o σ H) (hF : Fr σ) (hS : va_S (fun q => s.heap.size ≤ q) s.heap H locs) (hl : lv_has ls 8 [(0, .ref b), (1, .ref (ad 66)), (2, .ref (ad 91)), (3, .ref (ad 105)), (4, .int 0)]) (hc : cells ≤ 600000) (hs : slots ≤ 7300000) : W p l e room_1 s m #[Value.ref b] below meth c H locs cells slots (lw_Z below #[Value.ref b] s) (F0 m 564 ls []) := by
  obtain ⟨hx, hb, hml, hown, hts⟩ := id C0
  have hbA : ¬ (fun q => s.heap.size ≤ q) b := Nat.not_le.mpr hbl
  refine lv_aload_n hx hb dL_law_564 rfl (lv_at hl 1 rfl) ?_
  refine lv_aload_n hx hb dL_law_565 rfl (lv_at hl 0 rfl) ?_
  refine lv_iload hx hb dL_law_566 (lv_at hl 4 rfl) ?_
  refine lv_iconst (v := 1) hx hb dL_law_568 (by decide) ?_
  refine lv_iadd hx hb dL_law_569 ?_
  refine lv_topE (y := 1) (by decide) ?_
  refine va_sld (xs := xs) hx hb hX hbl hbA hS (by unfold vp_in; decide) dL_law_570 ?_
  refine lv_topE (y := (xs 1)) rfl ?_
  refine lv_aload_n hx hb dL_law_571 rfl (lv_at hl 0 rfl) ?_
  refine lv_iload hx hb dL_law_572 (lv_at hl 4 rfl) ?_
  refine lv_iconst (v := 2) hx hb dL_law_574 (by decide) ?_
  refine lv_iadd hx hb dL_law_575 ?_
  refine lv_topE (y := 2) (by decide) ?_
  refine va_sld (xs := xs) hx hb hX hbl hbA hS (by unfold vp_in; decide) dL_law_576 ?_
  refine lv_topE (y := (xs 2)) rfl ?_
  refine lv_aload_n hx hb dL_law_577 rfl (lv_at hl 0 rfl) ?_
  refine lv_iload hx hb dL_law_578 (lv_at hl 4 rfl) ?_
  refine lv_iconst (v := 3) hx hb dL_law_580 (by decide) ?_
  refine lv_iadd hx hb dL_law_581 ?_
  refine lv_topE (y := 3) (by decide) ?_
  refine va_sld (xs := xs) hx hb hX hbl hbA hS (by unfold vp_in; decide) dL_law_582 ?_
  refine lv_topE (y := (xs 3)) rfl ?_
  refine r_ci X hS (r_runV (As := [.int (xs 1), .int (xs 2), .int (xs 3)]) (rest := []) C0 X hP L_L_72 (fun sz => c_X7_yields_f l D cA ad o σ (xs 1) (xs 2) (xs 3) hF sz) (by decide) (show kd 66 = (7, 8) from rfl) (by decide) rfl ⟨(Nat.le_of_ble_eq_true rfl), (Nat.le_of_ble_eq_true rfl)⟩ rfl hl.1 rfl (Nat.le_of_ble_eq_true rfl) dL_law_583 ⟨Nat.le_trans hc (Nat.le_of_ble_eq_true rfl), Nat.le_trans hs (Nat.le_of_ble_eq_true rfl)⟩) (fun r_1 σ_1 H locs hw_1 hP hS => ?_)
  refine lv_aload_n hx hb dL_law_586 rfl (lv_at hl 2 rfl) ?_
  refine lv_aload_n hx hb dL_law_587 rfl (lv_at hl 0 rfl) ?_
  refine lv_iload hx hb dL_law_588 (lv_at hl 4 rfl) ?_
  refine lv_iconst (v := 1) hx hb dL_law_590 (by decide) ?_
  refine lv_iadd hx hb dL_law_591 ?_
  refine lv_topE (y := 1) (by decide) ?_
  refine va_sld (xs := xs) hx hb hX hbl hbA hS (by unfold vp_in; decide) dL_law_592 ?_
  refine lv_topE (y := (xs 1)) rfl ?_
  refine lv_aload_n hx hb dL_law_593 rfl (lv_at hl 0 rfl) ?_
  refine lv_iload hx hb dL_law_594 (lv_at hl 4 rfl) ?_
  refine lv_iconst (v := 2) hx hb dL_law_596 (by decide) ?_
  refine lv_iadd hx hb dL_law_597 ?_
  refine lv_topE (y := 2) (by decide) ?_
  refine va_sld (xs := xs) hx hb hX hbl hbA hS (by unfold vp_in; decide) dL_law_598 ?_
  refine lv_topE (y := (xs 2)) rfl ?_
  refine lv_aload_n hx hb dL_law_599 rfl (lv_at hl 0 rfl) ?_
  refine lv_iload hx hb dL_law_600 (lv_at hl 4 rfl) ?_
  refine lv_iconst (v := 3) hx hb dL_law_602 (by decide) ?_
  refine lv_iadd hx hb dL_law_603 ?_
  refine lv_topE (y := 3) (by decide) ?_
  refine va_sld (xs := xs) hx hb hX hbl hbA hS (by unfold vp_in; decide) dL_law_604 ?_
  refine lv_topE (y := (xs 3)) rfl ?_
  refine r_ci X hS (r_runV (As := [.int (xs 1), .int (xs 2), .int (xs 3)]) (rest := [.int r_1]) C0 X hP L_L_76 (fun sz => c_X8_yields_f l D cA ad o σ_1 (xs 1) (xs 2) (xs 3) (FrM_of hF hw_1.2) sz) (by decide) (show kd 91 = (8, 24) from rfl) (by decide) rfl ⟨(Nat.le_of_ble_eq_true rfl), (Nat.le_of_ble_eq_true rfl)⟩ rfl hl.1 rfl (Nat.le_of_ble_eq_true rfl) dL_law_605 ⟨Nat.le_trans hc (Nat.le_of_ble_eq_true rfl), Nat.le_trans hs (Nat.le_of_ble_eq_true rfl)⟩) (fun r_2 σ_2 H locs hw_2 hP hS => ?_)
  refine lv_icmp_eq (tgt := 1507) hx hb dL_law_608 (by decide) (fun c_3 => ?_) (fun c_3 => absurd (by rw [hw_1.1, hw_2]) c_3)
  exact law_end C0 hr hlk hX hbl hS (lv_sub hl [0, 4] rfl) (Nat.le_trans hc (Nat.le_of_ble_eq_true rfl)) (Nat.le_trans hs (Nat.le_of_ble_eq_true rfl))
set_option maxHeartbeats 4000000 in
set_option maxRecDepth 100000 in
theorem law_c13 {p : Program} {l : Launch} {e : Env} {s : State} {m : MethodId} {below : List Frame} {meth : Method} {c : Code} {D : va_G} {cA : Nat → ClassId} {ad : Nat → Nat} {o : Int64} {σ : Mem} {b : Nat} {xs : Nat → Int32} {H : Heap} {locs : List Loc} {cells slots : Nat} {ls : Array Slot} {sa1 sa2 : Nat} (hfl : l.stackTraces = false) (C0 : CX p s m #[Value.ref b] c code 8 RL) (hr : meth.sig.returnType = ret) (hlk : meth.locks = false) (hX : va_X b 6 xs s s.heap) (hbl : b < s.heap.size) (X : WX D cA ad (fun q => s.heap.size ≤ q) s) (hZ : XL sa1 sa2 s) (hP : WP D cA ad o σ H) (hF : Fr σ) (hS : va_S (fun q => s.heap.size ≤ q) s.heap H locs) (hl : lv_has ls 8 [(0, .ref b), (1, .ref (ad 66)), (2, .ref (ad 91)), (3, .ref (ad 105)), (4, .int 0)]) (hc : cells ≤ 600000) (hs : slots ≤ 7300000) : W p l e room_1 s m #[Value.ref b] below meth c H locs cells slots (lw_Z below #[Value.ref b] s) (F0 m 613 ls []) := by
  obtain ⟨hx, hb, hml, hown, hts⟩ := id C0
  have hbA : ¬ (fun q => s.heap.size ≤ q) b := Nat.not_le.mpr hbl
  refine lv_aload_n hx hb dL_law_613 rfl (lv_at hl 1 rfl) ?_
  refine lv_aload_n hx hb dL_law_614 rfl (lv_at hl 0 rfl) ?_
  refine lv_iload hx hb dL_law_615 (lv_at hl 4 rfl) ?_
  refine lv_iconst (v := 1) hx hb dL_law_617 (by decide) ?_
  refine lv_iadd hx hb dL_law_618 ?_
  refine lv_topE (y := 1) (by decide) ?_
  refine va_sld (xs := xs) hx hb hX hbl hbA hS (by unfold vp_in; decide) dL_law_619 ?_
  refine lv_topE (y := (xs 1)) rfl ?_
  refine lv_aload_n hx hb dL_law_620 rfl (lv_at hl 0 rfl) ?_
  refine lv_iload hx hb dL_law_621 (lv_at hl 4 rfl) ?_
  refine lv_iconst (v := 2) hx hb dL_law_623 (by decide) ?_
  refine lv_iadd hx hb dL_law_624 ?_
  refine lv_topE (y := 2) (by decide) ?_
  refine va_sld (xs := xs) hx hb hX hbl hbA hS (by unfold vp_in; decide) dL_law_625 ?_
  refine lv_topE (y := (xs 2)) rfl ?_
  refine r_ci X hS (r_runV (As := [.int (xs 1), .int (xs 2)]) (rest := []) C0 X hP L_L_77 (fun sz => c_X7_judge_f l D cA ad o σ (xs 1) (xs 2) hF sz) (by decide) (show kd 66 = (7, 8) from rfl) (by decide) rfl ⟨(Nat.le_of_ble_eq_true rfl), (Nat.le_of_ble_eq_true rfl)⟩ rfl hl.1 rfl (Nat.le_of_ble_eq_true rfl) dL_law_626 ⟨Nat.le_trans hc (Nat.le_of_ble_eq_true rfl), Nat.le_trans hs (Nat.le_of_ble_eq_true rfl)⟩) (fun r_1 σ_1 H locs hw_1 hP hS => ?_)
  refine lv_aload_n hx hb dL_law_629 rfl (lv_at hl 2 rfl) ?_
  refine lv_aload_n hx hb dL_law_630 rfl (lv_at hl 0 rfl) ?_
  refine lv_iload hx hb dL_law_631 (lv_at hl 4 rfl) ?_
  refine lv_iconst (v := 1) hx hb dL_law_633 (by decide) ?_
  refine lv_iadd hx hb dL_law_634 ?_
  refine lv_topE (y := 1) (by decide) ?_
  refine va_sld (xs := xs) hx hb hX hbl hbA hS (by unfold vp_in; decide) dL_law_635 ?_
  refine lv_topE (y := (xs 1)) rfl ?_
  refine lv_aload_n hx hb dL_law_636 rfl (lv_at hl 0 rfl) ?_
  refine lv_iload hx hb dL_law_637 (lv_at hl 4 rfl) ?_
  refine lv_iconst (v := 2) hx hb dL_law_639 (by decide) ?_
  refine lv_iadd hx hb dL_law_640 ?_
  refine lv_topE (y := 2) (by decide) ?_
  refine va_sld (xs := xs) hx hb hX hbl hbA hS (by unfold vp_in; decide) dL_law_641 ?_
  refine lv_topE (y := (xs 2)) rfl ?_
  refine r_ci X hS (r_runV (As := [.int (xs 1), .int (xs 2)]) (rest := [.int r_1]) C0 X hP L_L_80 (fun sz => c_X8_judge_f l D cA ad o σ_1 (xs 1) (xs 2) (FrM_of hF hw_1.2) sz) (by decide) (show kd 91 = (8, 24) from rfl) (by decide) rfl ⟨(Nat.le_of_ble_eq_true rfl), (Nat.le_of_ble_eq_true rfl)⟩ rfl hl.1 rfl (Nat.le_of_ble_eq_true rfl) dL_law_642 ⟨Nat.le_trans hc (Nat.le_of_ble_eq_true rfl), Nat.le_trans hs (Nat.le_of_ble_eq_true rfl)⟩) (fun r_2 σ_2 H locs hw_2 hP hS => ?_)
  refine lv_icmp_eq (tgt := 1507) hx hb dL_law_645 (by decide) (fun c_3 => ?_) (fun c_3 => absurd (by rw [hw_1.1, hw_2]) c_3)
  exact law_end C0 hr hlk hX hbl hS (lv_sub hl [0, 4] rfl) (Nat.le_trans hc (Nat.le_of_ble_eq_true rfl)) (Nat.le_trans hs (Nat.le_of_ble_eq_true rfl))
set_option maxHeartbeats 4000000 in
set_option maxRecDepth 100000 in
theorem law_c14 {p : Program} {l : Launch} {e : Env} {s : State} {m : MethodId} {below : List Frame} {meth : Method} {c : Code} {D : va_G} {cA : Nat → ClassId} {ad : Nat → Nat} {o : Int64} {σ : Mem} {b : Nat} {xs : Nat → Int32} {H : Heap} {locs : List Loc} {cells slots : Nat} {ls : Array Slot} {sa1 sa2 : Nat} (hfl : l.stackTraces = false) (C0 : CX p s m #[Value.ref b] c code 8 RL) (hr : meth.sig.returnType = ret) (hlk : meth.locks = false) (hX : va_X b 6 xs s s.heap) (hbl : b < s.heap.size) (X : WX D cA ad (fun q => s.heap.size ≤ q) s) (hZ : XL sa1 sa2 s) (hP : WP D cA ad o σ H) (hF : Fr σ) (hS : va_S (fun q => s.heap.size ≤ q) s.heap H locs) (hl : lv_has ls 8 [(0, .ref b), (1, .ref (ad 66)), (2, .ref (ad 91)), (3, .ref (ad 105)), (4, .int 0)]) (hc : cells ≤ 600000) (hs : slots ≤ 7300000) : W p l e room_1 s m #[Value.ref b] below meth c H locs cells slots (lw_Z below #[Value.ref b] s) (F0 m 650 ls []) := by
  obtain ⟨hx, hb, hml, hown, hts⟩ := id C0
  have hbA : ¬ (fun q => s.heap.size ≤ q) b := Nat.not_le.mpr hbl
  refine lv_aload_n hx hb dL_law_650 rfl (lv_at hl 1 rfl) ?_
  refine lv_aload_n hx hb dL_law_651 rfl (lv_at hl 0 rfl) ?_
  refine lv_iload hx hb dL_law_652 (lv_at hl 4 rfl) ?_
  refine lv_iconst (v := 1) hx hb dL_law_654 (by decide) ?_
  refine lv_iadd hx hb dL_law_655 ?_
  refine lv_topE (y := 1) (by decide) ?_
  refine va_sld (xs := xs) hx hb hX hbl hbA hS (by unfold vp_in; decide) dL_law_656 ?_
  refine lv_topE (y := (xs 1)) rfl ?_
  refine lv_aload_n hx hb dL_law_657 rfl (lv_at hl 0 rfl) ?_
  refine lv_iload hx hb dL_law_658 (lv_at hl 4 rfl) ?_
  refine lv_iconst (v := 2) hx hb dL_law_660 (by decide) ?_
  refine lv_iadd hx hb dL_law_661 ?_
  refine lv_topE (y := 2) (by decide) ?_
  refine va_sld (xs := xs) hx hb hX hbl hbA hS (by unfold vp_in; decide) dL_law_662 ?_
  refine lv_topE (y := (xs 2)) rfl ?_
  refine r_ci X hS (r_runV (As := [.int (xs 1), .int (xs 2)]) (rest := []) C0 X hP L_L_81 (fun sz => c_X7_run_f l D cA ad o σ (xs 1) (xs 2) hF sz) (by decide) (show kd 66 = (7, 8) from rfl) (by decide) rfl ⟨(Nat.le_of_ble_eq_true rfl), (Nat.le_of_ble_eq_true rfl)⟩ rfl hl.1 rfl (Nat.le_of_ble_eq_true rfl) dL_law_663 ⟨Nat.le_trans hc (Nat.le_of_ble_eq_true rfl), Nat.le_trans hs (Nat.le_of_ble_eq_true rfl)⟩) (fun r_1 σ_1 H locs hw_1 hP hS => ?_)
  refine lv_aload_n hx hb dL_law_666 rfl (lv_at hl 2 rfl) ?_
  refine lv_aload_n hx hb dL_law_667 rfl (lv_at hl 0 rfl) ?_
  refine lv_iload hx hb dL_law_668 (lv_at hl 4 rfl) ?_
  refine lv_iconst (v := 1) hx hb dL_law_670 (by decide) ?_
  refine lv_iadd hx hb dL_law_671 ?_
  refine lv_topE (y := 1) (by decide) ?_
  refine va_sld (xs := xs) hx hb hX hbl hbA hS (by unfold vp_in; decide) dL_law_672 ?_
  refine lv_topE (y := (xs 1)) rfl ?_
  refine lv_aload_n hx hb dL_law_673 rfl (lv_at hl 0 rfl) ?_
  refine lv_iload hx hb dL_law_674 (lv_at hl 4 rfl) ?_
  refine lv_iconst (v := 2) hx hb dL_law_676 (by decide) ?_
  refine lv_iadd hx hb dL_law_677 ?_
  refine lv_topE (y := 2) (by decide) ?_
  refine va_sld (xs := xs) hx hb hX hbl hbA hS (by unfold vp_in; decide) dL_law_678 ?_
  refine lv_topE (y := (xs 2)) rfl ?_
  refine r_ci X hS (r_runV (As := [.int (xs 1), .int (xs 2)]) (rest := [.int r_1]) C0 X hP L_L_84 (fun sz => c_X8_run_f l D cA ad o σ_1 (xs 1) (xs 2) (FrM_of hF hw_1.2) sz) (by decide) (show kd 91 = (8, 24) from rfl) (by decide) rfl ⟨(Nat.le_of_ble_eq_true rfl), (Nat.le_of_ble_eq_true rfl)⟩ rfl hl.1 rfl (Nat.le_of_ble_eq_true rfl) dL_law_679 ⟨Nat.le_trans hc (Nat.le_of_ble_eq_true rfl), Nat.le_trans hs (Nat.le_of_ble_eq_true rfl)⟩) (fun r_2 σ_2 H locs hw_2 hP hS => ?_)
  refine lv_icmp_eq (tgt := 1507) hx hb dL_law_682 (by decide) (fun c_3 => ?_) (fun c_3 => absurd (by rw [hw_1.1, hw_2]) c_3)
  exact law_end C0 hr hlk hX hbl hS (lv_sub hl [0, 4] rfl) (Nat.le_trans hc (Nat.le_of_ble_eq_true rfl)) (Nat.le_trans hs (Nat.le_of_ble_eq_true rfl))
set_option maxHeartbeats 4000000 in
set_option maxRecDepth 100000 in
theorem law_c15 {p : Program} {l : Launch} {e : Env} {s : State} {m : MethodId} {below : List Frame} {meth : Method} {c : Code} {D : va_G} {cA : Nat → ClassId} {ad : Nat → Nat} {o : Int64} {σ : Mem} {b : Nat} {xs : Nat → Int32} {H : Heap} {locs : List Loc} {cells slots : Nat} {ls : Array Slot} {sa1 sa2 : Nat} (hfl : l.stackTraces = false) (C0 : CX p s m #[Value.ref b] c code 8 RL) (hr : meth.sig.returnType = ret) (hlk : meth.locks = false) (hX : va_X b 6 xs s s.heap) (hbl : b < s.heap.size) (X : WX D cA ad (fun q => s.heap.size ≤ q) s) (hZ : XL sa1 sa2 s) (hP : WP D cA ad o σ H) (hF : Fr σ) (hS : va_S (fun q => s.heap.size ≤ q) s.heap H locs) (hl : lv_has ls 8 [(0, .ref b), (1, .ref (ad 66)), (2, .ref (ad 91)), (3, .ref (ad 105)), (4, .int 0)]) (hc : cells ≤ 600000) (hs : slots ≤ 7300000) : W p l e room_1 s m #[Value.ref b] below meth c H locs cells slots (lw_Z below #[Value.ref b] s) (F0 m 687 ls []) := by
  obtain ⟨hx, hb, hml, hown, hts⟩ := id C0
  have hbA : ¬ (fun q => s.heap.size ≤ q) b := Nat.not_le.mpr hbl
  refine lv_aload_n hx hb dL_law_687 rfl (lv_at hl 1 rfl) ?_
  refine lv_aload_n hx hb dL_law_688 rfl (lv_at hl 0 rfl) ?_
  refine lv_iload hx hb dL_law_689 (lv_at hl 4 rfl) ?_
  refine lv_iconst (v := 1) hx hb dL_law_691 (by decide) ?_
  refine lv_iadd hx hb dL_law_692 ?_
  refine lv_topE (y := 1) (by decide) ?_
  refine va_sld (xs := xs) hx hb hX hbl hbA hS (by unfold vp_in; decide) dL_law_693 ?_
  refine lv_topE (y := (xs 1)) rfl ?_
  refine r_ci X hS (r_runV (As := [.int (xs 1)]) (rest := []) C0 X hP L_L_85 (fun sz => c_X7_ever_f l D cA ad o σ (xs 1) hF sz) (by decide) (show kd 66 = (7, 8) from rfl) (by decide) rfl ⟨(Nat.le_of_ble_eq_true rfl), (Nat.le_of_ble_eq_true rfl)⟩ rfl hl.1 rfl (Nat.le_of_ble_eq_true rfl) dL_law_694 ⟨Nat.le_trans hc (Nat.le_of_ble_eq_true rfl), Nat.le_trans hs (Nat.le_of_ble_eq_true rfl)⟩) (fun r_1 σ_1 H locs hw_1 hP hS => ?_)
  refine lv_aload_n hx hb dL_law_697 rfl (lv_at hl 2 rfl) ?_
  refine lv_aload_n hx hb dL_law_698 rfl (lv_at hl 0 rfl) ?_
  refine lv_iload hx hb dL_law_699 (lv_at hl 4 rfl) ?_
  refine lv_iconst (v := 1) hx hb dL_law_701 (by decide) ?_
  refine lv_iadd hx hb dL_law_702 ?_
  refine lv_topE (y := 1) (by decide) ?_
  refine va_sld (xs := xs) hx hb hX hbl hbA hS (by unfold vp_in; decide) dL_law_703 ?_
  refine lv_topE (y := (xs 1)) rfl ?_
  refine r_ci X hS (r_runV (As := [.int (xs 1)]) (rest := [.int r_1]) C0 X hP L_L_88 (fun sz => c_X8_ever_f l D cA ad o σ_1 (xs 1) (FrM_of hF hw_1.2) sz) (by decide) (show kd 91 = (8, 24) from rfl) (by decide) rfl ⟨(Nat.le_of_ble_eq_true rfl), (Nat.le_of_ble_eq_true rfl)⟩ rfl hl.1 rfl (Nat.le_of_ble_eq_true rfl) dL_law_704 ⟨Nat.le_trans hc (Nat.le_of_ble_eq_true rfl), Nat.le_trans hs (Nat.le_of_ble_eq_true rfl)⟩) (fun r_2 σ_2 H locs hw_2 hP hS => ?_)
  refine lv_icmp_eq (tgt := 1507) hx hb dL_law_707 (by decide) (fun c_3 => ?_) (fun c_3 => absurd (by rw [hw_1.1, hw_2]) c_3)
  exact law_end C0 hr hlk hX hbl hS (lv_sub hl [0, 4] rfl) (Nat.le_trans hc (Nat.le_of_ble_eq_true rfl)) (Nat.le_trans hs (Nat.le_of_ble_eq_true rfl))
set_option maxHeartbeats 4000000 in
set_option maxRecDepth 100000 in
theorem law_c16 {p : Program} {l : Launch} {e : Env} {s : State} {m : MethodId} {below : List Frame} {meth : Method} {c : Code} {D : va_G} {cA : Nat → ClassId} {ad : Nat → Nat} {o : Int64} {σ : Mem} {b : Nat} {xs : Nat → Int32} {H : Heap} {locs : List Loc} {cells slots : Nat} {ls : Array Slot} {sa1 sa2 : Nat} (hfl : l.stackTraces = false) (C0 : CX p s m #[Value.ref b] c code 8 RL) (hr : meth.sig.returnType = ret) (hlk : meth.locks = false) (hX : va_X b 6 xs s s.heap) (hbl : b < s.heap.size) (X : WX D cA ad (fun q => s.heap.size ≤ q) s) (hZ : XL sa1 sa2 s) (hP : WP D cA ad o σ H) (hF : Fr σ) (hS : va_S (fun q => s.heap.size ≤ q) s.heap H locs) (hl : lv_has ls 8 [(0, .ref b), (1, .ref (ad 66)), (2, .ref (ad 91)), (3, .ref (ad 105)), (4, .int 0)]) (hc : cells ≤ 600000) (hs : slots ≤ 7300000) : W p l e room_1 s m #[Value.ref b] below meth c H locs cells slots (lw_Z below #[Value.ref b] s) (F0 m 712 ls []) := by
  obtain ⟨hx, hb, hml, hown, hts⟩ := id C0
  have hbA : ¬ (fun q => s.heap.size ≤ q) b := Nat.not_le.mpr hbl
  refine lv_aload_n hx hb dL_law_712 rfl (lv_at hl 1 rfl) ?_
  refine lv_aload_n hx hb dL_law_713 rfl (lv_at hl 0 rfl) ?_
  refine lv_iload hx hb dL_law_714 (lv_at hl 4 rfl) ?_
  refine lv_iconst (v := 1) hx hb dL_law_716 (by decide) ?_
  refine lv_iadd hx hb dL_law_717 ?_
  refine lv_topE (y := 1) (by decide) ?_
  refine va_sld (xs := xs) hx hb hX hbl hbA hS (by unfold vp_in; decide) dL_law_718 ?_
  refine lv_topE (y := (xs 1)) rfl ?_
  refine r_ci X hS (r_runV (As := [.int (xs 1)]) (rest := []) C0 X hP L_L_89 (fun sz => c_X7_best_f l D cA ad o σ (xs 1) hF sz) (by decide) (show kd 66 = (7, 8) from rfl) (by decide) rfl ⟨(Nat.le_of_ble_eq_true rfl), (Nat.le_of_ble_eq_true rfl)⟩ rfl hl.1 rfl (Nat.le_of_ble_eq_true rfl) dL_law_719 ⟨Nat.le_trans hc (Nat.le_of_ble_eq_true rfl), Nat.le_trans hs (Nat.le_of_ble_eq_true rfl)⟩) (fun r_1 σ_1 H locs hw_1 hP hS => ?_)
  refine lv_aload_n hx hb dL_law_722 rfl (lv_at hl 2 rfl) ?_
  refine lv_aload_n hx hb dL_law_723 rfl (lv_at hl 0 rfl) ?_
  refine lv_iload hx hb dL_law_724 (lv_at hl 4 rfl) ?_
  refine lv_iconst (v := 1) hx hb dL_law_726 (by decide) ?_
  refine lv_iadd hx hb dL_law_727 ?_
  refine lv_topE (y := 1) (by decide) ?_
  refine va_sld (xs := xs) hx hb hX hbl hbA hS (by unfold vp_in; decide) dL_law_728 ?_
  refine lv_topE (y := (xs 1)) rfl ?_
  refine r_ci X hS (r_runV (As := [.int (xs 1)]) (rest := [.int r_1]) C0 X hP L_L_92 (fun sz => c_X8_best_f l D cA ad o σ_1 (xs 1) (FrM_of hF hw_1.2) sz) (by decide) (show kd 91 = (8, 24) from rfl) (by decide) rfl ⟨(Nat.le_of_ble_eq_true rfl), (Nat.le_of_ble_eq_true rfl)⟩ rfl hl.1 rfl (Nat.le_of_ble_eq_true rfl) dL_law_729 ⟨Nat.le_trans hc (Nat.le_of_ble_eq_true rfl), Nat.le_trans hs (Nat.le_of_ble_eq_true rfl)⟩) (fun r_2 σ_2 H locs hw_2 hP hS => ?_)
  refine lv_icmp_eq (tgt := 1507) hx hb dL_law_732 (by decide) (fun c_3 => ?_) (fun c_3 => absurd (by rw [hw_1.1, hw_2, eq_b]) c_3)
  exact law_end C0 hr hlk hX hbl hS (lv_sub hl [0, 4] rfl) (Nat.le_trans hc (Nat.le_of_ble_eq_true rfl)) (Nat.le_trans hs (Nat.le_of_ble_eq_true rfl))
set_option maxHeartbeats 4000000 in
set_option maxRecDepth 100000 in
theorem law_c17 {p : Program} {l : Launch} {e : Env} {s : State} {m : MethodId} {below : List Frame} {meth : Method} {c : Code} {D : va_G} {cA : Nat → ClassId} {ad : Nat → Nat} {o : Int64} {σ : Mem} {b : Nat} {xs : Nat → Int32} {H : Heap} {locs : List Loc} {cells slots : Nat} {ls : Array Slot} {sa1 sa2 : Nat} (hfl : l.stackTraces = false) (C0 : CX p s m #[Value.ref b] c code 8 RL) (hr : meth.sig.returnType = ret) (hlk : meth.locks = false) (hX : va_X b 6 xs s s.heap) (hbl : b < s.heap.size) (X : WX D cA ad (fun q => s.heap.size ≤ q) s) (hZ : XL sa1 sa2 s) (hP : WP D cA ad o σ H) (hF : Fr σ) (hS : va_S (fun q => s.heap.size ≤ q) s.heap H locs) (hl : lv_has ls 8 [(0, .ref b), (1, .ref (ad 66)), (2, .ref (ad 91)), (3, .ref (ad 105)), (4, .int 0)]) (hc : cells ≤ 600000) (hs : slots ≤ 7300000) : W p l e room_1 s m #[Value.ref b] below meth c H locs cells slots (lw_Z below #[Value.ref b] s) (F0 m 737 ls []) := by
  obtain ⟨hx, hb, hml, hown, hts⟩ := id C0
  have hbA : ¬ (fun q => s.heap.size ≤ q) b := Nat.not_le.mpr hbl
  refine lv_aload_n hx hb dL_law_737 rfl (lv_at hl 1 rfl) ?_
  refine lv_aload_n hx hb dL_law_738 rfl (lv_at hl 0 rfl) ?_
  refine lv_iload hx hb dL_law_739 (lv_at hl 4 rfl) ?_
  refine lv_iconst (v := 1) hx hb dL_law_741 (by decide) ?_
  refine lv_iadd hx hb dL_law_742 ?_
  refine lv_topE (y := 1) (by decide) ?_
  refine va_sld (xs := xs) hx hb hX hbl hbA hS (by unfold vp_in; decide) dL_law_743 ?_
  refine lv_topE (y := (xs 1)) rfl ?_
  refine r_ci X hS (r_runV (As := [.int (xs 1)]) (rest := []) C0 X hP L_L_93 (fun sz => c_X7_more_f l D cA ad o σ (xs 1) hF sz) (by decide) (show kd 66 = (7, 8) from rfl) (by decide) rfl ⟨(Nat.le_of_ble_eq_true rfl), (Nat.le_of_ble_eq_true rfl)⟩ rfl hl.1 rfl (Nat.le_of_ble_eq_true rfl) dL_law_744 ⟨Nat.le_trans hc (Nat.le_of_ble_eq_true rfl), Nat.le_trans hs (Nat.le_of_ble_eq_true rfl)⟩) (fun r_1 σ_1 H locs hw_1 hP hS => ?_)
  refine lv_aload_n hx hb dL_law_747 rfl (lv_at hl 2 rfl) ?_
  refine lv_aload_n hx hb dL_law_748 rfl (lv_at hl 0 rfl) ?_
  refine lv_iload hx hb dL_law_749 (lv_at hl 4 rfl) ?_
  refine lv_iconst (v := 1) hx hb dL_law_751 (by decide) ?_
  refine lv_iadd hx hb dL_law_752 ?_
  refine lv_topE (y := 1) (by decide) ?_
  refine va_sld (xs := xs) hx hb hX hbl hbA hS (by unfold vp_in; decide) dL_law_753 ?_
  refine lv_topE (y := (xs 1)) rfl ?_
  refine r_ci X hS (r_runV (As := [.int (xs 1)]) (rest := [.int r_1]) C0 X hP L_L_96 (fun sz => c_X8_more_f l D cA ad o σ_1 (xs 1) (FrM_of hF hw_1.2) sz) (by decide) (show kd 91 = (8, 24) from rfl) (by decide) rfl ⟨(Nat.le_of_ble_eq_true rfl), (Nat.le_of_ble_eq_true rfl)⟩ rfl hl.1 rfl (Nat.le_of_ble_eq_true rfl) dL_law_754 ⟨Nat.le_trans hc (Nat.le_of_ble_eq_true rfl), Nat.le_trans hs (Nat.le_of_ble_eq_true rfl)⟩) (fun r_2 σ_2 H locs hw_2 hP hS => ?_)
  refine lv_icmp_eq (tgt := 1507) hx hb dL_law_757 (by decide) (fun c_3 => ?_) (fun c_3 => absurd (by rw [hw_1.1, hw_2, eq_b]) c_3)
  exact law_end C0 hr hlk hX hbl hS (lv_sub hl [0, 4] rfl) (Nat.le_trans hc (Nat.le_of_ble_eq_true rfl)) (Nat.le_trans hs (Nat.le_of_ble_eq_true rfl))
set_option maxHeartbeats 4000000 in
set_option maxRecDepth 100000 in
theorem law_c18 {p : Program} {l : Launch} {e : Env} {s : State} {m : MethodId} {below : List Frame} {meth : Method} {c : Code} {D : va_G} {cA : Nat → ClassId} {ad : Nat → Nat} {o : Int64} {σ : Mem} {b : Nat} {xs : Nat → Int32} {H : Heap} {locs : List Loc} {cells slots : Nat} {ls : Array Slot} {sa1 sa2 : Nat} (hfl : l.stackTraces = false) (C0 : CX p s m #[Value.ref b] c code 8 RL) (hr : meth.sig.returnType = ret) (hlk : meth.locks = false) (hX : va_X b 6 xs s s.heap) (hbl : b < s.heap.size) (X : WX D cA ad (fun q => s.heap.size ≤ q) s) (hZ : XL sa1 sa2 s) (hP : WP D cA ad o σ H) (hF : Fr σ) (hS : va_S (fun q => s.heap.size ≤ q) s.heap H locs) (hl : lv_has ls 8 [(0, .ref b), (1, .ref (ad 66)), (2, .ref (ad 91)), (3, .ref (ad 105)), (4, .int 0)]) (hc : cells ≤ 600000) (hs : slots ≤ 7300000) : W p l e room_1 s m #[Value.ref b] below meth c H locs cells slots (lw_Z below #[Value.ref b] s) (F0 m 762 ls []) := by
  obtain ⟨hx, hb, hml, hown, hts⟩ := id C0
  have hbA : ¬ (fun q => s.heap.size ≤ q) b := Nat.not_le.mpr hbl
  refine lv_aload_n hx hb dL_law_762 rfl (lv_at hl 1 rfl) ?_
  refine lv_aload_n hx hb dL_law_763 rfl (lv_at hl 0 rfl) ?_
  refine lv_iload hx hb dL_law_764 (lv_at hl 4 rfl) ?_
  refine lv_iconst (v := 1) hx hb dL_law_766 (by decide) ?_
  refine lv_iadd hx hb dL_law_767 ?_
  refine lv_topE (y := 1) (by decide) ?_
  refine va_sld (xs := xs) hx hb hX hbl hbA hS (by unfold vp_in; decide) dL_law_768 ?_
  refine lv_topE (y := (xs 1)) rfl ?_
  refine lv_aload_n hx hb dL_law_769 rfl (lv_at hl 0 rfl) ?_
  refine lv_iload hx hb dL_law_770 (lv_at hl 4 rfl) ?_
  refine lv_iconst (v := 2) hx hb dL_law_772 (by decide) ?_
  refine lv_iadd hx hb dL_law_773 ?_
  refine lv_topE (y := 2) (by decide) ?_
  refine va_sld (xs := xs) hx hb hX hbl hbA hS (by unfold vp_in; decide) dL_law_774 ?_
  refine lv_topE (y := (xs 2)) rfl ?_
  refine r_ci X hS (r_runV (As := [.int (xs 1), .int (xs 2)]) (rest := []) C0 X hP L_L_97 (fun sz => c_X7_fit_f l D cA ad o σ (xs 1) (xs 2) hF sz) (by decide) (show kd 66 = (7, 8) from rfl) (by decide) rfl ⟨(Nat.le_of_ble_eq_true rfl), (Nat.le_of_ble_eq_true rfl)⟩ rfl hl.1 rfl (Nat.le_of_ble_eq_true rfl) dL_law_775 ⟨Nat.le_trans hc (Nat.le_of_ble_eq_true rfl), Nat.le_trans hs (Nat.le_of_ble_eq_true rfl)⟩) (fun r_1 σ_1 H locs hw_1 hP hS => ?_)
  refine lv_aload_n hx hb dL_law_778 rfl (lv_at hl 2 rfl) ?_
  refine lv_aload_n hx hb dL_law_779 rfl (lv_at hl 0 rfl) ?_
  refine lv_iload hx hb dL_law_780 (lv_at hl 4 rfl) ?_
  refine lv_iconst (v := 1) hx hb dL_law_782 (by decide) ?_
  refine lv_iadd hx hb dL_law_783 ?_
  refine lv_topE (y := 1) (by decide) ?_
  refine va_sld (xs := xs) hx hb hX hbl hbA hS (by unfold vp_in; decide) dL_law_784 ?_
  refine lv_topE (y := (xs 1)) rfl ?_
  refine lv_aload_n hx hb dL_law_785 rfl (lv_at hl 0 rfl) ?_
  refine lv_iload hx hb dL_law_786 (lv_at hl 4 rfl) ?_
  refine lv_iconst (v := 2) hx hb dL_law_788 (by decide) ?_
  refine lv_iadd hx hb dL_law_789 ?_
  refine lv_topE (y := 2) (by decide) ?_
  refine va_sld (xs := xs) hx hb hX hbl hbA hS (by unfold vp_in; decide) dL_law_790 ?_
  refine lv_topE (y := (xs 2)) rfl ?_
  refine r_ci X hS (r_runV (As := [.int (xs 1), .int (xs 2)]) (rest := [.int r_1]) C0 X hP L_L_100 (fun sz => c_X8_fit_f l D cA ad o σ_1 (xs 1) (xs 2) (FrM_of hF hw_1.2) sz) (by decide) (show kd 91 = (8, 24) from rfl) (by decide) rfl ⟨(Nat.le_of_ble_eq_true rfl), (Nat.le_of_ble_eq_true rfl)⟩ rfl hl.1 rfl (Nat.le_of_ble_eq_true rfl) dL_law_791 ⟨Nat.le_trans hc (Nat.le_of_ble_eq_true rfl), Nat.le_trans hs (Nat.le_of_ble_eq_true rfl)⟩) (fun r_2 σ_2 H locs hw_2 hP hS => ?_)
  refine lv_icmp_eq (tgt := 1507) hx hb dL_law_794 (by decide) (fun c_3 => ?_) (fun c_3 => absurd (by rw [hw_1.1, hw_2]) c_3)
  exact law_end C0 hr hlk hX hbl hS (lv_sub hl [0, 4] rfl) (Nat.le_trans hc (Nat.le_of_ble_eq_true rfl)) (Nat.le_trans hs (Nat.le_of_ble_eq_true rfl))
set_option maxHeartbeats 4000000 in
set_option maxRecDepth 100000 in
theorem law_c19 {p : Program} {l : Launch} {e : Env} {s : State} {m : MethodId} {below : List Frame} {meth : Method} {c : Code} {D : va_G} {cA : Nat → ClassId} {ad : Nat → Nat} {o : Int64} {σ : Mem} {b : Nat} {xs : Nat → Int32} {H : Heap} {locs : List Loc} {cells slots : Nat} {ls : Array Slot} {sa1 sa2 : Nat} (hfl : l.stackTraces = false) (C0 : CX p s m #[Value.ref b] c code 8 RL) (hr : meth.sig.returnType = ret) (hlk : meth.locks = false) (hX : va_X b 6 xs s s.heap) (hbl : b < s.heap.size) (X : WX D cA ad (fun q => s.heap.size ≤ q) s) (hZ : XL sa1 sa2 s) (hP : WP D cA ad o σ H) (hF : Fr σ) (hS : va_S (fun q => s.heap.size ≤ q) s.heap H locs) (hl : lv_has ls 8 [(0, .ref b), (1, .ref (ad 66)), (2, .ref (ad 91)), (3, .ref (ad 105)), (4, .int 0)]) (hc : cells ≤ 600000) (hs : slots ≤ 7300000) : W p l e room_1 s m #[Value.ref b] below meth c H locs cells slots (lw_Z below #[Value.ref b] s) (F0 m 799 ls []) := by
  obtain ⟨hx, hb, hml, hown, hts⟩ := id C0
  have hbA : ¬ (fun q => s.heap.size ≤ q) b := Nat.not_le.mpr hbl
  refine lv_aload_n hx hb dL_law_799 rfl (lv_at hl 1 rfl) ?_
  refine r_ci X hS (r_runV (As := []) (rest := []) C0 X hP L_L_101 (fun sz => c_X7_shortest_f l D cA ad o σ  hF sz) (by decide) (show kd 66 = (7, 8) from rfl) (by decide) rfl ⟨(Nat.le_of_ble_eq_true rfl), (Nat.le_of_ble_eq_true rfl)⟩ rfl hl.1 rfl (Nat.le_of_ble_eq_true rfl) dL_law_800 ⟨Nat.le_trans hc (Nat.le_of_ble_eq_true rfl), Nat.le_trans hs (Nat.le_of_ble_eq_true rfl)⟩) (fun r_1 σ_1 H locs hw_1 hP hS => ?_)
  refine lv_aload_n hx hb dL_law_803 rfl (lv_at hl 2 rfl) ?_
  refine r_ci X hS (r_runV (As := []) (rest := [.int r_1]) C0 X hP L_L_104 (fun sz => c_X8_shortest_f l D cA ad o σ_1  (FrM_of hF hw_1.2) sz) (by decide) (show kd 91 = (8, 24) from rfl) (by decide) rfl ⟨(Nat.le_of_ble_eq_true rfl), (Nat.le_of_ble_eq_true rfl)⟩ rfl hl.1 rfl (Nat.le_of_ble_eq_true rfl) dL_law_804 ⟨Nat.le_trans hc (Nat.le_of_ble_eq_true rfl), Nat.le_trans hs (Nat.le_of_ble_eq_true rfl)⟩) (fun r_2 σ_2 H locs hw_2 hP hS => ?_)
  refine lv_icmp_eq (tgt := 1507) hx hb dL_law_807 (by decide) (fun c_3 => ?_) (fun c_3 => absurd (by rw [hw_1.1, hw_2]) c_3)
  exact law_end C0 hr hlk hX hbl hS (lv_sub hl [0, 4] rfl) (Nat.le_trans hc (Nat.le_of_ble_eq_true rfl)) (Nat.le_trans hs (Nat.le_of_ble_eq_true rfl))
set_option maxHeartbeats 4000000 in
set_option maxRecDepth 100000 in
theorem law_c20 {p : Program} {l : Launch} {e : Env} {s : State} {m : MethodId} {below : List Frame} {meth : Method} {c : Code} {D : va_G} {cA : Nat → ClassId} {ad : Nat → Nat} {o : Int64} {σ : Mem} {b : Nat} {xs : Nat → Int32} {H : Heap} {locs : List Loc} {cells slots : Nat} {ls : Array Slot} {sa1 sa2 : Nat} (hfl : l.stackTraces = false) (C0 : CX p s m #[Value.ref b] c code 8 RL) (hr : meth.sig.returnType = ret) (hlk : meth.locks = false) (hX : va_X b 6 xs s s.heap) (hbl : b < s.heap.size) (X : WX D cA ad (fun q => s.heap.size ≤ q) s) (hZ : XL sa1 sa2 s) (hP : WP D cA ad o σ H) (hF : Fr σ) (hS : va_S (fun q => s.heap.size ≤ q) s.heap H locs) (hl : lv_has ls 8 [(0, .ref b), (1, .ref (ad 66)), (2, .ref (ad 91)), (3, .ref (ad 105)), (4, .int 0)]) (hc : cells ≤ 600000) (hs : slots ≤ 7300000) : W p l e room_1 s m #[Value.ref b] below meth c H locs cells slots (lw_Z below #[Value.ref b] s) (F0 m 812 ls []) := by
  obtain ⟨hx, hb, hml, hown, hts⟩ := id C0
  have hbA : ¬ (fun q => s.heap.size ≤ q) b := Nat.not_le.mpr hbl
  refine lv_aload_n hx hb dL_law_812 rfl (lv_at hl 1 rfl) ?_
  refine lv_aload_n hx hb dL_law_813 rfl (lv_at hl 0 rfl) ?_
  refine lv_iload hx hb dL_law_814 (lv_at hl 4 rfl) ?_
  refine lv_iconst (v := 1) hx hb dL_law_816 (by decide) ?_
  refine lv_iadd hx hb dL_law_817 ?_
  refine lv_topE (y := 1) (by decide) ?_
  refine va_sld (xs := xs) hx hb hX hbl hbA hS (by unfold vp_in; decide) dL_law_818 ?_
  refine lv_topE (y := (xs 1)) rfl ?_
  refine r_ci X hS (r_runV (As := [.int (xs 1)]) (rest := []) C0 X hP L_L_105 (fun sz => c_X7_hours_f l D cA ad o σ (xs 1) hF sz) (by decide) (show kd 66 = (7, 8) from rfl) (by decide) rfl ⟨(Nat.le_of_ble_eq_true rfl), (Nat.le_of_ble_eq_true rfl)⟩ rfl hl.1 rfl (Nat.le_of_ble_eq_true rfl) dL_law_819 ⟨Nat.le_trans hc (Nat.le_of_ble_eq_true rfl), Nat.le_trans hs (Nat.le_of_ble_eq_true rfl)⟩) (fun r_1 σ_1 H locs hw_1 hP hS => ?_)
  refine lv_aload_n hx hb dL_law_822 rfl (lv_at hl 2 rfl) ?_
  refine lv_aload_n hx hb dL_law_823 rfl (lv_at hl 0 rfl) ?_
  refine lv_iload hx hb dL_law_824 (lv_at hl 4 rfl) ?_
  refine lv_iconst (v := 1) hx hb dL_law_826 (by decide) ?_
  refine lv_iadd hx hb dL_law_827 ?_
  refine lv_topE (y := 1) (by decide) ?_
  refine va_sld (xs := xs) hx hb hX hbl hbA hS (by unfold vp_in; decide) dL_law_828 ?_
  refine lv_topE (y := (xs 1)) rfl ?_
  refine r_ci X hS (r_runV (As := [.int (xs 1)]) (rest := [.int r_1]) C0 X hP L_L_108 (fun sz => c_X8_hours_f l D cA ad o σ_1 (xs 1) (FrM_of hF hw_1.2) sz) (by decide) (show kd 91 = (8, 24) from rfl) (by decide) rfl ⟨(Nat.le_of_ble_eq_true rfl), (Nat.le_of_ble_eq_true rfl)⟩ rfl hl.1 rfl (Nat.le_of_ble_eq_true rfl) dL_law_829 ⟨Nat.le_trans hc (Nat.le_of_ble_eq_true rfl), Nat.le_trans hs (Nat.le_of_ble_eq_true rfl)⟩) (fun r_2 σ_2 H locs hw_2 hP hS => ?_)
  refine lv_icmp_eq (tgt := 1507) hx hb dL_law_832 (by decide) (fun c_3 => ?_) (fun c_3 => absurd (by rw [hw_1.1, hw_2, eq_b]) c_3)
  exact law_end C0 hr hlk hX hbl hS (lv_sub hl [0, 4] rfl) (Nat.le_trans hc (Nat.le_of_ble_eq_true rfl)) (Nat.le_trans hs (Nat.le_of_ble_eq_true rfl))
set_option maxHeartbeats 4000000 in
set_option maxRecDepth 100000 in
theorem law_c21 {p : Program} {l : Launch} {e : Env} {s : State} {m : MethodId} {below : List Frame} {meth : Method} {c : Code} {D : va_G} {cA : Nat → ClassId} {ad : Nat → Nat} {o : Int64} {σ : Mem} {b : Nat} {xs : Nat → Int32} {H : Heap} {locs : List Loc} {cells slots : Nat} {ls : Array Slot} {sa1 sa2 : Nat} (hfl : l.stackTraces = false) (C0 : CX p s m #[Value.ref b] c code 8 RL) (hr : meth.sig.returnType = ret) (hlk : meth.locks = false) (hX : va_X b 6 xs s s.heap) (hbl : b < s.heap.size) (X : WX D cA ad (fun q => s.heap.size ≤ q) s) (hZ : XL sa1 sa2 s) (hP : WP D cA ad o σ H) (hF : Fr σ) (hS : va_S (fun q => s.heap.size ≤ q) s.heap H locs) (hl : lv_has ls 8 [(0, .ref b), (1, .ref (ad 66)), (2, .ref (ad 91)), (3, .ref (ad 105)), (4, .int 0)]) (hc : cells ≤ 600000) (hs : slots ≤ 7300000) : W p l e room_1 s m #[Value.ref b] below meth c H locs cells slots (lw_Z below #[Value.ref b] s) (F0 m 837 ls []) := by
  obtain ⟨hx, hb, hml, hown, hts⟩ := id C0
  have hbA : ¬ (fun q => s.heap.size ≤ q) b := Nat.not_le.mpr hbl
  refine lv_aload_n hx hb dL_law_837 rfl (lv_at hl 1 rfl) ?_
  refine lv_aload_n hx hb dL_law_838 rfl (lv_at hl 0 rfl) ?_
  refine lv_iload hx hb dL_law_839 (lv_at hl 4 rfl) ?_
  refine lv_iconst (v := 1) hx hb dL_law_841 (by decide) ?_
  refine lv_iadd hx hb dL_law_842 ?_
  refine lv_topE (y := 1) (by decide) ?_
  refine va_sld (xs := xs) hx hb hX hbl hbA hS (by unfold vp_in; decide) dL_law_843 ?_
  refine lv_topE (y := (xs 1)) rfl ?_
  refine r_ci X hS (r_runV (As := [.int (xs 1)]) (rest := []) C0 X hP L_L_109 (fun sz => c_X7_stubborn_f l D cA ad o σ (xs 1) hF sz) (by decide) (show kd 66 = (7, 8) from rfl) (by decide) rfl ⟨(Nat.le_of_ble_eq_true rfl), (Nat.le_of_ble_eq_true rfl)⟩ rfl hl.1 rfl (Nat.le_of_ble_eq_true rfl) dL_law_844 ⟨Nat.le_trans hc (Nat.le_of_ble_eq_true rfl), Nat.le_trans hs (Nat.le_of_ble_eq_true rfl)⟩) (fun r_1 σ_1 H locs hw_1 hP hS => ?_)
  refine lv_aload_n hx hb dL_law_847 rfl (lv_at hl 2 rfl) ?_
  refine lv_aload_n hx hb dL_law_848 rfl (lv_at hl 0 rfl) ?_
  refine lv_iload hx hb dL_law_849 (lv_at hl 4 rfl) ?_
  refine lv_iconst (v := 1) hx hb dL_law_851 (by decide) ?_
  refine lv_iadd hx hb dL_law_852 ?_
  refine lv_topE (y := 1) (by decide) ?_
  refine va_sld (xs := xs) hx hb hX hbl hbA hS (by unfold vp_in; decide) dL_law_853 ?_
  refine lv_topE (y := (xs 1)) rfl ?_
  refine r_ci X hS (r_runV (As := [.int (xs 1)]) (rest := [.int r_1]) C0 X hP L_L_112 (fun sz => c_X8_stubborn_f l D cA ad o σ_1 (xs 1) (FrM_of hF hw_1.2) sz) (by decide) (show kd 91 = (8, 24) from rfl) (by decide) rfl ⟨(Nat.le_of_ble_eq_true rfl), (Nat.le_of_ble_eq_true rfl)⟩ rfl hl.1 rfl (Nat.le_of_ble_eq_true rfl) dL_law_854 ⟨Nat.le_trans hc (Nat.le_of_ble_eq_true rfl), Nat.le_trans hs (Nat.le_of_ble_eq_true rfl)⟩) (fun r_2 σ_2 H locs hw_2 hP hS => ?_)
  refine lv_icmp_eq (tgt := 1507) hx hb dL_law_857 (by decide) (fun c_3 => ?_) (fun c_3 => absurd (by rw [hw_1.1, hw_2]) c_3)
  exact law_end C0 hr hlk hX hbl hS (lv_sub hl [0, 4] rfl) (Nat.le_trans hc (Nat.le_of_ble_eq_true rfl)) (Nat.le_trans hs (Nat.le_of_ble_eq_true rfl))
set_option maxHeartbeats 4000000 in
set_option maxRecDepth 100000 in
theorem law_c22 {p : Program} {l : Launch} {e : Env} {s : State} {m : MethodId} {below : List Frame} {meth : Method} {c : Code} {D : va_G} {cA : Nat → ClassId} {ad : Nat → Nat} {o : Int64} {σ : Mem} {b : Nat} {xs : Nat → Int32} {H : Heap} {locs : List Loc} {cells slots : Nat} {ls : Array Slot} {sa1 sa2 : Nat} (hfl : l.stackTraces = false) (C0 : CX p s m #[Value.ref b] c code 8 RL) (hr : meth.sig.returnType = ret) (hlk : meth.locks = false) (hX : va_X b 6 xs s s.heap) (hbl : b < s.heap.size) (X : WX D cA ad (fun q => s.heap.size ≤ q) s) (hZ : XL sa1 sa2 s) (hP : WP D cA ad o σ H) (hF : Fr σ) (hS : va_S (fun q => s.heap.size ≤ q) s.heap H locs) (hl : lv_has ls 8 [(0, .ref b), (1, .ref (ad 66)), (2, .ref (ad 91)), (3, .ref (ad 105)), (4, .int 0)]) (hc : cells ≤ 600000) (hs : slots ≤ 7300000) : W p l e room_1 s m #[Value.ref b] below meth c H locs cells slots (lw_Z below #[Value.ref b] s) (F0 m 862 ls []) := by
  obtain ⟨hx, hb, hml, hown, hts⟩ := id C0
  have hbA : ¬ (fun q => s.heap.size ≤ q) b := Nat.not_le.mpr hbl
  refine lv_aload_n hx hb dL_law_862 rfl (lv_at hl 1 rfl) ?_
  refine lv_aload_n hx hb dL_law_863 rfl (lv_at hl 0 rfl) ?_
  refine lv_iload hx hb dL_law_864 (lv_at hl 4 rfl) ?_
  refine lv_iconst (v := 1) hx hb dL_law_866 (by decide) ?_
  refine lv_iadd hx hb dL_law_867 ?_
  refine lv_topE (y := 1) (by decide) ?_
  refine va_sld (xs := xs) hx hb hX hbl hbA hS (by unfold vp_in; decide) dL_law_868 ?_
  refine lv_topE (y := (xs 1)) rfl ?_
  refine r_ci X hS (r_runV (As := [.int (xs 1)]) (rest := []) C0 X hP L_L_113 (fun sz => c_X7_heard_f l D cA ad o σ (xs 1) hF sz) (by decide) (show kd 66 = (7, 8) from rfl) (by decide) rfl ⟨(Nat.le_of_ble_eq_true rfl), (Nat.le_of_ble_eq_true rfl)⟩ rfl hl.1 rfl (Nat.le_of_ble_eq_true rfl) dL_law_869 ⟨Nat.le_trans hc (Nat.le_of_ble_eq_true rfl), Nat.le_trans hs (Nat.le_of_ble_eq_true rfl)⟩) (fun r_1 σ_1 H locs hw_1 hP hS => ?_)
  refine lv_aload_n hx hb dL_law_872 rfl (lv_at hl 2 rfl) ?_
  refine lv_aload_n hx hb dL_law_873 rfl (lv_at hl 0 rfl) ?_
  refine lv_iload hx hb dL_law_874 (lv_at hl 4 rfl) ?_
  refine lv_iconst (v := 1) hx hb dL_law_876 (by decide) ?_
  refine lv_iadd hx hb dL_law_877 ?_
  refine lv_topE (y := 1) (by decide) ?_
  refine va_sld (xs := xs) hx hb hX hbl hbA hS (by unfold vp_in; decide) dL_law_878 ?_
  refine lv_topE (y := (xs 1)) rfl ?_
  refine r_ci X hS (r_runV (As := [.int (xs 1)]) (rest := [.int r_1]) C0 X hP L_L_116 (fun sz => c_X8_heard_f l D cA ad o σ_1 (xs 1) (FrM_of hF hw_1.2) sz) (by decide) (show kd 91 = (8, 24) from rfl) (by decide) rfl ⟨(Nat.le_of_ble_eq_true rfl), (Nat.le_of_ble_eq_true rfl)⟩ rfl hl.1 rfl (Nat.le_of_ble_eq_true rfl) dL_law_879 ⟨Nat.le_trans hc (Nat.le_of_ble_eq_true rfl), Nat.le_trans hs (Nat.le_of_ble_eq_true rfl)⟩) (fun r_2 σ_2 H locs hw_2 hP hS => ?_)
  refine lv_icmp_eq (tgt := 1507) hx hb dL_law_882 (by decide) (fun c_3 => ?_) (fun c_3 => absurd (by rw [hw_1.1, hw_2]) c_3)
  exact law_end C0 hr hlk hX hbl hS (lv_sub hl [0, 4] rfl) (Nat.le_trans hc (Nat.le_of_ble_eq_true rfl)) (Nat.le_trans hs (Nat.le_of_ble_eq_true rfl))
set_option maxHeartbeats 4000000 in
set_option maxRecDepth 100000 in
theorem law_c23 {p : Program} {l : Launch} {e : Env} {s : State} {m : MethodId} {below : List Frame} {meth : Method} {c : Code} {D : va_G} {cA : Nat → ClassId} {ad : Nat → Nat} {o : Int64} {σ : Mem} {b : Nat} {xs : Nat → Int32} {H : Heap} {locs : List Loc} {cells slots : Nat} {ls : Array Slot} {sa1 sa2 : Nat} (hfl : l.stackTraces = false) (C0 : CX p s m #[Value.ref b] c code 8 RL) (hr : meth.sig.returnType = ret) (hlk : meth.locks = false) (hX : va_X b 6 xs s s.heap) (hbl : b < s.heap.size) (X : WX D cA ad (fun q => s.heap.size ≤ q) s) (hZ : XL sa1 sa2 s) (hP : WP D cA ad o σ H) (hF : Fr σ) (hS : va_S (fun q => s.heap.size ≤ q) s.heap H locs) (hl : lv_has ls 8 [(0, .ref b), (1, .ref (ad 66)), (2, .ref (ad 91)), (3, .ref (ad 105)), (4, .int 0)]) (hc : cells ≤ 600000) (hs : slots ≤ 7300000) : W p l e room_1 s m #[Value.ref b] below meth c H locs cells slots (lw_Z below #[Value.ref b] s) (F0 m 887 ls []) := by
  obtain ⟨hx, hb, hml, hown, hts⟩ := id C0
  have hbA : ¬ (fun q => s.heap.size ≤ q) b := Nat.not_le.mpr hbl
  refine lv_aload_n hx hb dL_law_887 rfl (lv_at hl 1 rfl) ?_
  refine lv_aload_n hx hb dL_law_888 rfl (lv_at hl 0 rfl) ?_
  refine lv_iload hx hb dL_law_889 (lv_at hl 4 rfl) ?_
  refine lv_iconst (v := 1) hx hb dL_law_891 (by decide) ?_
  refine lv_iadd hx hb dL_law_892 ?_
  refine lv_topE (y := 1) (by decide) ?_
  refine va_sld (xs := xs) hx hb hX hbl hbA hS (by unfold vp_in; decide) dL_law_893 ?_
  refine lv_topE (y := (xs 1)) rfl ?_
  refine lv_aload_n hx hb dL_law_894 rfl (lv_at hl 0 rfl) ?_
  refine lv_iload hx hb dL_law_895 (lv_at hl 4 rfl) ?_
  refine lv_iconst (v := 2) hx hb dL_law_897 (by decide) ?_
  refine lv_iadd hx hb dL_law_898 ?_
  refine lv_topE (y := 2) (by decide) ?_
  refine va_sld (xs := xs) hx hb hX hbl hbA hS (by unfold vp_in; decide) dL_law_899 ?_
  refine lv_topE (y := (xs 2)) rfl ?_
  refine lv_aload_n hx hb dL_law_900 rfl (lv_at hl 0 rfl) ?_
  refine lv_iload hx hb dL_law_901 (lv_at hl 4 rfl) ?_
  refine lv_iconst (v := 3) hx hb dL_law_903 (by decide) ?_
  refine lv_iadd hx hb dL_law_904 ?_
  refine lv_topE (y := 3) (by decide) ?_
  refine va_sld (xs := xs) hx hb hX hbl hbA hS (by unfold vp_in; decide) dL_law_905 ?_
  refine lv_topE (y := (xs 3)) rfl ?_
  refine r_ci X hS (r_runV (As := [.int (xs 1), .int (xs 2), .int (xs 3)]) (rest := []) C0 X hP L_L_117 (fun sz => c_X7_days_f l D cA ad o σ (xs 1) (xs 2) (xs 3) hF sz) (by decide) (show kd 66 = (7, 8) from rfl) (by decide) rfl ⟨(Nat.le_of_ble_eq_true rfl), (Nat.le_of_ble_eq_true rfl)⟩ rfl hl.1 rfl (Nat.le_of_ble_eq_true rfl) dL_law_906 ⟨Nat.le_trans hc (Nat.le_of_ble_eq_true rfl), Nat.le_trans hs (Nat.le_of_ble_eq_true rfl)⟩) (fun r_1 σ_1 H locs hw_1 hP hS => ?_)
  refine lv_aload_n hx hb dL_law_909 rfl (lv_at hl 2 rfl) ?_
  refine lv_aload_n hx hb dL_law_910 rfl (lv_at hl 0 rfl) ?_
  refine lv_iload hx hb dL_law_911 (lv_at hl 4 rfl) ?_
  refine lv_iconst (v := 1) hx hb dL_law_913 (by decide) ?_
  refine lv_iadd hx hb dL_law_914 ?_
  refine lv_topE (y := 1) (by decide) ?_
  refine va_sld (xs := xs) hx hb hX hbl hbA hS (by unfold vp_in; decide) dL_law_915 ?_
  refine lv_topE (y := (xs 1)) rfl ?_
  refine lv_aload_n hx hb dL_law_916 rfl (lv_at hl 0 rfl) ?_
  refine lv_iload hx hb dL_law_917 (lv_at hl 4 rfl) ?_
  refine lv_iconst (v := 2) hx hb dL_law_919 (by decide) ?_
  refine lv_iadd hx hb dL_law_920 ?_
  refine lv_topE (y := 2) (by decide) ?_
  refine va_sld (xs := xs) hx hb hX hbl hbA hS (by unfold vp_in; decide) dL_law_921 ?_
  refine lv_topE (y := (xs 2)) rfl ?_
  refine lv_aload_n hx hb dL_law_922 rfl (lv_at hl 0 rfl) ?_
  refine lv_iload hx hb dL_law_923 (lv_at hl 4 rfl) ?_
  refine lv_iconst (v := 3) hx hb dL_law_925 (by decide) ?_
  refine lv_iadd hx hb dL_law_926 ?_
  refine lv_topE (y := 3) (by decide) ?_
  refine va_sld (xs := xs) hx hb hX hbl hbA hS (by unfold vp_in; decide) dL_law_927 ?_
  refine lv_topE (y := (xs 3)) rfl ?_
  refine r_ci X hS (r_runV (As := [.int (xs 1), .int (xs 2), .int (xs 3)]) (rest := [.int r_1]) C0 X hP L_L_120 (fun sz => c_X8_days_f l D cA ad o σ_1 (xs 1) (xs 2) (xs 3) (FrM_of hF hw_1.2) sz) (by decide) (show kd 91 = (8, 24) from rfl) (by decide) rfl ⟨(Nat.le_of_ble_eq_true rfl), (Nat.le_of_ble_eq_true rfl)⟩ rfl hl.1 rfl (Nat.le_of_ble_eq_true rfl) dL_law_928 ⟨Nat.le_trans hc (Nat.le_of_ble_eq_true rfl), Nat.le_trans hs (Nat.le_of_ble_eq_true rfl)⟩) (fun r_2 σ_2 H locs hw_2 hP hS => ?_)
  refine lv_icmp_eq (tgt := 1507) hx hb dL_law_931 (by decide) (fun c_3 => ?_) (fun c_3 => absurd (by rw [hw_1.1, hw_2, eq_d]) c_3)
  exact law_end C0 hr hlk hX hbl hS (lv_sub hl [0, 4] rfl) (Nat.le_trans hc (Nat.le_of_ble_eq_true rfl)) (Nat.le_trans hs (Nat.le_of_ble_eq_true rfl))
set_option maxHeartbeats 4000000 in
set_option maxRecDepth 100000 in
theorem law_c24 {p : Program} {l : Launch} {e : Env} {s : State} {m : MethodId} {below : List Frame} {meth : Method} {c : Code} {D : va_G} {cA : Nat → ClassId} {ad : Nat → Nat} {o : Int64} {σ : Mem} {b : Nat} {xs : Nat → Int32} {H : Heap} {locs : List Loc} {cells slots : Nat} {ls : Array Slot} {sa1 sa2 : Nat} (hfl : l.stackTraces = false) (C0 : CX p s m #[Value.ref b] c code 8 RL) (hr : meth.sig.returnType = ret) (hlk : meth.locks = false) (hX : va_X b 6 xs s s.heap) (hbl : b < s.heap.size) (X : WX D cA ad (fun q => s.heap.size ≤ q) s) (hZ : XL sa1 sa2 s) (hP : WP D cA ad o σ H) (hF : Fr σ) (hS : va_S (fun q => s.heap.size ≤ q) s.heap H locs) (hl : lv_has ls 8 [(0, .ref b), (1, .ref (ad 66)), (2, .ref (ad 91)), (3, .ref (ad 105)), (4, .int 0)]) (hc : cells ≤ 600000) (hs : slots ≤ 7300000) : W p l e room_1 s m #[Value.ref b] below meth c H locs cells slots (lw_Z below #[Value.ref b] s) (F0 m 936 ls []) := by
  obtain ⟨hx, hb, hml, hown, hts⟩ := id C0
  have hbA : ¬ (fun q => s.heap.size ≤ q) b := Nat.not_le.mpr hbl
  refine lv_aload_n hx hb dL_law_936 rfl (lv_at hl 1 rfl) ?_
  refine lv_aload_n hx hb dL_law_937 rfl (lv_at hl 0 rfl) ?_
  refine lv_iload hx hb dL_law_938 (lv_at hl 4 rfl) ?_
  refine lv_iconst (v := 1) hx hb dL_law_940 (by decide) ?_
  refine lv_iadd hx hb dL_law_941 ?_
  refine lv_topE (y := 1) (by decide) ?_
  refine va_sld (xs := xs) hx hb hX hbl hbA hS (by unfold vp_in; decide) dL_law_942 ?_
  refine lv_topE (y := (xs 1)) rfl ?_
  refine lv_aload_n hx hb dL_law_943 rfl (lv_at hl 0 rfl) ?_
  refine lv_iload hx hb dL_law_944 (lv_at hl 4 rfl) ?_
  refine lv_iconst (v := 2) hx hb dL_law_946 (by decide) ?_
  refine lv_iadd hx hb dL_law_947 ?_
  refine lv_topE (y := 2) (by decide) ?_
  refine va_sld (xs := xs) hx hb hX hbl hbA hS (by unfold vp_in; decide) dL_law_948 ?_
  refine lv_topE (y := (xs 2)) rfl ?_
  refine r_ci X hS (r_runV (As := [.int (xs 1), .int (xs 2)]) (rest := []) C0 X hP L_L_121 (fun sz => c_X7_met_f l D cA ad o σ (xs 1) (xs 2) hF sz) (by decide) (show kd 66 = (7, 8) from rfl) (by decide) rfl ⟨(Nat.le_of_ble_eq_true rfl), (Nat.le_of_ble_eq_true rfl)⟩ rfl hl.1 rfl (Nat.le_of_ble_eq_true rfl) dL_law_949 ⟨Nat.le_trans hc (Nat.le_of_ble_eq_true rfl), Nat.le_trans hs (Nat.le_of_ble_eq_true rfl)⟩) (fun r_1 σ_1 H locs hw_1 hP hS => ?_)
  refine lv_aload_n hx hb dL_law_952 rfl (lv_at hl 2 rfl) ?_
  refine lv_aload_n hx hb dL_law_953 rfl (lv_at hl 0 rfl) ?_
  refine lv_iload hx hb dL_law_954 (lv_at hl 4 rfl) ?_
  refine lv_iconst (v := 1) hx hb dL_law_956 (by decide) ?_
  refine lv_iadd hx hb dL_law_957 ?_
  refine lv_topE (y := 1) (by decide) ?_
  refine va_sld (xs := xs) hx hb hX hbl hbA hS (by unfold vp_in; decide) dL_law_958 ?_
  refine lv_topE (y := (xs 1)) rfl ?_
  refine lv_aload_n hx hb dL_law_959 rfl (lv_at hl 0 rfl) ?_
  refine lv_iload hx hb dL_law_960 (lv_at hl 4 rfl) ?_
  refine lv_iconst (v := 2) hx hb dL_law_962 (by decide) ?_
  refine lv_iadd hx hb dL_law_963 ?_
  refine lv_topE (y := 2) (by decide) ?_
  refine va_sld (xs := xs) hx hb hX hbl hbA hS (by unfold vp_in; decide) dL_law_964 ?_
  refine lv_topE (y := (xs 2)) rfl ?_
  refine r_ci X hS (r_runV (As := [.int (xs 1), .int (xs 2)]) (rest := [.int r_1]) C0 X hP L_L_124 (fun sz => c_X8_met_f l D cA ad o σ_1 (xs 1) (xs 2) (FrM_of hF hw_1.2) sz) (by decide) (show kd 91 = (8, 24) from rfl) (by decide) rfl ⟨(Nat.le_of_ble_eq_true rfl), (Nat.le_of_ble_eq_true rfl)⟩ rfl hl.1 rfl (Nat.le_of_ble_eq_true rfl) dL_law_965 ⟨Nat.le_trans hc (Nat.le_of_ble_eq_true rfl), Nat.le_trans hs (Nat.le_of_ble_eq_true rfl)⟩) (fun r_2 σ_2 H locs hw_2 hP hS => ?_)
  refine lv_icmp_eq (tgt := 1507) hx hb dL_law_968 (by decide) (fun c_3 => ?_) (fun c_3 => absurd (by rw [hw_1.1, hw_2]) c_3)
  exact law_end C0 hr hlk hX hbl hS (lv_sub hl [0, 4] rfl) (Nat.le_trans hc (Nat.le_of_ble_eq_true rfl)) (Nat.le_trans hs (Nat.le_of_ble_eq_true rfl))
set_option maxHeartbeats 4000000 in
set_option maxRecDepth 100000 in
theorem law_c25 {p : Program} {l : Launch} {e : Env} {s : State} {m : MethodId} {below : List Frame} {meth : Method} {c : Code} {D : va_G} {cA : Nat → ClassId} {ad : Nat → Nat} {o : Int64} {σ : Mem} {b : Nat} {xs : Nat → Int32} {H : Heap} {locs : List Loc} {cells slots : Nat} {ls : Array Slot} {sa1 sa2 : Nat} (hfl : l.stackTraces = false) (C0 : CX p s m #[Value.ref b] c code 8 RL) (hr : meth.sig.returnType = ret) (hlk : meth.locks = false) (hX : va_X b 6 xs s s.heap) (hbl : b < s.heap.size) (X : WX D cA ad (fun q => s.heap.size ≤ q) s) (hZ : XL sa1 sa2 s) (hP : WP D cA ad o σ H) (hF : Fr σ) (hS : va_S (fun q => s.heap.size ≤ q) s.heap H locs) (hl : lv_has ls 8 [(0, .ref b), (1, .ref (ad 66)), (2, .ref (ad 91)), (3, .ref (ad 105)), (4, .int 0)]) (hc : cells ≤ 600000) (hs : slots ≤ 7300000) : W p l e room_1 s m #[Value.ref b] below meth c H locs cells slots (lw_Z below #[Value.ref b] s) (F0 m 973 ls []) := by
  obtain ⟨hx, hb, hml, hown, hts⟩ := id C0
  have hbA : ¬ (fun q => s.heap.size ≤ q) b := Nat.not_le.mpr hbl
  refine lv_aload_n hx hb dL_law_973 rfl (lv_at hl 1 rfl) ?_
  refine lv_aload_n hx hb dL_law_974 rfl (lv_at hl 0 rfl) ?_
  refine lv_iload hx hb dL_law_975 (lv_at hl 4 rfl) ?_
  refine lv_iconst (v := 1) hx hb dL_law_977 (by decide) ?_
  refine lv_iadd hx hb dL_law_978 ?_
  refine lv_topE (y := 1) (by decide) ?_
  refine va_sld (xs := xs) hx hb hX hbl hbA hS (by unfold vp_in; decide) dL_law_979 ?_
  refine lv_topE (y := (xs 1)) rfl ?_
  refine lv_aload_n hx hb dL_law_980 rfl (lv_at hl 0 rfl) ?_
  refine lv_iload hx hb dL_law_981 (lv_at hl 4 rfl) ?_
  refine lv_iconst (v := 2) hx hb dL_law_983 (by decide) ?_
  refine lv_iadd hx hb dL_law_984 ?_
  refine lv_topE (y := 2) (by decide) ?_
  refine va_sld (xs := xs) hx hb hX hbl hbA hS (by unfold vp_in; decide) dL_law_985 ?_
  refine lv_topE (y := (xs 2)) rfl ?_
  refine lv_aload_n hx hb dL_law_986 rfl (lv_at hl 0 rfl) ?_
  refine lv_iload hx hb dL_law_987 (lv_at hl 4 rfl) ?_
  refine lv_iconst (v := 3) hx hb dL_law_989 (by decide) ?_
  refine lv_iadd hx hb dL_law_990 ?_
  refine lv_topE (y := 3) (by decide) ?_
  refine va_sld (xs := xs) hx hb hX hbl hbA hS (by unfold vp_in; decide) dL_law_991 ?_
  refine lv_topE (y := (xs 3)) rfl ?_
  refine lv_aload_n hx hb dL_law_992 rfl (lv_at hl 0 rfl) ?_
  refine lv_iload hx hb dL_law_993 (lv_at hl 4 rfl) ?_
  refine lv_iconst (v := 4) hx hb dL_law_995 (by decide) ?_
  refine lv_iadd hx hb dL_law_996 ?_
  refine lv_topE (y := 4) (by decide) ?_
  refine va_sld (xs := xs) hx hb hX hbl hbA hS (by unfold vp_in; decide) dL_law_997 ?_
  refine lv_topE (y := (xs 4)) rfl ?_
  refine lv_aload_n hx hb dL_law_998 rfl (lv_at hl 0 rfl) ?_
  refine lv_iload hx hb dL_law_999 (lv_at hl 4 rfl) ?_
  refine lv_iconst (v := 5) hx hb dL_law_1001 (by decide) ?_
  refine lv_iadd hx hb dL_law_1002 ?_
  refine lv_topE (y := 5) (by decide) ?_
  refine va_sld (xs := xs) hx hb hX hbl hbA hS (by unfold vp_in; decide) dL_law_1003 ?_
  refine lv_topE (y := (xs 5)) rfl ?_
  refine r_ci X hS (r_runV (As := [.int (xs 1), .int (xs 2), .int (xs 3), .int (xs 4), .int (xs 5)]) (rest := []) C0 X hP L_L_125 (fun sz => c_X7_rows_f l D cA ad o σ (xs 1) (xs 2) (xs 3) (xs 4) (xs 5) hF sz) (by decide) (show kd 66 = (7, 8) from rfl) (by decide) rfl ⟨(Nat.le_of_ble_eq_true rfl), (Nat.le_of_ble_eq_true rfl)⟩ rfl hl.1 rfl (Nat.le_of_ble_eq_true rfl) dL_law_1004 ⟨Nat.le_trans hc (Nat.le_of_ble_eq_true rfl), Nat.le_trans hs (Nat.le_of_ble_eq_true rfl)⟩) (fun r_1 σ_1 H locs hw_1 hP hS => ?_)
  refine lv_aload_n hx hb dL_law_1007 rfl (lv_at hl 2 rfl) ?_
  refine lv_aload_n hx hb dL_law_1008 rfl (lv_at hl 0 rfl) ?_
  refine lv_iload hx hb dL_law_1009 (lv_at hl 4 rfl) ?_
  refine lv_iconst (v := 1) hx hb dL_law_1011 (by decide) ?_
  refine lv_iadd hx hb dL_law_1012 ?_
  refine lv_topE (y := 1) (by decide) ?_
  refine va_sld (xs := xs) hx hb hX hbl hbA hS (by unfold vp_in; decide) dL_law_1013 ?_
  refine lv_topE (y := (xs 1)) rfl ?_
  refine lv_aload_n hx hb dL_law_1014 rfl (lv_at hl 0 rfl) ?_
  refine lv_iload hx hb dL_law_1015 (lv_at hl 4 rfl) ?_
  refine lv_iconst (v := 2) hx hb dL_law_1017 (by decide) ?_
  refine lv_iadd hx hb dL_law_1018 ?_
  refine lv_topE (y := 2) (by decide) ?_
  refine va_sld (xs := xs) hx hb hX hbl hbA hS (by unfold vp_in; decide) dL_law_1019 ?_
  refine lv_topE (y := (xs 2)) rfl ?_
  refine lv_aload_n hx hb dL_law_1020 rfl (lv_at hl 0 rfl) ?_
  refine lv_iload hx hb dL_law_1021 (lv_at hl 4 rfl) ?_
  refine lv_iconst (v := 3) hx hb dL_law_1023 (by decide) ?_
  refine lv_iadd hx hb dL_law_1024 ?_
  refine lv_topE (y := 3) (by decide) ?_
  refine va_sld (xs := xs) hx hb hX hbl hbA hS (by unfold vp_in; decide) dL_law_1025 ?_
  refine lv_topE (y := (xs 3)) rfl ?_
  refine lv_aload_n hx hb dL_law_1026 rfl (lv_at hl 0 rfl) ?_
  refine lv_iload hx hb dL_law_1027 (lv_at hl 4 rfl) ?_
  refine lv_iconst (v := 4) hx hb dL_law_1029 (by decide) ?_
  refine lv_iadd hx hb dL_law_1030 ?_
  refine lv_topE (y := 4) (by decide) ?_
  refine va_sld (xs := xs) hx hb hX hbl hbA hS (by unfold vp_in; decide) dL_law_1031 ?_
  refine lv_topE (y := (xs 4)) rfl ?_
  refine lv_aload_n hx hb dL_law_1032 rfl (lv_at hl 0 rfl) ?_
  refine lv_iload hx hb dL_law_1033 (lv_at hl 4 rfl) ?_
  refine lv_iconst (v := 5) hx hb dL_law_1035 (by decide) ?_
  refine lv_iadd hx hb dL_law_1036 ?_
  refine lv_topE (y := 5) (by decide) ?_
  refine va_sld (xs := xs) hx hb hX hbl hbA hS (by unfold vp_in; decide) dL_law_1037 ?_
  refine lv_topE (y := (xs 5)) rfl ?_
  refine r_ci X hS (r_runV (As := [.int (xs 1), .int (xs 2), .int (xs 3), .int (xs 4), .int (xs 5)]) (rest := [.int r_1]) C0 X hP L_L_129 (fun sz => c_X8_rows_f l D cA ad o σ_1 (xs 1) (xs 2) (xs 3) (xs 4) (xs 5) (FrM_of hF hw_1.2) sz) (by decide) (show kd 91 = (8, 24) from rfl) (by decide) rfl ⟨(Nat.le_of_ble_eq_true rfl), (Nat.le_of_ble_eq_true rfl)⟩ rfl hl.1 rfl (Nat.le_of_ble_eq_true rfl) dL_law_1038 ⟨Nat.le_trans hc (Nat.le_of_ble_eq_true rfl), Nat.le_trans hs (Nat.le_of_ble_eq_true rfl)⟩) (fun r_2 σ_2 H locs hw_2 hP hS => ?_)
  refine lv_icmp_eq (tgt := 1507) hx hb dL_law_1041 (by decide) (fun c_3 => ?_) (fun c_3 => absurd (by rw [hw_1.1, hw_2]) c_3)
  exact law_end C0 hr hlk hX hbl hS (lv_sub hl [0, 4] rfl) (Nat.le_trans hc (Nat.le_of_ble_eq_true rfl)) (Nat.le_trans hs (Nat.le_of_ble_eq_true rfl))
set_option maxHeartbeats 4000000 in
set_option maxRecDepth 100000 in
theorem law_c26 {p : Program} {l : Launch} {e : Env} {s : State} {m : MethodId} {below : List Frame} {meth : Method} {c : Code} {D : va_G} {cA : Nat → ClassId} {ad : Nat → Nat} {o : Int64} {σ : Mem} {b : Nat} {xs : Nat → Int32} {H : Heap} {locs : List Loc} {cells slots : Nat} {ls : Array Slot} {sa1 sa2 : Nat} (hfl : l.stackTraces = false) (C0 : CX p s m #[Value.ref b] c code 8 RL) (hr : meth.sig.returnType = ret) (hlk : meth.locks = false) (hX : va_X b 6 xs s s.heap) (hbl : b < s.heap.size) (X : WX D cA ad (fun q => s.heap.size ≤ q) s) (hZ : XL sa1 sa2 s) (hP : WP D cA ad o σ H) (hF : Fr σ) (hS : va_S (fun q => s.heap.size ≤ q) s.heap H locs) (hl : lv_has ls 8 [(0, .ref b), (1, .ref (ad 66)), (2, .ref (ad 91)), (3, .ref (ad 105)), (4, .int 0)]) (hc : cells ≤ 600000) (hs : slots ≤ 7300000) : W p l e room_1 s m #[Value.ref b] below meth c H locs cells slots (lw_Z below #[Value.ref b] s) (F0 m 1046 ls []) := by
  obtain ⟨hx, hb, hml, hown, hts⟩ := id C0
  have hbA : ¬ (fun q => s.heap.size ≤ q) b := Nat.not_le.mpr hbl
  refine lv_aload_n hx hb dL_law_1046 rfl (lv_at hl 1 rfl) ?_
  refine lv_aload_n hx hb dL_law_1047 rfl (lv_at hl 0 rfl) ?_
  refine lv_iload hx hb dL_law_1048 (lv_at hl 4 rfl) ?_
  refine lv_iconst (v := 1) hx hb dL_law_1050 (by decide) ?_
  refine lv_iadd hx hb dL_law_1051 ?_
  refine lv_topE (y := 1) (by decide) ?_
  refine va_sld (xs := xs) hx hb hX hbl hbA hS (by unfold vp_in; decide) dL_law_1052 ?_
  refine lv_topE (y := (xs 1)) rfl ?_
  refine lv_aload_n hx hb dL_law_1053 rfl (lv_at hl 0 rfl) ?_
  refine lv_iload hx hb dL_law_1054 (lv_at hl 4 rfl) ?_
  refine lv_iconst (v := 2) hx hb dL_law_1056 (by decide) ?_
  refine lv_iadd hx hb dL_law_1057 ?_
  refine lv_topE (y := 2) (by decide) ?_
  refine va_sld (xs := xs) hx hb hX hbl hbA hS (by unfold vp_in; decide) dL_law_1058 ?_
  refine lv_topE (y := (xs 2)) rfl ?_
  refine lv_aload_n hx hb dL_law_1059 rfl (lv_at hl 0 rfl) ?_
  refine lv_iload hx hb dL_law_1060 (lv_at hl 4 rfl) ?_
  refine lv_iconst (v := 3) hx hb dL_law_1062 (by decide) ?_
  refine lv_iadd hx hb dL_law_1063 ?_
  refine lv_topE (y := 3) (by decide) ?_
  refine va_sld (xs := xs) hx hb hX hbl hbA hS (by unfold vp_in; decide) dL_law_1064 ?_
  refine lv_topE (y := (xs 3)) rfl ?_
  refine lv_aload_n hx hb dL_law_1065 rfl (lv_at hl 0 rfl) ?_
  refine lv_iload hx hb dL_law_1066 (lv_at hl 4 rfl) ?_
  refine lv_iconst (v := 4) hx hb dL_law_1068 (by decide) ?_
  refine lv_iadd hx hb dL_law_1069 ?_
  refine lv_topE (y := 4) (by decide) ?_
  refine va_sld (xs := xs) hx hb hX hbl hbA hS (by unfold vp_in; decide) dL_law_1070 ?_
  refine lv_topE (y := (xs 4)) rfl ?_
  refine r_ci X hS (r_runV (As := [.int (xs 1), .int (xs 2), .int (xs 3), .int (xs 4)]) (rest := []) C0 X hP L_L_130 (fun sz => c_X7_aside_f l D cA ad o σ (xs 1) (xs 2) (xs 3) (xs 4) hF sz) (by decide) (show kd 66 = (7, 8) from rfl) (by decide) rfl ⟨(Nat.le_of_ble_eq_true rfl), (Nat.le_of_ble_eq_true rfl)⟩ rfl hl.1 rfl (Nat.le_of_ble_eq_true rfl) dL_law_1071 ⟨Nat.le_trans hc (Nat.le_of_ble_eq_true rfl), Nat.le_trans hs (Nat.le_of_ble_eq_true rfl)⟩) (fun r_1 σ_1 H locs hw_1 hP hS => ?_)
  refine lv_aload_n hx hb dL_law_1074 rfl (lv_at hl 2 rfl) ?_
  refine lv_aload_n hx hb dL_law_1075 rfl (lv_at hl 0 rfl) ?_
  refine lv_iload hx hb dL_law_1076 (lv_at hl 4 rfl) ?_
  refine lv_iconst (v := 1) hx hb dL_law_1078 (by decide) ?_
  refine lv_iadd hx hb dL_law_1079 ?_
  refine lv_topE (y := 1) (by decide) ?_
  refine va_sld (xs := xs) hx hb hX hbl hbA hS (by unfold vp_in; decide) dL_law_1080 ?_
  refine lv_topE (y := (xs 1)) rfl ?_
  refine lv_aload_n hx hb dL_law_1081 rfl (lv_at hl 0 rfl) ?_
  refine lv_iload hx hb dL_law_1082 (lv_at hl 4 rfl) ?_
  refine lv_iconst (v := 2) hx hb dL_law_1084 (by decide) ?_
  refine lv_iadd hx hb dL_law_1085 ?_
  refine lv_topE (y := 2) (by decide) ?_
  refine va_sld (xs := xs) hx hb hX hbl hbA hS (by unfold vp_in; decide) dL_law_1086 ?_
  refine lv_topE (y := (xs 2)) rfl ?_
  refine lv_aload_n hx hb dL_law_1087 rfl (lv_at hl 0 rfl) ?_
  refine lv_iload hx hb dL_law_1088 (lv_at hl 4 rfl) ?_
  refine lv_iconst (v := 3) hx hb dL_law_1090 (by decide) ?_
  refine lv_iadd hx hb dL_law_1091 ?_
  refine lv_topE (y := 3) (by decide) ?_
  refine va_sld (xs := xs) hx hb hX hbl hbA hS (by unfold vp_in; decide) dL_law_1092 ?_
  refine lv_topE (y := (xs 3)) rfl ?_
  refine lv_aload_n hx hb dL_law_1093 rfl (lv_at hl 0 rfl) ?_
  refine lv_iload hx hb dL_law_1094 (lv_at hl 4 rfl) ?_
  refine lv_iconst (v := 4) hx hb dL_law_1096 (by decide) ?_
  refine lv_iadd hx hb dL_law_1097 ?_
  refine lv_topE (y := 4) (by decide) ?_
  refine va_sld (xs := xs) hx hb hX hbl hbA hS (by unfold vp_in; decide) dL_law_1098 ?_
  refine lv_topE (y := (xs 4)) rfl ?_
  refine r_ci X hS (r_runV (As := [.int (xs 1), .int (xs 2), .int (xs 3), .int (xs 4)]) (rest := [.int r_1]) C0 X hP L_L_134 (fun sz => c_X8_aside_f l D cA ad o σ_1 (xs 1) (xs 2) (xs 3) (xs 4) (FrM_of hF hw_1.2) sz) (by decide) (show kd 91 = (8, 24) from rfl) (by decide) rfl ⟨(Nat.le_of_ble_eq_true rfl), (Nat.le_of_ble_eq_true rfl)⟩ rfl hl.1 rfl (Nat.le_of_ble_eq_true rfl) dL_law_1099 ⟨Nat.le_trans hc (Nat.le_of_ble_eq_true rfl), Nat.le_trans hs (Nat.le_of_ble_eq_true rfl)⟩) (fun r_2 σ_2 H locs hw_2 hP hS => ?_)
  refine lv_icmp_eq (tgt := 1507) hx hb dL_law_1102 (by decide) (fun c_3 => ?_) (fun c_3 => absurd (by rw [hw_1.1, hw_2]) c_3)
  exact law_end C0 hr hlk hX hbl hS (lv_sub hl [0, 4] rfl) (Nat.le_trans hc (Nat.le_of_ble_eq_true rfl)) (Nat.le_trans hs (Nat.le_of_ble_eq_true rfl))
set_option maxHeartbeats 4000000 in
set_option maxRecDepth 100000 in
theorem law_c27 {p : Program} {l : Launch} {e : Env} {s : State} {m : MethodId} {below : List Frame} {meth : Method} {c : Code} {D : va_G} {cA : Nat → ClassId} {ad : Nat → Nat} {o : Int64} {σ : Mem} {b : Nat} {xs : Nat → Int32} {H : Heap} {locs : List Loc} {cells slots : Nat} {ls : Array Slot} {sa1 sa2 : Nat} (hfl : l.stackTraces = false) (C0 : CX p s m #[Value.ref b] c code 8 RL) (hr : meth.sig.returnType = ret) (hlk : meth.locks = false) (hX : va_X b 6 xs s s.heap) (hbl : b < s.heap.size) (X : WX D cA ad (fun q => s.heap.size ≤ q) s) (hZ : XL sa1 sa2 s) (hP : WP D cA ad o σ H) (hF : Fr σ) (hS : va_S (fun q => s.heap.size ≤ q) s.heap H locs) (hl : lv_has ls 8 [(0, .ref b), (1, .ref (ad 66)), (2, .ref (ad 91)), (3, .ref (ad 105)), (4, .int 0)]) (hc : cells ≤ 600000) (hs : slots ≤ 7300000) : W p l e room_1 s m #[Value.ref b] below meth c H locs cells slots (lw_Z below #[Value.ref b] s) (F0 m 1107 ls []) := by
  obtain ⟨hx, hb, hml, hown, hts⟩ := id C0
  have hbA : ¬ (fun q => s.heap.size ≤ q) b := Nat.not_le.mpr hbl
  refine lv_aload_n hx hb dL_law_1107 rfl (lv_at hl 1 rfl) ?_
  refine r_ci X hS (r_runV (As := []) (rest := []) C0 X hP L_L_135 (fun sz => c_X7_image_f l D cA ad o σ  hF sz) (by decide) (show kd 66 = (7, 8) from rfl) (by decide) rfl ⟨(Nat.le_of_ble_eq_true rfl), (Nat.le_of_ble_eq_true rfl)⟩ rfl hl.1 rfl (Nat.le_of_ble_eq_true rfl) dL_law_1108 ⟨Nat.le_trans hc (Nat.le_of_ble_eq_true rfl), Nat.le_trans hs (Nat.le_of_ble_eq_true rfl)⟩) (fun r_1 σ_1 H locs hw_1 hP hS => ?_)
  refine lv_aload_n hx hb dL_law_1111 rfl (lv_at hl 2 rfl) ?_
  refine r_ci X hS (r_runV (As := []) (rest := [.int r_1]) C0 X hP L_L_138 (fun sz => c_X8_image_f l D cA ad o σ_1  (FrM_of hF hw_1.2) sz) (by decide) (show kd 91 = (8, 24) from rfl) (by decide) rfl ⟨(Nat.le_of_ble_eq_true rfl), (Nat.le_of_ble_eq_true rfl)⟩ rfl hl.1 rfl (Nat.le_of_ble_eq_true rfl) dL_law_1112 ⟨Nat.le_trans hc (Nat.le_of_ble_eq_true rfl), Nat.le_trans hs (Nat.le_of_ble_eq_true rfl)⟩) (fun r_2 σ_2 H locs hw_2 hP hS => ?_)
  refine lv_icmp_eq (tgt := 1507) hx hb dL_law_1115 (by decide) (fun c_3 => ?_) (fun c_3 => absurd (by rw [hw_1.1, hw_2]) c_3)
  exact law_end C0 hr hlk hX hbl hS (lv_sub hl [0, 4] rfl) (Nat.le_trans hc (Nat.le_of_ble_eq_true rfl)) (Nat.le_trans hs (Nat.le_of_ble_eq_true rfl))
set_option maxHeartbeats 4000000 in
set_option maxRecDepth 100000 in
theorem law_c28 {p : Program} {l : Launch} {e : Env} {s : State} {m : MethodId} {below : List Frame} {meth : Method} {c : Code} {D : va_G} {cA : Nat → ClassId} {ad : Nat → Nat} {o : Int64} {σ : Mem} {b : Nat} {xs : Nat → Int32} {H : Heap} {locs : List Loc} {cells slots : Nat} {ls : Array Slot} {sa1 sa2 : Nat} (hfl : l.stackTraces = false) (C0 : CX p s m #[Value.ref b] c code 8 RL) (hr : meth.sig.returnType = ret) (hlk : meth.locks = false) (hX : va_X b 6 xs s s.heap) (hbl : b < s.heap.size) (X : WX D cA ad (fun q => s.heap.size ≤ q) s) (hZ : XL sa1 sa2 s) (hP : WP D cA ad o σ H) (hF : Fr σ) (hS : va_S (fun q => s.heap.size ≤ q) s.heap H locs) (hl : lv_has ls 8 [(0, .ref b), (1, .ref (ad 66)), (2, .ref (ad 91)), (3, .ref (ad 105)), (4, .int 0)]) (hc : cells ≤ 600000) (hs : slots ≤ 7300000) : W p l e room_1 s m #[Value.ref b] below meth c H locs cells slots (lw_Z below #[Value.ref b] s) (F0 m 1120 ls []) := by
  obtain ⟨hx, hb, hml, hown, hts⟩ := id C0
  have hbA : ¬ (fun q => s.heap.size ≤ q) b := Nat.not_le.mpr hbl
  refine lv_aload_n hx hb dL_law_1120 rfl (lv_at hl 1 rfl) ?_
  refine r_ci X hS (r_runV (As := []) (rest := []) C0 X hP L_L_139 (fun sz => c_X7_restore_f l D cA ad o σ  hF sz) (by decide) (show kd 66 = (7, 8) from rfl) (by decide) rfl ⟨(Nat.le_of_ble_eq_true rfl), (Nat.le_of_ble_eq_true rfl)⟩ rfl hl.1 rfl (Nat.le_of_ble_eq_true rfl) dL_law_1121 ⟨Nat.le_trans hc (Nat.le_of_ble_eq_true rfl), Nat.le_trans hs (Nat.le_of_ble_eq_true rfl)⟩) (fun r_1 σ_1 H locs hw_1 hP hS => ?_)
  refine lv_aload_n hx hb dL_law_1124 rfl (lv_at hl 2 rfl) ?_
  refine r_ci X hS (r_runV (As := []) (rest := [.int r_1]) C0 X hP L_L_142 (fun sz => c_X8_restore_f l D cA ad o σ_1  (FrM_of hF hw_1.2) sz) (by decide) (show kd 91 = (8, 24) from rfl) (by decide) rfl ⟨(Nat.le_of_ble_eq_true rfl), (Nat.le_of_ble_eq_true rfl)⟩ rfl hl.1 rfl (Nat.le_of_ble_eq_true rfl) dL_law_1125 ⟨Nat.le_trans hc (Nat.le_of_ble_eq_true rfl), Nat.le_trans hs (Nat.le_of_ble_eq_true rfl)⟩) (fun r_2 σ_2 H locs hw_2 hP hS => ?_)
  refine lv_icmp_eq (tgt := 1507) hx hb dL_law_1128 (by decide) (fun c_3 => ?_) (fun c_3 => absurd (by rw [hw_1.1, hw_2]) c_3)
  exact law_end C0 hr hlk hX hbl hS (lv_sub hl [0, 4] rfl) (Nat.le_trans hc (Nat.le_of_ble_eq_true rfl)) (Nat.le_trans hs (Nat.le_of_ble_eq_true rfl))
set_option maxHeartbeats 4000000 in
set_option maxRecDepth 100000 in
theorem law_c29 {p : Program} {l : Launch} {e : Env} {s : State} {m : MethodId} {below : List Frame} {meth : Method} {c : Code} {D : va_G} {cA : Nat → ClassId} {ad : Nat → Nat} {o : Int64} {σ : Mem} {b : Nat} {xs : Nat → Int32} {H : Heap} {locs : List Loc} {cells slots : Nat} {ls : Array Slot} {sa1 sa2 : Nat} (hfl : l.stackTraces = false) (C0 : CX p s m #[Value.ref b] c code 8 RL) (hr : meth.sig.returnType = ret) (hlk : meth.locks = false) (hX : va_X b 6 xs s s.heap) (hbl : b < s.heap.size) (X : WX D cA ad (fun q => s.heap.size ≤ q) s) (hZ : XL sa1 sa2 s) (hP : WP D cA ad o σ H) (hF : Fr σ) (hS : va_S (fun q => s.heap.size ≤ q) s.heap H locs) (hl : lv_has ls 8 [(0, .ref b), (1, .ref (ad 66)), (2, .ref (ad 91)), (3, .ref (ad 105)), (4, .int 0)]) (hc : cells ≤ 600000) (hs : slots ≤ 7300000) : W p l e room_1 s m #[Value.ref b] below meth c H locs cells slots (lw_Z below #[Value.ref b] s) (F0 m 1133 ls []) := by
  obtain ⟨hx, hb, hml, hown, hts⟩ := id C0
  have hbA : ¬ (fun q => s.heap.size ≤ q) b := Nat.not_le.mpr hbl
  refine lv_aload_n hx hb dL_law_1133 rfl (lv_at hl 1 rfl) ?_
  refine lv_aload_n hx hb dL_law_1134 rfl (lv_at hl 0 rfl) ?_
  refine lv_iload hx hb dL_law_1135 (lv_at hl 4 rfl) ?_
  refine lv_iconst (v := 1) hx hb dL_law_1137 (by decide) ?_
  refine lv_iadd hx hb dL_law_1138 ?_
  refine lv_topE (y := 1) (by decide) ?_
  refine va_sld (xs := xs) hx hb hX hbl hbA hS (by unfold vp_in; decide) dL_law_1139 ?_
  refine lv_topE (y := (xs 1)) rfl ?_
  refine r_ci X hS (r_runV (As := [.int (xs 1)]) (rest := []) C0 X hP L_L_143 (fun sz => c_X7_count_f l D cA ad o σ (xs 1) hF sz) (by decide) (show kd 66 = (7, 8) from rfl) (by decide) rfl ⟨(Nat.le_of_ble_eq_true rfl), (Nat.le_of_ble_eq_true rfl)⟩ rfl hl.1 rfl (Nat.le_of_ble_eq_true rfl) dL_law_1140 ⟨Nat.le_trans hc (Nat.le_of_ble_eq_true rfl), Nat.le_trans hs (Nat.le_of_ble_eq_true rfl)⟩) (fun r_1 σ_1 H locs hw_1 hP hS => ?_)
  refine lv_aload_n hx hb dL_law_1143 rfl (lv_at hl 2 rfl) ?_
  refine lv_aload_n hx hb dL_law_1144 rfl (lv_at hl 0 rfl) ?_
  refine lv_iload hx hb dL_law_1145 (lv_at hl 4 rfl) ?_
  refine lv_iconst (v := 1) hx hb dL_law_1147 (by decide) ?_
  refine lv_iadd hx hb dL_law_1148 ?_
  refine lv_topE (y := 1) (by decide) ?_
  refine va_sld (xs := xs) hx hb hX hbl hbA hS (by unfold vp_in; decide) dL_law_1149 ?_
  refine lv_topE (y := (xs 1)) rfl ?_
  refine r_ci X hS (r_runV (As := [.int (xs 1)]) (rest := [.int r_1]) C0 X hP L_L_146 (fun sz => c_X8_count_f l D cA ad o σ_1 (xs 1) (FrM_of hF hw_1.2) sz) (by decide) (show kd 91 = (8, 24) from rfl) (by decide) rfl ⟨(Nat.le_of_ble_eq_true rfl), (Nat.le_of_ble_eq_true rfl)⟩ rfl hl.1 rfl (Nat.le_of_ble_eq_true rfl) dL_law_1150 ⟨Nat.le_trans hc (Nat.le_of_ble_eq_true rfl), Nat.le_trans hs (Nat.le_of_ble_eq_true rfl)⟩) (fun r_2 σ_2 H locs hw_2 hP hS => ?_)
  refine lv_icmp_eq (tgt := 1507) hx hb dL_law_1153 (by decide) (fun c_3 => ?_) (fun c_3 => absurd (by rw [hw_1.1, hw_2]) c_3)
  exact law_end C0 hr hlk hX hbl hS (lv_sub hl [0, 4] rfl) (Nat.le_trans hc (Nat.le_of_ble_eq_true rfl)) (Nat.le_trans hs (Nat.le_of_ble_eq_true rfl))
set_option maxHeartbeats 4000000 in
set_option maxRecDepth 100000 in
theorem law_c30 {p : Program} {l : Launch} {e : Env} {s : State} {m : MethodId} {below : List Frame} {meth : Method} {c : Code} {D : va_G} {cA : Nat → ClassId} {ad : Nat → Nat} {o : Int64} {σ : Mem} {b : Nat} {xs : Nat → Int32} {H : Heap} {locs : List Loc} {cells slots : Nat} {ls : Array Slot} {sa1 sa2 : Nat} (hfl : l.stackTraces = false) (C0 : CX p s m #[Value.ref b] c code 8 RL) (hr : meth.sig.returnType = ret) (hlk : meth.locks = false) (hX : va_X b 6 xs s s.heap) (hbl : b < s.heap.size) (X : WX D cA ad (fun q => s.heap.size ≤ q) s) (hZ : XL sa1 sa2 s) (hP : WP D cA ad o σ H) (hF : Fr σ) (hS : va_S (fun q => s.heap.size ≤ q) s.heap H locs) (hl : lv_has ls 8 [(0, .ref b), (1, .ref (ad 66)), (2, .ref (ad 91)), (3, .ref (ad 105)), (4, .int 0)]) (hc : cells ≤ 600000) (hs : slots ≤ 7300000) : W p l e room_1 s m #[Value.ref b] below meth c H locs cells slots (lw_Z below #[Value.ref b] s) (F0 m 1158 ls []) := by
  obtain ⟨hx, hb, hml, hown, hts⟩ := id C0
  have hbA : ¬ (fun q => s.heap.size ≤ q) b := Nat.not_le.mpr hbl
  refine lv_aload_n hx hb dL_law_1158 rfl (lv_at hl 1 rfl) ?_
  refine lv_aload_n hx hb dL_law_1159 rfl (lv_at hl 0 rfl) ?_
  refine lv_iload hx hb dL_law_1160 (lv_at hl 4 rfl) ?_
  refine lv_iconst (v := 1) hx hb dL_law_1162 (by decide) ?_
  refine lv_iadd hx hb dL_law_1163 ?_
  refine lv_topE (y := 1) (by decide) ?_
  refine va_sld (xs := xs) hx hb hX hbl hbA hS (by unfold vp_in; decide) dL_law_1164 ?_
  refine lv_topE (y := (xs 1)) rfl ?_
  refine lv_aload_n hx hb dL_law_1165 rfl (lv_at hl 0 rfl) ?_
  refine lv_iload hx hb dL_law_1166 (lv_at hl 4 rfl) ?_
  refine lv_iconst (v := 2) hx hb dL_law_1168 (by decide) ?_
  refine lv_iadd hx hb dL_law_1169 ?_
  refine lv_topE (y := 2) (by decide) ?_
  refine va_sld (xs := xs) hx hb hX hbl hbA hS (by unfold vp_in; decide) dL_law_1170 ?_
  refine lv_topE (y := (xs 2)) rfl ?_
  refine lv_aload_n hx hb dL_law_1171 rfl (lv_at hl 0 rfl) ?_
  refine lv_iload hx hb dL_law_1172 (lv_at hl 4 rfl) ?_
  refine lv_iconst (v := 3) hx hb dL_law_1174 (by decide) ?_
  refine lv_iadd hx hb dL_law_1175 ?_
  refine lv_topE (y := 3) (by decide) ?_
  refine va_sld (xs := xs) hx hb hX hbl hbA hS (by unfold vp_in; decide) dL_law_1176 ?_
  refine lv_topE (y := (xs 3)) rfl ?_
  refine lv_aload_n hx hb dL_law_1177 rfl (lv_at hl 0 rfl) ?_
  refine lv_iload hx hb dL_law_1178 (lv_at hl 4 rfl) ?_
  refine lv_iconst (v := 4) hx hb dL_law_1180 (by decide) ?_
  refine lv_iadd hx hb dL_law_1181 ?_
  refine lv_topE (y := 4) (by decide) ?_
  refine va_sld (xs := xs) hx hb hX hbl hbA hS (by unfold vp_in; decide) dL_law_1182 ?_
  refine lv_topE (y := (xs 4)) rfl ?_
  refine r_ci X hS (r_runV (As := [.int (xs 1), .int (xs 2), .int (xs 3), .int (xs 4)]) (rest := []) C0 X hP L_L_147 (fun sz => c_X7_keep_f l D cA ad o σ (xs 1) (xs 2) (xs 3) (xs 4) hF sz) (by decide) (show kd 66 = (7, 8) from rfl) (by decide) rfl ⟨(Nat.le_of_ble_eq_true rfl), (Nat.le_of_ble_eq_true rfl)⟩ rfl hl.1 rfl (Nat.le_of_ble_eq_true rfl) dL_law_1183 ⟨Nat.le_trans hc (Nat.le_of_ble_eq_true rfl), Nat.le_trans hs (Nat.le_of_ble_eq_true rfl)⟩) (fun r_1 σ_1 H locs hw_1 hP hS => ?_)
  refine lv_aload_n hx hb dL_law_1186 rfl (lv_at hl 2 rfl) ?_
  refine lv_aload_n hx hb dL_law_1187 rfl (lv_at hl 0 rfl) ?_
  refine lv_iload hx hb dL_law_1188 (lv_at hl 4 rfl) ?_
  refine lv_iconst (v := 1) hx hb dL_law_1190 (by decide) ?_
  refine lv_iadd hx hb dL_law_1191 ?_
  refine lv_topE (y := 1) (by decide) ?_
  refine va_sld (xs := xs) hx hb hX hbl hbA hS (by unfold vp_in; decide) dL_law_1192 ?_
  refine lv_topE (y := (xs 1)) rfl ?_
  refine lv_aload_n hx hb dL_law_1193 rfl (lv_at hl 0 rfl) ?_
  refine lv_iload hx hb dL_law_1194 (lv_at hl 4 rfl) ?_
  refine lv_iconst (v := 2) hx hb dL_law_1196 (by decide) ?_
  refine lv_iadd hx hb dL_law_1197 ?_
  refine lv_topE (y := 2) (by decide) ?_
  refine va_sld (xs := xs) hx hb hX hbl hbA hS (by unfold vp_in; decide) dL_law_1198 ?_
  refine lv_topE (y := (xs 2)) rfl ?_
  refine lv_aload_n hx hb dL_law_1199 rfl (lv_at hl 0 rfl) ?_
  refine lv_iload hx hb dL_law_1200 (lv_at hl 4 rfl) ?_
  refine lv_iconst (v := 3) hx hb dL_law_1202 (by decide) ?_
  refine lv_iadd hx hb dL_law_1203 ?_
  refine lv_topE (y := 3) (by decide) ?_
  refine va_sld (xs := xs) hx hb hX hbl hbA hS (by unfold vp_in; decide) dL_law_1204 ?_
  refine lv_topE (y := (xs 3)) rfl ?_
  refine lv_aload_n hx hb dL_law_1205 rfl (lv_at hl 0 rfl) ?_
  refine lv_iload hx hb dL_law_1206 (lv_at hl 4 rfl) ?_
  refine lv_iconst (v := 4) hx hb dL_law_1208 (by decide) ?_
  refine lv_iadd hx hb dL_law_1209 ?_
  refine lv_topE (y := 4) (by decide) ?_
  refine va_sld (xs := xs) hx hb hX hbl hbA hS (by unfold vp_in; decide) dL_law_1210 ?_
  refine lv_topE (y := (xs 4)) rfl ?_
  refine r_ci X hS (r_runV (As := [.int (xs 1), .int (xs 2), .int (xs 3), .int (xs 4)]) (rest := [.int r_1]) C0 X hP L_L_150 (fun sz => c_X8_keep_f l D cA ad o σ_1 (xs 1) (xs 2) (xs 3) (xs 4) (FrM_of hF hw_1.2) sz) (by decide) (show kd 91 = (8, 24) from rfl) (by decide) rfl ⟨(Nat.le_of_ble_eq_true rfl), (Nat.le_of_ble_eq_true rfl)⟩ rfl hl.1 rfl (Nat.le_of_ble_eq_true rfl) dL_law_1211 ⟨Nat.le_trans hc (Nat.le_of_ble_eq_true rfl), Nat.le_trans hs (Nat.le_of_ble_eq_true rfl)⟩) (fun r_2 σ_2 H locs hw_2 hP hS => ?_)
  refine lv_icmp_eq (tgt := 1507) hx hb dL_law_1214 (by decide) (fun c_3 => ?_) (fun c_3 => absurd (by rw [hw_1.1, hw_2, eq_k]) c_3)
  exact law_end C0 hr hlk hX hbl hS (lv_sub hl [0, 4] rfl) (Nat.le_trans hc (Nat.le_of_ble_eq_true rfl)) (Nat.le_trans hs (Nat.le_of_ble_eq_true rfl))
set_option maxHeartbeats 4000000 in
set_option maxRecDepth 100000 in
theorem law_c31 {p : Program} {l : Launch} {e : Env} {s : State} {m : MethodId} {below : List Frame} {meth : Method} {c : Code} {D : va_G} {cA : Nat → ClassId} {ad : Nat → Nat} {o : Int64} {σ : Mem} {b : Nat} {xs : Nat → Int32} {H : Heap} {locs : List Loc} {cells slots : Nat} {ls : Array Slot} {sa1 sa2 : Nat} (hfl : l.stackTraces = false) (C0 : CX p s m #[Value.ref b] c code 8 RL) (hr : meth.sig.returnType = ret) (hlk : meth.locks = false) (hX : va_X b 6 xs s s.heap) (hbl : b < s.heap.size) (X : WX D cA ad (fun q => s.heap.size ≤ q) s) (hZ : XL sa1 sa2 s) (hP : WP D cA ad o σ H) (hF : Fr σ) (hS : va_S (fun q => s.heap.size ≤ q) s.heap H locs) (hl : lv_has ls 8 [(0, .ref b), (1, .ref (ad 66)), (2, .ref (ad 91)), (3, .ref (ad 105)), (4, .int 0)]) (hc : cells ≤ 600000) (hs : slots ≤ 7300000) : W p l e room_1 s m #[Value.ref b] below meth c H locs cells slots (lw_Z below #[Value.ref b] s) (F0 m 1219 ls []) := by
  obtain ⟨hx, hb, hml, hown, hts⟩ := id C0
  have hbA : ¬ (fun q => s.heap.size ≤ q) b := Nat.not_le.mpr hbl
  refine lv_aload_n hx hb dL_law_1219 rfl (lv_at hl 1 rfl) ?_
  refine lv_aload_n hx hb dL_law_1220 rfl (lv_at hl 0 rfl) ?_
  refine lv_iload hx hb dL_law_1221 (lv_at hl 4 rfl) ?_
  refine lv_iconst (v := 1) hx hb dL_law_1223 (by decide) ?_
  refine lv_iadd hx hb dL_law_1224 ?_
  refine lv_topE (y := 1) (by decide) ?_
  refine va_sld (xs := xs) hx hb hX hbl hbA hS (by unfold vp_in; decide) dL_law_1225 ?_
  refine lv_topE (y := (xs 1)) rfl ?_
  refine lv_aload_n hx hb dL_law_1226 rfl (lv_at hl 0 rfl) ?_
  refine lv_iload hx hb dL_law_1227 (lv_at hl 4 rfl) ?_
  refine lv_iconst (v := 2) hx hb dL_law_1229 (by decide) ?_
  refine lv_iadd hx hb dL_law_1230 ?_
  refine lv_topE (y := 2) (by decide) ?_
  refine va_sld (xs := xs) hx hb hX hbl hbA hS (by unfold vp_in; decide) dL_law_1231 ?_
  refine lv_topE (y := (xs 2)) rfl ?_
  refine lv_aload_n hx hb dL_law_1232 rfl (lv_at hl 0 rfl) ?_
  refine lv_iload hx hb dL_law_1233 (lv_at hl 4 rfl) ?_
  refine lv_iconst (v := 3) hx hb dL_law_1235 (by decide) ?_
  refine lv_iadd hx hb dL_law_1236 ?_
  refine lv_topE (y := 3) (by decide) ?_
  refine va_sld (xs := xs) hx hb hX hbl hbA hS (by unfold vp_in; decide) dL_law_1237 ?_
  refine lv_topE (y := (xs 3)) rfl ?_
  refine r_ci X hS (r_runV (As := [.int (xs 1), .int (xs 2), .int (xs 3)]) (rest := []) C0 X hP L_L_151 (fun sz => c_X7_row_f l D cA ad o σ (xs 1) (xs 2) (xs 3) hF sz) (by decide) (show kd 66 = (7, 8) from rfl) (by decide) rfl ⟨(Nat.le_of_ble_eq_true rfl), (Nat.le_of_ble_eq_true rfl)⟩ rfl hl.1 rfl (Nat.le_of_ble_eq_true rfl) dL_law_1238 ⟨Nat.le_trans hc (Nat.le_of_ble_eq_true rfl), Nat.le_trans hs (Nat.le_of_ble_eq_true rfl)⟩) (fun r_1 σ_1 H locs hw_1 hP hS => ?_)
  refine lv_aload_n hx hb dL_law_1241 rfl (lv_at hl 2 rfl) ?_
  refine lv_aload_n hx hb dL_law_1242 rfl (lv_at hl 0 rfl) ?_
  refine lv_iload hx hb dL_law_1243 (lv_at hl 4 rfl) ?_
  refine lv_iconst (v := 1) hx hb dL_law_1245 (by decide) ?_
  refine lv_iadd hx hb dL_law_1246 ?_
  refine lv_topE (y := 1) (by decide) ?_
  refine va_sld (xs := xs) hx hb hX hbl hbA hS (by unfold vp_in; decide) dL_law_1247 ?_
  refine lv_topE (y := (xs 1)) rfl ?_
  refine lv_aload_n hx hb dL_law_1248 rfl (lv_at hl 0 rfl) ?_
  refine lv_iload hx hb dL_law_1249 (lv_at hl 4 rfl) ?_
  refine lv_iconst (v := 2) hx hb dL_law_1251 (by decide) ?_
  refine lv_iadd hx hb dL_law_1252 ?_
  refine lv_topE (y := 2) (by decide) ?_
  refine va_sld (xs := xs) hx hb hX hbl hbA hS (by unfold vp_in; decide) dL_law_1253 ?_
  refine lv_topE (y := (xs 2)) rfl ?_
  refine lv_aload_n hx hb dL_law_1254 rfl (lv_at hl 0 rfl) ?_
  refine lv_iload hx hb dL_law_1255 (lv_at hl 4 rfl) ?_
  refine lv_iconst (v := 3) hx hb dL_law_1257 (by decide) ?_
  refine lv_iadd hx hb dL_law_1258 ?_
  refine lv_topE (y := 3) (by decide) ?_
  refine va_sld (xs := xs) hx hb hX hbl hbA hS (by unfold vp_in; decide) dL_law_1259 ?_
  refine lv_topE (y := (xs 3)) rfl ?_
  refine r_ci X hS (r_runV (As := [.int (xs 1), .int (xs 2), .int (xs 3)]) (rest := [.int r_1]) C0 X hP L_L_154 (fun sz => c_X8_row_f l D cA ad o σ_1 (xs 1) (xs 2) (xs 3) (FrM_of hF hw_1.2) sz) (by decide) (show kd 91 = (8, 24) from rfl) (by decide) rfl ⟨(Nat.le_of_ble_eq_true rfl), (Nat.le_of_ble_eq_true rfl)⟩ rfl hl.1 rfl (Nat.le_of_ble_eq_true rfl) dL_law_1260 ⟨Nat.le_trans hc (Nat.le_of_ble_eq_true rfl), Nat.le_trans hs (Nat.le_of_ble_eq_true rfl)⟩) (fun r_2 σ_2 H locs hw_2 hP hS => ?_)
  refine lv_icmp_eq (tgt := 1507) hx hb dL_law_1263 (by decide) (fun c_3 => ?_) (fun c_3 => absurd (by rw [hw_1.1, hw_2, eq_r]) c_3)
  exact law_end C0 hr hlk hX hbl hS (lv_sub hl [0, 4] rfl) (Nat.le_trans hc (Nat.le_of_ble_eq_true rfl)) (Nat.le_trans hs (Nat.le_of_ble_eq_true rfl))
set_option maxHeartbeats 4000000 in
set_option maxRecDepth 100000 in
theorem law_c32 {p : Program} {l : Launch} {e : Env} {s : State} {m : MethodId} {below : List Frame} {meth : Method} {c : Code} {D : va_G} {cA : Nat → ClassId} {ad : Nat → Nat} {o : Int64} {σ : Mem} {b : Nat} {xs : Nat → Int32} {H : Heap} {locs : List Loc} {cells slots : Nat} {ls : Array Slot} {sa1 sa2 : Nat} (hfl : l.stackTraces = false) (C0 : CX p s m #[Value.ref b] c code 8 RL) (hr : meth.sig.returnType = ret) (hlk : meth.locks = false) (hX : va_X b 6 xs s s.heap) (hbl : b < s.heap.size) (X : WX D cA ad (fun q => s.heap.size ≤ q) s) (hZ : XL sa1 sa2 s) (hP : WP D cA ad o σ H) (hF : Fr σ) (hS : va_S (fun q => s.heap.size ≤ q) s.heap H locs) (hl : lv_has ls 8 [(0, .ref b), (1, .ref (ad 66)), (2, .ref (ad 91)), (3, .ref (ad 105)), (4, .int 0)]) (hc : cells ≤ 600000) (hs : slots ≤ 7300000) : W p l e room_1 s m #[Value.ref b] below meth c H locs cells slots (lw_Z below #[Value.ref b] s) (F0 m 1268 ls []) := by
  obtain ⟨hx, hb, hml, hown, hts⟩ := id C0
  have hbA : ¬ (fun q => s.heap.size ≤ q) b := Nat.not_le.mpr hbl
  refine lv_aload_n hx hb dL_law_1268 rfl (lv_at hl 1 rfl) ?_
  refine lv_aload_n hx hb dL_law_1269 rfl (lv_at hl 0 rfl) ?_
  refine lv_iload hx hb dL_law_1270 (lv_at hl 4 rfl) ?_
  refine lv_iconst (v := 1) hx hb dL_law_1272 (by decide) ?_
  refine lv_iadd hx hb dL_law_1273 ?_
  refine lv_topE (y := 1) (by decide) ?_
  refine va_sld (xs := xs) hx hb hX hbl hbA hS (by unfold vp_in; decide) dL_law_1274 ?_
  refine lv_topE (y := (xs 1)) rfl ?_
  refine lv_aload_n hx hb dL_law_1275 rfl (lv_at hl 0 rfl) ?_
  refine lv_iload hx hb dL_law_1276 (lv_at hl 4 rfl) ?_
  refine lv_iconst (v := 2) hx hb dL_law_1278 (by decide) ?_
  refine lv_iadd hx hb dL_law_1279 ?_
  refine lv_topE (y := 2) (by decide) ?_
  refine va_sld (xs := xs) hx hb hX hbl hbA hS (by unfold vp_in; decide) dL_law_1280 ?_
  refine lv_topE (y := (xs 2)) rfl ?_
  refine lv_aload_n hx hb dL_law_1281 rfl (lv_at hl 0 rfl) ?_
  refine lv_iload hx hb dL_law_1282 (lv_at hl 4 rfl) ?_
  refine lv_iconst (v := 3) hx hb dL_law_1284 (by decide) ?_
  refine lv_iadd hx hb dL_law_1285 ?_
  refine lv_topE (y := 3) (by decide) ?_
  refine va_sld (xs := xs) hx hb hX hbl hbA hS (by unfold vp_in; decide) dL_law_1286 ?_
  refine lv_topE (y := (xs 3)) rfl ?_
  refine r_ci X hS (r_runV (As := [.int (xs 1), .int (xs 2), .int (xs 3)]) (rest := []) C0 X hP L_L_155 (fun sz => c_X7_put_f l D cA ad o σ (xs 1) (xs 2) (xs 3) hF sz) (by decide) (show kd 66 = (7, 8) from rfl) (by decide) rfl ⟨(Nat.le_of_ble_eq_true rfl), (Nat.le_of_ble_eq_true rfl)⟩ rfl hl.1 rfl (Nat.le_of_ble_eq_true rfl) dL_law_1287 ⟨Nat.le_trans hc (Nat.le_of_ble_eq_true rfl), Nat.le_trans hs (Nat.le_of_ble_eq_true rfl)⟩) (fun r_1 σ_1 H locs hw_1 hP hS => ?_)
  refine lv_aload_n hx hb dL_law_1290 rfl (lv_at hl 2 rfl) ?_
  refine lv_aload_n hx hb dL_law_1291 rfl (lv_at hl 0 rfl) ?_
  refine lv_iload hx hb dL_law_1292 (lv_at hl 4 rfl) ?_
  refine lv_iconst (v := 1) hx hb dL_law_1294 (by decide) ?_
  refine lv_iadd hx hb dL_law_1295 ?_
  refine lv_topE (y := 1) (by decide) ?_
  refine va_sld (xs := xs) hx hb hX hbl hbA hS (by unfold vp_in; decide) dL_law_1296 ?_
  refine lv_topE (y := (xs 1)) rfl ?_
  refine lv_aload_n hx hb dL_law_1297 rfl (lv_at hl 0 rfl) ?_
  refine lv_iload hx hb dL_law_1298 (lv_at hl 4 rfl) ?_
  refine lv_iconst (v := 2) hx hb dL_law_1300 (by decide) ?_
  refine lv_iadd hx hb dL_law_1301 ?_
  refine lv_topE (y := 2) (by decide) ?_
  refine va_sld (xs := xs) hx hb hX hbl hbA hS (by unfold vp_in; decide) dL_law_1302 ?_
  refine lv_topE (y := (xs 2)) rfl ?_
  refine lv_aload_n hx hb dL_law_1303 rfl (lv_at hl 0 rfl) ?_
  refine lv_iload hx hb dL_law_1304 (lv_at hl 4 rfl) ?_
  refine lv_iconst (v := 3) hx hb dL_law_1306 (by decide) ?_
  refine lv_iadd hx hb dL_law_1307 ?_
  refine lv_topE (y := 3) (by decide) ?_
  refine va_sld (xs := xs) hx hb hX hbl hbA hS (by unfold vp_in; decide) dL_law_1308 ?_
  refine lv_topE (y := (xs 3)) rfl ?_
  refine r_ci X hS (r_runV (As := [.int (xs 1), .int (xs 2), .int (xs 3)]) (rest := [.int r_1]) C0 X hP L_L_158 (fun sz => c_X8_put_f l D cA ad o σ_1 (xs 1) (xs 2) (xs 3) (FrM_of hF hw_1.2) sz) (by decide) (show kd 91 = (8, 24) from rfl) (by decide) rfl ⟨(Nat.le_of_ble_eq_true rfl), (Nat.le_of_ble_eq_true rfl)⟩ rfl hl.1 rfl (Nat.le_of_ble_eq_true rfl) dL_law_1309 ⟨Nat.le_trans hc (Nat.le_of_ble_eq_true rfl), Nat.le_trans hs (Nat.le_of_ble_eq_true rfl)⟩) (fun r_2 σ_2 H locs hw_2 hP hS => ?_)
  refine lv_icmp_eq (tgt := 1507) hx hb dL_law_1312 (by decide) (fun c_3 => ?_) (fun c_3 => absurd (by rw [hw_1.1, hw_2]) c_3)
  exact law_end C0 hr hlk hX hbl hS (lv_sub hl [0, 4] rfl) (Nat.le_trans hc (Nat.le_of_ble_eq_true rfl)) (Nat.le_trans hs (Nat.le_of_ble_eq_true rfl))
set_option maxHeartbeats 4000000 in
set_option maxRecDepth 100000 in
theorem law_c33 {p : Program} {l : Launch} {e : Env} {s : State} {m : MethodId} {below : List Frame} {meth : Method} {c : Code} {D : va_G} {cA : Nat → ClassId} {ad : Nat → Nat} {o : Int64} {σ : Mem} {b : Nat} {xs : Nat → Int32} {H : Heap} {locs : List Loc} {cells slots : Nat} {ls : Array Slot} {sa1 sa2 : Nat} (hfl : l.stackTraces = false) (C0 : CX p s m #[Value.ref b] c code 8 RL) (hr : meth.sig.returnType = ret) (hlk : meth.locks = false) (hX : va_X b 6 xs s s.heap) (hbl : b < s.heap.size) (X : WX D cA ad (fun q => s.heap.size ≤ q) s) (hZ : XL sa1 sa2 s) (hP : WP D cA ad o σ H) (hF : Fr σ) (hS : va_S (fun q => s.heap.size ≤ q) s.heap H locs) (hl : lv_has ls 8 [(0, .ref b), (1, .ref (ad 66)), (2, .ref (ad 91)), (3, .ref (ad 105)), (4, .int 0)]) (hc : cells ≤ 600000) (hs : slots ≤ 7300000) : W p l e room_1 s m #[Value.ref b] below meth c H locs cells slots (lw_Z below #[Value.ref b] s) (F0 m 1317 ls []) := by
  obtain ⟨hx, hb, hml, hown, hts⟩ := id C0
  have hbA : ¬ (fun q => s.heap.size ≤ q) b := Nat.not_le.mpr hbl
  refine lv_aload_n hx hb dL_law_1317 rfl (lv_at hl 1 rfl) ?_
  refine lv_aload_n hx hb dL_law_1318 rfl (lv_at hl 0 rfl) ?_
  refine lv_iload hx hb dL_law_1319 (lv_at hl 4 rfl) ?_
  refine lv_iconst (v := 1) hx hb dL_law_1321 (by decide) ?_
  refine lv_iadd hx hb dL_law_1322 ?_
  refine lv_topE (y := 1) (by decide) ?_
  refine va_sld (xs := xs) hx hb hX hbl hbA hS (by unfold vp_in; decide) dL_law_1323 ?_
  refine lv_topE (y := (xs 1)) rfl ?_
  refine lv_aload_n hx hb dL_law_1324 rfl (lv_at hl 0 rfl) ?_
  refine lv_iload hx hb dL_law_1325 (lv_at hl 4 rfl) ?_
  refine lv_iconst (v := 2) hx hb dL_law_1327 (by decide) ?_
  refine lv_iadd hx hb dL_law_1328 ?_
  refine lv_topE (y := 2) (by decide) ?_
  refine va_sld (xs := xs) hx hb hX hbl hbA hS (by unfold vp_in; decide) dL_law_1329 ?_
  refine lv_topE (y := (xs 2)) rfl ?_
  refine lv_aload_n hx hb dL_law_1330 rfl (lv_at hl 3 rfl) ?_
  refine va_calli (vx_runSW (As := [.ref (ad 66), .int (xs 1), .int (xs 2), .ref (ad 105)]) (rest := []) C0 (c_L_element l hfl D cA ad o σ (xs 1) (xs 2) hF sa1 sa2 H.size) (vx_cwSW 4 hts gL159 rfl rfl rfl (by decide +kernel) ⟨(Nat.le_of_ble_eq_true rfl), (Nat.le_of_ble_eq_true rfl)⟩) ⟨PWX_blind, fun U hU hW => ⟨rfl, PW_of X hP hU hW, XF_of X hZ hS hU hW⟩⟩ rfl rfl hl.1 rfl (lv_room (Nat.le_of_ble_eq_true rfl)) dL_law_1331 ⟨Nat.add_le_of_le_sub (by decide) (Nat.le_trans hc (by decide)), Nat.add_le_of_le_sub (by decide) (Nat.le_trans hs (by decide))⟩) hS (fun q _ h => FA_sub X hS q h) (FA_sub X hS) (fun r1 u t H locs ht hvm hwe hB hz hk hS => ?_)
  have hP : WP D cA ad o σ H := by rw [← ht, ← hwe.2]; exact hB.1
  replace hwe := hwe.1
  have hc2 : cells + 1 ≤ 600001 := Nat.succ_le_succ hc
  have hs2 : slots + 6 ≤ 7300006 := Nat.add_le_add_right hs 6
  refine lv_istore (lv' := [(5, .int r1), (0, .ref b), (1, .ref (ad 66)), (2, .ref (ad 91)), (3, .ref (ad 105)), (4, .int 0)]) hx hb dL_law_1334 hl (by decide) rfl (fun ls hl => ?_)
  refine lv_aload_n hx hb dL_law_1336 rfl (lv_at hl 3 rfl) ?_
  refine lv_aload_n hx hb dL_law_1337 rfl (lv_at hl 1 rfl) ?_
  refine lv_iload hx hb dL_law_1338 (lv_at hl 5 rfl) ?_
  refine lv_iconst (v := 1) hx hb dL_law_1340 (by decide) ?_
  refine lv_iadd hx hb dL_law_1341 ?_
  refine lv_topE (y := 1) (by decide) ?_
  refine va_sld (xs := xs) hx hb hX hbl hbA hS (by unfold vp_in; decide) dL_law_1342 ?_
  refine lv_topE (y := (xs 1)) rfl ?_
  refine lv_aload_n hx hb dL_law_1343 rfl (lv_at hl 1 rfl) ?_
  refine lv_iload hx hb dL_law_1344 (lv_at hl 5 rfl) ?_
  refine lv_iconst (v := 2) hx hb dL_law_1346 (by decide) ?_
  refine lv_iadd hx hb dL_law_1347 ?_
  refine lv_topE (y := 2) (by decide) ?_
  refine va_sld (xs := xs) hx hb hX hbl hbA hS (by unfold vp_in; decide) dL_law_1348 ?_
  refine lv_topE (y := (xs 2)) rfl ?_
  refine r_cl X hS (r_runV (As := [.int (xs 1), .int (xs 2)]) (rest := []) C0 X hP L_L_164 (fun sz => c_X8_element_f l D cA ad o σ (xs 1) (xs 2) (FrM_of hF (fun _ _ => rfl)) sz) (by decide) (show kd 91 = (8, 24) from rfl) (by decide) rfl ⟨(Nat.le_of_ble_eq_true rfl), (Nat.le_of_ble_eq_true rfl)⟩ rfl hl.1 rfl (Nat.le_of_ble_eq_true rfl) dL_law_1349 ⟨Nat.le_trans hc2 (Nat.le_of_ble_eq_true rfl), Nat.le_trans hs2 (Nat.le_of_ble_eq_true rfl)⟩) (fun r_1 σ_1 H locs hw_1 hP hS => ?_)
  refine lv_lstore (lv' := [(6, .long r_1), (5, .int r1), (0, .ref b), (1, .ref (ad 66)), (2, .ref (ad 91)), (3, .ref (ad 105)), (4, .int 0)]) hx hb dL_law_1352 hl (by decide) rfl (fun ls hl => ?_)
  refine lv_aload_n hx hb dL_law_1354 rfl (lv_at hl 4 rfl) ?_
  refine r_ci X hS (r_runV (As := []) (rest := []) C0 X hP L_L_165 (fun sz => c_X8_thrown l D cA ad o σ_1  sz) (by decide) (show kd 91 = (8, 24) from rfl) (by decide) rfl ⟨(Nat.le_of_ble_eq_true rfl), (Nat.le_of_ble_eq_true rfl)⟩ rfl hl.1 rfl (Nat.le_of_ble_eq_true rfl) dL_law_1355 ⟨Nat.le_trans hc2 (Nat.le_of_ble_eq_true rfl), Nat.le_trans hs2 (Nat.le_of_ble_eq_true rfl)⟩) (fun r_2 σ_2 H locs hw_2 hP hS => ?_)
  refine lv_iload hx hb dL_law_1358 (lv_at hl 1 rfl) ?_
  refine lv_icmp_eq (tgt := 1365) hx hb dL_law_1360 (by decide) (fun c_3 => ?_) (fun c_3 => absurd (by rw [hw_2.1, hw_1, hwe]) c_3)
  refine lv_iload hx hb dL_law_1365 (lv_at hl 1 rfl) ?_
  refine lv_if_ne (tgt := 1381) hx hb dL_law_1367 (by decide) (fun c_4 => ?_) (fun c_4 => absurd c_4 (by rw [hwe]; split <;> decide))
  refine lv_goto (tgt := 1507) hx hb dL_law_1381 (by decide) ?_
  exact law_end C0 hr hlk hX hbl hS (lv_sub hl [2, 6] rfl) (Nat.le_trans hc2 (Nat.le_of_ble_eq_true rfl)) (Nat.le_trans hs2 (Nat.le_of_ble_eq_true rfl))
set_option maxHeartbeats 4000000 in
set_option maxRecDepth 100000 in
theorem law_c34 {p : Program} {l : Launch} {e : Env} {s : State} {m : MethodId} {below : List Frame} {meth : Method} {c : Code} {D : va_G} {cA : Nat → ClassId} {ad : Nat → Nat} {o : Int64} {σ : Mem} {b : Nat} {xs : Nat → Int32} {H : Heap} {locs : List Loc} {cells slots : Nat} {ls : Array Slot} {sa1 sa2 : Nat} (hfl : l.stackTraces = false) (C0 : CX p s m #[Value.ref b] c code 8 RL) (hr : meth.sig.returnType = ret) (hlk : meth.locks = false) (hX : va_X b 6 xs s s.heap) (hbl : b < s.heap.size) (X : WX D cA ad (fun q => s.heap.size ≤ q) s) (hZ : XL sa1 sa2 s) (hP : WP D cA ad o σ H) (hF : Fr σ) (hS : va_S (fun q => s.heap.size ≤ q) s.heap H locs) (hl : lv_has ls 8 [(0, .ref b), (1, .ref (ad 66)), (2, .ref (ad 91)), (3, .ref (ad 105)), (4, .int 0)]) (hc : cells ≤ 600000) (hs : slots ≤ 7300000) : W p l e room_1 s m #[Value.ref b] below meth c H locs cells slots (lw_Z below #[Value.ref b] s) (F0 m 1384 ls []) := by
  obtain ⟨hx, hb, hml, hown, hts⟩ := id C0
  have hbA : ¬ (fun q => s.heap.size ≤ q) b := Nat.not_le.mpr hbl
  refine lv_aload_n hx hb dL_law_1384 rfl (lv_at hl 1 rfl) ?_
  refine lv_aload_n hx hb dL_law_1385 rfl (lv_at hl 0 rfl) ?_
  refine lv_iload hx hb dL_law_1386 (lv_at hl 4 rfl) ?_
  refine lv_iconst (v := 1) hx hb dL_law_1388 (by decide) ?_
  refine lv_iadd hx hb dL_law_1389 ?_
  refine lv_topE (y := 1) (by decide) ?_
  refine va_sld (xs := xs) hx hb hX hbl hbA hS (by unfold vp_in; decide) dL_law_1390 ?_
  refine lv_topE (y := (xs 1)) rfl ?_
  refine lv_aload_n hx hb dL_law_1391 rfl (lv_at hl 0 rfl) ?_
  refine lv_iload hx hb dL_law_1392 (lv_at hl 4 rfl) ?_
  refine lv_iconst (v := 2) hx hb dL_law_1394 (by decide) ?_
  refine lv_iadd hx hb dL_law_1395 ?_
  refine lv_topE (y := 2) (by decide) ?_
  refine va_sld (xs := xs) hx hb hX hbl hbA hS (by unfold vp_in; decide) dL_law_1396 ?_
  refine lv_topE (y := (xs 2)) rfl ?_
  refine lv_aload_n hx hb dL_law_1397 rfl (lv_at hl 0 rfl) ?_
  refine lv_iload hx hb dL_law_1398 (lv_at hl 4 rfl) ?_
  refine lv_iconst (v := 3) hx hb dL_law_1400 (by decide) ?_
  refine lv_iadd hx hb dL_law_1401 ?_
  refine lv_topE (y := 3) (by decide) ?_
  refine va_sld (xs := xs) hx hb hX hbl hbA hS (by unfold vp_in; decide) dL_law_1402 ?_
  refine lv_topE (y := (xs 3)) rfl ?_
  refine lv_aload_n hx hb dL_law_1403 rfl (lv_at hl 0 rfl) ?_
  refine lv_iload hx hb dL_law_1404 (lv_at hl 4 rfl) ?_
  refine lv_iconst (v := 4) hx hb dL_law_1406 (by decide) ?_
  refine lv_iadd hx hb dL_law_1407 ?_
  refine lv_topE (y := 4) (by decide) ?_
  refine va_sld (xs := xs) hx hb hX hbl hbA hS (by unfold vp_in; decide) dL_law_1408 ?_
  refine lv_topE (y := (xs 4)) rfl ?_
  refine lv_aload_n hx hb dL_law_1409 rfl (lv_at hl 0 rfl) ?_
  refine lv_iload hx hb dL_law_1410 (lv_at hl 4 rfl) ?_
  refine lv_iconst (v := 5) hx hb dL_law_1412 (by decide) ?_
  refine lv_iadd hx hb dL_law_1413 ?_
  refine lv_topE (y := 5) (by decide) ?_
  refine va_sld (xs := xs) hx hb hX hbl hbA hS (by unfold vp_in; decide) dL_law_1414 ?_
  refine lv_topE (y := (xs 5)) rfl ?_
  refine r_ci X hS (r_runV (As := [.int (xs 1), .int (xs 2), .int (xs 3), .int (xs 4), .int (xs 5)]) (rest := []) C0 X hP L_L_168 (fun sz => c_X7_copy_f l D cA ad o σ (xs 1) (xs 2) (xs 3) (xs 4) (xs 5) hF sz) (by decide) (show kd 66 = (7, 8) from rfl) (by decide) rfl ⟨(Nat.le_of_ble_eq_true rfl), (Nat.le_of_ble_eq_true rfl)⟩ rfl hl.1 rfl (Nat.le_of_ble_eq_true rfl) dL_law_1415 ⟨Nat.le_trans hc (Nat.le_of_ble_eq_true rfl), Nat.le_trans hs (Nat.le_of_ble_eq_true rfl)⟩) (fun r_1 σ_1 H locs hw_1 hP hS => ?_)
  refine lv_aload_n hx hb dL_law_1418 rfl (lv_at hl 2 rfl) ?_
  refine lv_aload_n hx hb dL_law_1419 rfl (lv_at hl 0 rfl) ?_
  refine lv_iload hx hb dL_law_1420 (lv_at hl 4 rfl) ?_
  refine lv_iconst (v := 1) hx hb dL_law_1422 (by decide) ?_
  refine lv_iadd hx hb dL_law_1423 ?_
  refine lv_topE (y := 1) (by decide) ?_
  refine va_sld (xs := xs) hx hb hX hbl hbA hS (by unfold vp_in; decide) dL_law_1424 ?_
  refine lv_topE (y := (xs 1)) rfl ?_
  refine lv_aload_n hx hb dL_law_1425 rfl (lv_at hl 0 rfl) ?_
  refine lv_iload hx hb dL_law_1426 (lv_at hl 4 rfl) ?_
  refine lv_iconst (v := 2) hx hb dL_law_1428 (by decide) ?_
  refine lv_iadd hx hb dL_law_1429 ?_
  refine lv_topE (y := 2) (by decide) ?_
  refine va_sld (xs := xs) hx hb hX hbl hbA hS (by unfold vp_in; decide) dL_law_1430 ?_
  refine lv_topE (y := (xs 2)) rfl ?_
  refine lv_aload_n hx hb dL_law_1431 rfl (lv_at hl 0 rfl) ?_
  refine lv_iload hx hb dL_law_1432 (lv_at hl 4 rfl) ?_
  refine lv_iconst (v := 3) hx hb dL_law_1434 (by decide) ?_
  refine lv_iadd hx hb dL_law_1435 ?_
  refine lv_topE (y := 3) (by decide) ?_
  refine va_sld (xs := xs) hx hb hX hbl hbA hS (by unfold vp_in; decide) dL_law_1436 ?_
  refine lv_topE (y := (xs 3)) rfl ?_
  refine lv_aload_n hx hb dL_law_1437 rfl (lv_at hl 0 rfl) ?_
  refine lv_iload hx hb dL_law_1438 (lv_at hl 4 rfl) ?_
  refine lv_iconst (v := 4) hx hb dL_law_1440 (by decide) ?_
  refine lv_iadd hx hb dL_law_1441 ?_
  refine lv_topE (y := 4) (by decide) ?_
  refine va_sld (xs := xs) hx hb hX hbl hbA hS (by unfold vp_in; decide) dL_law_1442 ?_
  refine lv_topE (y := (xs 4)) rfl ?_
  refine lv_aload_n hx hb dL_law_1443 rfl (lv_at hl 0 rfl) ?_
  refine lv_iload hx hb dL_law_1444 (lv_at hl 4 rfl) ?_
  refine lv_iconst (v := 5) hx hb dL_law_1446 (by decide) ?_
  refine lv_iadd hx hb dL_law_1447 ?_
  refine lv_topE (y := 5) (by decide) ?_
  refine va_sld (xs := xs) hx hb hX hbl hbA hS (by unfold vp_in; decide) dL_law_1448 ?_
  refine lv_topE (y := (xs 5)) rfl ?_
  refine r_ci X hS (r_runV (As := [.int (xs 1), .int (xs 2), .int (xs 3), .int (xs 4), .int (xs 5)]) (rest := [.int r_1]) C0 X hP L_L_171 (fun sz => c_X8_copy_f l D cA ad o σ_1 (xs 1) (xs 2) (xs 3) (xs 4) (xs 5) (FrM_of hF hw_1.2) sz) (by decide) (show kd 91 = (8, 24) from rfl) (by decide) rfl ⟨(Nat.le_of_ble_eq_true rfl), (Nat.le_of_ble_eq_true rfl)⟩ rfl hl.1 rfl (Nat.le_of_ble_eq_true rfl) dL_law_1449 ⟨Nat.le_trans hc (Nat.le_of_ble_eq_true rfl), Nat.le_trans hs (Nat.le_of_ble_eq_true rfl)⟩) (fun r_2 σ_2 H locs hw_2 hP hS => ?_)
  refine lv_icmp_eq (tgt := 1507) hx hb dL_law_1452 (by decide) (fun c_3 => ?_) (fun c_3 => absurd (by rw [hw_1.1, hw_2]) c_3)
  exact law_end C0 hr hlk hX hbl hS (lv_sub hl [0, 4] rfl) (Nat.le_trans hc (Nat.le_of_ble_eq_true rfl)) (Nat.le_trans hs (Nat.le_of_ble_eq_true rfl))
set_option maxHeartbeats 4000000 in
set_option maxRecDepth 100000 in
theorem law_c35 {p : Program} {l : Launch} {e : Env} {s : State} {m : MethodId} {below : List Frame} {meth : Method} {c : Code} {D : va_G} {cA : Nat → ClassId} {ad : Nat → Nat} {o : Int64} {σ : Mem} {b : Nat} {xs : Nat → Int32} {H : Heap} {locs : List Loc} {cells slots : Nat} {ls : Array Slot} {sa1 sa2 : Nat} (hfl : l.stackTraces = false) (C0 : CX p s m #[Value.ref b] c code 8 RL) (hr : meth.sig.returnType = ret) (hlk : meth.locks = false) (hX : va_X b 6 xs s s.heap) (hbl : b < s.heap.size) (X : WX D cA ad (fun q => s.heap.size ≤ q) s) (hZ : XL sa1 sa2 s) (hP : WP D cA ad o σ H) (hF : Fr σ) (hS : va_S (fun q => s.heap.size ≤ q) s.heap H locs) (hl : lv_has ls 8 [(0, .ref b), (1, .ref (ad 66)), (2, .ref (ad 91)), (3, .ref (ad 105)), (4, .int 0)]) (hc : cells ≤ 600000) (hs : slots ≤ 7300000) : W p l e room_1 s m #[Value.ref b] below meth c H locs cells slots (lw_Z below #[Value.ref b] s) (F0 m 1457 ls []) := by
  obtain ⟨hx, hb, hml, hown, hts⟩ := id C0
  have hbA : ¬ (fun q => s.heap.size ≤ q) b := Nat.not_le.mpr hbl
  refine lv_aload_n hx hb dL_law_1457 rfl (lv_at hl 1 rfl) ?_
  refine lv_aload_n hx hb dL_law_1458 rfl (lv_at hl 0 rfl) ?_
  refine lv_iload hx hb dL_law_1459 (lv_at hl 4 rfl) ?_
  refine lv_iconst (v := 1) hx hb dL_law_1461 (by decide) ?_
  refine lv_iadd hx hb dL_law_1462 ?_
  refine lv_topE (y := 1) (by decide) ?_
  refine va_sld (xs := xs) hx hb hX hbl hbA hS (by unfold vp_in; decide) dL_law_1463 ?_
  refine lv_topE (y := (xs 1)) rfl ?_
  refine r_ci X hS (r_runV (As := [.int (xs 1)]) (rest := []) C0 X hP L_L_172 (fun sz => c_X7_words_f l D cA ad o σ (xs 1) hF sz) (by decide) (show kd 66 = (7, 8) from rfl) (by decide) rfl ⟨(Nat.le_of_ble_eq_true rfl), (Nat.le_of_ble_eq_true rfl)⟩ rfl hl.1 rfl (Nat.le_of_ble_eq_true rfl) dL_law_1464 ⟨Nat.le_trans hc (Nat.le_of_ble_eq_true rfl), Nat.le_trans hs (Nat.le_of_ble_eq_true rfl)⟩) (fun r_1 σ_1 H locs hw_1 hP hS => ?_)
  refine lv_aload_n hx hb dL_law_1467 rfl (lv_at hl 2 rfl) ?_
  refine lv_aload_n hx hb dL_law_1468 rfl (lv_at hl 0 rfl) ?_
  refine lv_iload hx hb dL_law_1469 (lv_at hl 4 rfl) ?_
  refine lv_iconst (v := 1) hx hb dL_law_1471 (by decide) ?_
  refine lv_iadd hx hb dL_law_1472 ?_
  refine lv_topE (y := 1) (by decide) ?_
  refine va_sld (xs := xs) hx hb hX hbl hbA hS (by unfold vp_in; decide) dL_law_1473 ?_
  refine lv_topE (y := (xs 1)) rfl ?_
  refine r_ci X hS (r_runV (As := [.int (xs 1)]) (rest := [.int r_1]) C0 X hP L_L_175 (fun sz => c_X8_words_f l D cA ad o σ_1 (xs 1) (FrM_of hF hw_1.2) sz) (by decide) (show kd 91 = (8, 24) from rfl) (by decide) rfl ⟨(Nat.le_of_ble_eq_true rfl), (Nat.le_of_ble_eq_true rfl)⟩ rfl hl.1 rfl (Nat.le_of_ble_eq_true rfl) dL_law_1474 ⟨Nat.le_trans hc (Nat.le_of_ble_eq_true rfl), Nat.le_trans hs (Nat.le_of_ble_eq_true rfl)⟩) (fun r_2 σ_2 H locs hw_2 hP hS => ?_)
  refine lv_icmp_eq (tgt := 1507) hx hb dL_law_1477 (by decide) (fun c_3 => ?_) (fun c_3 => absurd (by rw [hw_1.1, hw_2]) c_3)
  exact law_end C0 hr hlk hX hbl hS (lv_sub hl [0, 4] rfl) (Nat.le_trans hc (Nat.le_of_ble_eq_true rfl)) (Nat.le_trans hs (Nat.le_of_ble_eq_true rfl))
set_option maxHeartbeats 4000000 in
set_option maxRecDepth 100000 in
theorem law_c36 {p : Program} {l : Launch} {e : Env} {s : State} {m : MethodId} {below : List Frame} {meth : Method} {c : Code} {D : va_G} {cA : Nat → ClassId} {ad : Nat → Nat} {o : Int64} {σ : Mem} {b : Nat} {xs : Nat → Int32} {H : Heap} {locs : List Loc} {cells slots : Nat} {ls : Array Slot} {sa1 sa2 : Nat} (hfl : l.stackTraces = false) (C0 : CX p s m #[Value.ref b] c code 8 RL) (hr : meth.sig.returnType = ret) (hlk : meth.locks = false) (hX : va_X b 6 xs s s.heap) (hbl : b < s.heap.size) (X : WX D cA ad (fun q => s.heap.size ≤ q) s) (hZ : XL sa1 sa2 s) (hP : WP D cA ad o σ H) (hF : Fr σ) (hS : va_S (fun q => s.heap.size ≤ q) s.heap H locs) (hl : lv_has ls 8 [(0, .ref b), (1, .ref (ad 66)), (2, .ref (ad 91)), (3, .ref (ad 105)), (4, .int 0)]) (hc : cells ≤ 600000) (hs : slots ≤ 7300000) : W p l e room_1 s m #[Value.ref b] below meth c H locs cells slots (lw_Z below #[Value.ref b] s) (F0 m 1482 ls []) := by
  obtain ⟨hx, hb, hml, hown, hts⟩ := id C0
  have hbA : ¬ (fun q => s.heap.size ≤ q) b := Nat.not_le.mpr hbl
  refine lv_aload_n hx hb dL_law_1482 rfl (lv_at hl 1 rfl) ?_
  refine lv_aload_n hx hb dL_law_1483 rfl (lv_at hl 0 rfl) ?_
  refine lv_iload hx hb dL_law_1484 (lv_at hl 4 rfl) ?_
  refine lv_iconst (v := 1) hx hb dL_law_1486 (by decide) ?_
  refine lv_iadd hx hb dL_law_1487 ?_
  refine lv_topE (y := 1) (by decide) ?_
  refine va_sld (xs := xs) hx hb hX hbl hbA hS (by unfold vp_in; decide) dL_law_1488 ?_
  refine lv_topE (y := (xs 1)) rfl ?_
  refine r_ci X hS (vx_runVW (As := [.int (xs 1)]) (rest := []) C0 (c_X7_toss_f l D cA ad o σ (xs 1) hF H.size) (vx_cwVW 1 hts gL176 rfl rfl rfl (by decide +kernel) ⟨(Nat.le_of_ble_eq_true rfl), (Nat.le_of_ble_eq_true rfl)⟩) ⟨PW_blind, va_recv X.1 hP (q := (RX7, TX7, 8)) rfl (q0 := 66) (ci := 7) (fs := (List.range 8).map (fv ad (σ 66) 66)) (by rw [wl_get cA ad o σ (by decide), cel_obj (ci := 7) (n := 8) rfl (by decide)]), fun U hU hW => ⟨rfl, PW_of X hP hU hW⟩⟩ rfl rfl hl.1 rfl (lv_room (Nat.le_of_ble_eq_true rfl)) dL_law_1489 ⟨Nat.le_trans hc (Nat.le_of_ble_eq_true rfl), Nat.le_trans hs (Nat.le_of_ble_eq_true rfl)⟩) (fun r_1 σ_1 H locs hw_1 hP hS => ?_)
  refine lv_aload_n hx hb dL_law_1492 rfl (lv_at hl 2 rfl) ?_
  refine lv_aload_n hx hb dL_law_1493 rfl (lv_at hl 0 rfl) ?_
  refine lv_iload hx hb dL_law_1494 (lv_at hl 4 rfl) ?_
  refine lv_iconst (v := 1) hx hb dL_law_1496 (by decide) ?_
  refine lv_iadd hx hb dL_law_1497 ?_
  refine lv_topE (y := 1) (by decide) ?_
  refine va_sld (xs := xs) hx hb hX hbl hbA hS (by unfold vp_in; decide) dL_law_1498 ?_
  refine lv_topE (y := (xs 1)) rfl ?_
  refine r_ci X hS (r_runV (As := [.int (xs 1)]) (rest := [.int r_1]) C0 X hP L_L_179 (fun sz => c_X8_toss_f l D cA ad o σ_1 (xs 1) (FrM_of hF hw_1.2) sz) (by decide) (show kd 91 = (8, 24) from rfl) (by decide) rfl ⟨(Nat.le_of_ble_eq_true rfl), (Nat.le_of_ble_eq_true rfl)⟩ rfl hl.1 rfl (Nat.le_of_ble_eq_true rfl) dL_law_1499 ⟨Nat.le_trans hc (Nat.le_of_ble_eq_true rfl), Nat.le_trans hs (Nat.le_of_ble_eq_true rfl)⟩) (fun r_2 σ_2 H locs hw_2 hP hS => ?_)
  refine lv_icmp_eq (tgt := 1507) hx hb dL_law_1502 (by decide) (fun c_3 => ?_) (fun c_3 => absurd (by rw [hw_1.1, hw_2]) c_3)
  exact law_end C0 hr hlk hX hbl hS (lv_sub hl [0, 4] rfl) (Nat.le_trans hc (Nat.le_of_ble_eq_true rfl)) (Nat.le_trans hs (Nat.le_of_ble_eq_true rfl))
