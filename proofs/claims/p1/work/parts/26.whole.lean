set_option maxHeartbeats 40000000 in
set_option maxRecDepth 100000 in
theorem whole_start {p : Program} {e : Env} {s : State} {m : MethodId} {below : List Frame} {meth : Method} {c : Code} (l : Launch) (hflags : l.flags = flags0) {b L : Nat} {xs : Nat → Int32} (hL : L ≤ 6) (C0 : lw_At p s m meth c b L xs) : W p l e room_1 s m #[Value.ref b] below meth c s.heap [] 0 0 (lw_Z below #[Value.ref b] s) (entryFrame m ([Value.ref b] : List Value).toArray 8) := by
  obtain ⟨hx, hb, hr, hml, hown, hts0, hX, hbl, hlk, hgv⟩ := id C0
  have hfl : l.stackTraces = false := by unfold Launch.stackTraces; rw [hflags]; decide +kernel
  obtain ⟨sa1, sa2, hZ⟩ := XL0 hts0 hgv
  have hNW := NW0 hts0
  have hts : ∀ w ∈ tbg, w.before #[Value.ref b] s = true := fun w hw => hts0 w (List.mem_filter.mp hw).1
  have hown : s.vm.findClass RL = some m.cls := hown
  have C1 : CX p s m #[Value.ref b] c code 8 RL := ⟨hx, hb, hml, hown, hts⟩
  have hA : ∀ q : Nat, s.heap.size ≤ q → (fun q : Nat => s.heap.size ≤ q) q := fun _ h => h
  have hbA : ¬ (fun q : Nat => s.heap.size ≤ q) b := Nat.not_le.mpr hbl
  obtain ⟨c0, iS0, hKn0⟩ := u_known (C := RX0) (T := TX0) (N := 12) (n := 12) hts inX0 (hts _ wN0)
  obtain ⟨c1, iS1, hKn1⟩ := u_known (C := RX1) (T := TX1) (N := 2) (n := 2) hts inX1 (hts _ wN1)
  obtain ⟨c2, iS2, hKn2⟩ := u_known (C := RX2) (T := TX2) (N := 8) (n := 8) hts inX2 (hts _ wN2)
  obtain ⟨c3, iS3, hKn3⟩ := u_known (C := RX3) (T := TX3) (N := 8) (n := 8) hts inX3 (hts _ wN3)
  obtain ⟨c4, iS4, hKn4⟩ := u_known (C := RX4) (T := TX4) (N := 13) (n := 13) hts inX4 (hts _ wN4)
  obtain ⟨c5, iS5, hKn5⟩ := u_known (C := RX5) (T := TX5) (N := 6) (n := 6) hts inX5 (hts _ wN5)
  obtain ⟨c6, iS6, hKn6⟩ := u_known (C := RX6) (T := TX6) (N := 11) (n := 11) hts inX6 (hts _ wN6)
  obtain ⟨c7, iS7, hKn7⟩ := u_known (C := RX7) (T := TX7) (N := 8) (n := 8) hts inX7 (hts _ wN7)
  obtain ⟨c8, iS8, hKn8⟩ := u_known (C := RX8) (T := TX8) (N := 24) (n := 24) hts inX8 (hts _ wN8)
  obtain ⟨dC, dI, hKc⟩ : ∃ (dC : Nat → ClassId) (dI : Nat → Nat → Nat), ∀ (k : Nat) (q : vw_C), vwCl[k]? = some q → u_Kn s q.1 q.2.1 q.2.2 (dC k) (dI k) := by
    refine ⟨fun k => ([c0, c1, c2, c3, c4, c5, c6, c7, c8] : List ClassId).getD k c0, fun k => ([iS0, iS1, iS2, iS3, iS4, iS5, iS6, iS7, iS8] : List (Nat → Nat)).getD k iS0, ?_⟩
    intro k q hq
    match k, hq with
    | 0, hq => cases hq; exact hKn0
    | 1, hq => cases hq; exact hKn1
    | 2, hq => cases hq; exact hKn2
    | 3, hq => cases hq; exact hKn3
    | 4, hq => cases hq; exact hKn4
    | 5, hq => cases hq; exact hKn5
    | 6, hq => cases hq; exact hKn6
    | 7, hq => cases hq; exact hKn7
    | 8, hq => cases hq; exact hKn8
    | k + 9, hq => simp [vwCl] at hq
  obtain ⟨cA, hC, hC3⟩ : ∃ cA : Nat → ClassId, CAx cA s ∧ (∀ c', s.vm.findClass ("[" ++ FieldType.long.toString) = some c' → c' = cA 3) := by
    refine ⟨fun k => if k = 0 then (s.vm.findClass ("[" ++ FieldType.int.toString)).getD c0 else if k = 1 then (s.vm.findClass ("[" ++ (FieldType.object "WhoBacks$Cart").toString)).getD c0 else if k = 2 then (s.vm.findClass ("[" ++ (FieldType.object "WhoBacks$Shelf").toString)).getD c0 else (s.vm.findClass ("[" ++ FieldType.long.toString)).getD c0, ⟨fun c' h => ?_, fun c' h => ?_, fun c' h => ?_⟩, fun c' h => ?_⟩ <;> simp [h]
  generalize hDe : (dC, dI) = D
  have hK : va_K D vwCl [] s := by rw [← hDe]; exact ⟨hKc, fun k q h => by simp at h⟩
  have hS : va_S (fun q : Nat => s.heap.size ≤ q) s.heap s.heap [] := va_S.rf
  have hP : va_P D vwCl [] s.heap := fun k q h => by simp at h
  have hD : va_D (fun q : Nat => s.heap.size ≤ q) [] := ⟨fun i j p q h => by simp at h, fun k q h => by simp at h⟩
  have hl := lv_entry ([.ref b]) (n := 8) (Nat.le_of_ble_eq_true rfl)
  rw [lg_entry_eq]
  generalize (lg_sl ([.ref b]) ++ List.replicate (8 - (lg_sl ([.ref b])).length) Slot.unset).toArray = ls at hl ⊢
  have hl : lv_has ls 8 [(0, .ref b)] := hl
  refine va_new (ci := 7) (fs := [.null, .null, .null, .int 0, .null, .null, .null, .null]) (C := RX7) (T := TX7) (N := 8) hx hb hts inX7 tyX7 tyX7_ok hown (hts _ (tm 74 (by decide +kernel) (by decide +kernel))) (hts _ wN7) (hts _ wI7) hK hP hD hS hA rfl dfX7 (Nat.le_of_ble_eq_true rfl) (Nat.le_of_ble_eq_true rfl) dL_law_0 (fun q1 H hP hD hS => ?_)
  have hP : va_P D vwCl (([] : va_W) ++ [(q1, .inr (7, [.null, .null, .null, .int 0, .null, .null, .null, .null]))]) H := hP
  have hD : va_D (fun q : Nat => s.heap.size ≤ q) (([] : va_W) ++ [(q1, .inr (7, [.null, .null, .null, .int 0, .null, .null, .null, .null]))]) := hD
  refine lv_dup hx hb dL_law_3 rfl ?_
  have hPc := hP.sub (ws' := [(q1, .inr (7, [.null, .null, .null, .int 0, .null, .null, .null, .null]))]) [0] rfl
  have hDc := hD.sub (ws' := [(q1, .inr (7, [.null, .null, .null, .int 0, .null, .null, .null, .null]))]) [0] (by decide) rfl
  have hFc := va_free (wc := [(q1, .inr (7, [.null, .null, .null, .int 0, .null, .null, .null, .null]))]) hD hS hA [0] rfl
  have hK0 := hK.sub (tys' := []) [] rfl
  refine va_callv (va_runI (As := []) (rest := [.ref q1]) ⟨hx, hb, hml, hown, hts⟩ (k_X7 l D cA q1 H.size) (cwI 0 hts (tbg_good (WY_good wCi7)) rfl rfl rfl (hts _ wI7) (hts _ (tm 76 (by decide +kernel) (by decide +kernel))) (hts _ wMi7) rfl (by decide +kernel) ⟨(Nat.le_of_ble_eq_true rfl), (Nat.le_of_ble_eq_true rfl)⟩) ⟨KP_blind, fun U hU hW => ⟨rfl, by rw [hU], by rw [hU]; exact hPc, va_K.moved hW.alike hK0, hDc.weaken (fun _ _ _ _ => trivial), CAx_moved hW.alike hC, NW_moved hW hNW⟩⟩ rfl rfl hl.1 rfl (lv_room (Nat.le_of_ble_eq_true rfl)) dL_law_4 ⟨(Nat.le_of_ble_eq_true rfl), (Nat.le_of_ble_eq_true rfl)⟩) hS (fun q _ h => hFc q h) hFc (fun u t H1 locs ht hvm hw hB hz1 hk1 hS => ?_)
  obtain ⟨hP1, hK1, hD1⟩ := hB
  rw [ht] at hP1
  have hK1 := va_K.moved hvm.symm hK1
  obtain rfl : u 0 = q1 := hw
  obtain ⟨hP, hD⟩ := va_join (wr := ([] : va_W)) (w1 := w_X7 cA u) hP hD [0] [] rfl rfl (by decide) (by decide) hk1 hFc hP1 hD1
  have hK : va_K D vwCl [(cA 0, .int), (cA 1, .object "WhoBacks$Cart"), (cA 2, .object "WhoBacks$Shelf")] s := hK1.sub [0, 1, 2] rfl
  generalize H1 = H at hP hS ⊢
  have hP : va_P D vwCl (w_X7 cA u) H := hP
  have hD : va_D (fun q : Nat => s.heap.size ≤ q) (w_X7 cA u) := hD
  refine lv_astore_n (lv' := [(1, .ref (u 0)), (0, .ref b)]) hx hb dL_law_7 rfl hl (by decide) rfl (fun ls hl => ?_)
  refine va_new (ci := 8) (fs := [.null, .null, .null, .null, .null, .null, .null, .null, .null, .null, .int 0, .int 0, .int 0, .int 0, .int 0, .int 0, .null, .int 0, .int 0, .int 0, .int 0, .null, .null, .int 0]) (C := RX8) (T := TX8) (N := 24) hx hb hts inX8 tyX8 tyX8_ok hown (hts _ (tm 1012 (by decide +kernel) (by decide +kernel))) (hts _ wN8) (hts _ wI8) hK hP hD hS hA rfl dfX8 (Nat.le_of_ble_eq_true rfl) (Nat.le_of_ble_eq_true rfl) dL_law_8 (fun q2 H hP hD hS => ?_)
  have hP : va_P D vwCl ((w_X7 cA u) ++ [(q2, .inr (8, [.null, .null, .null, .null, .null, .null, .null, .null, .null, .null, .int 0, .int 0, .int 0, .int 0, .int 0, .int 0, .null, .int 0, .int 0, .int 0, .int 0, .null, .null, .int 0]))]) H := hP
  have hD : va_D (fun q : Nat => s.heap.size ≤ q) ((w_X7 cA u) ++ [(q2, .inr (8, [.null, .null, .null, .null, .null, .null, .null, .null, .null, .null, .int 0, .int 0, .int 0, .int 0, .int 0, .int 0, .null, .int 0, .int 0, .int 0, .int 0, .null, .null, .int 0]))]) := hD
  refine lv_dup hx hb dL_law_11 rfl ?_
  have hPc := hP.sub (ws' := [(q2, .inr (8, [.null, .null, .null, .null, .null, .null, .null, .null, .null, .null, .int 0, .int 0, .int 0, .int 0, .int 0, .int 0, .null, .int 0, .int 0, .int 0, .int 0, .null, .null, .int 0]))]) [91] rfl
  have hDc := hD.sub (ws' := [(q2, .inr (8, [.null, .null, .null, .null, .null, .null, .null, .null, .null, .null, .int 0, .int 0, .int 0, .int 0, .int 0, .int 0, .null, .int 0, .int 0, .int 0, .int 0, .null, .null, .int 0]))]) [91] (by decide) rfl
  have hFc := va_free (wc := [(q2, .inr (8, [.null, .null, .null, .null, .null, .null, .null, .null, .null, .null, .int 0, .int 0, .int 0, .int 0, .int 0, .int 0, .null, .int 0, .int 0, .int 0, .int 0, .null, .null, .int 0]))]) hD hS hA [91] rfl
  have hK0 := hK.sub (tys' := []) [] rfl
  refine va_callv (va_runI (As := []) (rest := [.ref q2]) ⟨hx, hb, hml, hown, hts⟩ (k_X8 l D cA q2 H.size) (cwI 0 hts (tbg_good (WY_good wCi8)) rfl rfl rfl (hts _ wI8) (hts _ (tm 1014 (by decide +kernel) (by decide +kernel))) (hts _ wMi8) rfl (by decide +kernel) ⟨(Nat.le_of_ble_eq_true rfl), (Nat.le_of_ble_eq_true rfl)⟩) ⟨KP_blind, fun U hU hW => ⟨rfl, by rw [hU], by rw [hU]; exact hPc, va_K.moved hW.alike hK0, hDc.weaken (fun _ _ _ _ => trivial), CAx_moved hW.alike hC, NW_moved hW hNW⟩⟩ rfl rfl hl.1 rfl (lv_room (Nat.le_of_ble_eq_true rfl)) dL_law_12 ⟨(Nat.le_of_ble_eq_true rfl), (Nat.le_of_ble_eq_true rfl)⟩) hS (fun q _ h => hFc q h) hFc (fun v t H1 locs ht hvm hw hB hz1 hk1 hS => ?_)
  obtain ⟨hP1, hK1, hD1⟩ := hB
  rw [ht] at hP1
  have hK1 := va_K.moved hvm.symm hK1
  obtain rfl : v 0 = q2 := hw
  obtain ⟨hP, hD⟩ := va_join (wr := (w_X7 cA u)) (w1 := w_X8 cA v) hP hD [91] [0, 1, 2, 3, 4, 5, 6, 7, 8, 9, 10, 11, 12, 13, 14, 15, 16, 17, 18, 19, 20, 21, 22, 23, 24, 25, 26, 27, 28, 29, 30, 31, 32, 33, 34, 35, 36, 37, 38, 39, 40, 41, 42, 43, 44, 45, 46, 47, 48, 49, 50, 51, 52, 53, 54, 55, 56, 57, 58, 59, 60, 61, 62, 63, 64, 65, 66, 67, 68, 69, 70, 71, 72, 73, 74, 75, 76, 77, 78, 79, 80, 81, 82, 83, 84, 85, 86, 87, 88, 89, 90] rfl rfl (by decide) (by decide) hk1 hFc hP1 hD1
  generalize H1 = H at hP hS ⊢
  refine lv_astore_n (lv' := [(2, .ref (v 0)), (1, .ref (u 0)), (0, .ref b)]) hx hb dL_law_15 rfl hl (by decide) rfl (fun ls hl => ?_)
  refine lv_iconst (v := 1) hx hb dL_law_16 (by decide) ?_
  refine va_newa (atype := .long) (ty := .long) (a0 := (1, .inr (.inl (fun _ => 0)))) (N' := 1) hx hb (hts _ (tm 1442 (by decide +kernel) (by decide +kernel))) rfl hK hP hD hS hA (fun _ => rfl) (by decide) (by decide) (by decide) (Nat.le_of_ble_eq_true rfl) (Nat.le_of_ble_eq_true rfl) dL_law_17 (fun q3 cX H hK2 hP hD hS => ?_)
  obtain rfl : cX = cA 3 := hC3 _ (hK2.2 3 _ rfl).2
  have hK : va_K D vwCl (wtys cA) s := hK2
  have hP : va_P D vwCl (wAll cA u v q3) H := hP
  have hD : va_D (fun q : Nat => s.heap.size ≤ q) (wAll cA u v q3) := hD
  have hW0 := WP0 hP
  have X0 := WX0 hK hD hA
  refine lv_astore_n (lv' := [(3, .ref q3), (2, .ref (v 0)), (1, .ref (u 0)), (0, .ref b)]) hx hb dL_law_19 rfl hl (by decide) rfl (fun ls hl => ?_)
  refine lv_iconst (v := 0) hx hb dL_law_20 (by decide) ?_
  refine lv_istore (lv' := [(4, .int 0), (3, .ref q3), (2, .ref (v 0)), (1, .ref (u 0)), (0, .ref b)]) hx hb dL_law_21 hl (by decide) rfl (fun ls hl => ?_)
  refine W.widen (k := 200) (n := 10000) (Nat.le_of_ble_eq_true rfl) (Nat.le_of_ble_eq_true rfl) ?_
  refine lv_iload hx hb dL_law_23 (lv_at hl 0 rfl) ?_
  refine lv_aload_n hx hb dL_law_25 rfl (lv_at hl 4 rfl) ?_
  refine va_slen hx hb hX hbl hbA hS dL_law_26 ?_
  refine lv_bipush (v := 6) hx hb dL_law_27 (by decide) ?_
  refine lv_isub hx hb dL_law_29 ?_
  rcases (show L = 6 ∨ L = 0 ∨ L = 1 ∨ L = 2 ∨ L = 3 ∨ L = 4 ∨ L = 5 by omega) with rfl | rfl | rfl | rfl | rfl | rfl | rfl
  · refine lv_icmp_gt (tgt := 1513) hx hb dL_law_30 (by decide) (fun z => absurd z (by decide)) (fun _ => ?_)
    refine lv_aload_n hx hb dL_law_33 rfl (lv_at hl 4 rfl) ?_
    refine lv_iload hx hb dL_law_34 (lv_at hl 0 rfl) ?_
    refine va_sld (xs := xs) hx hb hX hbl hbA hS (by unfold vp_in; decide) dL_law_36 ?_
    refine lv_bipush (v := 63) hx hb dL_law_37 (by decide) ?_
    refine lv_iand hx hb dL_law_39 ?_
    refine lv_topi (fun y ey => ?_)
    have hl2 : lv_has ls 8 [(0, .ref b), (1, .ref (AD u v q3 66)), (2, .ref (AD u v q3 91)), (3, .ref (AD u v q3 105)), (4, .int 0)] := lv_sub hl [4, 3, 2, 1, 0] rfl
    rcases sw_in (x := y) (lo := 0) (n := 37) with hn | ⟨j, hj, hn⟩
    · refine lv_tableOut (tgt := 1507) hx hb dL_law_40 (by omega) (by decide) ?_
      exact law_end C1 hr hlk hX hbl hS (lv_sub hl [4, 0] rfl) (Nat.le_of_ble_eq_true rfl) (Nat.le_of_ble_eq_true rfl)
    · rcases (show j = 0 ∨ j = 1 ∨ j = 2 ∨ j = 3 ∨ j = 4 ∨ j = 5 ∨ j = 6 ∨ j = 7 ∨ j = 8 ∨ j = 9 ∨ j = 10 ∨ j = 11 ∨ j = 12 ∨ j = 13 ∨ j = 14 ∨ j = 15 ∨ j = 16 ∨ j = 17 ∨ j = 18 ∨ j = 19 ∨ j = 20 ∨ j = 21 ∨ j = 22 ∨ j = 23 ∨ j = 24 ∨ j = 25 ∨ j = 26 ∨ j = 27 ∨ j = 28 ∨ j = 29 ∨ j = 30 ∨ j = 31 ∨ j = 32 ∨ j = 33 ∨ j = 34 ∨ j = 35 ∨ j = 36 by omega) with rfl | rfl | rfl | rfl | rfl | rfl | rfl | rfl | rfl | rfl | rfl | rfl | rfl | rfl | rfl | rfl | rfl | rfl | rfl | rfl | rfl | rfl | rfl | rfl | rfl | rfl | rfl | rfl | rfl | rfl | rfl | rfl | rfl | rfl | rfl | rfl | rfl
      · have ex : y = 0 := sw_eq hn (by decide)
        refine lv_tableIn (off := 164) (tgt := 204) hx hb dL_law_40 (by rw [ex]; decide) (by rw [ex]; decide) (by rw [ex]; rfl) (by decide) ?_
        exact law_c0 hfl C1 hr hlk hX hbl X0 hZ hW0 Fr0 hS hl2 (Nat.le_of_ble_eq_true rfl) (Nat.le_of_ble_eq_true rfl)
      · have ex : y = 1 := sw_eq hn (by decide)
        refine lv_tableIn (off := 189) (tgt := 229) hx hb dL_law_40 (by rw [ex]; decide) (by rw [ex]; decide) (by rw [ex]; rfl) (by decide) ?_
        exact law_c1 hfl C1 hr hlk hX hbl X0 hZ hW0 Fr0 hS hl2 (Nat.le_of_ble_eq_true rfl) (Nat.le_of_ble_eq_true rfl)
      · have ex : y = 2 := sw_eq hn (by decide)
        refine lv_tableIn (off := 226) (tgt := 266) hx hb dL_law_40 (by rw [ex]; decide) (by rw [ex]; decide) (by rw [ex]; rfl) (by decide) ?_
        exact law_c2 hfl C1 hr hlk hX hbl X0 hZ hW0 Fr0 hS hl2 (Nat.le_of_ble_eq_true rfl) (Nat.le_of_ble_eq_true rfl)
      · have ex : y = 3 := sw_eq hn (by decide)
        refine lv_tableIn (off := 251) (tgt := 291) hx hb dL_law_40 (by rw [ex]; decide) (by rw [ex]; decide) (by rw [ex]; rfl) (by decide) ?_
        exact law_c3 hfl C1 hr hlk hX hbl X0 hZ hW0 Fr0 hS hl2 (Nat.le_of_ble_eq_true rfl) (Nat.le_of_ble_eq_true rfl)
      · have ex : y = 4 := sw_eq hn (by decide)
        refine lv_tableIn (off := 288) (tgt := 328) hx hb dL_law_40 (by rw [ex]; decide) (by rw [ex]; decide) (by rw [ex]; rfl) (by decide) ?_
        exact law_c4 hfl C1 hr hlk hX hbl X0 hZ hW0 Fr0 hS hl2 (Nat.le_of_ble_eq_true rfl) (Nat.le_of_ble_eq_true rfl)
      · have ex : y = 5 := sw_eq hn (by decide)
        refine lv_tableIn (off := 325) (tgt := 365) hx hb dL_law_40 (by rw [ex]; decide) (by rw [ex]; decide) (by rw [ex]; rfl) (by decide) ?_
        exact law_c5 hfl C1 hr hlk hX hbl X0 hZ hW0 Fr0 hS hl2 (Nat.le_of_ble_eq_true rfl) (Nat.le_of_ble_eq_true rfl)
      · have ex : y = 6 := sw_eq hn (by decide)
        refine lv_tableIn (off := 362) (tgt := 402) hx hb dL_law_40 (by rw [ex]; decide) (by rw [ex]; decide) (by rw [ex]; rfl) (by decide) ?_
        exact law_c6 hfl C1 hr hlk hX hbl X0 hZ hW0 Fr0 hS hl2 (Nat.le_of_ble_eq_true rfl) (Nat.le_of_ble_eq_true rfl)
      · have ex : y = 7 := sw_eq hn (by decide)
        refine lv_tableIn (off := 399) (tgt := 439) hx hb dL_law_40 (by rw [ex]; decide) (by rw [ex]; decide) (by rw [ex]; rfl) (by decide) ?_
        exact law_c7 hfl C1 hr hlk hX hbl X0 hZ hW0 Fr0 hS hl2 (Nat.le_of_ble_eq_true rfl) (Nat.le_of_ble_eq_true rfl)
      · have ex : y = 8 := sw_eq hn (by decide)
        refine lv_tableIn (off := 424) (tgt := 464) hx hb dL_law_40 (by rw [ex]; decide) (by rw [ex]; decide) (by rw [ex]; rfl) (by decide) ?_
        exact law_c8 hfl C1 hr hlk hX hbl X0 hZ hW0 Fr0 hS hl2 (Nat.le_of_ble_eq_true rfl) (Nat.le_of_ble_eq_true rfl)
      · have ex : y = 9 := sw_eq hn (by decide)
        refine lv_tableIn (off := 437) (tgt := 477) hx hb dL_law_40 (by rw [ex]; decide) (by rw [ex]; decide) (by rw [ex]; rfl) (by decide) ?_
        exact law_c9 hfl C1 hr hlk hX hbl X0 hZ hW0 Fr0 hS hl2 (Nat.le_of_ble_eq_true rfl) (Nat.le_of_ble_eq_true rfl)
      · have ex : y = 10 := sw_eq hn (by decide)
        refine lv_tableIn (off := 474) (tgt := 514) hx hb dL_law_40 (by rw [ex]; decide) (by rw [ex]; decide) (by rw [ex]; rfl) (by decide) ?_
        exact law_c10 hfl C1 hr hlk hX hbl X0 hZ hW0 Fr0 hS hl2 (Nat.le_of_ble_eq_true rfl) (Nat.le_of_ble_eq_true rfl)
      · have ex : y = 11 := sw_eq hn (by decide)
        refine lv_tableIn (off := 499) (tgt := 539) hx hb dL_law_40 (by rw [ex]; decide) (by rw [ex]; decide) (by rw [ex]; rfl) (by decide) ?_
        exact law_c11 hfl C1 hr hlk hX hbl X0 hZ hW0 Fr0 hS hl2 (Nat.le_of_ble_eq_true rfl) (Nat.le_of_ble_eq_true rfl)
      · have ex : y = 12 := sw_eq hn (by decide)
        refine lv_tableIn (off := 524) (tgt := 564) hx hb dL_law_40 (by rw [ex]; decide) (by rw [ex]; decide) (by rw [ex]; rfl) (by decide) ?_
        exact law_c12 hfl C1 hr hlk hX hbl X0 hZ hW0 Fr0 hS hl2 (Nat.le_of_ble_eq_true rfl) (Nat.le_of_ble_eq_true rfl)
      · have ex : y = 13 := sw_eq hn (by decide)
        refine lv_tableIn (off := 573) (tgt := 613) hx hb dL_law_40 (by rw [ex]; decide) (by rw [ex]; decide) (by rw [ex]; rfl) (by decide) ?_
        exact law_c13 hfl C1 hr hlk hX hbl X0 hZ hW0 Fr0 hS hl2 (Nat.le_of_ble_eq_true rfl) (Nat.le_of_ble_eq_true rfl)
      · have ex : y = 14 := sw_eq hn (by decide)
        refine lv_tableIn (off := 610) (tgt := 650) hx hb dL_law_40 (by rw [ex]; decide) (by rw [ex]; decide) (by rw [ex]; rfl) (by decide) ?_
        exact law_c14 hfl C1 hr hlk hX hbl X0 hZ hW0 Fr0 hS hl2 (Nat.le_of_ble_eq_true rfl) (Nat.le_of_ble_eq_true rfl)
      · have ex : y = 15 := sw_eq hn (by decide)
        refine lv_tableIn (off := 647) (tgt := 687) hx hb dL_law_40 (by rw [ex]; decide) (by rw [ex]; decide) (by rw [ex]; rfl) (by decide) ?_
        exact law_c15 hfl C1 hr hlk hX hbl X0 hZ hW0 Fr0 hS hl2 (Nat.le_of_ble_eq_true rfl) (Nat.le_of_ble_eq_true rfl)
      · have ex : y = 16 := sw_eq hn (by decide)
        refine lv_tableIn (off := 672) (tgt := 712) hx hb dL_law_40 (by rw [ex]; decide) (by rw [ex]; decide) (by rw [ex]; rfl) (by decide) ?_
        exact law_c16 hfl C1 hr hlk hX hbl X0 hZ hW0 Fr0 hS hl2 (Nat.le_of_ble_eq_true rfl) (Nat.le_of_ble_eq_true rfl)
      · have ex : y = 17 := sw_eq hn (by decide)
        refine lv_tableIn (off := 697) (tgt := 737) hx hb dL_law_40 (by rw [ex]; decide) (by rw [ex]; decide) (by rw [ex]; rfl) (by decide) ?_
        exact law_c17 hfl C1 hr hlk hX hbl X0 hZ hW0 Fr0 hS hl2 (Nat.le_of_ble_eq_true rfl) (Nat.le_of_ble_eq_true rfl)
      · have ex : y = 18 := sw_eq hn (by decide)
        refine lv_tableIn (off := 722) (tgt := 762) hx hb dL_law_40 (by rw [ex]; decide) (by rw [ex]; decide) (by rw [ex]; rfl) (by decide) ?_
        exact law_c18 hfl C1 hr hlk hX hbl X0 hZ hW0 Fr0 hS hl2 (Nat.le_of_ble_eq_true rfl) (Nat.le_of_ble_eq_true rfl)
      · have ex : y = 19 := sw_eq hn (by decide)
        refine lv_tableIn (off := 759) (tgt := 799) hx hb dL_law_40 (by rw [ex]; decide) (by rw [ex]; decide) (by rw [ex]; rfl) (by decide) ?_
        exact law_c19 hfl C1 hr hlk hX hbl X0 hZ hW0 Fr0 hS hl2 (Nat.le_of_ble_eq_true rfl) (Nat.le_of_ble_eq_true rfl)
      · have ex : y = 20 := sw_eq hn (by decide)
        refine lv_tableIn (off := 772) (tgt := 812) hx hb dL_law_40 (by rw [ex]; decide) (by rw [ex]; decide) (by rw [ex]; rfl) (by decide) ?_
        exact law_c20 hfl C1 hr hlk hX hbl X0 hZ hW0 Fr0 hS hl2 (Nat.le_of_ble_eq_true rfl) (Nat.le_of_ble_eq_true rfl)
      · have ex : y = 21 := sw_eq hn (by decide)
        refine lv_tableIn (off := 797) (tgt := 837) hx hb dL_law_40 (by rw [ex]; decide) (by rw [ex]; decide) (by rw [ex]; rfl) (by decide) ?_
        exact law_c21 hfl C1 hr hlk hX hbl X0 hZ hW0 Fr0 hS hl2 (Nat.le_of_ble_eq_true rfl) (Nat.le_of_ble_eq_true rfl)
      · have ex : y = 22 := sw_eq hn (by decide)
        refine lv_tableIn (off := 822) (tgt := 862) hx hb dL_law_40 (by rw [ex]; decide) (by rw [ex]; decide) (by rw [ex]; rfl) (by decide) ?_
        exact law_c22 hfl C1 hr hlk hX hbl X0 hZ hW0 Fr0 hS hl2 (Nat.le_of_ble_eq_true rfl) (Nat.le_of_ble_eq_true rfl)
      · have ex : y = 23 := sw_eq hn (by decide)
        refine lv_tableIn (off := 847) (tgt := 887) hx hb dL_law_40 (by rw [ex]; decide) (by rw [ex]; decide) (by rw [ex]; rfl) (by decide) ?_
        exact law_c23 hfl C1 hr hlk hX hbl X0 hZ hW0 Fr0 hS hl2 (Nat.le_of_ble_eq_true rfl) (Nat.le_of_ble_eq_true rfl)
      · have ex : y = 24 := sw_eq hn (by decide)
        refine lv_tableIn (off := 896) (tgt := 936) hx hb dL_law_40 (by rw [ex]; decide) (by rw [ex]; decide) (by rw [ex]; rfl) (by decide) ?_
        exact law_c24 hfl C1 hr hlk hX hbl X0 hZ hW0 Fr0 hS hl2 (Nat.le_of_ble_eq_true rfl) (Nat.le_of_ble_eq_true rfl)
      · have ex : y = 25 := sw_eq hn (by decide)
        refine lv_tableIn (off := 933) (tgt := 973) hx hb dL_law_40 (by rw [ex]; decide) (by rw [ex]; decide) (by rw [ex]; rfl) (by decide) ?_
        exact law_c25 hfl C1 hr hlk hX hbl X0 hZ hW0 Fr0 hS hl2 (Nat.le_of_ble_eq_true rfl) (Nat.le_of_ble_eq_true rfl)
      · have ex : y = 26 := sw_eq hn (by decide)
        refine lv_tableIn (off := 1006) (tgt := 1046) hx hb dL_law_40 (by rw [ex]; decide) (by rw [ex]; decide) (by rw [ex]; rfl) (by decide) ?_
        exact law_c26 hfl C1 hr hlk hX hbl X0 hZ hW0 Fr0 hS hl2 (Nat.le_of_ble_eq_true rfl) (Nat.le_of_ble_eq_true rfl)
      · have ex : y = 27 := sw_eq hn (by decide)
        refine lv_tableIn (off := 1067) (tgt := 1107) hx hb dL_law_40 (by rw [ex]; decide) (by rw [ex]; decide) (by rw [ex]; rfl) (by decide) ?_
        exact law_c27 hfl C1 hr hlk hX hbl X0 hZ hW0 Fr0 hS hl2 (Nat.le_of_ble_eq_true rfl) (Nat.le_of_ble_eq_true rfl)
      · have ex : y = 28 := sw_eq hn (by decide)
        refine lv_tableIn (off := 1080) (tgt := 1120) hx hb dL_law_40 (by rw [ex]; decide) (by rw [ex]; decide) (by rw [ex]; rfl) (by decide) ?_
        exact law_c28 hfl C1 hr hlk hX hbl X0 hZ hW0 Fr0 hS hl2 (Nat.le_of_ble_eq_true rfl) (Nat.le_of_ble_eq_true rfl)
      · have ex : y = 29 := sw_eq hn (by decide)
        refine lv_tableIn (off := 1093) (tgt := 1133) hx hb dL_law_40 (by rw [ex]; decide) (by rw [ex]; decide) (by rw [ex]; rfl) (by decide) ?_
        exact law_c29 hfl C1 hr hlk hX hbl X0 hZ hW0 Fr0 hS hl2 (Nat.le_of_ble_eq_true rfl) (Nat.le_of_ble_eq_true rfl)
      · have ex : y = 30 := sw_eq hn (by decide)
        refine lv_tableIn (off := 1118) (tgt := 1158) hx hb dL_law_40 (by rw [ex]; decide) (by rw [ex]; decide) (by rw [ex]; rfl) (by decide) ?_
        exact law_c30 hfl C1 hr hlk hX hbl X0 hZ hW0 Fr0 hS hl2 (Nat.le_of_ble_eq_true rfl) (Nat.le_of_ble_eq_true rfl)
      · have ex : y = 31 := sw_eq hn (by decide)
        refine lv_tableIn (off := 1179) (tgt := 1219) hx hb dL_law_40 (by rw [ex]; decide) (by rw [ex]; decide) (by rw [ex]; rfl) (by decide) ?_
        exact law_c31 hfl C1 hr hlk hX hbl X0 hZ hW0 Fr0 hS hl2 (Nat.le_of_ble_eq_true rfl) (Nat.le_of_ble_eq_true rfl)
      · have ex : y = 32 := sw_eq hn (by decide)
        refine lv_tableIn (off := 1228) (tgt := 1268) hx hb dL_law_40 (by rw [ex]; decide) (by rw [ex]; decide) (by rw [ex]; rfl) (by decide) ?_
        exact law_c32 hfl C1 hr hlk hX hbl X0 hZ hW0 Fr0 hS hl2 (Nat.le_of_ble_eq_true rfl) (Nat.le_of_ble_eq_true rfl)
      · have ex : y = 33 := sw_eq hn (by decide)
        refine lv_tableIn (off := 1277) (tgt := 1317) hx hb dL_law_40 (by rw [ex]; decide) (by rw [ex]; decide) (by rw [ex]; rfl) (by decide) ?_
        exact law_c33 hfl C1 hr hlk hX hbl X0 hZ hW0 Fr0 hS hl2 (Nat.le_of_ble_eq_true rfl) (Nat.le_of_ble_eq_true rfl)
      · have ex : y = 34 := sw_eq hn (by decide)
        refine lv_tableIn (off := 1344) (tgt := 1384) hx hb dL_law_40 (by rw [ex]; decide) (by rw [ex]; decide) (by rw [ex]; rfl) (by decide) ?_
        exact law_c34 hfl C1 hr hlk hX hbl X0 hZ hW0 Fr0 hS hl2 (Nat.le_of_ble_eq_true rfl) (Nat.le_of_ble_eq_true rfl)
      · have ex : y = 35 := sw_eq hn (by decide)
        refine lv_tableIn (off := 1417) (tgt := 1457) hx hb dL_law_40 (by rw [ex]; decide) (by rw [ex]; decide) (by rw [ex]; rfl) (by decide) ?_
        exact law_c35 hfl C1 hr hlk hX hbl X0 hZ hW0 Fr0 hS hl2 (Nat.le_of_ble_eq_true rfl) (Nat.le_of_ble_eq_true rfl)
      · have ex : y = 36 := sw_eq hn (by decide)
        refine lv_tableIn (off := 1442) (tgt := 1482) hx hb dL_law_40 (by rw [ex]; decide) (by rw [ex]; decide) (by rw [ex]; rfl) (by decide) ?_
        exact law_c36 hfl C1 hr hlk hX hbl X0 hZ hW0 Fr0 hS hl2 (Nat.le_of_ble_eq_true rfl) (Nat.le_of_ble_eq_true rfl)
  all_goals
    refine lv_icmp_gt (tgt := 1513) hx hb dL_law_30 (by decide) (fun _ => ?_) (fun z => absurd (by decide) z)
    refine lv_iconst (v := 1) hx hb dL_law_1513 (by decide) ?_
    refine va_forget (fun q hq => hS.2.2 q hq) ?_
    refine W.widen (k := 600002) (n := 7302232) (Nat.le_of_ble_eq_true rfl) (Nat.le_of_ble_eq_true rfl) ?_
    exact lw_ret hx hb hr hlk dL_law_1514
set_option maxHeartbeats 4000000 in
theorem lw_walk (l : Launch) (hflags : l.flags = flags0) (b : Addr) (xs : List Int32) : MetFree l x (headSpec (Jvm.Cond.code x code maxLocals ret :: tables_1) room_1) (lw_P b xs) (fun _ _ _ _ _ => True) lw_Q := by
  refine MetFree.of_bodyS (code := code) (maxLocals := maxLocals) (ret := ret) (by decide) ?_ ?_
  · intro args s m h hn
    obtain ⟨meth, c, h1, h2, h3, h4, h5, h6, -, -⟩ := Cond.code_spec hn (atoms_spec (ws := Jvm.Cond.code x code maxLocals ret :: tables_1) h _ List.mem_cons_self)
    exact ⟨meth, c, h1, h2, h3, h4, h5, h6⟩
  · intro p e s m args below meth c s₁ B hml0 hP _
    obtain ⟨rfl, hx, hbd, hgv⟩ := hP
    obtain ⟨scr, harrAt, hlist, hof, hsmall⟩ := hx
    obtain ⟨hcb, hkn, -, -⟩ := State.arrayAt?_spec harrAt
    have hown : s.vm.findClass R_law = some m.cls := findClass_of_methodNamed B.named
    have hts0 : ∀ c ∈ (Jvm.Cond.code x code maxLocals ret :: tables_1), c.before #[Value.ref b] s = true := atoms_spec (ws := Jvm.Cond.code x code maxLocals ret :: tables_1) B.pre
    have hts : ∀ w ∈ lw_tbl, w.before #[Value.ref b] s = true := k2_hts_sels lw_privs (fun w hw => hts0 w (List.mem_cons_of_mem _ hw)) lw_privs_ok
    have hml : c.maxLocals = 8 := B.maxLocals_eq (hts0 _ List.mem_cons_self)
    have X₀ : Stand p l e room_1 s m #[Value.ref b] below meth c s₁ [] 0 0 := Stand.of_body B
    have hh0 : s₁.heap = s.heap := by rw [B.state]; rfl
    have hsz : scr.slots.size = xs.length := by rw [← Array.length_toList, hlist, List.length_map]
    have hval : ∀ j : Nat, j < xs.length → scr.slots[j]? = some (.int (xs.getD j 0)) := fun j hj => by
      rw [← Array.getElem?_toList, hlist]
      simp [hj]
    have hbl : b < s.heap.size := (Array.getElem?_eq_some_iff.mp hcb).1
    have hX : va_X b xs.length (fun j => xs.getD j 0) s s.heap := ⟨scr, hcb, hof, hkn, hsz, hval⟩
    have K : W p l e room_1 s m #[Value.ref b] below meth c s₁.heap [] 0 0 (lw_Z below #[Value.ref b] s) (entryFrame m ([Value.ref b] : List Value).toArray 8) := by
      rw [hh0]
      exact whole_start l hflags hbd ⟨B.exec, B.bytes, B.returns, hml, hown, hts, hX, hbl, B.notSynchronized, hgv⟩
    obtain ⟨t, a1, o, b1, b2, b3⟩ := K s₁ rfl X₀
    exact ⟨t, o, a1, b1, b2, b3⟩
theorem lw_pre_spec {args : Array Value} {s : State} (h : (Jvm.Cond.and given_1 narrow_1).before args s = true) (hr : rest_1_c.before args s = true) : ∃ (b : Addr) (xs : List Int32), lw_P b xs args s := by
  have hs := flat_of_before _ h
  have hq := flat_of_before _ hr
  have hc : (Cond.count 1).before args s = true := hs _ (by decide +kernel)
  have harr : (Cond.arrayOf (.arg 0) .int).before args s = true := hs _ (by decide +kernel)
  have hle : (Cond.le (.length (.arg 0)) (.int 6)).before args s = true := hs _ (by decide +kernel)
  have hlen : (Cond.isInt (.length (.arg 0))).before args s = true := hq _ (by decide +kernel)
  have hall : (Cond.all (.arg 0) (.isInt (.elem (.arg 0) (.index 0)))).before args s = true := hq _ (by decide +kernel)
  obtain ⟨b, xs, hb, hx⟩ := State.ints_of_pre rfl harr hlen hall
  have hsm : xs.length < 2 ^ 31 := hx.choose_spec.2.2.2
  have hev : (Term.length (.arg 0)).eval args s none [] s = some (.int xs.length.toInt32) := hx.length_eval hb
  have hv := Cond.le_ints hev (show (Term.int 6).eval args s none [] s = some (.int 6) from rfl)
  have hd : xs.length.toInt32 ≤ 6 := by
    simpa [Cond.before, Cond.holds, hv] using hle
  have hN : xs.length ≤ 6 := (Int32.ofNat_le_ofNat hsm (by decide)).mp (show Int32.ofNat xs.length ≤ Int32.ofNat 6 from hd)
  exact ⟨b, xs, Cond.one_arg hc (show args[0]? = some (.ref b) from hb), hx, hN, h⟩
theorem lw_comes (l : Launch) (hflags : l.flags = flags0) : Comes l x (Jvm.Cond.code x code maxLocals ret :: tables_1) room_1 (fun tb e args s => Calls_1 tb e args s ∧ rest_1 tb e args s ∧ Pre_1 tb e args s)
    (fun _ _ args s o t => lw_Q args s o t) := by
  intro p e ha hc hk s m args below hf hfit hheap happ hpre
  obtain ⟨b, xs, hP⟩ := lw_pre_spec hpre.2.2 hpre.2.1
  obtain ⟨k, o, h1, h2, h3, hQ⟩ := lw_walk l hflags b xs p e ha hc hk s m args below hf ((Spec.applies_iff_loose hf).mp happ).1 hP trivial
  exact ⟨k, o, h1, h2, h3, hQ⟩
theorem lw_frame {s t : State} {o : Outcome} {args : Array Value} (h : Framed s o t [] 600002 7302232) :
    Framed s o t (fieldLocs frame_1_writes args s ++ arrayLocs frame_1_arrays args s ++ staticLocs frame_1_statics s) 600002 7302232 := h
theorem lw_limb (L : Cond) (hL : ∀ (args : Array Value) (s t : State), L.after args s (.returned (some (.int 1))) t = true) :
    ArmFor flags0 classFile x code maxLocals ret World_1 tables_1 room_1 Calls_1 rest_1 Pre_1
      (fun tb e a s o t => postC L tb e a s o t ∧ Framed s o t (fieldLocs frame_1_writes a s ++ arrayLocs frame_1_arrays a s ++ staticLocs frame_1_statics s) 600002 7302232) := by
  intro l hflags _ _ p e ha hc hk s m args below hf hfit hheap happ hpre
  obtain ⟨k, o, h1, h2, h3, rfl, hF⟩ := lw_comes l hflags p e ha hc hk s m args below hf hfit hheap happ hpre
  exact ⟨k, _, h1, h2, h3, hL args s _, lw_frame hF⟩
theorem i_vc : Claimed_1_1 ∧ Claimed_1_2 := ⟨lw_limb limb_1_1 (fun args s t => by simp [limb_1_1, Cond.after, Cond.holds, Cond.value]), lw_limb limb_1_2 (fun args s t => Cond.after_iff.mpr (by
  first | (rw [show limb_1_2 = Cond.eq .result (.int 1) from rfl, Cond.eq_ints (x := 1) (y := 1) rfl rfl]; simp; done) | (simp [limb_1_2, Cond.value, Term.eval]; done)))⟩

