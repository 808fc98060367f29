theorem dX8_village_0 : decode cX8_village 0 = .ok (.iload_n 1, 1) := by decide +kernel
theorem dX8_village_1 : decode cX8_village 1 = .ok (.invokestatic 134, 3) := by decide +kernel
theorem dX8_village_4 : decode cX8_village 4 = .ok (.ifCond .eq 29, 3) := by decide +kernel
theorem dX8_village_7 : decode cX8_village 7 = .ok (.iload_n 2, 1) := by decide +kernel
theorem dX8_village_8 : decode cX8_village 8 = .ok (.i2l, 1) := by decide +kernel
theorem dX8_village_9 : decode cX8_village 9 = .ok (.lconst 0, 1) := by decide +kernel
theorem dX8_village_10 : decode cX8_village 10 = .ok (.lconst 1, 1) := by decide +kernel
theorem dX8_village_11 : decode cX8_village 11 = .ok (.invokestatic 53, 3) := by decide +kernel
theorem dX8_village_14 : decode cX8_village 14 = .ok (.ifCond .eq 19, 3) := by decide +kernel
theorem dX8_village_17 : decode cX8_village 17 = .ok (.aload_n 0, 1) := by decide +kernel
theorem dX8_village_18 : decode cX8_village 18 = .ok (.getfield 9, 3) := by decide +kernel
theorem dX8_village_21 : decode cX8_village 21 = .ok (.bipush 38, 2) := by decide +kernel
theorem dX8_village_23 : decode cX8_village 23 = .ok (.iconst 2, 1) := by decide +kernel
theorem dX8_village_24 : decode cX8_village 24 = .ok (.iload_n 1, 1) := by decide +kernel
theorem dX8_village_25 : decode cX8_village 25 = .ok (.imul, 1) := by decide +kernel
theorem dX8_village_26 : decode cX8_village 26 = .ok (.iadd, 1) := by decide +kernel
theorem dX8_village_27 : decode cX8_village 27 = .ok (.iload_n 2, 1) := by decide +kernel
theorem dX8_village_28 : decode cX8_village 28 = .ok (.iadd, 1) := by decide +kernel
theorem dX8_village_29 : decode cX8_village 29 = .ok (.iaload, 1) := by decide +kernel
theorem dX8_village_30 : decode cX8_village 30 = .ok (.goto 4, 3) := by decide +kernel
theorem dX8_village_33 : decode cX8_village 33 = .ok (.iconst (-1), 1) := by decide +kernel
theorem dX8_village_34 : decode cX8_village 34 = .ok (.ireturn, 1) := by decide +kernel
set_option maxHeartbeats 4000000 in
set_option maxRecDepth 100000 in
theorem c_X8_village_f (l : Launch) (D : va_G) (cA : Nat → ClassId) (ad : Nat → Nat) (o : Int64) (σ : Mem) (v : Int32) (w : Int32) (hF : FrM σ) (sz : Nat) : Met l yX8_village (WY yX8_village cX8_village 3 (some .int)) (RM 2) (va_Pc [.ref (ad 91), .int v, .int w] (PW D cA ad o σ sz)) (va_Qi (fun r _ => r = (if (v < 0 ∨ 3 ≤ v) ∨ (w < 0 ∨ 1 < w) then -1 else 0)) (QW D cA ad o) (FA ad sz)) 0 0 (FA ad sz) := by
  refine ct_of (own := RX8) (k := 2) (Qf := va_Qi (fun r _ => r = (if (v < 0 ∨ 3 ≤ v) ∨ (w < 0 ∨ 1 < w) then -1 else 0)) (QW D cA ad o)) rfl (by decide) (Nat.le_of_ble_eq_true rfl) (fun p e s m below meth c ls C0 X hr hlk hP hl => ?_) sz
  have hS : va_S (FA ad s.heap.size) s.heap s.heap [] := va_S.rf
  have hl : lv_has ls 3 [(0, .ref (ad 91)), (1, .int v), (2, .int w)] := hl
  obtain ⟨hx, hb, hml, hown, hts⟩ := id C0
  refine lv_iload_n hx hb dX8_village_0 rfl (lv_at hl 1 rfl) ?_
  refine r_ci X hS (r_runS (As := [.int v]) (rest := []) C0 X hP L_X8_134 (fun sz => c_X8_isVillage l D cA ad o σ v  sz) ⟨Nat.le_of_ble_eq_true rfl, Nat.le_of_ble_eq_true rfl⟩ rfl hl.1 rfl (Nat.le_of_ble_eq_true rfl) dX8_village_1 ⟨Nat.zero_le _, Nat.zero_le _⟩) (fun r σ9 H locs hw hP hS => ?_)
  rw [hw.2] at hP
  obtain ⟨⟨b_1, rfl⟩ | ⟨b_1, rfl⟩, -⟩ := hw
  · refine lv_if_eq (tgt := 33) hx hb dX8_village_4 (by decide) (fun c_2 => absurd c_2 (by decide)) (fun c_2 => ?_)
    refine lv_iload_n hx hb dX8_village_7 rfl (lv_at hl 2 rfl) ?_
    refine lv_i2l (v := (w.toInt64)) hx hb dX8_village_8 rfl ?_
    refine lv_lconst (v := ((0 : Int32).toInt64)) hx hb dX8_village_9 (by decide) ?_
    refine lv_lconst (v := ((1 : Int32).toInt64)) hx hb dX8_village_10 (by decide) ?_
    refine r_ci X hS (r_runS (As := [.long (w.toInt64), .long ((0 : Int32).toInt64), .long ((1 : Int32).toInt64)]) (rest := []) C0 X hP L_X8_53 (fun sz => c_X8_isIn l D cA ad o σ w 0 1 sz) ⟨Nat.le_of_ble_eq_true rfl, Nat.le_of_ble_eq_true rfl⟩ rfl hl.1 rfl (Nat.le_of_ble_eq_true rfl) dX8_village_11 ⟨Nat.zero_le _, Nat.zero_le _⟩) (fun r σ9 H locs hw hP hS => ?_)
    rw [hw.2] at hP
    obtain ⟨⟨b_3, rfl⟩ | ⟨b_3, rfl⟩, -⟩ := hw
    · have p_4 : ¬ w < 0 := Int32.not_lt.mpr b_3.1
      have p_5 : ¬ 1 < w := Int32.not_lt.mpr b_3.2
      have p_6 : ¬ 2 ≤ w := nsucc (by decide) p_5
      refine lv_if_eq (tgt := 33) hx hb dX8_village_14 (by decide) (fun c_7 => absurd c_7 (by decide)) (fun c_7 => ?_)
      obtain ⟨v1, hv1, ev1⟩ : ∃ j : Nat, j < 3 ∧ v = nI j := ixN (M := 3) (by decide) (fun q => b_1 (Or.inl q)) (Int32.not_le.mp (fun q => b_1 (Or.inr q)))
      obtain ⟨w1, hw1, ew1⟩ : ∃ j : Nat, j < 2 ∧ w = nI j := ixN (M := 2) (by decide) p_4 (Int32.not_le.mp p_6)
      refine lv_aload_n hx hb dX8_village_17 rfl (lv_at hl 0 rfl) ?_
      refine gf_X8_9 C0 X hP 91 (q := 92) ⟨by decide, rfl⟩ (by omega) rfl dX8_village_18 ?_
      refine lv_bipush (v := 38) hx hb dX8_village_21 (by decide) ?_
      refine lv_iconst (v := 2) hx hb dX8_village_23 (by decide) ?_
      refine lv_iload_n hx hb dX8_village_24 rfl (lv_at hl 1 rfl) ?_
      refine lv_imul hx hb dX8_village_25 ?_
      refine lv_iadd hx hb dX8_village_26 ?_
      refine lv_iload_n hx hb dX8_village_27 rfl (lv_at hl 2 rfl) ?_
      refine lv_iadd hx hb dX8_village_28 ?_
      refine r_ialdN C0 X hP 92 (k := (38 + (2 * v1 + w1))) ⟨by decide, rfl⟩ (by rw [ev1, ew1, show (38 : Int32) = nI 38 from rfl, show (2 : Int32) = nI 2 from rfl, pk_mul, nI_add, nI_add, Nat.add_assoc]) (by omega) dX8_village_29 ?_
      refine lv_topE (y := 0) (FrM_vil hF (by omega)) ?_
      refine lv_goto (tgt := 34) hx hb dX8_village_30 (by decide) ?_
      exact r_iret C0 X hP hS hr hlk dX8_village_34 (by simp only [b_1, p_4, p_5, p_6, Int32.not_lt.mp p_4, Int32.not_lt.mp p_5, Int32.not_le.mp p_6, if_true, if_false, ite_true, ite_false, true_and, and_true, false_and, and_false, true_or, or_true, false_or, or_false, not_true_eq_false, not_false_eq_true, ne_eq, and_self, or_self]; try rfl)
    · have p_8 : w < 0 ∨ 2 ≤ w := osucc (by decide) b_3
      refine lv_if_eq (tgt := 33) hx hb dX8_village_14 (by decide) (fun c_9 => ?_) (fun c_9 => absurd c_9 (by decide))
      refine lv_iconst (v := (-1)) hx hb dX8_village_33 (by decide) ?_
      exact r_iret C0 X hP hS hr hlk dX8_village_34 (by simp only [b_1, b_3, p_8, if_true, if_false, ite_true, ite_false, true_and, and_true, false_and, and_false, true_or, or_true, false_or, or_false, not_true_eq_false, not_false_eq_true, ne_eq, and_self, or_self]; try rfl)
  · refine lv_if_eq (tgt := 33) hx hb dX8_village_4 (by decide) (fun c_10 => ?_) (fun c_10 => absurd c_10 (by decide))
    refine lv_iconst (v := (-1)) hx hb dX8_village_33 (by decide) ?_
    exact r_iret C0 X hP hS hr hlk dX8_village_34 (by simp only [b_1, if_true, if_false, ite_true, ite_false, true_and, and_true, false_and, and_false, true_or, or_true, false_or, or_false, not_true_eq_false, not_false_eq_true, ne_eq, and_self, or_self]; try rfl)
theorem dX8_image_0 : decode cX8_image 0 = .ok (.iconst 0, 1) := by decide +kernel
theorem dX8_image_1 : decode cX8_image 1 = .ok (.istore_n 1, 1) := by decide +kernel
theorem dX8_image_2 : decode cX8_image 2 = .ok (.iload_n 1, 1) := by decide +kernel
theorem dX8_image_3 : decode cX8_image 3 = .ok (.bipush 121, 2) := by decide +kernel
theorem dX8_image_5 : decode cX8_image 5 = .ok (.if_icmp .ge 21, 3) := by decide +kernel
theorem dX8_image_8 : decode cX8_image 8 = .ok (.aload_n 0, 1) := by decide +kernel
theorem dX8_image_9 : decode cX8_image 9 = .ok (.getfield 13, 3) := by decide +kernel
theorem dX8_image_12 : decode cX8_image 12 = .ok (.iload_n 1, 1) := by decide +kernel
theorem dX8_image_13 : decode cX8_image 13 = .ok (.aload_n 0, 1) := by decide +kernel
theorem dX8_image_14 : decode cX8_image 14 = .ok (.getfield 9, 3) := by decide +kernel
theorem dX8_image_17 : decode cX8_image 17 = .ok (.iload_n 1, 1) := by decide +kernel
theorem dX8_image_18 : decode cX8_image 18 = .ok (.iaload, 1) := by decide +kernel
theorem dX8_image_19 : decode cX8_image 19 = .ok (.iastore, 1) := by decide +kernel
theorem dX8_image_20 : decode cX8_image 20 = .ok (.iinc 1 1, 3) := by decide +kernel
theorem dX8_image_23 : decode cX8_image 23 = .ok (.goto (-21), 3) := by decide +kernel
theorem dX8_image_26 : decode cX8_image 26 = .ok (.aload_n 0, 1) := by decide +kernel
theorem dX8_image_27 : decode cX8_image 27 = .ok (.iconst 1, 1) := by decide +kernel
theorem dX8_image_28 : decode cX8_image 28 = .ok (.putfield 288, 3) := by decide +kernel
theorem dX8_image_31 : decode cX8_image 31 = .ok (.aload_n 0, 1) := by decide +kernel
theorem dX8_image_32 : decode cX8_image 32 = .ok (.getfield 9, 3) := by decide +kernel
theorem dX8_image_35 : decode cX8_image 35 = .ok (.iconst 2, 1) := by decide +kernel
theorem dX8_image_36 : decode cX8_image 36 = .ok (.iaload, 1) := by decide +kernel
theorem dX8_image_37 : decode cX8_image 37 = .ok (.ireturn, 1) := by decide +kernel
set_option maxHeartbeats 4000000 in
set_option maxRecDepth 100000 in
theorem c_X8_image_f (l : Launch) (D : va_G) (cA : Nat → ClassId) (ad : Nat → Nat) (o : Int64) (σ : Mem)  (hF : FrM σ) (sz : Nat) : Met l yX8_image (WY yX8_image cX8_image 2 (some .int)) (RM 0) (va_Pc [.ref (ad 91)] (PW D cA ad o σ sz)) (va_Qi (fun r _ => r = 0) (QW D cA ad o) (FA ad sz)) 0 0 (FA ad sz) := by
  refine ct_of (own := RX8) (k := 0) (Qf := va_Qi (fun r _ => r = 0) (QW D cA ad o)) rfl (by decide) (Nat.le_of_ble_eq_true rfl) (fun p e s m below meth c ls C0 X hr hlk hP hl => ?_) sz
  have hS : va_S (FA ad s.heap.size) s.heap s.heap [] := va_S.rf
  have hl : lv_has ls 2 [(0, .ref (ad 91))] := hl
  obtain ⟨hx, hb, hml, hown, hts⟩ := id C0
  refine lv_iconst (v := 0) hx hb dX8_image_0 (by decide) ?_
  refine lv_istore_n (lv' := [(1, .int 0), (0, .ref (ad 91))]) hx hb dX8_image_1 rfl hl (by decide) rfl (fun ls hl => ?_)
  have lp_1 : ∀ (nn : Nat) (k : Nat) (H : Heap) (locs : List Loc) (ls : Array Slot), k ≤ 121 → WP D cA ad o (rcpy σ 93 92 k) H → va_S (FA ad s.heap.size) s.heap H locs → lv_has ls 2 [(0, .ref (ad 91)), (1, .int (nI k))] → (121 - k) < nn → W p l e (RM 0) s m ([.ref (ad 91)] : List Value).toArray below meth c H locs 0 0 (MQ below (va_Qi (fun r _ => r = 0) (QW D cA ad o) (FA ad s.heap.size)) ([.ref (ad 91)] : List Value).toArray s 0 0 (FA ad s.heap.size)) (F0 m 2 ls []) := by
    intro nn
    induction nn with
    | zero => intro k H locs ls hk hP hS hl hn; exact absurd hn (Nat.not_lt_zero _)
    | succ nn ih =>
      intro k H locs ls hk hP hS hl hn
      refine lv_iload_n hx hb dX8_image_2 rfl (lv_at hl 1 rfl) ?_
      refine lv_bipush (v := 121) hx hb dX8_image_3 (by decide) ?_
      refine lv_icmp_ge (tgt := 26) hx hb dX8_image_5 (by decide) (fun c_2 => ?_) (fun c_2 => ?_)
      · obtain rfl : k = 121 := nI_geof (b := 121) c_2 hk (by omega)
        refine lv_aload_n hx hb dX8_image_26 rfl (lv_at hl 0 rfl) ?_
        refine lv_iconst (v := 1) hx hb dX8_image_27 (by decide) ?_
        refine pf_X8_288 C0 X hP hS 91 (Or.inr rfl) ⟨by decide, rfl⟩ dX8_image_28 (fun H locs hP hS => ?_)
        refine lv_aload_n hx hb dX8_image_31 rfl (lv_at hl 0 rfl) ?_
        refine gf_X8_9 C0 X hP 91 (q := 92) ⟨by decide, rfl⟩ (by omega) rfl dX8_image_32 ?_
        refine lv_iconst (v := 2) hx hb dX8_image_35 (by decide) ?_
        refine r_ialdN C0 X hP 92 (k := 2) ⟨by decide, rfl⟩ rfl (by decide) dX8_image_36 ?_
        refine lv_topE (y := 0) (by rw [stm_ne _ _ _ (by decide), rcpy_ne _ _ _ (by decide)]; exact FrM_s hF (by decide)) ?_
        exact r_iret C0 X hP hS hr hlk dX8_image_37 rfl
      · have hk7 : k < 121 := nI_ltof (b := 121) c_2 (by omega)
        refine lv_aload_n hx hb dX8_image_8 rfl (lv_at hl 0 rfl) ?_
        refine gf_X8_13 C0 X hP 91 (q := 93) ⟨by decide, rfl⟩ (by omega) rfl dX8_image_9 ?_
        refine lv_iload_n hx hb dX8_image_12 rfl (lv_at hl 1 rfl) ?_
        refine lv_aload_n hx hb dX8_image_13 rfl (lv_at hl 0 rfl) ?_
        refine gf_X8_9 C0 X hP 91 (q := 92) ⟨by decide, rfl⟩ (by omega) rfl dX8_image_14 ?_
        refine lv_iload_n hx hb dX8_image_17 rfl (lv_at hl 1 rfl) ?_
        refine r_ialdN C0 X hP 92 (k := k) ⟨by decide, rfl⟩ rfl (by omega) dX8_image_18 ?_
        refine lv_topE (y := (σ 92 k)) (by rw [rcpy_ne _ _ _ (by decide)]) ?_
        refine r_iastN C0 X hP hS 93 (k := k) ⟨by decide, rfl⟩ rfl (by omega) dX8_image_19 (fun H locs hP hS => ?_)
        refine lv_iinc (v := (nI (k + 1))) (lv' := [(1, .int (nI (k + 1))), (0, .ref (ad 91))]) hx hb dX8_image_20 hl (k := 1) rfl (nI_1 _) (by decide) rfl (fun ls hl => ?_)
        refine lv_goto (tgt := 2) hx hb dX8_image_23 (by decide) ?_
        exact ih (k + 1) _ _ ls (by omega) (mem_cast (rcpy_s _ (by decide)) hP) hS (lv_sub hl [1, 0] rfl) (by omega)
  exact lp_1 ((121 - 0) + 1) 0 _ _ ls (by decide) (mem_cast (rcpy_0 _ _ _) hP) hS (lv_sub hl [1, 0] rfl) (by omega)
theorem dX8_row_0 : decode cX8_row 0 = .ok (.iload_n 1, 1) := by decide +kernel
theorem dX8_row_1 : decode cX8_row 1 = .ok (.invokestatic 105, 3) := by decide +kernel
theorem dX8_row_4 : decode cX8_row 4 = .ok (.ifCond .eq 21, 3) := by decide +kernel
theorem dX8_row_7 : decode cX8_row 7 = .ok (.iload_n 2, 1) := by decide +kernel
theorem dX8_row_8 : decode cX8_row 8 = .ok (.i2l, 1) := by decide +kernel
theorem dX8_row_9 : decode cX8_row 9 = .ok (.lconst 0, 1) := by decide +kernel
theorem dX8_row_10 : decode cX8_row 10 = .ok (.ldc2_w 59, 3) := by decide +kernel
theorem dX8_row_13 : decode cX8_row 13 = .ok (.invokestatic 53, 3) := by decide +kernel
theorem dX8_row_16 : decode cX8_row 16 = .ok (.ifCond .eq 9, 3) := by decide +kernel
theorem dX8_row_19 : decode cX8_row 19 = .ok (.iload_n 3, 1) := by decide +kernel
theorem dX8_row_20 : decode cX8_row 20 = .ok (.bipush 100, 2) := by decide +kernel
theorem dX8_row_22 : decode cX8_row 22 = .ok (.if_icmp .le 5, 3) := by decide +kernel
theorem dX8_row_25 : decode cX8_row 25 = .ok (.iconst (-1), 1) := by decide +kernel
theorem dX8_row_26 : decode cX8_row 26 = .ok (.ireturn, 1) := by decide +kernel
theorem dX8_row_27 : decode cX8_row 27 = .ok (.iload_n 3, 1) := by decide +kernel
theorem dX8_row_28 : decode cX8_row 28 = .ok (.ifCond .ge 6, 3) := by decide +kernel
theorem dX8_row_31 : decode cX8_row 31 = .ok (.bipush (-14), 2) := by decide +kernel
theorem dX8_row_33 : decode cX8_row 33 = .ok (.ireturn, 1) := by decide +kernel
theorem dX8_row_34 : decode cX8_row 34 = .ok (.aload_n 0, 1) := by decide +kernel
theorem dX8_row_35 : decode cX8_row 35 = .ok (.getfield 22, 3) := by decide +kernel
theorem dX8_row_38 : decode cX8_row 38 = .ok (.iload_n 1, 1) := by decide +kernel
theorem dX8_row_39 : decode cX8_row 39 = .ok (.iconst 2, 1) := by decide +kernel
theorem dX8_row_40 : decode cX8_row 40 = .ok (.iastore, 1) := by decide +kernel
theorem dX8_row_41 : decode cX8_row 41 = .ok (.aload_n 0, 1) := by decide +kernel
theorem dX8_row_42 : decode cX8_row 42 = .ok (.getfield 25, 3) := by decide +kernel
theorem dX8_row_45 : decode cX8_row 45 = .ok (.iload_n 1, 1) := by decide +kernel
theorem dX8_row_46 : decode cX8_row 46 = .ok (.iload_n 2, 1) := by decide +kernel
theorem dX8_row_47 : decode cX8_row 47 = .ok (.iastore, 1) := by decide +kernel
theorem dX8_row_48 : decode cX8_row 48 = .ok (.aload_n 0, 1) := by decide +kernel
theorem dX8_row_49 : decode cX8_row 49 = .ok (.getfield 28, 3) := by decide +kernel
theorem dX8_row_52 : decode cX8_row 52 = .ok (.iload_n 1, 1) := by decide +kernel
theorem dX8_row_53 : decode cX8_row 53 = .ok (.iload_n 3, 1) := by decide +kernel
theorem dX8_row_54 : decode cX8_row 54 = .ok (.iastore, 1) := by decide +kernel
theorem dX8_row_55 : decode cX8_row 55 = .ok (.iconst 0, 1) := by decide +kernel
theorem dX8_row_56 : decode cX8_row 56 = .ok (.istore 4, 2) := by decide +kernel
theorem dX8_row_58 : decode cX8_row 58 = .ok (.iload 4, 2) := by decide +kernel
theorem dX8_row_60 : decode cX8_row 60 = .ok (.bipush 100, 2) := by decide +kernel
theorem dX8_row_62 : decode cX8_row 62 = .ok (.if_icmp .ge 22, 3) := by decide +kernel
theorem dX8_row_65 : decode cX8_row 65 = .ok (.aload_n 0, 1) := by decide +kernel
theorem dX8_row_66 : decode cX8_row 66 = .ok (.getfield 31, 3) := by decide +kernel
theorem dX8_row_69 : decode cX8_row 69 = .ok (.bipush 100, 2) := by decide +kernel
theorem dX8_row_71 : decode cX8_row 71 = .ok (.iload_n 1, 1) := by decide +kernel
theorem dX8_row_72 : decode cX8_row 72 = .ok (.imul, 1) := by decide +kernel
theorem dX8_row_73 : decode cX8_row 73 = .ok (.iload 4, 2) := by decide +kernel
theorem dX8_row_75 : decode cX8_row 75 = .ok (.iadd, 1) := by decide +kernel
theorem dX8_row_76 : decode cX8_row 76 = .ok (.iconst 0, 1) := by decide +kernel
theorem dX8_row_77 : decode cX8_row 77 = .ok (.iastore, 1) := by decide +kernel
theorem dX8_row_78 : decode cX8_row 78 = .ok (.iinc 4 1, 3) := by decide +kernel
theorem dX8_row_81 : decode cX8_row 81 = .ok (.goto (-23), 3) := by decide +kernel
theorem dX8_row_84 : decode cX8_row 84 = .ok (.iconst 0, 1) := by decide +kernel
theorem dX8_row_85 : decode cX8_row 85 = .ok (.ireturn, 1) := by decide +kernel
set_option maxHeartbeats 4000000 in
set_option maxRecDepth 100000 in
theorem c_X8_row_f (l : Launch) (D : va_G) (cA : Nat → ClassId) (ad : Nat → Nat) (o : Int64) (σ : Mem) (d : Int32) (w : Int32) (n : Int32) (hF : FrM σ) (sz : Nat) : Met l yX8_row (WY yX8_row cX8_row 5 (some .int)) (RM 2) (va_Pc [.ref (ad 91), .int d, .int w, .int n] (PW D cA ad o σ sz)) (va_Qi (fun r _ => r = (if (d < 0 ∨ 8 ≤ d) ∨ (w < 0 ∨ 2 < w) ∨ 100 < n then -1 else if n < 0 then -14 else 0)) (QW D cA ad o) (FA ad sz)) 0 0 (FA ad sz) := by
  refine ct_of (own := RX8) (k := 2) (Qf := va_Qi (fun r _ => r = (if (d < 0 ∨ 8 ≤ d) ∨ (w < 0 ∨ 2 < w) ∨ 100 < n then -1 else if n < 0 then -14 else 0)) (QW D cA ad o)) rfl (by decide) (Nat.le_of_ble_eq_true rfl) (fun p e s m below meth c ls C0 X hr hlk hP hl => ?_) sz
  have hS : va_S (FA ad s.heap.size) s.heap s.heap [] := va_S.rf
  have hl : lv_has ls 5 [(0, .ref (ad 91)), (1, .int d), (2, .int w), (3, .int n)] := hl
  obtain ⟨hx, hb, hml, hown, hts⟩ := id C0
  refine lv_iload_n hx hb dX8_row_0 rfl (lv_at hl 1 rfl) ?_
  refine r_ci X hS (r_runS (As := [.int d]) (rest := []) C0 X hP L_X8_105 (fun sz => c_X8_isShelf l D cA ad o σ d  sz) ⟨Nat.le_of_ble_eq_true rfl, Nat.le_of_ble_eq_true rfl⟩ rfl hl.1 rfl (Nat.le_of_ble_eq_true rfl) dX8_row_1 ⟨Nat.zero_le _, Nat.zero_le _⟩) (fun r σ9 H locs hw hP hS => ?_)
  rw [hw.2] at hP
  obtain ⟨⟨b_1, rfl⟩ | ⟨b_1, rfl⟩, -⟩ := hw
  · refine lv_if_eq (tgt := 25) hx hb dX8_row_4 (by decide) (fun c_2 => absurd c_2 (by decide)) (fun c_2 => ?_)
    refine lv_iload_n hx hb dX8_row_7 rfl (lv_at hl 2 rfl) ?_
    refine lv_i2l (v := (w.toInt64)) hx hb dX8_row_8 rfl ?_
    refine lv_lconst (v := ((0 : Int32).toInt64)) hx hb dX8_row_9 (by decide) ?_
    refine lv_ldc2 (own := RX8) (index := 59) (v := 2) hx hb hown (hts _ (tm 1140 (by decide +kernel) (by decide +kernel))) dX8_row_10 ?_
    refine lv_topEl (y := ((2 : Int32).toInt64)) (by decide) ?_
    refine r_ci X hS (r_runS (As := [.long (w.toInt64), .long ((0 : Int32).toInt64), .long ((2 : Int32).toInt64)]) (rest := []) C0 X hP L_X8_53 (fun sz => c_X8_isIn l D cA ad o σ w 0 2 sz) ⟨Nat.le_of_ble_eq_true rfl, Nat.le_of_ble_eq_true rfl⟩ rfl hl.1 rfl (Nat.le_of_ble_eq_true rfl) dX8_row_13 ⟨Nat.zero_le _, Nat.zero_le _⟩) (fun r σ9 H locs hw hP hS => ?_)
    rw [hw.2] at hP
    obtain ⟨⟨b_3, rfl⟩ | ⟨b_3, rfl⟩, -⟩ := hw
    · have p_4 : ¬ w < 0 := Int32.not_lt.mpr b_3.1
      have p_5 : ¬ 2 < w := Int32.not_lt.mpr b_3.2
      have p_6 : ¬ 3 ≤ w := nsucc (by decide) p_5
      refine lv_if_eq (tgt := 25) hx hb dX8_row_16 (by decide) (fun c_7 => absurd c_7 (by decide)) (fun c_7 => ?_)
      refine lv_iload_n hx hb dX8_row_19 rfl (lv_at hl 3 rfl) ?_
      refine lv_bipush (v := 100) hx hb dX8_row_20 (by decide) ?_
      refine lv_icmp_le (tgt := 27) hx hb dX8_row_22 (by decide) (fun c_8 => ?_) (fun c_8 => ?_)
      · refine lv_iload_n hx hb dX8_row_27 rfl (lv_at hl 3 rfl) ?_
        refine lv_if_ge (tgt := 34) hx hb dX8_row_28 (by decide) (fun c_9 => ?_) (fun c_9 => ?_)
        · obtain ⟨j1, hj1, ej1⟩ := shin b_1
          refine lv_aload_n hx hb dX8_row_34 rfl (lv_at hl 0 rfl) ?_
          refine gf_X8_22 C0 X hP 91 (q := 96) ⟨by decide, rfl⟩ (by omega) rfl dX8_row_35 ?_
          refine lv_iload_n hx hb dX8_row_38 rfl (lv_at hl 1 rfl) ?_
          refine lv_iconst (v := 2) hx hb dX8_row_39 (by decide) ?_
          refine r_iastN C0 X hP hS 96 (k := j1) ⟨by decide, rfl⟩ ej1 hj1 dX8_row_40 (fun H locs hP hS => ?_)
          refine lv_aload_n hx hb dX8_row_41 rfl (lv_at hl 0 rfl) ?_
          refine gf_X8_25 C0 X hP 91 (q := 97) ⟨by decide, rfl⟩ (by omega) rfl dX8_row_42 ?_
          refine lv_iload_n hx hb dX8_row_45 rfl (lv_at hl 1 rfl) ?_
          refine lv_iload_n hx hb dX8_row_46 rfl (lv_at hl 2 rfl) ?_
          refine r_iastN C0 X hP hS 97 (k := j1) ⟨by decide, rfl⟩ ej1 hj1 dX8_row_47 (fun H locs hP hS => ?_)
          refine lv_aload_n hx hb dX8_row_48 rfl (lv_at hl 0 rfl) ?_
          refine gf_X8_28 C0 X hP 91 (q := 98) ⟨by decide, rfl⟩ (by omega) rfl dX8_row_49 ?_
          refine lv_iload_n hx hb dX8_row_52 rfl (lv_at hl 1 rfl) ?_
          refine lv_iload_n hx hb dX8_row_53 rfl (lv_at hl 3 rfl) ?_
          refine r_iastN C0 X hP hS 98 (k := j1) ⟨by decide, rfl⟩ ej1 hj1 dX8_row_54 (fun H locs hP hS => ?_)
          refine lv_iconst (v := 0) hx hb dX8_row_55 (by decide) ?_
          refine lv_istore (lv' := [(4, .int 0), (0, .ref (ad 91)), (1, .int d), (2, .int w), (3, .int n)]) hx hb dX8_row_56 hl (by decide) rfl (fun ls hl => ?_)
          have lp_10 : ∀ (nn : Nat) (k : Nat) (H : Heap) (locs : List Loc) (ls : Array Slot), k ≤ 100 → WP D cA ad o (rzf (stm (stm (stm σ 96 j1 2) 97 j1 w) 98 j1 n) 99 (100 * j1) k) H → va_S (FA ad s.heap.size) s.heap H locs → lv_has ls 5 [(0, .ref (ad 91)), (1, .int d), (4, .int (nI k))] → (100 - k) < nn → W p l e (RM 2) s m ([.ref (ad 91), .int d, .int w, .int n] : List Value).toArray below meth c H locs 0 0 (MQ below (va_Qi (fun r _ => r = (if (d < 0 ∨ 8 ≤ d) ∨ (w < 0 ∨ 2 < w) ∨ 100 < n then -1 else if n < 0 then -14 else 0)) (QW D cA ad o) (FA ad s.heap.size)) ([.ref (ad 91), .int d, .int w, .int n] : List Value).toArray s 0 0 (FA ad s.heap.size)) (F0 m 58 ls []) := by
            intro nn
            induction nn with
            | zero => intro k H locs ls hk hP hS hl hn; exact absurd hn (Nat.not_lt_zero _)
            | succ nn ih =>
              intro k H locs ls hk hP hS hl hn
              refine lv_iload hx hb dX8_row_58 (lv_at hl 2 rfl) ?_
              refine lv_bipush (v := 100) hx hb dX8_row_60 (by decide) ?_
              refine lv_icmp_ge (tgt := 84) hx hb dX8_row_62 (by decide) (fun c_11 => ?_) (fun c_11 => ?_)
              · refine lv_iconst (v := 0) hx hb dX8_row_84 (by decide) ?_
                exact r_iret C0 X hP hS hr hlk dX8_row_85 (by simp only [b_1, p_4, p_5, p_6, Int32.not_lt.mpr c_8, Int32.not_lt.mpr c_9, if_false, or_self])
              · have hk7 : k < 100 := nI_ltof (b := 100) c_11 (by omega)
                refine lv_aload_n hx hb dX8_row_65 rfl (lv_at hl 0 rfl) ?_
                refine gf_X8_31 C0 X hP 91 (q := 99) ⟨by decide, rfl⟩ (by omega) rfl dX8_row_66 ?_
                refine lv_bipush (v := 100) hx hb dX8_row_69 (by decide) ?_
                refine lv_iload_n hx hb dX8_row_71 rfl (lv_at hl 1 rfl) ?_
                refine lv_imul hx hb dX8_row_72 ?_
                refine lv_iload hx hb dX8_row_73 (lv_at hl 2 rfl) ?_
                refine lv_iadd hx hb dX8_row_75 ?_
                refine lv_iconst (v := 0) hx hb dX8_row_76 (by decide) ?_
                refine r_iastN C0 X hP hS 99 (k := (100 * j1 + k)) ⟨by decide, rfl⟩ (by rw [ej1, show (100 : Int32) = nI 100 from rfl, pk_mul, nI_add]) (by omega) dX8_row_77 (fun H locs hP hS => ?_)
                refine lv_iinc (v := (nI (k + 1))) (lv' := [(4, .int (nI (k + 1))), (0, .ref (ad 91)), (1, .int d)]) hx hb dX8_row_78 hl (k := 2) rfl (nI_1 _) (by decide) rfl (fun ls hl => ?_)
                refine lv_goto (tgt := 58) hx hb dX8_row_81 (by decide) ?_
                exact ih (k + 1) _ _ ls (by omega) (mem_cast (rzf_s _ _ _ _) hP) hS (lv_sub hl [1, 2, 0] rfl) (by omega)
          exact lp_10 ((100 - 0) + 1) 0 _ _ ls (by decide) (mem_cast (rzf_0 _ _ _) hP) hS (lv_sub hl [1, 2, 0] rfl) (by omega)
        · refine lv_bipush (v := (-14)) hx hb dX8_row_31 (by decide) ?_
          exact r_iret C0 X hP hS hr hlk dX8_row_33 (by simp only [b_1, p_4, p_5, p_6, c_8, c_9, Int32.not_lt.mp p_4, Int32.not_lt.mp p_5, Int32.not_le.mp p_6, Int32.not_lt.mpr c_8, Int32.not_le.mp c_9, if_true, if_false, ite_true, ite_false, true_and, and_true, false_and, and_false, true_or, or_true, false_or, or_false, not_true_eq_false, not_false_eq_true, ne_eq, and_self, or_self]; try rfl)
      · refine lv_iconst (v := (-1)) hx hb dX8_row_25 (by decide) ?_
        exact r_iret C0 X hP hS hr hlk dX8_row_26 (by simp only [b_1, p_4, p_5, p_6, c_8, Int32.not_lt.mp p_4, Int32.not_lt.mp p_5, Int32.not_le.mp p_6, Int32.not_le.mp c_8, if_true, if_false, ite_true, ite_false, true_and, and_true, false_and, and_false, true_or, or_true, false_or, or_false, not_true_eq_false, not_false_eq_true, ne_eq, and_self, or_self]; try rfl)
    · have p_12 : w < 0 ∨ 3 ≤ w := osucc (by decide) b_3
      refine lv_if_eq (tgt := 25) hx hb dX8_row_16 (by decide) (fun c_13 => ?_) (fun c_13 => absurd c_13 (by decide))
      refine lv_iconst (v := (-1)) hx hb dX8_row_25 (by decide) ?_
      exact r_iret C0 X hP hS hr hlk dX8_row_26 (by simp only [b_1, b_3, p_12, if_true, if_false, ite_true, ite_false, true_and, and_true, false_and, and_false, true_or, or_true, false_or, or_false, not_true_eq_false, not_false_eq_true, ne_eq, and_self, or_self]; try rfl)
  · refine lv_if_eq (tgt := 25) hx hb dX8_row_4 (by decide) (fun c_14 => ?_) (fun c_14 => absurd c_14 (by decide))
    refine lv_iconst (v := (-1)) hx hb dX8_row_25 (by decide) ?_
    exact r_iret C0 X hP hS hr hlk dX8_row_26 (by simp only [b_1, if_true, if_false, ite_true, ite_false, true_and, and_true, false_and, and_false, true_or, or_true, false_or, or_false, not_true_eq_false, not_false_eq_true, ne_eq, and_self, or_self]; try rfl)
theorem dX8_copy_0 : decode cX8_copy 0 = .ok (.iload_n 1, 1) := by decide +kernel
theorem dX8_copy_1 : decode cX8_copy 1 = .ok (.invokestatic 105, 3) := by decide +kernel
theorem dX8_copy_4 : decode cX8_copy 4 = .ok (.ifCond .eq 10, 3) := by decide +kernel
theorem dX8_copy_7 : decode cX8_copy 7 = .ok (.iload_n 3, 1) := by decide +kernel
theorem dX8_copy_8 : decode cX8_copy 8 = .ok (.invokestatic 105, 3) := by decide +kernel
theorem dX8_copy_11 : decode cX8_copy 11 = .ok (.ifCond .ne 5, 3) := by decide +kernel
theorem dX8_copy_14 : decode cX8_copy 14 = .ok (.iconst (-1), 1) := by decide +kernel
theorem dX8_copy_15 : decode cX8_copy 15 = .ok (.ireturn, 1) := by decide +kernel
theorem dX8_copy_16 : decode cX8_copy 16 = .ok (.aload_n 0, 1) := by decide +kernel
theorem dX8_copy_17 : decode cX8_copy 17 = .ok (.getfield 22, 3) := by decide +kernel
theorem dX8_copy_20 : decode cX8_copy 20 = .ok (.iload_n 1, 1) := by decide +kernel
theorem dX8_copy_21 : decode cX8_copy 21 = .ok (.iaload, 1) := by decide +kernel
theorem dX8_copy_22 : decode cX8_copy 22 = .ok (.ifCond .eq 12, 3) := by decide +kernel
theorem dX8_copy_25 : decode cX8_copy 25 = .ok (.aload_n 0, 1) := by decide +kernel
theorem dX8_copy_26 : decode cX8_copy 26 = .ok (.getfield 22, 3) := by decide +kernel
theorem dX8_copy_29 : decode cX8_copy 29 = .ok (.iload_n 3, 1) := by decide +kernel
theorem dX8_copy_30 : decode cX8_copy 30 = .ok (.iaload, 1) := by decide +kernel
theorem dX8_copy_31 : decode cX8_copy 31 = .ok (.ifCond .ne 6, 3) := by decide +kernel
theorem dX8_copy_34 : decode cX8_copy 34 = .ok (.bipush (-11), 2) := by decide +kernel
theorem dX8_copy_36 : decode cX8_copy 36 = .ok (.ireturn, 1) := by decide +kernel
theorem dX8_copy_37 : decode cX8_copy 37 = .ok (.aload_n 0, 1) := by decide +kernel
theorem dX8_copy_38 : decode cX8_copy 38 = .ok (.getfield 22, 3) := by decide +kernel
theorem dX8_copy_41 : decode cX8_copy 41 = .ok (.iload_n 1, 1) := by decide +kernel
theorem dX8_copy_42 : decode cX8_copy 42 = .ok (.iaload, 1) := by decide +kernel
theorem dX8_copy_43 : decode cX8_copy 43 = .ok (.iconst 2, 1) := by decide +kernel
theorem dX8_copy_44 : decode cX8_copy 44 = .ok (.if_icmp .ne 28, 3) := by decide +kernel
theorem dX8_copy_47 : decode cX8_copy 47 = .ok (.aload_n 0, 1) := by decide +kernel
theorem dX8_copy_48 : decode cX8_copy 48 = .ok (.getfield 22, 3) := by decide +kernel
theorem dX8_copy_51 : decode cX8_copy 51 = .ok (.iload_n 3, 1) := by decide +kernel
theorem dX8_copy_52 : decode cX8_copy 52 = .ok (.iaload, 1) := by decide +kernel
theorem dX8_copy_53 : decode cX8_copy 53 = .ok (.iconst 2, 1) := by decide +kernel
theorem dX8_copy_54 : decode cX8_copy 54 = .ok (.if_icmp .ne 18, 3) := by decide +kernel
theorem dX8_copy_57 : decode cX8_copy 57 = .ok (.aload_n 0, 1) := by decide +kernel
theorem dX8_copy_58 : decode cX8_copy 58 = .ok (.getfield 25, 3) := by decide +kernel
theorem dX8_copy_61 : decode cX8_copy 61 = .ok (.iload_n 1, 1) := by decide +kernel
theorem dX8_copy_62 : decode cX8_copy 62 = .ok (.iaload, 1) := by decide +kernel
theorem dX8_copy_63 : decode cX8_copy 63 = .ok (.aload_n 0, 1) := by decide +kernel
theorem dX8_copy_64 : decode cX8_copy 64 = .ok (.getfield 25, 3) := by decide +kernel
theorem dX8_copy_67 : decode cX8_copy 67 = .ok (.iload_n 3, 1) := by decide +kernel
theorem dX8_copy_68 : decode cX8_copy 68 = .ok (.iaload, 1) := by decide +kernel
theorem dX8_copy_69 : decode cX8_copy 69 = .ok (.if_icmp .eq 6, 3) := by decide +kernel
theorem dX8_copy_72 : decode cX8_copy 72 = .ok (.bipush (-12), 2) := by decide +kernel
theorem dX8_copy_74 : decode cX8_copy 74 = .ok (.ireturn, 1) := by decide +kernel
theorem dX8_copy_75 : decode cX8_copy 75 = .ok (.iload 5, 2) := by decide +kernel
theorem dX8_copy_77 : decode cX8_copy 77 = .ok (.ifCond .lt 39, 3) := by decide +kernel
theorem dX8_copy_80 : decode cX8_copy 80 = .ok (.iload_n 2, 1) := by decide +kernel
theorem dX8_copy_81 : decode cX8_copy 81 = .ok (.ifCond .lt 35, 3) := by decide +kernel
theorem dX8_copy_84 : decode cX8_copy 84 = .ok (.iload 4, 2) := by decide +kernel
theorem dX8_copy_86 : decode cX8_copy 86 = .ok (.ifCond .lt 30, 3) := by decide +kernel
theorem dX8_copy_89 : decode cX8_copy 89 = .ok (.iload 5, 2) := by decide +kernel
theorem dX8_copy_91 : decode cX8_copy 91 = .ok (.aload_n 0, 1) := by decide +kernel
theorem dX8_copy_92 : decode cX8_copy 92 = .ok (.getfield 28, 3) := by decide +kernel
theorem dX8_copy_95 : decode cX8_copy 95 = .ok (.iload_n 1, 1) := by decide +kernel
theorem dX8_copy_96 : decode cX8_copy 96 = .ok (.iaload, 1) := by decide +kernel
theorem dX8_copy_97 : decode cX8_copy 97 = .ok (.iload_n 2, 1) := by decide +kernel
theorem dX8_copy_98 : decode cX8_copy 98 = .ok (.isub, 1) := by decide +kernel
theorem dX8_copy_99 : decode cX8_copy 99 = .ok (.if_icmp .gt 17, 3) := by decide +kernel
theorem dX8_copy_102 : decode cX8_copy 102 = .ok (.iload 5, 2) := by decide +kernel
theorem dX8_copy_104 : decode cX8_copy 104 = .ok (.aload_n 0, 1) := by decide +kernel
theorem dX8_copy_105 : decode cX8_copy 105 = .ok (.getfield 28, 3) := by decide +kernel
theorem dX8_copy_108 : decode cX8_copy 108 = .ok (.iload_n 3, 1) := by decide +kernel
theorem dX8_copy_109 : decode cX8_copy 109 = .ok (.iaload, 1) := by decide +kernel
theorem dX8_copy_110 : decode cX8_copy 110 = .ok (.iload 4, 2) := by decide +kernel
theorem dX8_copy_112 : decode cX8_copy 112 = .ok (.isub, 1) := by decide +kernel
theorem dX8_copy_113 : decode cX8_copy 113 = .ok (.if_icmp .le 6, 3) := by decide +kernel
theorem dX8_copy_116 : decode cX8_copy 116 = .ok (.bipush (-13), 2) := by decide +kernel
theorem dX8_copy_118 : decode cX8_copy 118 = .ok (.ireturn, 1) := by decide +kernel
theorem dX8_copy_119 : decode cX8_copy 119 = .ok (.iconst 0, 1) := by decide +kernel
theorem dX8_copy_120 : decode cX8_copy 120 = .ok (.istore 6, 2) := by decide +kernel
theorem dX8_copy_122 : decode cX8_copy 122 = .ok (.iload 6, 2) := by decide +kernel
theorem dX8_copy_124 : decode cX8_copy 124 = .ok (.iload 5, 2) := by decide +kernel
theorem dX8_copy_126 : decode cX8_copy 126 = .ok (.if_icmp .ge 58, 3) := by decide +kernel
theorem dX8_copy_129 : decode cX8_copy 129 = .ok (.iload_n 2, 1) := by decide +kernel
theorem dX8_copy_130 : decode cX8_copy 130 = .ok (.iload 4, 2) := by decide +kernel
theorem dX8_copy_132 : decode cX8_copy 132 = .ok (.if_icmp .le 8, 3) := by decide +kernel
theorem dX8_copy_135 : decode cX8_copy 135 = .ok (.iload 6, 2) := by decide +kernel
theorem dX8_copy_137 : decode cX8_copy 137 = .ok (.goto 10, 3) := by decide +kernel
theorem dX8_copy_140 : decode cX8_copy 140 = .ok (.iload 5, 2) := by decide +kernel
theorem dX8_copy_142 : decode cX8_copy 142 = .ok (.iconst 1, 1) := by decide +kernel
theorem dX8_copy_143 : decode cX8_copy 143 = .ok (.isub, 1) := by decide +kernel
theorem dX8_copy_144 : decode cX8_copy 144 = .ok (.iload 6, 2) := by decide +kernel
theorem dX8_copy_146 : decode cX8_copy 146 = .ok (.isub, 1) := by decide +kernel
theorem dX8_copy_147 : decode cX8_copy 147 = .ok (.istore 7, 2) := by decide +kernel
theorem dX8_copy_149 : decode cX8_copy 149 = .ok (.aload_n 0, 1) := by decide +kernel
theorem dX8_copy_150 : decode cX8_copy 150 = .ok (.getfield 31, 3) := by decide +kernel
theorem dX8_copy_153 : decode cX8_copy 153 = .ok (.bipush 100, 2) := by decide +kernel
theorem dX8_copy_155 : decode cX8_copy 155 = .ok (.iload_n 3, 1) := by decide +kernel
theorem dX8_copy_156 : decode cX8_copy 156 = .ok (.imul, 1) := by decide +kernel
theorem dX8_copy_157 : decode cX8_copy 157 = .ok (.iload 4, 2) := by decide +kernel
theorem dX8_copy_159 : decode cX8_copy 159 = .ok (.iadd, 1) := by decide +kernel
theorem dX8_copy_160 : decode cX8_copy 160 = .ok (.iload 7, 2) := by decide +kernel
theorem dX8_copy_162 : decode cX8_copy 162 = .ok (.iadd, 1) := by decide +kernel
theorem dX8_copy_163 : decode cX8_copy 163 = .ok (.aload_n 0, 1) := by decide +kernel
theorem dX8_copy_164 : decode cX8_copy 164 = .ok (.getfield 31, 3) := by decide +kernel
theorem dX8_copy_167 : decode cX8_copy 167 = .ok (.bipush 100, 2) := by decide +kernel
theorem dX8_copy_169 : decode cX8_copy 169 = .ok (.iload_n 1, 1) := by decide +kernel
theorem dX8_copy_170 : decode cX8_copy 170 = .ok (.imul, 1) := by decide +kernel
theorem dX8_copy_171 : decode cX8_copy 171 = .ok (.iload_n 2, 1) := by decide +kernel
theorem dX8_copy_172 : decode cX8_copy 172 = .ok (.iadd, 1) := by decide +kernel
theorem dX8_copy_173 : decode cX8_copy 173 = .ok (.iload 7, 2) := by decide +kernel
theorem dX8_copy_175 : decode cX8_copy 175 = .ok (.iadd, 1) := by decide +kernel
theorem dX8_copy_176 : decode cX8_copy 176 = .ok (.iaload, 1) := by decide +kernel
theorem dX8_copy_177 : decode cX8_copy 177 = .ok (.iastore, 1) := by decide +kernel
theorem dX8_copy_178 : decode cX8_copy 178 = .ok (.iinc 6 1, 3) := by decide +kernel
theorem dX8_copy_181 : decode cX8_copy 181 = .ok (.goto (-59), 3) := by decide +kernel
theorem dX8_copy_184 : decode cX8_copy 184 = .ok (.iload 5, 2) := by decide +kernel
theorem dX8_copy_186 : decode cX8_copy 186 = .ok (.ireturn, 1) := by decide +kernel
set_option maxHeartbeats 4000000 in
set_option maxRecDepth 100000 in
theorem c_X8_copy_f (l : Launch) (D : va_G) (cA : Nat → ClassId) (ad : Nat → Nat) (o : Int64) (σ : Mem) (d : Int32) (i : Int32) (d2 : Int32) (j : Int32) (n : Int32) (hF : FrM σ) (sz : Nat) : Met l yX8_copy (WY yX8_copy cX8_copy 8 (some .int)) (RM 2) (va_Pc [.ref (ad 91), .int d, .int i, .int d2, .int j, .int n] (PW D cA ad o σ sz)) (va_Qi (fun r _ => r = (if (d < 0 ∨ 8 ≤ d) ∨ (d2 < 0 ∨ 8 ≤ d2) then -1 else -11)) (QW D cA ad o) (FA ad sz)) 0 0 (FA ad sz) := by
  refine ct_of (own := RX8) (k := 2) (Qf := va_Qi (fun r _ => r = (if (d < 0 ∨ 8 ≤ d) ∨ (d2 < 0 ∨ 8 ≤ d2) then -1 else -11)) (QW D cA ad o)) rfl (by decide) (Nat.le_of_ble_eq_true rfl) (fun p e s m below meth c ls C0 X hr hlk hP hl => ?_) sz
  have hS : va_S (FA ad s.heap.size) s.heap s.heap [] := va_S.rf
  have hl : lv_has ls 8 [(0, .ref (ad 91)), (1, .int d), (2, .int i), (3, .int d2), (4, .int j), (5, .int n)] := hl
  obtain ⟨hx, hb, hml, hown, hts⟩ := id C0
  refine lv_iload_n hx hb dX8_copy_0 rfl (lv_at hl 1 rfl) ?_
  refine r_ci X hS (r_runS (As := [.int d]) (rest := []) C0 X hP L_X8_105 (fun sz => c_X8_isShelf l D cA ad o σ d  sz) ⟨Nat.le_of_ble_eq_true rfl, Nat.le_of_ble_eq_true rfl⟩ rfl hl.1 rfl (Nat.le_of_ble_eq_true rfl) dX8_copy_1 ⟨Nat.zero_le _, Nat.zero_le _⟩) (fun r σ9 H locs hw hP hS => ?_)
  rw [hw.2] at hP
  obtain ⟨⟨b_1, rfl⟩ | ⟨b_1, rfl⟩, -⟩ := hw
  · refine lv_if_eq (tgt := 14) hx hb dX8_copy_4 (by decide) (fun c_2 => absurd c_2 (by decide)) (fun c_2 => ?_)
    refine lv_iload_n hx hb dX8_copy_7 rfl (lv_at hl 3 rfl) ?_
    refine r_ci X hS (r_runS (As := [.int d2]) (rest := []) C0 X hP L_X8_105 (fun sz => c_X8_isShelf l D cA ad o σ d2  sz) ⟨Nat.le_of_ble_eq_true rfl, Nat.le_of_ble_eq_true rfl⟩ rfl hl.1 rfl (Nat.le_of_ble_eq_true rfl) dX8_copy_8 ⟨Nat.zero_le _, Nat.zero_le _⟩) (fun r σ9 H locs hw hP hS => ?_)
    rw [hw.2] at hP
    obtain ⟨⟨b_3, rfl⟩ | ⟨b_3, rfl⟩, -⟩ := hw
    · refine lv_if_ne (tgt := 16) hx hb dX8_copy_11 (by decide) (fun c_4 => ?_) (fun c_4 => absurd c_4 (by decide))
      obtain ⟨j1, hj1, ej1⟩ := shin b_1
      obtain ⟨j2, hj2, ej2⟩ := shin b_3
      refine lv_aload_n hx hb dX8_copy_16 rfl (lv_at hl 0 rfl) ?_
      refine gf_X8_22 C0 X hP 91 (q := 96) ⟨by decide, rfl⟩ (by omega) rfl dX8_copy_17 ?_
      refine lv_iload_n hx hb dX8_copy_20 rfl (lv_at hl 1 rfl) ?_
      refine r_ialdN C0 X hP 96 (k := j1) ⟨by decide, rfl⟩ ej1 hj1 dX8_copy_21 ?_
      refine lv_topE (y := 0) (FrM_kept hF hj1) ?_
      refine lv_if_eq (tgt := 34) hx hb dX8_copy_22 (by decide) (fun c_5 => ?_) (fun c_5 => absurd c_5 (by decide))
      refine lv_bipush (v := (-11)) hx hb dX8_copy_34 (by decide) ?_
      exact r_iret C0 X hP hS hr hlk dX8_copy_36 (by simp only [b_1, b_3, if_true, if_false, ite_true, ite_false, true_and, and_true, false_and, and_false, true_or, or_true, false_or, or_false, not_true_eq_false, not_false_eq_true, ne_eq, and_self, or_self]; try rfl)
    · refine lv_if_ne (tgt := 16) hx hb dX8_copy_11 (by decide) (fun c_6 => absurd c_6 (by decide)) (fun c_6 => ?_)
      refine lv_iconst (v := (-1)) hx hb dX8_copy_14 (by decide) ?_
      exact r_iret C0 X hP hS hr hlk dX8_copy_15 (by simp only [b_1, b_3, if_true, if_false, ite_true, ite_false, true_and, and_true, false_and, and_false, true_or, or_true, false_or, or_false, not_true_eq_false, not_false_eq_true, ne_eq, and_self, or_self]; try rfl)
  · refine lv_if_eq (tgt := 14) hx hb dX8_copy_4 (by decide) (fun c_7 => ?_) (fun c_7 => absurd c_7 (by decide))
    refine lv_iconst (v := (-1)) hx hb dX8_copy_14 (by decide) ?_
    exact r_iret C0 X hP hS hr hlk dX8_copy_15 (by simp only [b_1, if_true, if_false, ite_true, ite_false, true_and, and_true, false_and, and_false, true_or, or_true, false_or, or_false, not_true_eq_false, not_false_eq_true, ne_eq, and_self, or_self]; try rfl)
theorem dX8_element_0 : decode cX8_element 0 = .ok (.aload_n 0, 1) := by decide +kernel
theorem dX8_element_1 : decode cX8_element 1 = .ok (.iload_n 1, 1) := by decide +kernel
theorem dX8_element_2 : decode cX8_element 2 = .ok (.invokestatic 105, 3) := by decide +kernel
theorem dX8_element_5 : decode cX8_element 5 = .ok (.ifCond .ne 7, 3) := by decide +kernel
theorem dX8_element_8 : decode cX8_element 8 = .ok (.iconst 1, 1) := by decide +kernel
theorem dX8_element_9 : decode cX8_element 9 = .ok (.goto 36, 3) := by decide +kernel
theorem dX8_element_12 : decode cX8_element 12 = .ok (.aload_n 0, 1) := by decide +kernel
theorem dX8_element_13 : decode cX8_element 13 = .ok (.getfield 22, 3) := by decide +kernel
theorem dX8_element_16 : decode cX8_element 16 = .ok (.iload_n 1, 1) := by decide +kernel
theorem dX8_element_17 : decode cX8_element 17 = .ok (.iaload, 1) := by decide +kernel
theorem dX8_element_18 : decode cX8_element 18 = .ok (.iconst 2, 1) := by decide +kernel
theorem dX8_element_19 : decode cX8_element 19 = .ok (.if_icmp .ne 21, 3) := by decide +kernel
theorem dX8_element_22 : decode cX8_element 22 = .ok (.iload_n 2, 1) := by decide +kernel
theorem dX8_element_23 : decode cX8_element 23 = .ok (.i2l, 1) := by decide +kernel
theorem dX8_element_24 : decode cX8_element 24 = .ok (.lconst 0, 1) := by decide +kernel
theorem dX8_element_25 : decode cX8_element 25 = .ok (.aload_n 0, 1) := by decide +kernel
theorem dX8_element_26 : decode cX8_element 26 = .ok (.getfield 28, 3) := by decide +kernel
theorem dX8_element_29 : decode cX8_element 29 = .ok (.iload_n 1, 1) := by decide +kernel
theorem dX8_element_30 : decode cX8_element 30 = .ok (.iaload, 1) := by decide +kernel
theorem dX8_element_31 : decode cX8_element 31 = .ok (.iconst 1, 1) := by decide +kernel
theorem dX8_element_32 : decode cX8_element 32 = .ok (.isub, 1) := by decide +kernel
theorem dX8_element_33 : decode cX8_element 33 = .ok (.i2l, 1) := by decide +kernel
theorem dX8_element_34 : decode cX8_element 34 = .ok (.invokestatic 53, 3) := by decide +kernel
theorem dX8_element_37 : decode cX8_element 37 = .ok (.ifCond .ne 7, 3) := by decide +kernel
theorem dX8_element_40 : decode cX8_element 40 = .ok (.iconst 2, 1) := by decide +kernel
theorem dX8_element_41 : decode cX8_element 41 = .ok (.goto 4, 3) := by decide +kernel
theorem dX8_element_44 : decode cX8_element 44 = .ok (.iconst 0, 1) := by decide +kernel
theorem dX8_element_45 : decode cX8_element 45 = .ok (.putfield 49, 3) := by decide +kernel
theorem dX8_element_48 : decode cX8_element 48 = .ok (.aload_n 0, 1) := by decide +kernel
theorem dX8_element_49 : decode cX8_element 49 = .ok (.getfield 49, 3) := by decide +kernel
theorem dX8_element_52 : decode cX8_element 52 = .ok (.ifCond .ne 18, 3) := by decide +kernel
theorem dX8_element_55 : decode cX8_element 55 = .ok (.aload_n 0, 1) := by decide +kernel
theorem dX8_element_56 : decode cX8_element 56 = .ok (.getfield 31, 3) := by decide +kernel
theorem dX8_element_59 : decode cX8_element 59 = .ok (.bipush 100, 2) := by decide +kernel
theorem dX8_element_61 : decode cX8_element 61 = .ok (.iload_n 1, 1) := by decide +kernel
theorem dX8_element_62 : decode cX8_element 62 = .ok (.imul, 1) := by decide +kernel
theorem dX8_element_63 : decode cX8_element 63 = .ok (.iload_n 2, 1) := by decide +kernel
theorem dX8_element_64 : decode cX8_element 64 = .ok (.iadd, 1) := by decide +kernel
theorem dX8_element_65 : decode cX8_element 65 = .ok (.iaload, 1) := by decide +kernel
theorem dX8_element_66 : decode cX8_element 66 = .ok (.i2l, 1) := by decide +kernel
theorem dX8_element_67 : decode cX8_element 67 = .ok (.goto 4, 3) := by decide +kernel
theorem dX8_element_70 : decode cX8_element 70 = .ok (.lconst 0, 1) := by decide +kernel
theorem dX8_element_71 : decode cX8_element 71 = .ok (.lreturn, 1) := by decide +kernel
set_option maxHeartbeats 4000000 in
set_option maxRecDepth 100000 in
theorem c_X8_element_f (l : Launch) (D : va_G) (cA : Nat → ClassId) (ad : Nat → Nat) (o : Int64) (σ : Mem) (d : Int32) (i : Int32) (hF : FrM σ) (sz : Nat) : Met l yX8_element (WY yX8_element cX8_element 3 (some .long)) (RM 2) (va_Pc [.ref (ad 91), .int d, .int i] (PW D cA ad o σ sz)) (va_Ql (fun _ (σ9 : Mem) => σ9 91 11 = (if d < 0 ∨ 8 ≤ d then 1 else 2)) (QW D cA ad o) (FA ad sz)) 0 0 (FA ad sz) := by
  refine ct_of (own := RX8) (k := 2) (Qf := va_Ql (fun _ (σ9 : Mem) => σ9 91 11 = (if d < 0 ∨ 8 ≤ d then 1 else 2)) (QW D cA ad o)) rfl (by decide) (Nat.le_of_ble_eq_true rfl) (fun p e s m below meth c ls C0 X hr hlk hP hl => ?_) sz
  have hS : va_S (FA ad s.heap.size) s.heap s.heap [] := va_S.rf
  have hl : lv_has ls 3 [(0, .ref (ad 91)), (1, .int d), (2, .int i)] := hl
  obtain ⟨hx, hb, hml, hown, hts⟩ := id C0
  refine lv_aload_n hx hb dX8_element_0 rfl (lv_at hl 0 rfl) ?_
  refine lv_iload_n hx hb dX8_element_1 rfl (lv_at hl 1 rfl) ?_
  refine r_ci X hS (r_runS (As := [.int d]) (rest := [.ref (ad 91)]) C0 X hP L_X8_105 (fun sz => c_X8_isShelf l D cA ad o σ d  sz) ⟨Nat.le_of_ble_eq_true rfl, Nat.le_of_ble_eq_true rfl⟩ rfl hl.1 rfl (Nat.le_of_ble_eq_true rfl) dX8_element_2 ⟨Nat.zero_le _, Nat.zero_le _⟩) (fun r σ9 H locs hw hP hS => ?_)
  rw [hw.2] at hP
  obtain ⟨⟨b_1, rfl⟩ | ⟨b_1, rfl⟩, -⟩ := hw
  · refine lv_if_ne (tgt := 12) hx hb dX8_element_5 (by decide) (fun c_2 => ?_) (fun c_2 => absurd c_2 (by decide))
    obtain ⟨j1, hj1, ej1⟩ := shin b_1
    refine lv_aload_n hx hb dX8_element_12 rfl (lv_at hl 0 rfl) ?_
    refine gf_X8_22 C0 X hP 91 (q := 96) ⟨by decide, rfl⟩ (by omega) rfl dX8_element_13 ?_
    refine lv_iload_n hx hb dX8_element_16 rfl (lv_at hl 1 rfl) ?_
    refine r_ialdN C0 X hP 96 (k := j1) ⟨by decide, rfl⟩ ej1 hj1 dX8_element_17 ?_
    refine lv_topE (y := 0) (FrM_kept hF hj1) ?_
    refine lv_iconst (v := 2) hx hb dX8_element_18 (by decide) ?_
    refine lv_icmp_ne (tgt := 40) hx hb dX8_element_19 (by decide) (fun c_3 => ?_) (fun c_3 => absurd c_3 (by decide))
    refine lv_iconst (v := 2) hx hb dX8_element_40 (by decide) ?_
    refine lv_goto (tgt := 45) hx hb dX8_element_41 (by decide) ?_
    refine pf_X8_49 C0 X hP hS 91 ⟨by decide, rfl⟩ dX8_element_45 (fun H locs hP hS => ?_)
    refine lv_aload_n hx hb dX8_element_48 rfl (lv_at hl 0 rfl) ?_
    refine gf_X8_49 C0 X hP 91 ⟨by decide, rfl⟩ dX8_element_49 ?_
    refine lv_topE (y := 2) (by simp [stm, upd]) ?_
    refine lv_if_ne (tgt := 70) hx hb dX8_element_52 (by decide) (fun c_4 => ?_) (fun c_4 => absurd c_4 (by decide))
    refine lv_lconst (v := ((0 : Int32).toInt64)) hx hb dX8_element_70 (by decide) ?_
    exact r_lret C0 X hP hS hr hlk dX8_element_71 (by simp [stm, upd, b_1])
  · refine lv_if_ne (tgt := 12) hx hb dX8_element_5 (by decide) (fun c_5 => absurd c_5 (by decide)) (fun c_5 => ?_)
    refine lv_iconst (v := 1) hx hb dX8_element_8 (by decide) ?_
    refine lv_goto (tgt := 45) hx hb dX8_element_9 (by decide) ?_
    refine pf_X8_49 C0 X hP hS 91 ⟨by decide, rfl⟩ dX8_element_45 (fun H locs hP hS => ?_)
    refine lv_aload_n hx hb dX8_element_48 rfl (lv_at hl 0 rfl) ?_
    refine gf_X8_49 C0 X hP 91 ⟨by decide, rfl⟩ dX8_element_49 ?_
    refine lv_topE (y := 1) (by simp [stm, upd]) ?_
    refine lv_if_ne (tgt := 70) hx hb dX8_element_52 (by decide) (fun c_6 => ?_) (fun c_6 => absurd c_6 (by decide))
    refine lv_lconst (v := ((0 : Int32).toInt64)) hx hb dX8_element_70 (by decide) ?_
    exact r_lret C0 X hP hS hr hlk dX8_element_71 (by simp [stm, upd, b_1])
