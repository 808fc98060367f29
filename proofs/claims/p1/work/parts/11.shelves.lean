theorem dX5_becomeRow_0 : decode cX5_becomeRow 0 = .ok (.aload_n 0, 1) := by decide +kernel
theorem dX5_becomeRow_1 : decode cX5_becomeRow 1 = .ok (.iconst 2, 1) := by decide +kernel
theorem dX5_becomeRow_2 : decode cX5_becomeRow 2 = .ok (.putfield 15, 3) := by decide +kernel
theorem dX5_becomeRow_5 : decode cX5_becomeRow 5 = .ok (.aload_n 0, 1) := by decide +kernel
theorem dX5_becomeRow_6 : decode cX5_becomeRow 6 = .ok (.iload_n 1, 1) := by decide +kernel
theorem dX5_becomeRow_7 : decode cX5_becomeRow 7 = .ok (.putfield 19, 3) := by decide +kernel
theorem dX5_becomeRow_10 : decode cX5_becomeRow 10 = .ok (.aload_n 0, 1) := by decide +kernel
theorem dX5_becomeRow_11 : decode cX5_becomeRow 11 = .ok (.iload_n 2, 1) := by decide +kernel
theorem dX5_becomeRow_12 : decode cX5_becomeRow 12 = .ok (.putfield 22, 3) := by decide +kernel
theorem dX5_becomeRow_15 : decode cX5_becomeRow 15 = .ok (.iconst 0, 1) := by decide +kernel
theorem dX5_becomeRow_16 : decode cX5_becomeRow 16 = .ok (.istore_n 3, 1) := by decide +kernel
theorem dX5_becomeRow_17 : decode cX5_becomeRow 17 = .ok (.iload_n 3, 1) := by decide +kernel
theorem dX5_becomeRow_18 : decode cX5_becomeRow 18 = .ok (.bipush 100, 2) := by decide +kernel
theorem dX5_becomeRow_20 : decode cX5_becomeRow 20 = .ok (.if_icmp .ge 16, 3) := by decide +kernel
theorem dX5_becomeRow_23 : decode cX5_becomeRow 23 = .ok (.aload_n 0, 1) := by decide +kernel
theorem dX5_becomeRow_24 : decode cX5_becomeRow 24 = .ok (.getfield 9, 3) := by decide +kernel
theorem dX5_becomeRow_27 : decode cX5_becomeRow 27 = .ok (.iload_n 3, 1) := by decide +kernel
theorem dX5_becomeRow_28 : decode cX5_becomeRow 28 = .ok (.iconst 0, 1) := by decide +kernel
theorem dX5_becomeRow_29 : decode cX5_becomeRow 29 = .ok (.iastore, 1) := by decide +kernel
theorem dX5_becomeRow_30 : decode cX5_becomeRow 30 = .ok (.iinc 3 1, 3) := by decide +kernel
theorem dX5_becomeRow_33 : decode cX5_becomeRow 33 = .ok (.goto (-16), 3) := by decide +kernel
theorem dX5_becomeRow_36 : decode cX5_becomeRow 36 = .ok (.return_, 1) := by decide +kernel
set_option maxHeartbeats 4000000 in
set_option maxRecDepth 100000 in
theorem c_X5_becomeRow (l : Launch) (D : va_G) (cA : Nat → ClassId) (ad : Nat → Nat) (o : Int64) (σ : Mem) (j : Nat) (x : Int32) (z : Int32) (hj : j < 8) (sz : Nat) : Met l yX5_becomeRow (WY yX5_becomeRow cX5_becomeRow 4 none) (RM 0) (va_Pc [.ref (ad (68 + j)), .int x, .int z] (PW D cA ad o σ sz)) (va_Qv (fun σ9 => σ9 = rz (stm (stm (stm σ (68 + j) 0 2) (68 + j) 3 x) (68 + j) 4 z) (76 + j) 100) (QW D cA ad o) (FA ad sz)) 0 0 (FA ad sz) := by
  refine ct_of (own := RX5) (k := 0) (Qf := va_Qv (fun σ9 => σ9 = rz (stm (stm (stm σ (68 + j) 0 2) (68 + j) 3 x) (68 + j) 4 z) (76 + j) 100) (QW D cA ad o)) rfl (by decide) (Nat.le_of_ble_eq_true rfl) (fun p e s m below meth c ls C0 X hr hlk hP hl => ?_) sz
  have hS : va_S (FA ad s.heap.size) s.heap s.heap [] := va_S.rf
  have hl : lv_has ls 4 [(0, .ref (ad (68 + j))), (1, .int x), (2, .int z)] := hl
  obtain ⟨hx, hb, hml, hown, hts⟩ := id C0
  refine lv_aload_n hx hb dX5_becomeRow_0 rfl (lv_at hl 0 rfl) ?_
  refine lv_iconst (v := 2) hx hb dX5_becomeRow_1 (by decide) ?_
  refine pf_X5_15 C0 X hP hS (68 + j) (kdS j hj) dX5_becomeRow_2 (fun H locs hP hS => ?_)
  refine lv_aload_n hx hb dX5_becomeRow_5 rfl (lv_at hl 0 rfl) ?_
  refine lv_iload_n hx hb dX5_becomeRow_6 rfl (lv_at hl 1 rfl) ?_
  refine pf_X5_19 C0 X hP hS (68 + j) (kdS j hj) dX5_becomeRow_7 (fun H locs hP hS => ?_)
  refine lv_aload_n hx hb dX5_becomeRow_10 rfl (lv_at hl 0 rfl) ?_
  refine lv_iload_n hx hb dX5_becomeRow_11 rfl (lv_at hl 2 rfl) ?_
  refine pf_X5_22 C0 X hP hS (68 + j) (kdS j hj) dX5_becomeRow_12 (fun H locs hP hS => ?_)
  refine lv_iconst (v := 0) hx hb dX5_becomeRow_15 (by decide) ?_
  refine lv_istore_n (lv' := [(3, .int 0), (0, .ref (ad (68 + j))), (1, .int x), (2, .int z)]) hx hb dX5_becomeRow_16 rfl hl (by decide) rfl (fun ls hl => ?_)
  have lp_1 : ∀ (nn : Nat) (k : Nat) (H : Heap) (locs : List Loc) (ls : Array Slot), k ≤ 100 → WP D cA ad o (rz (stm (stm (stm σ (68 + j) 0 2) (68 + j) 3 x) (68 + j) 4 z) (76 + j) k) H → va_S (FA ad s.heap.size) s.heap H locs → lv_has ls 4 [(0, .ref (ad (68 + j))), (3, .int (nI k))] → (100 - k) < nn → W p l e (RM 0) s m ([.ref (ad (68 + j)), .int x, .int z] : List Value).toArray below meth c H locs 0 0 (MQ below (va_Qv (fun σ9 => σ9 = rz (stm (stm (stm σ (68 + j) 0 2) (68 + j) 3 x) (68 + j) 4 z) (76 + j) 100) (QW D cA ad o) (FA ad s.heap.size)) ([.ref (ad (68 + j)), .int x, .int z] : List Value).toArray s 0 0 (FA ad s.heap.size)) (F0 m 17 ls []) := by
    intro nn
    induction nn with
    | zero => intro k H locs ls hk hP hS hl hn; exact absurd hn (Nat.not_lt_zero _)
    | succ nn ih =>
      intro k H locs ls hk hP hS hl hn
      refine lv_iload_n hx hb dX5_becomeRow_17 rfl (lv_at hl 1 rfl) ?_
      refine lv_bipush (v := 100) hx hb dX5_becomeRow_18 (by decide) ?_
      refine lv_icmp_ge (tgt := 36) hx hb dX5_becomeRow_20 (by decide) (fun c_2 => ?_) (fun c_2 => ?_)
      · obtain rfl : k = 100 := nI_geof (b := 100) c_2 hk (by omega)
        exact r_vret C0 X hP hS hr hlk dX5_becomeRow_36 rfl
      · have hk7 : k < 100 := nI_ltof (b := 100) c_2 (by omega)
        refine lv_aload_n hx hb dX5_becomeRow_23 rfl (lv_at hl 0 rfl) ?_
        refine gf_X5_9 C0 X hP (68 + j) (q := (76 + j)) (kdS j hj) (by omega) (lkS5 j hj) dX5_becomeRow_24 ?_
        refine lv_iload_n hx hb dX5_becomeRow_27 rfl (lv_at hl 1 rfl) ?_
        refine lv_iconst (v := 0) hx hb dX5_becomeRow_28 (by decide) ?_
        refine r_iastN C0 X hP hS (76 + j) (k := k) (kdV j hj) rfl (by omega) dX5_becomeRow_29 (fun H locs hP hS => ?_)
        refine lv_iinc (v := (nI (k + 1))) (lv' := [(3, .int (nI (k + 1))), (0, .ref (ad (68 + j)))]) hx hb dX5_becomeRow_30 hl (k := 1) rfl (nI_1 _) (by decide) rfl (fun ls hl => ?_)
        refine lv_goto (tgt := 17) hx hb dX5_becomeRow_33 (by decide) ?_
        exact ih (k + 1) _ _ ls (by omega) (mem_cast (rz_s _ _ _) hP) hS (lv_sub hl [1, 0] rfl) (by omega)
  exact lp_1 ((100 - 0) + 1) 0 _ _ ls (by decide) (mem_cast (rz_0 _ _) hP) hS (lv_sub hl [1, 0] rfl) (by omega)
theorem dX7_keep_0 : decode cX7_keep 0 = .ok (.aload_n 0, 1) := by decide +kernel
theorem dX7_keep_1 : decode cX7_keep 1 = .ok (.iload_n 1, 1) := by decide +kernel
theorem dX7_keep_2 : decode cX7_keep 2 = .ok (.invokevirtual 50, 3) := by decide +kernel
theorem dX7_keep_5 : decode cX7_keep 5 = .ok (.astore 5, 2) := by decide +kernel
theorem dX7_keep_7 : decode cX7_keep 7 = .ok (.aload 5, 2) := by decide +kernel
theorem dX7_keep_9 : decode cX7_keep 9 = .ok (.ifnull 12, 3) := by decide +kernel
theorem dX7_keep_12 : decode cX7_keep 12 = .ok (.iload_n 2, 1) := by decide +kernel
theorem dX7_keep_13 : decode cX7_keep 13 = .ok (.ifCond .lt 8, 3) := by decide +kernel
theorem dX7_keep_16 : decode cX7_keep 16 = .ok (.iload_n 2, 1) := by decide +kernel
theorem dX7_keep_17 : decode cX7_keep 17 = .ok (.iconst 1, 1) := by decide +kernel
theorem dX7_keep_18 : decode cX7_keep 18 = .ok (.if_icmp .le 5, 3) := by decide +kernel
theorem dX7_keep_21 : decode cX7_keep 21 = .ok (.iconst (-1), 1) := by decide +kernel
theorem dX7_keep_22 : decode cX7_keep 22 = .ok (.ireturn, 1) := by decide +kernel
theorem dX7_keep_23 : decode cX7_keep 23 = .ok (.iload_n 2, 1) := by decide +kernel
theorem dX7_keep_24 : decode cX7_keep 24 = .ok (.ifCond .ne 11, 3) := by decide +kernel
theorem dX7_keep_27 : decode cX7_keep 27 = .ok (.aload 5, 2) := by decide +kernel
theorem dX7_keep_29 : decode cX7_keep 29 = .ok (.iconst 0, 1) := by decide +kernel
theorem dX7_keep_30 : decode cX7_keep 30 = .ok (.putfield 54, 3) := by decide +kernel
theorem dX7_keep_33 : decode cX7_keep 33 = .ok (.iconst 0, 1) := by decide +kernel
theorem dX7_keep_34 : decode cX7_keep 34 = .ok (.ireturn, 1) := by decide +kernel
theorem dX7_keep_35 : decode cX7_keep 35 = .ok (.iload_n 3, 1) := by decide +kernel
theorem dX7_keep_36 : decode cX7_keep 36 = .ok (.ifCond .lt 21, 3) := by decide +kernel
theorem dX7_keep_39 : decode cX7_keep 39 = .ok (.iload_n 3, 1) := by decide +kernel
theorem dX7_keep_40 : decode cX7_keep 40 = .ok (.bipush 8, 2) := by decide +kernel
theorem dX7_keep_42 : decode cX7_keep 42 = .ok (.if_icmp .ge 15, 3) := by decide +kernel
theorem dX7_keep_45 : decode cX7_keep 45 = .ok (.iload 4, 2) := by decide +kernel
theorem dX7_keep_47 : decode cX7_keep 47 = .ok (.ifCond .lt 10, 3) := by decide +kernel
theorem dX7_keep_50 : decode cX7_keep 50 = .ok (.iload 4, 2) := by decide +kernel
theorem dX7_keep_52 : decode cX7_keep 52 = .ok (.bipush 9, 2) := by decide +kernel
theorem dX7_keep_54 : decode cX7_keep 54 = .ok (.if_icmp .le 5, 3) := by decide +kernel
theorem dX7_keep_57 : decode cX7_keep 57 = .ok (.iconst (-1), 1) := by decide +kernel
theorem dX7_keep_58 : decode cX7_keep 58 = .ok (.ireturn, 1) := by decide +kernel
theorem dX7_keep_59 : decode cX7_keep 59 = .ok (.aload 5, 2) := by decide +kernel
theorem dX7_keep_61 : decode cX7_keep 61 = .ok (.iconst 1, 1) := by decide +kernel
theorem dX7_keep_62 : decode cX7_keep 62 = .ok (.putfield 54, 3) := by decide +kernel
theorem dX7_keep_65 : decode cX7_keep 65 = .ok (.aload 5, 2) := by decide +kernel
theorem dX7_keep_67 : decode cX7_keep 67 = .ok (.iload_n 3, 1) := by decide +kernel
theorem dX7_keep_68 : decode cX7_keep 68 = .ok (.putfield 127, 3) := by decide +kernel
theorem dX7_keep_71 : decode cX7_keep 71 = .ok (.aload 5, 2) := by decide +kernel
theorem dX7_keep_73 : decode cX7_keep 73 = .ok (.iload 4, 2) := by decide +kernel
theorem dX7_keep_75 : decode cX7_keep 75 = .ok (.putfield 129, 3) := by decide +kernel
theorem dX7_keep_78 : decode cX7_keep 78 = .ok (.iconst 0, 1) := by decide +kernel
theorem dX7_keep_79 : decode cX7_keep 79 = .ok (.ireturn, 1) := by decide +kernel
set_option maxHeartbeats 4000000 in
set_option maxRecDepth 100000 in
theorem c_X7_keep_f (l : Launch) (D : va_G) (cA : Nat → ClassId) (ad : Nat → Nat) (o : Int64) (σ : Mem) (d : Int32) (w : Int32) (k : Int32) (f : Int32) (hF : Fr σ) (sz : Nat) : Met l yX7_keep (WY yX7_keep cX7_keep 6 (some .int)) (RM 1) (va_Pc [.ref (ad 66), .int d, .int w, .int k, .int f] (PW D cA ad o σ sz)) (va_Qi (fun r (σ9 : Mem) => r = (if (d < 0 ∨ 8 ≤ d) ∨ w < 0 ∨ 1 < w then -1 else if w = 0 then 0 else if k < 0 ∨ 8 ≤ k ∨ f < 0 ∨ 9 < f then -1 else 0) ∧ ∀ a9, 91 ≤ a9 → σ9 a9 = σ a9) (QW D cA ad o) (FA ad sz)) 0 0 (FA ad sz) := by
  refine ct_of (own := RX7) (k := 1) (Qf := va_Qi (fun r (σ9 : Mem) => r = (if (d < 0 ∨ 8 ≤ d) ∨ w < 0 ∨ 1 < w then -1 else if w = 0 then 0 else if k < 0 ∨ 8 ≤ k ∨ f < 0 ∨ 9 < f then -1 else 0) ∧ ∀ a9, 91 ≤ a9 → σ9 a9 = σ a9) (QW D cA ad o)) rfl (by decide) (Nat.le_of_ble_eq_true rfl) (fun p e s m below meth c ls C0 X hr hlk hP hl => ?_) sz
  have hS : va_S (FA ad s.heap.size) s.heap s.heap [] := va_S.rf
  have hl : lv_has ls 6 [(0, .ref (ad 66)), (1, .int d), (2, .int w), (3, .int k), (4, .int f)] := hl
  obtain ⟨hx, hb, hml, hown, hts⟩ := id C0
  refine lv_aload_n hx hb dX7_keep_0 rfl (lv_at hl 0 rfl) ?_
  refine lv_iload_n hx hb dX7_keep_1 rfl (lv_at hl 1 rfl) ?_
  refine r_cq X hS (r_runV (As := [.int d]) (rest := []) C0 X hP L_X7_50 (fun sz => c_X7_shelfAt l D cA ad o σ d  sz) (show 66 < 106 ∧ kd 66 = (7, 8) from ⟨by decide, rfl⟩).1 (show 66 < 106 ∧ kd 66 = (7, 8) from ⟨by decide, rfl⟩).2 (by decide) rfl ⟨Nat.le_of_ble_eq_true rfl, Nat.le_of_ble_eq_true rfl⟩ rfl hl.1 rfl (Nat.le_of_ble_eq_true rfl) dX7_keep_2 ⟨Nat.zero_le _, Nat.zero_le _⟩) (fun σ9 H locs hw hP hS => ?_) (fun x9 σ9 H locs hw hP hS => ?_)
  · rw [hw.1] at hP
    have h_1 := hw.2
    refine lv_astoreN (lv' := [(5, .null), (0, .ref (ad 66)), (1, .int d), (2, .int w), (3, .int k), (4, .int f)]) hx hb dX7_keep_5 hl (by decide) rfl (fun ls hl => ?_)
    refine lv_aloadN hx hb dX7_keep_7 (lv_at hl 0 rfl) ?_
    refine lv_ifnullN (tgt := 21) hx hb dX7_keep_9 (by decide) ?_
    refine lv_iconst (v := (-1)) hx hb dX7_keep_21 (by decide) ?_
    exact r_iret C0 X hP hS hr hlk dX7_keep_22 ⟨(by simp only [h_1, if_true, if_false, ite_true, ite_false, true_and, and_true, false_and, and_false, true_or, or_true, false_or, or_false, not_true_eq_false, not_false_eq_true, ne_eq, and_self, or_self]; try rfl), fun _ _ => rfl⟩
  · rw [hw.1] at hP
    obtain ⟨-, j_2, hj_2, ej_2, rfl⟩ := hw
    have h_1 : ¬ (d < 0 ∨ 8 ≤ d) := by rw [ej_2]; exact nosh hj_2
    refine lv_astore (lv' := [(5, .ref (ad (68 + j_2))), (0, .ref (ad 66)), (1, .int d), (2, .int w), (3, .int k), (4, .int f)]) hx hb dX7_keep_5 hl (by decide) rfl (fun ls hl => ?_)
    refine lv_aload hx hb dX7_keep_7 (lv_at hl 0 rfl) ?_
    refine lv_ifnull hx hb dX7_keep_9 ?_
    refine lv_iload_n hx hb dX7_keep_12 rfl (lv_at hl 3 rfl) ?_
    refine lv_if_lt (tgt := 21) hx hb dX7_keep_13 (by decide) (fun c_3 => ?_) (fun c_3 => ?_)
    · refine lv_iconst (v := (-1)) hx hb dX7_keep_21 (by decide) ?_
      exact r_iret C0 X hP hS hr hlk dX7_keep_22 ⟨(by simp only [h_1, c_3, Int32.not_le.mpr c_3, if_true, if_false, ite_true, ite_false, true_and, and_true, false_and, and_false, true_or, or_true, false_or, or_false, not_true_eq_false, not_false_eq_true, ne_eq, and_self, or_self]; try rfl), fun _ _ => rfl⟩
    · refine lv_iload_n hx hb dX7_keep_16 rfl (lv_at hl 3 rfl) ?_
      refine lv_iconst (v := 1) hx hb dX7_keep_17 (by decide) ?_
      refine lv_icmp_le (tgt := 23) hx hb dX7_keep_18 (by decide) (fun c_4 => ?_) (fun c_4 => ?_)
      · refine lv_iload_n hx hb dX7_keep_23 rfl (lv_at hl 3 rfl) ?_
        refine lv_if_ne (tgt := 35) hx hb dX7_keep_24 (by decide) (fun c_5 => ?_) (fun c_5 => ?_)
        · refine lv_iload_n hx hb dX7_keep_35 rfl (lv_at hl 4 rfl) ?_
          refine lv_if_lt (tgt := 57) hx hb dX7_keep_36 (by decide) (fun c_6 => ?_) (fun c_6 => ?_)
          · refine lv_iconst (v := (-1)) hx hb dX7_keep_57 (by decide) ?_
            exact r_iret C0 X hP hS hr hlk dX7_keep_58 ⟨(by simp only [h_1, c_3, c_4, c_5, c_6, Int32.not_lt.mp c_3, Int32.not_lt.mpr c_4, Int32.not_le.mpr c_6, if_true, if_false, ite_true, ite_false, true_and, and_true, false_and, and_false, true_or, or_true, false_or, or_false, not_true_eq_false, not_false_eq_true, ne_eq, and_self, or_self]; try rfl), fun _ _ => rfl⟩
          · refine lv_iload_n hx hb dX7_keep_39 rfl (lv_at hl 4 rfl) ?_
            refine lv_bipush (v := 8) hx hb dX7_keep_40 (by decide) ?_
            refine lv_icmp_ge (tgt := 57) hx hb dX7_keep_42 (by decide) (fun c_7 => ?_) (fun c_7 => ?_)
            · refine lv_iconst (v := (-1)) hx hb dX7_keep_57 (by decide) ?_
              exact r_iret C0 X hP hS hr hlk dX7_keep_58 ⟨(by simp only [h_1, c_3, c_4, c_5, c_6, c_7, Int32.not_lt.mp c_3, Int32.not_lt.mpr c_4, Int32.not_lt.mp c_6, Int32.not_lt.mpr c_7, if_true, if_false, ite_true, ite_false, true_and, and_true, false_and, and_false, true_or, or_true, false_or, or_false, not_true_eq_false, not_false_eq_true, ne_eq, and_self, or_self]; try rfl), fun _ _ => rfl⟩
            · refine lv_iload hx hb dX7_keep_45 (lv_at hl 5 rfl) ?_
              refine lv_if_lt (tgt := 57) hx hb dX7_keep_47 (by decide) (fun c_8 => ?_) (fun c_8 => ?_)
              · refine lv_iconst (v := (-1)) hx hb dX7_keep_57 (by decide) ?_
                exact r_iret C0 X hP hS hr hlk dX7_keep_58 ⟨(by simp only [h_1, c_3, c_4, c_5, c_6, c_7, c_8, Int32.not_lt.mp c_3, Int32.not_lt.mpr c_4, Int32.not_lt.mp c_6, Int32.not_le.mp c_7, Int32.not_le.mpr c_8, if_true, if_false, ite_true, ite_false, true_and, and_true, false_and, and_false, true_or, or_true, false_or, or_false, not_true_eq_false, not_false_eq_true, ne_eq, and_self, or_self]; try rfl), fun _ _ => rfl⟩
              · refine lv_iload hx hb dX7_keep_50 (lv_at hl 5 rfl) ?_
                refine lv_bipush (v := 9) hx hb dX7_keep_52 (by decide) ?_
                refine lv_icmp_le (tgt := 59) hx hb dX7_keep_54 (by decide) (fun c_9 => ?_) (fun c_9 => ?_)
                · refine lv_aload hx hb dX7_keep_59 (lv_at hl 0 rfl) ?_
                  refine lv_iconst (v := 1) hx hb dX7_keep_61 (by decide) ?_
                  refine pf_X7_54 C0 X hP hS (68 + j_2) (kdS j_2 hj_2) dX7_keep_62 (fun H locs hP hS => ?_)
                  refine lv_aload hx hb dX7_keep_65 (lv_at hl 0 rfl) ?_
                  refine lv_iload_n hx hb dX7_keep_67 rfl (lv_at hl 4 rfl) ?_
                  refine pf_X7_127 C0 X hP hS (68 + j_2) (kdS j_2 hj_2) dX7_keep_68 (fun H locs hP hS => ?_)
                  refine lv_aload hx hb dX7_keep_71 (lv_at hl 0 rfl) ?_
                  refine lv_iload hx hb dX7_keep_73 (lv_at hl 5 rfl) ?_
                  refine pf_X7_129 C0 X hP hS (68 + j_2) (kdS j_2 hj_2) dX7_keep_75 (fun H locs hP hS => ?_)
                  refine lv_iconst (v := 0) hx hb dX7_keep_78 (by decide) ?_
                  exact r_iret C0 X hP hS hr hlk dX7_keep_79 ⟨(by simp only [h_1, c_3, c_4, c_5, c_6, c_7, c_8, c_9, Int32.not_lt.mp c_3, Int32.not_lt.mpr c_4, Int32.not_lt.mp c_6, Int32.not_le.mp c_7, Int32.not_lt.mp c_8, Int32.not_lt.mpr c_9, if_true, if_false, ite_true, ite_false, true_and, and_true, false_and, and_false, true_or, or_true, false_or, or_false, not_true_eq_false, not_false_eq_true, ne_eq, and_self, or_self]; try rfl), fun a9 h9 => by simp only [stm_ne _ _ _ (show a9 ≠ 68 + j_2 by omega)]⟩
                · refine lv_iconst (v := (-1)) hx hb dX7_keep_57 (by decide) ?_
                  exact r_iret C0 X hP hS hr hlk dX7_keep_58 ⟨(by simp only [h_1, c_3, c_4, c_5, c_6, c_7, c_8, c_9, Int32.not_lt.mp c_3, Int32.not_lt.mpr c_4, Int32.not_lt.mp c_6, Int32.not_le.mp c_7, Int32.not_lt.mp c_8, Int32.not_le.mp c_9, if_true, if_false, ite_true, ite_false, true_and, and_true, false_and, and_false, true_or, or_true, false_or, or_false, not_true_eq_false, not_false_eq_true, ne_eq, and_self, or_self]; try rfl), fun _ _ => rfl⟩
        · refine lv_aload hx hb dX7_keep_27 (lv_at hl 0 rfl) ?_
          refine lv_iconst (v := 0) hx hb dX7_keep_29 (by decide) ?_
          refine pf_X7_54 C0 X hP hS (68 + j_2) (kdS j_2 hj_2) dX7_keep_30 (fun H locs hP hS => ?_)
          refine lv_iconst (v := 0) hx hb dX7_keep_33 (by decide) ?_
          exact r_iret C0 X hP hS hr hlk dX7_keep_34 ⟨(by simp only [h_1, c_3, c_4, c_5, Int32.not_lt.mp c_3, Int32.not_lt.mpr c_4, if_true, if_false, ite_true, ite_false, true_and, and_true, false_and, and_false, true_or, or_true, false_or, or_false, not_true_eq_false, not_false_eq_true, ne_eq, and_self, or_self]; try rfl), fun a9 h9 => by simp only [stm_ne _ _ _ (show a9 ≠ 68 + j_2 by omega)]⟩
      · refine lv_iconst (v := (-1)) hx hb dX7_keep_21 (by decide) ?_
        exact r_iret C0 X hP hS hr hlk dX7_keep_22 ⟨(by simp only [h_1, c_3, c_4, Int32.not_lt.mp c_3, Int32.not_le.mp c_4, if_true, if_false, ite_true, ite_false, true_and, and_true, false_and, and_false, true_or, or_true, false_or, or_false, not_true_eq_false, not_false_eq_true, ne_eq, and_self, or_self]; try rfl), fun _ _ => rfl⟩
theorem dX7_row_0 : decode cX7_row 0 = .ok (.aload_n 0, 1) := by decide +kernel
theorem dX7_row_1 : decode cX7_row 1 = .ok (.iload_n 1, 1) := by decide +kernel
theorem dX7_row_2 : decode cX7_row 2 = .ok (.invokevirtual 50, 3) := by decide +kernel
theorem dX7_row_5 : decode cX7_row 5 = .ok (.astore 4, 2) := by decide +kernel
theorem dX7_row_7 : decode cX7_row 7 = .ok (.aload 4, 2) := by decide +kernel
theorem dX7_row_9 : decode cX7_row 9 = .ok (.ifnull 18, 3) := by decide +kernel
theorem dX7_row_12 : decode cX7_row 12 = .ok (.iload_n 2, 1) := by decide +kernel
theorem dX7_row_13 : decode cX7_row 13 = .ok (.ifCond .lt 14, 3) := by decide +kernel
theorem dX7_row_16 : decode cX7_row 16 = .ok (.iload_n 2, 1) := by decide +kernel
theorem dX7_row_17 : decode cX7_row 17 = .ok (.iconst 2, 1) := by decide +kernel
theorem dX7_row_18 : decode cX7_row 18 = .ok (.if_icmp .gt 9, 3) := by decide +kernel
theorem dX7_row_21 : decode cX7_row 21 = .ok (.iload_n 3, 1) := by decide +kernel
theorem dX7_row_22 : decode cX7_row 22 = .ok (.bipush 100, 2) := by decide +kernel
theorem dX7_row_24 : decode cX7_row 24 = .ok (.if_icmp .le 5, 3) := by decide +kernel
theorem dX7_row_27 : decode cX7_row 27 = .ok (.iconst (-1), 1) := by decide +kernel
theorem dX7_row_28 : decode cX7_row 28 = .ok (.ireturn, 1) := by decide +kernel
theorem dX7_row_29 : decode cX7_row 29 = .ok (.iload_n 3, 1) := by decide +kernel
theorem dX7_row_30 : decode cX7_row 30 = .ok (.ifCond .ge 6, 3) := by decide +kernel
theorem dX7_row_33 : decode cX7_row 33 = .ok (.bipush (-14), 2) := by decide +kernel
theorem dX7_row_35 : decode cX7_row 35 = .ok (.ireturn, 1) := by decide +kernel
theorem dX7_row_36 : decode cX7_row 36 = .ok (.aload 4, 2) := by decide +kernel
theorem dX7_row_38 : decode cX7_row 38 = .ok (.iload_n 2, 1) := by decide +kernel
theorem dX7_row_39 : decode cX7_row 39 = .ok (.iload_n 3, 1) := by decide +kernel
theorem dX7_row_40 : decode cX7_row 40 = .ok (.invokevirtual 281, 3) := by decide +kernel
theorem dX7_row_43 : decode cX7_row 43 = .ok (.iconst 0, 1) := by decide +kernel
theorem dX7_row_44 : decode cX7_row 44 = .ok (.ireturn, 1) := by decide +kernel
set_option maxHeartbeats 4000000 in
set_option maxRecDepth 100000 in
theorem c_X7_row_f (l : Launch) (D : va_G) (cA : Nat → ClassId) (ad : Nat → Nat) (o : Int64) (σ : Mem) (d : Int32) (w : Int32) (n : Int32) (hF : Fr σ) (sz : Nat) : Met l yX7_row (WY yX7_row cX7_row 5 (some .int)) (RM 1) (va_Pc [.ref (ad 66), .int d, .int w, .int n] (PW D cA ad o σ sz)) (va_Qi (fun r (σ9 : Mem) => r = (if (d < 0 ∨ 8 ≤ d) ∨ w < 0 ∨ 2 < w ∨ 100 < n then -1 else if n < 0 then -14 else 0) ∧ ∀ a9, 91 ≤ a9 → σ9 a9 = σ a9) (QW D cA ad o) (FA ad sz)) 0 0 (FA ad sz) := by
  refine ct_of (own := RX7) (k := 1) (Qf := va_Qi (fun r (σ9 : Mem) => r = (if (d < 0 ∨ 8 ≤ d) ∨ w < 0 ∨ 2 < w ∨ 100 < n then -1 else if n < 0 then -14 else 0) ∧ ∀ a9, 91 ≤ a9 → σ9 a9 = σ a9) (QW D cA ad o)) rfl (by decide) (Nat.le_of_ble_eq_true rfl) (fun p e s m below meth c ls C0 X hr hlk hP hl => ?_) sz
  have hS : va_S (FA ad s.heap.size) s.heap s.heap [] := va_S.rf
  have hl : lv_has ls 5 [(0, .ref (ad 66)), (1, .int d), (2, .int w), (3, .int n)] := hl
  obtain ⟨hx, hb, hml, hown, hts⟩ := id C0
  refine lv_aload_n hx hb dX7_row_0 rfl (lv_at hl 0 rfl) ?_
  refine lv_iload_n hx hb dX7_row_1 rfl (lv_at hl 1 rfl) ?_
  refine r_cq X hS (r_runV (As := [.int d]) (rest := []) C0 X hP L_X7_50 (fun sz => c_X7_shelfAt l D cA ad o σ d  sz) (show 66 < 106 ∧ kd 66 = (7, 8) from ⟨by decide, rfl⟩).1 (show 66 < 106 ∧ kd 66 = (7, 8) from ⟨by decide, rfl⟩).2 (by decide) rfl ⟨Nat.le_of_ble_eq_true rfl, Nat.le_of_ble_eq_true rfl⟩ rfl hl.1 rfl (Nat.le_of_ble_eq_true rfl) dX7_row_2 ⟨Nat.zero_le _, Nat.zero_le _⟩) (fun σ9 H locs hw hP hS => ?_) (fun x9 σ9 H locs hw hP hS => ?_)
  · rw [hw.1] at hP
    have h_1 := hw.2
    refine lv_astoreN (lv' := [(4, .null), (0, .ref (ad 66)), (1, .int d), (2, .int w), (3, .int n)]) hx hb dX7_row_5 hl (by decide) rfl (fun ls hl => ?_)
    refine lv_aloadN hx hb dX7_row_7 (lv_at hl 0 rfl) ?_
    refine lv_ifnullN (tgt := 27) hx hb dX7_row_9 (by decide) ?_
    refine lv_iconst (v := (-1)) hx hb dX7_row_27 (by decide) ?_
    exact r_iret C0 X hP hS hr hlk dX7_row_28 ⟨(by simp only [h_1, if_true, if_false, ite_true, ite_false, true_and, and_true, false_and, and_false, true_or, or_true, false_or, or_false, not_true_eq_false, not_false_eq_true, ne_eq, and_self, or_self]; try rfl), fun _ _ => rfl⟩
  · rw [hw.1] at hP
    obtain ⟨-, j_2, hj_2, ej_2, rfl⟩ := hw
    have h_1 : ¬ (d < 0 ∨ 8 ≤ d) := by rw [ej_2]; exact nosh hj_2
    refine lv_astore (lv' := [(4, .ref (ad (68 + j_2))), (0, .ref (ad 66)), (1, .int d), (2, .int w), (3, .int n)]) hx hb dX7_row_5 hl (by decide) rfl (fun ls hl => ?_)
    refine lv_aload hx hb dX7_row_7 (lv_at hl 0 rfl) ?_
    refine lv_ifnull hx hb dX7_row_9 ?_
    refine lv_iload_n hx hb dX7_row_12 rfl (lv_at hl 3 rfl) ?_
    refine lv_if_lt (tgt := 27) hx hb dX7_row_13 (by decide) (fun c_3 => ?_) (fun c_3 => ?_)
    · refine lv_iconst (v := (-1)) hx hb dX7_row_27 (by decide) ?_
      exact r_iret C0 X hP hS hr hlk dX7_row_28 ⟨(by simp only [h_1, c_3, Int32.not_le.mpr c_3, if_true, if_false, ite_true, ite_false, true_and, and_true, false_and, and_false, true_or, or_true, false_or, or_false, not_true_eq_false, not_false_eq_true, ne_eq, and_self, or_self]; try rfl), fun _ _ => rfl⟩
    · refine lv_iload_n hx hb dX7_row_16 rfl (lv_at hl 3 rfl) ?_
      refine lv_iconst (v := 2) hx hb dX7_row_17 (by decide) ?_
      refine lv_icmp_gt (tgt := 27) hx hb dX7_row_18 (by decide) (fun c_4 => ?_) (fun c_4 => ?_)
      · refine lv_iconst (v := (-1)) hx hb dX7_row_27 (by decide) ?_
        exact r_iret C0 X hP hS hr hlk dX7_row_28 ⟨(by simp only [h_1, c_3, c_4, Int32.not_lt.mp c_3, Int32.not_le.mpr c_4, if_true, if_false, ite_true, ite_false, true_and, and_true, false_and, and_false, true_or, or_true, false_or, or_false, not_true_eq_false, not_false_eq_true, ne_eq, and_self, or_self]; try rfl), fun _ _ => rfl⟩
      · refine lv_iload_n hx hb dX7_row_21 rfl (lv_at hl 4 rfl) ?_
        refine lv_bipush (v := 100) hx hb dX7_row_22 (by decide) ?_
        refine lv_icmp_le (tgt := 29) hx hb dX7_row_24 (by decide) (fun c_5 => ?_) (fun c_5 => ?_)
        · refine lv_iload_n hx hb dX7_row_29 rfl (lv_at hl 4 rfl) ?_
          refine lv_if_ge (tgt := 36) hx hb dX7_row_30 (by decide) (fun c_6 => ?_) (fun c_6 => ?_)
          · refine lv_aload hx hb dX7_row_36 (lv_at hl 0 rfl) ?_
            refine lv_iload_n hx hb dX7_row_38 rfl (lv_at hl 3 rfl) ?_
            refine lv_iload_n hx hb dX7_row_39 rfl (lv_at hl 4 rfl) ?_
            refine r_cv X hS (r_runV (As := [.int w, .int n]) (rest := []) C0 X hP L_X7_281 (fun sz => c_X5_becomeRow l D cA ad o σ j_2 w n hj_2 sz) (kdS j_2 hj_2).1 (kdS j_2 hj_2).2 (by decide) rfl ⟨Nat.le_of_ble_eq_true rfl, Nat.le_of_ble_eq_true rfl⟩ rfl hl.1 rfl (Nat.le_of_ble_eq_true rfl) dX7_row_40 ⟨Nat.zero_le _, Nat.zero_le _⟩) (fun σ9 H locs hw hP hS => ?_)
            rw [hw] at hP
            refine lv_iconst (v := 0) hx hb dX7_row_43 (by decide) ?_
            exact r_iret C0 X hP hS hr hlk dX7_row_44 ⟨(by simp only [h_1, c_3, c_4, c_5, c_6, Int32.not_lt.mp c_3, Int32.not_lt.mp c_4, Int32.not_lt.mpr c_5, Int32.not_lt.mpr c_6, if_true, if_false, ite_true, ite_false, true_and, and_true, false_and, and_false, true_or, or_true, false_or, or_false, not_true_eq_false, not_false_eq_true, ne_eq, and_self, or_self]; try rfl), fun a9 h9 => by rw [rz_ne _ _ (show a9 ≠ 76 + j_2 by omega)]; simp only [stm_ne _ _ _ (show a9 ≠ 68 + j_2 by omega)]⟩
          · refine lv_bipush (v := (-14)) hx hb dX7_row_33 (by decide) ?_
            exact r_iret C0 X hP hS hr hlk dX7_row_35 ⟨(by simp only [h_1, c_3, c_4, c_5, c_6, Int32.not_lt.mp c_3, Int32.not_lt.mp c_4, Int32.not_lt.mpr c_5, Int32.not_le.mp c_6, if_true, if_false, ite_true, ite_false, true_and, and_true, false_and, and_false, true_or, or_true, false_or, or_false, not_true_eq_false, not_false_eq_true, ne_eq, and_self, or_self]; try rfl), fun _ _ => rfl⟩
        · refine lv_iconst (v := (-1)) hx hb dX7_row_27 (by decide) ?_
          exact r_iret C0 X hP hS hr hlk dX7_row_28 ⟨(by simp only [h_1, c_3, c_4, c_5, Int32.not_lt.mp c_3, Int32.not_lt.mp c_4, Int32.not_le.mp c_5, if_true, if_false, ite_true, ite_false, true_and, and_true, false_and, and_false, true_or, or_true, false_or, or_false, not_true_eq_false, not_false_eq_true, ne_eq, and_self, or_self]; try rfl), fun _ _ => rfl⟩
theorem dX7_put_0 : decode cX7_put 0 = .ok (.aload_n 0, 1) := by decide +kernel
theorem dX7_put_1 : decode cX7_put 1 = .ok (.iload_n 1, 1) := by decide +kernel
theorem dX7_put_2 : decode cX7_put 2 = .ok (.invokevirtual 50, 3) := by decide +kernel
theorem dX7_put_5 : decode cX7_put 5 = .ok (.astore 4, 2) := by decide +kernel
theorem dX7_put_7 : decode cX7_put 7 = .ok (.aload 4, 2) := by decide +kernel
theorem dX7_put_9 : decode cX7_put 9 = .ok (.ifnonnull 5, 3) := by decide +kernel
theorem dX7_put_12 : decode cX7_put 12 = .ok (.iconst (-1), 1) := by decide +kernel
theorem dX7_put_13 : decode cX7_put 13 = .ok (.ireturn, 1) := by decide +kernel
theorem dX7_put_14 : decode cX7_put 14 = .ok (.aload 4, 2) := by decide +kernel
theorem dX7_put_16 : decode cX7_put 16 = .ok (.getfield 54, 3) := by decide +kernel
theorem dX7_put_19 : decode cX7_put 19 = .ok (.ifCond .ne 6, 3) := by decide +kernel
theorem dX7_put_22 : decode cX7_put 22 = .ok (.bipush (-11), 2) := by decide +kernel
theorem dX7_put_24 : decode cX7_put 24 = .ok (.ireturn, 1) := by decide +kernel
theorem dX7_put_25 : decode cX7_put 25 = .ok (.aload 4, 2) := by decide +kernel
theorem dX7_put_27 : decode cX7_put 27 = .ok (.getfield 54, 3) := by decide +kernel
theorem dX7_put_30 : decode cX7_put 30 = .ok (.iconst 2, 1) := by decide +kernel
theorem dX7_put_31 : decode cX7_put 31 = .ok (.if_icmp .eq 6, 3) := by decide +kernel
theorem dX7_put_34 : decode cX7_put 34 = .ok (.bipush (-12), 2) := by decide +kernel
theorem dX7_put_36 : decode cX7_put 36 = .ok (.ireturn, 1) := by decide +kernel
theorem dX7_put_37 : decode cX7_put 37 = .ok (.aload 4, 2) := by decide +kernel
theorem dX7_put_39 : decode cX7_put 39 = .ok (.iload_n 2, 1) := by decide +kernel
theorem dX7_put_40 : decode cX7_put 40 = .ok (.invokevirtual 284, 3) := by decide +kernel
theorem dX7_put_43 : decode cX7_put 43 = .ok (.ifCond .ne 6, 3) := by decide +kernel
theorem dX7_put_46 : decode cX7_put 46 = .ok (.bipush (-13), 2) := by decide +kernel
theorem dX7_put_48 : decode cX7_put 48 = .ok (.ireturn, 1) := by decide +kernel
theorem dX7_put_49 : decode cX7_put 49 = .ok (.aload 4, 2) := by decide +kernel
theorem dX7_put_51 : decode cX7_put 51 = .ok (.getfield 207, 3) := by decide +kernel
theorem dX7_put_54 : decode cX7_put 54 = .ok (.iload_n 2, 1) := by decide +kernel
theorem dX7_put_55 : decode cX7_put 55 = .ok (.aload 4, 2) := by decide +kernel
theorem dX7_put_57 : decode cX7_put 57 = .ok (.iload_n 3, 1) := by decide +kernel
theorem dX7_put_58 : decode cX7_put 58 = .ok (.invokevirtual 287, 3) := by decide +kernel
theorem dX7_put_61 : decode cX7_put 61 = .ok (.iastore, 1) := by decide +kernel
theorem dX7_put_62 : decode cX7_put 62 = .ok (.iconst 0, 1) := by decide +kernel
theorem dX7_put_63 : decode cX7_put 63 = .ok (.ireturn, 1) := by decide +kernel
set_option maxHeartbeats 4000000 in
set_option maxRecDepth 100000 in
theorem c_X7_put_f (l : Launch) (D : va_G) (cA : Nat → ClassId) (ad : Nat → Nat) (o : Int64) (σ : Mem) (d : Int32) (i : Int32) (v : Int32) (hF : Fr σ) (sz : Nat) : Met l yX7_put (WY yX7_put cX7_put 5 (some .int)) (RM 1) (va_Pc [.ref (ad 66), .int d, .int i, .int v] (PW D cA ad o σ sz)) (va_Qi (fun r (σ9 : Mem) => r = (if d < 0 ∨ 8 ≤ d then -1 else -11) ∧ ∀ a9, 91 ≤ a9 → σ9 a9 = σ a9) (QW D cA ad o) (FA ad sz)) 0 0 (FA ad sz) := by
  refine ct_of (own := RX7) (k := 1) (Qf := va_Qi (fun r (σ9 : Mem) => r = (if d < 0 ∨ 8 ≤ d then -1 else -11) ∧ ∀ a9, 91 ≤ a9 → σ9 a9 = σ a9) (QW D cA ad o)) rfl (by decide) (Nat.le_of_ble_eq_true rfl) (fun p e s m below meth c ls C0 X hr hlk hP hl => ?_) sz
  have hS : va_S (FA ad s.heap.size) s.heap s.heap [] := va_S.rf
  have hl : lv_has ls 5 [(0, .ref (ad 66)), (1, .int d), (2, .int i), (3, .int v)] := hl
  obtain ⟨hx, hb, hml, hown, hts⟩ := id C0
  refine lv_aload_n hx hb dX7_put_0 rfl (lv_at hl 0 rfl) ?_
  refine lv_iload_n hx hb dX7_put_1 rfl (lv_at hl 1 rfl) ?_
  refine r_cq X hS (r_runV (As := [.int d]) (rest := []) C0 X hP L_X7_50 (fun sz => c_X7_shelfAt l D cA ad o σ d  sz) (show 66 < 106 ∧ kd 66 = (7, 8) from ⟨by decide, rfl⟩).1 (show 66 < 106 ∧ kd 66 = (7, 8) from ⟨by decide, rfl⟩).2 (by decide) rfl ⟨Nat.le_of_ble_eq_true rfl, Nat.le_of_ble_eq_true rfl⟩ rfl hl.1 rfl (Nat.le_of_ble_eq_true rfl) dX7_put_2 ⟨Nat.zero_le _, Nat.zero_le _⟩) (fun σ9 H locs hw hP hS => ?_) (fun x9 σ9 H locs hw hP hS => ?_)
  · rw [hw.1] at hP
    have h_1 := hw.2
    refine lv_astoreN (lv' := [(4, .null), (0, .ref (ad 66)), (1, .int d), (2, .int i), (3, .int v)]) hx hb dX7_put_5 hl (by decide) rfl (fun ls hl => ?_)
    refine lv_aloadN hx hb dX7_put_7 (lv_at hl 0 rfl) ?_
    refine lv_ifnonnullN hx hb dX7_put_9 ?_
    refine lv_iconst (v := (-1)) hx hb dX7_put_12 (by decide) ?_
    exact r_iret C0 X hP hS hr hlk dX7_put_13 ⟨(by simp only [h_1, if_true, if_false, ite_true, ite_false, true_and, and_true, false_and, and_false, true_or, or_true, false_or, or_false, not_true_eq_false, not_false_eq_true, ne_eq, and_self, or_self]; try rfl), fun _ _ => rfl⟩
  · rw [hw.1] at hP
    obtain ⟨-, j_2, hj_2, ej_2, rfl⟩ := hw
    have h_1 : ¬ (d < 0 ∨ 8 ≤ d) := by rw [ej_2]; exact nosh hj_2
    refine lv_astore (lv' := [(4, .ref (ad (68 + j_2))), (0, .ref (ad 66)), (1, .int d), (2, .int i), (3, .int v)]) hx hb dX7_put_5 hl (by decide) rfl (fun ls hl => ?_)
    refine lv_aload hx hb dX7_put_7 (lv_at hl 0 rfl) ?_
    refine lv_ifnonnull (tgt := 14) hx hb dX7_put_9 (by decide) ?_
    refine lv_aload hx hb dX7_put_14 (lv_at hl 0 rfl) ?_
    refine gf_X7_54 C0 X hP (68 + j_2) (kdS j_2 hj_2) dX7_put_16 ?_
    refine lv_topE (y := 0) (Fr_holds hF hj_2) ?_
    refine lv_if_ne (tgt := 25) hx hb dX7_put_19 (by decide) (fun c_3 => absurd c_3 (by decide)) (fun c_3 => ?_)
    refine lv_bipush (v := (-11)) hx hb dX7_put_22 (by decide) ?_
    exact r_iret C0 X hP hS hr hlk dX7_put_24 ⟨(by simp only [h_1, if_true, if_false, ite_true, ite_false, true_and, and_true, false_and, and_false, true_or, or_true, false_or, or_false, not_true_eq_false, not_false_eq_true, ne_eq, and_self, or_self]; try rfl), fun _ _ => rfl⟩
theorem dX7_words_0 : decode cX7_words 0 = .ok (.aload_n 0, 1) := by decide +kernel
theorem dX7_words_1 : decode cX7_words 1 = .ok (.iload_n 1, 1) := by decide +kernel
theorem dX7_words_2 : decode cX7_words 2 = .ok (.invokevirtual 50, 3) := by decide +kernel
theorem dX7_words_5 : decode cX7_words 5 = .ok (.astore_n 2, 1) := by decide +kernel
theorem dX7_words_6 : decode cX7_words 6 = .ok (.aload_n 2, 1) := by decide +kernel
theorem dX7_words_7 : decode cX7_words 7 = .ok (.ifnonnull 5, 3) := by decide +kernel
theorem dX7_words_10 : decode cX7_words 10 = .ok (.iconst (-1), 1) := by decide +kernel
theorem dX7_words_11 : decode cX7_words 11 = .ok (.ireturn, 1) := by decide +kernel
theorem dX7_words_12 : decode cX7_words 12 = .ok (.aload_n 2, 1) := by decide +kernel
theorem dX7_words_13 : decode cX7_words 13 = .ok (.getfield 54, 3) := by decide +kernel
theorem dX7_words_16 : decode cX7_words 16 = .ok (.ifCond .ne 6, 3) := by decide +kernel
theorem dX7_words_19 : decode cX7_words 19 = .ok (.bipush (-11), 2) := by decide +kernel
theorem dX7_words_21 : decode cX7_words 21 = .ok (.ireturn, 1) := by decide +kernel
theorem dX7_words_22 : decode cX7_words 22 = .ok (.aload_n 2, 1) := by decide +kernel
theorem dX7_words_23 : decode cX7_words 23 = .ok (.getfield 54, 3) := by decide +kernel
theorem dX7_words_26 : decode cX7_words 26 = .ok (.iconst 1, 1) := by decide +kernel
theorem dX7_words_27 : decode cX7_words 27 = .ok (.if_icmp .eq 6, 3) := by decide +kernel
theorem dX7_words_30 : decode cX7_words 30 = .ok (.bipush (-12), 2) := by decide +kernel
theorem dX7_words_32 : decode cX7_words 32 = .ok (.ireturn, 1) := by decide +kernel
theorem dX7_words_33 : decode cX7_words 33 = .ok (.aload_n 2, 1) := by decide +kernel
theorem dX7_words_34 : decode cX7_words 34 = .ok (.getfield 127, 3) := by decide +kernel
theorem dX7_words_37 : decode cX7_words 37 = .ok (.aload_n 2, 1) := by decide +kernel
theorem dX7_words_38 : decode cX7_words 38 = .ok (.getfield 129, 3) := by decide +kernel
theorem dX7_words_41 : decode cX7_words 41 = .ok (.invokestatic 249, 3) := by decide +kernel
theorem dX7_words_44 : decode cX7_words 44 = .ok (.ireturn, 1) := by decide +kernel
set_option maxHeartbeats 4000000 in
set_option maxRecDepth 100000 in
theorem c_X7_words_f (l : Launch) (D : va_G) (cA : Nat → ClassId) (ad : Nat → Nat) (o : Int64) (σ : Mem) (d : Int32) (hF : Fr σ) (sz : Nat) : Met l yX7_words (WY yX7_words cX7_words 3 (some .int)) (RM 1) (va_Pc [.ref (ad 66), .int d] (PW D cA ad o σ sz)) (va_Qi (fun r (σ9 : Mem) => r = (if d < 0 ∨ 8 ≤ d then -1 else -11) ∧ ∀ a9, 91 ≤ a9 → σ9 a9 = σ a9) (QW D cA ad o) (FA ad sz)) 0 0 (FA ad sz) := by
  refine ct_of (own := RX7) (k := 1) (Qf := va_Qi (fun r (σ9 : Mem) => r = (if d < 0 ∨ 8 ≤ d then -1 else -11) ∧ ∀ a9, 91 ≤ a9 → σ9 a9 = σ a9) (QW D cA ad o)) rfl (by decide) (Nat.le_of_ble_eq_true rfl) (fun p e s m below meth c ls C0 X hr hlk hP hl => ?_) sz
  have hS : va_S (FA ad s.heap.size) s.heap s.heap [] := va_S.rf
  have hl : lv_has ls 3 [(0, .ref (ad 66)), (1, .int d)] := hl
  obtain ⟨hx, hb, hml, hown, hts⟩ := id C0
  refine lv_aload_n hx hb dX7_words_0 rfl (lv_at hl 0 rfl) ?_
  refine lv_iload_n hx hb dX7_words_1 rfl (lv_at hl 1 rfl) ?_
  refine r_cq X hS (r_runV (As := [.int d]) (rest := []) C0 X hP L_X7_50 (fun sz => c_X7_shelfAt l D cA ad o σ d  sz) (show 66 < 106 ∧ kd 66 = (7, 8) from ⟨by decide, rfl⟩).1 (show 66 < 106 ∧ kd 66 = (7, 8) from ⟨by decide, rfl⟩).2 (by decide) rfl ⟨Nat.le_of_ble_eq_true rfl, Nat.le_of_ble_eq_true rfl⟩ rfl hl.1 rfl (Nat.le_of_ble_eq_true rfl) dX7_words_2 ⟨Nat.zero_le _, Nat.zero_le _⟩) (fun σ9 H locs hw hP hS => ?_) (fun x9 σ9 H locs hw hP hS => ?_)
  · rw [hw.1] at hP
    have h_1 := hw.2
    refine lv_astore_nN (lv' := [(2, .null), (0, .ref (ad 66)), (1, .int d)]) hx hb dX7_words_5 rfl hl (by decide) rfl (fun ls hl => ?_)
    refine lv_aload_nN hx hb dX7_words_6 rfl (lv_at hl 0 rfl) ?_
    refine lv_ifnonnullN hx hb dX7_words_7 ?_
    refine lv_iconst (v := (-1)) hx hb dX7_words_10 (by decide) ?_
    exact r_iret C0 X hP hS hr hlk dX7_words_11 ⟨(by simp only [h_1, if_true, if_false, ite_true, ite_false, true_and, and_true, false_and, and_false, true_or, or_true, false_or, or_false, not_true_eq_false, not_false_eq_true, ne_eq, and_self, or_self]; try rfl), fun _ _ => rfl⟩
  · rw [hw.1] at hP
    obtain ⟨-, j_2, hj_2, ej_2, rfl⟩ := hw
    have h_1 : ¬ (d < 0 ∨ 8 ≤ d) := by rw [ej_2]; exact nosh hj_2
    refine lv_astore_n (lv' := [(2, .ref (ad (68 + j_2))), (0, .ref (ad 66)), (1, .int d)]) hx hb dX7_words_5 rfl hl (by decide) rfl (fun ls hl => ?_)
    refine lv_aload_n hx hb dX7_words_6 rfl (lv_at hl 0 rfl) ?_
    refine lv_ifnonnull (tgt := 12) hx hb dX7_words_7 (by decide) ?_
    refine lv_aload_n hx hb dX7_words_12 rfl (lv_at hl 0 rfl) ?_
    refine gf_X7_54 C0 X hP (68 + j_2) (kdS j_2 hj_2) dX7_words_13 ?_
    refine lv_topE (y := 0) (Fr_holds hF hj_2) ?_
    refine lv_if_ne (tgt := 22) hx hb dX7_words_16 (by decide) (fun c_3 => absurd c_3 (by decide)) (fun c_3 => ?_)
    refine lv_bipush (v := (-11)) hx hb dX7_words_19 (by decide) ?_
    exact r_iret C0 X hP hS hr hlk dX7_words_21 ⟨(by simp only [h_1, if_true, if_false, ite_true, ite_false, true_and, and_true, false_and, and_false, true_or, or_true, false_or, or_false, not_true_eq_false, not_false_eq_true, ne_eq, and_self, or_self]; try rfl), fun _ _ => rfl⟩
theorem dX7_copy_0 : decode cX7_copy 0 = .ok (.aload_n 0, 1) := by decide +kernel
theorem dX7_copy_1 : decode cX7_copy 1 = .ok (.iload_n 1, 1) := by decide +kernel
theorem dX7_copy_2 : decode cX7_copy 2 = .ok (.invokevirtual 50, 3) := by decide +kernel
theorem dX7_copy_5 : decode cX7_copy 5 = .ok (.astore 6, 2) := by decide +kernel
theorem dX7_copy_7 : decode cX7_copy 7 = .ok (.aload_n 0, 1) := by decide +kernel
theorem dX7_copy_8 : decode cX7_copy 8 = .ok (.iload_n 3, 1) := by decide +kernel
theorem dX7_copy_9 : decode cX7_copy 9 = .ok (.invokevirtual 50, 3) := by decide +kernel
theorem dX7_copy_12 : decode cX7_copy 12 = .ok (.astore 7, 2) := by decide +kernel
theorem dX7_copy_14 : decode cX7_copy 14 = .ok (.aload 6, 2) := by decide +kernel
theorem dX7_copy_16 : decode cX7_copy 16 = .ok (.ifnull 8, 3) := by decide +kernel
theorem dX7_copy_19 : decode cX7_copy 19 = .ok (.aload 7, 2) := by decide +kernel
theorem dX7_copy_21 : decode cX7_copy 21 = .ok (.ifnonnull 5, 3) := by decide +kernel
theorem dX7_copy_24 : decode cX7_copy 24 = .ok (.iconst (-1), 1) := by decide +kernel
theorem dX7_copy_25 : decode cX7_copy 25 = .ok (.ireturn, 1) := by decide +kernel
theorem dX7_copy_26 : decode cX7_copy 26 = .ok (.aload 6, 2) := by decide +kernel
theorem dX7_copy_28 : decode cX7_copy 28 = .ok (.getfield 54, 3) := by decide +kernel
theorem dX7_copy_31 : decode cX7_copy 31 = .ok (.ifCond .eq 11, 3) := by decide +kernel
theorem dX7_copy_34 : decode cX7_copy 34 = .ok (.aload 7, 2) := by decide +kernel
theorem dX7_copy_36 : decode cX7_copy 36 = .ok (.getfield 54, 3) := by decide +kernel
theorem dX7_copy_39 : decode cX7_copy 39 = .ok (.ifCond .ne 6, 3) := by decide +kernel
theorem dX7_copy_42 : decode cX7_copy 42 = .ok (.bipush (-11), 2) := by decide +kernel
theorem dX7_copy_44 : decode cX7_copy 44 = .ok (.ireturn, 1) := by decide +kernel
theorem dX7_copy_45 : decode cX7_copy 45 = .ok (.aload 6, 2) := by decide +kernel
theorem dX7_copy_47 : decode cX7_copy 47 = .ok (.getfield 54, 3) := by decide +kernel
theorem dX7_copy_50 : decode cX7_copy 50 = .ok (.iconst 2, 1) := by decide +kernel
theorem dX7_copy_51 : decode cX7_copy 51 = .ok (.if_icmp .ne 25, 3) := by decide +kernel
theorem dX7_copy_54 : decode cX7_copy 54 = .ok (.aload 7, 2) := by decide +kernel
theorem dX7_copy_56 : decode cX7_copy 56 = .ok (.getfield 54, 3) := by decide +kernel
theorem dX7_copy_59 : decode cX7_copy 59 = .ok (.iconst 2, 1) := by decide +kernel
theorem dX7_copy_60 : decode cX7_copy 60 = .ok (.if_icmp .ne 16, 3) := by decide +kernel
theorem dX7_copy_63 : decode cX7_copy 63 = .ok (.aload 6, 2) := by decide +kernel
theorem dX7_copy_65 : decode cX7_copy 65 = .ok (.getfield 304, 3) := by decide +kernel
theorem dX7_copy_68 : decode cX7_copy 68 = .ok (.aload 7, 2) := by decide +kernel
theorem dX7_copy_70 : decode cX7_copy 70 = .ok (.getfield 304, 3) := by decide +kernel
theorem dX7_copy_73 : decode cX7_copy 73 = .ok (.if_icmp .eq 6, 3) := by decide +kernel
theorem dX7_copy_76 : decode cX7_copy 76 = .ok (.bipush (-12), 2) := by decide +kernel
theorem dX7_copy_78 : decode cX7_copy 78 = .ok (.ireturn, 1) := by decide +kernel
theorem dX7_copy_79 : decode cX7_copy 79 = .ok (.aload 6, 2) := by decide +kernel
theorem dX7_copy_81 : decode cX7_copy 81 = .ok (.iload_n 2, 1) := by decide +kernel
theorem dX7_copy_82 : decode cX7_copy 82 = .ok (.iload 5, 2) := by decide +kernel
theorem dX7_copy_84 : decode cX7_copy 84 = .ok (.invokevirtual 307, 3) := by decide +kernel
theorem dX7_copy_87 : decode cX7_copy 87 = .ok (.ifCond .eq 15, 3) := by decide +kernel
theorem dX7_copy_90 : decode cX7_copy 90 = .ok (.aload 7, 2) := by decide +kernel
theorem dX7_copy_92 : decode cX7_copy 92 = .ok (.iload 4, 2) := by decide +kernel
theorem dX7_copy_94 : decode cX7_copy 94 = .ok (.iload 5, 2) := by decide +kernel
theorem dX7_copy_96 : decode cX7_copy 96 = .ok (.invokevirtual 307, 3) := by decide +kernel
theorem dX7_copy_99 : decode cX7_copy 99 = .ok (.ifCond .ne 6, 3) := by decide +kernel
theorem dX7_copy_102 : decode cX7_copy 102 = .ok (.bipush (-13), 2) := by decide +kernel
theorem dX7_copy_104 : decode cX7_copy 104 = .ok (.ireturn, 1) := by decide +kernel
theorem dX7_copy_105 : decode cX7_copy 105 = .ok (.aload 6, 2) := by decide +kernel
theorem dX7_copy_107 : decode cX7_copy 107 = .ok (.getfield 207, 3) := by decide +kernel
theorem dX7_copy_110 : decode cX7_copy 110 = .ok (.iload_n 2, 1) := by decide +kernel
theorem dX7_copy_111 : decode cX7_copy 111 = .ok (.aload 7, 2) := by decide +kernel
theorem dX7_copy_113 : decode cX7_copy 113 = .ok (.getfield 207, 3) := by decide +kernel
theorem dX7_copy_116 : decode cX7_copy 116 = .ok (.iload 4, 2) := by decide +kernel
theorem dX7_copy_118 : decode cX7_copy 118 = .ok (.iload 5, 2) := by decide +kernel
theorem dX7_copy_120 : decode cX7_copy 120 = .ok (.invokestatic 310, 3) := by decide +kernel
theorem dX7_copy_123 : decode cX7_copy 123 = .ok (.iload 5, 2) := by decide +kernel
theorem dX7_copy_125 : decode cX7_copy 125 = .ok (.ireturn, 1) := by decide +kernel
set_option maxHeartbeats 4000000 in
set_option maxRecDepth 100000 in
theorem c_X7_copy_f (l : Launch) (D : va_G) (cA : Nat → ClassId) (ad : Nat → Nat) (o : Int64) (σ : Mem) (d : Int32) (i : Int32) (d2 : Int32) (j : Int32) (n : Int32) (hF : Fr σ) (sz : Nat) : Met l yX7_copy (WY yX7_copy cX7_copy 8 (some .int)) (RM 1) (va_Pc [.ref (ad 66), .int d, .int i, .int d2, .int j, .int n] (PW D cA ad o σ sz)) (va_Qi (fun r (σ9 : Mem) => r = (if (d < 0 ∨ 8 ≤ d) ∨ (d2 < 0 ∨ 8 ≤ d2) then -1 else -11) ∧ ∀ a9, 91 ≤ a9 → σ9 a9 = σ a9) (QW D cA ad o) (FA ad sz)) 0 0 (FA ad sz) := by
  refine ct_of (own := RX7) (k := 1) (Qf := va_Qi (fun r (σ9 : Mem) => r = (if (d < 0 ∨ 8 ≤ d) ∨ (d2 < 0 ∨ 8 ≤ d2) then -1 else -11) ∧ ∀ a9, 91 ≤ a9 → σ9 a9 = σ a9) (QW D cA ad o)) rfl (by decide) (Nat.le_of_ble_eq_true rfl) (fun p e s m below meth c ls C0 X hr hlk hP hl => ?_) sz
  have hS : va_S (FA ad s.heap.size) s.heap s.heap [] := va_S.rf
  have hl : lv_has ls 8 [(0, .ref (ad 66)), (1, .int d), (2, .int i), (3, .int d2), (4, .int j), (5, .int n)] := hl
  obtain ⟨hx, hb, hml, hown, hts⟩ := id C0
  refine lv_aload_n hx hb dX7_copy_0 rfl (lv_at hl 0 rfl) ?_
  refine lv_iload_n hx hb dX7_copy_1 rfl (lv_at hl 1 rfl) ?_
  refine r_cq X hS (r_runV (As := [.int d]) (rest := []) C0 X hP L_X7_50 (fun sz => c_X7_shelfAt l D cA ad o σ d  sz) (show 66 < 106 ∧ kd 66 = (7, 8) from ⟨by decide, rfl⟩).1 (show 66 < 106 ∧ kd 66 = (7, 8) from ⟨by decide, rfl⟩).2 (by decide) rfl ⟨Nat.le_of_ble_eq_true rfl, Nat.le_of_ble_eq_true rfl⟩ rfl hl.1 rfl (Nat.le_of_ble_eq_true rfl) dX7_copy_2 ⟨Nat.zero_le _, Nat.zero_le _⟩) (fun σ9 H locs hw hP hS => ?_) (fun x9 σ9 H locs hw hP hS => ?_)
  · rw [hw.1] at hP
    have h_1 := hw.2
    refine lv_astoreN (lv' := [(6, .null), (0, .ref (ad 66)), (1, .int d), (2, .int i), (3, .int d2), (4, .int j), (5, .int n)]) hx hb dX7_copy_5 hl (by decide) rfl (fun ls hl => ?_)
    refine lv_aload_n hx hb dX7_copy_7 rfl (lv_at hl 1 rfl) ?_
    refine lv_iload_n hx hb dX7_copy_8 rfl (lv_at hl 4 rfl) ?_
    refine r_cq X hS (r_runV (As := [.int d2]) (rest := []) C0 X hP L_X7_50 (fun sz => c_X7_shelfAt l D cA ad o σ d2  sz) (show 66 < 106 ∧ kd 66 = (7, 8) from ⟨by decide, rfl⟩).1 (show 66 < 106 ∧ kd 66 = (7, 8) from ⟨by decide, rfl⟩).2 (by decide) rfl ⟨Nat.le_of_ble_eq_true rfl, Nat.le_of_ble_eq_true rfl⟩ rfl hl.1 rfl (Nat.le_of_ble_eq_true rfl) dX7_copy_9 ⟨Nat.zero_le _, Nat.zero_le _⟩) (fun σ9 H locs hw hP hS => ?_) (fun x9 σ9 H locs hw hP hS => ?_)
    · rw [hw.1] at hP
      have h_3 := hw.2
      refine lv_astoreN (lv' := [(7, .null), (6, .null), (0, .ref (ad 66)), (1, .int d), (2, .int i), (3, .int d2), (4, .int j), (5, .int n)]) hx hb dX7_copy_12 hl (by decide) rfl (fun ls hl => ?_)
      refine lv_aloadN hx hb dX7_copy_14 (lv_at hl 1 rfl) ?_
      refine lv_ifnullN (tgt := 24) hx hb dX7_copy_16 (by decide) ?_
      refine lv_iconst (v := (-1)) hx hb dX7_copy_24 (by decide) ?_
      exact r_iret C0 X hP hS hr hlk dX7_copy_25 ⟨(by simp only [h_1, h_3, if_true, if_false, ite_true, ite_false, true_and, and_true, false_and, and_false, true_or, or_true, false_or, or_false, not_true_eq_false, not_false_eq_true, ne_eq, and_self, or_self]; try rfl), fun _ _ => rfl⟩
    · rw [hw.1] at hP
      obtain ⟨-, j_4, hj_4, ej_4, rfl⟩ := hw
      have h_3 : ¬ (d2 < 0 ∨ 8 ≤ d2) := by rw [ej_4]; exact nosh hj_4
      refine lv_astore (lv' := [(7, .ref (ad (68 + j_4))), (6, .null), (0, .ref (ad 66)), (1, .int d), (2, .int i), (3, .int d2), (4, .int j), (5, .int n)]) hx hb dX7_copy_12 hl (by decide) rfl (fun ls hl => ?_)
      refine lv_aloadN hx hb dX7_copy_14 (lv_at hl 1 rfl) ?_
      refine lv_ifnullN (tgt := 24) hx hb dX7_copy_16 (by decide) ?_
      refine lv_iconst (v := (-1)) hx hb dX7_copy_24 (by decide) ?_
      exact r_iret C0 X hP hS hr hlk dX7_copy_25 ⟨(by simp only [h_1, h_3, if_true, if_false, ite_true, ite_false, true_and, and_true, false_and, and_false, true_or, or_true, false_or, or_false, not_true_eq_false, not_false_eq_true, ne_eq, and_self, or_self]; try rfl), fun _ _ => rfl⟩
  · rw [hw.1] at hP
    obtain ⟨-, j_2, hj_2, ej_2, rfl⟩ := hw
    have h_1 : ¬ (d < 0 ∨ 8 ≤ d) := by rw [ej_2]; exact nosh hj_2
    refine lv_astore (lv' := [(6, .ref (ad (68 + j_2))), (0, .ref (ad 66)), (1, .int d), (2, .int i), (3, .int d2), (4, .int j), (5, .int n)]) hx hb dX7_copy_5 hl (by decide) rfl (fun ls hl => ?_)
    refine lv_aload_n hx hb dX7_copy_7 rfl (lv_at hl 1 rfl) ?_
    refine lv_iload_n hx hb dX7_copy_8 rfl (lv_at hl 4 rfl) ?_
    refine r_cq X hS (r_runV (As := [.int d2]) (rest := []) C0 X hP L_X7_50 (fun sz => c_X7_shelfAt l D cA ad o σ d2  sz) (show 66 < 106 ∧ kd 66 = (7, 8) from ⟨by decide, rfl⟩).1 (show 66 < 106 ∧ kd 66 = (7, 8) from ⟨by decide, rfl⟩).2 (by decide) rfl ⟨Nat.le_of_ble_eq_true rfl, Nat.le_of_ble_eq_true rfl⟩ rfl hl.1 rfl (Nat.le_of_ble_eq_true rfl) dX7_copy_9 ⟨Nat.zero_le _, Nat.zero_le _⟩) (fun σ9 H locs hw hP hS => ?_) (fun x9 σ9 H locs hw hP hS => ?_)
    · rw [hw.1] at hP
      have h_5 := hw.2
      refine lv_astoreN (lv' := [(7, .null), (6, .ref (ad (68 + j_2))), (0, .ref (ad 66)), (1, .int d), (2, .int i), (3, .int d2), (4, .int j), (5, .int n)]) hx hb dX7_copy_12 hl (by decide) rfl (fun ls hl => ?_)
      refine lv_aload hx hb dX7_copy_14 (lv_at hl 1 rfl) ?_
      refine lv_ifnull hx hb dX7_copy_16 ?_
      refine lv_aloadN hx hb dX7_copy_19 (lv_at hl 0 rfl) ?_
      refine lv_ifnonnullN hx hb dX7_copy_21 ?_
      refine lv_iconst (v := (-1)) hx hb dX7_copy_24 (by decide) ?_
      exact r_iret C0 X hP hS hr hlk dX7_copy_25 ⟨(by simp only [h_1, h_5, if_true, if_false, ite_true, ite_false, true_and, and_true, false_and, and_false, true_or, or_true, false_or, or_false, not_true_eq_false, not_false_eq_true, ne_eq, and_self, or_self]; try rfl), fun _ _ => rfl⟩
    · rw [hw.1] at hP
      obtain ⟨-, j_6, hj_6, ej_6, rfl⟩ := hw
      have h_5 : ¬ (d2 < 0 ∨ 8 ≤ d2) := by rw [ej_6]; exact nosh hj_6
      refine lv_astore (lv' := [(7, .ref (ad (68 + j_6))), (6, .ref (ad (68 + j_2))), (0, .ref (ad 66)), (1, .int d), (2, .int i), (3, .int d2), (4, .int j), (5, .int n)]) hx hb dX7_copy_12 hl (by decide) rfl (fun ls hl => ?_)
      refine lv_aload hx hb dX7_copy_14 (lv_at hl 1 rfl) ?_
      refine lv_ifnull hx hb dX7_copy_16 ?_
      refine lv_aload hx hb dX7_copy_19 (lv_at hl 0 rfl) ?_
      refine lv_ifnonnull (tgt := 26) hx hb dX7_copy_21 (by decide) ?_
      refine lv_aload hx hb dX7_copy_26 (lv_at hl 1 rfl) ?_
      refine gf_X7_54 C0 X hP (68 + j_2) (kdS j_2 hj_2) dX7_copy_28 ?_
      refine lv_topE (y := 0) (Fr_holds hF hj_2) ?_
      refine lv_if_eq (tgt := 42) hx hb dX7_copy_31 (by decide) (fun c_7 => ?_) (fun c_7 => absurd c_7 (by decide))
      refine lv_bipush (v := (-11)) hx hb dX7_copy_42 (by decide) ?_
      exact r_iret C0 X hP hS hr hlk dX7_copy_44 ⟨(by simp only [h_1, h_5, if_true, if_false, ite_true, ite_false, true_and, and_true, false_and, and_false, true_or, or_true, false_or, or_false, not_true_eq_false, not_false_eq_true, ne_eq, and_self, or_self]; try rfl), fun _ _ => rfl⟩
