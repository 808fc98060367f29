def bB_cX0_beginAnew : Nat := 0xb12e00b5032a2b00b5032a2800b5032a2500b5032a2200b5032a0900b5fe102a
theorem yB_cX0_beginAnew : BYS cX0_beginAnew 32 bB_cX0_beginAnew := BYS_of (by decide +kernel)
theorem dX0_beginAnew_0 : decode cX0_beginAnew 0 = .ok (.aload_n 0, 1) := D_42 yB_cX0_beginAnew rfl rfl
theorem dX0_beginAnew_1 : decode cX0_beginAnew 1 = .ok (.bipush (-2), 2) := D_16 yB_cX0_beginAnew rfl rfl (sg_n (m := 128) (N := 2) rfl rfl rfl)
theorem dX0_beginAnew_3 : decode cX0_beginAnew 3 = .ok (.putfield 9, 3) := D_181 yB_cX0_beginAnew rfl rfl rfl
theorem dX0_beginAnew_6 : decode cX0_beginAnew 6 = .ok (.aload_n 0, 1) := D_42 yB_cX0_beginAnew rfl rfl
theorem dX0_beginAnew_7 : decode cX0_beginAnew 7 = .ok (.iconst 0, 1) := D_3 yB_cX0_beginAnew rfl rfl
theorem dX0_beginAnew_8 : decode cX0_beginAnew 8 = .ok (.putfield 34, 3) := D_181 yB_cX0_beginAnew rfl rfl rfl
theorem dX0_beginAnew_11 : decode cX0_beginAnew 11 = .ok (.aload_n 0, 1) := D_42 yB_cX0_beginAnew rfl rfl
theorem dX0_beginAnew_12 : decode cX0_beginAnew 12 = .ok (.iconst 0, 1) := D_3 yB_cX0_beginAnew rfl rfl
theorem dX0_beginAnew_13 : decode cX0_beginAnew 13 = .ok (.putfield 37, 3) := D_181 yB_cX0_beginAnew rfl rfl rfl
theorem dX0_beginAnew_16 : decode cX0_beginAnew 16 = .ok (.aload_n 0, 1) := D_42 yB_cX0_beginAnew rfl rfl
theorem dX0_beginAnew_17 : decode cX0_beginAnew 17 = .ok (.iconst 0, 1) := D_3 yB_cX0_beginAnew rfl rfl
theorem dX0_beginAnew_18 : decode cX0_beginAnew 18 = .ok (.putfield 40, 3) := D_181 yB_cX0_beginAnew rfl rfl rfl
theorem dX0_beginAnew_21 : decode cX0_beginAnew 21 = .ok (.aload_n 0, 1) := D_42 yB_cX0_beginAnew rfl rfl
theorem dX0_beginAnew_22 : decode cX0_beginAnew 22 = .ok (.iconst 0, 1) := D_3 yB_cX0_beginAnew rfl rfl
theorem dX0_beginAnew_23 : decode cX0_beginAnew 23 = .ok (.putfield 43, 3) := D_181 yB_cX0_beginAnew rfl rfl rfl
theorem dX0_beginAnew_26 : decode cX0_beginAnew 26 = .ok (.aload_n 0, 1) := D_42 yB_cX0_beginAnew rfl rfl
theorem dX0_beginAnew_27 : decode cX0_beginAnew 27 = .ok (.iconst 0, 1) := D_3 yB_cX0_beginAnew rfl rfl
theorem dX0_beginAnew_28 : decode cX0_beginAnew 28 = .ok (.putfield 46, 3) := D_181 yB_cX0_beginAnew rfl rfl rfl
theorem dX0_beginAnew_31 : decode cX0_beginAnew 31 = .ok (.return_, 1) := D_177 yB_cX0_beginAnew rfl rfl
set_option maxHeartbeats 4000000 in
set_option maxRecDepth 100000 in
theorem c_X0_beginAnew (l : Launch) (D : va_G) (cA : Nat → ClassId) (ad : Nat → Nat) (o : Int64) (σ : Mem) (i : Nat) (hi : i < 106 ∧ kd i = (0, 12)) (sz : Nat) : Met l yX0_beginAnew (WY yX0_beginAnew cX0_beginAnew 1 none) (RM 0) (va_Pc [.ref (ad i)] (PW D cA ad o σ sz)) (va_Qv (fun σ9 => σ9 = cbeg σ i) (QW D cA ad o) (FA ad sz)) 0 0 (FA ad sz) := by
  refine ct_of (own := RX0) (k := 0) (Qf := va_Qv (fun σ9 => σ9 = cbeg σ i) (QW D cA ad o)) rfl (by decide) (Nat.le_of_ble_eq_true rfl) (fun p e s m below meth c ls C0 X hr hlk hP hl => ?_) sz
  have hS : va_S (FA ad s.heap.size) s.heap s.heap [] := va_S.rf
  have hl : lv_has ls 1 [(0, .ref (ad i))] := hl
  obtain ⟨hx, hb, hml, hown, hts⟩ := id C0
  refine lv_aload_n hx hb dX0_beginAnew_0 rfl (lv_at hl 0 rfl) ?_
  refine lv_bipush (v := (-2)) hx hb dX0_beginAnew_1 (by decide) ?_
  refine pf_X0_9 C0 X hP hS i hi dX0_beginAnew_3 (fun H locs hP hS => ?_)
  refine lv_aload_n hx hb dX0_beginAnew_6 rfl (lv_at hl 0 rfl) ?_
  refine lv_iconst (v := 0) hx hb dX0_beginAnew_7 (by decide) ?_
  refine pf_X0_34 C0 X hP hS i (Or.inl rfl) hi dX0_beginAnew_8 (fun H locs hP hS => ?_)
  refine lv_aload_n hx hb dX0_beginAnew_11 rfl (lv_at hl 0 rfl) ?_
  refine lv_iconst (v := 0) hx hb dX0_beginAnew_12 (by decide) ?_
  refine pf_X0_37 C0 X hP hS i (Or.inl rfl) hi dX0_beginAnew_13 (fun H locs hP hS => ?_)
  refine lv_aload_n hx hb dX0_beginAnew_16 rfl (lv_at hl 0 rfl) ?_
  refine lv_iconst (v := 0) hx hb dX0_beginAnew_17 (by decide) ?_
  refine pf_X0_40 C0 X hP hS i hi dX0_beginAnew_18 (fun H locs hP hS => ?_)
  refine lv_aload_n hx hb dX0_beginAnew_21 rfl (lv_at hl 0 rfl) ?_
  refine lv_iconst (v := 0) hx hb dX0_beginAnew_22 (by decide) ?_
  refine pf_X0_43 C0 X hP hS i hi dX0_beginAnew_23 (fun H locs hP hS => ?_)
  refine lv_aload_n hx hb dX0_beginAnew_26 rfl (lv_at hl 0 rfl) ?_
  refine lv_iconst (v := 0) hx hb dX0_beginAnew_27 (by decide) ?_
  refine pf_X0_46 C0 X hP hS i hi dX0_beginAnew_28 (fun H locs hP hS => ?_)
  exact r_vret C0 X hP hS hr hlk dX0_beginAnew_31 (cbeg_eq σ i)
def bB_cX0_copyFrom : Nat := 0xb12e00b52e00b42b2a2b00b52b00b42b2a2800b52800b42b2a2500b52500b42b2a2200b52200b42b2a0900b50900b42b2a1f00b51f00b42b2a1c00b51c00b42b2a1900b51900b42b2a1600b51600b42b2a1300b51300b42b2a0f00b50f00b42b2a
theorem yB_cX0_copyFrom : BYS cX0_copyFrom 97 bB_cX0_copyFrom := BYS_of (by decide +kernel)
theorem dX0_copyFrom_0 : decode cX0_copyFrom 0 = .ok (.aload_n 0, 1) := D_42 yB_cX0_copyFrom rfl rfl
theorem dX0_copyFrom_1 : decode cX0_copyFrom 1 = .ok (.aload_n 1, 1) := D_43 yB_cX0_copyFrom rfl rfl
theorem dX0_copyFrom_2 : decode cX0_copyFrom 2 = .ok (.getfield 15, 3) := D_180 yB_cX0_copyFrom rfl rfl rfl
theorem dX0_copyFrom_5 : decode cX0_copyFrom 5 = .ok (.putfield 15, 3) := D_181 yB_cX0_copyFrom rfl rfl rfl
theorem dX0_copyFrom_8 : decode cX0_copyFrom 8 = .ok (.aload_n 0, 1) := D_42 yB_cX0_copyFrom rfl rfl
theorem dX0_copyFrom_9 : decode cX0_copyFrom 9 = .ok (.aload_n 1, 1) := D_43 yB_cX0_copyFrom rfl rfl
theorem dX0_copyFrom_10 : decode cX0_copyFrom 10 = .ok (.getfield 19, 3) := D_180 yB_cX0_copyFrom rfl rfl rfl
theorem dX0_copyFrom_13 : decode cX0_copyFrom 13 = .ok (.putfield 19, 3) := D_181 yB_cX0_copyFrom rfl rfl rfl
theorem dX0_copyFrom_16 : decode cX0_copyFrom 16 = .ok (.aload_n 0, 1) := D_42 yB_cX0_copyFrom rfl rfl
theorem dX0_copyFrom_17 : decode cX0_copyFrom 17 = .ok (.aload_n 1, 1) := D_43 yB_cX0_copyFrom rfl rfl
theorem dX0_copyFrom_18 : decode cX0_copyFrom 18 = .ok (.getfield 22, 3) := D_180 yB_cX0_copyFrom rfl rfl rfl
theorem dX0_copyFrom_21 : decode cX0_copyFrom 21 = .ok (.putfield 22, 3) := D_181 yB_cX0_copyFrom rfl rfl rfl
theorem dX0_copyFrom_24 : decode cX0_copyFrom 24 = .ok (.aload_n 0, 1) := D_42 yB_cX0_copyFrom rfl rfl
theorem dX0_copyFrom_25 : decode cX0_copyFrom 25 = .ok (.aload_n 1, 1) := D_43 yB_cX0_copyFrom rfl rfl
theorem dX0_copyFrom_26 : decode cX0_copyFrom 26 = .ok (.getfield 25, 3) := D_180 yB_cX0_copyFrom rfl rfl rfl
theorem dX0_copyFrom_29 : decode cX0_copyFrom 29 = .ok (.putfield 25, 3) := D_181 yB_cX0_copyFrom rfl rfl rfl
theorem dX0_copyFrom_32 : decode cX0_copyFrom 32 = .ok (.aload_n 0, 1) := D_42 yB_cX0_copyFrom rfl rfl
theorem dX0_copyFrom_33 : decode cX0_copyFrom 33 = .ok (.aload_n 1, 1) := D_43 yB_cX0_copyFrom rfl rfl
theorem dX0_copyFrom_34 : decode cX0_copyFrom 34 = .ok (.getfield 28, 3) := D_180 yB_cX0_copyFrom rfl rfl rfl
theorem dX0_copyFrom_37 : decode cX0_copyFrom 37 = .ok (.putfield 28, 3) := D_181 yB_cX0_copyFrom rfl rfl rfl
theorem dX0_copyFrom_40 : decode cX0_copyFrom 40 = .ok (.aload_n 0, 1) := D_42 yB_cX0_copyFrom rfl rfl
theorem dX0_copyFrom_41 : decode cX0_copyFrom 41 = .ok (.aload_n 1, 1) := D_43 yB_cX0_copyFrom rfl rfl
theorem dX0_copyFrom_42 : decode cX0_copyFrom 42 = .ok (.getfield 31, 3) := D_180 yB_cX0_copyFrom rfl rfl rfl
theorem dX0_copyFrom_45 : decode cX0_copyFrom 45 = .ok (.putfield 31, 3) := D_181 yB_cX0_copyFrom rfl rfl rfl
theorem dX0_copyFrom_48 : decode cX0_copyFrom 48 = .ok (.aload_n 0, 1) := D_42 yB_cX0_copyFrom rfl rfl
theorem dX0_copyFrom_49 : decode cX0_copyFrom 49 = .ok (.aload_n 1, 1) := D_43 yB_cX0_copyFrom rfl rfl
theorem dX0_copyFrom_50 : decode cX0_copyFrom 50 = .ok (.getfield 9, 3) := D_180 yB_cX0_copyFrom rfl rfl rfl
theorem dX0_copyFrom_53 : decode cX0_copyFrom 53 = .ok (.putfield 9, 3) := D_181 yB_cX0_copyFrom rfl rfl rfl
theorem dX0_copyFrom_56 : decode cX0_copyFrom 56 = .ok (.aload_n 0, 1) := D_42 yB_cX0_copyFrom rfl rfl
theorem dX0_copyFrom_57 : decode cX0_copyFrom 57 = .ok (.aload_n 1, 1) := D_43 yB_cX0_copyFrom rfl rfl
theorem dX0_copyFrom_58 : decode cX0_copyFrom 58 = .ok (.getfield 34, 3) := D_180 yB_cX0_copyFrom rfl rfl rfl
theorem dX0_copyFrom_61 : decode cX0_copyFrom 61 = .ok (.putfield 34, 3) := D_181 yB_cX0_copyFrom rfl rfl rfl
theorem dX0_copyFrom_64 : decode cX0_copyFrom 64 = .ok (.aload_n 0, 1) := D_42 yB_cX0_copyFrom rfl rfl
theorem dX0_copyFrom_65 : decode cX0_copyFrom 65 = .ok (.aload_n 1, 1) := D_43 yB_cX0_copyFrom rfl rfl
theorem dX0_copyFrom_66 : decode cX0_copyFrom 66 = .ok (.getfield 37, 3) := D_180 yB_cX0_copyFrom rfl rfl rfl
theorem dX0_copyFrom_69 : decode cX0_copyFrom 69 = .ok (.putfield 37, 3) := D_181 yB_cX0_copyFrom rfl rfl rfl
theorem dX0_copyFrom_72 : decode cX0_copyFrom 72 = .ok (.aload_n 0, 1) := D_42 yB_cX0_copyFrom rfl rfl
theorem dX0_copyFrom_73 : decode cX0_copyFrom 73 = .ok (.aload_n 1, 1) := D_43 yB_cX0_copyFrom rfl rfl
theorem dX0_copyFrom_74 : decode cX0_copyFrom 74 = .ok (.getfield 40, 3) := D_180 yB_cX0_copyFrom rfl rfl rfl
theorem dX0_copyFrom_77 : decode cX0_copyFrom 77 = .ok (.putfield 40, 3) := D_181 yB_cX0_copyFrom rfl rfl rfl
theorem dX0_copyFrom_80 : decode cX0_copyFrom 80 = .ok (.aload_n 0, 1) := D_42 yB_cX0_copyFrom rfl rfl
theorem dX0_copyFrom_81 : decode cX0_copyFrom 81 = .ok (.aload_n 1, 1) := D_43 yB_cX0_copyFrom rfl rfl
theorem dX0_copyFrom_82 : decode cX0_copyFrom 82 = .ok (.getfield 43, 3) := D_180 yB_cX0_copyFrom rfl rfl rfl
theorem dX0_copyFrom_85 : decode cX0_copyFrom 85 = .ok (.putfield 43, 3) := D_181 yB_cX0_copyFrom rfl rfl rfl
theorem dX0_copyFrom_88 : decode cX0_copyFrom 88 = .ok (.aload_n 0, 1) := D_42 yB_cX0_copyFrom rfl rfl
theorem dX0_copyFrom_89 : decode cX0_copyFrom 89 = .ok (.aload_n 1, 1) := D_43 yB_cX0_copyFrom rfl rfl
theorem dX0_copyFrom_90 : decode cX0_copyFrom 90 = .ok (.getfield 46, 3) := D_180 yB_cX0_copyFrom rfl rfl rfl
theorem dX0_copyFrom_93 : decode cX0_copyFrom 93 = .ok (.putfield 46, 3) := D_181 yB_cX0_copyFrom rfl rfl rfl
theorem dX0_copyFrom_96 : decode cX0_copyFrom 96 = .ok (.return_, 1) := D_177 yB_cX0_copyFrom rfl rfl
set_option maxHeartbeats 4000000 in
set_option maxRecDepth 100000 in
theorem c_X0_copyFrom (l : Launch) (D : va_G) (cA : Nat → ClassId) (ad : Nat → Nat) (o : Int64) (σ : Mem) (i : Nat) (j : Nat) (hi : i < 106 ∧ kd i = (0, 12)) (hj : j < 106 ∧ kd j = (0, 12)) (hne : j ≠ i) (h01 : ∀ b, b = 0 ∨ b = 1 ∨ b = 7 ∨ b = 8 → (σ j b = 0 ∨ σ j b = 1)) (sz : Nat) : Met l yX0_copyFrom (WY yX0_copyFrom cX0_copyFrom 2 none) (RM 0) (va_Pc [.ref (ad i), .ref (ad j)] (PW D cA ad o σ sz)) (va_Qv (fun σ9 => σ9 = rcpy σ i j 12) (QW D cA ad o) (FA ad sz)) 0 0 (FA ad sz) := by
  refine ct_of (own := RX0) (k := 0) (Qf := va_Qv (fun σ9 => σ9 = rcpy σ i j 12) (QW D cA ad o)) rfl (by decide) (Nat.le_of_ble_eq_true rfl) (fun p e s m below meth c ls C0 X hr hlk hP hl => ?_) sz
  have hS : va_S (FA ad s.heap.size) s.heap s.heap [] := va_S.rf
  have hl : lv_has ls 2 [(0, .ref (ad i)), (1, .ref (ad j))] := hl
  obtain ⟨hx, hb, hml, hown, hts⟩ := id C0
  refine lv_aload_n hx hb dX0_copyFrom_0 rfl (lv_at hl 0 rfl) ?_
  refine lv_aload_n hx hb dX0_copyFrom_1 rfl (lv_at hl 1 rfl) ?_
  refine gf_X0_15 C0 X hP j hj dX0_copyFrom_2 ?_
  refine lv_topE (y := (σ j 0)) rfl ?_
  refine pf_X0_15 C0 X hP hS i (h01 0 (by decide)) hi dX0_copyFrom_5 (fun H locs hP hS => ?_)
  refine lv_aload_n hx hb dX0_copyFrom_8 rfl (lv_at hl 0 rfl) ?_
  refine lv_aload_n hx hb dX0_copyFrom_9 rfl (lv_at hl 1 rfl) ?_
  refine gf_X0_19 C0 X hP j hj dX0_copyFrom_10 ?_
  refine lv_topE (y := (σ j 1)) (by simp only [stm_ne _ _ _ hne]) ?_
  refine pf_X0_19 C0 X hP hS i (h01 1 (by decide)) hi dX0_copyFrom_13 (fun H locs hP hS => ?_)
  refine lv_aload_n hx hb dX0_copyFrom_16 rfl (lv_at hl 0 rfl) ?_
  refine lv_aload_n hx hb dX0_copyFrom_17 rfl (lv_at hl 1 rfl) ?_
  refine gf_X0_22 C0 X hP j hj dX0_copyFrom_18 ?_
  refine lv_topE (y := (σ j 2)) (by simp only [stm_ne _ _ _ hne]) ?_
  refine pf_X0_22 C0 X hP hS i hi dX0_copyFrom_21 (fun H locs hP hS => ?_)
  refine lv_aload_n hx hb dX0_copyFrom_24 rfl (lv_at hl 0 rfl) ?_
  refine lv_aload_n hx hb dX0_copyFrom_25 rfl (lv_at hl 1 rfl) ?_
  refine gf_X0_25 C0 X hP j hj dX0_copyFrom_26 ?_
  refine lv_topE (y := (σ j 3)) (by simp only [stm_ne _ _ _ hne]) ?_
  refine pf_X0_25 C0 X hP hS i hi dX0_copyFrom_29 (fun H locs hP hS => ?_)
  refine lv_aload_n hx hb dX0_copyFrom_32 rfl (lv_at hl 0 rfl) ?_
  refine lv_aload_n hx hb dX0_copyFrom_33 rfl (lv_at hl 1 rfl) ?_
  refine gf_X0_28 C0 X hP j hj dX0_copyFrom_34 ?_
  refine lv_topE (y := (σ j 4)) (by simp only [stm_ne _ _ _ hne]) ?_
  refine pf_X0_28 C0 X hP hS i hi dX0_copyFrom_37 (fun H locs hP hS => ?_)
  refine lv_aload_n hx hb dX0_copyFrom_40 rfl (lv_at hl 0 rfl) ?_
  refine lv_aload_n hx hb dX0_copyFrom_41 rfl (lv_at hl 1 rfl) ?_
  refine gf_X0_31 C0 X hP j hj dX0_copyFrom_42 ?_
  refine lv_topE (y := (σ j 5)) (by simp only [stm_ne _ _ _ hne]) ?_
  refine pf_X0_31 C0 X hP hS i hi dX0_copyFrom_45 (fun H locs hP hS => ?_)
  refine lv_aload_n hx hb dX0_copyFrom_48 rfl (lv_at hl 0 rfl) ?_
  refine lv_aload_n hx hb dX0_copyFrom_49 rfl (lv_at hl 1 rfl) ?_
  refine gf_X0_9 C0 X hP j hj dX0_copyFrom_50 ?_
  refine lv_topE (y := (σ j 6)) (by simp only [stm_ne _ _ _ hne]) ?_
  refine pf_X0_9 C0 X hP hS i hi dX0_copyFrom_53 (fun H locs hP hS => ?_)
  refine lv_aload_n hx hb dX0_copyFrom_56 rfl (lv_at hl 0 rfl) ?_
  refine lv_aload_n hx hb dX0_copyFrom_57 rfl (lv_at hl 1 rfl) ?_
  refine gf_X0_34 C0 X hP j hj dX0_copyFrom_58 ?_
  refine lv_topE (y := (σ j 7)) (by simp only [stm_ne _ _ _ hne]) ?_
  refine pf_X0_34 C0 X hP hS i (h01 7 (by decide)) hi dX0_copyFrom_61 (fun H locs hP hS => ?_)
  refine lv_aload_n hx hb dX0_copyFrom_64 rfl (lv_at hl 0 rfl) ?_
  refine lv_aload_n hx hb dX0_copyFrom_65 rfl (lv_at hl 1 rfl) ?_
  refine gf_X0_37 C0 X hP j hj dX0_copyFrom_66 ?_
  refine lv_topE (y := (σ j 8)) (by simp only [stm_ne _ _ _ hne]) ?_
  refine pf_X0_37 C0 X hP hS i (h01 8 (by decide)) hi dX0_copyFrom_69 (fun H locs hP hS => ?_)
  refine lv_aload_n hx hb dX0_copyFrom_72 rfl (lv_at hl 0 rfl) ?_
  refine lv_aload_n hx hb dX0_copyFrom_73 rfl (lv_at hl 1 rfl) ?_
  refine gf_X0_40 C0 X hP j hj dX0_copyFrom_74 ?_
  refine lv_topE (y := (σ j 9)) (by simp only [stm_ne _ _ _ hne]) ?_
  refine pf_X0_40 C0 X hP hS i hi dX0_copyFrom_77 (fun H locs hP hS => ?_)
  refine lv_aload_n hx hb dX0_copyFrom_80 rfl (lv_at hl 0 rfl) ?_
  refine lv_aload_n hx hb dX0_copyFrom_81 rfl (lv_at hl 1 rfl) ?_
  refine gf_X0_43 C0 X hP j hj dX0_copyFrom_82 ?_
  refine lv_topE (y := (σ j 10)) (by simp only [stm_ne _ _ _ hne]) ?_
  refine pf_X0_43 C0 X hP hS i hi dX0_copyFrom_85 (fun H locs hP hS => ?_)
  refine lv_aload_n hx hb dX0_copyFrom_88 rfl (lv_at hl 0 rfl) ?_
  refine lv_aload_n hx hb dX0_copyFrom_89 rfl (lv_at hl 1 rfl) ?_
  refine gf_X0_46 C0 X hP j hj dX0_copyFrom_90 ?_
  refine lv_topE (y := (σ j 11)) (by simp only [stm_ne _ _ _ hne]) ?_
  refine pf_X0_46 C0 X hP hS i hi dX0_copyFrom_93 (fun H locs hP hS => ?_)
  exact r_vret C0 X hP hS hr hlk dX0_copyFrom_96 (cart_cpy σ hne)
def bB_cX7_shelfAt : Nat := 0xb0321b1800b42a0900a7010700a108101b09009b1b
theorem yB_cX7_shelfAt : BYS cX7_shelfAt 21 bB_cX7_shelfAt := BYS_of (by decide +kernel)
theorem dX7_shelfAt_0 : decode cX7_shelfAt 0 = .ok (.iload_n 1, 1) := D_27 yB_cX7_shelfAt rfl rfl
theorem dX7_shelfAt_1 : decode cX7_shelfAt 1 = .ok (.ifCond .lt 9, 3) := D_155 yB_cX7_shelfAt rfl rfl (sg_p (m := 32768) (N := 9) rfl rfl rfl)
theorem dX7_shelfAt_4 : decode cX7_shelfAt 4 = .ok (.iload_n 1, 1) := D_27 yB_cX7_shelfAt rfl rfl
theorem dX7_shelfAt_5 : decode cX7_shelfAt 5 = .ok (.bipush 8, 2) := D_16 yB_cX7_shelfAt rfl rfl (sg_p (m := 128) (N := 8) rfl rfl rfl)
theorem dX7_shelfAt_7 : decode cX7_shelfAt 7 = .ok (.if_icmp .lt 7, 3) := D_161 yB_cX7_shelfAt rfl rfl (sg_p (m := 32768) (N := 7) rfl rfl rfl)
theorem dX7_shelfAt_10 : decode cX7_shelfAt 10 = .ok (.aconst_null, 1) := D_1 yB_cX7_shelfAt rfl rfl
theorem dX7_shelfAt_11 : decode cX7_shelfAt 11 = .ok (.goto 9, 3) := D_167 yB_cX7_shelfAt rfl rfl (sg_p (m := 32768) (N := 9) rfl rfl rfl)
theorem dX7_shelfAt_14 : decode cX7_shelfAt 14 = .ok (.aload_n 0, 1) := D_42 yB_cX7_shelfAt rfl rfl
theorem dX7_shelfAt_15 : decode cX7_shelfAt 15 = .ok (.getfield 24, 3) := D_180 yB_cX7_shelfAt rfl rfl rfl
theorem dX7_shelfAt_18 : decode cX7_shelfAt 18 = .ok (.iload_n 1, 1) := D_27 yB_cX7_shelfAt rfl rfl
theorem dX7_shelfAt_19 : decode cX7_shelfAt 19 = .ok (.aaload, 1) := D_50 yB_cX7_shelfAt rfl rfl
theorem dX7_shelfAt_20 : decode cX7_shelfAt 20 = .ok (.areturn, 1) := D_176 yB_cX7_shelfAt rfl rfl
set_option maxHeartbeats 4000000 in
set_option maxRecDepth 100000 in
theorem c_X7_shelfAt (l : Launch) (D : va_G) (cA : Nat → ClassId) (ad : Nat → Nat) (o : Int64) (σ : Mem) (d : Int32)  (sz : Nat) : Met l yX7_shelfAt (WY yX7_shelfAt cX7_shelfAt 2 (some (.object "WhoBacks$Shelf"))) (RM 0) (va_Pc [.ref (ad 66), .int d] (PW D cA ad o σ sz)) (va_Qq (QQ ad (fun x σ9 => σ9 = σ ∧ (match x with | none => d < 0 ∨ 8 ≤ d | some q => ∃ j : Nat, j < 8 ∧ d = nI j ∧ q = 68 + j))) (QW D cA ad o) (FA ad sz)) 0 0 (FA ad sz) := by
  refine ct_of (own := RX7) (k := 0) (Qf := va_Qq (QQ ad (fun x σ9 => σ9 = σ ∧ (match x with | none => d < 0 ∨ 8 ≤ d | some q => ∃ j : Nat, j < 8 ∧ d = nI j ∧ q = 68 + j))) (QW D cA ad o)) rfl (by decide) (Nat.le_of_ble_eq_true rfl) (fun p e s m below meth c ls C0 X hr hlk hP hl => ?_) sz
  have hS : va_S (FA ad s.heap.size) s.heap s.heap [] := va_S.rf
  have hl : lv_has ls 2 [(0, .ref (ad 66)), (1, .int d)] := hl
  obtain ⟨hx, hb, hml, hown, hts⟩ := id C0
  refine lv_iload_n hx hb dX7_shelfAt_0 rfl (lv_at hl 1 rfl) ?_
  refine lv_if_lt (tgt := 10) hx hb dX7_shelfAt_1 (by decide) (fun c_1 => ?_) (fun c_1 => ?_)
  · refine lv_null hx hb dX7_shelfAt_10 ?_
    refine lv_goto (tgt := 20) hx hb dX7_shelfAt_11 (by decide) ?_
    exact r_aretN C0 X hP hS hr hlk dX7_shelfAt_20 ⟨rfl, Or.inl c_1⟩
  · refine lv_iload_n hx hb dX7_shelfAt_4 rfl (lv_at hl 1 rfl) ?_
    refine lv_bipush (v := 8) hx hb dX7_shelfAt_5 (by decide) ?_
    refine lv_icmp_lt (tgt := 14) hx hb dX7_shelfAt_7 (by decide) (fun c_2 => ?_) (fun c_2 => ?_)
    · obtain ⟨j, hj, rfl⟩ : ∃ j : Nat, j < 8 ∧ d = nI j := ix8 c_1 c_2
      refine lv_aload_n hx hb dX7_shelfAt_14 rfl (lv_at hl 0 rfl) ?_
      refine gf_X7_24 C0 X hP 66 (q := 67) ⟨by decide, rfl⟩ (by omega) rfl dX7_shelfAt_15 ?_
      refine lv_iload_n hx hb dX7_shelfAt_18 rfl (lv_at hl 1 rfl) ?_
      refine r_aaldSN C0 X hP 67 (k := j) (q := (68 + j)) ⟨by decide, rfl⟩ rfl (by omega) (lkSh j (by omega)) dX7_shelfAt_19 ?_
      exact r_aret C0 X hP hS hr hlk dX7_shelfAt_20 ⟨rfl, j, hj, rfl, rfl⟩
    · refine lv_null hx hb dX7_shelfAt_10 ?_
      refine lv_goto (tgt := 20) hx hb dX7_shelfAt_11 (by decide) ?_
      exact r_aretN C0 X hP hS hr hlk dX7_shelfAt_20 ⟨rfl, Or.inr (Int32.not_lt.mp c_2)⟩
def bB_cX6_beginAnew : Nat := 0xb13700b5032a3400b5032a3100b5032af0ffa70101844f031b1800b42a1000a249101b3c03eeffa70101844000b6321b1400b42a1200a207101b3c03
theorem yB_cX6_beginAnew : BYS cX6_beginAnew 60 bB_cX6_beginAnew := BYS_of (by decide +kernel)
theorem dX6_beginAnew_0 : decode cX6_beginAnew 0 = .ok (.iconst 0, 1) := D_3 yB_cX6_beginAnew rfl rfl
theorem dX6_beginAnew_1 : decode cX6_beginAnew 1 = .ok (.istore_n 1, 1) := D_60 yB_cX6_beginAnew rfl rfl
theorem dX6_beginAnew_2 : decode cX6_beginAnew 2 = .ok (.iload_n 1, 1) := D_27 yB_cX6_beginAnew rfl rfl
theorem dX6_beginAnew_3 : decode cX6_beginAnew 3 = .ok (.bipush 7, 2) := D_16 yB_cX6_beginAnew rfl rfl (sg_p (m := 128) (N := 7) rfl rfl rfl)
theorem dX6_beginAnew_5 : decode cX6_beginAnew 5 = .ok (.if_icmp .ge 18, 3) := D_162 yB_cX6_beginAnew rfl rfl (sg_p (m := 32768) (N := 18) rfl rfl rfl)
theorem dX6_beginAnew_8 : decode cX6_beginAnew 8 = .ok (.aload_n 0, 1) := D_42 yB_cX6_beginAnew rfl rfl
theorem dX6_beginAnew_9 : decode cX6_beginAnew 9 = .ok (.getfield 20, 3) := D_180 yB_cX6_beginAnew rfl rfl rfl
theorem dX6_beginAnew_12 : decode cX6_beginAnew 12 = .ok (.iload_n 1, 1) := D_27 yB_cX6_beginAnew rfl rfl
theorem dX6_beginAnew_13 : decode cX6_beginAnew 13 = .ok (.aaload, 1) := D_50 yB_cX6_beginAnew rfl rfl
theorem dX6_beginAnew_14 : decode cX6_beginAnew 14 = .ok (.invokevirtual 64, 3) := D_182 yB_cX6_beginAnew rfl rfl rfl
theorem dX6_beginAnew_17 : decode cX6_beginAnew 17 = .ok (.iinc 1 1, 3) := D_132 yB_cX6_beginAnew rfl rfl rfl (sg_p (m := 128) (N := 1) rfl rfl rfl)
theorem dX6_beginAnew_20 : decode cX6_beginAnew 20 = .ok (.goto (-18), 3) := D_167 yB_cX6_beginAnew rfl rfl (sg_n (m := 32768) (N := 18) rfl rfl rfl)
theorem dX6_beginAnew_23 : decode cX6_beginAnew 23 = .ok (.iconst 0, 1) := D_3 yB_cX6_beginAnew rfl rfl
theorem dX6_beginAnew_24 : decode cX6_beginAnew 24 = .ok (.istore_n 1, 1) := D_60 yB_cX6_beginAnew rfl rfl
theorem dX6_beginAnew_25 : decode cX6_beginAnew 25 = .ok (.iload_n 1, 1) := D_27 yB_cX6_beginAnew rfl rfl
theorem dX6_beginAnew_26 : decode cX6_beginAnew 26 = .ok (.bipush 73, 2) := D_16 yB_cX6_beginAnew rfl rfl (sg_p (m := 128) (N := 73) rfl rfl rfl)
theorem dX6_beginAnew_28 : decode cX6_beginAnew 28 = .ok (.if_icmp .ge 16, 3) := D_162 yB_cX6_beginAnew rfl rfl (sg_p (m := 32768) (N := 16) rfl rfl rfl)
theorem dX6_beginAnew_31 : decode cX6_beginAnew 31 = .ok (.aload_n 0, 1) := D_42 yB_cX6_beginAnew rfl rfl
theorem dX6_beginAnew_32 : decode cX6_beginAnew 32 = .ok (.getfield 24, 3) := D_180 yB_cX6_beginAnew rfl rfl rfl
theorem dX6_beginAnew_35 : decode cX6_beginAnew 35 = .ok (.iload_n 1, 1) := D_27 yB_cX6_beginAnew rfl rfl
theorem dX6_beginAnew_36 : decode cX6_beginAnew 36 = .ok (.iconst 0, 1) := D_3 yB_cX6_beginAnew rfl rfl
theorem dX6_beginAnew_37 : decode cX6_beginAnew 37 = .ok (.iastore, 1) := D_79 yB_cX6_beginAnew rfl rfl
theorem dX6_beginAnew_38 : decode cX6_beginAnew 38 = .ok (.iinc 1 1, 3) := D_132 yB_cX6_beginAnew rfl rfl rfl (sg_p (m := 128) (N := 1) rfl rfl rfl)
theorem dX6_beginAnew_41 : decode cX6_beginAnew 41 = .ok (.goto (-16), 3) := D_167 yB_cX6_beginAnew rfl rfl (sg_n (m := 32768) (N := 16) rfl rfl rfl)
theorem dX6_beginAnew_44 : decode cX6_beginAnew 44 = .ok (.aload_n 0, 1) := D_42 yB_cX6_beginAnew rfl rfl
theorem dX6_beginAnew_45 : decode cX6_beginAnew 45 = .ok (.iconst 0, 1) := D_3 yB_cX6_beginAnew rfl rfl
theorem dX6_beginAnew_46 : decode cX6_beginAnew 46 = .ok (.putfield 49, 3) := D_181 yB_cX6_beginAnew rfl rfl rfl
theorem dX6_beginAnew_49 : decode cX6_beginAnew 49 = .ok (.aload_n 0, 1) := D_42 yB_cX6_beginAnew rfl rfl
theorem dX6_beginAnew_50 : decode cX6_beginAnew 50 = .ok (.iconst 0, 1) := D_3 yB_cX6_beginAnew rfl rfl
theorem dX6_beginAnew_51 : decode cX6_beginAnew 51 = .ok (.putfield 52, 3) := D_181 yB_cX6_beginAnew rfl rfl rfl
theorem dX6_beginAnew_54 : decode cX6_beginAnew 54 = .ok (.aload_n 0, 1) := D_42 yB_cX6_beginAnew rfl rfl
theorem dX6_beginAnew_55 : decode cX6_beginAnew 55 = .ok (.iconst 0, 1) := D_3 yB_cX6_beginAnew rfl rfl
theorem dX6_beginAnew_56 : decode cX6_beginAnew 56 = .ok (.putfield 55, 3) := D_181 yB_cX6_beginAnew rfl rfl rfl
theorem dX6_beginAnew_59 : decode cX6_beginAnew 59 = .ok (.return_, 1) := D_177 yB_cX6_beginAnew rfl rfl
set_option maxHeartbeats 4000000 in
set_option maxRecDepth 100000 in
theorem c_X6_beginAnew (l : Launch) (D : va_G) (cA : Nat → ClassId) (ad : Nat → Nat) (o : Int64) (σ : Mem) (t : Nat) (ht : t < 3) (sz : Nat) : Met l yX6_beginAnew (WY yX6_beginAnew cX6_beginAnew 2 none) (RM 1) (va_Pc [.ref (ad (22 * t))] (PW D cA ad o σ sz)) (va_Qv (fun σ9 => σ9 = tbeg σ t) (QW D cA ad o) (FA ad sz)) 0 0 (FA ad sz) := by
  refine ct_of (own := RX6) (k := 1) (Qf := va_Qv (fun σ9 => σ9 = tbeg σ t) (QW D cA ad o)) rfl (by decide) (Nat.le_of_ble_eq_true rfl) (fun p e s m below meth c ls C0 X hr hlk hP hl => ?_) sz
  have hS : va_S (FA ad s.heap.size) s.heap s.heap [] := va_S.rf
  have hl : lv_has ls 2 [(0, .ref (ad (22 * t)))] := hl
  obtain ⟨hx, hb, hml, hown, hts⟩ := id C0
  refine lv_iconst (v := 0) hx hb dX6_beginAnew_0 (by decide) ?_
  refine lv_istore_n (lv' := [(1, .int 0), (0, .ref (ad (22 * t)))]) hx hb dX6_beginAnew_1 rfl hl (by decide) rfl (fun ls hl => ?_)
  have lp_1 : ∀ (nn : Nat) (k : Nat) (H : Heap) (locs : List Loc) (ls : Array Slot), k ≤ 7 → WP D cA ad o (tbegK σ t k) H → va_S (FA ad s.heap.size) s.heap H locs → lv_has ls 2 [(0, .ref (ad (22 * t))), (1, .int (nI k))] → (7 - k) < nn → W p l e (RM 1) s m ([.ref (ad (22 * t))] : List Value).toArray below meth c H locs 0 0 (MQ below (va_Qv (fun σ9 => σ9 = tbeg σ t) (QW D cA ad o) (FA ad s.heap.size)) ([.ref (ad (22 * t))] : List Value).toArray s 0 0 (FA ad s.heap.size)) (F0 m 2 ls []) := by
    intro nn
    induction nn with
    | zero => intro k H locs ls hk hP hS hl hn; exact absurd hn (Nat.not_lt_zero _)
    | succ nn ih =>
      intro k H locs ls hk hP hS hl hn
      refine lv_iload_n hx hb dX6_beginAnew_2 rfl (lv_at hl 1 rfl) ?_
      refine lv_bipush (v := 7) hx hb dX6_beginAnew_3 (by decide) ?_
      refine lv_icmp_ge (tgt := 23) hx hb dX6_beginAnew_5 (by decide) (fun c_2 => ?_) (fun c_2 => ?_)
      · obtain rfl : k = 7 := nI_geof (b := 7) c_2 hk (by omega)
        refine lv_iconst (v := 0) hx hb dX6_beginAnew_23 (by decide) ?_
        refine lv_istore_n (lv' := [(1, .int 0), (0, .ref (ad (22 * t)))]) hx hb dX6_beginAnew_24 rfl hl (by decide) rfl (fun ls hl => ?_)
        have lp_3 : ∀ (nn : Nat) (k : Nat) (H : Heap) (locs : List Loc) (ls : Array Slot), k ≤ 73 → WP D cA ad o (rz (tbegK σ t 7) (22 * t + 14) k) H → va_S (FA ad s.heap.size) s.heap H locs → lv_has ls 2 [(0, .ref (ad (22 * t))), (1, .int (nI k))] → (73 - k) < nn → W p l e (RM 1) s m ([.ref (ad (22 * t))] : List Value).toArray below meth c H locs 0 0 (MQ below (va_Qv (fun σ9 => σ9 = tbeg σ t) (QW D cA ad o) (FA ad s.heap.size)) ([.ref (ad (22 * t))] : List Value).toArray s 0 0 (FA ad s.heap.size)) (F0 m 25 ls []) := by
          intro nn
          induction nn with
          | zero => intro k H locs ls hk hP hS hl hn; exact absurd hn (Nat.not_lt_zero _)
          | succ nn ih =>
            intro k H locs ls hk hP hS hl hn
            refine lv_iload_n hx hb dX6_beginAnew_25 rfl (lv_at hl 1 rfl) ?_
            refine lv_bipush (v := 73) hx hb dX6_beginAnew_26 (by decide) ?_
            refine lv_icmp_ge (tgt := 44) hx hb dX6_beginAnew_28 (by decide) (fun c_4 => ?_) (fun c_4 => ?_)
            · obtain rfl : k = 73 := nI_geof (b := 73) c_4 hk (by omega)
              refine lv_aload_n hx hb dX6_beginAnew_44 rfl (lv_at hl 0 rfl) ?_
              refine lv_iconst (v := 0) hx hb dX6_beginAnew_45 (by decide) ?_
              refine pf_X6_49 C0 X hP hS (22 * t) (kdT t ht) dX6_beginAnew_46 (fun H locs hP hS => ?_)
              refine lv_aload_n hx hb dX6_beginAnew_49 rfl (lv_at hl 0 rfl) ?_
              refine lv_iconst (v := 0) hx hb dX6_beginAnew_50 (by decide) ?_
              refine pf_X6_52 C0 X hP hS (22 * t) (kdT t ht) dX6_beginAnew_51 (fun H locs hP hS => ?_)
              refine lv_aload_n hx hb dX6_beginAnew_54 rfl (lv_at hl 0 rfl) ?_
              refine lv_iconst (v := 0) hx hb dX6_beginAnew_55 (by decide) ?_
              refine pf_X6_55 C0 X hP hS (22 * t) (kdT t ht) dX6_beginAnew_56 (fun H locs hP hS => ?_)
              exact r_vret C0 X hP hS hr hlk dX6_beginAnew_59 rfl
            · have hk7 : k < 73 := nI_ltof (b := 73) c_4 (by omega)
              refine lv_aload_n hx hb dX6_beginAnew_31 rfl (lv_at hl 0 rfl) ?_
              refine gf_X6_24 C0 X hP (22 * t) (q := (22 * t + 14)) (kdT t ht) (by omega) (lkT7 t ht) dX6_beginAnew_32 ?_
              refine lv_iload_n hx hb dX6_beginAnew_35 rfl (lv_at hl 1 rfl) ?_
              refine lv_iconst (v := 0) hx hb dX6_beginAnew_36 (by decide) ?_
              refine r_iastN C0 X hP hS (22 * t + 14) (k := k) (kdA14 t ht) rfl (by omega) dX6_beginAnew_37 (fun H locs hP hS => ?_)
              refine lv_iinc (v := (nI (k + 1))) (lv' := [(1, .int (nI (k + 1))), (0, .ref (ad (22 * t)))]) hx hb dX6_beginAnew_38 hl (k := 1) rfl (nI_1 _) (by decide) rfl (fun ls hl => ?_)
              refine lv_goto (tgt := 25) hx hb dX6_beginAnew_41 (by decide) ?_
              exact ih (k + 1) _ _ ls (by omega) (mem_cast (rz_s _ _ _) hP) hS (lv_sub hl [1, 0] rfl) (by omega)
        exact lp_3 ((73 - 0) + 1) 0 _ _ ls (by decide) (mem_cast (rz_0 _ _) hP) hS (lv_sub hl [1, 0] rfl) (by omega)
      · have hk7 : k < 7 := nI_ltof (b := 7) c_2 (by omega)
        refine lv_aload_n hx hb dX6_beginAnew_8 rfl (lv_at hl 0 rfl) ?_
        refine gf_X6_20 C0 X hP (22 * t) (q := (22 * t + 13)) (kdT t ht) (by omega) (lkT1 t ht) dX6_beginAnew_9 ?_
        refine lv_iload_n hx hb dX6_beginAnew_12 rfl (lv_at hl 1 rfl) ?_
        refine r_aaldCN C0 X hP (22 * t + 13) (k := k) (q := (22 * t + 15 + k)) (kdCA t ht) rfl (by omega) (lkCA t ht k (by omega)) dX6_beginAnew_13 ?_
        refine r_cv X hS (r_runV (As := []) (rest := []) C0 X hP L_X6_64 (fun sz => c_X0_beginAnew l D cA ad o (tbegK σ t k) (22 * t + 15 + k) (kdC t ht k (by omega)) sz) (kdC t ht k (by omega)).1 (kdC t ht k (by omega)).2 (by decide) rfl ⟨Nat.le_of_ble_eq_true rfl, Nat.le_of_ble_eq_true rfl⟩ rfl hl.1 rfl (Nat.le_of_ble_eq_true rfl) dX6_beginAnew_14 ⟨Nat.zero_le _, Nat.zero_le _⟩) (fun σ9 H locs hw hP hS => ?_)
        rw [hw] at hP
        refine lv_iinc (v := (nI (k + 1))) (lv' := [(1, .int (nI (k + 1))), (0, .ref (ad (22 * t)))]) hx hb dX6_beginAnew_17 hl (k := 1) rfl (nI_1 _) (by decide) rfl (fun ls hl => ?_)
        refine lv_goto (tgt := 2) hx hb dX6_beginAnew_20 (by decide) ?_
        exact ih (k + 1) _ _ ls (by omega) (mem_cast (tbegK_s σ t k) hP) hS (lv_sub hl [1, 0] rfl) (by omega)
  exact lp_1 ((7 - 0) + 1) 0 _ _ ls (by decide) (mem_cast (tbegK_0 σ t) hP) hS (lv_sub hl [1, 0] rfl) (by omega)
