def bB_cX4_copyFrom : Nat := 0xb13400b806032a00b42a032a00b42b3400b806032700b42a032700b42b3400b84910032400b42a032400b42b3400b84910032100b42a032100b42b3400b84910031e00b42a031e00b42b3400b84910031b00b42a031b00b42b3400b80910031800b42a031800b42b3400b80910031500b42a031500b42b3400b80810031200b42a031200b42b3400b80810030f00b42a030f00b42b3400b80810030900b42a030900b42b3100b53100b42b2a2d00b52d00b42b2a
theorem yB_cX4_copyFrom : BYS cX4_copyFrom 180 bB_cX4_copyFrom := BYS_of (by decide +kernel)
theorem dX4_copyFrom_0 : decode cX4_copyFrom 0 = .ok (.aload_n 0, 1) := D_42 yB_cX4_copyFrom rfl rfl
theorem dX4_copyFrom_1 : decode cX4_copyFrom 1 = .ok (.aload_n 1, 1) := D_43 yB_cX4_copyFrom rfl rfl
theorem dX4_copyFrom_2 : decode cX4_copyFrom 2 = .ok (.getfield 45, 3) := D_180 yB_cX4_copyFrom rfl rfl rfl
theorem dX4_copyFrom_5 : decode cX4_copyFrom 5 = .ok (.putfield 45, 3) := D_181 yB_cX4_copyFrom rfl rfl rfl
theorem dX4_copyFrom_8 : decode cX4_copyFrom 8 = .ok (.aload_n 0, 1) := D_42 yB_cX4_copyFrom rfl rfl
theorem dX4_copyFrom_9 : decode cX4_copyFrom 9 = .ok (.aload_n 1, 1) := D_43 yB_cX4_copyFrom rfl rfl
theorem dX4_copyFrom_10 : decode cX4_copyFrom 10 = .ok (.getfield 49, 3) := D_180 yB_cX4_copyFrom rfl rfl rfl
theorem dX4_copyFrom_13 : decode cX4_copyFrom 13 = .ok (.putfield 49, 3) := D_181 yB_cX4_copyFrom rfl rfl rfl
theorem dX4_copyFrom_16 : decode cX4_copyFrom 16 = .ok (.aload_n 1, 1) := D_43 yB_cX4_copyFrom rfl rfl
theorem dX4_copyFrom_17 : decode cX4_copyFrom 17 = .ok (.getfield 9, 3) := D_180 yB_cX4_copyFrom rfl rfl rfl
theorem dX4_copyFrom_20 : decode cX4_copyFrom 20 = .ok (.iconst 0, 1) := D_3 yB_cX4_copyFrom rfl rfl
theorem dX4_copyFrom_21 : decode cX4_copyFrom 21 = .ok (.aload_n 0, 1) := D_42 yB_cX4_copyFrom rfl rfl
theorem dX4_copyFrom_22 : decode cX4_copyFrom 22 = .ok (.getfield 9, 3) := D_180 yB_cX4_copyFrom rfl rfl rfl
theorem dX4_copyFrom_25 : decode cX4_copyFrom 25 = .ok (.iconst 0, 1) := D_3 yB_cX4_copyFrom rfl rfl
theorem dX4_copyFrom_26 : decode cX4_copyFrom 26 = .ok (.bipush 8, 2) := D_16 yB_cX4_copyFrom rfl rfl (sg_p (m := 128) (N := 8) rfl rfl rfl)
theorem dX4_copyFrom_28 : decode cX4_copyFrom 28 = .ok (.invokestatic 52, 3) := D_184 yB_cX4_copyFrom rfl rfl rfl
theorem dX4_copyFrom_31 : decode cX4_copyFrom 31 = .ok (.aload_n 1, 1) := D_43 yB_cX4_copyFrom rfl rfl
theorem dX4_copyFrom_32 : decode cX4_copyFrom 32 = .ok (.getfield 15, 3) := D_180 yB_cX4_copyFrom rfl rfl rfl
theorem dX4_copyFrom_35 : decode cX4_copyFrom 35 = .ok (.iconst 0, 1) := D_3 yB_cX4_copyFrom rfl rfl
theorem dX4_copyFrom_36 : decode cX4_copyFrom 36 = .ok (.aload_n 0, 1) := D_42 yB_cX4_copyFrom rfl rfl
theorem dX4_copyFrom_37 : decode cX4_copyFrom 37 = .ok (.getfield 15, 3) := D_180 yB_cX4_copyFrom rfl rfl rfl
theorem dX4_copyFrom_40 : decode cX4_copyFrom 40 = .ok (.iconst 0, 1) := D_3 yB_cX4_copyFrom rfl rfl
theorem dX4_copyFrom_41 : decode cX4_copyFrom 41 = .ok (.bipush 8, 2) := D_16 yB_cX4_copyFrom rfl rfl (sg_p (m := 128) (N := 8) rfl rfl rfl)
theorem dX4_copyFrom_43 : decode cX4_copyFrom 43 = .ok (.invokestatic 52, 3) := D_184 yB_cX4_copyFrom rfl rfl rfl
theorem dX4_copyFrom_46 : decode cX4_copyFrom 46 = .ok (.aload_n 1, 1) := D_43 yB_cX4_copyFrom rfl rfl
theorem dX4_copyFrom_47 : decode cX4_copyFrom 47 = .ok (.getfield 18, 3) := D_180 yB_cX4_copyFrom rfl rfl rfl
theorem dX4_copyFrom_50 : decode cX4_copyFrom 50 = .ok (.iconst 0, 1) := D_3 yB_cX4_copyFrom rfl rfl
theorem dX4_copyFrom_51 : decode cX4_copyFrom 51 = .ok (.aload_n 0, 1) := D_42 yB_cX4_copyFrom rfl rfl
theorem dX4_copyFrom_52 : decode cX4_copyFrom 52 = .ok (.getfield 18, 3) := D_180 yB_cX4_copyFrom rfl rfl rfl
theorem dX4_copyFrom_55 : decode cX4_copyFrom 55 = .ok (.iconst 0, 1) := D_3 yB_cX4_copyFrom rfl rfl
theorem dX4_copyFrom_56 : decode cX4_copyFrom 56 = .ok (.bipush 8, 2) := D_16 yB_cX4_copyFrom rfl rfl (sg_p (m := 128) (N := 8) rfl rfl rfl)
theorem dX4_copyFrom_58 : decode cX4_copyFrom 58 = .ok (.invokestatic 52, 3) := D_184 yB_cX4_copyFrom rfl rfl rfl
theorem dX4_copyFrom_61 : decode cX4_copyFrom 61 = .ok (.aload_n 1, 1) := D_43 yB_cX4_copyFrom rfl rfl
theorem dX4_copyFrom_62 : decode cX4_copyFrom 62 = .ok (.getfield 21, 3) := D_180 yB_cX4_copyFrom rfl rfl rfl
theorem dX4_copyFrom_65 : decode cX4_copyFrom 65 = .ok (.iconst 0, 1) := D_3 yB_cX4_copyFrom rfl rfl
theorem dX4_copyFrom_66 : decode cX4_copyFrom 66 = .ok (.aload_n 0, 1) := D_42 yB_cX4_copyFrom rfl rfl
theorem dX4_copyFrom_67 : decode cX4_copyFrom 67 = .ok (.getfield 21, 3) := D_180 yB_cX4_copyFrom rfl rfl rfl
theorem dX4_copyFrom_70 : decode cX4_copyFrom 70 = .ok (.iconst 0, 1) := D_3 yB_cX4_copyFrom rfl rfl
theorem dX4_copyFrom_71 : decode cX4_copyFrom 71 = .ok (.bipush 9, 2) := D_16 yB_cX4_copyFrom rfl rfl (sg_p (m := 128) (N := 9) rfl rfl rfl)
theorem dX4_copyFrom_73 : decode cX4_copyFrom 73 = .ok (.invokestatic 52, 3) := D_184 yB_cX4_copyFrom rfl rfl rfl
theorem dX4_copyFrom_76 : decode cX4_copyFrom 76 = .ok (.aload_n 1, 1) := D_43 yB_cX4_copyFrom rfl rfl
theorem dX4_copyFrom_77 : decode cX4_copyFrom 77 = .ok (.getfield 24, 3) := D_180 yB_cX4_copyFrom rfl rfl rfl
theorem dX4_copyFrom_80 : decode cX4_copyFrom 80 = .ok (.iconst 0, 1) := D_3 yB_cX4_copyFrom rfl rfl
theorem dX4_copyFrom_81 : decode cX4_copyFrom 81 = .ok (.aload_n 0, 1) := D_42 yB_cX4_copyFrom rfl rfl
theorem dX4_copyFrom_82 : decode cX4_copyFrom 82 = .ok (.getfield 24, 3) := D_180 yB_cX4_copyFrom rfl rfl rfl
theorem dX4_copyFrom_85 : decode cX4_copyFrom 85 = .ok (.iconst 0, 1) := D_3 yB_cX4_copyFrom rfl rfl
theorem dX4_copyFrom_86 : decode cX4_copyFrom 86 = .ok (.bipush 9, 2) := D_16 yB_cX4_copyFrom rfl rfl (sg_p (m := 128) (N := 9) rfl rfl rfl)
theorem dX4_copyFrom_88 : decode cX4_copyFrom 88 = .ok (.invokestatic 52, 3) := D_184 yB_cX4_copyFrom rfl rfl rfl
theorem dX4_copyFrom_91 : decode cX4_copyFrom 91 = .ok (.aload_n 1, 1) := D_43 yB_cX4_copyFrom rfl rfl
theorem dX4_copyFrom_92 : decode cX4_copyFrom 92 = .ok (.getfield 27, 3) := D_180 yB_cX4_copyFrom rfl rfl rfl
theorem dX4_copyFrom_95 : decode cX4_copyFrom 95 = .ok (.iconst 0, 1) := D_3 yB_cX4_copyFrom rfl rfl
theorem dX4_copyFrom_96 : decode cX4_copyFrom 96 = .ok (.aload_n 0, 1) := D_42 yB_cX4_copyFrom rfl rfl
theorem dX4_copyFrom_97 : decode cX4_copyFrom 97 = .ok (.getfield 27, 3) := D_180 yB_cX4_copyFrom rfl rfl rfl
theorem dX4_copyFrom_100 : decode cX4_copyFrom 100 = .ok (.iconst 0, 1) := D_3 yB_cX4_copyFrom rfl rfl
theorem dX4_copyFrom_101 : decode cX4_copyFrom 101 = .ok (.bipush 73, 2) := D_16 yB_cX4_copyFrom rfl rfl (sg_p (m := 128) (N := 73) rfl rfl rfl)
theorem dX4_copyFrom_103 : decode cX4_copyFrom 103 = .ok (.invokestatic 52, 3) := D_184 yB_cX4_copyFrom rfl rfl rfl
theorem dX4_copyFrom_106 : decode cX4_copyFrom 106 = .ok (.aload_n 1, 1) := D_43 yB_cX4_copyFrom rfl rfl
theorem dX4_copyFrom_107 : decode cX4_copyFrom 107 = .ok (.getfield 30, 3) := D_180 yB_cX4_copyFrom rfl rfl rfl
theorem dX4_copyFrom_110 : decode cX4_copyFrom 110 = .ok (.iconst 0, 1) := D_3 yB_cX4_copyFrom rfl rfl
theorem dX4_copyFrom_111 : decode cX4_copyFrom 111 = .ok (.aload_n 0, 1) := D_42 yB_cX4_copyFrom rfl rfl
theorem dX4_copyFrom_112 : decode cX4_copyFrom 112 = .ok (.getfield 30, 3) := D_180 yB_cX4_copyFrom rfl rfl rfl
theorem dX4_copyFrom_115 : decode cX4_copyFrom 115 = .ok (.iconst 0, 1) := D_3 yB_cX4_copyFrom rfl rfl
theorem dX4_copyFrom_116 : decode cX4_copyFrom 116 = .ok (.bipush 73, 2) := D_16 yB_cX4_copyFrom rfl rfl (sg_p (m := 128) (N := 73) rfl rfl rfl)
theorem dX4_copyFrom_118 : decode cX4_copyFrom 118 = .ok (.invokestatic 52, 3) := D_184 yB_cX4_copyFrom rfl rfl rfl
theorem dX4_copyFrom_121 : decode cX4_copyFrom 121 = .ok (.aload_n 1, 1) := D_43 yB_cX4_copyFrom rfl rfl
theorem dX4_copyFrom_122 : decode cX4_copyFrom 122 = .ok (.getfield 33, 3) := D_180 yB_cX4_copyFrom rfl rfl rfl
theorem dX4_copyFrom_125 : decode cX4_copyFrom 125 = .ok (.iconst 0, 1) := D_3 yB_cX4_copyFrom rfl rfl
theorem dX4_copyFrom_126 : decode cX4_copyFrom 126 = .ok (.aload_n 0, 1) := D_42 yB_cX4_copyFrom rfl rfl
theorem dX4_copyFrom_127 : decode cX4_copyFrom 127 = .ok (.getfield 33, 3) := D_180 yB_cX4_copyFrom rfl rfl rfl
theorem dX4_copyFrom_130 : decode cX4_copyFrom 130 = .ok (.iconst 0, 1) := D_3 yB_cX4_copyFrom rfl rfl
theorem dX4_copyFrom_131 : decode cX4_copyFrom 131 = .ok (.bipush 73, 2) := D_16 yB_cX4_copyFrom rfl rfl (sg_p (m := 128) (N := 73) rfl rfl rfl)
theorem dX4_copyFrom_133 : decode cX4_copyFrom 133 = .ok (.invokestatic 52, 3) := D_184 yB_cX4_copyFrom rfl rfl rfl
theorem dX4_copyFrom_136 : decode cX4_copyFrom 136 = .ok (.aload_n 1, 1) := D_43 yB_cX4_copyFrom rfl rfl
theorem dX4_copyFrom_137 : decode cX4_copyFrom 137 = .ok (.getfield 36, 3) := D_180 yB_cX4_copyFrom rfl rfl rfl
theorem dX4_copyFrom_140 : decode cX4_copyFrom 140 = .ok (.iconst 0, 1) := D_3 yB_cX4_copyFrom rfl rfl
theorem dX4_copyFrom_141 : decode cX4_copyFrom 141 = .ok (.aload_n 0, 1) := D_42 yB_cX4_copyFrom rfl rfl
theorem dX4_copyFrom_142 : decode cX4_copyFrom 142 = .ok (.getfield 36, 3) := D_180 yB_cX4_copyFrom rfl rfl rfl
theorem dX4_copyFrom_145 : decode cX4_copyFrom 145 = .ok (.iconst 0, 1) := D_3 yB_cX4_copyFrom rfl rfl
theorem dX4_copyFrom_146 : decode cX4_copyFrom 146 = .ok (.bipush 73, 2) := D_16 yB_cX4_copyFrom rfl rfl (sg_p (m := 128) (N := 73) rfl rfl rfl)
theorem dX4_copyFrom_148 : decode cX4_copyFrom 148 = .ok (.invokestatic 52, 3) := D_184 yB_cX4_copyFrom rfl rfl rfl
theorem dX4_copyFrom_151 : decode cX4_copyFrom 151 = .ok (.aload_n 1, 1) := D_43 yB_cX4_copyFrom rfl rfl
theorem dX4_copyFrom_152 : decode cX4_copyFrom 152 = .ok (.getfield 39, 3) := D_180 yB_cX4_copyFrom rfl rfl rfl
theorem dX4_copyFrom_155 : decode cX4_copyFrom 155 = .ok (.iconst 0, 1) := D_3 yB_cX4_copyFrom rfl rfl
theorem dX4_copyFrom_156 : decode cX4_copyFrom 156 = .ok (.aload_n 0, 1) := D_42 yB_cX4_copyFrom rfl rfl
theorem dX4_copyFrom_157 : decode cX4_copyFrom 157 = .ok (.getfield 39, 3) := D_180 yB_cX4_copyFrom rfl rfl rfl
theorem dX4_copyFrom_160 : decode cX4_copyFrom 160 = .ok (.iconst 0, 1) := D_3 yB_cX4_copyFrom rfl rfl
theorem dX4_copyFrom_161 : decode cX4_copyFrom 161 = .ok (.iconst 3, 1) := D_6 yB_cX4_copyFrom rfl rfl
theorem dX4_copyFrom_162 : decode cX4_copyFrom 162 = .ok (.invokestatic 52, 3) := D_184 yB_cX4_copyFrom rfl rfl rfl
theorem dX4_copyFrom_165 : decode cX4_copyFrom 165 = .ok (.aload_n 1, 1) := D_43 yB_cX4_copyFrom rfl rfl
theorem dX4_copyFrom_166 : decode cX4_copyFrom 166 = .ok (.getfield 42, 3) := D_180 yB_cX4_copyFrom rfl rfl rfl
theorem dX4_copyFrom_169 : decode cX4_copyFrom 169 = .ok (.iconst 0, 1) := D_3 yB_cX4_copyFrom rfl rfl
theorem dX4_copyFrom_170 : decode cX4_copyFrom 170 = .ok (.aload_n 0, 1) := D_42 yB_cX4_copyFrom rfl rfl
theorem dX4_copyFrom_171 : decode cX4_copyFrom 171 = .ok (.getfield 42, 3) := D_180 yB_cX4_copyFrom rfl rfl rfl
theorem dX4_copyFrom_174 : decode cX4_copyFrom 174 = .ok (.iconst 0, 1) := D_3 yB_cX4_copyFrom rfl rfl
theorem dX4_copyFrom_175 : decode cX4_copyFrom 175 = .ok (.iconst 3, 1) := D_6 yB_cX4_copyFrom rfl rfl
theorem dX4_copyFrom_176 : decode cX4_copyFrom 176 = .ok (.invokestatic 52, 3) := D_184 yB_cX4_copyFrom rfl rfl rfl
theorem dX4_copyFrom_179 : decode cX4_copyFrom 179 = .ok (.return_, 1) := D_177 yB_cX4_copyFrom rfl rfl
set_option maxHeartbeats 4000000 in
set_option maxRecDepth 100000 in
theorem c_X4_copyFrom (l : Launch) (D : va_G) (cA : Nat → ClassId) (ad : Nat → Nat) (o : Int64) (σ : Mem) (t : Nat) (u : Nat) (ht : t < 3) (hu : u < 3) (hne : u ≠ t) (sz : Nat) : Met l yX4_copyFrom (WY yX4_copyFrom cX4_copyFrom 2 none) (RM 1) (va_Pc [.ref (ad (22 * t + 1)), .ref (ad (22 * u + 1))] (PW D cA ad o σ sz)) (va_Qv (fun σ9 => σ9 = rdcpy σ t u) (QW D cA ad o) (FA ad sz)) 0 0 (FA ad sz) := by
  refine ct_of (own := RX4) (k := 1) (Qf := va_Qv (fun σ9 => σ9 = rdcpy σ t u) (QW D cA ad o)) rfl (by decide) (Nat.le_of_ble_eq_true rfl) (fun p e s m below meth c ls C0 X hr hlk hP hl => ?_) sz
  have hS : va_S (FA ad s.heap.size) s.heap s.heap [] := va_S.rf
  have hl : lv_has ls 2 [(0, .ref (ad (22 * t + 1))), (1, .ref (ad (22 * u + 1)))] := hl
  obtain ⟨hx, hb, hml, hown, hts⟩ := id C0
  refine lv_aload_n hx hb dX4_copyFrom_0 rfl (lv_at hl 0 rfl) ?_
  refine lv_aload_n hx hb dX4_copyFrom_1 rfl (lv_at hl 1 rfl) ?_
  refine gf_X4_45 C0 X hP (22 * u + 1) (kdR u hu) dX4_copyFrom_2 ?_
  refine lv_topE (y := (σ (22 * u + 1) 0)) rfl ?_
  refine pf_X4_45 C0 X hP hS (22 * t + 1) (kdR t ht) dX4_copyFrom_5 (fun H locs hP hS => ?_)
  refine lv_aload_n hx hb dX4_copyFrom_8 rfl (lv_at hl 0 rfl) ?_
  refine lv_aload_n hx hb dX4_copyFrom_9 rfl (lv_at hl 1 rfl) ?_
  refine gf_X4_49 C0 X hP (22 * u + 1) (kdR u hu) dX4_copyFrom_10 ?_
  refine lv_topE (y := (σ (22 * u + 1) 1)) (by simp only [stm_ne _ _ _ (show 22 * u + 1 ≠ 22 * t + 1 by omega)]) ?_
  refine pf_X4_49 C0 X hP hS (22 * t + 1) (kdR t ht) dX4_copyFrom_13 (fun H locs hP hS => ?_)
  refine lv_aload_n hx hb dX4_copyFrom_16 rfl (lv_at hl 1 rfl) ?_
  refine gf_X4_9 C0 X hP (22 * u + 1) (q := (22 * u + 2)) (kdR u hu) (by omega) (lkR2 u hu) dX4_copyFrom_17 ?_
  refine lv_iconst (v := 0) hx hb dX4_copyFrom_20 (by decide) ?_
  refine lv_aload_n hx hb dX4_copyFrom_21 rfl (lv_at hl 0 rfl) ?_
  refine gf_X4_9 C0 X hP (22 * t + 1) (q := (22 * t + 2)) (kdR t ht) (by omega) (lkR2 t ht) dX4_copyFrom_22 ?_
  refine lv_iconst (v := 0) hx hb dX4_copyFrom_25 (by decide) ?_
  refine lv_bipush (v := 8) hx hb dX4_copyFrom_26 (by decide) ?_
  refine r_copy (sp := 0) (dp := 0) (n := 8) C0 X hP hS fits_lk hl.1 (22 * u + 2) (22 * t + 2) (kdA2 u hu) (kdA2 t ht) rfl rfl rfl (by decide) (by decide) (Nat.le_of_ble_eq_true rfl) (Nat.le_of_ble_eq_true rfl) dX4_copyFrom_28 (fun H locs hP hS => ?_)
  rw [cpm0] at hP
  refine lv_aload_n hx hb dX4_copyFrom_31 rfl (lv_at hl 1 rfl) ?_
  refine gf_X4_15 C0 X hP (22 * u + 1) (q := (22 * u + 3)) (kdR u hu) (by omega) (lkR3 u hu) dX4_copyFrom_32 ?_
  refine lv_iconst (v := 0) hx hb dX4_copyFrom_35 (by decide) ?_
  refine lv_aload_n hx hb dX4_copyFrom_36 rfl (lv_at hl 0 rfl) ?_
  refine gf_X4_15 C0 X hP (22 * t + 1) (q := (22 * t + 3)) (kdR t ht) (by omega) (lkR3 t ht) dX4_copyFrom_37 ?_
  refine lv_iconst (v := 0) hx hb dX4_copyFrom_40 (by decide) ?_
  refine lv_bipush (v := 8) hx hb dX4_copyFrom_41 (by decide) ?_
  refine r_copy (sp := 0) (dp := 0) (n := 8) C0 X hP hS fits_lk hl.1 (22 * u + 3) (22 * t + 3) (kdA3 u hu) (kdA3 t ht) rfl rfl rfl (by decide) (by decide) (Nat.le_of_ble_eq_true rfl) (Nat.le_of_ble_eq_true rfl) dX4_copyFrom_43 (fun H locs hP hS => ?_)
  rw [cpm0] at hP
  refine lv_aload_n hx hb dX4_copyFrom_46 rfl (lv_at hl 1 rfl) ?_
  refine gf_X4_18 C0 X hP (22 * u + 1) (q := (22 * u + 4)) (kdR u hu) (by omega) (lkR4 u hu) dX4_copyFrom_47 ?_
  refine lv_iconst (v := 0) hx hb dX4_copyFrom_50 (by decide) ?_
  refine lv_aload_n hx hb dX4_copyFrom_51 rfl (lv_at hl 0 rfl) ?_
  refine gf_X4_18 C0 X hP (22 * t + 1) (q := (22 * t + 4)) (kdR t ht) (by omega) (lkR4 t ht) dX4_copyFrom_52 ?_
  refine lv_iconst (v := 0) hx hb dX4_copyFrom_55 (by decide) ?_
  refine lv_bipush (v := 8) hx hb dX4_copyFrom_56 (by decide) ?_
  refine r_copy (sp := 0) (dp := 0) (n := 8) C0 X hP hS fits_lk hl.1 (22 * u + 4) (22 * t + 4) (kdA4 u hu) (kdA4 t ht) rfl rfl rfl (by decide) (by decide) (Nat.le_of_ble_eq_true rfl) (Nat.le_of_ble_eq_true rfl) dX4_copyFrom_58 (fun H locs hP hS => ?_)
  rw [cpm0] at hP
  refine lv_aload_n hx hb dX4_copyFrom_61 rfl (lv_at hl 1 rfl) ?_
  refine gf_X4_21 C0 X hP (22 * u + 1) (q := (22 * u + 5)) (kdR u hu) (by omega) (lkR5 u hu) dX4_copyFrom_62 ?_
  refine lv_iconst (v := 0) hx hb dX4_copyFrom_65 (by decide) ?_
  refine lv_aload_n hx hb dX4_copyFrom_66 rfl (lv_at hl 0 rfl) ?_
  refine gf_X4_21 C0 X hP (22 * t + 1) (q := (22 * t + 5)) (kdR t ht) (by omega) (lkR5 t ht) dX4_copyFrom_67 ?_
  refine lv_iconst (v := 0) hx hb dX4_copyFrom_70 (by decide) ?_
  refine lv_bipush (v := 9) hx hb dX4_copyFrom_71 (by decide) ?_
  refine r_copy (sp := 0) (dp := 0) (n := 9) C0 X hP hS fits_lk hl.1 (22 * u + 5) (22 * t + 5) (kdA5 u hu) (kdA5 t ht) rfl rfl rfl (by decide) (by decide) (Nat.le_of_ble_eq_true rfl) (Nat.le_of_ble_eq_true rfl) dX4_copyFrom_73 (fun H locs hP hS => ?_)
  rw [cpm0] at hP
  refine lv_aload_n hx hb dX4_copyFrom_76 rfl (lv_at hl 1 rfl) ?_
  refine gf_X4_24 C0 X hP (22 * u + 1) (q := (22 * u + 6)) (kdR u hu) (by omega) (lkR6 u hu) dX4_copyFrom_77 ?_
  refine lv_iconst (v := 0) hx hb dX4_copyFrom_80 (by decide) ?_
  refine lv_aload_n hx hb dX4_copyFrom_81 rfl (lv_at hl 0 rfl) ?_
  refine gf_X4_24 C0 X hP (22 * t + 1) (q := (22 * t + 6)) (kdR t ht) (by omega) (lkR6 t ht) dX4_copyFrom_82 ?_
  refine lv_iconst (v := 0) hx hb dX4_copyFrom_85 (by decide) ?_
  refine lv_bipush (v := 9) hx hb dX4_copyFrom_86 (by decide) ?_
  refine r_copy (sp := 0) (dp := 0) (n := 9) C0 X hP hS fits_lk hl.1 (22 * u + 6) (22 * t + 6) (kdA6 u hu) (kdA6 t ht) rfl rfl rfl (by decide) (by decide) (Nat.le_of_ble_eq_true rfl) (Nat.le_of_ble_eq_true rfl) dX4_copyFrom_88 (fun H locs hP hS => ?_)
  rw [cpm0] at hP
  refine lv_aload_n hx hb dX4_copyFrom_91 rfl (lv_at hl 1 rfl) ?_
  refine gf_X4_27 C0 X hP (22 * u + 1) (q := (22 * u + 7)) (kdR u hu) (by omega) (lkR7 u hu) dX4_copyFrom_92 ?_
  refine lv_iconst (v := 0) hx hb dX4_copyFrom_95 (by decide) ?_
  refine lv_aload_n hx hb dX4_copyFrom_96 rfl (lv_at hl 0 rfl) ?_
  refine gf_X4_27 C0 X hP (22 * t + 1) (q := (22 * t + 7)) (kdR t ht) (by omega) (lkR7 t ht) dX4_copyFrom_97 ?_
  refine lv_iconst (v := 0) hx hb dX4_copyFrom_100 (by decide) ?_
  refine lv_bipush (v := 73) hx hb dX4_copyFrom_101 (by decide) ?_
  refine r_copy (sp := 0) (dp := 0) (n := 73) C0 X hP hS fits_lk hl.1 (22 * u + 7) (22 * t + 7) (kdA7 u hu) (kdA7 t ht) rfl rfl rfl (by decide) (by decide) (Nat.le_of_ble_eq_true rfl) (Nat.le_of_ble_eq_true rfl) dX4_copyFrom_103 (fun H locs hP hS => ?_)
  rw [cpm0] at hP
  refine lv_aload_n hx hb dX4_copyFrom_106 rfl (lv_at hl 1 rfl) ?_
  refine gf_X4_30 C0 X hP (22 * u + 1) (q := (22 * u + 8)) (kdR u hu) (by omega) (lkR8 u hu) dX4_copyFrom_107 ?_
  refine lv_iconst (v := 0) hx hb dX4_copyFrom_110 (by decide) ?_
  refine lv_aload_n hx hb dX4_copyFrom_111 rfl (lv_at hl 0 rfl) ?_
  refine gf_X4_30 C0 X hP (22 * t + 1) (q := (22 * t + 8)) (kdR t ht) (by omega) (lkR8 t ht) dX4_copyFrom_112 ?_
  refine lv_iconst (v := 0) hx hb dX4_copyFrom_115 (by decide) ?_
  refine lv_bipush (v := 73) hx hb dX4_copyFrom_116 (by decide) ?_
  refine r_copy (sp := 0) (dp := 0) (n := 73) C0 X hP hS fits_lk hl.1 (22 * u + 8) (22 * t + 8) (kdA8 u hu) (kdA8 t ht) rfl rfl rfl (by decide) (by decide) (Nat.le_of_ble_eq_true rfl) (Nat.le_of_ble_eq_true rfl) dX4_copyFrom_118 (fun H locs hP hS => ?_)
  rw [cpm0] at hP
  refine lv_aload_n hx hb dX4_copyFrom_121 rfl (lv_at hl 1 rfl) ?_
  refine gf_X4_33 C0 X hP (22 * u + 1) (q := (22 * u + 9)) (kdR u hu) (by omega) (lkR9 u hu) dX4_copyFrom_122 ?_
  refine lv_iconst (v := 0) hx hb dX4_copyFrom_125 (by decide) ?_
  refine lv_aload_n hx hb dX4_copyFrom_126 rfl (lv_at hl 0 rfl) ?_
  refine gf_X4_33 C0 X hP (22 * t + 1) (q := (22 * t + 9)) (kdR t ht) (by omega) (lkR9 t ht) dX4_copyFrom_127 ?_
  refine lv_iconst (v := 0) hx hb dX4_copyFrom_130 (by decide) ?_
  refine lv_bipush (v := 73) hx hb dX4_copyFrom_131 (by decide) ?_
  refine r_copy (sp := 0) (dp := 0) (n := 73) C0 X hP hS fits_lk hl.1 (22 * u + 9) (22 * t + 9) (kdA9 u hu) (kdA9 t ht) rfl rfl rfl (by decide) (by decide) (Nat.le_of_ble_eq_true rfl) (Nat.le_of_ble_eq_true rfl) dX4_copyFrom_133 (fun H locs hP hS => ?_)
  rw [cpm0] at hP
  refine lv_aload_n hx hb dX4_copyFrom_136 rfl (lv_at hl 1 rfl) ?_
  refine gf_X4_36 C0 X hP (22 * u + 1) (q := (22 * u + 10)) (kdR u hu) (by omega) (lkR10 u hu) dX4_copyFrom_137 ?_
  refine lv_iconst (v := 0) hx hb dX4_copyFrom_140 (by decide) ?_
  refine lv_aload_n hx hb dX4_copyFrom_141 rfl (lv_at hl 0 rfl) ?_
  refine gf_X4_36 C0 X hP (22 * t + 1) (q := (22 * t + 10)) (kdR t ht) (by omega) (lkR10 t ht) dX4_copyFrom_142 ?_
  refine lv_iconst (v := 0) hx hb dX4_copyFrom_145 (by decide) ?_
  refine lv_bipush (v := 73) hx hb dX4_copyFrom_146 (by decide) ?_
  refine r_copy (sp := 0) (dp := 0) (n := 73) C0 X hP hS fits_lk hl.1 (22 * u + 10) (22 * t + 10) (kdA10 u hu) (kdA10 t ht) rfl rfl rfl (by decide) (by decide) (Nat.le_of_ble_eq_true rfl) (Nat.le_of_ble_eq_true rfl) dX4_copyFrom_148 (fun H locs hP hS => ?_)
  rw [cpm0] at hP
  refine lv_aload_n hx hb dX4_copyFrom_151 rfl (lv_at hl 1 rfl) ?_
  refine gf_X4_39 C0 X hP (22 * u + 1) (q := (22 * u + 11)) (kdR u hu) (by omega) (lkR11 u hu) dX4_copyFrom_152 ?_
  refine lv_iconst (v := 0) hx hb dX4_copyFrom_155 (by decide) ?_
  refine lv_aload_n hx hb dX4_copyFrom_156 rfl (lv_at hl 0 rfl) ?_
  refine gf_X4_39 C0 X hP (22 * t + 1) (q := (22 * t + 11)) (kdR t ht) (by omega) (lkR11 t ht) dX4_copyFrom_157 ?_
  refine lv_iconst (v := 0) hx hb dX4_copyFrom_160 (by decide) ?_
  refine lv_iconst (v := 3) hx hb dX4_copyFrom_161 (by decide) ?_
  refine r_copy (sp := 0) (dp := 0) (n := 3) C0 X hP hS fits_lk hl.1 (22 * u + 11) (22 * t + 11) (kdA11 u hu) (kdA11 t ht) rfl rfl rfl (by decide) (by decide) (Nat.le_of_ble_eq_true rfl) (Nat.le_of_ble_eq_true rfl) dX4_copyFrom_162 (fun H locs hP hS => ?_)
  rw [cpm0] at hP
  refine lv_aload_n hx hb dX4_copyFrom_165 rfl (lv_at hl 1 rfl) ?_
  refine gf_X4_42 C0 X hP (22 * u + 1) (q := (22 * u + 12)) (kdR u hu) (by omega) (lkR12 u hu) dX4_copyFrom_166 ?_
  refine lv_iconst (v := 0) hx hb dX4_copyFrom_169 (by decide) ?_
  refine lv_aload_n hx hb dX4_copyFrom_170 rfl (lv_at hl 0 rfl) ?_
  refine gf_X4_42 C0 X hP (22 * t + 1) (q := (22 * t + 12)) (kdR t ht) (by omega) (lkR12 t ht) dX4_copyFrom_171 ?_
  refine lv_iconst (v := 0) hx hb dX4_copyFrom_174 (by decide) ?_
  refine lv_iconst (v := 3) hx hb dX4_copyFrom_175 (by decide) ?_
  refine r_copy (sp := 0) (dp := 0) (n := 3) C0 X hP hS fits_lk hl.1 (22 * u + 12) (22 * t + 12) (kdA12 u hu) (kdA12 t ht) rfl rfl rfl (by decide) (by decide) (Nat.le_of_ble_eq_true rfl) (Nat.le_of_ble_eq_true rfl) dX4_copyFrom_176 (fun H locs hP hS => ?_)
  rw [cpm0] at hP
  exact r_vret C0 X hP hS hr hlk dX4_copyFrom_179 rfl
def bB_cX6_copyFrom : Nat := 0xb13a00b84910031800b42a031800b42b3700b53700b42b2a3400b53400b42b2a3100b53100b42b2a2e00b52e00b42b2ae8ffa70102842b00b6321c1400b42b321c1400b42a1800a207101c3d032700b60c00b42b0c00b42a
theorem yB_cX6_copyFrom : BYS cX6_copyFrom 88 bB_cX6_copyFrom := BYS_of (by decide +kernel)
theorem dX6_copyFrom_0 : decode cX6_copyFrom 0 = .ok (.aload_n 0, 1) := D_42 yB_cX6_copyFrom rfl rfl
theorem dX6_copyFrom_1 : decode cX6_copyFrom 1 = .ok (.getfield 12, 3) := D_180 yB_cX6_copyFrom rfl rfl rfl
theorem dX6_copyFrom_4 : decode cX6_copyFrom 4 = .ok (.aload_n 1, 1) := D_43 yB_cX6_copyFrom rfl rfl
theorem dX6_copyFrom_5 : decode cX6_copyFrom 5 = .ok (.getfield 12, 3) := D_180 yB_cX6_copyFrom rfl rfl rfl
theorem dX6_copyFrom_8 : decode cX6_copyFrom 8 = .ok (.invokevirtual 39, 3) := D_182 yB_cX6_copyFrom rfl rfl rfl
theorem dX6_copyFrom_11 : decode cX6_copyFrom 11 = .ok (.iconst 0, 1) := D_3 yB_cX6_copyFrom rfl rfl
theorem dX6_copyFrom_12 : decode cX6_copyFrom 12 = .ok (.istore_n 2, 1) := D_61 yB_cX6_copyFrom rfl rfl
theorem dX6_copyFrom_13 : decode cX6_copyFrom 13 = .ok (.iload_n 2, 1) := D_28 yB_cX6_copyFrom rfl rfl
theorem dX6_copyFrom_14 : decode cX6_copyFrom 14 = .ok (.bipush 7, 2) := D_16 yB_cX6_copyFrom rfl rfl (sg_p (m := 128) (N := 7) rfl rfl rfl)
theorem dX6_copyFrom_16 : decode cX6_copyFrom 16 = .ok (.if_icmp .ge 24, 3) := D_162 yB_cX6_copyFrom rfl rfl (sg_p (m := 32768) (N := 24) rfl rfl rfl)
theorem dX6_copyFrom_19 : decode cX6_copyFrom 19 = .ok (.aload_n 0, 1) := D_42 yB_cX6_copyFrom rfl rfl
theorem dX6_copyFrom_20 : decode cX6_copyFrom 20 = .ok (.getfield 20, 3) := D_180 yB_cX6_copyFrom rfl rfl rfl
theorem dX6_copyFrom_23 : decode cX6_copyFrom 23 = .ok (.iload_n 2, 1) := D_28 yB_cX6_copyFrom rfl rfl
theorem dX6_copyFrom_24 : decode cX6_copyFrom 24 = .ok (.aaload, 1) := D_50 yB_cX6_copyFrom rfl rfl
theorem dX6_copyFrom_25 : decode cX6_copyFrom 25 = .ok (.aload_n 1, 1) := D_43 yB_cX6_copyFrom rfl rfl
theorem dX6_copyFrom_26 : decode cX6_copyFrom 26 = .ok (.getfield 20, 3) := D_180 yB_cX6_copyFrom rfl rfl rfl
theorem dX6_copyFrom_29 : decode cX6_copyFrom 29 = .ok (.iload_n 2, 1) := D_28 yB_cX6_copyFrom rfl rfl
theorem dX6_copyFrom_30 : decode cX6_copyFrom 30 = .ok (.aaload, 1) := D_50 yB_cX6_copyFrom rfl rfl
theorem dX6_copyFrom_31 : decode cX6_copyFrom 31 = .ok (.invokevirtual 43, 3) := D_182 yB_cX6_copyFrom rfl rfl rfl
theorem dX6_copyFrom_34 : decode cX6_copyFrom 34 = .ok (.iinc 2 1, 3) := D_132 yB_cX6_copyFrom rfl rfl rfl (sg_p (m := 128) (N := 1) rfl rfl rfl)
theorem dX6_copyFrom_37 : decode cX6_copyFrom 37 = .ok (.goto (-24), 3) := D_167 yB_cX6_copyFrom rfl rfl (sg_n (m := 32768) (N := 24) rfl rfl rfl)
theorem dX6_copyFrom_40 : decode cX6_copyFrom 40 = .ok (.aload_n 0, 1) := D_42 yB_cX6_copyFrom rfl rfl
theorem dX6_copyFrom_41 : decode cX6_copyFrom 41 = .ok (.aload_n 1, 1) := D_43 yB_cX6_copyFrom rfl rfl
theorem dX6_copyFrom_42 : decode cX6_copyFrom 42 = .ok (.getfield 46, 3) := D_180 yB_cX6_copyFrom rfl rfl rfl
theorem dX6_copyFrom_45 : decode cX6_copyFrom 45 = .ok (.putfield 46, 3) := D_181 yB_cX6_copyFrom rfl rfl rfl
theorem dX6_copyFrom_48 : decode cX6_copyFrom 48 = .ok (.aload_n 0, 1) := D_42 yB_cX6_copyFrom rfl rfl
theorem dX6_copyFrom_49 : decode cX6_copyFrom 49 = .ok (.aload_n 1, 1) := D_43 yB_cX6_copyFrom rfl rfl
theorem dX6_copyFrom_50 : decode cX6_copyFrom 50 = .ok (.getfield 49, 3) := D_180 yB_cX6_copyFrom rfl rfl rfl
theorem dX6_copyFrom_53 : decode cX6_copyFrom 53 = .ok (.putfield 49, 3) := D_181 yB_cX6_copyFrom rfl rfl rfl
theorem dX6_copyFrom_56 : decode cX6_copyFrom 56 = .ok (.aload_n 0, 1) := D_42 yB_cX6_copyFrom rfl rfl
theorem dX6_copyFrom_57 : decode cX6_copyFrom 57 = .ok (.aload_n 1, 1) := D_43 yB_cX6_copyFrom rfl rfl
theorem dX6_copyFrom_58 : decode cX6_copyFrom 58 = .ok (.getfield 52, 3) := D_180 yB_cX6_copyFrom rfl rfl rfl
theorem dX6_copyFrom_61 : decode cX6_copyFrom 61 = .ok (.putfield 52, 3) := D_181 yB_cX6_copyFrom rfl rfl rfl
theorem dX6_copyFrom_64 : decode cX6_copyFrom 64 = .ok (.aload_n 0, 1) := D_42 yB_cX6_copyFrom rfl rfl
theorem dX6_copyFrom_65 : decode cX6_copyFrom 65 = .ok (.aload_n 1, 1) := D_43 yB_cX6_copyFrom rfl rfl
theorem dX6_copyFrom_66 : decode cX6_copyFrom 66 = .ok (.getfield 55, 3) := D_180 yB_cX6_copyFrom rfl rfl rfl
theorem dX6_copyFrom_69 : decode cX6_copyFrom 69 = .ok (.putfield 55, 3) := D_181 yB_cX6_copyFrom rfl rfl rfl
theorem dX6_copyFrom_72 : decode cX6_copyFrom 72 = .ok (.aload_n 1, 1) := D_43 yB_cX6_copyFrom rfl rfl
theorem dX6_copyFrom_73 : decode cX6_copyFrom 73 = .ok (.getfield 24, 3) := D_180 yB_cX6_copyFrom rfl rfl rfl
theorem dX6_copyFrom_76 : decode cX6_copyFrom 76 = .ok (.iconst 0, 1) := D_3 yB_cX6_copyFrom rfl rfl
theorem dX6_copyFrom_77 : decode cX6_copyFrom 77 = .ok (.aload_n 0, 1) := D_42 yB_cX6_copyFrom rfl rfl
theorem dX6_copyFrom_78 : decode cX6_copyFrom 78 = .ok (.getfield 24, 3) := D_180 yB_cX6_copyFrom rfl rfl rfl
theorem dX6_copyFrom_81 : decode cX6_copyFrom 81 = .ok (.iconst 0, 1) := D_3 yB_cX6_copyFrom rfl rfl
theorem dX6_copyFrom_82 : decode cX6_copyFrom 82 = .ok (.bipush 73, 2) := D_16 yB_cX6_copyFrom rfl rfl (sg_p (m := 128) (N := 73) rfl rfl rfl)
theorem dX6_copyFrom_84 : decode cX6_copyFrom 84 = .ok (.invokestatic 58, 3) := D_184 yB_cX6_copyFrom rfl rfl rfl
theorem dX6_copyFrom_87 : decode cX6_copyFrom 87 = .ok (.return_, 1) := D_177 yB_cX6_copyFrom rfl rfl
set_option maxHeartbeats 4000000 in
set_option maxRecDepth 100000 in
theorem c_X6_copyFrom (l : Launch) (D : va_G) (cA : Nat → ClassId) (ad : Nat → Nat) (o : Int64) (σ : Mem) (t : Nat) (u : Nat) (ht : t < 3) (hu : u < 3) (hne : u ≠ t) (hb01 : ∀ k, k < 7 → ∀ b, b = 0 ∨ b = 1 ∨ b = 7 ∨ b = 8 → (σ (22 * u + 15 + k) b = 0 ∨ σ (22 * u + 15 + k) b = 1)) (sz : Nat) : Met l yX6_copyFrom (WY yX6_copyFrom cX6_copyFrom 3 none) (RM 2) (va_Pc [.ref (ad (22 * t)), .ref (ad (22 * u))] (PW D cA ad o σ sz)) (va_Qv (fun σ9 => σ9 = tcpy σ t u) (QW D cA ad o) (FA ad sz)) 0 0 (FA ad sz) := by
  refine ct_of (own := RX6) (k := 2) (Qf := va_Qv (fun σ9 => σ9 = tcpy σ t u) (QW D cA ad o)) rfl (by decide) (Nat.le_of_ble_eq_true rfl) (fun p e s m below meth c ls C0 X hr hlk hP hl => ?_) sz
  have hS : va_S (FA ad s.heap.size) s.heap s.heap [] := va_S.rf
  have hl : lv_has ls 3 [(0, .ref (ad (22 * t))), (1, .ref (ad (22 * u)))] := hl
  obtain ⟨hx, hb, hml, hown, hts⟩ := id C0
  refine lv_aload_n hx hb dX6_copyFrom_0 rfl (lv_at hl 0 rfl) ?_
  refine gf_X6_12 C0 X hP (22 * t) (q := (22 * t + 1)) (kdT t ht) (by omega) (lkT0 t ht) dX6_copyFrom_1 ?_
  refine lv_aload_n hx hb dX6_copyFrom_4 rfl (lv_at hl 1 rfl) ?_
  refine gf_X6_12 C0 X hP (22 * u) (q := (22 * u + 1)) (kdT u hu) (by omega) (lkT0 u hu) dX6_copyFrom_5 ?_
  refine r_cv X hS (r_runV (As := [.ref (ad (22 * u + 1))]) (rest := []) C0 X hP L_X6_39 (fun sz => c_X4_copyFrom l D cA ad o σ t u ht hu hne sz) (kdR t ht).1 (kdR t ht).2 (by decide) rfl ⟨Nat.le_of_ble_eq_true rfl, Nat.le_of_ble_eq_true rfl⟩ rfl hl.1 rfl (Nat.le_of_ble_eq_true rfl) dX6_copyFrom_8 ⟨Nat.zero_le _, Nat.zero_le _⟩) (fun σ9 H locs hw hP hS => ?_)
  rw [hw] at hP
  refine lv_iconst (v := 0) hx hb dX6_copyFrom_11 (by decide) ?_
  refine lv_istore_n (lv' := [(2, .int 0), (0, .ref (ad (22 * t))), (1, .ref (ad (22 * u)))]) hx hb dX6_copyFrom_12 rfl hl (by decide) rfl (fun ls hl => ?_)
  have lp_1 : ∀ (nn : Nat) (k : Nat) (H : Heap) (locs : List Loc) (ls : Array Slot), k ≤ 7 → WP D cA ad o (ccpyK (rdcpy σ t u) t u k) H → va_S (FA ad s.heap.size) s.heap H locs → lv_has ls 3 [(0, .ref (ad (22 * t))), (1, .ref (ad (22 * u))), (2, .int (nI k))] → (7 - k) < nn → W p l e (RM 2) s m ([.ref (ad (22 * t)), .ref (ad (22 * u))] : List Value).toArray below meth c H locs 0 0 (MQ below (va_Qv (fun σ9 => σ9 = tcpy σ t u) (QW D cA ad o) (FA ad s.heap.size)) ([.ref (ad (22 * t)), .ref (ad (22 * u))] : List Value).toArray s 0 0 (FA ad s.heap.size)) (F0 m 13 ls []) := by
    intro nn
    induction nn with
    | zero => intro k H locs ls hk hP hS hl hn; exact absurd hn (Nat.not_lt_zero _)
    | succ nn ih =>
      intro k H locs ls hk hP hS hl hn
      refine lv_iload_n hx hb dX6_copyFrom_13 rfl (lv_at hl 2 rfl) ?_
      refine lv_bipush (v := 7) hx hb dX6_copyFrom_14 (by decide) ?_
      refine lv_icmp_ge (tgt := 40) hx hb dX6_copyFrom_16 (by decide) (fun c_2 => ?_) (fun c_2 => ?_)
      · obtain rfl : k = 7 := nI_geof (b := 7) c_2 hk (by omega)
        refine lv_aload_n hx hb dX6_copyFrom_40 rfl (lv_at hl 0 rfl) ?_
        refine lv_aload_n hx hb dX6_copyFrom_41 rfl (lv_at hl 1 rfl) ?_
        refine gf_X6_46 C0 X hP (22 * u) (kdT u hu) dX6_copyFrom_42 ?_
        refine lv_topE (y := (σ (22 * u) 2)) (by rw [ccpyK_ne _ (by omega), rdcpy_ne _ (by omega)]) ?_
        refine pf_X6_46 C0 X hP hS (22 * t) (kdT t ht) dX6_copyFrom_45 (fun H locs hP hS => ?_)
        refine lv_aload_n hx hb dX6_copyFrom_48 rfl (lv_at hl 0 rfl) ?_
        refine lv_aload_n hx hb dX6_copyFrom_49 rfl (lv_at hl 1 rfl) ?_
        refine gf_X6_49 C0 X hP (22 * u) (kdT u hu) dX6_copyFrom_50 ?_
        refine lv_topE (y := (σ (22 * u) 3)) (by simp only [stm_ne _ _ _ (show 22 * u ≠ 22 * t by omega)]; rw [ccpyK_ne _ (by omega), rdcpy_ne _ (by omega)]) ?_
        refine pf_X6_49 C0 X hP hS (22 * t) (kdT t ht) dX6_copyFrom_53 (fun H locs hP hS => ?_)
        refine lv_aload_n hx hb dX6_copyFrom_56 rfl (lv_at hl 0 rfl) ?_
        refine lv_aload_n hx hb dX6_copyFrom_57 rfl (lv_at hl 1 rfl) ?_
        refine gf_X6_52 C0 X hP (22 * u) (kdT u hu) dX6_copyFrom_58 ?_
        refine lv_topE (y := (σ (22 * u) 4)) (by simp only [stm_ne _ _ _ (show 22 * u ≠ 22 * t by omega)]; rw [ccpyK_ne _ (by omega), rdcpy_ne _ (by omega)]) ?_
        refine pf_X6_52 C0 X hP hS (22 * t) (kdT t ht) dX6_copyFrom_61 (fun H locs hP hS => ?_)
        refine lv_aload_n hx hb dX6_copyFrom_64 rfl (lv_at hl 0 rfl) ?_
        refine lv_aload_n hx hb dX6_copyFrom_65 rfl (lv_at hl 1 rfl) ?_
        refine gf_X6_55 C0 X hP (22 * u) (kdT u hu) dX6_copyFrom_66 ?_
        refine lv_topE (y := (σ (22 * u) 5)) (by simp only [stm_ne _ _ _ (show 22 * u ≠ 22 * t by omega)]; rw [ccpyK_ne _ (by omega), rdcpy_ne _ (by omega)]) ?_
        refine pf_X6_55 C0 X hP hS (22 * t) (kdT t ht) dX6_copyFrom_69 (fun H locs hP hS => ?_)
        refine lv_aload_n hx hb dX6_copyFrom_72 rfl (lv_at hl 1 rfl) ?_
        refine gf_X6_24 C0 X hP (22 * u) (q := (22 * u + 14)) (kdT u hu) (by omega) (lkT7 u hu) dX6_copyFrom_73 ?_
        refine lv_iconst (v := 0) hx hb dX6_copyFrom_76 (by decide) ?_
        refine lv_aload_n hx hb dX6_copyFrom_77 rfl (lv_at hl 0 rfl) ?_
        refine gf_X6_24 C0 X hP (22 * t) (q := (22 * t + 14)) (kdT t ht) (by omega) (lkT7 t ht) dX6_copyFrom_78 ?_
        refine lv_iconst (v := 0) hx hb dX6_copyFrom_81 (by decide) ?_
        refine lv_bipush (v := 73) hx hb dX6_copyFrom_82 (by decide) ?_
        refine r_copy (sp := 0) (dp := 0) (n := 73) C0 X hP hS lkTr58 hl.1 (22 * u + 14) (22 * t + 14) (kdA14 u hu) (kdA14 t ht) rfl rfl rfl (by decide) (by decide) (Nat.le_of_ble_eq_true rfl) (Nat.le_of_ble_eq_true rfl) dX6_copyFrom_84 (fun H locs hP hS => ?_)
        rw [cpm0] at hP
        exact r_vret C0 X hP hS hr hlk dX6_copyFrom_87 rfl
      · have hk7 : k < 7 := nI_ltof (b := 7) c_2 (by omega)
        refine lv_aload_n hx hb dX6_copyFrom_19 rfl (lv_at hl 0 rfl) ?_
        refine gf_X6_20 C0 X hP (22 * t) (q := (22 * t + 13)) (kdT t ht) (by omega) (lkT1 t ht) dX6_copyFrom_20 ?_
        refine lv_iload_n hx hb dX6_copyFrom_23 rfl (lv_at hl 2 rfl) ?_
        refine r_aaldCN C0 X hP (22 * t + 13) (k := k) (q := (22 * t + 15 + k)) (kdCA t ht) rfl (by omega) (lkCA t ht k (by omega)) dX6_copyFrom_24 ?_
        refine lv_aload_n hx hb dX6_copyFrom_25 rfl (lv_at hl 1 rfl) ?_
        refine gf_X6_20 C0 X hP (22 * u) (q := (22 * u + 13)) (kdT u hu) (by omega) (lkT1 u hu) dX6_copyFrom_26 ?_
        refine lv_iload_n hx hb dX6_copyFrom_29 rfl (lv_at hl 2 rfl) ?_
        refine r_aaldCN C0 X hP (22 * u + 13) (k := k) (q := (22 * u + 15 + k)) (kdCA u hu) rfl (by omega) (lkCA u hu k (by omega)) dX6_copyFrom_30 ?_
        refine r_cv X hS (r_runV (As := [.ref (ad (22 * u + 15 + k))]) (rest := []) C0 X hP L_X6_43 (fun sz => c_X0_copyFrom l D cA ad o (ccpyK (rdcpy σ t u) t u k) (22 * t + 15 + k) (22 * u + 15 + k) (kdC t ht k (by omega)) (kdC u hu k (by omega)) (by omega) (by rw [ccpyK_ne _ (by omega), rdcpy_ne _ (by omega)]; exact hb01 k hk7) sz) (kdC t ht k (by omega)).1 (kdC t ht k (by omega)).2 (by decide) rfl ⟨Nat.le_of_ble_eq_true rfl, Nat.le_of_ble_eq_true rfl⟩ rfl hl.1 rfl (Nat.le_of_ble_eq_true rfl) dX6_copyFrom_31 ⟨Nat.zero_le _, Nat.zero_le _⟩) (fun σ9 H locs hw hP hS => ?_)
        rw [hw] at hP
        refine lv_iinc (v := (nI (k + 1))) (lv' := [(2, .int (nI (k + 1))), (0, .ref (ad (22 * t))), (1, .ref (ad (22 * u)))]) hx hb dX6_copyFrom_34 hl (k := 2) rfl (nI_1 _) (by decide) rfl (fun ls hl => ?_)
        refine lv_goto (tgt := 13) hx hb dX6_copyFrom_37 (by decide) ?_
        exact ih (k + 1) _ _ ls (by omega) (mem_cast (ccpyK_s _ hk7 hne) hP) hS (lv_sub hl [1, 2, 0] rfl) (by omega)
  exact lp_1 ((7 - 0) + 1) 0 _ _ ls (by decide) (mem_cast (ccpyK_0 _ t u) hP) hS (lv_sub hl [1, 2, 0] rfl) (by omega)
def bB_cX6_cartAt : Nat := 0xb0321b1400b42a0900a7010700a107101b0900a22e00b42a1b11009b1b
theorem yB_cX6_cartAt : BYS cX6_cartAt 29 bB_cX6_cartAt := BYS_of (by decide +kernel)
theorem dX6_cartAt_0 : decode cX6_cartAt 0 = .ok (.iload_n 1, 1) := D_27 yB_cX6_cartAt rfl rfl
theorem dX6_cartAt_1 : decode cX6_cartAt 1 = .ok (.ifCond .lt 17, 3) := D_155 yB_cX6_cartAt rfl rfl (sg_p (m := 32768) (N := 17) rfl rfl rfl)
theorem dX6_cartAt_4 : decode cX6_cartAt 4 = .ok (.iload_n 1, 1) := D_27 yB_cX6_cartAt rfl rfl
theorem dX6_cartAt_5 : decode cX6_cartAt 5 = .ok (.aload_n 0, 1) := D_42 yB_cX6_cartAt rfl rfl
theorem dX6_cartAt_6 : decode cX6_cartAt 6 = .ok (.getfield 46, 3) := D_180 yB_cX6_cartAt rfl rfl rfl
theorem dX6_cartAt_9 : decode cX6_cartAt 9 = .ok (.if_icmp .ge 9, 3) := D_162 yB_cX6_cartAt rfl rfl (sg_p (m := 32768) (N := 9) rfl rfl rfl)
theorem dX6_cartAt_12 : decode cX6_cartAt 12 = .ok (.iload_n 1, 1) := D_27 yB_cX6_cartAt rfl rfl
theorem dX6_cartAt_13 : decode cX6_cartAt 13 = .ok (.bipush 7, 2) := D_16 yB_cX6_cartAt rfl rfl (sg_p (m := 128) (N := 7) rfl rfl rfl)
theorem dX6_cartAt_15 : decode cX6_cartAt 15 = .ok (.if_icmp .lt 7, 3) := D_161 yB_cX6_cartAt rfl rfl (sg_p (m := 32768) (N := 7) rfl rfl rfl)
theorem dX6_cartAt_18 : decode cX6_cartAt 18 = .ok (.aconst_null, 1) := D_1 yB_cX6_cartAt rfl rfl
theorem dX6_cartAt_19 : decode cX6_cartAt 19 = .ok (.goto 9, 3) := D_167 yB_cX6_cartAt rfl rfl (sg_p (m := 32768) (N := 9) rfl rfl rfl)
theorem dX6_cartAt_22 : decode cX6_cartAt 22 = .ok (.aload_n 0, 1) := D_42 yB_cX6_cartAt rfl rfl
theorem dX6_cartAt_23 : decode cX6_cartAt 23 = .ok (.getfield 20, 3) := D_180 yB_cX6_cartAt rfl rfl rfl
theorem dX6_cartAt_26 : decode cX6_cartAt 26 = .ok (.iload_n 1, 1) := D_27 yB_cX6_cartAt rfl rfl
theorem dX6_cartAt_27 : decode cX6_cartAt 27 = .ok (.aaload, 1) := D_50 yB_cX6_cartAt rfl rfl
theorem dX6_cartAt_28 : decode cX6_cartAt 28 = .ok (.areturn, 1) := D_176 yB_cX6_cartAt rfl rfl
set_option maxHeartbeats 4000000 in
set_option maxRecDepth 100000 in
theorem c_X6_cartAt (l : Launch) (D : va_G) (cA : Nat → ClassId) (ad : Nat → Nat) (o : Int64) (σ : Mem) (t : Nat) (k : Int32) (ht : t < 3) (sz : Nat) : Met l yX6_cartAt (WY yX6_cartAt cX6_cartAt 2 (some (.object "WhoBacks$Cart"))) (RM 0) (va_Pc [.ref (ad (22 * t)), .int k] (PW D cA ad o σ sz)) (va_Qq (QQ ad (fun x σ9 => σ9 = σ ∧ (match x with | none => k < 0 ∨ σ (22 * t) 2 ≤ k ∨ 7 ≤ k | some q => ∃ j : Nat, j < 7 ∧ k = nI j ∧ k < σ (22 * t) 2 ∧ q = 22 * t + 15 + j))) (QW D cA ad o) (FA ad sz)) 0 0 (FA ad sz) := by
  refine ct_of (own := RX6) (k := 0) (Qf := va_Qq (QQ ad (fun x σ9 => σ9 = σ ∧ (match x with | none => k < 0 ∨ σ (22 * t) 2 ≤ k ∨ 7 ≤ k | some q => ∃ j : Nat, j < 7 ∧ k = nI j ∧ k < σ (22 * t) 2 ∧ q = 22 * t + 15 + j))) (QW D cA ad o)) rfl (by decide) (Nat.le_of_ble_eq_true rfl) (fun p e s m below meth c ls C0 X hr hlk hP hl => ?_) sz
  have hS : va_S (FA ad s.heap.size) s.heap s.heap [] := va_S.rf
  have hl : lv_has ls 2 [(0, .ref (ad (22 * t))), (1, .int k)] := hl
  obtain ⟨hx, hb, hml, hown, hts⟩ := id C0
  refine lv_iload_n hx hb dX6_cartAt_0 rfl (lv_at hl 1 rfl) ?_
  refine lv_if_lt (tgt := 18) hx hb dX6_cartAt_1 (by decide) (fun c_1 => ?_) (fun c_1 => ?_)
  · refine lv_null hx hb dX6_cartAt_18 ?_
    refine lv_goto (tgt := 28) hx hb dX6_cartAt_19 (by decide) ?_
    exact r_aretN C0 X hP hS hr hlk dX6_cartAt_28 ⟨rfl, Or.inl c_1⟩
  · refine lv_iload_n hx hb dX6_cartAt_4 rfl (lv_at hl 1 rfl) ?_
    refine lv_aload_n hx hb dX6_cartAt_5 rfl (lv_at hl 0 rfl) ?_
    refine gf_X6_46 C0 X hP (22 * t) (kdT t ht) dX6_cartAt_6 ?_
    refine lv_icmp_ge (tgt := 18) hx hb dX6_cartAt_9 (by decide) (fun c_2 => ?_) (fun c_2 => ?_)
    · refine lv_null hx hb dX6_cartAt_18 ?_
      refine lv_goto (tgt := 28) hx hb dX6_cartAt_19 (by decide) ?_
      exact r_aretN C0 X hP hS hr hlk dX6_cartAt_28 ⟨rfl, Or.inr (Or.inl c_2)⟩
    · refine lv_iload_n hx hb dX6_cartAt_12 rfl (lv_at hl 1 rfl) ?_
      refine lv_bipush (v := 7) hx hb dX6_cartAt_13 (by decide) ?_
      refine lv_icmp_lt (tgt := 22) hx hb dX6_cartAt_15 (by decide) (fun c_3 => ?_) (fun c_3 => ?_)
      · obtain ⟨j, hj, rfl⟩ : ∃ j : Nat, j < 7 ∧ k = nI j := ixN (M := 7) (by decide) c_1 c_3
        refine lv_aload_n hx hb dX6_cartAt_22 rfl (lv_at hl 0 rfl) ?_
        refine gf_X6_20 C0 X hP (22 * t) (q := (22 * t + 13)) (kdT t ht) (by omega) (lkT1 t ht) dX6_cartAt_23 ?_
        refine lv_iload_n hx hb dX6_cartAt_26 rfl (lv_at hl 1 rfl) ?_
        refine r_aaldCN C0 X hP (22 * t + 13) (k := j) (q := (22 * t + 15 + j)) (kdCA t ht) rfl (by omega) (lkCA t ht j (by omega)) dX6_cartAt_27 ?_
        exact r_aret C0 X hP hS hr hlk dX6_cartAt_28 ⟨rfl, j, hj, rfl, Int32.not_le.mp c_2, rfl⟩
      · refine lv_null hx hb dX6_cartAt_18 ?_
        refine lv_goto (tgt := 28) hx hb dX6_cartAt_19 (by decide) ?_
        exact r_aretN C0 X hP hS hr hlk dX6_cartAt_28 ⟨rfl, Or.inr (Or.inr (Int32.not_lt.mp c_3))⟩
