def bB_cX8_leastOf : Nat := 0xacee120500a70080110900a0042e1b1900b42a1500a7801008009a2e1b1900b42a
theorem yB_cX8_leastOf : BYS cX8_leastOf 33 bB_cX8_leastOf := BYS_of (by decide +kernel)
theorem dX8_leastOf_0 : decode cX8_leastOf 0 = .ok (.aload_n 0, 1) := D_42 yB_cX8_leastOf rfl rfl
theorem dX8_leastOf_1 : decode cX8_leastOf 1 = .ok (.getfield 25, 3) := D_180 yB_cX8_leastOf rfl rfl rfl
theorem dX8_leastOf_4 : decode cX8_leastOf 4 = .ok (.iload_n 1, 1) := D_27 yB_cX8_leastOf rfl rfl
theorem dX8_leastOf_5 : decode cX8_leastOf 5 = .ok (.iaload, 1) := D_46 yB_cX8_leastOf rfl rfl
theorem dX8_leastOf_6 : decode cX8_leastOf 6 = .ok (.ifCond .ne 8, 3) := D_154 yB_cX8_leastOf rfl rfl (sg_p (m := 32768) (N := 8) rfl rfl rfl)
theorem dX8_leastOf_9 : decode cX8_leastOf 9 = .ok (.bipush (-128), 2) := D_16 yB_cX8_leastOf rfl rfl (sg_n (m := 128) (N := 128) rfl rfl rfl)
theorem dX8_leastOf_11 : decode cX8_leastOf 11 = .ok (.goto 21, 3) := D_167 yB_cX8_leastOf rfl rfl (sg_p (m := 32768) (N := 21) rfl rfl rfl)
theorem dX8_leastOf_14 : decode cX8_leastOf 14 = .ok (.aload_n 0, 1) := D_42 yB_cX8_leastOf rfl rfl
theorem dX8_leastOf_15 : decode cX8_leastOf 15 = .ok (.getfield 25, 3) := D_180 yB_cX8_leastOf rfl rfl rfl
theorem dX8_leastOf_18 : decode cX8_leastOf 18 = .ok (.iload_n 1, 1) := D_27 yB_cX8_leastOf rfl rfl
theorem dX8_leastOf_19 : decode cX8_leastOf 19 = .ok (.iaload, 1) := D_46 yB_cX8_leastOf rfl rfl
theorem dX8_leastOf_20 : decode cX8_leastOf 20 = .ok (.iconst 1, 1) := D_4 yB_cX8_leastOf rfl rfl
theorem dX8_leastOf_21 : decode cX8_leastOf 21 = .ok (.if_icmp .ne 9, 3) := D_160 yB_cX8_leastOf rfl rfl (sg_p (m := 32768) (N := 9) rfl rfl rfl)
theorem dX8_leastOf_24 : decode cX8_leastOf 24 = .ok (.sipush (-32768), 3) := D_17 yB_cX8_leastOf rfl rfl (sg_n (m := 32768) (N := 32768) rfl rfl rfl)
theorem dX8_leastOf_27 : decode cX8_leastOf 27 = .ok (.goto 5, 3) := D_167 yB_cX8_leastOf rfl rfl (sg_p (m := 32768) (N := 5) rfl rfl rfl)
theorem dX8_leastOf_30 : decode cX8_leastOf 30 = .ok (.ldc 238, 2) := D_18 yB_cX8_leastOf rfl rfl rfl
theorem dX8_leastOf_32 : decode cX8_leastOf 32 = .ok (.ireturn, 1) := D_172 yB_cX8_leastOf rfl rfl
def F_X8_leastOf (σ : Mem) (x1 : Int32) : Option (Int32) := (ix 8 x1).bind fun k_1 => if (σ 97 k_1) = 0 then (some (-128)) else ((ix 8 x1).bind fun k_3 => if (σ 97 k_3) = 1 then (some (-32768)) else (some (-2147483648)))
set_option maxHeartbeats 4000000 in
set_option maxRecDepth 100000 in
theorem c_X8_leastOf (l : Launch) (D : va_G) (cA : Nat → ClassId) (ad : Nat → Nat) (o : Int64) (σ : Mem) (x1 : Int32)  (res : Int32) (h : F_X8_leastOf σ x1 = some res) (sz : Nat) : Met l yX8_leastOf (WY yX8_leastOf cX8_leastOf 2 (some .int)) (RM 0) (va_Pc [.ref (ad 91), .int x1] (PW D cA ad o σ sz)) (va_Qi (fun r σ9 => r = res ∧ σ9 = σ) (QW D cA ad o) (FA ad sz)) 0 0 (FA ad sz) := by
  refine ct_of (own := RX8) (k := 0) (Qf := va_Qi (fun r σ9 => r = res ∧ σ9 = σ) (QW D cA ad o)) rfl (by decide) (Nat.le_of_ble_eq_true rfl) (fun p e s m below meth c ls C0 X hr hlk hP hl => ?_) sz
  have hS : va_S (FA ad s.heap.size) s.heap s.heap [] := va_S.rf
  have hl : lv_has ls 2 [(0, .ref (ad 91)), (1, .int x1)] := hl
  obtain ⟨hx, hb, hml, hown, hts⟩ := id C0
  unfold F_X8_leastOf at h
  refine lv_aload_n hx hb dX8_leastOf_0 rfl (lv_at hl 0 rfl) ?_
  refine gf_X8_25 C0 X hP 91 (q := 97) ⟨by decide, rfl⟩ (by omega) rfl dX8_leastOf_1 ?_
  refine lv_iload_n hx hb dX8_leastOf_4 rfl (lv_at hl 1 rfl) ?_
  obtain ⟨k_1, ek_1, h⟩ := bnd h
  replace ek_1 := ix_s ek_1 (by decide)
  refine r_ialdN C0 X hP 97 (k := k_1) ⟨by decide, rfl⟩ ek_1.1 ek_1.2 dX8_leastOf_5 ?_
  refine lv_if_ne (tgt := 14) hx hb dX8_leastOf_6 (by decide) (fun c_2 => ?_) (fun c_2 => ?_)
  · replace h := it_f h c_2
    refine lv_aload_n hx hb dX8_leastOf_14 rfl (lv_at hl 0 rfl) ?_
    refine gf_X8_25 C0 X hP 91 (q := 97) ⟨by decide, rfl⟩ (by omega) rfl dX8_leastOf_15 ?_
    refine lv_iload_n hx hb dX8_leastOf_18 rfl (lv_at hl 1 rfl) ?_
    obtain ⟨k_3, ek_3, h⟩ := bnd h
    replace ek_3 := ix_s ek_3 (by decide)
    refine r_ialdN C0 X hP 97 (k := k_3) ⟨by decide, rfl⟩ ek_3.1 ek_3.2 dX8_leastOf_19 ?_
    refine lv_iconst (v := 1) hx hb dX8_leastOf_20 (by decide) ?_
    refine lv_icmp_ne (tgt := 30) hx hb dX8_leastOf_21 (by decide) (fun c_4 => ?_) (fun c_4 => ?_)
    · replace h := it_f h c_4
      refine lv_ldc (own := RX8) (index := 238) (v := (-2147483648)) hx hb hown (hts _ (tmc sb6_3 1 rfl (by decide +kernel))) dX8_leastOf_30 ?_
      exact r_iret C0 X hP hS hr hlk dX8_leastOf_32 ⟨Option.some.inj h, rfl⟩
    · replace h := it_t h c_4
      refine lv_sipush (v := (-32768)) hx hb dX8_leastOf_24 (by decide) ?_
      refine lv_goto (tgt := 32) hx hb dX8_leastOf_27 (by decide) ?_
      exact r_iret C0 X hP hS hr hlk dX8_leastOf_32 ⟨Option.some.inj h, rfl⟩
  · replace h := it_t h c_2
    refine lv_bipush (v := (-128)) hx hb dX8_leastOf_9 (by decide) ?_
    refine lv_goto (tgt := 32) hx hb dX8_leastOf_11 (by decide) ?_
    exact r_iret C0 X hP hS hr hlk dX8_leastOf_32 ⟨Option.some.inj h, rfl⟩
def bB_cX8_judge : Nat := 0xacfc10b7ffa7010484ac041506009f8200b8081b1000b42a051514009fef00b61c2a051505362e600415681c64101f00b42ae300b61000b42a2a0b009ae000b81000b42a4400a22e1c1c00b42a0415043603e8ffa70104844f2e04150900b42a04151000b42a1700a279100415043603ac1d0500991d3efd1006009a2e030900b42a0f009a1d3e6c00b6021c2aac0205009a6900b81c0a00997f00b61b2a
theorem yB_cX8_judge : BYS cX8_judge 158 bB_cX8_judge := BYS_of (by decide +kernel)
theorem dX8_judge_0 : decode cX8_judge 0 = .ok (.aload_n 0, 1) := D_42 yB_cX8_judge rfl rfl
theorem dX8_judge_1 : decode cX8_judge 1 = .ok (.iload_n 1, 1) := D_27 yB_cX8_judge rfl rfl
theorem dX8_judge_2 : decode cX8_judge 2 = .ok (.invokevirtual 127, 3) := D_182 yB_cX8_judge rfl rfl rfl
theorem dX8_judge_5 : decode cX8_judge 5 = .ok (.ifCond .eq 10, 3) := D_153 yB_cX8_judge rfl rfl (sg_p (m := 32768) (N := 10) rfl rfl rfl)
theorem dX8_judge_8 : decode cX8_judge 8 = .ok (.iload_n 2, 1) := D_28 yB_cX8_judge rfl rfl
theorem dX8_judge_9 : decode cX8_judge 9 = .ok (.invokestatic 105, 3) := D_184 yB_cX8_judge rfl rfl rfl
theorem dX8_judge_12 : decode cX8_judge 12 = .ok (.ifCond .ne 5, 3) := D_154 yB_cX8_judge rfl rfl (sg_p (m := 32768) (N := 5) rfl rfl rfl)
theorem dX8_judge_15 : decode cX8_judge 15 = .ok (.iconst (-1), 1) := D_2 yB_cX8_judge rfl rfl
theorem dX8_judge_16 : decode cX8_judge 16 = .ok (.ireturn, 1) := D_172 yB_cX8_judge rfl rfl
theorem dX8_judge_17 : decode cX8_judge 17 = .ok (.aload_n 0, 1) := D_42 yB_cX8_judge rfl rfl
theorem dX8_judge_18 : decode cX8_judge 18 = .ok (.iload_n 2, 1) := D_28 yB_cX8_judge rfl rfl
theorem dX8_judge_19 : decode cX8_judge 19 = .ok (.iconst (-1), 1) := D_2 yB_cX8_judge rfl rfl
theorem dX8_judge_20 : decode cX8_judge 20 = .ok (.invokevirtual 108, 3) := D_182 yB_cX8_judge rfl rfl rfl
theorem dX8_judge_23 : decode cX8_judge 23 = .ok (.istore_n 3, 1) := D_62 yB_cX8_judge rfl rfl
theorem dX8_judge_24 : decode cX8_judge 24 = .ok (.iload_n 3, 1) := D_29 yB_cX8_judge rfl rfl
theorem dX8_judge_25 : decode cX8_judge 25 = .ok (.ifCond .ne 15, 3) := D_154 yB_cX8_judge rfl rfl (sg_p (m := 32768) (N := 15) rfl rfl rfl)
theorem dX8_judge_28 : decode cX8_judge 28 = .ok (.aload_n 0, 1) := D_42 yB_cX8_judge rfl rfl
theorem dX8_judge_29 : decode cX8_judge 29 = .ok (.getfield 9, 3) := D_180 yB_cX8_judge rfl rfl rfl
theorem dX8_judge_32 : decode cX8_judge 32 = .ok (.iconst 0, 1) := D_3 yB_cX8_judge rfl rfl
theorem dX8_judge_33 : decode cX8_judge 33 = .ok (.iaload, 1) := D_46 yB_cX8_judge rfl rfl
theorem dX8_judge_34 : decode cX8_judge 34 = .ok (.ifCond .ne 6, 3) := D_154 yB_cX8_judge rfl rfl (sg_p (m := 32768) (N := 6) rfl rfl rfl)
theorem dX8_judge_37 : decode cX8_judge 37 = .ok (.bipush (-3), 2) := D_16 yB_cX8_judge rfl rfl (sg_n (m := 128) (N := 3) rfl rfl rfl)
theorem dX8_judge_39 : decode cX8_judge 39 = .ok (.istore_n 3, 1) := D_62 yB_cX8_judge rfl rfl
theorem dX8_judge_40 : decode cX8_judge 40 = .ok (.iload_n 3, 1) := D_29 yB_cX8_judge rfl rfl
theorem dX8_judge_41 : decode cX8_judge 41 = .ok (.ifCond .eq 5, 3) := D_153 yB_cX8_judge rfl rfl (sg_p (m := 32768) (N := 5) rfl rfl rfl)
theorem dX8_judge_44 : decode cX8_judge 44 = .ok (.iload_n 3, 1) := D_29 yB_cX8_judge rfl rfl
theorem dX8_judge_45 : decode cX8_judge 45 = .ok (.ireturn, 1) := D_172 yB_cX8_judge rfl rfl
theorem dX8_judge_46 : decode cX8_judge 46 = .ok (.iconst 0, 1) := D_3 yB_cX8_judge rfl rfl
theorem dX8_judge_47 : decode cX8_judge 47 = .ok (.istore 4, 2) := D_54 yB_cX8_judge rfl rfl rfl
theorem dX8_judge_49 : decode cX8_judge 49 = .ok (.iload 4, 2) := D_21 yB_cX8_judge rfl rfl rfl
theorem dX8_judge_51 : decode cX8_judge 51 = .ok (.bipush 121, 2) := D_16 yB_cX8_judge rfl rfl (sg_p (m := 128) (N := 121) rfl rfl rfl)
theorem dX8_judge_53 : decode cX8_judge 53 = .ok (.if_icmp .ge 23, 3) := D_162 yB_cX8_judge rfl rfl (sg_p (m := 32768) (N := 23) rfl rfl rfl)
theorem dX8_judge_56 : decode cX8_judge 56 = .ok (.aload_n 0, 1) := D_42 yB_cX8_judge rfl rfl
theorem dX8_judge_57 : decode cX8_judge 57 = .ok (.getfield 16, 3) := D_180 yB_cX8_judge rfl rfl rfl
theorem dX8_judge_60 : decode cX8_judge 60 = .ok (.iload 4, 2) := D_21 yB_cX8_judge rfl rfl rfl
theorem dX8_judge_62 : decode cX8_judge 62 = .ok (.aload_n 0, 1) := D_42 yB_cX8_judge rfl rfl
theorem dX8_judge_63 : decode cX8_judge 63 = .ok (.getfield 9, 3) := D_180 yB_cX8_judge rfl rfl rfl
theorem dX8_judge_66 : decode cX8_judge 66 = .ok (.iload 4, 2) := D_21 yB_cX8_judge rfl rfl rfl
theorem dX8_judge_68 : decode cX8_judge 68 = .ok (.iaload, 1) := D_46 yB_cX8_judge rfl rfl
theorem dX8_judge_69 : decode cX8_judge 69 = .ok (.iastore, 1) := D_79 yB_cX8_judge rfl rfl
theorem dX8_judge_70 : decode cX8_judge 70 = .ok (.iinc 4 1, 3) := D_132 yB_cX8_judge rfl rfl rfl (sg_p (m := 128) (N := 1) rfl rfl rfl)
theorem dX8_judge_73 : decode cX8_judge 73 = .ok (.goto (-24), 3) := D_167 yB_cX8_judge rfl rfl (sg_n (m := 32768) (N := 24) rfl rfl rfl)
theorem dX8_judge_76 : decode cX8_judge 76 = .ok (.iconst 0, 1) := D_3 yB_cX8_judge rfl rfl
theorem dX8_judge_77 : decode cX8_judge 77 = .ok (.istore 4, 2) := D_54 yB_cX8_judge rfl rfl rfl
theorem dX8_judge_79 : decode cX8_judge 79 = .ok (.iload 4, 2) := D_21 yB_cX8_judge rfl rfl rfl
theorem dX8_judge_81 : decode cX8_judge 81 = .ok (.aload_n 0, 1) := D_42 yB_cX8_judge rfl rfl
theorem dX8_judge_82 : decode cX8_judge 82 = .ok (.getfield 28, 3) := D_180 yB_cX8_judge rfl rfl rfl
theorem dX8_judge_85 : decode cX8_judge 85 = .ok (.iload_n 2, 1) := D_28 yB_cX8_judge rfl rfl
theorem dX8_judge_86 : decode cX8_judge 86 = .ok (.iaload, 1) := D_46 yB_cX8_judge rfl rfl
theorem dX8_judge_87 : decode cX8_judge 87 = .ok (.if_icmp .ge 68, 3) := D_162 yB_cX8_judge rfl rfl (sg_p (m := 32768) (N := 68) rfl rfl rfl)
theorem dX8_judge_90 : decode cX8_judge 90 = .ok (.aload_n 0, 1) := D_42 yB_cX8_judge rfl rfl
theorem dX8_judge_91 : decode cX8_judge 91 = .ok (.getfield 16, 3) := D_180 yB_cX8_judge rfl rfl rfl
theorem dX8_judge_94 : decode cX8_judge 94 = .ok (.invokestatic 224, 3) := D_184 yB_cX8_judge rfl rfl rfl
theorem dX8_judge_97 : decode cX8_judge 97 = .ok (.ifCond .ne 11, 3) := D_154 yB_cX8_judge rfl rfl (sg_p (m := 32768) (N := 11) rfl rfl rfl)
theorem dX8_judge_100 : decode cX8_judge 100 = .ok (.aload_n 0, 1) := D_42 yB_cX8_judge rfl rfl
theorem dX8_judge_101 : decode cX8_judge 101 = .ok (.aload_n 0, 1) := D_42 yB_cX8_judge rfl rfl
theorem dX8_judge_102 : decode cX8_judge 102 = .ok (.getfield 16, 3) := D_180 yB_cX8_judge rfl rfl rfl
theorem dX8_judge_105 : decode cX8_judge 105 = .ok (.invokevirtual 227, 3) := D_182 yB_cX8_judge rfl rfl rfl
theorem dX8_judge_108 : decode cX8_judge 108 = .ok (.aload_n 0, 1) := D_42 yB_cX8_judge rfl rfl
theorem dX8_judge_109 : decode cX8_judge 109 = .ok (.getfield 31, 3) := D_180 yB_cX8_judge rfl rfl rfl
theorem dX8_judge_112 : decode cX8_judge 112 = .ok (.bipush 100, 2) := D_16 yB_cX8_judge rfl rfl (sg_p (m := 128) (N := 100) rfl rfl rfl)
theorem dX8_judge_114 : decode cX8_judge 114 = .ok (.iload_n 2, 1) := D_28 yB_cX8_judge rfl rfl
theorem dX8_judge_115 : decode cX8_judge 115 = .ok (.imul, 1) := D_104 yB_cX8_judge rfl rfl
theorem dX8_judge_116 : decode cX8_judge 116 = .ok (.iload 4, 2) := D_21 yB_cX8_judge rfl rfl rfl
theorem dX8_judge_118 : decode cX8_judge 118 = .ok (.iadd, 1) := D_96 yB_cX8_judge rfl rfl
theorem dX8_judge_119 : decode cX8_judge 119 = .ok (.iaload, 1) := D_46 yB_cX8_judge rfl rfl
theorem dX8_judge_120 : decode cX8_judge 120 = .ok (.istore 5, 2) := D_54 yB_cX8_judge rfl rfl rfl
theorem dX8_judge_122 : decode cX8_judge 122 = .ok (.iload 5, 2) := D_21 yB_cX8_judge rfl rfl rfl
theorem dX8_judge_124 : decode cX8_judge 124 = .ok (.aload_n 0, 1) := D_42 yB_cX8_judge rfl rfl
theorem dX8_judge_125 : decode cX8_judge 125 = .ok (.iload_n 2, 1) := D_28 yB_cX8_judge rfl rfl
theorem dX8_judge_126 : decode cX8_judge 126 = .ok (.invokevirtual 239, 3) := D_182 yB_cX8_judge rfl rfl rfl
theorem dX8_judge_129 : decode cX8_judge 129 = .ok (.if_icmp .eq 20, 3) := D_159 yB_cX8_judge rfl rfl (sg_p (m := 32768) (N := 20) rfl rfl rfl)
theorem dX8_judge_132 : decode cX8_judge 132 = .ok (.iload 5, 2) := D_21 yB_cX8_judge rfl rfl rfl
theorem dX8_judge_134 : decode cX8_judge 134 = .ok (.aload_n 0, 1) := D_42 yB_cX8_judge rfl rfl
theorem dX8_judge_135 : decode cX8_judge 135 = .ok (.getfield 16, 3) := D_180 yB_cX8_judge rfl rfl rfl
theorem dX8_judge_138 : decode cX8_judge 138 = .ok (.iload_n 1, 1) := D_27 yB_cX8_judge rfl rfl
theorem dX8_judge_139 : decode cX8_judge 139 = .ok (.iconst 5, 1) := D_8 yB_cX8_judge rfl rfl
theorem dX8_judge_140 : decode cX8_judge 140 = .ok (.invokestatic 130, 3) := D_184 yB_cX8_judge rfl rfl rfl
theorem dX8_judge_143 : decode cX8_judge 143 = .ok (.if_icmp .eq 6, 3) := D_159 yB_cX8_judge rfl rfl (sg_p (m := 32768) (N := 6) rfl rfl rfl)
theorem dX8_judge_146 : decode cX8_judge 146 = .ok (.iload 4, 2) := D_21 yB_cX8_judge rfl rfl rfl
theorem dX8_judge_148 : decode cX8_judge 148 = .ok (.ireturn, 1) := D_172 yB_cX8_judge rfl rfl
theorem dX8_judge_149 : decode cX8_judge 149 = .ok (.iinc 4 1, 3) := D_132 yB_cX8_judge rfl rfl rfl (sg_p (m := 128) (N := 1) rfl rfl rfl)
theorem dX8_judge_152 : decode cX8_judge 152 = .ok (.goto (-73), 3) := D_167 yB_cX8_judge rfl rfl (sg_n (m := 32768) (N := 73) rfl rfl rfl)
theorem dX8_judge_155 : decode cX8_judge 155 = .ok (.bipush (-4), 2) := D_16 yB_cX8_judge rfl rfl (sg_n (m := 128) (N := 4) rfl rfl rfl)
theorem dX8_judge_157 : decode cX8_judge 157 = .ok (.ireturn, 1) := D_172 yB_cX8_judge rfl rfl
def F_X8_judge_79 (x1 : Int32) (x2 : Int32)  : Nat → Mem → Int32 → Int32 → Option (Mem × Int32)
  | 0, _, _, _ => none
  | nn + 1, σ, v4, v3 => (ix 8 x2).bind fun k_11 => if (σ 98 k_11) ≤ v4 then (some (σ, (-4))) else ((F_X8_isEnded σ 94).bind fun r_13 => if r_13 = 0 then ((F_X8_minute σ 94).bind fun σ_20 => (ix 800 ((100 * x2) + v4)).bind fun k_21 => (F_X8_leastOf σ_20 x2).bind fun r_22 => if (σ_20 99 k_21) = r_22 then (F_X8_judge_79 x1 x2 nn σ_20 (v4 + 1) v3) else ((F_X8_get σ_20 94 x1 5).bind fun r_24 => if (σ_20 99 k_21) = r_24 then (F_X8_judge_79 x1 x2 nn σ_20 (v4 + 1) v3) else (some (σ_20, v4)))) else ((ix 800 ((100 * x2) + v4)).bind fun k_15 => (F_X8_leastOf σ x2).bind fun r_16 => if (σ 99 k_15) = r_16 then (F_X8_judge_79 x1 x2 nn σ (v4 + 1) v3) else ((F_X8_get σ 94 x1 5).bind fun r_18 => if (σ 99 k_15) = r_18 then (F_X8_judge_79 x1 x2 nn σ (v4 + 1) v3) else (some (σ, v4)))))
def F_X8_judge_49 (x1 : Int32) (x2 : Int32)  : Nat → Mem → Int32 → Int32 → Option (Mem × Int32)
  | 0, _, _, _ => none
  | nn + 1, σ, v4, v3 => if 121 ≤ v4 then (F_X8_judge_79 x1 x2 FU σ 0 v3) else ((ix 121 v4).bind fun k_26 => (ix 121 v4).bind fun k_27 => F_X8_judge_49 x1 x2 nn (stm σ 94 k_27 (σ 92 k_26)) (v4 + 1) v3)
def F_X8_judge_79b (x1 : Int32) (x2 : Int32)  : Nat → Mem → Int32 → Int32 → Option (Mem × Int32)
  | 0, _, _, _ => none
  | nn + 1, σ, v4, v3 => (ix 8 x2).bind fun k_33 => if (σ 98 k_33) ≤ v4 then (some (σ, (-4))) else ((F_X8_isEnded σ 94).bind fun r_35 => if r_35 = 0 then ((F_X8_minute σ 94).bind fun σ_42 => (ix 800 ((100 * x2) + v4)).bind fun k_43 => (F_X8_leastOf σ_42 x2).bind fun r_44 => if (σ_42 99 k_43) = r_44 then (F_X8_judge_79b x1 x2 nn σ_42 (v4 + 1) v3) else ((F_X8_get σ_42 94 x1 5).bind fun r_46 => if (σ_42 99 k_43) = r_46 then (F_X8_judge_79b x1 x2 nn σ_42 (v4 + 1) v3) else (some (σ_42, v4)))) else ((ix 800 ((100 * x2) + v4)).bind fun k_37 => (F_X8_leastOf σ x2).bind fun r_38 => if (σ 99 k_37) = r_38 then (F_X8_judge_79b x1 x2 nn σ (v4 + 1) v3) else ((F_X8_get σ 94 x1 5).bind fun r_40 => if (σ 99 k_37) = r_40 then (F_X8_judge_79b x1 x2 nn σ (v4 + 1) v3) else (some (σ, v4)))))
def F_X8_judge_49b (x1 : Int32) (x2 : Int32)  : Nat → Mem → Int32 → Int32 → Option (Mem × Int32)
  | 0, _, _, _ => none
  | nn + 1, σ, v4, v3 => if 121 ≤ v4 then (F_X8_judge_79b x1 x2 FU σ 0 v3) else ((ix 121 v4).bind fun k_48 => (ix 121 v4).bind fun k_49 => F_X8_judge_49b x1 x2 nn (stm σ 94 k_49 (σ 92 k_48)) (v4 + 1) v3)
def F_X8_judge (σ : Mem) (x1 : Int32) (x2 : Int32) : Option (Mem × Int32) := (F_X8_isCart σ x1).bind fun r_1 => if r_1 = 0 then (some (σ, (-1))) else ((F_X8_isShelf σ x2).bind fun r_3 => if r_3 = 0 then (some (σ, (-1))) else ((F_X8_wrongRow σ x2 (-1)).bind fun r_5 => if r_5 = 0 then (if (σ 92 0) = 0 then (some (σ, (-3))) else (if r_5 = 0 then (F_X8_judge_49b x1 x2 FU σ 0 r_5) else (some (σ, r_5)))) else (if r_5 = 0 then (F_X8_judge_49 x1 x2 FU σ 0 r_5) else (some (σ, r_5)))))
set_option maxHeartbeats 4000000 in
set_option maxRecDepth 100000 in
theorem c_X8_judge (l : Launch) (D : va_G) (cA : Nat → ClassId) (ad : Nat → Nat) (o : Int64) (σ : Mem) (x1 : Int32) (x2 : Int32)  (res : Mem × Int32) (h : F_X8_judge σ x1 x2 = some res) (sz : Nat) : Met l yX8_judge (WY yX8_judge cX8_judge 6 (some .int)) (RM 8) (va_Pc [.ref (ad 91), .int x1, .int x2] (PW D cA ad o σ sz)) (va_Qi (fun r σ9 => r = res.2 ∧ σ9 = res.1) (QW D cA ad o) (FA ad sz)) 0 0 (FA ad sz) := by
  refine ct_of (own := RX8) (k := 8) (Qf := va_Qi (fun r σ9 => r = res.2 ∧ σ9 = res.1) (QW D cA ad o)) rfl (by decide) (Nat.le_of_ble_eq_true rfl) (fun p e s m below meth c ls C0 X hr hlk hP hl => ?_) sz
  have hS : va_S (FA ad s.heap.size) s.heap s.heap [] := va_S.rf
  have hl : lv_has ls 6 [(0, .ref (ad 91)), (1, .int x1), (2, .int x2)] := hl
  obtain ⟨hx, hb, hml, hown, hts⟩ := id C0
  unfold F_X8_judge at h
  refine lv_aload_n hx hb dX8_judge_0 rfl (lv_at hl 0 rfl) ?_
  refine lv_iload_n hx hb dX8_judge_1 rfl (lv_at hl 1 rfl) ?_
  obtain ⟨r_1, er_1, h⟩ := bnd h
  refine r_ci X hS (r_runV (As := [.int x1]) (rest := []) C0 X hP L_X8_127 (fun sz => c_X8_isCart l D cA ad o σ x1  r_1 er_1 sz) (show 91 < 106 ∧ kd 91 = (8, 24) from ⟨by decide, rfl⟩).1 (show 91 < 106 ∧ kd 91 = (8, 24) from ⟨by decide, rfl⟩).2 (by decide) rfl ⟨Nat.le_of_ble_eq_true rfl, Nat.le_of_ble_eq_true rfl⟩ rfl hl.1 rfl (Nat.le_of_ble_eq_true rfl) dX8_judge_2 ⟨Nat.zero_le _, Nat.zero_le _⟩) (fun r9 σ9 H locs hw hP hS => ?_)
  rw [hw.2] at hP
  rw [hw.1]
  refine lv_if_eq (tgt := 15) hx hb dX8_judge_5 (by decide) (fun c_2 => ?_) (fun c_2 => ?_)
  · replace h := it_t h c_2
    refine lv_iconst (v := (-1)) hx hb dX8_judge_15 (by decide) ?_
    exact r_iret C0 X hP hS hr hlk dX8_judge_16 (rt2 h)
  · replace h := it_f h c_2
    refine lv_iload_n hx hb dX8_judge_8 rfl (lv_at hl 2 rfl) ?_
    obtain ⟨r_3, er_3, h⟩ := bnd h
    refine r_ci X hS (r_runS (As := [.int x2]) (rest := []) C0 X hP L_X8_105 (fun sz => c_X8_isShelf l D cA ad o σ x2  r_3 er_3 sz) ⟨Nat.le_of_ble_eq_true rfl, Nat.le_of_ble_eq_true rfl⟩ rfl hl.1 rfl (Nat.le_of_ble_eq_true rfl) dX8_judge_9 ⟨Nat.zero_le _, Nat.zero_le _⟩) (fun r9 σ9 H locs hw hP hS => ?_)
    rw [hw.2] at hP
    rw [hw.1]
    refine lv_if_ne (tgt := 17) hx hb dX8_judge_12 (by decide) (fun c_4 => ?_) (fun c_4 => ?_)
    · replace h := it_f h c_4
      refine lv_aload_n hx hb dX8_judge_17 rfl (lv_at hl 0 rfl) ?_
      refine lv_iload_n hx hb dX8_judge_18 rfl (lv_at hl 2 rfl) ?_
      refine lv_iconst (v := (-1)) hx hb dX8_judge_19 (by decide) ?_
      obtain ⟨r_5, er_5, h⟩ := bnd h
      refine r_ci X hS (r_runV (As := [.int x2, .int (-1)]) (rest := []) C0 X hP L_X8_108 (fun sz => c_X8_wrongRow l D cA ad o σ x2 (-1)  r_5 er_5 sz) (show 91 < 106 ∧ kd 91 = (8, 24) from ⟨by decide, rfl⟩).1 (show 91 < 106 ∧ kd 91 = (8, 24) from ⟨by decide, rfl⟩).2 (by decide) rfl ⟨Nat.le_of_ble_eq_true rfl, Nat.le_of_ble_eq_true rfl⟩ rfl hl.1 rfl (Nat.le_of_ble_eq_true rfl) dX8_judge_20 ⟨Nat.zero_le _, Nat.zero_le _⟩) (fun r9 σ9 H locs hw hP hS => ?_)
      rw [hw.2] at hP
      rw [hw.1]
      refine lv_istore_n (lv' := [(3, .int r_5), (0, .ref (ad 91)), (1, .int x1), (2, .int x2)]) hx hb dX8_judge_23 rfl hl (by decide) rfl (fun ls hl => ?_)
      refine lv_iload_n hx hb dX8_judge_24 rfl (lv_at hl 0 rfl) ?_
      refine lv_if_ne (tgt := 40) hx hb dX8_judge_25 (by decide) (fun c_6 => ?_) (fun c_6 => ?_)
      · replace h := it_f h c_6
        refine lv_iload_n hx hb dX8_judge_40 rfl (lv_at hl 0 rfl) ?_
        refine lv_if_eq (tgt := 46) hx hb dX8_judge_41 (by decide) (fun c_7 => ?_) (fun c_7 => ?_)
        · replace h := it_t h c_7
          refine lv_iconst (v := 0) hx hb dX8_judge_46 (by decide) ?_
          refine lv_istore (lv' := [(4, .int 0), (3, .int r_5), (0, .ref (ad 91)), (1, .int x1), (2, .int x2)]) hx hb dX8_judge_47 hl (by decide) rfl (fun ls hl => ?_)
          have lp_8 : ∀ (nn49 : Nat) (σ : Mem) (v4 : Int32) (v3 : Int32) (H : Heap) (locs : List Loc) (ls : Array Slot), F_X8_judge_49 x1 x2 nn49 σ v4 v3 = some res → WP D cA ad o σ H → va_S (FA ad s.heap.size) s.heap H locs → lv_has ls 6 [(4, .int v4), (3, .int v3), (0, .ref (ad 91)), (1, .int x1), (2, .int x2)] → W p l e (RM 8) s m ([.ref (ad 91), .int x1, .int x2] : List Value).toArray below meth c H locs 0 0 (MQ below (va_Qi (fun r σ9 => r = res.2 ∧ σ9 = res.1) (QW D cA ad o) (FA ad s.heap.size)) ([.ref (ad 91), .int x1, .int x2] : List Value).toArray s 0 0 (FA ad s.heap.size)) (F0 m 49 ls []) := by
            intro nn49
            induction nn49 with
            | zero => intro σ v4 v3 H locs ls h hP hS hl; exact absurd (show none = some res from h) nofun
            | succ nn49 ih49 =>
              intro σ v4 v3 H locs ls h hP hS hl
              replace h := (F_X8_judge_49.eq_2 _ _ _ _ _ _).symm.trans h
              refine lv_iload hx hb dX8_judge_49 (lv_at hl 0 rfl) ?_
              refine lv_bipush (v := 121) hx hb dX8_judge_51 (by decide) ?_
              refine lv_icmp_ge (tgt := 76) hx hb dX8_judge_53 (by decide) (fun c_9 => ?_) (fun c_9 => ?_)
              · replace h := it_t h c_9
                refine lv_iconst (v := 0) hx hb dX8_judge_76 (by decide) ?_
                refine lv_istore (lv' := [(4, .int 0), (3, .int v3), (0, .ref (ad 91)), (1, .int x1), (2, .int x2)]) hx hb dX8_judge_77 hl (by decide) rfl (fun ls hl => ?_)
                have lp_10 : ∀ (nn79 : Nat) (σ : Mem) (v4 : Int32) (v3 : Int32) (H : Heap) (locs : List Loc) (ls : Array Slot), F_X8_judge_79 x1 x2 nn79 σ v4 v3 = some res → WP D cA ad o σ H → va_S (FA ad s.heap.size) s.heap H locs → lv_has ls 6 [(4, .int v4), (3, .int v3), (0, .ref (ad 91)), (1, .int x1), (2, .int x2)] → W p l e (RM 8) s m ([.ref (ad 91), .int x1, .int x2] : List Value).toArray below meth c H locs 0 0 (MQ below (va_Qi (fun r σ9 => r = res.2 ∧ σ9 = res.1) (QW D cA ad o) (FA ad s.heap.size)) ([.ref (ad 91), .int x1, .int x2] : List Value).toArray s 0 0 (FA ad s.heap.size)) (F0 m 79 ls []) := by
                  intro nn79
                  induction nn79 with
                  | zero => intro σ v4 v3 H locs ls h hP hS hl; exact absurd (show none = some res from h) nofun
                  | succ nn79 ih79 =>
                    intro σ v4 v3 H locs ls h hP hS hl
                    replace h := (F_X8_judge_79.eq_2 _ _ _ _ _ _).symm.trans h
                    refine lv_iload hx hb dX8_judge_79 (lv_at hl 0 rfl) ?_
                    refine lv_aload_n hx hb dX8_judge_81 rfl (lv_at hl 2 rfl) ?_
                    refine gf_X8_28 C0 X hP 91 (q := 98) ⟨by decide, rfl⟩ (by omega) rfl dX8_judge_82 ?_
                    refine lv_iload_n hx hb dX8_judge_85 rfl (lv_at hl 4 rfl) ?_
                    obtain ⟨k_11, ek_11, h⟩ := bnd h
                    replace ek_11 := ix_s ek_11 (by decide)
                    refine r_ialdN C0 X hP 98 (k := k_11) ⟨by decide, rfl⟩ ek_11.1 ek_11.2 dX8_judge_86 ?_
                    refine lv_icmp_ge (tgt := 155) hx hb dX8_judge_87 (by decide) (fun c_12 => ?_) (fun c_12 => ?_)
                    · replace h := it_t h c_12
                      refine lv_bipush (v := (-4)) hx hb dX8_judge_155 (by decide) ?_
                      exact r_iret C0 X hP hS hr hlk dX8_judge_157 (rt2 h)
                    · replace h := it_f h c_12
                      refine lv_aload_n hx hb dX8_judge_90 rfl (lv_at hl 2 rfl) ?_
                      refine gf_X8_16 C0 X hP 91 (q := 94) ⟨by decide, rfl⟩ (by omega) rfl dX8_judge_91 ?_
                      obtain ⟨r_13, er_13, h⟩ := bnd h
                      refine r_ci X hS (r_runS (As := [.ref (ad 94)]) (rest := []) C0 X hP L_X8_224 (fun sz => c_X8_isEnded l D cA ad o σ 94 ⟨by decide, rfl⟩ r_13 er_13 sz) ⟨Nat.le_of_ble_eq_true rfl, Nat.le_of_ble_eq_true rfl⟩ rfl hl.1 rfl (Nat.le_of_ble_eq_true rfl) dX8_judge_94 ⟨Nat.zero_le _, Nat.zero_le _⟩) (fun r9 σ9 H locs hw hP hS => ?_)
                      rw [hw.2] at hP
                      rw [hw.1]
                      refine lv_if_ne (tgt := 108) hx hb dX8_judge_97 (by decide) (fun c_14 => ?_) (fun c_14 => ?_)
                      · replace h := it_f h c_14
                        refine lv_aload_n hx hb dX8_judge_108 rfl (lv_at hl 2 rfl) ?_
                        refine gf_X8_31 C0 X hP 91 (q := 99) ⟨by decide, rfl⟩ (by omega) rfl dX8_judge_109 ?_
                        refine lv_bipush (v := 100) hx hb dX8_judge_112 (by decide) ?_
                        refine lv_iload_n hx hb dX8_judge_114 rfl (lv_at hl 4 rfl) ?_
                        refine lv_imul hx hb dX8_judge_115 ?_
                        refine lv_iload hx hb dX8_judge_116 (lv_at hl 0 rfl) ?_
                        refine lv_iadd hx hb dX8_judge_118 ?_
                        obtain ⟨k_15, ek_15, h⟩ := bnd h
                        replace ek_15 := ix_s ek_15 (by decide)
                        refine r_ialdN C0 X hP 99 (k := k_15) ⟨by decide, rfl⟩ ek_15.1 ek_15.2 dX8_judge_119 ?_
                        refine lv_istore (lv' := [(5, .int (σ 99 k_15)), (4, .int v4), (3, .int v3), (0, .ref (ad 91)), (1, .int x1), (2, .int x2)]) hx hb dX8_judge_120 hl (by decide) rfl (fun ls hl => ?_)
                        refine lv_iload hx hb dX8_judge_122 (lv_at hl 0 rfl) ?_
                        refine lv_aload_n hx hb dX8_judge_124 rfl (lv_at hl 3 rfl) ?_
                        refine lv_iload_n hx hb dX8_judge_125 rfl (lv_at hl 5 rfl) ?_
                        obtain ⟨r_16, er_16, h⟩ := bnd h
                        refine r_ci X hS (r_runV (As := [.int x2]) (rest := [.int (σ 99 k_15)]) C0 X hP L_X8_239 (fun sz => c_X8_leastOf l D cA ad o σ x2  r_16 er_16 sz) (show 91 < 106 ∧ kd 91 = (8, 24) from ⟨by decide, rfl⟩).1 (show 91 < 106 ∧ kd 91 = (8, 24) from ⟨by decide, rfl⟩).2 (by decide) rfl ⟨Nat.le_of_ble_eq_true rfl, Nat.le_of_ble_eq_true rfl⟩ rfl hl.1 rfl (Nat.le_of_ble_eq_true rfl) dX8_judge_126 ⟨Nat.zero_le _, Nat.zero_le _⟩) (fun r9 σ9 H locs hw hP hS => ?_)
                        rw [hw.2] at hP
                        rw [hw.1]
                        refine lv_icmp_eq (tgt := 149) hx hb dX8_judge_129 (by decide) (fun c_17 => ?_) (fun c_17 => ?_)
                        · replace h := it_t h c_17
                          refine lv_iinc (v := (v4 + 1)) (lv' := [(4, .int (v4 + 1)), (5, .int (σ 99 k_15)), (3, .int v3), (0, .ref (ad 91)), (1, .int x1), (2, .int x2)]) hx hb dX8_judge_149 hl (k := 1) rfl rfl (by decide) rfl (fun ls hl => ?_)
                          refine lv_goto (tgt := 79) hx hb dX8_judge_152 (by decide) ?_
                          exact ih79 σ (v4 + 1) v3 _ _ ls  h hP hS (lv_sub hl [0, 2, 3, 4, 5] rfl)
                        · replace h := it_f h c_17
                          refine lv_iload hx hb dX8_judge_132 (lv_at hl 0 rfl) ?_
                          refine lv_aload_n hx hb dX8_judge_134 rfl (lv_at hl 3 rfl) ?_
                          refine gf_X8_16 C0 X hP 91 (q := 94) ⟨by decide, rfl⟩ (by omega) rfl dX8_judge_135 ?_
                          refine lv_iload_n hx hb dX8_judge_138 rfl (lv_at hl 4 rfl) ?_
                          refine lv_iconst (v := 5) hx hb dX8_judge_139 (by decide) ?_
                          obtain ⟨r_18, er_18, h⟩ := bnd h
                          refine r_ci X hS (r_runS (As := [.ref (ad 94), .int x1, .int 5]) (rest := [.int (σ 99 k_15)]) C0 X hP L_X8_130 (fun sz => c_X8_get l D cA ad o σ 94 x1 5 ⟨by decide, rfl⟩ r_18 er_18 sz) ⟨Nat.le_of_ble_eq_true rfl, Nat.le_of_ble_eq_true rfl⟩ rfl hl.1 rfl (Nat.le_of_ble_eq_true rfl) dX8_judge_140 ⟨Nat.zero_le _, Nat.zero_le _⟩) (fun r9 σ9 H locs hw hP hS => ?_)
                          rw [hw.2] at hP
                          rw [hw.1]
                          refine lv_icmp_eq (tgt := 149) hx hb dX8_judge_143 (by decide) (fun c_19 => ?_) (fun c_19 => ?_)
                          · replace h := it_t h c_19
                            refine lv_iinc (v := (v4 + 1)) (lv' := [(4, .int (v4 + 1)), (5, .int (σ 99 k_15)), (3, .int v3), (0, .ref (ad 91)), (1, .int x1), (2, .int x2)]) hx hb dX8_judge_149 hl (k := 1) rfl rfl (by decide) rfl (fun ls hl => ?_)
                            refine lv_goto (tgt := 79) hx hb dX8_judge_152 (by decide) ?_
                            exact ih79 σ (v4 + 1) v3 _ _ ls  h hP hS (lv_sub hl [0, 2, 3, 4, 5] rfl)
                          · replace h := it_f h c_19
                            refine lv_iload hx hb dX8_judge_146 (lv_at hl 1 rfl) ?_
                            exact r_iret C0 X hP hS hr hlk dX8_judge_148 (rt2 h)
                      · replace h := it_t h c_14
                        refine lv_aload_n hx hb dX8_judge_100 rfl (lv_at hl 2 rfl) ?_
                        refine lv_aload_n hx hb dX8_judge_101 rfl (lv_at hl 2 rfl) ?_
                        refine gf_X8_16 C0 X hP 91 (q := 94) ⟨by decide, rfl⟩ (by omega) rfl dX8_judge_102 ?_
                        obtain ⟨σ_20, eσ_20, h⟩ := bnd h
                        refine r_cv X hS (r_runV (As := [.ref (ad 94)]) (rest := []) C0 X hP L_X8_227 (fun sz => c_X8_minute l D cA ad o σ 94 ⟨by decide, rfl⟩ σ_20 eσ_20 sz) (show 91 < 106 ∧ kd 91 = (8, 24) from ⟨by decide, rfl⟩).1 (show 91 < 106 ∧ kd 91 = (8, 24) from ⟨by decide, rfl⟩).2 (by decide) rfl ⟨Nat.le_of_ble_eq_true rfl, Nat.le_of_ble_eq_true rfl⟩ rfl hl.1 rfl (Nat.le_of_ble_eq_true rfl) dX8_judge_105 ⟨Nat.zero_le _, Nat.zero_le _⟩) (fun σ9 H locs hw hP hS => ?_)
                        rw [show σ9 = σ_20 from hw] at hP
                        refine lv_aload_n hx hb dX8_judge_108 rfl (lv_at hl 2 rfl) ?_
                        refine gf_X8_31 C0 X hP 91 (q := 99) ⟨by decide, rfl⟩ (by omega) rfl dX8_judge_109 ?_
                        refine lv_bipush (v := 100) hx hb dX8_judge_112 (by decide) ?_
                        refine lv_iload_n hx hb dX8_judge_114 rfl (lv_at hl 4 rfl) ?_
                        refine lv_imul hx hb dX8_judge_115 ?_
                        refine lv_iload hx hb dX8_judge_116 (lv_at hl 0 rfl) ?_
                        refine lv_iadd hx hb dX8_judge_118 ?_
                        obtain ⟨k_21, ek_21, h⟩ := bnd h
                        replace ek_21 := ix_s ek_21 (by decide)
                        refine r_ialdN C0 X hP 99 (k := k_21) ⟨by decide, rfl⟩ ek_21.1 ek_21.2 dX8_judge_119 ?_
                        refine lv_istore (lv' := [(5, .int (σ_20 99 k_21)), (4, .int v4), (3, .int v3), (0, .ref (ad 91)), (1, .int x1), (2, .int x2)]) hx hb dX8_judge_120 hl (by decide) rfl (fun ls hl => ?_)
                        refine lv_iload hx hb dX8_judge_122 (lv_at hl 0 rfl) ?_
                        refine lv_aload_n hx hb dX8_judge_124 rfl (lv_at hl 3 rfl) ?_
                        refine lv_iload_n hx hb dX8_judge_125 rfl (lv_at hl 5 rfl) ?_
                        obtain ⟨r_22, er_22, h⟩ := bnd h
                        refine r_ci X hS (r_runV (As := [.int x2]) (rest := [.int (σ_20 99 k_21)]) C0 X hP L_X8_239 (fun sz => c_X8_leastOf l D cA ad o σ_20 x2  r_22 er_22 sz) (show 91 < 106 ∧ kd 91 = (8, 24) from ⟨by decide, rfl⟩).1 (show 91 < 106 ∧ kd 91 = (8, 24) from ⟨by decide, rfl⟩).2 (by decide) rfl ⟨Nat.le_of_ble_eq_true rfl, Nat.le_of_ble_eq_true rfl⟩ rfl hl.1 rfl (Nat.le_of_ble_eq_true rfl) dX8_judge_126 ⟨Nat.zero_le _, Nat.zero_le _⟩) (fun r9 σ9 H locs hw hP hS => ?_)
                        rw [hw.2] at hP
                        rw [hw.1]
                        refine lv_icmp_eq (tgt := 149) hx hb dX8_judge_129 (by decide) (fun c_23 => ?_) (fun c_23 => ?_)
                        · replace h := it_t h c_23
                          refine lv_iinc (v := (v4 + 1)) (lv' := [(4, .int (v4 + 1)), (5, .int (σ_20 99 k_21)), (3, .int v3), (0, .ref (ad 91)), (1, .int x1), (2, .int x2)]) hx hb dX8_judge_149 hl (k := 1) rfl rfl (by decide) rfl (fun ls hl => ?_)
                          refine lv_goto (tgt := 79) hx hb dX8_judge_152 (by decide) ?_
                          exact ih79 σ_20 (v4 + 1) v3 _ _ ls  h hP hS (lv_sub hl [0, 2, 3, 4, 5] rfl)
                        · replace h := it_f h c_23
                          refine lv_iload hx hb dX8_judge_132 (lv_at hl 0 rfl) ?_
                          refine lv_aload_n hx hb dX8_judge_134 rfl (lv_at hl 3 rfl) ?_
                          refine gf_X8_16 C0 X hP 91 (q := 94) ⟨by decide, rfl⟩ (by omega) rfl dX8_judge_135 ?_
                          refine lv_iload_n hx hb dX8_judge_138 rfl (lv_at hl 4 rfl) ?_
                          refine lv_iconst (v := 5) hx hb dX8_judge_139 (by decide) ?_
                          obtain ⟨r_24, er_24, h⟩ := bnd h
                          refine r_ci X hS (r_runS (As := [.ref (ad 94), .int x1, .int 5]) (rest := [.int (σ_20 99 k_21)]) C0 X hP L_X8_130 (fun sz => c_X8_get l D cA ad o σ_20 94 x1 5 ⟨by decide, rfl⟩ r_24 er_24 sz) ⟨Nat.le_of_ble_eq_true rfl, Nat.le_of_ble_eq_true rfl⟩ rfl hl.1 rfl (Nat.le_of_ble_eq_true rfl) dX8_judge_140 ⟨Nat.zero_le _, Nat.zero_le _⟩) (fun r9 σ9 H locs hw hP hS => ?_)
                          rw [hw.2] at hP
                          rw [hw.1]
                          refine lv_icmp_eq (tgt := 149) hx hb dX8_judge_143 (by decide) (fun c_25 => ?_) (fun c_25 => ?_)
                          · replace h := it_t h c_25
                            refine lv_iinc (v := (v4 + 1)) (lv' := [(4, .int (v4 + 1)), (5, .int (σ_20 99 k_21)), (3, .int v3), (0, .ref (ad 91)), (1, .int x1), (2, .int x2)]) hx hb dX8_judge_149 hl (k := 1) rfl rfl (by decide) rfl (fun ls hl => ?_)
                            refine lv_goto (tgt := 79) hx hb dX8_judge_152 (by decide) ?_
                            exact ih79 σ_20 (v4 + 1) v3 _ _ ls  h hP hS (lv_sub hl [0, 2, 3, 4, 5] rfl)
                          · replace h := it_f h c_25
                            refine lv_iload hx hb dX8_judge_146 (lv_at hl 1 rfl) ?_
                            exact r_iret C0 X hP hS hr hlk dX8_judge_148 (rt2 h)
                exact lp_10 FU σ 0 v3 _ _ ls  h hP hS (lv_sub hl [0, 1, 2, 3, 4] rfl)
              · replace h := it_f h c_9
                refine lv_aload_n hx hb dX8_judge_56 rfl (lv_at hl 2 rfl) ?_
                refine gf_X8_16 C0 X hP 91 (q := 94) ⟨by decide, rfl⟩ (by omega) rfl dX8_judge_57 ?_
                refine lv_iload hx hb dX8_judge_60 (lv_at hl 0 rfl) ?_
                refine lv_aload_n hx hb dX8_judge_62 rfl (lv_at hl 2 rfl) ?_
                refine gf_X8_9 C0 X hP 91 (q := 92) ⟨by decide, rfl⟩ (by omega) rfl dX8_judge_63 ?_
                refine lv_iload hx hb dX8_judge_66 (lv_at hl 0 rfl) ?_
                obtain ⟨k_26, ek_26, h⟩ := bnd h
                replace ek_26 := ix_s ek_26 (by decide)
                refine r_ialdN C0 X hP 92 (k := k_26) ⟨by decide, rfl⟩ ek_26.1 ek_26.2 dX8_judge_68 ?_
                obtain ⟨k_27, ek_27, h⟩ := bnd h
                replace ek_27 := ix_s ek_27 (by decide)
                refine r_iastN C0 X hP hS 94 (k := k_27) ⟨by decide, rfl⟩ ek_27.1 ek_27.2 dX8_judge_69 (fun H locs hP hS => ?_)
                refine lv_iinc (v := (v4 + 1)) (lv' := [(4, .int (v4 + 1)), (3, .int v3), (0, .ref (ad 91)), (1, .int x1), (2, .int x2)]) hx hb dX8_judge_70 hl (k := 0) rfl rfl (by decide) rfl (fun ls hl => ?_)
                refine lv_goto (tgt := 49) hx hb dX8_judge_73 (by decide) ?_
                exact ih49 (stm σ 94 k_27 (σ 92 k_26)) (v4 + 1) v3 _ _ ls  h hP hS (lv_sub hl [0, 1, 2, 3, 4] rfl)
          exact lp_8 FU σ 0 r_5 _ _ ls  h hP hS (lv_sub hl [0, 1, 2, 3, 4] rfl)
        · replace h := it_f h c_7
          refine lv_iload_n hx hb dX8_judge_44 rfl (lv_at hl 0 rfl) ?_
          exact r_iret C0 X hP hS hr hlk dX8_judge_45 (rt2 h)
      · replace h := it_t h c_6
        refine lv_aload_n hx hb dX8_judge_28 rfl (lv_at hl 1 rfl) ?_
        refine gf_X8_9 C0 X hP 91 (q := 92) ⟨by decide, rfl⟩ (by omega) rfl dX8_judge_29 ?_
        refine lv_iconst (v := 0) hx hb dX8_judge_32 (by decide) ?_
        refine r_ialdN C0 X hP 92 (k := 0) ⟨by decide, rfl⟩ rfl (by decide) dX8_judge_33 ?_
        refine lv_if_ne (tgt := 40) hx hb dX8_judge_34 (by decide) (fun c_28 => ?_) (fun c_28 => ?_)
        · replace h := it_f h c_28
          refine lv_iload_n hx hb dX8_judge_40 rfl (lv_at hl 0 rfl) ?_
          refine lv_if_eq (tgt := 46) hx hb dX8_judge_41 (by decide) (fun c_29 => ?_) (fun c_29 => ?_)
          · replace h := it_t h c_29
            refine lv_iconst (v := 0) hx hb dX8_judge_46 (by decide) ?_
            refine lv_istore (lv' := [(4, .int 0), (3, .int r_5), (0, .ref (ad 91)), (1, .int x1), (2, .int x2)]) hx hb dX8_judge_47 hl (by decide) rfl (fun ls hl => ?_)
            have lp_30 : ∀ (nn49 : Nat) (σ : Mem) (v4 : Int32) (v3 : Int32) (H : Heap) (locs : List Loc) (ls : Array Slot), F_X8_judge_49b x1 x2 nn49 σ v4 v3 = some res → WP D cA ad o σ H → va_S (FA ad s.heap.size) s.heap H locs → lv_has ls 6 [(4, .int v4), (3, .int v3), (0, .ref (ad 91)), (1, .int x1), (2, .int x2)] → W p l e (RM 8) s m ([.ref (ad 91), .int x1, .int x2] : List Value).toArray below meth c H locs 0 0 (MQ below (va_Qi (fun r σ9 => r = res.2 ∧ σ9 = res.1) (QW D cA ad o) (FA ad s.heap.size)) ([.ref (ad 91), .int x1, .int x2] : List Value).toArray s 0 0 (FA ad s.heap.size)) (F0 m 49 ls []) := by
              intro nn49
              induction nn49 with
              | zero => intro σ v4 v3 H locs ls h hP hS hl; exact absurd (show none = some res from h) nofun
              | succ nn49 ih49 =>
                intro σ v4 v3 H locs ls h hP hS hl
                replace h := (F_X8_judge_49b.eq_2 _ _ _ _ _ _).symm.trans h
                refine lv_iload hx hb dX8_judge_49 (lv_at hl 0 rfl) ?_
                refine lv_bipush (v := 121) hx hb dX8_judge_51 (by decide) ?_
                refine lv_icmp_ge (tgt := 76) hx hb dX8_judge_53 (by decide) (fun c_31 => ?_) (fun c_31 => ?_)
                · replace h := it_t h c_31
                  refine lv_iconst (v := 0) hx hb dX8_judge_76 (by decide) ?_
                  refine lv_istore (lv' := [(4, .int 0), (3, .int v3), (0, .ref (ad 91)), (1, .int x1), (2, .int x2)]) hx hb dX8_judge_77 hl (by decide) rfl (fun ls hl => ?_)
                  have lp_32 : ∀ (nn79 : Nat) (σ : Mem) (v4 : Int32) (v3 : Int32) (H : Heap) (locs : List Loc) (ls : Array Slot), F_X8_judge_79b x1 x2 nn79 σ v4 v3 = some res → WP D cA ad o σ H → va_S (FA ad s.heap.size) s.heap H locs → lv_has ls 6 [(4, .int v4), (3, .int v3), (0, .ref (ad 91)), (1, .int x1), (2, .int x2)] → W p l e (RM 8) s m ([.ref (ad 91), .int x1, .int x2] : List Value).toArray below meth c H locs 0 0 (MQ below (va_Qi (fun r σ9 => r = res.2 ∧ σ9 = res.1) (QW D cA ad o) (FA ad s.heap.size)) ([.ref (ad 91), .int x1, .int x2] : List Value).toArray s 0 0 (FA ad s.heap.size)) (F0 m 79 ls []) := by
                    intro nn79
                    induction nn79 with
                    | zero => intro σ v4 v3 H locs ls h hP hS hl; exact absurd (show none = some res from h) nofun
                    | succ nn79 ih79 =>
                      intro σ v4 v3 H locs ls h hP hS hl
                      replace h := (F_X8_judge_79b.eq_2 _ _ _ _ _ _).symm.trans h
                      refine lv_iload hx hb dX8_judge_79 (lv_at hl 0 rfl) ?_
                      refine lv_aload_n hx hb dX8_judge_81 rfl (lv_at hl 2 rfl) ?_
                      refine gf_X8_28 C0 X hP 91 (q := 98) ⟨by decide, rfl⟩ (by omega) rfl dX8_judge_82 ?_
                      refine lv_iload_n hx hb dX8_judge_85 rfl (lv_at hl 4 rfl) ?_
                      obtain ⟨k_33, ek_33, h⟩ := bnd h
                      replace ek_33 := ix_s ek_33 (by decide)
                      refine r_ialdN C0 X hP 98 (k := k_33) ⟨by decide, rfl⟩ ek_33.1 ek_33.2 dX8_judge_86 ?_
                      refine lv_icmp_ge (tgt := 155) hx hb dX8_judge_87 (by decide) (fun c_34 => ?_) (fun c_34 => ?_)
                      · replace h := it_t h c_34
                        refine lv_bipush (v := (-4)) hx hb dX8_judge_155 (by decide) ?_
                        exact r_iret C0 X hP hS hr hlk dX8_judge_157 (rt2 h)
                      · replace h := it_f h c_34
                        refine lv_aload_n hx hb dX8_judge_90 rfl (lv_at hl 2 rfl) ?_
                        refine gf_X8_16 C0 X hP 91 (q := 94) ⟨by decide, rfl⟩ (by omega) rfl dX8_judge_91 ?_
                        obtain ⟨r_35, er_35, h⟩ := bnd h
                        refine r_ci X hS (r_runS (As := [.ref (ad 94)]) (rest := []) C0 X hP L_X8_224 (fun sz => c_X8_isEnded l D cA ad o σ 94 ⟨by decide, rfl⟩ r_35 er_35 sz) ⟨Nat.le_of_ble_eq_true rfl, Nat.le_of_ble_eq_true rfl⟩ rfl hl.1 rfl (Nat.le_of_ble_eq_true rfl) dX8_judge_94 ⟨Nat.zero_le _, Nat.zero_le _⟩) (fun r9 σ9 H locs hw hP hS => ?_)
                        rw [hw.2] at hP
                        rw [hw.1]
                        refine lv_if_ne (tgt := 108) hx hb dX8_judge_97 (by decide) (fun c_36 => ?_) (fun c_36 => ?_)
                        · replace h := it_f h c_36
                          refine lv_aload_n hx hb dX8_judge_108 rfl (lv_at hl 2 rfl) ?_
                          refine gf_X8_31 C0 X hP 91 (q := 99) ⟨by decide, rfl⟩ (by omega) rfl dX8_judge_109 ?_
                          refine lv_bipush (v := 100) hx hb dX8_judge_112 (by decide) ?_
                          refine lv_iload_n hx hb dX8_judge_114 rfl (lv_at hl 4 rfl) ?_
                          refine lv_imul hx hb dX8_judge_115 ?_
                          refine lv_iload hx hb dX8_judge_116 (lv_at hl 0 rfl) ?_
                          refine lv_iadd hx hb dX8_judge_118 ?_
                          obtain ⟨k_37, ek_37, h⟩ := bnd h
                          replace ek_37 := ix_s ek_37 (by decide)
                          refine r_ialdN C0 X hP 99 (k := k_37) ⟨by decide, rfl⟩ ek_37.1 ek_37.2 dX8_judge_119 ?_
                          refine lv_istore (lv' := [(5, .int (σ 99 k_37)), (4, .int v4), (3, .int v3), (0, .ref (ad 91)), (1, .int x1), (2, .int x2)]) hx hb dX8_judge_120 hl (by decide) rfl (fun ls hl => ?_)
                          refine lv_iload hx hb dX8_judge_122 (lv_at hl 0 rfl) ?_
                          refine lv_aload_n hx hb dX8_judge_124 rfl (lv_at hl 3 rfl) ?_
                          refine lv_iload_n hx hb dX8_judge_125 rfl (lv_at hl 5 rfl) ?_
                          obtain ⟨r_38, er_38, h⟩ := bnd h
                          refine r_ci X hS (r_runV (As := [.int x2]) (rest := [.int (σ 99 k_37)]) C0 X hP L_X8_239 (fun sz => c_X8_leastOf l D cA ad o σ x2  r_38 er_38 sz) (show 91 < 106 ∧ kd 91 = (8, 24) from ⟨by decide, rfl⟩).1 (show 91 < 106 ∧ kd 91 = (8, 24) from ⟨by decide, rfl⟩).2 (by decide) rfl ⟨Nat.le_of_ble_eq_true rfl, Nat.le_of_ble_eq_true rfl⟩ rfl hl.1 rfl (Nat.le_of_ble_eq_true rfl) dX8_judge_126 ⟨Nat.zero_le _, Nat.zero_le _⟩) (fun r9 σ9 H locs hw hP hS => ?_)
                          rw [hw.2] at hP
                          rw [hw.1]
                          refine lv_icmp_eq (tgt := 149) hx hb dX8_judge_129 (by decide) (fun c_39 => ?_) (fun c_39 => ?_)
                          · replace h := it_t h c_39
                            refine lv_iinc (v := (v4 + 1)) (lv' := [(4, .int (v4 + 1)), (5, .int (σ 99 k_37)), (3, .int v3), (0, .ref (ad 91)), (1, .int x1), (2, .int x2)]) hx hb dX8_judge_149 hl (k := 1) rfl rfl (by decide) rfl (fun ls hl => ?_)
                            refine lv_goto (tgt := 79) hx hb dX8_judge_152 (by decide) ?_
                            exact ih79 σ (v4 + 1) v3 _ _ ls  h hP hS (lv_sub hl [0, 2, 3, 4, 5] rfl)
                          · replace h := it_f h c_39
                            refine lv_iload hx hb dX8_judge_132 (lv_at hl 0 rfl) ?_
                            refine lv_aload_n hx hb dX8_judge_134 rfl (lv_at hl 3 rfl) ?_
                            refine gf_X8_16 C0 X hP 91 (q := 94) ⟨by decide, rfl⟩ (by omega) rfl dX8_judge_135 ?_
                            refine lv_iload_n hx hb dX8_judge_138 rfl (lv_at hl 4 rfl) ?_
                            refine lv_iconst (v := 5) hx hb dX8_judge_139 (by decide) ?_
                            obtain ⟨r_40, er_40, h⟩ := bnd h
                            refine r_ci X hS (r_runS (As := [.ref (ad 94), .int x1, .int 5]) (rest := [.int (σ 99 k_37)]) C0 X hP L_X8_130 (fun sz => c_X8_get l D cA ad o σ 94 x1 5 ⟨by decide, rfl⟩ r_40 er_40 sz) ⟨Nat.le_of_ble_eq_true rfl, Nat.le_of_ble_eq_true rfl⟩ rfl hl.1 rfl (Nat.le_of_ble_eq_true rfl) dX8_judge_140 ⟨Nat.zero_le _, Nat.zero_le _⟩) (fun r9 σ9 H locs hw hP hS => ?_)
                            rw [hw.2] at hP
                            rw [hw.1]
                            refine lv_icmp_eq (tgt := 149) hx hb dX8_judge_143 (by decide) (fun c_41 => ?_) (fun c_41 => ?_)
                            · replace h := it_t h c_41
                              refine lv_iinc (v := (v4 + 1)) (lv' := [(4, .int (v4 + 1)), (5, .int (σ 99 k_37)), (3, .int v3), (0, .ref (ad 91)), (1, .int x1), (2, .int x2)]) hx hb dX8_judge_149 hl (k := 1) rfl rfl (by decide) rfl (fun ls hl => ?_)
                              refine lv_goto (tgt := 79) hx hb dX8_judge_152 (by decide) ?_
                              exact ih79 σ (v4 + 1) v3 _ _ ls  h hP hS (lv_sub hl [0, 2, 3, 4, 5] rfl)
                            · replace h := it_f h c_41
                              refine lv_iload hx hb dX8_judge_146 (lv_at hl 1 rfl) ?_
                              exact r_iret C0 X hP hS hr hlk dX8_judge_148 (rt2 h)
                        · replace h := it_t h c_36
                          refine lv_aload_n hx hb dX8_judge_100 rfl (lv_at hl 2 rfl) ?_
                          refine lv_aload_n hx hb dX8_judge_101 rfl (lv_at hl 2 rfl) ?_
                          refine gf_X8_16 C0 X hP 91 (q := 94) ⟨by decide, rfl⟩ (by omega) rfl dX8_judge_102 ?_
                          obtain ⟨σ_42, eσ_42, h⟩ := bnd h
                          refine r_cv X hS (r_runV (As := [.ref (ad 94)]) (rest := []) C0 X hP L_X8_227 (fun sz => c_X8_minute l D cA ad o σ 94 ⟨by decide, rfl⟩ σ_42 eσ_42 sz) (show 91 < 106 ∧ kd 91 = (8, 24) from ⟨by decide, rfl⟩).1 (show 91 < 106 ∧ kd 91 = (8, 24) from ⟨by decide, rfl⟩).2 (by decide) rfl ⟨Nat.le_of_ble_eq_true rfl, Nat.le_of_ble_eq_true rfl⟩ rfl hl.1 rfl (Nat.le_of_ble_eq_true rfl) dX8_judge_105 ⟨Nat.zero_le _, Nat.zero_le _⟩) (fun σ9 H locs hw hP hS => ?_)
                          rw [show σ9 = σ_42 from hw] at hP
                          refine lv_aload_n hx hb dX8_judge_108 rfl (lv_at hl 2 rfl) ?_
                          refine gf_X8_31 C0 X hP 91 (q := 99) ⟨by decide, rfl⟩ (by omega) rfl dX8_judge_109 ?_
                          refine lv_bipush (v := 100) hx hb dX8_judge_112 (by decide) ?_
                          refine lv_iload_n hx hb dX8_judge_114 rfl (lv_at hl 4 rfl) ?_
                          refine lv_imul hx hb dX8_judge_115 ?_
                          refine lv_iload hx hb dX8_judge_116 (lv_at hl 0 rfl) ?_
                          refine lv_iadd hx hb dX8_judge_118 ?_
                          obtain ⟨k_43, ek_43, h⟩ := bnd h
                          replace ek_43 := ix_s ek_43 (by decide)
                          refine r_ialdN C0 X hP 99 (k := k_43) ⟨by decide, rfl⟩ ek_43.1 ek_43.2 dX8_judge_119 ?_
                          refine lv_istore (lv' := [(5, .int (σ_42 99 k_43)), (4, .int v4), (3, .int v3), (0, .ref (ad 91)), (1, .int x1), (2, .int x2)]) hx hb dX8_judge_120 hl (by decide) rfl (fun ls hl => ?_)
                          refine lv_iload hx hb dX8_judge_122 (lv_at hl 0 rfl) ?_
                          refine lv_aload_n hx hb dX8_judge_124 rfl (lv_at hl 3 rfl) ?_
                          refine lv_iload_n hx hb dX8_judge_125 rfl (lv_at hl 5 rfl) ?_
                          obtain ⟨r_44, er_44, h⟩ := bnd h
                          refine r_ci X hS (r_runV (As := [.int x2]) (rest := [.int (σ_42 99 k_43)]) C0 X hP L_X8_239 (fun sz => c_X8_leastOf l D cA ad o σ_42 x2  r_44 er_44 sz) (show 91 < 106 ∧ kd 91 = (8, 24) from ⟨by decide, rfl⟩).1 (show 91 < 106 ∧ kd 91 = (8, 24) from ⟨by decide, rfl⟩).2 (by decide) rfl ⟨Nat.le_of_ble_eq_true rfl, Nat.le_of_ble_eq_true rfl⟩ rfl hl.1 rfl (Nat.le_of_ble_eq_true rfl) dX8_judge_126 ⟨Nat.zero_le _, Nat.zero_le _⟩) (fun r9 σ9 H locs hw hP hS => ?_)
                          rw [hw.2] at hP
                          rw [hw.1]
                          refine lv_icmp_eq (tgt := 149) hx hb dX8_judge_129 (by decide) (fun c_45 => ?_) (fun c_45 => ?_)
                          · replace h := it_t h c_45
                            refine lv_iinc (v := (v4 + 1)) (lv' := [(4, .int (v4 + 1)), (5, .int (σ_42 99 k_43)), (3, .int v3), (0, .ref (ad 91)), (1, .int x1), (2, .int x2)]) hx hb dX8_judge_149 hl (k := 1) rfl rfl (by decide) rfl (fun ls hl => ?_)
                            refine lv_goto (tgt := 79) hx hb dX8_judge_152 (by decide) ?_
                            exact ih79 σ_42 (v4 + 1) v3 _ _ ls  h hP hS (lv_sub hl [0, 2, 3, 4, 5] rfl)
                          · replace h := it_f h c_45
                            refine lv_iload hx hb dX8_judge_132 (lv_at hl 0 rfl) ?_
                            refine lv_aload_n hx hb dX8_judge_134 rfl (lv_at hl 3 rfl) ?_
                            refine gf_X8_16 C0 X hP 91 (q := 94) ⟨by decide, rfl⟩ (by omega) rfl dX8_judge_135 ?_
                            refine lv_iload_n hx hb dX8_judge_138 rfl (lv_at hl 4 rfl) ?_
                            refine lv_iconst (v := 5) hx hb dX8_judge_139 (by decide) ?_
                            obtain ⟨r_46, er_46, h⟩ := bnd h
                            refine r_ci X hS (r_runS (As := [.ref (ad 94), .int x1, .int 5]) (rest := [.int (σ_42 99 k_43)]) C0 X hP L_X8_130 (fun sz => c_X8_get l D cA ad o σ_42 94 x1 5 ⟨by decide, rfl⟩ r_46 er_46 sz) ⟨Nat.le_of_ble_eq_true rfl, Nat.le_of_ble_eq_true rfl⟩ rfl hl.1 rfl (Nat.le_of_ble_eq_true rfl) dX8_judge_140 ⟨Nat.zero_le _, Nat.zero_le _⟩) (fun r9 σ9 H locs hw hP hS => ?_)
                            rw [hw.2] at hP
                            rw [hw.1]
                            refine lv_icmp_eq (tgt := 149) hx hb dX8_judge_143 (by decide) (fun c_47 => ?_) (fun c_47 => ?_)
                            · replace h := it_t h c_47
                              refine lv_iinc (v := (v4 + 1)) (lv' := [(4, .int (v4 + 1)), (5, .int (σ_42 99 k_43)), (3, .int v3), (0, .ref (ad 91)), (1, .int x1), (2, .int x2)]) hx hb dX8_judge_149 hl (k := 1) rfl rfl (by decide) rfl (fun ls hl => ?_)
                              refine lv_goto (tgt := 79) hx hb dX8_judge_152 (by decide) ?_
                              exact ih79 σ_42 (v4 + 1) v3 _ _ ls  h hP hS (lv_sub hl [0, 2, 3, 4, 5] rfl)
                            · replace h := it_f h c_47
                              refine lv_iload hx hb dX8_judge_146 (lv_at hl 1 rfl) ?_
                              exact r_iret C0 X hP hS hr hlk dX8_judge_148 (rt2 h)
                  exact lp_32 FU σ 0 v3 _ _ ls  h hP hS (lv_sub hl [0, 1, 2, 3, 4] rfl)
                · replace h := it_f h c_31
                  refine lv_aload_n hx hb dX8_judge_56 rfl (lv_at hl 2 rfl) ?_
                  refine gf_X8_16 C0 X hP 91 (q := 94) ⟨by decide, rfl⟩ (by omega) rfl dX8_judge_57 ?_
                  refine lv_iload hx hb dX8_judge_60 (lv_at hl 0 rfl) ?_
                  refine lv_aload_n hx hb dX8_judge_62 rfl (lv_at hl 2 rfl) ?_
                  refine gf_X8_9 C0 X hP 91 (q := 92) ⟨by decide, rfl⟩ (by omega) rfl dX8_judge_63 ?_
                  refine lv_iload hx hb dX8_judge_66 (lv_at hl 0 rfl) ?_
                  obtain ⟨k_48, ek_48, h⟩ := bnd h
                  replace ek_48 := ix_s ek_48 (by decide)
                  refine r_ialdN C0 X hP 92 (k := k_48) ⟨by decide, rfl⟩ ek_48.1 ek_48.2 dX8_judge_68 ?_
                  obtain ⟨k_49, ek_49, h⟩ := bnd h
                  replace ek_49 := ix_s ek_49 (by decide)
                  refine r_iastN C0 X hP hS 94 (k := k_49) ⟨by decide, rfl⟩ ek_49.1 ek_49.2 dX8_judge_69 (fun H locs hP hS => ?_)
                  refine lv_iinc (v := (v4 + 1)) (lv' := [(4, .int (v4 + 1)), (3, .int v3), (0, .ref (ad 91)), (1, .int x1), (2, .int x2)]) hx hb dX8_judge_70 hl (k := 0) rfl rfl (by decide) rfl (fun ls hl => ?_)
                  refine lv_goto (tgt := 49) hx hb dX8_judge_73 (by decide) ?_
                  exact ih49 (stm σ 94 k_49 (σ 92 k_48)) (v4 + 1) v3 _ _ ls  h hP hS (lv_sub hl [0, 1, 2, 3, 4] rfl)
            exact lp_30 FU σ 0 r_5 _ _ ls  h hP hS (lv_sub hl [0, 1, 2, 3, 4] rfl)
          · replace h := it_f h c_29
            refine lv_iload_n hx hb dX8_judge_44 rfl (lv_at hl 0 rfl) ?_
            exact r_iret C0 X hP hS hr hlk dX8_judge_45 (rt2 h)
        · replace h := it_t h c_28
          refine lv_bipush (v := (-3)) hx hb dX8_judge_37 (by decide) ?_
          refine lv_istore_n (lv' := [(3, .int (-3)), (0, .ref (ad 91)), (1, .int x1), (2, .int x2)]) hx hb dX8_judge_39 rfl hl (by decide) rfl (fun ls hl => ?_)
          refine lv_iload_n hx hb dX8_judge_40 rfl (lv_at hl 0 rfl) ?_
          refine lv_if_eq (tgt := 46) hx hb dX8_judge_41 (by decide) (fun c_50 => absurd c_50 (by decide)) (fun _ => ?_)
          refine lv_iload_n hx hb dX8_judge_44 rfl (lv_at hl 0 rfl) ?_
          exact r_iret C0 X hP hS hr hlk dX8_judge_45 (rt2 h)
    · replace h := it_t h c_4
      refine lv_iconst (v := (-1)) hx hb dX8_judge_15 (by decide) ?_
      exact r_iret C0 X hP hS hr hlk dX8_judge_16 (rt2 h)
def bB_cX8_opens : Nat := 0xb1c500b5fc102ac200b5fc102abf00b5fc102ae700b81000b42aebffa70101844f2e1b0900b42a1b1000b42a1500a279101b3c03
theorem yB_cX8_opens : BYS cX8_opens 52 bB_cX8_opens := BYS_of (by decide +kernel)
theorem dX8_opens_0 : decode cX8_opens 0 = .ok (.iconst 0, 1) := D_3 yB_cX8_opens rfl rfl
theorem dX8_opens_1 : decode cX8_opens 1 = .ok (.istore_n 1, 1) := D_60 yB_cX8_opens rfl rfl
theorem dX8_opens_2 : decode cX8_opens 2 = .ok (.iload_n 1, 1) := D_27 yB_cX8_opens rfl rfl
theorem dX8_opens_3 : decode cX8_opens 3 = .ok (.bipush 121, 2) := D_16 yB_cX8_opens rfl rfl (sg_p (m := 128) (N := 121) rfl rfl rfl)
theorem dX8_opens_5 : decode cX8_opens 5 = .ok (.if_icmp .ge 21, 3) := D_162 yB_cX8_opens rfl rfl (sg_p (m := 32768) (N := 21) rfl rfl rfl)
theorem dX8_opens_8 : decode cX8_opens 8 = .ok (.aload_n 0, 1) := D_42 yB_cX8_opens rfl rfl
theorem dX8_opens_9 : decode cX8_opens 9 = .ok (.getfield 16, 3) := D_180 yB_cX8_opens rfl rfl rfl
theorem dX8_opens_12 : decode cX8_opens 12 = .ok (.iload_n 1, 1) := D_27 yB_cX8_opens rfl rfl
theorem dX8_opens_13 : decode cX8_opens 13 = .ok (.aload_n 0, 1) := D_42 yB_cX8_opens rfl rfl
theorem dX8_opens_14 : decode cX8_opens 14 = .ok (.getfield 9, 3) := D_180 yB_cX8_opens rfl rfl rfl
theorem dX8_opens_17 : decode cX8_opens 17 = .ok (.iload_n 1, 1) := D_27 yB_cX8_opens rfl rfl
theorem dX8_opens_18 : decode cX8_opens 18 = .ok (.iaload, 1) := D_46 yB_cX8_opens rfl rfl
theorem dX8_opens_19 : decode cX8_opens 19 = .ok (.iastore, 1) := D_79 yB_cX8_opens rfl rfl
theorem dX8_opens_20 : decode cX8_opens 20 = .ok (.iinc 1 1, 3) := D_132 yB_cX8_opens rfl rfl rfl (sg_p (m := 128) (N := 1) rfl rfl rfl)
theorem dX8_opens_23 : decode cX8_opens 23 = .ok (.goto (-21), 3) := D_167 yB_cX8_opens rfl rfl (sg_n (m := 32768) (N := 21) rfl rfl rfl)
theorem dX8_opens_26 : decode cX8_opens 26 = .ok (.aload_n 0, 1) := D_42 yB_cX8_opens rfl rfl
theorem dX8_opens_27 : decode cX8_opens 27 = .ok (.getfield 16, 3) := D_180 yB_cX8_opens rfl rfl rfl
theorem dX8_opens_30 : decode cX8_opens 30 = .ok (.invokestatic 231, 3) := D_184 yB_cX8_opens rfl rfl rfl
theorem dX8_opens_33 : decode cX8_opens 33 = .ok (.aload_n 0, 1) := D_42 yB_cX8_opens rfl rfl
theorem dX8_opens_34 : decode cX8_opens 34 = .ok (.bipush (-4), 2) := D_16 yB_cX8_opens rfl rfl (sg_n (m := 128) (N := 4) rfl rfl rfl)
theorem dX8_opens_36 : decode cX8_opens 36 = .ok (.putfield 191, 3) := D_181 yB_cX8_opens rfl rfl rfl
theorem dX8_opens_39 : decode cX8_opens 39 = .ok (.aload_n 0, 1) := D_42 yB_cX8_opens rfl rfl
theorem dX8_opens_40 : decode cX8_opens 40 = .ok (.bipush (-4), 2) := D_16 yB_cX8_opens rfl rfl (sg_n (m := 128) (N := 4) rfl rfl rfl)
theorem dX8_opens_42 : decode cX8_opens 42 = .ok (.putfield 194, 3) := D_181 yB_cX8_opens rfl rfl rfl
theorem dX8_opens_45 : decode cX8_opens 45 = .ok (.aload_n 0, 1) := D_42 yB_cX8_opens rfl rfl
theorem dX8_opens_46 : decode cX8_opens 46 = .ok (.bipush (-4), 2) := D_16 yB_cX8_opens rfl rfl (sg_n (m := 128) (N := 4) rfl rfl rfl)
theorem dX8_opens_48 : decode cX8_opens 48 = .ok (.putfield 197, 3) := D_181 yB_cX8_opens rfl rfl rfl
theorem dX8_opens_51 : decode cX8_opens 51 = .ok (.return_, 1) := D_177 yB_cX8_opens rfl rfl
def F_X8_opens_2   : Nat → Mem → Int32 → Option (Mem)
  | 0, _, _ => none
  | nn + 1, σ, v1 => if 121 ≤ v1 then ((F_X8_anews σ 94).bind fun σ_3 => some (stm (stm (stm σ_3 91 19 (-4)) 91 17 (-4)) 91 18 (-4))) else ((ix 121 v1).bind fun k_4 => (ix 121 v1).bind fun k_5 => F_X8_opens_2 nn (stm σ 94 k_5 (σ 92 k_4)) (v1 + 1))
def F_X8_opens (σ : Mem)  : Option (Mem) := F_X8_opens_2 FU σ 0
set_option maxHeartbeats 4000000 in
set_option maxRecDepth 100000 in
theorem c_X8_opens (l : Launch) (D : va_G) (cA : Nat → ClassId) (ad : Nat → Nat) (o : Int64) (σ : Mem)   (res : Mem) (h : F_X8_opens σ  = some res) (sz : Nat) : Met l yX8_opens (WY yX8_opens cX8_opens 2 none) (RM 3) (va_Pc [.ref (ad 91)] (PW D cA ad o σ sz)) (va_Qv (fun σ9 => σ9 = res) (QW D cA ad o) (FA ad sz)) 0 0 (FA ad sz) := by
  refine ct_of (own := RX8) (k := 3) (Qf := va_Qv (fun σ9 => σ9 = res) (QW D cA ad o)) rfl (by decide) (Nat.le_of_ble_eq_true rfl) (fun p e s m below meth c ls C0 X hr hlk hP hl => ?_) sz
  have hS : va_S (FA ad s.heap.size) s.heap s.heap [] := va_S.rf
  have hl : lv_has ls 2 [(0, .ref (ad 91))] := hl
  obtain ⟨hx, hb, hml, hown, hts⟩ := id C0
  unfold F_X8_opens at h
  refine lv_iconst (v := 0) hx hb dX8_opens_0 (by decide) ?_
  refine lv_istore_n (lv' := [(1, .int 0), (0, .ref (ad 91))]) hx hb dX8_opens_1 rfl hl (by decide) rfl (fun ls hl => ?_)
  have lp_1 : ∀ (nn2 : Nat) (σ : Mem) (v1 : Int32) (H : Heap) (locs : List Loc) (ls : Array Slot), F_X8_opens_2 nn2 σ v1 = some res → WP D cA ad o σ H → va_S (FA ad s.heap.size) s.heap H locs → lv_has ls 2 [(1, .int v1), (0, .ref (ad 91))] → W p l e (RM 3) s m ([.ref (ad 91)] : List Value).toArray below meth c H locs 0 0 (MQ below (va_Qv (fun σ9 => σ9 = res) (QW D cA ad o) (FA ad s.heap.size)) ([.ref (ad 91)] : List Value).toArray s 0 0 (FA ad s.heap.size)) (F0 m 2 ls []) := by
    intro nn2
    induction nn2 with
    | zero => intro σ v1 H locs ls h hP hS hl; exact absurd (show none = some res from h) nofun
    | succ nn2 ih2 =>
      intro σ v1 H locs ls h hP hS hl
      replace h := (F_X8_opens_2.eq_2 _ _ _).symm.trans h
      refine lv_iload_n hx hb dX8_opens_2 rfl (lv_at hl 0 rfl) ?_
      refine lv_bipush (v := 121) hx hb dX8_opens_3 (by decide) ?_
      refine lv_icmp_ge (tgt := 26) hx hb dX8_opens_5 (by decide) (fun c_2 => ?_) (fun c_2 => ?_)
      · replace h := it_t h c_2
        refine lv_aload_n hx hb dX8_opens_26 rfl (lv_at hl 1 rfl) ?_
        refine gf_X8_16 C0 X hP 91 (q := 94) ⟨by decide, rfl⟩ (by omega) rfl dX8_opens_27 ?_
        obtain ⟨σ_3, eσ_3, h⟩ := bnd h
        refine r_cv X hS (r_runS (As := [.ref (ad 94)]) (rest := []) C0 X hP L_X8_231 (fun sz => c_X8_anews l D cA ad o σ 94 ⟨by decide, rfl⟩ σ_3 eσ_3 sz) ⟨Nat.le_of_ble_eq_true rfl, Nat.le_of_ble_eq_true rfl⟩ rfl hl.1 rfl (Nat.le_of_ble_eq_true rfl) dX8_opens_30 ⟨Nat.zero_le _, Nat.zero_le _⟩) (fun σ9 H locs hw hP hS => ?_)
        rw [show σ9 = σ_3 from hw] at hP
        refine lv_aload_n hx hb dX8_opens_33 rfl (lv_at hl 1 rfl) ?_
        refine lv_bipush (v := (-4)) hx hb dX8_opens_34 (by decide) ?_
        refine pf_X8_191 C0 X hP hS 91 ⟨by decide, rfl⟩ dX8_opens_36 (fun H locs hP hS => ?_)
        refine lv_aload_n hx hb dX8_opens_39 rfl (lv_at hl 1 rfl) ?_
        refine lv_bipush (v := (-4)) hx hb dX8_opens_40 (by decide) ?_
        refine pf_X8_194 C0 X hP hS 91 ⟨by decide, rfl⟩ dX8_opens_42 (fun H locs hP hS => ?_)
        refine lv_aload_n hx hb dX8_opens_45 rfl (lv_at hl 1 rfl) ?_
        refine lv_bipush (v := (-4)) hx hb dX8_opens_46 (by decide) ?_
        refine pf_X8_197 C0 X hP hS 91 ⟨by decide, rfl⟩ dX8_opens_48 (fun H locs hP hS => ?_)
        exact r_vret C0 X hP hS hr hlk dX8_opens_51 (Option.some.inj h)
      · replace h := it_f h c_2
        refine lv_aload_n hx hb dX8_opens_8 rfl (lv_at hl 1 rfl) ?_
        refine gf_X8_16 C0 X hP 91 (q := 94) ⟨by decide, rfl⟩ (by omega) rfl dX8_opens_9 ?_
        refine lv_iload_n hx hb dX8_opens_12 rfl (lv_at hl 0 rfl) ?_
        refine lv_aload_n hx hb dX8_opens_13 rfl (lv_at hl 1 rfl) ?_
        refine gf_X8_9 C0 X hP 91 (q := 92) ⟨by decide, rfl⟩ (by omega) rfl dX8_opens_14 ?_
        refine lv_iload_n hx hb dX8_opens_17 rfl (lv_at hl 0 rfl) ?_
        obtain ⟨k_4, ek_4, h⟩ := bnd h
        replace ek_4 := ix_s ek_4 (by decide)
        refine r_ialdN C0 X hP 92 (k := k_4) ⟨by decide, rfl⟩ ek_4.1 ek_4.2 dX8_opens_18 ?_
        obtain ⟨k_5, ek_5, h⟩ := bnd h
        replace ek_5 := ix_s ek_5 (by decide)
        refine r_iastN C0 X hP hS 94 (k := k_5) ⟨by decide, rfl⟩ ek_5.1 ek_5.2 dX8_opens_19 (fun H locs hP hS => ?_)
        refine lv_iinc (v := (v1 + 1)) (lv' := [(1, .int (v1 + 1)), (0, .ref (ad 91))]) hx hb dX8_opens_20 hl (k := 0) rfl rfl (by decide) rfl (fun ls hl => ?_)
        refine lv_goto (tgt := 2) hx hb dX8_opens_23 (by decide) ?_
        exact ih2 (stm σ 94 k_5 (σ 92 k_4)) (v1 + 1) _ _ ls  h hP hS (lv_sub hl [0, 1] rfl)
  exact lp_1 FU σ 0 _ _ ls  h hP hS (lv_sub hl [0, 1] rfl)
def bB_cX8_allBy : Nat := 0xb1deffa70103844f1c600460681d0526101000b42a4f1b60681d0526101000b42a2300a2061d3e03
theorem yB_cX8_allBy : BYS cX8_allBy 40 bB_cX8_allBy := BYS_of (by decide +kernel)
theorem dX8_allBy_0 : decode cX8_allBy 0 = .ok (.iconst 0, 1) := D_3 yB_cX8_allBy rfl rfl
theorem dX8_allBy_1 : decode cX8_allBy 1 = .ok (.istore_n 3, 1) := D_62 yB_cX8_allBy rfl rfl
theorem dX8_allBy_2 : decode cX8_allBy 2 = .ok (.iload_n 3, 1) := D_29 yB_cX8_allBy rfl rfl
theorem dX8_allBy_3 : decode cX8_allBy 3 = .ok (.iconst 3, 1) := D_6 yB_cX8_allBy rfl rfl
theorem dX8_allBy_4 : decode cX8_allBy 4 = .ok (.if_icmp .ge 35, 3) := D_162 yB_cX8_allBy rfl rfl (sg_p (m := 32768) (N := 35) rfl rfl rfl)
theorem dX8_allBy_7 : decode cX8_allBy 7 = .ok (.aload_n 0, 1) := D_42 yB_cX8_allBy rfl rfl
theorem dX8_allBy_8 : decode cX8_allBy 8 = .ok (.getfield 16, 3) := D_180 yB_cX8_allBy rfl rfl rfl
theorem dX8_allBy_11 : decode cX8_allBy 11 = .ok (.bipush 38, 2) := D_16 yB_cX8_allBy rfl rfl (sg_p (m := 128) (N := 38) rfl rfl rfl)
theorem dX8_allBy_13 : decode cX8_allBy 13 = .ok (.iconst 2, 1) := D_5 yB_cX8_allBy rfl rfl
theorem dX8_allBy_14 : decode cX8_allBy 14 = .ok (.iload_n 3, 1) := D_29 yB_cX8_allBy rfl rfl
theorem dX8_allBy_15 : decode cX8_allBy 15 = .ok (.imul, 1) := D_104 yB_cX8_allBy rfl rfl
theorem dX8_allBy_16 : decode cX8_allBy 16 = .ok (.iadd, 1) := D_96 yB_cX8_allBy rfl rfl
theorem dX8_allBy_17 : decode cX8_allBy 17 = .ok (.iload_n 1, 1) := D_27 yB_cX8_allBy rfl rfl
theorem dX8_allBy_18 : decode cX8_allBy 18 = .ok (.iastore, 1) := D_79 yB_cX8_allBy rfl rfl
theorem dX8_allBy_19 : decode cX8_allBy 19 = .ok (.aload_n 0, 1) := D_42 yB_cX8_allBy rfl rfl
theorem dX8_allBy_20 : decode cX8_allBy 20 = .ok (.getfield 16, 3) := D_180 yB_cX8_allBy rfl rfl rfl
theorem dX8_allBy_23 : decode cX8_allBy 23 = .ok (.bipush 38, 2) := D_16 yB_cX8_allBy rfl rfl (sg_p (m := 128) (N := 38) rfl rfl rfl)
theorem dX8_allBy_25 : decode cX8_allBy 25 = .ok (.iconst 2, 1) := D_5 yB_cX8_allBy rfl rfl
theorem dX8_allBy_26 : decode cX8_allBy 26 = .ok (.iload_n 3, 1) := D_29 yB_cX8_allBy rfl rfl
theorem dX8_allBy_27 : decode cX8_allBy 27 = .ok (.imul, 1) := D_104 yB_cX8_allBy rfl rfl
theorem dX8_allBy_28 : decode cX8_allBy 28 = .ok (.iadd, 1) := D_96 yB_cX8_allBy rfl rfl
theorem dX8_allBy_29 : decode cX8_allBy 29 = .ok (.iconst 1, 1) := D_4 yB_cX8_allBy rfl rfl
theorem dX8_allBy_30 : decode cX8_allBy 30 = .ok (.iadd, 1) := D_96 yB_cX8_allBy rfl rfl
theorem dX8_allBy_31 : decode cX8_allBy 31 = .ok (.iload_n 2, 1) := D_28 yB_cX8_allBy rfl rfl
theorem dX8_allBy_32 : decode cX8_allBy 32 = .ok (.iastore, 1) := D_79 yB_cX8_allBy rfl rfl
theorem dX8_allBy_33 : decode cX8_allBy 33 = .ok (.iinc 3 1, 3) := D_132 yB_cX8_allBy rfl rfl rfl (sg_p (m := 128) (N := 1) rfl rfl rfl)
theorem dX8_allBy_36 : decode cX8_allBy 36 = .ok (.goto (-34), 3) := D_167 yB_cX8_allBy rfl rfl (sg_n (m := 32768) (N := 34) rfl rfl rfl)
theorem dX8_allBy_39 : decode cX8_allBy 39 = .ok (.return_, 1) := D_177 yB_cX8_allBy rfl rfl
def F_X8_allBy_2 (x1 : Int32) (x2 : Int32)  : Nat → Mem → Int32 → Option (Mem)
  | 0, _, _ => none
  | nn + 1, σ, v3 => if 3 ≤ v3 then (some σ) else ((ix 121 (38 + (2 * v3))).bind fun k_3 => (ix 121 ((38 + (2 * v3)) + 1)).bind fun k_4 => F_X8_allBy_2 x1 x2 nn (stm (stm σ 94 k_3 x1) 94 k_4 x2) (v3 + 1))
def F_X8_allBy (σ : Mem) (x1 : Int32) (x2 : Int32) : Option (Mem) := F_X8_allBy_2 x1 x2 FU σ 0
set_option maxHeartbeats 4000000 in
set_option maxRecDepth 100000 in
theorem c_X8_allBy (l : Launch) (D : va_G) (cA : Nat → ClassId) (ad : Nat → Nat) (o : Int64) (σ : Mem) (x1 : Int32) (x2 : Int32)  (res : Mem) (h : F_X8_allBy σ x1 x2 = some res) (sz : Nat) : Met l yX8_allBy (WY yX8_allBy cX8_allBy 4 none) (RM 0) (va_Pc [.ref (ad 91), .int x1, .int x2] (PW D cA ad o σ sz)) (va_Qv (fun σ9 => σ9 = res) (QW D cA ad o) (FA ad sz)) 0 0 (FA ad sz) := by
  refine ct_of (own := RX8) (k := 0) (Qf := va_Qv (fun σ9 => σ9 = res) (QW D cA ad o)) rfl (by decide) (Nat.le_of_ble_eq_true rfl) (fun p e s m below meth c ls C0 X hr hlk hP hl => ?_) sz
  have hS : va_S (FA ad s.heap.size) s.heap s.heap [] := va_S.rf
  have hl : lv_has ls 4 [(0, .ref (ad 91)), (1, .int x1), (2, .int x2)] := hl
  obtain ⟨hx, hb, hml, hown, hts⟩ := id C0
  unfold F_X8_allBy at h
  refine lv_iconst (v := 0) hx hb dX8_allBy_0 (by decide) ?_
  refine lv_istore_n (lv' := [(3, .int 0), (0, .ref (ad 91)), (1, .int x1), (2, .int x2)]) hx hb dX8_allBy_1 rfl hl (by decide) rfl (fun ls hl => ?_)
  have lp_1 : ∀ (nn2 : Nat) (σ : Mem) (v3 : Int32) (H : Heap) (locs : List Loc) (ls : Array Slot), F_X8_allBy_2 x1 x2 nn2 σ v3 = some res → WP D cA ad o σ H → va_S (FA ad s.heap.size) s.heap H locs → lv_has ls 4 [(3, .int v3), (0, .ref (ad 91)), (1, .int x1), (2, .int x2)] → W p l e (RM 0) s m ([.ref (ad 91), .int x1, .int x2] : List Value).toArray below meth c H locs 0 0 (MQ below (va_Qv (fun σ9 => σ9 = res) (QW D cA ad o) (FA ad s.heap.size)) ([.ref (ad 91), .int x1, .int x2] : List Value).toArray s 0 0 (FA ad s.heap.size)) (F0 m 2 ls []) := by
    intro nn2
    induction nn2 with
    | zero => intro σ v3 H locs ls h hP hS hl; exact absurd (show none = some res from h) nofun
    | succ nn2 ih2 =>
      intro σ v3 H locs ls h hP hS hl
      replace h := (F_X8_allBy_2.eq_2 _ _ _ _ _).symm.trans h
      refine lv_iload_n hx hb dX8_allBy_2 rfl (lv_at hl 0 rfl) ?_
      refine lv_iconst (v := 3) hx hb dX8_allBy_3 (by decide) ?_
      refine lv_icmp_ge (tgt := 39) hx hb dX8_allBy_4 (by decide) (fun c_2 => ?_) (fun c_2 => ?_)
      · replace h := it_t h c_2
        exact r_vret C0 X hP hS hr hlk dX8_allBy_39 (Option.some.inj h)
      · replace h := it_f h c_2
        refine lv_aload_n hx hb dX8_allBy_7 rfl (lv_at hl 1 rfl) ?_
        refine gf_X8_16 C0 X hP 91 (q := 94) ⟨by decide, rfl⟩ (by omega) rfl dX8_allBy_8 ?_
        refine lv_bipush (v := 38) hx hb dX8_allBy_11 (by decide) ?_
        refine lv_iconst (v := 2) hx hb dX8_allBy_13 (by decide) ?_
        refine lv_iload_n hx hb dX8_allBy_14 rfl (lv_at hl 0 rfl) ?_
        refine lv_imul hx hb dX8_allBy_15 ?_
        refine lv_iadd hx hb dX8_allBy_16 ?_
        refine lv_iload_n hx hb dX8_allBy_17 rfl (lv_at hl 2 rfl) ?_
        obtain ⟨k_3, ek_3, h⟩ := bnd h
        replace ek_3 := ix_s ek_3 (by decide)
        refine r_iastN C0 X hP hS 94 (k := k_3) ⟨by decide, rfl⟩ ek_3.1 ek_3.2 dX8_allBy_18 (fun H locs hP hS => ?_)
        refine lv_aload_n hx hb dX8_allBy_19 rfl (lv_at hl 1 rfl) ?_
        refine gf_X8_16 C0 X hP 91 (q := 94) ⟨by decide, rfl⟩ (by omega) rfl dX8_allBy_20 ?_
        refine lv_bipush (v := 38) hx hb dX8_allBy_23 (by decide) ?_
        refine lv_iconst (v := 2) hx hb dX8_allBy_25 (by decide) ?_
        refine lv_iload_n hx hb dX8_allBy_26 rfl (lv_at hl 0 rfl) ?_
        refine lv_imul hx hb dX8_allBy_27 ?_
        refine lv_iadd hx hb dX8_allBy_28 ?_
        refine lv_iconst (v := 1) hx hb dX8_allBy_29 (by decide) ?_
        refine lv_iadd hx hb dX8_allBy_30 ?_
        refine lv_iload_n hx hb dX8_allBy_31 rfl (lv_at hl 3 rfl) ?_
        obtain ⟨k_4, ek_4, h⟩ := bnd h
        replace ek_4 := ix_s ek_4 (by decide)
        refine r_iastN C0 X hP hS 94 (k := k_4) ⟨by decide, rfl⟩ ek_4.1 ek_4.2 dX8_allBy_32 (fun H locs hP hS => ?_)
        refine lv_iinc (v := (v3 + 1)) (lv' := [(3, .int (v3 + 1)), (0, .ref (ad 91)), (1, .int x1), (2, .int x2)]) hx hb dX8_allBy_33 hl (k := 0) rfl rfl (by decide) rfl (fun ls hl => ?_)
        refine lv_goto (tgt := 2) hx hb dX8_allBy_36 (by decide) ?_
        exact ih2 (stm (stm σ 94 k_3 x1) 94 k_4 x2) (v3 + 1) _ _ ls  h hP hS (lv_sub hl [0, 1, 2, 3] rfl)
  exact lp_1 FU σ 0 _ _ ls  h hP hS (lv_sub hl [0, 1, 2, 3] rfl)
def bB_cX8_costs : Nat := 0xac60030400a7e80311090099d700b81000b42a60eb00b809101000b42aeb00b808101000b42aeeffa7e300b61000b42a2a0e009ae000b81000b42a
theorem yB_cX8_costs : BYS cX8_costs 59 bB_cX8_costs := BYS_of (by decide +kernel)
theorem dX8_costs_0 : decode cX8_costs 0 = .ok (.aload_n 0, 1) := D_42 yB_cX8_costs rfl rfl
theorem dX8_costs_1 : decode cX8_costs 1 = .ok (.getfield 16, 3) := D_180 yB_cX8_costs rfl rfl rfl
theorem dX8_costs_4 : decode cX8_costs 4 = .ok (.invokestatic 224, 3) := D_184 yB_cX8_costs rfl rfl rfl
theorem dX8_costs_7 : decode cX8_costs 7 = .ok (.ifCond .ne 14, 3) := D_154 yB_cX8_costs rfl rfl (sg_p (m := 32768) (N := 14) rfl rfl rfl)
theorem dX8_costs_10 : decode cX8_costs 10 = .ok (.aload_n 0, 1) := D_42 yB_cX8_costs rfl rfl
theorem dX8_costs_11 : decode cX8_costs 11 = .ok (.aload_n 0, 1) := D_42 yB_cX8_costs rfl rfl
theorem dX8_costs_12 : decode cX8_costs 12 = .ok (.getfield 16, 3) := D_180 yB_cX8_costs rfl rfl rfl
theorem dX8_costs_15 : decode cX8_costs 15 = .ok (.invokevirtual 227, 3) := D_182 yB_cX8_costs rfl rfl rfl
theorem dX8_costs_18 : decode cX8_costs 18 = .ok (.goto (-18), 3) := D_167 yB_cX8_costs rfl rfl (sg_n (m := 32768) (N := 18) rfl rfl rfl)
theorem dX8_costs_21 : decode cX8_costs 21 = .ok (.aload_n 0, 1) := D_42 yB_cX8_costs rfl rfl
theorem dX8_costs_22 : decode cX8_costs 22 = .ok (.getfield 16, 3) := D_180 yB_cX8_costs rfl rfl rfl
theorem dX8_costs_25 : decode cX8_costs 25 = .ok (.bipush 8, 2) := D_16 yB_cX8_costs rfl rfl (sg_p (m := 128) (N := 8) rfl rfl rfl)
theorem dX8_costs_27 : decode cX8_costs 27 = .ok (.invokestatic 235, 3) := D_184 yB_cX8_costs rfl rfl rfl
theorem dX8_costs_30 : decode cX8_costs 30 = .ok (.aload_n 0, 1) := D_42 yB_cX8_costs rfl rfl
theorem dX8_costs_31 : decode cX8_costs 31 = .ok (.getfield 16, 3) := D_180 yB_cX8_costs rfl rfl rfl
theorem dX8_costs_34 : decode cX8_costs 34 = .ok (.bipush 9, 2) := D_16 yB_cX8_costs rfl rfl (sg_p (m := 128) (N := 9) rfl rfl rfl)
theorem dX8_costs_36 : decode cX8_costs 36 = .ok (.invokestatic 235, 3) := D_184 yB_cX8_costs rfl rfl rfl
theorem dX8_costs_39 : decode cX8_costs 39 = .ok (.iadd, 1) := D_96 yB_cX8_costs rfl rfl
theorem dX8_costs_40 : decode cX8_costs 40 = .ok (.aload_n 0, 1) := D_42 yB_cX8_costs rfl rfl
theorem dX8_costs_41 : decode cX8_costs 41 = .ok (.getfield 16, 3) := D_180 yB_cX8_costs rfl rfl rfl
theorem dX8_costs_44 : decode cX8_costs 44 = .ok (.invokestatic 215, 3) := D_184 yB_cX8_costs rfl rfl rfl
theorem dX8_costs_47 : decode cX8_costs 47 = .ok (.ifCond .eq 9, 3) := D_153 yB_cX8_costs rfl rfl (sg_p (m := 32768) (N := 9) rfl rfl rfl)
theorem dX8_costs_50 : decode cX8_costs 50 = .ok (.sipush 1000, 3) := D_17 yB_cX8_costs rfl rfl (sg_p (m := 32768) (N := 1000) rfl rfl rfl)
theorem dX8_costs_53 : decode cX8_costs 53 = .ok (.goto 4, 3) := D_167 yB_cX8_costs rfl rfl (sg_p (m := 32768) (N := 4) rfl rfl rfl)
theorem dX8_costs_56 : decode cX8_costs 56 = .ok (.iconst 0, 1) := D_3 yB_cX8_costs rfl rfl
theorem dX8_costs_57 : decode cX8_costs 57 = .ok (.iadd, 1) := D_96 yB_cX8_costs rfl rfl
theorem dX8_costs_58 : decode cX8_costs 58 = .ok (.ireturn, 1) := D_172 yB_cX8_costs rfl rfl
def F_X8_costs_0   : Nat → Mem → Option (Mem × Int32)
  | 0, _ => none
  | nn + 1, σ => (F_X8_isEnded σ 94).bind fun r_2 => if r_2 = 0 then ((F_X8_minute σ 94).bind fun σ_8 => F_X8_costs_0 nn σ_8) else ((F_X8_allOf σ 94 8).bind fun r_4 => (F_X8_allOf σ 94 9).bind fun r_5 => (F_X8_stands σ 94).bind fun r_6 => if r_6 = 0 then (some (σ, ((r_4 + r_5) + 0))) else (some (σ, ((r_4 + r_5) + 1000))))
def F_X8_costs (σ : Mem)  : Option (Mem × Int32) := F_X8_costs_0 FU σ
set_option maxHeartbeats 4000000 in
set_option maxRecDepth 100000 in
theorem c_X8_costs (l : Launch) (D : va_G) (cA : Nat → ClassId) (ad : Nat → Nat) (o : Int64) (σ : Mem)   (res : Mem × Int32) (h : F_X8_costs σ  = some res) (sz : Nat) : Met l yX8_costs (WY yX8_costs cX8_costs 1 (some .int)) (RM 8) (va_Pc [.ref (ad 91)] (PW D cA ad o σ sz)) (va_Qi (fun r σ9 => r = res.2 ∧ σ9 = res.1) (QW D cA ad o) (FA ad sz)) 0 0 (FA ad sz) := by
  refine ct_of (own := RX8) (k := 8) (Qf := va_Qi (fun r σ9 => r = res.2 ∧ σ9 = res.1) (QW D cA ad o)) rfl (by decide) (Nat.le_of_ble_eq_true rfl) (fun p e s m below meth c ls C0 X hr hlk hP hl => ?_) sz
  have hS : va_S (FA ad s.heap.size) s.heap s.heap [] := va_S.rf
  have hl : lv_has ls 1 [(0, .ref (ad 91))] := hl
  obtain ⟨hx, hb, hml, hown, hts⟩ := id C0
  unfold F_X8_costs at h
  have lp_1 : ∀ (nn0 : Nat) (σ : Mem)  (H : Heap) (locs : List Loc) (ls : Array Slot), F_X8_costs_0 nn0 σ  = some res → WP D cA ad o σ H → va_S (FA ad s.heap.size) s.heap H locs → lv_has ls 1 [(0, .ref (ad 91))] → W p l e (RM 8) s m ([.ref (ad 91)] : List Value).toArray below meth c H locs 0 0 (MQ below (va_Qi (fun r σ9 => r = res.2 ∧ σ9 = res.1) (QW D cA ad o) (FA ad s.heap.size)) ([.ref (ad 91)] : List Value).toArray s 0 0 (FA ad s.heap.size)) (F0 m 0 ls []) := by
    intro nn0
    induction nn0 with
    | zero => intro σ H locs ls h hP hS hl; exact absurd (show none = some res from h) nofun
    | succ nn0 ih0 =>
      intro σ H locs ls h hP hS hl
      replace h := (F_X8_costs_0.eq_2 _ _).symm.trans h
      refine lv_aload_n hx hb dX8_costs_0 rfl (lv_at hl 0 rfl) ?_
      refine gf_X8_16 C0 X hP 91 (q := 94) ⟨by decide, rfl⟩ (by omega) rfl dX8_costs_1 ?_
      obtain ⟨r_2, er_2, h⟩ := bnd h
      refine r_ci X hS (r_runS (As := [.ref (ad 94)]) (rest := []) C0 X hP L_X8_224 (fun sz => c_X8_isEnded l D cA ad o σ 94 ⟨by decide, rfl⟩ r_2 er_2 sz) ⟨Nat.le_of_ble_eq_true rfl, Nat.le_of_ble_eq_true rfl⟩ rfl hl.1 rfl (Nat.le_of_ble_eq_true rfl) dX8_costs_4 ⟨Nat.zero_le _, Nat.zero_le _⟩) (fun r9 σ9 H locs hw hP hS => ?_)
      rw [hw.2] at hP
      rw [hw.1]
      refine lv_if_ne (tgt := 21) hx hb dX8_costs_7 (by decide) (fun c_3 => ?_) (fun c_3 => ?_)
      · replace h := it_f h c_3
        refine lv_aload_n hx hb dX8_costs_21 rfl (lv_at hl 0 rfl) ?_
        refine gf_X8_16 C0 X hP 91 (q := 94) ⟨by decide, rfl⟩ (by omega) rfl dX8_costs_22 ?_
        refine lv_bipush (v := 8) hx hb dX8_costs_25 (by decide) ?_
        obtain ⟨r_4, er_4, h⟩ := bnd h
        refine r_ci X hS (r_runS (As := [.ref (ad 94), .int 8]) (rest := []) C0 X hP L_X8_235 (fun sz => c_X8_allOf l D cA ad o σ 94 8 ⟨by decide, rfl⟩ r_4 er_4 sz) ⟨Nat.le_of_ble_eq_true rfl, Nat.le_of_ble_eq_true rfl⟩ rfl hl.1 rfl (Nat.le_of_ble_eq_true rfl) dX8_costs_27 ⟨Nat.zero_le _, Nat.zero_le _⟩) (fun r9 σ9 H locs hw hP hS => ?_)
        rw [hw.2] at hP
        rw [hw.1]
        refine lv_aload_n hx hb dX8_costs_30 rfl (lv_at hl 0 rfl) ?_
        refine gf_X8_16 C0 X hP 91 (q := 94) ⟨by decide, rfl⟩ (by omega) rfl dX8_costs_31 ?_
        refine lv_bipush (v := 9) hx hb dX8_costs_34 (by decide) ?_
        obtain ⟨r_5, er_5, h⟩ := bnd h
        refine r_ci X hS (r_runS (As := [.ref (ad 94), .int 9]) (rest := [.int r_4]) C0 X hP L_X8_235 (fun sz => c_X8_allOf l D cA ad o σ 94 9 ⟨by decide, rfl⟩ r_5 er_5 sz) ⟨Nat.le_of_ble_eq_true rfl, Nat.le_of_ble_eq_true rfl⟩ rfl hl.1 rfl (Nat.le_of_ble_eq_true rfl) dX8_costs_36 ⟨Nat.zero_le _, Nat.zero_le _⟩) (fun r9 σ9 H locs hw hP hS => ?_)
        rw [hw.2] at hP
        rw [hw.1]
        refine lv_iadd hx hb dX8_costs_39 ?_
        refine lv_aload_n hx hb dX8_costs_40 rfl (lv_at hl 0 rfl) ?_
        refine gf_X8_16 C0 X hP 91 (q := 94) ⟨by decide, rfl⟩ (by omega) rfl dX8_costs_41 ?_
        obtain ⟨r_6, er_6, h⟩ := bnd h
        refine r_ci X hS (r_runS (As := [.ref (ad 94)]) (rest := [.int (r_4 + r_5)]) C0 X hP L_X8_215 (fun sz => c_X8_stands l D cA ad o σ 94 ⟨by decide, rfl⟩ r_6 er_6 sz) ⟨Nat.le_of_ble_eq_true rfl, Nat.le_of_ble_eq_true rfl⟩ rfl hl.1 rfl (Nat.le_of_ble_eq_true rfl) dX8_costs_44 ⟨Nat.zero_le _, Nat.zero_le _⟩) (fun r9 σ9 H locs hw hP hS => ?_)
        rw [hw.2] at hP
        rw [hw.1]
        refine lv_if_eq (tgt := 56) hx hb dX8_costs_47 (by decide) (fun c_7 => ?_) (fun c_7 => ?_)
        · replace h := it_t h c_7
          refine lv_iconst (v := 0) hx hb dX8_costs_56 (by decide) ?_
          refine lv_iadd hx hb dX8_costs_57 ?_
          exact r_iret C0 X hP hS hr hlk dX8_costs_58 (rt2 h)
        · replace h := it_f h c_7
          refine lv_sipush (v := 1000) hx hb dX8_costs_50 (by decide) ?_
          refine lv_goto (tgt := 57) hx hb dX8_costs_53 (by decide) ?_
          refine lv_iadd hx hb dX8_costs_57 ?_
          exact r_iret C0 X hP hS hr hlk dX8_costs_58 (rt2 h)
      · replace h := it_t h c_3
        refine lv_aload_n hx hb dX8_costs_10 rfl (lv_at hl 0 rfl) ?_
        refine lv_aload_n hx hb dX8_costs_11 rfl (lv_at hl 0 rfl) ?_
        refine gf_X8_16 C0 X hP 91 (q := 94) ⟨by decide, rfl⟩ (by omega) rfl dX8_costs_12 ?_
        obtain ⟨σ_8, eσ_8, h⟩ := bnd h
        refine r_cv X hS (r_runV (As := [.ref (ad 94)]) (rest := []) C0 X hP L_X8_227 (fun sz => c_X8_minute l D cA ad o σ 94 ⟨by decide, rfl⟩ σ_8 eσ_8 sz) (show 91 < 106 ∧ kd 91 = (8, 24) from ⟨by decide, rfl⟩).1 (show 91 < 106 ∧ kd 91 = (8, 24) from ⟨by decide, rfl⟩).2 (by decide) rfl ⟨Nat.le_of_ble_eq_true rfl, Nat.le_of_ble_eq_true rfl⟩ rfl hl.1 rfl (Nat.le_of_ble_eq_true rfl) dX8_costs_15 ⟨Nat.zero_le _, Nat.zero_le _⟩) (fun σ9 H locs hw hP hS => ?_)
        rw [show σ9 = σ_8 from hw] at hP
        refine lv_goto (tgt := 0) hx hb dX8_costs_18 (by decide) ?_
        exact ih0 σ_8 _ _ ls  h hP hS (lv_sub hl [0] rfl)
  exact lp_1 FU σ _ _ ls  h hP hS (lv_sub hl [0] rfl)
def bB_cX8_run : Nat := 0xac030400a704070099d700b81000b42aac2e051000b42aaceb00b809101000b42aaceb00b808101000b42aac0415340000002a000000200000001d00000003000000000000003b000000aa1c0436f700b62ad0ffa70104846100b82e600415681b64101f00b42a0a1004151000b42a2000a22e1b1c00b42a04152b00a22e040900b42a0415043603f400b62aacfd10060099dd00b62ad8ffa7010484acf31006009a3500b8db001409852e600415681b64101f00b42a2300a22e1b1c00b42a0415043603ac1d0500991d3e6c00b6021b2aac0205009a3500b8f2001409851c0f00996900b81b
theorem yB_cX8_run : BYS cX8_run 230 bB_cX8_run := BYS_of (by decide +kernel)
theorem dX8_run_0 : decode cX8_run 0 = .ok (.iload_n 1, 1) := D_27 yB_cX8_run rfl rfl
theorem dX8_run_1 : decode cX8_run 1 = .ok (.invokestatic 105, 3) := D_184 yB_cX8_run rfl rfl rfl
theorem dX8_run_4 : decode cX8_run 4 = .ok (.ifCond .eq 15, 3) := D_153 yB_cX8_run rfl rfl (sg_p (m := 32768) (N := 15) rfl rfl rfl)
theorem dX8_run_7 : decode cX8_run 7 = .ok (.iload_n 2, 1) := D_28 yB_cX8_run rfl rfl
theorem dX8_run_8 : decode cX8_run 8 = .ok (.i2l, 1) := D_133 yB_cX8_run rfl rfl
theorem dX8_run_9 : decode cX8_run 9 = .ok (.lconst 0, 1) := D_9 yB_cX8_run rfl rfl
theorem dX8_run_10 : decode cX8_run 10 = .ok (.ldc2_w 242, 3) := D_20 yB_cX8_run rfl rfl rfl
theorem dX8_run_13 : decode cX8_run 13 = .ok (.invokestatic 53, 3) := D_184 yB_cX8_run rfl rfl rfl
theorem dX8_run_16 : decode cX8_run 16 = .ok (.ifCond .ne 5, 3) := D_154 yB_cX8_run rfl rfl (sg_p (m := 32768) (N := 5) rfl rfl rfl)
theorem dX8_run_19 : decode cX8_run 19 = .ok (.iconst (-1), 1) := D_2 yB_cX8_run rfl rfl
theorem dX8_run_20 : decode cX8_run 20 = .ok (.ireturn, 1) := D_172 yB_cX8_run rfl rfl
theorem dX8_run_21 : decode cX8_run 21 = .ok (.aload_n 0, 1) := D_42 yB_cX8_run rfl rfl
theorem dX8_run_22 : decode cX8_run 22 = .ok (.iload_n 1, 1) := D_27 yB_cX8_run rfl rfl
theorem dX8_run_23 : decode cX8_run 23 = .ok (.iconst (-1), 1) := D_2 yB_cX8_run rfl rfl
theorem dX8_run_24 : decode cX8_run 24 = .ok (.invokevirtual 108, 3) := D_182 yB_cX8_run rfl rfl rfl
theorem dX8_run_27 : decode cX8_run 27 = .ok (.istore_n 3, 1) := D_62 yB_cX8_run rfl rfl
theorem dX8_run_28 : decode cX8_run 28 = .ok (.iload_n 3, 1) := D_29 yB_cX8_run rfl rfl
theorem dX8_run_29 : decode cX8_run 29 = .ok (.ifCond .eq 5, 3) := D_153 yB_cX8_run rfl rfl (sg_p (m := 32768) (N := 5) rfl rfl rfl)
theorem dX8_run_32 : decode cX8_run 32 = .ok (.iload_n 3, 1) := D_29 yB_cX8_run rfl rfl
theorem dX8_run_33 : decode cX8_run 33 = .ok (.ireturn, 1) := D_172 yB_cX8_run rfl rfl
theorem dX8_run_34 : decode cX8_run 34 = .ok (.iconst 0, 1) := D_3 yB_cX8_run rfl rfl
theorem dX8_run_35 : decode cX8_run 35 = .ok (.istore 4, 2) := D_54 yB_cX8_run rfl rfl rfl
theorem dX8_run_37 : decode cX8_run 37 = .ok (.iload 4, 2) := D_21 yB_cX8_run rfl rfl rfl
theorem dX8_run_39 : decode cX8_run 39 = .ok (.aload_n 0, 1) := D_42 yB_cX8_run rfl rfl
theorem dX8_run_40 : decode cX8_run 40 = .ok (.getfield 28, 3) := D_180 yB_cX8_run rfl rfl rfl
theorem dX8_run_43 : decode cX8_run 43 = .ok (.iload_n 1, 1) := D_27 yB_cX8_run rfl rfl
theorem dX8_run_44 : decode cX8_run 44 = .ok (.iaload, 1) := D_46 yB_cX8_run rfl rfl
theorem dX8_run_45 : decode cX8_run 45 = .ok (.if_icmp .ge 35, 3) := D_162 yB_cX8_run rfl rfl (sg_p (m := 32768) (N := 35) rfl rfl rfl)
theorem dX8_run_48 : decode cX8_run 48 = .ok (.aload_n 0, 1) := D_42 yB_cX8_run rfl rfl
theorem dX8_run_49 : decode cX8_run 49 = .ok (.getfield 31, 3) := D_180 yB_cX8_run rfl rfl rfl
theorem dX8_run_52 : decode cX8_run 52 = .ok (.bipush 100, 2) := D_16 yB_cX8_run rfl rfl (sg_p (m := 128) (N := 100) rfl rfl rfl)
theorem dX8_run_54 : decode cX8_run 54 = .ok (.iload_n 1, 1) := D_27 yB_cX8_run rfl rfl
theorem dX8_run_55 : decode cX8_run 55 = .ok (.imul, 1) := D_104 yB_cX8_run rfl rfl
theorem dX8_run_56 : decode cX8_run 56 = .ok (.iload 4, 2) := D_21 yB_cX8_run rfl rfl rfl
theorem dX8_run_58 : decode cX8_run 58 = .ok (.iadd, 1) := D_96 yB_cX8_run rfl rfl
theorem dX8_run_59 : decode cX8_run 59 = .ok (.iaload, 1) := D_46 yB_cX8_run rfl rfl
theorem dX8_run_60 : decode cX8_run 60 = .ok (.i2l, 1) := D_133 yB_cX8_run rfl rfl
theorem dX8_run_61 : decode cX8_run 61 = .ok (.lconst 0, 1) := D_9 yB_cX8_run rfl rfl
theorem dX8_run_62 : decode cX8_run 62 = .ok (.ldc2_w 219, 3) := D_20 yB_cX8_run rfl rfl rfl
theorem dX8_run_65 : decode cX8_run 65 = .ok (.invokestatic 53, 3) := D_184 yB_cX8_run rfl rfl rfl
theorem dX8_run_68 : decode cX8_run 68 = .ok (.ifCond .ne 6, 3) := D_154 yB_cX8_run rfl rfl (sg_p (m := 32768) (N := 6) rfl rfl rfl)
theorem dX8_run_71 : decode cX8_run 71 = .ok (.bipush (-13), 2) := D_16 yB_cX8_run rfl rfl (sg_n (m := 128) (N := 13) rfl rfl rfl)
theorem dX8_run_73 : decode cX8_run 73 = .ok (.ireturn, 1) := D_172 yB_cX8_run rfl rfl
theorem dX8_run_74 : decode cX8_run 74 = .ok (.iinc 4 1, 3) := D_132 yB_cX8_run rfl rfl rfl (sg_p (m := 128) (N := 1) rfl rfl rfl)
theorem dX8_run_77 : decode cX8_run 77 = .ok (.goto (-40), 3) := D_167 yB_cX8_run rfl rfl (sg_n (m := 32768) (N := 40) rfl rfl rfl)
theorem dX8_run_80 : decode cX8_run 80 = .ok (.aload_n 0, 1) := D_42 yB_cX8_run rfl rfl
theorem dX8_run_81 : decode cX8_run 81 = .ok (.invokevirtual 221, 3) := D_182 yB_cX8_run rfl rfl rfl
theorem dX8_run_84 : decode cX8_run 84 = .ok (.ifCond .eq 6, 3) := D_153 yB_cX8_run rfl rfl (sg_p (m := 32768) (N := 6) rfl rfl rfl)
theorem dX8_run_87 : decode cX8_run 87 = .ok (.bipush (-3), 2) := D_16 yB_cX8_run rfl rfl (sg_n (m := 128) (N := 3) rfl rfl rfl)
theorem dX8_run_89 : decode cX8_run 89 = .ok (.ireturn, 1) := D_172 yB_cX8_run rfl rfl
theorem dX8_run_90 : decode cX8_run 90 = .ok (.aload_n 0, 1) := D_42 yB_cX8_run rfl rfl
theorem dX8_run_91 : decode cX8_run 91 = .ok (.invokevirtual 244, 3) := D_182 yB_cX8_run rfl rfl rfl
theorem dX8_run_94 : decode cX8_run 94 = .ok (.iconst 0, 1) := D_3 yB_cX8_run rfl rfl
theorem dX8_run_95 : decode cX8_run 95 = .ok (.istore 4, 2) := D_54 yB_cX8_run rfl rfl rfl
theorem dX8_run_97 : decode cX8_run 97 = .ok (.iload 4, 2) := D_21 yB_cX8_run rfl rfl rfl
theorem dX8_run_99 : decode cX8_run 99 = .ok (.aload_n 0, 1) := D_42 yB_cX8_run rfl rfl
theorem dX8_run_100 : decode cX8_run 100 = .ok (.getfield 9, 3) := D_180 yB_cX8_run rfl rfl rfl
theorem dX8_run_103 : decode cX8_run 103 = .ok (.iconst 1, 1) := D_4 yB_cX8_run rfl rfl
theorem dX8_run_104 : decode cX8_run 104 = .ok (.iaload, 1) := D_46 yB_cX8_run rfl rfl
theorem dX8_run_105 : decode cX8_run 105 = .ok (.if_icmp .ge 43, 3) := D_162 yB_cX8_run rfl rfl (sg_p (m := 32768) (N := 43) rfl rfl rfl)
theorem dX8_run_108 : decode cX8_run 108 = .ok (.iload 4, 2) := D_21 yB_cX8_run rfl rfl rfl
theorem dX8_run_110 : decode cX8_run 110 = .ok (.aload_n 0, 1) := D_42 yB_cX8_run rfl rfl
theorem dX8_run_111 : decode cX8_run 111 = .ok (.getfield 28, 3) := D_180 yB_cX8_run rfl rfl rfl
theorem dX8_run_114 : decode cX8_run 114 = .ok (.iload_n 1, 1) := D_27 yB_cX8_run rfl rfl
theorem dX8_run_115 : decode cX8_run 115 = .ok (.iaload, 1) := D_46 yB_cX8_run rfl rfl
theorem dX8_run_116 : decode cX8_run 116 = .ok (.if_icmp .ge 32, 3) := D_162 yB_cX8_run rfl rfl (sg_p (m := 32768) (N := 32) rfl rfl rfl)
theorem dX8_run_119 : decode cX8_run 119 = .ok (.aload_n 0, 1) := D_42 yB_cX8_run rfl rfl
theorem dX8_run_120 : decode cX8_run 120 = .ok (.getfield 16, 3) := D_180 yB_cX8_run rfl rfl rfl
theorem dX8_run_123 : decode cX8_run 123 = .ok (.iload 4, 2) := D_21 yB_cX8_run rfl rfl rfl
theorem dX8_run_125 : decode cX8_run 125 = .ok (.bipush 10, 2) := D_16 yB_cX8_run rfl rfl (sg_p (m := 128) (N := 10) rfl rfl rfl)
theorem dX8_run_127 : decode cX8_run 127 = .ok (.aload_n 0, 1) := D_42 yB_cX8_run rfl rfl
theorem dX8_run_128 : decode cX8_run 128 = .ok (.getfield 31, 3) := D_180 yB_cX8_run rfl rfl rfl
theorem dX8_run_131 : decode cX8_run 131 = .ok (.bipush 100, 2) := D_16 yB_cX8_run rfl rfl (sg_p (m := 128) (N := 100) rfl rfl rfl)
theorem dX8_run_133 : decode cX8_run 133 = .ok (.iload_n 1, 1) := D_27 yB_cX8_run rfl rfl
theorem dX8_run_134 : decode cX8_run 134 = .ok (.imul, 1) := D_104 yB_cX8_run rfl rfl
theorem dX8_run_135 : decode cX8_run 135 = .ok (.iload 4, 2) := D_21 yB_cX8_run rfl rfl rfl
theorem dX8_run_137 : decode cX8_run 137 = .ok (.iadd, 1) := D_96 yB_cX8_run rfl rfl
theorem dX8_run_138 : decode cX8_run 138 = .ok (.iaload, 1) := D_46 yB_cX8_run rfl rfl
theorem dX8_run_139 : decode cX8_run 139 = .ok (.invokestatic 97, 3) := D_184 yB_cX8_run rfl rfl rfl
theorem dX8_run_142 : decode cX8_run 142 = .ok (.iinc 4 1, 3) := D_132 yB_cX8_run rfl rfl rfl (sg_p (m := 128) (N := 1) rfl rfl rfl)
theorem dX8_run_145 : decode cX8_run 145 = .ok (.goto (-48), 3) := D_167 yB_cX8_run rfl rfl (sg_n (m := 32768) (N := 48) rfl rfl rfl)
theorem dX8_run_148 : decode cX8_run 148 = .ok (.aload_n 0, 1) := D_42 yB_cX8_run rfl rfl
theorem dX8_run_149 : decode cX8_run 149 = .ok (.invokevirtual 247, 3) := D_182 yB_cX8_run rfl rfl rfl
theorem dX8_run_152 : decode cX8_run 152 = .ok (.istore 4, 2) := D_54 yB_cX8_run rfl rfl rfl
theorem dX8_run_154 : decode cX8_run 154 = .ok (.iload_n 2, 1) := D_28 yB_cX8_run rfl rfl
theorem dX8_run_155 : decode cX8_run 155 = .ok (.tableswitch 59 0 3 #[29, 32, 42, 52], 29) := by decide +kernel
theorem dX8_run_184 : decode cX8_run 184 = .ok (.iload 4, 2) := D_21 yB_cX8_run rfl rfl rfl
theorem dX8_run_186 : decode cX8_run 186 = .ok (.ireturn, 1) := D_172 yB_cX8_run rfl rfl
theorem dX8_run_187 : decode cX8_run 187 = .ok (.aload_n 0, 1) := D_42 yB_cX8_run rfl rfl
theorem dX8_run_188 : decode cX8_run 188 = .ok (.getfield 16, 3) := D_180 yB_cX8_run rfl rfl rfl
theorem dX8_run_191 : decode cX8_run 191 = .ok (.bipush 8, 2) := D_16 yB_cX8_run rfl rfl (sg_p (m := 128) (N := 8) rfl rfl rfl)
theorem dX8_run_193 : decode cX8_run 193 = .ok (.invokestatic 235, 3) := D_184 yB_cX8_run rfl rfl rfl
theorem dX8_run_196 : decode cX8_run 196 = .ok (.ireturn, 1) := D_172 yB_cX8_run rfl rfl
theorem dX8_run_197 : decode cX8_run 197 = .ok (.aload_n 0, 1) := D_42 yB_cX8_run rfl rfl
theorem dX8_run_198 : decode cX8_run 198 = .ok (.getfield 16, 3) := D_180 yB_cX8_run rfl rfl rfl
theorem dX8_run_201 : decode cX8_run 201 = .ok (.bipush 9, 2) := D_16 yB_cX8_run rfl rfl (sg_p (m := 128) (N := 9) rfl rfl rfl)
theorem dX8_run_203 : decode cX8_run 203 = .ok (.invokestatic 235, 3) := D_184 yB_cX8_run rfl rfl rfl
theorem dX8_run_206 : decode cX8_run 206 = .ok (.ireturn, 1) := D_172 yB_cX8_run rfl rfl
theorem dX8_run_207 : decode cX8_run 207 = .ok (.aload_n 0, 1) := D_42 yB_cX8_run rfl rfl
theorem dX8_run_208 : decode cX8_run 208 = .ok (.getfield 16, 3) := D_180 yB_cX8_run rfl rfl rfl
theorem dX8_run_211 : decode cX8_run 211 = .ok (.iconst 2, 1) := D_5 yB_cX8_run rfl rfl
theorem dX8_run_212 : decode cX8_run 212 = .ok (.iaload, 1) := D_46 yB_cX8_run rfl rfl
theorem dX8_run_213 : decode cX8_run 213 = .ok (.ireturn, 1) := D_172 yB_cX8_run rfl rfl
theorem dX8_run_214 : decode cX8_run 214 = .ok (.aload_n 0, 1) := D_42 yB_cX8_run rfl rfl
theorem dX8_run_215 : decode cX8_run 215 = .ok (.getfield 16, 3) := D_180 yB_cX8_run rfl rfl rfl
theorem dX8_run_218 : decode cX8_run 218 = .ok (.invokestatic 215, 3) := D_184 yB_cX8_run rfl rfl rfl
theorem dX8_run_221 : decode cX8_run 221 = .ok (.ifCond .eq 7, 3) := D_153 yB_cX8_run rfl rfl (sg_p (m := 32768) (N := 7) rfl rfl rfl)
theorem dX8_run_224 : decode cX8_run 224 = .ok (.iconst 1, 1) := D_4 yB_cX8_run rfl rfl
theorem dX8_run_225 : decode cX8_run 225 = .ok (.goto 4, 3) := D_167 yB_cX8_run rfl rfl (sg_p (m := 32768) (N := 4) rfl rfl rfl)
theorem dX8_run_228 : decode cX8_run 228 = .ok (.iconst 0, 1) := D_3 yB_cX8_run rfl rfl
theorem dX8_run_229 : decode cX8_run 229 = .ok (.ireturn, 1) := D_172 yB_cX8_run rfl rfl
def F_X8_run_97 (x1 : Int32) (x2 : Int32)  : Nat → Mem → Int32 → Int32 → Option (Mem × Int32)
  | 0, _, _, _ => none
  | nn + 1, σ, v4, v3 => if (σ 92 1) ≤ v4 then (bd2 (F_X8_costs σ ) fun σ_15 r_16 => if x2 = 0 then (some (σ_15, r_16)) else (if x2 = 1 then ((F_X8_allOf σ_15 94 8).bind fun r_22 => some (σ_15, r_22)) else (if x2 = 2 then ((F_X8_allOf σ_15 94 9).bind fun r_24 => some (σ_15, r_24)) else (if x2 = 3 then (some (σ_15, (σ_15 94 2))) else ((F_X8_stands σ_15 94).bind fun r_18 => if r_18 = 0 then (some (σ_15, 0)) else (some (σ_15, 1))))))) else ((ix 8 x1).bind fun k_26 => if (σ 98 k_26) ≤ v4 then (bd2 (F_X8_costs σ ) fun σ_28 r_29 => if x2 = 0 then (some (σ_28, r_29)) else (if x2 = 1 then ((F_X8_allOf σ_28 94 8).bind fun r_35 => some (σ_28, r_35)) else (if x2 = 2 then ((F_X8_allOf σ_28 94 9).bind fun r_37 => some (σ_28, r_37)) else (if x2 = 3 then (some (σ_28, (σ_28 94 2))) else ((F_X8_stands σ_28 94).bind fun r_31 => if r_31 = 0 then (some (σ_28, 0)) else (some (σ_28, 1))))))) else ((ix 800 ((100 * x1) + v4)).bind fun k_39 => (F_X8_puts σ 94 v4 10 (σ 99 k_39)).bind fun σ_40 => F_X8_run_97 x1 x2 nn σ_40 (v4 + 1) v3))
def F_X8_run_37 (x1 : Int32) (x2 : Int32)  : Nat → Mem → Int32 → Int32 → Option (Mem × Int32)
  | 0, _, _, _ => none
  | nn + 1, σ, v4, v3 => (ix 8 x1).bind fun k_8 => if (σ 98 k_8) ≤ v4 then ((F_X8_isEmpty σ ).bind fun r_10 => if r_10 = 0 then ((F_X8_opens σ ).bind fun σ_12 => F_X8_run_97 x1 x2 FU σ_12 0 v3) else (some (σ, (-3)))) else ((ix 800 ((100 * x1) + v4)).bind fun k_41 => if (σ 99 k_41) < 0 ∨ 200 < (σ 99 k_41) then (some (σ, (-13))) else (F_X8_run_37 x1 x2 nn σ (v4 + 1) v3))
def F_X8_run (σ : Mem) (x1 : Int32) (x2 : Int32) : Option (Mem × Int32) := (F_X8_isShelf σ x1).bind fun r_1 => if r_1 = 0 then (some (σ, (-1))) else (if x2 < 0 ∨ 4 < x2 then (some (σ, (-1))) else ((F_X8_wrongRow σ x1 (-1)).bind fun r_5 => if r_5 = 0 then (F_X8_run_37 x1 x2 FU σ 0 r_5) else (some (σ, r_5))))
set_option maxHeartbeats 4000000 in
set_option maxRecDepth 100000 in
theorem c_X8_run (l : Launch) (D : va_G) (cA : Nat → ClassId) (ad : Nat → Nat) (o : Int64) (σ : Mem) (x1 : Int32) (x2 : Int32)  (res : Mem × Int32) (h : F_X8_run σ x1 x2 = some res) (sz : Nat) : Met l yX8_run (WY yX8_run cX8_run 5 (some .int)) (RM 9) (va_Pc [.ref (ad 91), .int x1, .int x2] (PW D cA ad o σ sz)) (va_Qi (fun r σ9 => r = res.2 ∧ σ9 = res.1) (QW D cA ad o) (FA ad sz)) 0 0 (FA ad sz) := by
  refine ct_of (own := RX8) (k := 9) (Qf := va_Qi (fun r σ9 => r = res.2 ∧ σ9 = res.1) (QW D cA ad o)) rfl (by decide) (Nat.le_of_ble_eq_true rfl) (fun p e s m below meth c ls C0 X hr hlk hP hl => ?_) sz
  have hS : va_S (FA ad s.heap.size) s.heap s.heap [] := va_S.rf
  have hl : lv_has ls 5 [(0, .ref (ad 91)), (1, .int x1), (2, .int x2)] := hl
  obtain ⟨hx, hb, hml, hown, hts⟩ := id C0
  unfold F_X8_run at h
  refine lv_iload_n hx hb dX8_run_0 rfl (lv_at hl 1 rfl) ?_
  obtain ⟨r_1, er_1, h⟩ := bnd h
  refine r_ci X hS (r_runS (As := [.int x1]) (rest := []) C0 X hP L_X8_105 (fun sz => c_X8_isShelf l D cA ad o σ x1  r_1 er_1 sz) ⟨Nat.le_of_ble_eq_true rfl, Nat.le_of_ble_eq_true rfl⟩ rfl hl.1 rfl (Nat.le_of_ble_eq_true rfl) dX8_run_1 ⟨Nat.zero_le _, Nat.zero_le _⟩) (fun r9 σ9 H locs hw hP hS => ?_)
  rw [hw.2] at hP
  rw [hw.1]
  refine lv_if_eq (tgt := 19) hx hb dX8_run_4 (by decide) (fun c_2 => ?_) (fun c_2 => ?_)
  · replace h := it_t h c_2
    refine lv_iconst (v := (-1)) hx hb dX8_run_19 (by decide) ?_
    exact r_iret C0 X hP hS hr hlk dX8_run_20 (rt2 h)
  · replace h := it_f h c_2
    refine lv_iload_n hx hb dX8_run_7 rfl (lv_at hl 2 rfl) ?_
    refine lv_i2l (v := (x2.toInt64)) hx hb dX8_run_8 rfl ?_
    refine lv_lconst (v := ((0 : Int32).toInt64)) hx hb dX8_run_9 (by decide) ?_
    refine lv_ldc2 (own := RX8) (index := 242) (v := 4) hx hb hown (hts _ (tmc sb6_3 6 rfl (by decide +kernel))) dX8_run_10 ?_
    refine lv_topEl (y := ((4 : Int32).toInt64)) (by decide) ?_
    refine r_ci X hS (r_runS (As := [.long (x2.toInt64), .long ((0 : Int32).toInt64), .long ((4 : Int32).toInt64)]) (rest := []) C0 X hP L_X8_53 (fun sz => c_X8_isIn l D cA ad o σ x2 0 4 sz) ⟨Nat.le_of_ble_eq_true rfl, Nat.le_of_ble_eq_true rfl⟩ rfl hl.1 rfl (Nat.le_of_ble_eq_true rfl) dX8_run_13 ⟨Nat.zero_le _, Nat.zero_le _⟩) (fun r9 σ9 H locs hw hP hS => ?_)
    rw [hw.2] at hP
    obtain ⟨⟨b_3, rfl⟩ | ⟨b_3, rfl⟩, -⟩ := hw
    · replace h := it_f h (inn b_3)
      refine lv_if_ne (tgt := 21) hx hb dX8_run_16 (by decide) (fun _ => ?_) (fun c_4 => absurd c_4 (by decide))
      refine lv_aload_n hx hb dX8_run_21 rfl (lv_at hl 0 rfl) ?_
      refine lv_iload_n hx hb dX8_run_22 rfl (lv_at hl 1 rfl) ?_
      refine lv_iconst (v := (-1)) hx hb dX8_run_23 (by decide) ?_
      obtain ⟨r_5, er_5, h⟩ := bnd h
      refine r_ci X hS (r_runV (As := [.int x1, .int (-1)]) (rest := []) C0 X hP L_X8_108 (fun sz => c_X8_wrongRow l D cA ad o σ x1 (-1)  r_5 er_5 sz) (show 91 < 106 ∧ kd 91 = (8, 24) from ⟨by decide, rfl⟩).1 (show 91 < 106 ∧ kd 91 = (8, 24) from ⟨by decide, rfl⟩).2 (by decide) rfl ⟨Nat.le_of_ble_eq_true rfl, Nat.le_of_ble_eq_true rfl⟩ rfl hl.1 rfl (Nat.le_of_ble_eq_true rfl) dX8_run_24 ⟨Nat.zero_le _, Nat.zero_le _⟩) (fun r9 σ9 H locs hw hP hS => ?_)
      rw [hw.2] at hP
      rw [hw.1]
      refine lv_istore_n (lv' := [(3, .int r_5), (0, .ref (ad 91)), (1, .int x1), (2, .int x2)]) hx hb dX8_run_27 rfl hl (by decide) rfl (fun ls hl => ?_)
      refine lv_iload_n hx hb dX8_run_28 rfl (lv_at hl 0 rfl) ?_
      refine lv_if_eq (tgt := 34) hx hb dX8_run_29 (by decide) (fun c_6 => ?_) (fun c_6 => ?_)
      · replace h := it_t h c_6
        refine lv_iconst (v := 0) hx hb dX8_run_34 (by decide) ?_
        refine lv_istore (lv' := [(4, .int 0), (3, .int r_5), (0, .ref (ad 91)), (1, .int x1), (2, .int x2)]) hx hb dX8_run_35 hl (by decide) rfl (fun ls hl => ?_)
        have lp_7 : ∀ (nn37 : Nat) (σ : Mem) (v4 : Int32) (v3 : Int32) (H : Heap) (locs : List Loc) (ls : Array Slot), F_X8_run_37 x1 x2 nn37 σ v4 v3 = some res → WP D cA ad o σ H → va_S (FA ad s.heap.size) s.heap H locs → lv_has ls 5 [(4, .int v4), (3, .int v3), (0, .ref (ad 91)), (1, .int x1), (2, .int x2)] → W p l e (RM 9) s m ([.ref (ad 91), .int x1, .int x2] : List Value).toArray below meth c H locs 0 0 (MQ below (va_Qi (fun r σ9 => r = res.2 ∧ σ9 = res.1) (QW D cA ad o) (FA ad s.heap.size)) ([.ref (ad 91), .int x1, .int x2] : List Value).toArray s 0 0 (FA ad s.heap.size)) (F0 m 37 ls []) := by
          intro nn37
          induction nn37 with
          | zero => intro σ v4 v3 H locs ls h hP hS hl; exact absurd (show none = some res from h) nofun
          | succ nn37 ih37 =>
            intro σ v4 v3 H locs ls h hP hS hl
            replace h := (F_X8_run_37.eq_2 _ _ _ _ _ _).symm.trans h
            refine lv_iload hx hb dX8_run_37 (lv_at hl 0 rfl) ?_
            refine lv_aload_n hx hb dX8_run_39 rfl (lv_at hl 2 rfl) ?_
            refine gf_X8_28 C0 X hP 91 (q := 98) ⟨by decide, rfl⟩ (by omega) rfl dX8_run_40 ?_
            refine lv_iload_n hx hb dX8_run_43 rfl (lv_at hl 3 rfl) ?_
            obtain ⟨k_8, ek_8, h⟩ := bnd h
            replace ek_8 := ix_s ek_8 (by decide)
            refine r_ialdN C0 X hP 98 (k := k_8) ⟨by decide, rfl⟩ ek_8.1 ek_8.2 dX8_run_44 ?_
            refine lv_icmp_ge (tgt := 80) hx hb dX8_run_45 (by decide) (fun c_9 => ?_) (fun c_9 => ?_)
            · replace h := it_t h c_9
              refine lv_aload_n hx hb dX8_run_80 rfl (lv_at hl 2 rfl) ?_
              obtain ⟨r_10, er_10, h⟩ := bnd h
              refine r_ci X hS (r_runV (As := []) (rest := []) C0 X hP L_X8_221 (fun sz => c_X8_isEmpty l D cA ad o σ   r_10 er_10 sz) (show 91 < 106 ∧ kd 91 = (8, 24) from ⟨by decide, rfl⟩).1 (show 91 < 106 ∧ kd 91 = (8, 24) from ⟨by decide, rfl⟩).2 (by decide) rfl ⟨Nat.le_of_ble_eq_true rfl, Nat.le_of_ble_eq_true rfl⟩ rfl hl.1 rfl (Nat.le_of_ble_eq_true rfl) dX8_run_81 ⟨Nat.zero_le _, Nat.zero_le _⟩) (fun r9 σ9 H locs hw hP hS => ?_)
              rw [hw.2] at hP
              rw [hw.1]
              refine lv_if_eq (tgt := 90) hx hb dX8_run_84 (by decide) (fun c_11 => ?_) (fun c_11 => ?_)
              · replace h := it_t h c_11
                refine lv_aload_n hx hb dX8_run_90 rfl (lv_at hl 2 rfl) ?_
                obtain ⟨σ_12, eσ_12, h⟩ := bnd h
                refine r_cv X hS (r_runV (As := []) (rest := []) C0 X hP L_X8_244 (fun sz => c_X8_opens l D cA ad o σ   σ_12 eσ_12 sz) (show 91 < 106 ∧ kd 91 = (8, 24) from ⟨by decide, rfl⟩).1 (show 91 < 106 ∧ kd 91 = (8, 24) from ⟨by decide, rfl⟩).2 (by decide) rfl ⟨Nat.le_of_ble_eq_true rfl, Nat.le_of_ble_eq_true rfl⟩ rfl hl.1 rfl (Nat.le_of_ble_eq_true rfl) dX8_run_91 ⟨Nat.zero_le _, Nat.zero_le _⟩) (fun σ9 H locs hw hP hS => ?_)
                rw [show σ9 = σ_12 from hw] at hP
                refine lv_iconst (v := 0) hx hb dX8_run_94 (by decide) ?_
                refine lv_istore (lv' := [(4, .int 0), (3, .int v3), (0, .ref (ad 91)), (1, .int x1), (2, .int x2)]) hx hb dX8_run_95 hl (by decide) rfl (fun ls hl => ?_)
                have lp_13 : ∀ (nn97 : Nat) (σ : Mem) (v4 : Int32) (v3 : Int32) (H : Heap) (locs : List Loc) (ls : Array Slot), F_X8_run_97 x1 x2 nn97 σ v4 v3 = some res → WP D cA ad o σ H → va_S (FA ad s.heap.size) s.heap H locs → lv_has ls 5 [(4, .int v4), (3, .int v3), (0, .ref (ad 91)), (1, .int x1), (2, .int x2)] → W p l e (RM 9) s m ([.ref (ad 91), .int x1, .int x2] : List Value).toArray below meth c H locs 0 0 (MQ below (va_Qi (fun r σ9 => r = res.2 ∧ σ9 = res.1) (QW D cA ad o) (FA ad s.heap.size)) ([.ref (ad 91), .int x1, .int x2] : List Value).toArray s 0 0 (FA ad s.heap.size)) (F0 m 97 ls []) := by
                  intro nn97
                  induction nn97 with
                  | zero => intro σ v4 v3 H locs ls h hP hS hl; exact absurd (show none = some res from h) nofun
                  | succ nn97 ih97 =>
                    intro σ v4 v3 H locs ls h hP hS hl
                    replace h := (F_X8_run_97.eq_2 _ _ _ _ _ _).symm.trans h
                    refine lv_iload hx hb dX8_run_97 (lv_at hl 0 rfl) ?_
                    refine lv_aload_n hx hb dX8_run_99 rfl (lv_at hl 2 rfl) ?_
                    refine gf_X8_9 C0 X hP 91 (q := 92) ⟨by decide, rfl⟩ (by omega) rfl dX8_run_100 ?_
                    refine lv_iconst (v := 1) hx hb dX8_run_103 (by decide) ?_
                    refine r_ialdN C0 X hP 92 (k := 1) ⟨by decide, rfl⟩ rfl (by decide) dX8_run_104 ?_
                    refine lv_icmp_ge (tgt := 148) hx hb dX8_run_105 (by decide) (fun c_14 => ?_) (fun c_14 => ?_)
                    · replace h := it_t h c_14
                      refine lv_aload_n hx hb dX8_run_148 rfl (lv_at hl 2 rfl) ?_
                      obtain ⟨σ_15, r_16, eσ_15, h⟩ := bnd2 h
                      refine r_ci X hS (r_runV (As := []) (rest := []) C0 X hP L_X8_247 (fun sz => c_X8_costs l D cA ad o σ   (σ_15, r_16) eσ_15 sz) (show 91 < 106 ∧ kd 91 = (8, 24) from ⟨by decide, rfl⟩).1 (show 91 < 106 ∧ kd 91 = (8, 24) from ⟨by decide, rfl⟩).2 (by decide) rfl ⟨Nat.le_of_ble_eq_true rfl, Nat.le_of_ble_eq_true rfl⟩ rfl hl.1 rfl (Nat.le_of_ble_eq_true rfl) dX8_run_149 ⟨Nat.zero_le _, Nat.zero_le _⟩) (fun r9 σ9 H locs hw hP hS => ?_)
                      rw [show σ9 = σ_15 from hw.2] at hP
                      rw [show r9 = r_16 from hw.1]
                      refine lv_istore (lv' := [(4, .int r_16), (3, .int v3), (0, .ref (ad 91)), (1, .int x1), (2, .int x2)]) hx hb dX8_run_152 hl (by decide) rfl (fun ls hl => ?_)
                      refine lv_iload_n hx hb dX8_run_154 rfl (lv_at hl 4 rfl) ?_
                      rcases sw_in (x := x2) (lo := 0) (n := 4) with c_17 | ⟨j, hj, c_17⟩
                      · replace h := it_f h (sw_ne (v := 0) c_17 (by decide))
                        replace h := it_f h (sw_ne (v := 1) c_17 (by decide))
                        replace h := it_f h (sw_ne (v := 2) c_17 (by decide))
                        replace h := it_f h (sw_ne (v := 3) c_17 (by decide))
                        refine lv_tableOut (tgt := 214) hx hb dX8_run_155 (by omega) (by decide) ?_
                        refine lv_aload_n hx hb dX8_run_214 rfl (lv_at hl 2 rfl) ?_
                        refine gf_X8_16 C0 X hP 91 (q := 94) ⟨by decide, rfl⟩ (by omega) rfl dX8_run_215 ?_
                        obtain ⟨r_18, er_18, h⟩ := bnd h
                        refine r_ci X hS (r_runS (As := [.ref (ad 94)]) (rest := []) C0 X hP L_X8_215 (fun sz => c_X8_stands l D cA ad o σ_15 94 ⟨by decide, rfl⟩ r_18 er_18 sz) ⟨Nat.le_of_ble_eq_true rfl, Nat.le_of_ble_eq_true rfl⟩ rfl hl.1 rfl (Nat.le_of_ble_eq_true rfl) dX8_run_218 ⟨Nat.zero_le _, Nat.zero_le _⟩) (fun r9 σ9 H locs hw hP hS => ?_)
                        rw [hw.2] at hP
                        rw [hw.1]
                        refine lv_if_eq (tgt := 228) hx hb dX8_run_221 (by decide) (fun c_19 => ?_) (fun c_19 => ?_)
                        · replace h := it_t h c_19
                          refine lv_iconst (v := 0) hx hb dX8_run_228 (by decide) ?_
                          exact r_iret C0 X hP hS hr hlk dX8_run_229 (rt2 h)
                        · replace h := it_f h c_19
                          refine lv_iconst (v := 1) hx hb dX8_run_224 (by decide) ?_
                          refine lv_goto (tgt := 229) hx hb dX8_run_225 (by decide) ?_
                          exact r_iret C0 X hP hS hr hlk dX8_run_229 (rt2 h)
                      · rcases (show j = 0 ∨ j = 1 ∨ j = 2 ∨ j = 3 by omega) with rfl | rfl | rfl | rfl
                        · have e_20 : x2 = 0 := sw_eq c_17 (by decide)
                          replace h := it_t h e_20
                          refine lv_tableIn (off := 29) (tgt := 184) hx hb dX8_run_155 (by rw [e_20]; decide) (by rw [e_20]; decide) (by rw [e_20]; rfl) (by decide) ?_
                          refine lv_iload hx hb dX8_run_184 (lv_at hl 0 rfl) ?_
                          exact r_iret C0 X hP hS hr hlk dX8_run_186 (rt2 h)
                        · have e_21 : x2 = 1 := sw_eq c_17 (by decide)
                          replace h := it_f h (show ¬ x2 = 0 by rw [e_21]; decide)
                          replace h := it_t h e_21
                          refine lv_tableIn (off := 32) (tgt := 187) hx hb dX8_run_155 (by rw [e_21]; decide) (by rw [e_21]; decide) (by rw [e_21]; rfl) (by decide) ?_
                          refine lv_aload_n hx hb dX8_run_187 rfl (lv_at hl 2 rfl) ?_
                          refine gf_X8_16 C0 X hP 91 (q := 94) ⟨by decide, rfl⟩ (by omega) rfl dX8_run_188 ?_
                          refine lv_bipush (v := 8) hx hb dX8_run_191 (by decide) ?_
                          obtain ⟨r_22, er_22, h⟩ := bnd h
                          refine r_ci X hS (r_runS (As := [.ref (ad 94), .int 8]) (rest := []) C0 X hP L_X8_235 (fun sz => c_X8_allOf l D cA ad o σ_15 94 8 ⟨by decide, rfl⟩ r_22 er_22 sz) ⟨Nat.le_of_ble_eq_true rfl, Nat.le_of_ble_eq_true rfl⟩ rfl hl.1 rfl (Nat.le_of_ble_eq_true rfl) dX8_run_193 ⟨Nat.zero_le _, Nat.zero_le _⟩) (fun r9 σ9 H locs hw hP hS => ?_)
                          rw [hw.2] at hP
                          rw [hw.1]
                          exact r_iret C0 X hP hS hr hlk dX8_run_196 (rt2 h)
                        · have e_23 : x2 = 2 := sw_eq c_17 (by decide)
                          replace h := it_f h (show ¬ x2 = 0 by rw [e_23]; decide)
                          replace h := it_f h (show ¬ x2 = 1 by rw [e_23]; decide)
                          replace h := it_t h e_23
                          refine lv_tableIn (off := 42) (tgt := 197) hx hb dX8_run_155 (by rw [e_23]; decide) (by rw [e_23]; decide) (by rw [e_23]; rfl) (by decide) ?_
                          refine lv_aload_n hx hb dX8_run_197 rfl (lv_at hl 2 rfl) ?_
                          refine gf_X8_16 C0 X hP 91 (q := 94) ⟨by decide, rfl⟩ (by omega) rfl dX8_run_198 ?_
                          refine lv_bipush (v := 9) hx hb dX8_run_201 (by decide) ?_
                          obtain ⟨r_24, er_24, h⟩ := bnd h
                          refine r_ci X hS (r_runS (As := [.ref (ad 94), .int 9]) (rest := []) C0 X hP L_X8_235 (fun sz => c_X8_allOf l D cA ad o σ_15 94 9 ⟨by decide, rfl⟩ r_24 er_24 sz) ⟨Nat.le_of_ble_eq_true rfl, Nat.le_of_ble_eq_true rfl⟩ rfl hl.1 rfl (Nat.le_of_ble_eq_true rfl) dX8_run_203 ⟨Nat.zero_le _, Nat.zero_le _⟩) (fun r9 σ9 H locs hw hP hS => ?_)
                          rw [hw.2] at hP
                          rw [hw.1]
                          exact r_iret C0 X hP hS hr hlk dX8_run_206 (rt2 h)
                        · have e_25 : x2 = 3 := sw_eq c_17 (by decide)
                          replace h := it_f h (show ¬ x2 = 0 by rw [e_25]; decide)
                          replace h := it_f h (show ¬ x2 = 1 by rw [e_25]; decide)
                          replace h := it_f h (show ¬ x2 = 2 by rw [e_25]; decide)
                          replace h := it_t h e_25
                          refine lv_tableIn (off := 52) (tgt := 207) hx hb dX8_run_155 (by rw [e_25]; decide) (by rw [e_25]; decide) (by rw [e_25]; rfl) (by decide) ?_
                          refine lv_aload_n hx hb dX8_run_207 rfl (lv_at hl 2 rfl) ?_
                          refine gf_X8_16 C0 X hP 91 (q := 94) ⟨by decide, rfl⟩ (by omega) rfl dX8_run_208 ?_
                          refine lv_iconst (v := 2) hx hb dX8_run_211 (by decide) ?_
                          refine r_ialdN C0 X hP 94 (k := 2) ⟨by decide, rfl⟩ rfl (by decide) dX8_run_212 ?_
                          exact r_iret C0 X hP hS hr hlk dX8_run_213 (rt2 h)
                    · replace h := it_f h c_14
                      refine lv_iload hx hb dX8_run_108 (lv_at hl 0 rfl) ?_
                      refine lv_aload_n hx hb dX8_run_110 rfl (lv_at hl 2 rfl) ?_
                      refine gf_X8_28 C0 X hP 91 (q := 98) ⟨by decide, rfl⟩ (by omega) rfl dX8_run_111 ?_
                      refine lv_iload_n hx hb dX8_run_114 rfl (lv_at hl 3 rfl) ?_
                      obtain ⟨k_26, ek_26, h⟩ := bnd h
                      replace ek_26 := ix_s ek_26 (by decide)
                      refine r_ialdN C0 X hP 98 (k := k_26) ⟨by decide, rfl⟩ ek_26.1 ek_26.2 dX8_run_115 ?_
                      refine lv_icmp_ge (tgt := 148) hx hb dX8_run_116 (by decide) (fun c_27 => ?_) (fun c_27 => ?_)
                      · replace h := it_t h c_27
                        refine lv_aload_n hx hb dX8_run_148 rfl (lv_at hl 2 rfl) ?_
                        obtain ⟨σ_28, r_29, eσ_28, h⟩ := bnd2 h
                        refine r_ci X hS (r_runV (As := []) (rest := []) C0 X hP L_X8_247 (fun sz => c_X8_costs l D cA ad o σ   (σ_28, r_29) eσ_28 sz) (show 91 < 106 ∧ kd 91 = (8, 24) from ⟨by decide, rfl⟩).1 (show 91 < 106 ∧ kd 91 = (8, 24) from ⟨by decide, rfl⟩).2 (by decide) rfl ⟨Nat.le_of_ble_eq_true rfl, Nat.le_of_ble_eq_true rfl⟩ rfl hl.1 rfl (Nat.le_of_ble_eq_true rfl) dX8_run_149 ⟨Nat.zero_le _, Nat.zero_le _⟩) (fun r9 σ9 H locs hw hP hS => ?_)
                        rw [show σ9 = σ_28 from hw.2] at hP
                        rw [show r9 = r_29 from hw.1]
                        refine lv_istore (lv' := [(4, .int r_29), (3, .int v3), (0, .ref (ad 91)), (1, .int x1), (2, .int x2)]) hx hb dX8_run_152 hl (by decide) rfl (fun ls hl => ?_)
                        refine lv_iload_n hx hb dX8_run_154 rfl (lv_at hl 4 rfl) ?_
                        rcases sw_in (x := x2) (lo := 0) (n := 4) with c_30 | ⟨j, hj, c_30⟩
                        · replace h := it_f h (sw_ne (v := 0) c_30 (by decide))
                          replace h := it_f h (sw_ne (v := 1) c_30 (by decide))
                          replace h := it_f h (sw_ne (v := 2) c_30 (by decide))
                          replace h := it_f h (sw_ne (v := 3) c_30 (by decide))
                          refine lv_tableOut (tgt := 214) hx hb dX8_run_155 (by omega) (by decide) ?_
                          refine lv_aload_n hx hb dX8_run_214 rfl (lv_at hl 2 rfl) ?_
                          refine gf_X8_16 C0 X hP 91 (q := 94) ⟨by decide, rfl⟩ (by omega) rfl dX8_run_215 ?_
                          obtain ⟨r_31, er_31, h⟩ := bnd h
                          refine r_ci X hS (r_runS (As := [.ref (ad 94)]) (rest := []) C0 X hP L_X8_215 (fun sz => c_X8_stands l D cA ad o σ_28 94 ⟨by decide, rfl⟩ r_31 er_31 sz) ⟨Nat.le_of_ble_eq_true rfl, Nat.le_of_ble_eq_true rfl⟩ rfl hl.1 rfl (Nat.le_of_ble_eq_true rfl) dX8_run_218 ⟨Nat.zero_le _, Nat.zero_le _⟩) (fun r9 σ9 H locs hw hP hS => ?_)
                          rw [hw.2] at hP
                          rw [hw.1]
                          refine lv_if_eq (tgt := 228) hx hb dX8_run_221 (by decide) (fun c_32 => ?_) (fun c_32 => ?_)
                          · replace h := it_t h c_32
                            refine lv_iconst (v := 0) hx hb dX8_run_228 (by decide) ?_
                            exact r_iret C0 X hP hS hr hlk dX8_run_229 (rt2 h)
                          · replace h := it_f h c_32
                            refine lv_iconst (v := 1) hx hb dX8_run_224 (by decide) ?_
                            refine lv_goto (tgt := 229) hx hb dX8_run_225 (by decide) ?_
                            exact r_iret C0 X hP hS hr hlk dX8_run_229 (rt2 h)
                        · rcases (show j = 0 ∨ j = 1 ∨ j = 2 ∨ j = 3 by omega) with rfl | rfl | rfl | rfl
                          · have e_33 : x2 = 0 := sw_eq c_30 (by decide)
                            replace h := it_t h e_33
                            refine lv_tableIn (off := 29) (tgt := 184) hx hb dX8_run_155 (by rw [e_33]; decide) (by rw [e_33]; decide) (by rw [e_33]; rfl) (by decide) ?_
                            refine lv_iload hx hb dX8_run_184 (lv_at hl 0 rfl) ?_
                            exact r_iret C0 X hP hS hr hlk dX8_run_186 (rt2 h)
                          · have e_34 : x2 = 1 := sw_eq c_30 (by decide)
                            replace h := it_f h (show ¬ x2 = 0 by rw [e_34]; decide)
                            replace h := it_t h e_34
                            refine lv_tableIn (off := 32) (tgt := 187) hx hb dX8_run_155 (by rw [e_34]; decide) (by rw [e_34]; decide) (by rw [e_34]; rfl) (by decide) ?_
                            refine lv_aload_n hx hb dX8_run_187 rfl (lv_at hl 2 rfl) ?_
                            refine gf_X8_16 C0 X hP 91 (q := 94) ⟨by decide, rfl⟩ (by omega) rfl dX8_run_188 ?_
                            refine lv_bipush (v := 8) hx hb dX8_run_191 (by decide) ?_
                            obtain ⟨r_35, er_35, h⟩ := bnd h
                            refine r_ci X hS (r_runS (As := [.ref (ad 94), .int 8]) (rest := []) C0 X hP L_X8_235 (fun sz => c_X8_allOf l D cA ad o σ_28 94 8 ⟨by decide, rfl⟩ r_35 er_35 sz) ⟨Nat.le_of_ble_eq_true rfl, Nat.le_of_ble_eq_true rfl⟩ rfl hl.1 rfl (Nat.le_of_ble_eq_true rfl) dX8_run_193 ⟨Nat.zero_le _, Nat.zero_le _⟩) (fun r9 σ9 H locs hw hP hS => ?_)
                            rw [hw.2] at hP
                            rw [hw.1]
                            exact r_iret C0 X hP hS hr hlk dX8_run_196 (rt2 h)
                          · have e_36 : x2 = 2 := sw_eq c_30 (by decide)
                            replace h := it_f h (show ¬ x2 = 0 by rw [e_36]; decide)
                            replace h := it_f h (show ¬ x2 = 1 by rw [e_36]; decide)
                            replace h := it_t h e_36
                            refine lv_tableIn (off := 42) (tgt := 197) hx hb dX8_run_155 (by rw [e_36]; decide) (by rw [e_36]; decide) (by rw [e_36]; rfl) (by decide) ?_
                            refine lv_aload_n hx hb dX8_run_197 rfl (lv_at hl 2 rfl) ?_
                            refine gf_X8_16 C0 X hP 91 (q := 94) ⟨by decide, rfl⟩ (by omega) rfl dX8_run_198 ?_
                            refine lv_bipush (v := 9) hx hb dX8_run_201 (by decide) ?_
                            obtain ⟨r_37, er_37, h⟩ := bnd h
                            refine r_ci X hS (r_runS (As := [.ref (ad 94), .int 9]) (rest := []) C0 X hP L_X8_235 (fun sz => c_X8_allOf l D cA ad o σ_28 94 9 ⟨by decide, rfl⟩ r_37 er_37 sz) ⟨Nat.le_of_ble_eq_true rfl, Nat.le_of_ble_eq_true rfl⟩ rfl hl.1 rfl (Nat.le_of_ble_eq_true rfl) dX8_run_203 ⟨Nat.zero_le _, Nat.zero_le _⟩) (fun r9 σ9 H locs hw hP hS => ?_)
                            rw [hw.2] at hP
                            rw [hw.1]
                            exact r_iret C0 X hP hS hr hlk dX8_run_206 (rt2 h)
                          · have e_38 : x2 = 3 := sw_eq c_30 (by decide)
                            replace h := it_f h (show ¬ x2 = 0 by rw [e_38]; decide)
                            replace h := it_f h (show ¬ x2 = 1 by rw [e_38]; decide)
                            replace h := it_f h (show ¬ x2 = 2 by rw [e_38]; decide)
                            replace h := it_t h e_38
                            refine lv_tableIn (off := 52) (tgt := 207) hx hb dX8_run_155 (by rw [e_38]; decide) (by rw [e_38]; decide) (by rw [e_38]; rfl) (by decide) ?_
                            refine lv_aload_n hx hb dX8_run_207 rfl (lv_at hl 2 rfl) ?_
                            refine gf_X8_16 C0 X hP 91 (q := 94) ⟨by decide, rfl⟩ (by omega) rfl dX8_run_208 ?_
                            refine lv_iconst (v := 2) hx hb dX8_run_211 (by decide) ?_
                            refine r_ialdN C0 X hP 94 (k := 2) ⟨by decide, rfl⟩ rfl (by decide) dX8_run_212 ?_
                            exact r_iret C0 X hP hS hr hlk dX8_run_213 (rt2 h)
                      · replace h := it_f h c_27
                        refine lv_aload_n hx hb dX8_run_119 rfl (lv_at hl 2 rfl) ?_
                        refine gf_X8_16 C0 X hP 91 (q := 94) ⟨by decide, rfl⟩ (by omega) rfl dX8_run_120 ?_
                        refine lv_iload hx hb dX8_run_123 (lv_at hl 0 rfl) ?_
                        refine lv_bipush (v := 10) hx hb dX8_run_125 (by decide) ?_
                        refine lv_aload_n hx hb dX8_run_127 rfl (lv_at hl 2 rfl) ?_
                        refine gf_X8_31 C0 X hP 91 (q := 99) ⟨by decide, rfl⟩ (by omega) rfl dX8_run_128 ?_
                        refine lv_bipush (v := 100) hx hb dX8_run_131 (by decide) ?_
                        refine lv_iload_n hx hb dX8_run_133 rfl (lv_at hl 3 rfl) ?_
                        refine lv_imul hx hb dX8_run_134 ?_
                        refine lv_iload hx hb dX8_run_135 (lv_at hl 0 rfl) ?_
                        refine lv_iadd hx hb dX8_run_137 ?_
                        obtain ⟨k_39, ek_39, h⟩ := bnd h
                        replace ek_39 := ix_s ek_39 (by decide)
                        refine r_ialdN C0 X hP 99 (k := k_39) ⟨by decide, rfl⟩ ek_39.1 ek_39.2 dX8_run_138 ?_
                        obtain ⟨σ_40, eσ_40, h⟩ := bnd h
                        refine r_cv X hS (r_runS (As := [.ref (ad 94), .int v4, .int 10, .int (σ 99 k_39)]) (rest := []) C0 X hP L_X8_97 (fun sz => c_X8_puts l D cA ad o σ 94 v4 10 (σ 99 k_39) ⟨by decide, rfl⟩ σ_40 eσ_40 sz) ⟨Nat.le_of_ble_eq_true rfl, Nat.le_of_ble_eq_true rfl⟩ rfl hl.1 rfl (Nat.le_of_ble_eq_true rfl) dX8_run_139 ⟨Nat.zero_le _, Nat.zero_le _⟩) (fun σ9 H locs hw hP hS => ?_)
                        rw [show σ9 = σ_40 from hw] at hP
                        refine lv_iinc (v := (v4 + 1)) (lv' := [(4, .int (v4 + 1)), (3, .int v3), (0, .ref (ad 91)), (1, .int x1), (2, .int x2)]) hx hb dX8_run_142 hl (k := 0) rfl rfl (by decide) rfl (fun ls hl => ?_)
                        refine lv_goto (tgt := 97) hx hb dX8_run_145 (by decide) ?_
                        exact ih97 σ_40 (v4 + 1) v3 _ _ ls  h hP hS (lv_sub hl [0, 1, 2, 3, 4] rfl)
                exact lp_13 FU σ_12 0 v3 _ _ ls  h hP hS (lv_sub hl [0, 1, 2, 3, 4] rfl)
              · replace h := it_f h c_11
                refine lv_bipush (v := (-3)) hx hb dX8_run_87 (by decide) ?_
                exact r_iret C0 X hP hS hr hlk dX8_run_89 (rt2 h)
            · replace h := it_f h c_9
              refine lv_aload_n hx hb dX8_run_48 rfl (lv_at hl 2 rfl) ?_
              refine gf_X8_31 C0 X hP 91 (q := 99) ⟨by decide, rfl⟩ (by omega) rfl dX8_run_49 ?_
              refine lv_bipush (v := 100) hx hb dX8_run_52 (by decide) ?_
              refine lv_iload_n hx hb dX8_run_54 rfl (lv_at hl 3 rfl) ?_
              refine lv_imul hx hb dX8_run_55 ?_
              refine lv_iload hx hb dX8_run_56 (lv_at hl 0 rfl) ?_
              refine lv_iadd hx hb dX8_run_58 ?_
              obtain ⟨k_41, ek_41, h⟩ := bnd h
              replace ek_41 := ix_s ek_41 (by decide)
              refine r_ialdN C0 X hP 99 (k := k_41) ⟨by decide, rfl⟩ ek_41.1 ek_41.2 dX8_run_59 ?_
              refine lv_i2l (v := ((σ 99 k_41).toInt64)) hx hb dX8_run_60 rfl ?_
              refine lv_lconst (v := ((0 : Int32).toInt64)) hx hb dX8_run_61 (by decide) ?_
              refine lv_ldc2 (own := RX8) (index := 219) (v := 200) hx hb hown (hts _ (tmc sb5_11 3 rfl (by decide +kernel))) dX8_run_62 ?_
              refine lv_topEl (y := ((200 : Int32).toInt64)) (by decide) ?_
              refine r_ci X hS (r_runS (As := [.long ((σ 99 k_41).toInt64), .long ((0 : Int32).toInt64), .long ((200 : Int32).toInt64)]) (rest := []) C0 X hP L_X8_53 (fun sz => c_X8_isIn l D cA ad o σ (σ 99 k_41) 0 200 sz) ⟨Nat.le_of_ble_eq_true rfl, Nat.le_of_ble_eq_true rfl⟩ rfl hl.1 rfl (Nat.le_of_ble_eq_true rfl) dX8_run_65 ⟨Nat.zero_le _, Nat.zero_le _⟩) (fun r9 σ9 H locs hw hP hS => ?_)
              rw [hw.2] at hP
              obtain ⟨⟨b_42, rfl⟩ | ⟨b_42, rfl⟩, -⟩ := hw
              · replace h := it_f h (inn b_42)
                refine lv_if_ne (tgt := 74) hx hb dX8_run_68 (by decide) (fun _ => ?_) (fun c_43 => absurd c_43 (by decide))
                refine lv_iinc (v := (v4 + 1)) (lv' := [(4, .int (v4 + 1)), (3, .int v3), (0, .ref (ad 91)), (1, .int x1), (2, .int x2)]) hx hb dX8_run_74 hl (k := 0) rfl rfl (by decide) rfl (fun ls hl => ?_)
                refine lv_goto (tgt := 37) hx hb dX8_run_77 (by decide) ?_
                exact ih37 σ (v4 + 1) v3 _ _ ls  h hP hS (lv_sub hl [0, 1, 2, 3, 4] rfl)
              · replace h := it_t h b_42
                refine lv_if_ne (tgt := 74) hx hb dX8_run_68 (by decide) (fun c_44 => absurd c_44 (by decide)) (fun _ => ?_)
                refine lv_bipush (v := (-13)) hx hb dX8_run_71 (by decide) ?_
                exact r_iret C0 X hP hS hr hlk dX8_run_73 (rt2 h)
        exact lp_7 FU σ 0 r_5 _ _ ls  h hP hS (lv_sub hl [0, 1, 2, 3, 4] rfl)
      · replace h := it_f h c_6
        refine lv_iload_n hx hb dX8_run_32 rfl (lv_at hl 0 rfl) ?_
        exact r_iret C0 X hP hS hr hlk dX8_run_33 (rt2 h)
    · replace h := it_t h b_3
      refine lv_if_ne (tgt := 21) hx hb dX8_run_16 (by decide) (fun c_45 => absurd c_45 (by decide)) (fun _ => ?_)
      refine lv_iconst (v := (-1)) hx hb dX8_run_19 (by decide) ?_
      exact r_iret C0 X hP hS hr hlk dX8_run_20 (rt2 h)
def bB_cX8_ever : Nat := 0xacfc10d7ffa7010284ac1c050099d700b81000b42a3ef700b62a6100b81c0a101b1000b42af400b62a2900a328101c3d03acfd1006009a2e030900b42aac0205009a7f00b61b2a
theorem yB_cX8_ever : BYS cX8_ever 71 bB_cX8_ever := BYS_of (by decide +kernel)
theorem dX8_ever_0 : decode cX8_ever 0 = .ok (.aload_n 0, 1) := D_42 yB_cX8_ever rfl rfl
theorem dX8_ever_1 : decode cX8_ever 1 = .ok (.iload_n 1, 1) := D_27 yB_cX8_ever rfl rfl
theorem dX8_ever_2 : decode cX8_ever 2 = .ok (.invokevirtual 127, 3) := D_182 yB_cX8_ever rfl rfl rfl
theorem dX8_ever_5 : decode cX8_ever 5 = .ok (.ifCond .ne 5, 3) := D_154 yB_cX8_ever rfl rfl (sg_p (m := 32768) (N := 5) rfl rfl rfl)
theorem dX8_ever_8 : decode cX8_ever 8 = .ok (.iconst (-1), 1) := D_2 yB_cX8_ever rfl rfl
theorem dX8_ever_9 : decode cX8_ever 9 = .ok (.ireturn, 1) := D_172 yB_cX8_ever rfl rfl
theorem dX8_ever_10 : decode cX8_ever 10 = .ok (.aload_n 0, 1) := D_42 yB_cX8_ever rfl rfl
theorem dX8_ever_11 : decode cX8_ever 11 = .ok (.getfield 9, 3) := D_180 yB_cX8_ever rfl rfl rfl
theorem dX8_ever_14 : decode cX8_ever 14 = .ok (.iconst 0, 1) := D_3 yB_cX8_ever rfl rfl
theorem dX8_ever_15 : decode cX8_ever 15 = .ok (.iaload, 1) := D_46 yB_cX8_ever rfl rfl
theorem dX8_ever_16 : decode cX8_ever 16 = .ok (.ifCond .ne 6, 3) := D_154 yB_cX8_ever rfl rfl (sg_p (m := 32768) (N := 6) rfl rfl rfl)
theorem dX8_ever_19 : decode cX8_ever 19 = .ok (.bipush (-3), 2) := D_16 yB_cX8_ever rfl rfl (sg_n (m := 128) (N := 3) rfl rfl rfl)
theorem dX8_ever_21 : decode cX8_ever 21 = .ok (.ireturn, 1) := D_172 yB_cX8_ever rfl rfl
theorem dX8_ever_22 : decode cX8_ever 22 = .ok (.iconst 0, 1) := D_3 yB_cX8_ever rfl rfl
theorem dX8_ever_23 : decode cX8_ever 23 = .ok (.istore_n 2, 1) := D_61 yB_cX8_ever rfl rfl
theorem dX8_ever_24 : decode cX8_ever 24 = .ok (.iload_n 2, 1) := D_28 yB_cX8_ever rfl rfl
theorem dX8_ever_25 : decode cX8_ever 25 = .ok (.bipush 40, 2) := D_16 yB_cX8_ever rfl rfl (sg_p (m := 128) (N := 40) rfl rfl rfl)
theorem dX8_ever_27 : decode cX8_ever 27 = .ok (.if_icmp .gt 41, 3) := D_163 yB_cX8_ever rfl rfl (sg_p (m := 32768) (N := 41) rfl rfl rfl)
theorem dX8_ever_30 : decode cX8_ever 30 = .ok (.aload_n 0, 1) := D_42 yB_cX8_ever rfl rfl
theorem dX8_ever_31 : decode cX8_ever 31 = .ok (.invokevirtual 244, 3) := D_182 yB_cX8_ever rfl rfl rfl
theorem dX8_ever_34 : decode cX8_ever 34 = .ok (.aload_n 0, 1) := D_42 yB_cX8_ever rfl rfl
theorem dX8_ever_35 : decode cX8_ever 35 = .ok (.getfield 16, 3) := D_180 yB_cX8_ever rfl rfl rfl
theorem dX8_ever_38 : decode cX8_ever 38 = .ok (.iload_n 1, 1) := D_27 yB_cX8_ever rfl rfl
theorem dX8_ever_39 : decode cX8_ever 39 = .ok (.bipush 10, 2) := D_16 yB_cX8_ever rfl rfl (sg_p (m := 128) (N := 10) rfl rfl rfl)
theorem dX8_ever_41 : decode cX8_ever 41 = .ok (.iload_n 2, 1) := D_28 yB_cX8_ever rfl rfl
theorem dX8_ever_42 : decode cX8_ever 42 = .ok (.invokestatic 97, 3) := D_184 yB_cX8_ever rfl rfl rfl
theorem dX8_ever_45 : decode cX8_ever 45 = .ok (.aload_n 0, 1) := D_42 yB_cX8_ever rfl rfl
theorem dX8_ever_46 : decode cX8_ever 46 = .ok (.invokevirtual 247, 3) := D_182 yB_cX8_ever rfl rfl rfl
theorem dX8_ever_49 : decode cX8_ever 49 = .ok (.istore_n 3, 1) := D_62 yB_cX8_ever rfl rfl
theorem dX8_ever_50 : decode cX8_ever 50 = .ok (.aload_n 0, 1) := D_42 yB_cX8_ever rfl rfl
theorem dX8_ever_51 : decode cX8_ever 51 = .ok (.getfield 16, 3) := D_180 yB_cX8_ever rfl rfl rfl
theorem dX8_ever_54 : decode cX8_ever 54 = .ok (.invokestatic 215, 3) := D_184 yB_cX8_ever rfl rfl rfl
theorem dX8_ever_57 : decode cX8_ever 57 = .ok (.ifCond .eq 5, 3) := D_153 yB_cX8_ever rfl rfl (sg_p (m := 32768) (N := 5) rfl rfl rfl)
theorem dX8_ever_60 : decode cX8_ever 60 = .ok (.iload_n 2, 1) := D_28 yB_cX8_ever rfl rfl
theorem dX8_ever_61 : decode cX8_ever 61 = .ok (.ireturn, 1) := D_172 yB_cX8_ever rfl rfl
theorem dX8_ever_62 : decode cX8_ever 62 = .ok (.iinc 2 1, 3) := D_132 yB_cX8_ever rfl rfl rfl (sg_p (m := 128) (N := 1) rfl rfl rfl)
theorem dX8_ever_65 : decode cX8_ever 65 = .ok (.goto (-41), 3) := D_167 yB_cX8_ever rfl rfl (sg_n (m := 32768) (N := 41) rfl rfl rfl)
theorem dX8_ever_68 : decode cX8_ever 68 = .ok (.bipush (-4), 2) := D_16 yB_cX8_ever rfl rfl (sg_n (m := 128) (N := 4) rfl rfl rfl)
theorem dX8_ever_70 : decode cX8_ever 70 = .ok (.ireturn, 1) := D_172 yB_cX8_ever rfl rfl
def F_X8_ever_24 (x1 : Int32)  : Nat → Mem → Int32 → Option (Mem × Int32)
  | 0, _, _ => none
  | nn + 1, σ, v2 => if 40 < v2 then (some (σ, (-4))) else ((F_X8_opens σ ).bind fun σ_6 => (F_X8_puts σ_6 94 x1 10 v2).bind fun σ_7 => bd2 (F_X8_costs σ_7 ) fun σ_8 r_9 => (F_X8_stands σ_8 94).bind fun r_10 => if r_10 = 0 then (F_X8_ever_24 x1 nn σ_8 (v2 + 1)) else (some (σ_8, v2)))
def F_X8_ever (σ : Mem) (x1 : Int32) : Option (Mem × Int32) := (F_X8_isCart σ x1).bind fun r_1 => if r_1 = 0 then (some (σ, (-1))) else (if (σ 92 0) = 0 then (some (σ, (-3))) else (F_X8_ever_24 x1 FU σ 0))
set_option maxHeartbeats 4000000 in
set_option maxRecDepth 100000 in
theorem c_X8_ever (l : Launch) (D : va_G) (cA : Nat → ClassId) (ad : Nat → Nat) (o : Int64) (σ : Mem) (x1 : Int32)  (res : Mem × Int32) (h : F_X8_ever σ x1 = some res) (sz : Nat) : Met l yX8_ever (WY yX8_ever cX8_ever 4 (some .int)) (RM 9) (va_Pc [.ref (ad 91), .int x1] (PW D cA ad o σ sz)) (va_Qi (fun r σ9 => r = res.2 ∧ σ9 = res.1) (QW D cA ad o) (FA ad sz)) 0 0 (FA ad sz) := by
  refine ct_of (own := RX8) (k := 9) (Qf := va_Qi (fun r σ9 => r = res.2 ∧ σ9 = res.1) (QW D cA ad o)) rfl (by decide) (Nat.le_of_ble_eq_true rfl) (fun p e s m below meth c ls C0 X hr hlk hP hl => ?_) sz
  have hS : va_S (FA ad s.heap.size) s.heap s.heap [] := va_S.rf
  have hl : lv_has ls 4 [(0, .ref (ad 91)), (1, .int x1)] := hl
  obtain ⟨hx, hb, hml, hown, hts⟩ := id C0
  unfold F_X8_ever at h
  refine lv_aload_n hx hb dX8_ever_0 rfl (lv_at hl 0 rfl) ?_
  refine lv_iload_n hx hb dX8_ever_1 rfl (lv_at hl 1 rfl) ?_
  obtain ⟨r_1, er_1, h⟩ := bnd h
  refine r_ci X hS (r_runV (As := [.int x1]) (rest := []) C0 X hP L_X8_127 (fun sz => c_X8_isCart l D cA ad o σ x1  r_1 er_1 sz) (show 91 < 106 ∧ kd 91 = (8, 24) from ⟨by decide, rfl⟩).1 (show 91 < 106 ∧ kd 91 = (8, 24) from ⟨by decide, rfl⟩).2 (by decide) rfl ⟨Nat.le_of_ble_eq_true rfl, Nat.le_of_ble_eq_true rfl⟩ rfl hl.1 rfl (Nat.le_of_ble_eq_true rfl) dX8_ever_2 ⟨Nat.zero_le _, Nat.zero_le _⟩) (fun r9 σ9 H locs hw hP hS => ?_)
  rw [hw.2] at hP
  rw [hw.1]
  refine lv_if_ne (tgt := 10) hx hb dX8_ever_5 (by decide) (fun c_2 => ?_) (fun c_2 => ?_)
  · replace h := it_f h c_2
    refine lv_aload_n hx hb dX8_ever_10 rfl (lv_at hl 0 rfl) ?_
    refine gf_X8_9 C0 X hP 91 (q := 92) ⟨by decide, rfl⟩ (by omega) rfl dX8_ever_11 ?_
    refine lv_iconst (v := 0) hx hb dX8_ever_14 (by decide) ?_
    refine r_ialdN C0 X hP 92 (k := 0) ⟨by decide, rfl⟩ rfl (by decide) dX8_ever_15 ?_
    refine lv_if_ne (tgt := 22) hx hb dX8_ever_16 (by decide) (fun c_3 => ?_) (fun c_3 => ?_)
    · replace h := it_f h c_3
      refine lv_iconst (v := 0) hx hb dX8_ever_22 (by decide) ?_
      refine lv_istore_n (lv' := [(2, .int 0), (0, .ref (ad 91)), (1, .int x1)]) hx hb dX8_ever_23 rfl hl (by decide) rfl (fun ls hl => ?_)
      have lp_4 : ∀ (nn24 : Nat) (σ : Mem) (v2 : Int32) (H : Heap) (locs : List Loc) (ls : Array Slot), F_X8_ever_24 x1 nn24 σ v2 = some res → WP D cA ad o σ H → va_S (FA ad s.heap.size) s.heap H locs → lv_has ls 4 [(2, .int v2), (0, .ref (ad 91)), (1, .int x1)] → W p l e (RM 9) s m ([.ref (ad 91), .int x1] : List Value).toArray below meth c H locs 0 0 (MQ below (va_Qi (fun r σ9 => r = res.2 ∧ σ9 = res.1) (QW D cA ad o) (FA ad s.heap.size)) ([.ref (ad 91), .int x1] : List Value).toArray s 0 0 (FA ad s.heap.size)) (F0 m 24 ls []) := by
        intro nn24
        induction nn24 with
        | zero => intro σ v2 H locs ls h hP hS hl; exact absurd (show none = some res from h) nofun
        | succ nn24 ih24 =>
          intro σ v2 H locs ls h hP hS hl
          replace h := (F_X8_ever_24.eq_2 _ _ _ _).symm.trans h
          refine lv_iload_n hx hb dX8_ever_24 rfl (lv_at hl 0 rfl) ?_
          refine lv_bipush (v := 40) hx hb dX8_ever_25 (by decide) ?_
          refine lv_icmp_gt (tgt := 68) hx hb dX8_ever_27 (by decide) (fun c_5 => ?_) (fun c_5 => ?_)
          · replace h := it_t h c_5
            refine lv_bipush (v := (-4)) hx hb dX8_ever_68 (by decide) ?_
            exact r_iret C0 X hP hS hr hlk dX8_ever_70 (rt2 h)
          · replace h := it_f h c_5
            refine lv_aload_n hx hb dX8_ever_30 rfl (lv_at hl 1 rfl) ?_
            obtain ⟨σ_6, eσ_6, h⟩ := bnd h
            refine r_cv X hS (r_runV (As := []) (rest := []) C0 X hP L_X8_244 (fun sz => c_X8_opens l D cA ad o σ   σ_6 eσ_6 sz) (show 91 < 106 ∧ kd 91 = (8, 24) from ⟨by decide, rfl⟩).1 (show 91 < 106 ∧ kd 91 = (8, 24) from ⟨by decide, rfl⟩).2 (by decide) rfl ⟨Nat.le_of_ble_eq_true rfl, Nat.le_of_ble_eq_true rfl⟩ rfl hl.1 rfl (Nat.le_of_ble_eq_true rfl) dX8_ever_31 ⟨Nat.zero_le _, Nat.zero_le _⟩) (fun σ9 H locs hw hP hS => ?_)
            rw [show σ9 = σ_6 from hw] at hP
            refine lv_aload_n hx hb dX8_ever_34 rfl (lv_at hl 1 rfl) ?_
            refine gf_X8_16 C0 X hP 91 (q := 94) ⟨by decide, rfl⟩ (by omega) rfl dX8_ever_35 ?_
            refine lv_iload_n hx hb dX8_ever_38 rfl (lv_at hl 2 rfl) ?_
            refine lv_bipush (v := 10) hx hb dX8_ever_39 (by decide) ?_
            refine lv_iload_n hx hb dX8_ever_41 rfl (lv_at hl 0 rfl) ?_
            obtain ⟨σ_7, eσ_7, h⟩ := bnd h
            refine r_cv X hS (r_runS (As := [.ref (ad 94), .int x1, .int 10, .int v2]) (rest := []) C0 X hP L_X8_97 (fun sz => c_X8_puts l D cA ad o σ_6 94 x1 10 v2 ⟨by decide, rfl⟩ σ_7 eσ_7 sz) ⟨Nat.le_of_ble_eq_true rfl, Nat.le_of_ble_eq_true rfl⟩ rfl hl.1 rfl (Nat.le_of_ble_eq_true rfl) dX8_ever_42 ⟨Nat.zero_le _, Nat.zero_le _⟩) (fun σ9 H locs hw hP hS => ?_)
            rw [show σ9 = σ_7 from hw] at hP
            refine lv_aload_n hx hb dX8_ever_45 rfl (lv_at hl 1 rfl) ?_
            obtain ⟨σ_8, r_9, eσ_8, h⟩ := bnd2 h
            refine r_ci X hS (r_runV (As := []) (rest := []) C0 X hP L_X8_247 (fun sz => c_X8_costs l D cA ad o σ_7   (σ_8, r_9) eσ_8 sz) (show 91 < 106 ∧ kd 91 = (8, 24) from ⟨by decide, rfl⟩).1 (show 91 < 106 ∧ kd 91 = (8, 24) from ⟨by decide, rfl⟩).2 (by decide) rfl ⟨Nat.le_of_ble_eq_true rfl, Nat.le_of_ble_eq_true rfl⟩ rfl hl.1 rfl (Nat.le_of_ble_eq_true rfl) dX8_ever_46 ⟨Nat.zero_le _, Nat.zero_le _⟩) (fun r9 σ9 H locs hw hP hS => ?_)
            rw [show σ9 = σ_8 from hw.2] at hP
            rw [show r9 = r_9 from hw.1]
            refine lv_istore_n (lv' := [(3, .int r_9), (2, .int v2), (0, .ref (ad 91)), (1, .int x1)]) hx hb dX8_ever_49 rfl hl (by decide) rfl (fun ls hl => ?_)
            refine lv_aload_n hx hb dX8_ever_50 rfl (lv_at hl 2 rfl) ?_
            refine gf_X8_16 C0 X hP 91 (q := 94) ⟨by decide, rfl⟩ (by omega) rfl dX8_ever_51 ?_
            obtain ⟨r_10, er_10, h⟩ := bnd h
            refine r_ci X hS (r_runS (As := [.ref (ad 94)]) (rest := []) C0 X hP L_X8_215 (fun sz => c_X8_stands l D cA ad o σ_8 94 ⟨by decide, rfl⟩ r_10 er_10 sz) ⟨Nat.le_of_ble_eq_true rfl, Nat.le_of_ble_eq_true rfl⟩ rfl hl.1 rfl (Nat.le_of_ble_eq_true rfl) dX8_ever_54 ⟨Nat.zero_le _, Nat.zero_le _⟩) (fun r9 σ9 H locs hw hP hS => ?_)
            rw [hw.2] at hP
            rw [hw.1]
            refine lv_if_eq (tgt := 62) hx hb dX8_ever_57 (by decide) (fun c_11 => ?_) (fun c_11 => ?_)
            · replace h := it_t h c_11
              refine lv_iinc (v := (v2 + 1)) (lv' := [(2, .int (v2 + 1)), (3, .int r_9), (0, .ref (ad 91)), (1, .int x1)]) hx hb dX8_ever_62 hl (k := 1) rfl rfl (by decide) rfl (fun ls hl => ?_)
              refine lv_goto (tgt := 24) hx hb dX8_ever_65 (by decide) ?_
              exact ih24 σ_8 (v2 + 1) _ _ ls  h hP hS (lv_sub hl [0, 2, 3] rfl)
            · replace h := it_f h c_11
              refine lv_iload_n hx hb dX8_ever_60 rfl (lv_at hl 1 rfl) ?_
              exact r_iret C0 X hP hS hr hlk dX8_ever_61 (rt2 h)
      exact lp_4 FU σ 0 _ _ ls  h hP hS (lv_sub hl [0, 1, 2] rfl)
    · replace h := it_t h c_3
      refine lv_bipush (v := (-3)) hx hb dX8_ever_19 (by decide) ?_
      exact r_iret C0 X hP hS hr hlk dX8_ever_21 (rt2 h)
  · replace h := it_t h c_2
    refine lv_iconst (v := (-1)) hx hb dX8_ever_8 (by decide) ?_
    exact r_iret C0 X hP hS hr hlk dX8_ever_9 (rt2 h)
def bB_cX8_best : Nat := 0xac04150500a71d07009a1bafffa7010584043606153e05150a00a70600a1041506150d009b1d0636f700b62ae1ffa70106846100b8687e067a680615050515080a1006151000b42a1f00a21c0615063603f400b62a4d00a278681c050405150536030436033efc103d070400a72e040900b42a0c00a2072e040900b42aacfd10060099dd00b62aac0205009a3500b80a09851b
theorem yB_cX8_best : BYS cX8_best 147 bB_cX8_best := BYS_of (by decide +kernel)
theorem dX8_best_0 : decode cX8_best 0 = .ok (.iload_n 1, 1) := D_27 yB_cX8_best rfl rfl
theorem dX8_best_1 : decode cX8_best 1 = .ok (.i2l, 1) := D_133 yB_cX8_best rfl rfl
theorem dX8_best_2 : decode cX8_best 2 = .ok (.lconst 0, 1) := D_9 yB_cX8_best rfl rfl
theorem dX8_best_3 : decode cX8_best 3 = .ok (.lconst 1, 1) := D_10 yB_cX8_best rfl rfl
theorem dX8_best_4 : decode cX8_best 4 = .ok (.invokestatic 53, 3) := D_184 yB_cX8_best rfl rfl rfl
theorem dX8_best_7 : decode cX8_best 7 = .ok (.ifCond .ne 5, 3) := D_154 yB_cX8_best rfl rfl (sg_p (m := 32768) (N := 5) rfl rfl rfl)
theorem dX8_best_10 : decode cX8_best 10 = .ok (.iconst (-1), 1) := D_2 yB_cX8_best rfl rfl
theorem dX8_best_11 : decode cX8_best 11 = .ok (.ireturn, 1) := D_172 yB_cX8_best rfl rfl
theorem dX8_best_12 : decode cX8_best 12 = .ok (.aload_n 0, 1) := D_42 yB_cX8_best rfl rfl
theorem dX8_best_13 : decode cX8_best 13 = .ok (.invokevirtual 221, 3) := D_182 yB_cX8_best rfl rfl rfl
theorem dX8_best_16 : decode cX8_best 16 = .ok (.ifCond .eq 6, 3) := D_153 yB_cX8_best rfl rfl (sg_p (m := 32768) (N := 6) rfl rfl rfl)
theorem dX8_best_19 : decode cX8_best 19 = .ok (.bipush (-3), 2) := D_16 yB_cX8_best rfl rfl (sg_n (m := 128) (N := 3) rfl rfl rfl)
theorem dX8_best_21 : decode cX8_best 21 = .ok (.ireturn, 1) := D_172 yB_cX8_best rfl rfl
theorem dX8_best_22 : decode cX8_best 22 = .ok (.aload_n 0, 1) := D_42 yB_cX8_best rfl rfl
theorem dX8_best_23 : decode cX8_best 23 = .ok (.getfield 9, 3) := D_180 yB_cX8_best rfl rfl rfl
theorem dX8_best_26 : decode cX8_best 26 = .ok (.iconst 1, 1) := D_4 yB_cX8_best rfl rfl
theorem dX8_best_27 : decode cX8_best 27 = .ok (.iaload, 1) := D_46 yB_cX8_best rfl rfl
theorem dX8_best_28 : decode cX8_best 28 = .ok (.iconst 4, 1) := D_7 yB_cX8_best rfl rfl
theorem dX8_best_29 : decode cX8_best 29 = .ok (.if_icmp .ge 12, 3) := D_162 yB_cX8_best rfl rfl (sg_p (m := 32768) (N := 12) rfl rfl rfl)
theorem dX8_best_32 : decode cX8_best 32 = .ok (.aload_n 0, 1) := D_42 yB_cX8_best rfl rfl
theorem dX8_best_33 : decode cX8_best 33 = .ok (.getfield 9, 3) := D_180 yB_cX8_best rfl rfl rfl
theorem dX8_best_36 : decode cX8_best 36 = .ok (.iconst 1, 1) := D_4 yB_cX8_best rfl rfl
theorem dX8_best_37 : decode cX8_best 37 = .ok (.iaload, 1) := D_46 yB_cX8_best rfl rfl
theorem dX8_best_38 : decode cX8_best 38 = .ok (.goto 4, 3) := D_167 yB_cX8_best rfl rfl (sg_p (m := 32768) (N := 4) rfl rfl rfl)
theorem dX8_best_41 : decode cX8_best 41 = .ok (.iconst 4, 1) := D_7 yB_cX8_best rfl rfl
theorem dX8_best_42 : decode cX8_best 42 = .ok (.istore_n 2, 1) := D_61 yB_cX8_best rfl rfl
theorem dX8_best_43 : decode cX8_best 43 = .ok (.bipush (-4), 2) := D_16 yB_cX8_best rfl rfl (sg_n (m := 128) (N := 4) rfl rfl rfl)
theorem dX8_best_45 : decode cX8_best 45 = .ok (.istore_n 3, 1) := D_62 yB_cX8_best rfl rfl
theorem dX8_best_46 : decode cX8_best 46 = .ok (.iconst 0, 1) := D_3 yB_cX8_best rfl rfl
theorem dX8_best_47 : decode cX8_best 47 = .ok (.istore 4, 2) := D_54 yB_cX8_best rfl rfl rfl
theorem dX8_best_49 : decode cX8_best 49 = .ok (.iconst 0, 1) := D_3 yB_cX8_best rfl rfl
theorem dX8_best_50 : decode cX8_best 50 = .ok (.istore 5, 2) := D_54 yB_cX8_best rfl rfl rfl
theorem dX8_best_52 : decode cX8_best 52 = .ok (.iload 5, 2) := D_21 yB_cX8_best rfl rfl rfl
theorem dX8_best_54 : decode cX8_best 54 = .ok (.iconst 1, 1) := D_4 yB_cX8_best rfl rfl
theorem dX8_best_55 : decode cX8_best 55 = .ok (.iconst 2, 1) := D_5 yB_cX8_best rfl rfl
theorem dX8_best_56 : decode cX8_best 56 = .ok (.iload_n 2, 1) := D_28 yB_cX8_best rfl rfl
theorem dX8_best_57 : decode cX8_best 57 = .ok (.imul, 1) := D_104 yB_cX8_best rfl rfl
theorem dX8_best_58 : decode cX8_best 58 = .ok (.ishl, 1) := D_120 yB_cX8_best rfl rfl
theorem dX8_best_59 : decode cX8_best 59 = .ok (.if_icmp .ge 77, 3) := D_162 yB_cX8_best rfl rfl (sg_p (m := 32768) (N := 77) rfl rfl rfl)
theorem dX8_best_62 : decode cX8_best 62 = .ok (.aload_n 0, 1) := D_42 yB_cX8_best rfl rfl
theorem dX8_best_63 : decode cX8_best 63 = .ok (.invokevirtual 244, 3) := D_182 yB_cX8_best rfl rfl rfl
theorem dX8_best_66 : decode cX8_best 66 = .ok (.iconst 0, 1) := D_3 yB_cX8_best rfl rfl
theorem dX8_best_67 : decode cX8_best 67 = .ok (.istore 6, 2) := D_54 yB_cX8_best rfl rfl rfl
theorem dX8_best_69 : decode cX8_best 69 = .ok (.iload 6, 2) := D_21 yB_cX8_best rfl rfl rfl
theorem dX8_best_71 : decode cX8_best 71 = .ok (.iload_n 2, 1) := D_28 yB_cX8_best rfl rfl
theorem dX8_best_72 : decode cX8_best 72 = .ok (.if_icmp .ge 31, 3) := D_162 yB_cX8_best rfl rfl (sg_p (m := 32768) (N := 31) rfl rfl rfl)
theorem dX8_best_75 : decode cX8_best 75 = .ok (.aload_n 0, 1) := D_42 yB_cX8_best rfl rfl
theorem dX8_best_76 : decode cX8_best 76 = .ok (.getfield 16, 3) := D_180 yB_cX8_best rfl rfl rfl
theorem dX8_best_79 : decode cX8_best 79 = .ok (.iload 6, 2) := D_21 yB_cX8_best rfl rfl rfl
theorem dX8_best_81 : decode cX8_best 81 = .ok (.bipush 10, 2) := D_16 yB_cX8_best rfl rfl (sg_p (m := 128) (N := 10) rfl rfl rfl)
theorem dX8_best_83 : decode cX8_best 83 = .ok (.iconst 5, 1) := D_8 yB_cX8_best rfl rfl
theorem dX8_best_84 : decode cX8_best 84 = .ok (.iload 5, 2) := D_21 yB_cX8_best rfl rfl rfl
theorem dX8_best_86 : decode cX8_best 86 = .ok (.iconst 2, 1) := D_5 yB_cX8_best rfl rfl
theorem dX8_best_87 : decode cX8_best 87 = .ok (.iload 6, 2) := D_21 yB_cX8_best rfl rfl rfl
theorem dX8_best_89 : decode cX8_best 89 = .ok (.imul, 1) := D_104 yB_cX8_best rfl rfl
theorem dX8_best_90 : decode cX8_best 90 = .ok (.ishr, 1) := D_122 yB_cX8_best rfl rfl
theorem dX8_best_91 : decode cX8_best 91 = .ok (.iconst 3, 1) := D_6 yB_cX8_best rfl rfl
theorem dX8_best_92 : decode cX8_best 92 = .ok (.iand, 1) := D_126 yB_cX8_best rfl rfl
theorem dX8_best_93 : decode cX8_best 93 = .ok (.imul, 1) := D_104 yB_cX8_best rfl rfl
theorem dX8_best_94 : decode cX8_best 94 = .ok (.invokestatic 97, 3) := D_184 yB_cX8_best rfl rfl rfl
theorem dX8_best_97 : decode cX8_best 97 = .ok (.iinc 6 1, 3) := D_132 yB_cX8_best rfl rfl rfl (sg_p (m := 128) (N := 1) rfl rfl rfl)
theorem dX8_best_100 : decode cX8_best 100 = .ok (.goto (-31), 3) := D_167 yB_cX8_best rfl rfl (sg_n (m := 32768) (N := 31) rfl rfl rfl)
theorem dX8_best_103 : decode cX8_best 103 = .ok (.aload_n 0, 1) := D_42 yB_cX8_best rfl rfl
theorem dX8_best_104 : decode cX8_best 104 = .ok (.invokevirtual 247, 3) := D_182 yB_cX8_best rfl rfl rfl
theorem dX8_best_107 : decode cX8_best 107 = .ok (.istore 6, 2) := D_54 yB_cX8_best rfl rfl rfl
theorem dX8_best_109 : decode cX8_best 109 = .ok (.iload_n 3, 1) := D_29 yB_cX8_best rfl rfl
theorem dX8_best_110 : decode cX8_best 110 = .ok (.ifCond .lt 13, 3) := D_155 yB_cX8_best rfl rfl (sg_p (m := 32768) (N := 13) rfl rfl rfl)
theorem dX8_best_113 : decode cX8_best 113 = .ok (.iload 6, 2) := D_21 yB_cX8_best rfl rfl rfl
theorem dX8_best_115 : decode cX8_best 115 = .ok (.iload 4, 2) := D_21 yB_cX8_best rfl rfl rfl
theorem dX8_best_117 : decode cX8_best 117 = .ok (.if_icmp .lt 6, 3) := D_161 yB_cX8_best rfl rfl (sg_p (m := 32768) (N := 6) rfl rfl rfl)
theorem dX8_best_120 : decode cX8_best 120 = .ok (.goto 10, 3) := D_167 yB_cX8_best rfl rfl (sg_p (m := 32768) (N := 10) rfl rfl rfl)
theorem dX8_best_123 : decode cX8_best 123 = .ok (.iload 5, 2) := D_21 yB_cX8_best rfl rfl rfl
theorem dX8_best_125 : decode cX8_best 125 = .ok (.istore_n 3, 1) := D_62 yB_cX8_best rfl rfl
theorem dX8_best_126 : decode cX8_best 126 = .ok (.iload 6, 2) := D_21 yB_cX8_best rfl rfl rfl
theorem dX8_best_128 : decode cX8_best 128 = .ok (.istore 4, 2) := D_54 yB_cX8_best rfl rfl rfl
theorem dX8_best_130 : decode cX8_best 130 = .ok (.iinc 5 1, 3) := D_132 yB_cX8_best rfl rfl rfl (sg_p (m := 128) (N := 1) rfl rfl rfl)
theorem dX8_best_133 : decode cX8_best 133 = .ok (.goto (-81), 3) := D_167 yB_cX8_best rfl rfl (sg_n (m := 32768) (N := 81) rfl rfl rfl)
theorem dX8_best_136 : decode cX8_best 136 = .ok (.iload_n 1, 1) := D_27 yB_cX8_best rfl rfl
theorem dX8_best_137 : decode cX8_best 137 = .ok (.ifCond .ne 7, 3) := D_154 yB_cX8_best rfl rfl (sg_p (m := 32768) (N := 7) rfl rfl rfl)
theorem dX8_best_140 : decode cX8_best 140 = .ok (.iload_n 3, 1) := D_29 yB_cX8_best rfl rfl
theorem dX8_best_141 : decode cX8_best 141 = .ok (.goto 5, 3) := D_167 yB_cX8_best rfl rfl (sg_p (m := 32768) (N := 5) rfl rfl rfl)
theorem dX8_best_144 : decode cX8_best 144 = .ok (.iload 4, 2) := D_21 yB_cX8_best rfl rfl rfl
theorem dX8_best_146 : decode cX8_best 146 = .ok (.ireturn, 1) := D_172 yB_cX8_best rfl rfl
def F_X8_best_69 (x1 : Int32) (k52 : Mem → Int32 → Int32 → Int32 → Int32 → Option (Mem × Int32)) : Nat → Mem → Int32 → Int32 → Int32 → Int32 → Int32 → Option (Mem × Int32)
  | 0, _, _, _, _, _, _ => none
  | nn + 1, σ, v6, v5, v4, v3, v2 => if v2 ≤ v6 then (bd2 (F_X8_costs σ ) fun σ_12 r_13 => if v3 < 0 then (k52 σ_12 (v5 + 1) r_13 v5 v2) else (if r_13 < v4 then (k52 σ_12 (v5 + 1) r_13 v5 v2) else (k52 σ_12 (v5 + 1) v4 v3 v2))) else ((F_X8_puts σ 94 v6 10 (5 * ((v5 >>> ((2 * v6) &&& 31)) &&& 3))).bind fun σ_16 => F_X8_best_69 x1 k52 nn σ_16 (v6 + 1) v5 v4 v3 v2)
def F_X8_best_52 (x1 : Int32)  : Nat → Mem → Int32 → Int32 → Int32 → Int32 → Option (Mem × Int32)
  | 0, _, _, _, _, _ => none
  | nn + 1, σ, v5, v4, v3, v2 => if (1 <<< ((2 * v2) &&& 31)) ≤ v5 then (if x1 = 0 then (some (σ, v3)) else (some (σ, v4))) else ((F_X8_opens σ ).bind fun σ_9 => F_X8_best_69 x1 (fun σ v5 v4 v3 v2 => F_X8_best_52 x1 nn σ v5 v4 v3 v2) FU σ_9 0 v5 v4 v3 v2)
def F_X8_best_69b (x1 : Int32) (k52 : Mem → Int32 → Int32 → Int32 → Int32 → Option (Mem × Int32)) : Nat → Mem → Int32 → Int32 → Int32 → Int32 → Int32 → Option (Mem × Int32)
  | 0, _, _, _, _, _, _ => none
  | nn + 1, σ, v6, v5, v4, v3, v2 => if v2 ≤ v6 then (bd2 (F_X8_costs σ ) fun σ_23 r_24 => if v3 < 0 then (k52 σ_23 (v5 + 1) r_24 v5 v2) else (if r_24 < v4 then (k52 σ_23 (v5 + 1) r_24 v5 v2) else (k52 σ_23 (v5 + 1) v4 v3 v2))) else ((F_X8_puts σ 94 v6 10 (5 * ((v5 >>> ((2 * v6) &&& 31)) &&& 3))).bind fun σ_27 => F_X8_best_69b x1 k52 nn σ_27 (v6 + 1) v5 v4 v3 v2)
def F_X8_best_52b (x1 : Int32)  : Nat → Mem → Int32 → Int32 → Int32 → Int32 → Option (Mem × Int32)
  | 0, _, _, _, _, _ => none
  | nn + 1, σ, v5, v4, v3, v2 => if (1 <<< ((2 * v2) &&& 31)) ≤ v5 then (if x1 = 0 then (some (σ, v3)) else (some (σ, v4))) else ((F_X8_opens σ ).bind fun σ_20 => F_X8_best_69b x1 (fun σ v5 v4 v3 v2 => F_X8_best_52b x1 nn σ v5 v4 v3 v2) FU σ_20 0 v5 v4 v3 v2)
def F_X8_best (σ : Mem) (x1 : Int32) : Option (Mem × Int32) := if x1 < 0 ∨ 1 < x1 then (some (σ, (-1))) else ((F_X8_isEmpty σ ).bind fun r_3 => if r_3 = 0 then (if 4 ≤ (σ 92 1) then (F_X8_best_52 x1 FU σ 0 0 (-4) 4) else (F_X8_best_52b x1 FU σ 0 0 (-4) (σ 92 1))) else (some (σ, (-3))))
set_option maxHeartbeats 4000000 in
set_option maxRecDepth 100000 in
theorem c_X8_best (l : Launch) (D : va_G) (cA : Nat → ClassId) (ad : Nat → Nat) (o : Int64) (σ : Mem) (x1 : Int32)  (res : Mem × Int32) (h : F_X8_best σ x1 = some res) (sz : Nat) : Met l yX8_best (WY yX8_best cX8_best 7 (some .int)) (RM 9) (va_Pc [.ref (ad 91), .int x1] (PW D cA ad o σ sz)) (va_Qi (fun r σ9 => r = res.2 ∧ σ9 = res.1) (QW D cA ad o) (FA ad sz)) 0 0 (FA ad sz) := by
  refine ct_of (own := RX8) (k := 9) (Qf := va_Qi (fun r σ9 => r = res.2 ∧ σ9 = res.1) (QW D cA ad o)) rfl (by decide) (Nat.le_of_ble_eq_true rfl) (fun p e s m below meth c ls C0 X hr hlk hP hl => ?_) sz
  have hS : va_S (FA ad s.heap.size) s.heap s.heap [] := va_S.rf
  have hl : lv_has ls 7 [(0, .ref (ad 91)), (1, .int x1)] := hl
  obtain ⟨hx, hb, hml, hown, hts⟩ := id C0
  unfold F_X8_best at h
  refine lv_iload_n hx hb dX8_best_0 rfl (lv_at hl 1 rfl) ?_
  refine lv_i2l (v := (x1.toInt64)) hx hb dX8_best_1 rfl ?_
  refine lv_lconst (v := ((0 : Int32).toInt64)) hx hb dX8_best_2 (by decide) ?_
  refine lv_lconst (v := ((1 : Int32).toInt64)) hx hb dX8_best_3 (by decide) ?_
  refine r_ci X hS (r_runS (As := [.long (x1.toInt64), .long ((0 : Int32).toInt64), .long ((1 : Int32).toInt64)]) (rest := []) C0 X hP L_X8_53 (fun sz => c_X8_isIn l D cA ad o σ x1 0 1 sz) ⟨Nat.le_of_ble_eq_true rfl, Nat.le_of_ble_eq_true rfl⟩ rfl hl.1 rfl (Nat.le_of_ble_eq_true rfl) dX8_best_4 ⟨Nat.zero_le _, Nat.zero_le _⟩) (fun r9 σ9 H locs hw hP hS => ?_)
  rw [hw.2] at hP
  obtain ⟨⟨b_1, rfl⟩ | ⟨b_1, rfl⟩, -⟩ := hw
  · replace h := it_f h (inn b_1)
    refine lv_if_ne (tgt := 12) hx hb dX8_best_7 (by decide) (fun _ => ?_) (fun c_2 => absurd c_2 (by decide))
    refine lv_aload_n hx hb dX8_best_12 rfl (lv_at hl 0 rfl) ?_
    obtain ⟨r_3, er_3, h⟩ := bnd h
    refine r_ci X hS (r_runV (As := []) (rest := []) C0 X hP L_X8_221 (fun sz => c_X8_isEmpty l D cA ad o σ   r_3 er_3 sz) (show 91 < 106 ∧ kd 91 = (8, 24) from ⟨by decide, rfl⟩).1 (show 91 < 106 ∧ kd 91 = (8, 24) from ⟨by decide, rfl⟩).2 (by decide) rfl ⟨Nat.le_of_ble_eq_true rfl, Nat.le_of_ble_eq_true rfl⟩ rfl hl.1 rfl (Nat.le_of_ble_eq_true rfl) dX8_best_13 ⟨Nat.zero_le _, Nat.zero_le _⟩) (fun r9 σ9 H locs hw hP hS => ?_)
    rw [hw.2] at hP
    rw [hw.1]
    refine lv_if_eq (tgt := 22) hx hb dX8_best_16 (by decide) (fun c_4 => ?_) (fun c_4 => ?_)
    · replace h := it_t h c_4
      refine lv_aload_n hx hb dX8_best_22 rfl (lv_at hl 0 rfl) ?_
      refine gf_X8_9 C0 X hP 91 (q := 92) ⟨by decide, rfl⟩ (by omega) rfl dX8_best_23 ?_
      refine lv_iconst (v := 1) hx hb dX8_best_26 (by decide) ?_
      refine r_ialdN C0 X hP 92 (k := 1) ⟨by decide, rfl⟩ rfl (by decide) dX8_best_27 ?_
      refine lv_iconst (v := 4) hx hb dX8_best_28 (by decide) ?_
      refine lv_icmp_ge (tgt := 41) hx hb dX8_best_29 (by decide) (fun c_5 => ?_) (fun c_5 => ?_)
      · replace h := it_t h c_5
        refine lv_iconst (v := 4) hx hb dX8_best_41 (by decide) ?_
        refine lv_istore_n (lv' := [(2, .int 4), (0, .ref (ad 91)), (1, .int x1)]) hx hb dX8_best_42 rfl hl (by decide) rfl (fun ls hl => ?_)
        refine lv_bipush (v := (-4)) hx hb dX8_best_43 (by decide) ?_
        refine lv_istore_n (lv' := [(3, .int (-4)), (2, .int 4), (0, .ref (ad 91)), (1, .int x1)]) hx hb dX8_best_45 rfl hl (by decide) rfl (fun ls hl => ?_)
        refine lv_iconst (v := 0) hx hb dX8_best_46 (by decide) ?_
        refine lv_istore (lv' := [(4, .int 0), (3, .int (-4)), (2, .int 4), (0, .ref (ad 91)), (1, .int x1)]) hx hb dX8_best_47 hl (by decide) rfl (fun ls hl => ?_)
        refine lv_iconst (v := 0) hx hb dX8_best_49 (by decide) ?_
        refine lv_istore (lv' := [(5, .int 0), (4, .int 0), (3, .int (-4)), (2, .int 4), (0, .ref (ad 91)), (1, .int x1)]) hx hb dX8_best_50 hl (by decide) rfl (fun ls hl => ?_)
        have lp_6 : ∀ (nn52 : Nat) (σ : Mem) (v5 : Int32) (v4 : Int32) (v3 : Int32) (v2 : Int32) (H : Heap) (locs : List Loc) (ls : Array Slot), F_X8_best_52 x1 nn52 σ v5 v4 v3 v2 = some res → WP D cA ad o σ H → va_S (FA ad s.heap.size) s.heap H locs → lv_has ls 7 [(5, .int v5), (4, .int v4), (3, .int v3), (2, .int v2), (0, .ref (ad 91)), (1, .int x1)] → W p l e (RM 9) s m ([.ref (ad 91), .int x1] : List Value).toArray below meth c H locs 0 0 (MQ below (va_Qi (fun r σ9 => r = res.2 ∧ σ9 = res.1) (QW D cA ad o) (FA ad s.heap.size)) ([.ref (ad 91), .int x1] : List Value).toArray s 0 0 (FA ad s.heap.size)) (F0 m 52 ls []) := by
          intro nn52
          induction nn52 with
          | zero => intro σ v5 v4 v3 v2 H locs ls h hP hS hl; exact absurd (show none = some res from h) nofun
          | succ nn52 ih52 =>
            intro σ v5 v4 v3 v2 H locs ls h hP hS hl
            replace h := (F_X8_best_52.eq_2 _ _ _ _ _ _ _).symm.trans h
            refine lv_iload hx hb dX8_best_52 (lv_at hl 0 rfl) ?_
            refine lv_iconst (v := 1) hx hb dX8_best_54 (by decide) ?_
            refine lv_iconst (v := 2) hx hb dX8_best_55 (by decide) ?_
            refine lv_iload_n hx hb dX8_best_56 rfl (lv_at hl 3 rfl) ?_
            refine lv_imul hx hb dX8_best_57 ?_
            refine lv_ishl hx hb dX8_best_58 ?_
            refine lv_icmp_ge (tgt := 136) hx hb dX8_best_59 (by decide) (fun c_7 => ?_) (fun c_7 => ?_)
            · replace h := it_t h c_7
              refine lv_iload_n hx hb dX8_best_136 rfl (lv_at hl 5 rfl) ?_
              refine lv_if_ne (tgt := 144) hx hb dX8_best_137 (by decide) (fun c_8 => ?_) (fun c_8 => ?_)
              · replace h := it_f h c_8
                refine lv_iload hx hb dX8_best_144 (lv_at hl 1 rfl) ?_
                exact r_iret C0 X hP hS hr hlk dX8_best_146 (rt2 h)
              · replace h := it_t h c_8
                refine lv_iload_n hx hb dX8_best_140 rfl (lv_at hl 2 rfl) ?_
                refine lv_goto (tgt := 146) hx hb dX8_best_141 (by decide) ?_
                exact r_iret C0 X hP hS hr hlk dX8_best_146 (rt2 h)
            · replace h := it_f h c_7
              refine lv_aload_n hx hb dX8_best_62 rfl (lv_at hl 4 rfl) ?_
              obtain ⟨σ_9, eσ_9, h⟩ := bnd h
              refine r_cv X hS (r_runV (As := []) (rest := []) C0 X hP L_X8_244 (fun sz => c_X8_opens l D cA ad o σ   σ_9 eσ_9 sz) (show 91 < 106 ∧ kd 91 = (8, 24) from ⟨by decide, rfl⟩).1 (show 91 < 106 ∧ kd 91 = (8, 24) from ⟨by decide, rfl⟩).2 (by decide) rfl ⟨Nat.le_of_ble_eq_true rfl, Nat.le_of_ble_eq_true rfl⟩ rfl hl.1 rfl (Nat.le_of_ble_eq_true rfl) dX8_best_63 ⟨Nat.zero_le _, Nat.zero_le _⟩) (fun σ9 H locs hw hP hS => ?_)
              rw [show σ9 = σ_9 from hw] at hP
              refine lv_iconst (v := 0) hx hb dX8_best_66 (by decide) ?_
              refine lv_istore (lv' := [(6, .int 0), (5, .int v5), (4, .int v4), (3, .int v3), (2, .int v2), (0, .ref (ad 91)), (1, .int x1)]) hx hb dX8_best_67 hl (by decide) rfl (fun ls hl => ?_)
              have lp_10 : ∀ (nn69 : Nat) (σ : Mem) (v6 : Int32) (v5 : Int32) (v4 : Int32) (v3 : Int32) (v2 : Int32) (H : Heap) (locs : List Loc) (ls : Array Slot), F_X8_best_69 x1 (fun σ v5 v4 v3 v2 => F_X8_best_52 x1 nn52 σ v5 v4 v3 v2) nn69 σ v6 v5 v4 v3 v2 = some res → WP D cA ad o σ H → va_S (FA ad s.heap.size) s.heap H locs → lv_has ls 7 [(6, .int v6), (5, .int v5), (4, .int v4), (3, .int v3), (2, .int v2), (0, .ref (ad 91)), (1, .int x1)] → W p l e (RM 9) s m ([.ref (ad 91), .int x1] : List Value).toArray below meth c H locs 0 0 (MQ below (va_Qi (fun r σ9 => r = res.2 ∧ σ9 = res.1) (QW D cA ad o) (FA ad s.heap.size)) ([.ref (ad 91), .int x1] : List Value).toArray s 0 0 (FA ad s.heap.size)) (F0 m 69 ls []) := by
                intro nn69
                induction nn69 with
                | zero => intro σ v6 v5 v4 v3 v2 H locs ls h hP hS hl; exact absurd (show none = some res from h) nofun
                | succ nn69 ih69 =>
                  intro σ v6 v5 v4 v3 v2 H locs ls h hP hS hl
                  replace h := (F_X8_best_69.eq_2 _ _ _ _ _ _ _ _ _).symm.trans h
                  refine lv_iload hx hb dX8_best_69 (lv_at hl 0 rfl) ?_
                  refine lv_iload_n hx hb dX8_best_71 rfl (lv_at hl 4 rfl) ?_
                  refine lv_icmp_ge (tgt := 103) hx hb dX8_best_72 (by decide) (fun c_11 => ?_) (fun c_11 => ?_)
                  · replace h := it_t h c_11
                    refine lv_aload_n hx hb dX8_best_103 rfl (lv_at hl 5 rfl) ?_
                    obtain ⟨σ_12, r_13, eσ_12, h⟩ := bnd2 h
                    refine r_ci X hS (r_runV (As := []) (rest := []) C0 X hP L_X8_247 (fun sz => c_X8_costs l D cA ad o σ   (σ_12, r_13) eσ_12 sz) (show 91 < 106 ∧ kd 91 = (8, 24) from ⟨by decide, rfl⟩).1 (show 91 < 106 ∧ kd 91 = (8, 24) from ⟨by decide, rfl⟩).2 (by decide) rfl ⟨Nat.le_of_ble_eq_true rfl, Nat.le_of_ble_eq_true rfl⟩ rfl hl.1 rfl (Nat.le_of_ble_eq_true rfl) dX8_best_104 ⟨Nat.zero_le _, Nat.zero_le _⟩) (fun r9 σ9 H locs hw hP hS => ?_)
                    rw [show σ9 = σ_12 from hw.2] at hP
                    rw [show r9 = r_13 from hw.1]
                    refine lv_istore (lv' := [(6, .int r_13), (5, .int v5), (4, .int v4), (3, .int v3), (2, .int v2), (0, .ref (ad 91)), (1, .int x1)]) hx hb dX8_best_107 hl (by decide) rfl (fun ls hl => ?_)
                    refine lv_iload_n hx hb dX8_best_109 rfl (lv_at hl 3 rfl) ?_
                    refine lv_if_lt (tgt := 123) hx hb dX8_best_110 (by decide) (fun c_14 => ?_) (fun c_14 => ?_)
                    · replace h := it_t h c_14
                      refine lv_iload hx hb dX8_best_123 (lv_at hl 1 rfl) ?_
                      refine lv_istore_n (lv' := [(3, .int v5), (6, .int r_13), (5, .int v5), (4, .int v4), (2, .int v2), (0, .ref (ad 91)), (1, .int x1)]) hx hb dX8_best_125 rfl hl (by decide) rfl (fun ls hl => ?_)
                      refine lv_iload hx hb dX8_best_126 (lv_at hl 1 rfl) ?_
                      refine lv_istore (lv' := [(4, .int r_13), (3, .int v5), (6, .int r_13), (5, .int v5), (2, .int v2), (0, .ref (ad 91)), (1, .int x1)]) hx hb dX8_best_128 hl (by decide) rfl (fun ls hl => ?_)
                      refine lv_iinc (v := (v5 + 1)) (lv' := [(5, .int (v5 + 1)), (4, .int r_13), (3, .int v5), (6, .int r_13), (2, .int v2), (0, .ref (ad 91)), (1, .int x1)]) hx hb dX8_best_130 hl (k := 3) rfl rfl (by decide) rfl (fun ls hl => ?_)
                      refine lv_goto (tgt := 52) hx hb dX8_best_133 (by decide) ?_
                      exact ih52 σ_12 (v5 + 1) r_13 v5 v2 _ _ ls  h hP hS (lv_sub hl [0, 1, 2, 4, 5, 6] rfl)
                    · replace h := it_f h c_14
                      refine lv_iload hx hb dX8_best_113 (lv_at hl 0 rfl) ?_
                      refine lv_iload hx hb dX8_best_115 (lv_at hl 2 rfl) ?_
                      refine lv_icmp_lt (tgt := 123) hx hb dX8_best_117 (by decide) (fun c_15 => ?_) (fun c_15 => ?_)
                      · replace h := it_t h c_15
                        refine lv_iload hx hb dX8_best_123 (lv_at hl 1 rfl) ?_
                        refine lv_istore_n (lv' := [(3, .int v5), (6, .int r_13), (5, .int v5), (4, .int v4), (2, .int v2), (0, .ref (ad 91)), (1, .int x1)]) hx hb dX8_best_125 rfl hl (by decide) rfl (fun ls hl => ?_)
                        refine lv_iload hx hb dX8_best_126 (lv_at hl 1 rfl) ?_
                        refine lv_istore (lv' := [(4, .int r_13), (3, .int v5), (6, .int r_13), (5, .int v5), (2, .int v2), (0, .ref (ad 91)), (1, .int x1)]) hx hb dX8_best_128 hl (by decide) rfl (fun ls hl => ?_)
                        refine lv_iinc (v := (v5 + 1)) (lv' := [(5, .int (v5 + 1)), (4, .int r_13), (3, .int v5), (6, .int r_13), (2, .int v2), (0, .ref (ad 91)), (1, .int x1)]) hx hb dX8_best_130 hl (k := 3) rfl rfl (by decide) rfl (fun ls hl => ?_)
                        refine lv_goto (tgt := 52) hx hb dX8_best_133 (by decide) ?_
                        exact ih52 σ_12 (v5 + 1) r_13 v5 v2 _ _ ls  h hP hS (lv_sub hl [0, 1, 2, 4, 5, 6] rfl)
                      · replace h := it_f h c_15
                        refine lv_goto (tgt := 130) hx hb dX8_best_120 (by decide) ?_
                        refine lv_iinc (v := (v5 + 1)) (lv' := [(5, .int (v5 + 1)), (6, .int r_13), (4, .int v4), (3, .int v3), (2, .int v2), (0, .ref (ad 91)), (1, .int x1)]) hx hb dX8_best_130 hl (k := 1) rfl rfl (by decide) rfl (fun ls hl => ?_)
                        refine lv_goto (tgt := 52) hx hb dX8_best_133 (by decide) ?_
                        exact ih52 σ_12 (v5 + 1) v4 v3 v2 _ _ ls  h hP hS (lv_sub hl [0, 2, 3, 4, 5, 6] rfl)
                  · replace h := it_f h c_11
                    refine lv_aload_n hx hb dX8_best_75 rfl (lv_at hl 5 rfl) ?_
                    refine gf_X8_16 C0 X hP 91 (q := 94) ⟨by decide, rfl⟩ (by omega) rfl dX8_best_76 ?_
                    refine lv_iload hx hb dX8_best_79 (lv_at hl 0 rfl) ?_
                    refine lv_bipush (v := 10) hx hb dX8_best_81 (by decide) ?_
                    refine lv_iconst (v := 5) hx hb dX8_best_83 (by decide) ?_
                    refine lv_iload hx hb dX8_best_84 (lv_at hl 1 rfl) ?_
                    refine lv_iconst (v := 2) hx hb dX8_best_86 (by decide) ?_
                    refine lv_iload hx hb dX8_best_87 (lv_at hl 0 rfl) ?_
                    refine lv_imul hx hb dX8_best_89 ?_
                    refine lv_ishr hx hb dX8_best_90 ?_
                    refine lv_iconst (v := 3) hx hb dX8_best_91 (by decide) ?_
                    refine lv_iand hx hb dX8_best_92 ?_
                    refine lv_imul hx hb dX8_best_93 ?_
                    obtain ⟨σ_16, eσ_16, h⟩ := bnd h
                    refine r_cv X hS (r_runS (As := [.ref (ad 94), .int v6, .int 10, .int (5 * ((v5 >>> ((2 * v6) &&& 31)) &&& 3))]) (rest := []) C0 X hP L_X8_97 (fun sz => c_X8_puts l D cA ad o σ 94 v6 10 (5 * ((v5 >>> ((2 * v6) &&& 31)) &&& 3)) ⟨by decide, rfl⟩ σ_16 eσ_16 sz) ⟨Nat.le_of_ble_eq_true rfl, Nat.le_of_ble_eq_true rfl⟩ rfl hl.1 rfl (Nat.le_of_ble_eq_true rfl) dX8_best_94 ⟨Nat.zero_le _, Nat.zero_le _⟩) (fun σ9 H locs hw hP hS => ?_)
                    rw [show σ9 = σ_16 from hw] at hP
                    refine lv_iinc (v := (v6 + 1)) (lv' := [(6, .int (v6 + 1)), (5, .int v5), (4, .int v4), (3, .int v3), (2, .int v2), (0, .ref (ad 91)), (1, .int x1)]) hx hb dX8_best_97 hl (k := 0) rfl rfl (by decide) rfl (fun ls hl => ?_)
                    refine lv_goto (tgt := 69) hx hb dX8_best_100 (by decide) ?_
                    exact ih69 σ_16 (v6 + 1) v5 v4 v3 v2 _ _ ls  h hP hS (lv_sub hl [0, 1, 2, 3, 4, 5, 6] rfl)
              exact lp_10 FU σ_9 0 v5 v4 v3 v2 _ _ ls  h hP hS (lv_sub hl [0, 1, 2, 3, 4, 5, 6] rfl)
        exact lp_6 FU σ 0 0 (-4) 4 _ _ ls  h hP hS (lv_sub hl [0, 1, 2, 3, 4, 5] rfl)
      · replace h := it_f h c_5
        refine lv_aload_n hx hb dX8_best_32 rfl (lv_at hl 0 rfl) ?_
        refine gf_X8_9 C0 X hP 91 (q := 92) ⟨by decide, rfl⟩ (by omega) rfl dX8_best_33 ?_
        refine lv_iconst (v := 1) hx hb dX8_best_36 (by decide) ?_
        refine r_ialdN C0 X hP 92 (k := 1) ⟨by decide, rfl⟩ rfl (by decide) dX8_best_37 ?_
        refine lv_goto (tgt := 42) hx hb dX8_best_38 (by decide) ?_
        refine lv_istore_n (lv' := [(2, .int (σ 92 1)), (0, .ref (ad 91)), (1, .int x1)]) hx hb dX8_best_42 rfl hl (by decide) rfl (fun ls hl => ?_)
        refine lv_bipush (v := (-4)) hx hb dX8_best_43 (by decide) ?_
        refine lv_istore_n (lv' := [(3, .int (-4)), (2, .int (σ 92 1)), (0, .ref (ad 91)), (1, .int x1)]) hx hb dX8_best_45 rfl hl (by decide) rfl (fun ls hl => ?_)
        refine lv_iconst (v := 0) hx hb dX8_best_46 (by decide) ?_
        refine lv_istore (lv' := [(4, .int 0), (3, .int (-4)), (2, .int (σ 92 1)), (0, .ref (ad 91)), (1, .int x1)]) hx hb dX8_best_47 hl (by decide) rfl (fun ls hl => ?_)
        refine lv_iconst (v := 0) hx hb dX8_best_49 (by decide) ?_
        refine lv_istore (lv' := [(5, .int 0), (4, .int 0), (3, .int (-4)), (2, .int (σ 92 1)), (0, .ref (ad 91)), (1, .int x1)]) hx hb dX8_best_50 hl (by decide) rfl (fun ls hl => ?_)
        have lp_17 : ∀ (nn52 : Nat) (σ : Mem) (v5 : Int32) (v4 : Int32) (v3 : Int32) (v2 : Int32) (H : Heap) (locs : List Loc) (ls : Array Slot), F_X8_best_52b x1 nn52 σ v5 v4 v3 v2 = some res → WP D cA ad o σ H → va_S (FA ad s.heap.size) s.heap H locs → lv_has ls 7 [(5, .int v5), (4, .int v4), (3, .int v3), (2, .int v2), (0, .ref (ad 91)), (1, .int x1)] → W p l e (RM 9) s m ([.ref (ad 91), .int x1] : List Value).toArray below meth c H locs 0 0 (MQ below (va_Qi (fun r σ9 => r = res.2 ∧ σ9 = res.1) (QW D cA ad o) (FA ad s.heap.size)) ([.ref (ad 91), .int x1] : List Value).toArray s 0 0 (FA ad s.heap.size)) (F0 m 52 ls []) := by
          intro nn52
          induction nn52 with
          | zero => intro σ v5 v4 v3 v2 H locs ls h hP hS hl; exact absurd (show none = some res from h) nofun
          | succ nn52 ih52 =>
            intro σ v5 v4 v3 v2 H locs ls h hP hS hl
            replace h := (F_X8_best_52b.eq_2 _ _ _ _ _ _ _).symm.trans h
            refine lv_iload hx hb dX8_best_52 (lv_at hl 0 rfl) ?_
            refine lv_iconst (v := 1) hx hb dX8_best_54 (by decide) ?_
            refine lv_iconst (v := 2) hx hb dX8_best_55 (by decide) ?_
            refine lv_iload_n hx hb dX8_best_56 rfl (lv_at hl 3 rfl) ?_
            refine lv_imul hx hb dX8_best_57 ?_
            refine lv_ishl hx hb dX8_best_58 ?_
            refine lv_icmp_ge (tgt := 136) hx hb dX8_best_59 (by decide) (fun c_18 => ?_) (fun c_18 => ?_)
            · replace h := it_t h c_18
              refine lv_iload_n hx hb dX8_best_136 rfl (lv_at hl 5 rfl) ?_
              refine lv_if_ne (tgt := 144) hx hb dX8_best_137 (by decide) (fun c_19 => ?_) (fun c_19 => ?_)
              · replace h := it_f h c_19
                refine lv_iload hx hb dX8_best_144 (lv_at hl 1 rfl) ?_
                exact r_iret C0 X hP hS hr hlk dX8_best_146 (rt2 h)
              · replace h := it_t h c_19
                refine lv_iload_n hx hb dX8_best_140 rfl (lv_at hl 2 rfl) ?_
                refine lv_goto (tgt := 146) hx hb dX8_best_141 (by decide) ?_
                exact r_iret C0 X hP hS hr hlk dX8_best_146 (rt2 h)
            · replace h := it_f h c_18
              refine lv_aload_n hx hb dX8_best_62 rfl (lv_at hl 4 rfl) ?_
              obtain ⟨σ_20, eσ_20, h⟩ := bnd h
              refine r_cv X hS (r_runV (As := []) (rest := []) C0 X hP L_X8_244 (fun sz => c_X8_opens l D cA ad o σ   σ_20 eσ_20 sz) (show 91 < 106 ∧ kd 91 = (8, 24) from ⟨by decide, rfl⟩).1 (show 91 < 106 ∧ kd 91 = (8, 24) from ⟨by decide, rfl⟩).2 (by decide) rfl ⟨Nat.le_of_ble_eq_true rfl, Nat.le_of_ble_eq_true rfl⟩ rfl hl.1 rfl (Nat.le_of_ble_eq_true rfl) dX8_best_63 ⟨Nat.zero_le _, Nat.zero_le _⟩) (fun σ9 H locs hw hP hS => ?_)
              rw [show σ9 = σ_20 from hw] at hP
              refine lv_iconst (v := 0) hx hb dX8_best_66 (by decide) ?_
              refine lv_istore (lv' := [(6, .int 0), (5, .int v5), (4, .int v4), (3, .int v3), (2, .int v2), (0, .ref (ad 91)), (1, .int x1)]) hx hb dX8_best_67 hl (by decide) rfl (fun ls hl => ?_)
              have lp_21 : ∀ (nn69 : Nat) (σ : Mem) (v6 : Int32) (v5 : Int32) (v4 : Int32) (v3 : Int32) (v2 : Int32) (H : Heap) (locs : List Loc) (ls : Array Slot), F_X8_best_69b x1 (fun σ v5 v4 v3 v2 => F_X8_best_52b x1 nn52 σ v5 v4 v3 v2) nn69 σ v6 v5 v4 v3 v2 = some res → WP D cA ad o σ H → va_S (FA ad s.heap.size) s.heap H locs → lv_has ls 7 [(6, .int v6), (5, .int v5), (4, .int v4), (3, .int v3), (2, .int v2), (0, .ref (ad 91)), (1, .int x1)] → W p l e (RM 9) s m ([.ref (ad 91), .int x1] : List Value).toArray below meth c H locs 0 0 (MQ below (va_Qi (fun r σ9 => r = res.2 ∧ σ9 = res.1) (QW D cA ad o) (FA ad s.heap.size)) ([.ref (ad 91), .int x1] : List Value).toArray s 0 0 (FA ad s.heap.size)) (F0 m 69 ls []) := by
                intro nn69
                induction nn69 with
                | zero => intro σ v6 v5 v4 v3 v2 H locs ls h hP hS hl; exact absurd (show none = some res from h) nofun
                | succ nn69 ih69 =>
                  intro σ v6 v5 v4 v3 v2 H locs ls h hP hS hl
                  replace h := (F_X8_best_69b.eq_2 _ _ _ _ _ _ _ _ _).symm.trans h
                  refine lv_iload hx hb dX8_best_69 (lv_at hl 0 rfl) ?_
                  refine lv_iload_n hx hb dX8_best_71 rfl (lv_at hl 4 rfl) ?_
                  refine lv_icmp_ge (tgt := 103) hx hb dX8_best_72 (by decide) (fun c_22 => ?_) (fun c_22 => ?_)
                  · replace h := it_t h c_22
                    refine lv_aload_n hx hb dX8_best_103 rfl (lv_at hl 5 rfl) ?_
                    obtain ⟨σ_23, r_24, eσ_23, h⟩ := bnd2 h
                    refine r_ci X hS (r_runV (As := []) (rest := []) C0 X hP L_X8_247 (fun sz => c_X8_costs l D cA ad o σ   (σ_23, r_24) eσ_23 sz) (show 91 < 106 ∧ kd 91 = (8, 24) from ⟨by decide, rfl⟩).1 (show 91 < 106 ∧ kd 91 = (8, 24) from ⟨by decide, rfl⟩).2 (by decide) rfl ⟨Nat.le_of_ble_eq_true rfl, Nat.le_of_ble_eq_true rfl⟩ rfl hl.1 rfl (Nat.le_of_ble_eq_true rfl) dX8_best_104 ⟨Nat.zero_le _, Nat.zero_le _⟩) (fun r9 σ9 H locs hw hP hS => ?_)
                    rw [show σ9 = σ_23 from hw.2] at hP
                    rw [show r9 = r_24 from hw.1]
                    refine lv_istore (lv' := [(6, .int r_24), (5, .int v5), (4, .int v4), (3, .int v3), (2, .int v2), (0, .ref (ad 91)), (1, .int x1)]) hx hb dX8_best_107 hl (by decide) rfl (fun ls hl => ?_)
                    refine lv_iload_n hx hb dX8_best_109 rfl (lv_at hl 3 rfl) ?_
                    refine lv_if_lt (tgt := 123) hx hb dX8_best_110 (by decide) (fun c_25 => ?_) (fun c_25 => ?_)
                    · replace h := it_t h c_25
                      refine lv_iload hx hb dX8_best_123 (lv_at hl 1 rfl) ?_
                      refine lv_istore_n (lv' := [(3, .int v5), (6, .int r_24), (5, .int v5), (4, .int v4), (2, .int v2), (0, .ref (ad 91)), (1, .int x1)]) hx hb dX8_best_125 rfl hl (by decide) rfl (fun ls hl => ?_)
                      refine lv_iload hx hb dX8_best_126 (lv_at hl 1 rfl) ?_
                      refine lv_istore (lv' := [(4, .int r_24), (3, .int v5), (6, .int r_24), (5, .int v5), (2, .int v2), (0, .ref (ad 91)), (1, .int x1)]) hx hb dX8_best_128 hl (by decide) rfl (fun ls hl => ?_)
                      refine lv_iinc (v := (v5 + 1)) (lv' := [(5, .int (v5 + 1)), (4, .int r_24), (3, .int v5), (6, .int r_24), (2, .int v2), (0, .ref (ad 91)), (1, .int x1)]) hx hb dX8_best_130 hl (k := 3) rfl rfl (by decide) rfl (fun ls hl => ?_)
                      refine lv_goto (tgt := 52) hx hb dX8_best_133 (by decide) ?_
                      exact ih52 σ_23 (v5 + 1) r_24 v5 v2 _ _ ls  h hP hS (lv_sub hl [0, 1, 2, 4, 5, 6] rfl)
                    · replace h := it_f h c_25
                      refine lv_iload hx hb dX8_best_113 (lv_at hl 0 rfl) ?_
                      refine lv_iload hx hb dX8_best_115 (lv_at hl 2 rfl) ?_
                      refine lv_icmp_lt (tgt := 123) hx hb dX8_best_117 (by decide) (fun c_26 => ?_) (fun c_26 => ?_)
                      · replace h := it_t h c_26
                        refine lv_iload hx hb dX8_best_123 (lv_at hl 1 rfl) ?_
                        refine lv_istore_n (lv' := [(3, .int v5), (6, .int r_24), (5, .int v5), (4, .int v4), (2, .int v2), (0, .ref (ad 91)), (1, .int x1)]) hx hb dX8_best_125 rfl hl (by decide) rfl (fun ls hl => ?_)
                        refine lv_iload hx hb dX8_best_126 (lv_at hl 1 rfl) ?_
                        refine lv_istore (lv' := [(4, .int r_24), (3, .int v5), (6, .int r_24), (5, .int v5), (2, .int v2), (0, .ref (ad 91)), (1, .int x1)]) hx hb dX8_best_128 hl (by decide) rfl (fun ls hl => ?_)
                        refine lv_iinc (v := (v5 + 1)) (lv' := [(5, .int (v5 + 1)), (4, .int r_24), (3, .int v5), (6, .int r_24), (2, .int v2), (0, .ref (ad 91)), (1, .int x1)]) hx hb dX8_best_130 hl (k := 3) rfl rfl (by decide) rfl (fun ls hl => ?_)
                        refine lv_goto (tgt := 52) hx hb dX8_best_133 (by decide) ?_
                        exact ih52 σ_23 (v5 + 1) r_24 v5 v2 _ _ ls  h hP hS (lv_sub hl [0, 1, 2, 4, 5, 6] rfl)
                      · replace h := it_f h c_26
                        refine lv_goto (tgt := 130) hx hb dX8_best_120 (by decide) ?_
                        refine lv_iinc (v := (v5 + 1)) (lv' := [(5, .int (v5 + 1)), (6, .int r_24), (4, .int v4), (3, .int v3), (2, .int v2), (0, .ref (ad 91)), (1, .int x1)]) hx hb dX8_best_130 hl (k := 1) rfl rfl (by decide) rfl (fun ls hl => ?_)
                        refine lv_goto (tgt := 52) hx hb dX8_best_133 (by decide) ?_
                        exact ih52 σ_23 (v5 + 1) v4 v3 v2 _ _ ls  h hP hS (lv_sub hl [0, 2, 3, 4, 5, 6] rfl)
                  · replace h := it_f h c_22
                    refine lv_aload_n hx hb dX8_best_75 rfl (lv_at hl 5 rfl) ?_
                    refine gf_X8_16 C0 X hP 91 (q := 94) ⟨by decide, rfl⟩ (by omega) rfl dX8_best_76 ?_
                    refine lv_iload hx hb dX8_best_79 (lv_at hl 0 rfl) ?_
                    refine lv_bipush (v := 10) hx hb dX8_best_81 (by decide) ?_
                    refine lv_iconst (v := 5) hx hb dX8_best_83 (by decide) ?_
                    refine lv_iload hx hb dX8_best_84 (lv_at hl 1 rfl) ?_
                    refine lv_iconst (v := 2) hx hb dX8_best_86 (by decide) ?_
                    refine lv_iload hx hb dX8_best_87 (lv_at hl 0 rfl) ?_
                    refine lv_imul hx hb dX8_best_89 ?_
                    refine lv_ishr hx hb dX8_best_90 ?_
                    refine lv_iconst (v := 3) hx hb dX8_best_91 (by decide) ?_
                    refine lv_iand hx hb dX8_best_92 ?_
                    refine lv_imul hx hb dX8_best_93 ?_
                    obtain ⟨σ_27, eσ_27, h⟩ := bnd h
                    refine r_cv X hS (r_runS (As := [.ref (ad 94), .int v6, .int 10, .int (5 * ((v5 >>> ((2 * v6) &&& 31)) &&& 3))]) (rest := []) C0 X hP L_X8_97 (fun sz => c_X8_puts l D cA ad o σ 94 v6 10 (5 * ((v5 >>> ((2 * v6) &&& 31)) &&& 3)) ⟨by decide, rfl⟩ σ_27 eσ_27 sz) ⟨Nat.le_of_ble_eq_true rfl, Nat.le_of_ble_eq_true rfl⟩ rfl hl.1 rfl (Nat.le_of_ble_eq_true rfl) dX8_best_94 ⟨Nat.zero_le _, Nat.zero_le _⟩) (fun σ9 H locs hw hP hS => ?_)
                    rw [show σ9 = σ_27 from hw] at hP
                    refine lv_iinc (v := (v6 + 1)) (lv' := [(6, .int (v6 + 1)), (5, .int v5), (4, .int v4), (3, .int v3), (2, .int v2), (0, .ref (ad 91)), (1, .int x1)]) hx hb dX8_best_97 hl (k := 0) rfl rfl (by decide) rfl (fun ls hl => ?_)
                    refine lv_goto (tgt := 69) hx hb dX8_best_100 (by decide) ?_
                    exact ih69 σ_27 (v6 + 1) v5 v4 v3 v2 _ _ ls  h hP hS (lv_sub hl [0, 1, 2, 3, 4, 5, 6] rfl)
              exact lp_21 FU σ_20 0 v5 v4 v3 v2 _ _ ls  h hP hS (lv_sub hl [0, 1, 2, 3, 4, 5, 6] rfl)
        exact lp_17 FU σ 0 0 (-4) (σ 92 1) _ _ ls  h hP hS (lv_sub hl [0, 1, 2, 3, 4, 5] rfl)
    · replace h := it_f h c_4
      refine lv_bipush (v := (-3)) hx hb dX8_best_19 (by decide) ?_
      exact r_iret C0 X hP hS hr hlk dX8_best_21 (rt2 h)
  · replace h := it_t h b_1
    refine lv_if_ne (tgt := 12) hx hb dX8_best_7 (by decide) (fun c_28 => absurd c_28 (by decide)) (fun _ => ?_)
    refine lv_iconst (v := (-1)) hx hb dX8_best_10 (by decide) ?_
    exact r_iret C0 X hP hS hr hlk dX8_best_11 (rt2 h)
def bB_cX8_more : Nat := 0xac1d0400a71c07009a1b07009b1cb8ffa70104843e05153d04150900a70600a11d05150c009b1c0536f700b62a4f60042e5c600415081000b42af400b62a2d00a70600a0072e600415080900b42a4300a22e030900b42a04150436043e033dfc10acfd10060099dd00b62aac0205009a3500b80a09851b
theorem yB_cX8_more : BYS cX8_more 119 bB_cX8_more := BYS_of (by decide +kernel)
theorem dX8_more_0 : decode cX8_more 0 = .ok (.iload_n 1, 1) := D_27 yB_cX8_more rfl rfl
theorem dX8_more_1 : decode cX8_more 1 = .ok (.i2l, 1) := D_133 yB_cX8_more rfl rfl
theorem dX8_more_2 : decode cX8_more 2 = .ok (.lconst 0, 1) := D_9 yB_cX8_more rfl rfl
theorem dX8_more_3 : decode cX8_more 3 = .ok (.lconst 1, 1) := D_10 yB_cX8_more rfl rfl
theorem dX8_more_4 : decode cX8_more 4 = .ok (.invokestatic 53, 3) := D_184 yB_cX8_more rfl rfl rfl
theorem dX8_more_7 : decode cX8_more 7 = .ok (.ifCond .ne 5, 3) := D_154 yB_cX8_more rfl rfl (sg_p (m := 32768) (N := 5) rfl rfl rfl)
theorem dX8_more_10 : decode cX8_more 10 = .ok (.iconst (-1), 1) := D_2 yB_cX8_more rfl rfl
theorem dX8_more_11 : decode cX8_more 11 = .ok (.ireturn, 1) := D_172 yB_cX8_more rfl rfl
theorem dX8_more_12 : decode cX8_more 12 = .ok (.aload_n 0, 1) := D_42 yB_cX8_more rfl rfl
theorem dX8_more_13 : decode cX8_more 13 = .ok (.invokevirtual 221, 3) := D_182 yB_cX8_more rfl rfl rfl
theorem dX8_more_16 : decode cX8_more 16 = .ok (.ifCond .eq 6, 3) := D_153 yB_cX8_more rfl rfl (sg_p (m := 32768) (N := 6) rfl rfl rfl)
theorem dX8_more_19 : decode cX8_more 19 = .ok (.bipush (-3), 2) := D_16 yB_cX8_more rfl rfl (sg_n (m := 128) (N := 3) rfl rfl rfl)
theorem dX8_more_21 : decode cX8_more 21 = .ok (.ireturn, 1) := D_172 yB_cX8_more rfl rfl
theorem dX8_more_22 : decode cX8_more 22 = .ok (.bipush (-4), 2) := D_16 yB_cX8_more rfl rfl (sg_n (m := 128) (N := 4) rfl rfl rfl)
theorem dX8_more_24 : decode cX8_more 24 = .ok (.istore_n 2, 1) := D_61 yB_cX8_more rfl rfl
theorem dX8_more_25 : decode cX8_more 25 = .ok (.iconst 0, 1) := D_3 yB_cX8_more rfl rfl
theorem dX8_more_26 : decode cX8_more 26 = .ok (.istore_n 3, 1) := D_62 yB_cX8_more rfl rfl
theorem dX8_more_27 : decode cX8_more 27 = .ok (.iconst 1, 1) := D_4 yB_cX8_more rfl rfl
theorem dX8_more_28 : decode cX8_more 28 = .ok (.istore 4, 2) := D_54 yB_cX8_more rfl rfl rfl
theorem dX8_more_30 : decode cX8_more 30 = .ok (.iload 4, 2) := D_21 yB_cX8_more rfl rfl rfl
theorem dX8_more_32 : decode cX8_more 32 = .ok (.aload_n 0, 1) := D_42 yB_cX8_more rfl rfl
theorem dX8_more_33 : decode cX8_more 33 = .ok (.getfield 9, 3) := D_180 yB_cX8_more rfl rfl rfl
theorem dX8_more_36 : decode cX8_more 36 = .ok (.iconst 0, 1) := D_3 yB_cX8_more rfl rfl
theorem dX8_more_37 : decode cX8_more 37 = .ok (.iaload, 1) := D_46 yB_cX8_more rfl rfl
theorem dX8_more_38 : decode cX8_more 38 = .ok (.if_icmp .ge 67, 3) := D_162 yB_cX8_more rfl rfl (sg_p (m := 32768) (N := 67) rfl rfl rfl)
theorem dX8_more_41 : decode cX8_more 41 = .ok (.aload_n 0, 1) := D_42 yB_cX8_more rfl rfl
theorem dX8_more_42 : decode cX8_more 42 = .ok (.getfield 9, 3) := D_180 yB_cX8_more rfl rfl rfl
theorem dX8_more_45 : decode cX8_more 45 = .ok (.iconst 5, 1) := D_8 yB_cX8_more rfl rfl
theorem dX8_more_46 : decode cX8_more 46 = .ok (.iload 4, 2) := D_21 yB_cX8_more rfl rfl rfl
theorem dX8_more_48 : decode cX8_more 48 = .ok (.iadd, 1) := D_96 yB_cX8_more rfl rfl
theorem dX8_more_49 : decode cX8_more 49 = .ok (.iaload, 1) := D_46 yB_cX8_more rfl rfl
theorem dX8_more_50 : decode cX8_more 50 = .ok (.iconst 4, 1) := D_7 yB_cX8_more rfl rfl
theorem dX8_more_51 : decode cX8_more 51 = .ok (.if_icmp .ne 6, 3) := D_160 yB_cX8_more rfl rfl (sg_p (m := 32768) (N := 6) rfl rfl rfl)
theorem dX8_more_54 : decode cX8_more 54 = .ok (.goto 45, 3) := D_167 yB_cX8_more rfl rfl (sg_p (m := 32768) (N := 45) rfl rfl rfl)
theorem dX8_more_57 : decode cX8_more 57 = .ok (.aload_n 0, 1) := D_42 yB_cX8_more rfl rfl
theorem dX8_more_58 : decode cX8_more 58 = .ok (.invokevirtual 244, 3) := D_182 yB_cX8_more rfl rfl rfl
theorem dX8_more_61 : decode cX8_more 61 = .ok (.aload_n 0, 1) := D_42 yB_cX8_more rfl rfl
theorem dX8_more_62 : decode cX8_more 62 = .ok (.getfield 16, 3) := D_180 yB_cX8_more rfl rfl rfl
theorem dX8_more_65 : decode cX8_more 65 = .ok (.iconst 5, 1) := D_8 yB_cX8_more rfl rfl
theorem dX8_more_66 : decode cX8_more 66 = .ok (.iload 4, 2) := D_21 yB_cX8_more rfl rfl rfl
theorem dX8_more_68 : decode cX8_more 68 = .ok (.iadd, 1) := D_96 yB_cX8_more rfl rfl
theorem dX8_more_69 : decode cX8_more 69 = .ok (.dup2, 1) := D_92 yB_cX8_more rfl rfl
theorem dX8_more_70 : decode cX8_more 70 = .ok (.iaload, 1) := D_46 yB_cX8_more rfl rfl
theorem dX8_more_71 : decode cX8_more 71 = .ok (.iconst 1, 1) := D_4 yB_cX8_more rfl rfl
theorem dX8_more_72 : decode cX8_more 72 = .ok (.iadd, 1) := D_96 yB_cX8_more rfl rfl
theorem dX8_more_73 : decode cX8_more 73 = .ok (.iastore, 1) := D_79 yB_cX8_more rfl rfl
theorem dX8_more_74 : decode cX8_more 74 = .ok (.aload_n 0, 1) := D_42 yB_cX8_more rfl rfl
theorem dX8_more_75 : decode cX8_more 75 = .ok (.invokevirtual 247, 3) := D_182 yB_cX8_more rfl rfl rfl
theorem dX8_more_78 : decode cX8_more 78 = .ok (.istore 5, 2) := D_54 yB_cX8_more rfl rfl rfl
theorem dX8_more_80 : decode cX8_more 80 = .ok (.iload_n 2, 1) := D_28 yB_cX8_more rfl rfl
theorem dX8_more_81 : decode cX8_more 81 = .ok (.ifCond .lt 12, 3) := D_155 yB_cX8_more rfl rfl (sg_p (m := 32768) (N := 12) rfl rfl rfl)
theorem dX8_more_84 : decode cX8_more 84 = .ok (.iload 5, 2) := D_21 yB_cX8_more rfl rfl rfl
theorem dX8_more_86 : decode cX8_more 86 = .ok (.iload_n 3, 1) := D_29 yB_cX8_more rfl rfl
theorem dX8_more_87 : decode cX8_more 87 = .ok (.if_icmp .lt 6, 3) := D_161 yB_cX8_more rfl rfl (sg_p (m := 32768) (N := 6) rfl rfl rfl)
theorem dX8_more_90 : decode cX8_more 90 = .ok (.goto 9, 3) := D_167 yB_cX8_more rfl rfl (sg_p (m := 32768) (N := 9) rfl rfl rfl)
theorem dX8_more_93 : decode cX8_more 93 = .ok (.iload 4, 2) := D_21 yB_cX8_more rfl rfl rfl
theorem dX8_more_95 : decode cX8_more 95 = .ok (.istore_n 2, 1) := D_61 yB_cX8_more rfl rfl
theorem dX8_more_96 : decode cX8_more 96 = .ok (.iload 5, 2) := D_21 yB_cX8_more rfl rfl rfl
theorem dX8_more_98 : decode cX8_more 98 = .ok (.istore_n 3, 1) := D_62 yB_cX8_more rfl rfl
theorem dX8_more_99 : decode cX8_more 99 = .ok (.iinc 4 1, 3) := D_132 yB_cX8_more rfl rfl rfl (sg_p (m := 128) (N := 1) rfl rfl rfl)
theorem dX8_more_102 : decode cX8_more 102 = .ok (.goto (-72), 3) := D_167 yB_cX8_more rfl rfl (sg_n (m := 32768) (N := 72) rfl rfl rfl)
theorem dX8_more_105 : decode cX8_more 105 = .ok (.iload_n 2, 1) := D_28 yB_cX8_more rfl rfl
theorem dX8_more_106 : decode cX8_more 106 = .ok (.ifCond .lt 7, 3) := D_155 yB_cX8_more rfl rfl (sg_p (m := 32768) (N := 7) rfl rfl rfl)
theorem dX8_more_109 : decode cX8_more 109 = .ok (.iload_n 1, 1) := D_27 yB_cX8_more rfl rfl
theorem dX8_more_110 : decode cX8_more 110 = .ok (.ifCond .ne 7, 3) := D_154 yB_cX8_more rfl rfl (sg_p (m := 32768) (N := 7) rfl rfl rfl)
theorem dX8_more_113 : decode cX8_more 113 = .ok (.iload_n 2, 1) := D_28 yB_cX8_more rfl rfl
theorem dX8_more_114 : decode cX8_more 114 = .ok (.goto 4, 3) := D_167 yB_cX8_more rfl rfl (sg_p (m := 32768) (N := 4) rfl rfl rfl)
theorem dX8_more_117 : decode cX8_more 117 = .ok (.iload_n 3, 1) := D_29 yB_cX8_more rfl rfl
theorem dX8_more_118 : decode cX8_more 118 = .ok (.ireturn, 1) := D_172 yB_cX8_more rfl rfl
def F_X8_more_30 (x1 : Int32)  : Nat → Mem → Int32 → Int32 → Int32 → Option (Mem × Int32)
  | 0, _, _, _, _ => none
  | nn + 1, σ, v4, v3, v2 => if (σ 92 0) ≤ v4 then (if v2 < 0 then (some (σ, v2)) else (if x1 = 0 then (some (σ, v2)) else (some (σ, v3)))) else ((ix 121 (5 + v4)).bind fun k_9 => if (σ 92 k_9) = 4 then (F_X8_more_30 x1 nn σ (v4 + 1) v3 v2) else ((F_X8_opens σ ).bind fun σ_11 => (ix 121 (5 + v4)).bind fun k_12 => (ix 121 (5 + v4)).bind fun k_13 => bd2 (F_X8_costs (stm σ_11 94 k_13 ((σ_11 94 k_12) + 1)) ) fun σ_14 r_15 => if v2 < 0 then (F_X8_more_30 x1 nn σ_14 (v4 + 1) r_15 v4) else (if r_15 < v3 then (F_X8_more_30 x1 nn σ_14 (v4 + 1) r_15 v4) else (F_X8_more_30 x1 nn σ_14 (v4 + 1) v3 v2))))
def F_X8_more (σ : Mem) (x1 : Int32) : Option (Mem × Int32) := if x1 < 0 ∨ 1 < x1 then (some (σ, (-1))) else ((F_X8_isEmpty σ ).bind fun r_3 => if r_3 = 0 then (F_X8_more_30 x1 FU σ 1 0 (-4)) else (some (σ, (-3))))
set_option maxHeartbeats 4000000 in
set_option maxRecDepth 100000 in
theorem c_X8_more (l : Launch) (D : va_G) (cA : Nat → ClassId) (ad : Nat → Nat) (o : Int64) (σ : Mem) (x1 : Int32)  (res : Mem × Int32) (h : F_X8_more σ x1 = some res) (sz : Nat) : Met l yX8_more (WY yX8_more cX8_more 6 (some .int)) (RM 9) (va_Pc [.ref (ad 91), .int x1] (PW D cA ad o σ sz)) (va_Qi (fun r σ9 => r = res.2 ∧ σ9 = res.1) (QW D cA ad o) (FA ad sz)) 0 0 (FA ad sz) := by
  refine ct_of (own := RX8) (k := 9) (Qf := va_Qi (fun r σ9 => r = res.2 ∧ σ9 = res.1) (QW D cA ad o)) rfl (by decide) (Nat.le_of_ble_eq_true rfl) (fun p e s m below meth c ls C0 X hr hlk hP hl => ?_) sz
  have hS : va_S (FA ad s.heap.size) s.heap s.heap [] := va_S.rf
  have hl : lv_has ls 6 [(0, .ref (ad 91)), (1, .int x1)] := hl
  obtain ⟨hx, hb, hml, hown, hts⟩ := id C0
  unfold F_X8_more at h
  refine lv_iload_n hx hb dX8_more_0 rfl (lv_at hl 1 rfl) ?_
  refine lv_i2l (v := (x1.toInt64)) hx hb dX8_more_1 rfl ?_
  refine lv_lconst (v := ((0 : Int32).toInt64)) hx hb dX8_more_2 (by decide) ?_
  refine lv_lconst (v := ((1 : Int32).toInt64)) hx hb dX8_more_3 (by decide) ?_
  refine r_ci X hS (r_runS (As := [.long (x1.toInt64), .long ((0 : Int32).toInt64), .long ((1 : Int32).toInt64)]) (rest := []) C0 X hP L_X8_53 (fun sz => c_X8_isIn l D cA ad o σ x1 0 1 sz) ⟨Nat.le_of_ble_eq_true rfl, Nat.le_of_ble_eq_true rfl⟩ rfl hl.1 rfl (Nat.le_of_ble_eq_true rfl) dX8_more_4 ⟨Nat.zero_le _, Nat.zero_le _⟩) (fun r9 σ9 H locs hw hP hS => ?_)
  rw [hw.2] at hP
  obtain ⟨⟨b_1, rfl⟩ | ⟨b_1, rfl⟩, -⟩ := hw
  · replace h := it_f h (inn b_1)
    refine lv_if_ne (tgt := 12) hx hb dX8_more_7 (by decide) (fun _ => ?_) (fun c_2 => absurd c_2 (by decide))
    refine lv_aload_n hx hb dX8_more_12 rfl (lv_at hl 0 rfl) ?_
    obtain ⟨r_3, er_3, h⟩ := bnd h
    refine r_ci X hS (r_runV (As := []) (rest := []) C0 X hP L_X8_221 (fun sz => c_X8_isEmpty l D cA ad o σ   r_3 er_3 sz) (show 91 < 106 ∧ kd 91 = (8, 24) from ⟨by decide, rfl⟩).1 (show 91 < 106 ∧ kd 91 = (8, 24) from ⟨by decide, rfl⟩).2 (by decide) rfl ⟨Nat.le_of_ble_eq_true rfl, Nat.le_of_ble_eq_true rfl⟩ rfl hl.1 rfl (Nat.le_of_ble_eq_true rfl) dX8_more_13 ⟨Nat.zero_le _, Nat.zero_le _⟩) (fun r9 σ9 H locs hw hP hS => ?_)
    rw [hw.2] at hP
    rw [hw.1]
    refine lv_if_eq (tgt := 22) hx hb dX8_more_16 (by decide) (fun c_4 => ?_) (fun c_4 => ?_)
    · replace h := it_t h c_4
      refine lv_bipush (v := (-4)) hx hb dX8_more_22 (by decide) ?_
      refine lv_istore_n (lv' := [(2, .int (-4)), (0, .ref (ad 91)), (1, .int x1)]) hx hb dX8_more_24 rfl hl (by decide) rfl (fun ls hl => ?_)
      refine lv_iconst (v := 0) hx hb dX8_more_25 (by decide) ?_
      refine lv_istore_n (lv' := [(3, .int 0), (2, .int (-4)), (0, .ref (ad 91)), (1, .int x1)]) hx hb dX8_more_26 rfl hl (by decide) rfl (fun ls hl => ?_)
      refine lv_iconst (v := 1) hx hb dX8_more_27 (by decide) ?_
      refine lv_istore (lv' := [(4, .int 1), (3, .int 0), (2, .int (-4)), (0, .ref (ad 91)), (1, .int x1)]) hx hb dX8_more_28 hl (by decide) rfl (fun ls hl => ?_)
      have lp_5 : ∀ (nn30 : Nat) (σ : Mem) (v4 : Int32) (v3 : Int32) (v2 : Int32) (H : Heap) (locs : List Loc) (ls : Array Slot), F_X8_more_30 x1 nn30 σ v4 v3 v2 = some res → WP D cA ad o σ H → va_S (FA ad s.heap.size) s.heap H locs → lv_has ls 6 [(4, .int v4), (3, .int v3), (2, .int v2), (0, .ref (ad 91)), (1, .int x1)] → W p l e (RM 9) s m ([.ref (ad 91), .int x1] : List Value).toArray below meth c H locs 0 0 (MQ below (va_Qi (fun r σ9 => r = res.2 ∧ σ9 = res.1) (QW D cA ad o) (FA ad s.heap.size)) ([.ref (ad 91), .int x1] : List Value).toArray s 0 0 (FA ad s.heap.size)) (F0 m 30 ls []) := by
        intro nn30
        induction nn30 with
        | zero => intro σ v4 v3 v2 H locs ls h hP hS hl; exact absurd (show none = some res from h) nofun
        | succ nn30 ih30 =>
          intro σ v4 v3 v2 H locs ls h hP hS hl
          replace h := (F_X8_more_30.eq_2 _ _ _ _ _ _).symm.trans h
          refine lv_iload hx hb dX8_more_30 (lv_at hl 0 rfl) ?_
          refine lv_aload_n hx hb dX8_more_32 rfl (lv_at hl 3 rfl) ?_
          refine gf_X8_9 C0 X hP 91 (q := 92) ⟨by decide, rfl⟩ (by omega) rfl dX8_more_33 ?_
          refine lv_iconst (v := 0) hx hb dX8_more_36 (by decide) ?_
          refine r_ialdN C0 X hP 92 (k := 0) ⟨by decide, rfl⟩ rfl (by decide) dX8_more_37 ?_
          refine lv_icmp_ge (tgt := 105) hx hb dX8_more_38 (by decide) (fun c_6 => ?_) (fun c_6 => ?_)
          · replace h := it_t h c_6
            refine lv_iload_n hx hb dX8_more_105 rfl (lv_at hl 2 rfl) ?_
            refine lv_if_lt (tgt := 113) hx hb dX8_more_106 (by decide) (fun c_7 => ?_) (fun c_7 => ?_)
            · replace h := it_t h c_7
              refine lv_iload_n hx hb dX8_more_113 rfl (lv_at hl 2 rfl) ?_
              refine lv_goto (tgt := 118) hx hb dX8_more_114 (by decide) ?_
              exact r_iret C0 X hP hS hr hlk dX8_more_118 (rt2 h)
            · replace h := it_f h c_7
              refine lv_iload_n hx hb dX8_more_109 rfl (lv_at hl 4 rfl) ?_
              refine lv_if_ne (tgt := 117) hx hb dX8_more_110 (by decide) (fun c_8 => ?_) (fun c_8 => ?_)
              · replace h := it_f h c_8
                refine lv_iload_n hx hb dX8_more_117 rfl (lv_at hl 1 rfl) ?_
                exact r_iret C0 X hP hS hr hlk dX8_more_118 (rt2 h)
              · replace h := it_t h c_8
                refine lv_iload_n hx hb dX8_more_113 rfl (lv_at hl 2 rfl) ?_
                refine lv_goto (tgt := 118) hx hb dX8_more_114 (by decide) ?_
                exact r_iret C0 X hP hS hr hlk dX8_more_118 (rt2 h)
          · replace h := it_f h c_6
            refine lv_aload_n hx hb dX8_more_41 rfl (lv_at hl 3 rfl) ?_
            refine gf_X8_9 C0 X hP 91 (q := 92) ⟨by decide, rfl⟩ (by omega) rfl dX8_more_42 ?_
            refine lv_iconst (v := 5) hx hb dX8_more_45 (by decide) ?_
            refine lv_iload hx hb dX8_more_46 (lv_at hl 0 rfl) ?_
            refine lv_iadd hx hb dX8_more_48 ?_
            obtain ⟨k_9, ek_9, h⟩ := bnd h
            replace ek_9 := ix_s ek_9 (by decide)
            refine r_ialdN C0 X hP 92 (k := k_9) ⟨by decide, rfl⟩ ek_9.1 ek_9.2 dX8_more_49 ?_
            refine lv_iconst (v := 4) hx hb dX8_more_50 (by decide) ?_
            refine lv_icmp_ne (tgt := 57) hx hb dX8_more_51 (by decide) (fun c_10 => ?_) (fun c_10 => ?_)
            · replace h := it_f h c_10
              refine lv_aload_n hx hb dX8_more_57 rfl (lv_at hl 3 rfl) ?_
              obtain ⟨σ_11, eσ_11, h⟩ := bnd h
              refine r_cv X hS (r_runV (As := []) (rest := []) C0 X hP L_X8_244 (fun sz => c_X8_opens l D cA ad o σ   σ_11 eσ_11 sz) (show 91 < 106 ∧ kd 91 = (8, 24) from ⟨by decide, rfl⟩).1 (show 91 < 106 ∧ kd 91 = (8, 24) from ⟨by decide, rfl⟩).2 (by decide) rfl ⟨Nat.le_of_ble_eq_true rfl, Nat.le_of_ble_eq_true rfl⟩ rfl hl.1 rfl (Nat.le_of_ble_eq_true rfl) dX8_more_58 ⟨Nat.zero_le _, Nat.zero_le _⟩) (fun σ9 H locs hw hP hS => ?_)
              rw [show σ9 = σ_11 from hw] at hP
              refine lv_aload_n hx hb dX8_more_61 rfl (lv_at hl 3 rfl) ?_
              refine gf_X8_16 C0 X hP 91 (q := 94) ⟨by decide, rfl⟩ (by omega) rfl dX8_more_62 ?_
              refine lv_iconst (v := 5) hx hb dX8_more_65 (by decide) ?_
              refine lv_iload hx hb dX8_more_66 (lv_at hl 0 rfl) ?_
              refine lv_iadd hx hb dX8_more_68 ?_
              refine lv_dup2_11 hx hb dX8_more_69 rfl rfl ?_
              obtain ⟨k_12, ek_12, h⟩ := bnd h
              replace ek_12 := ix_s ek_12 (by decide)
              refine r_ialdN C0 X hP 94 (k := k_12) ⟨by decide, rfl⟩ ek_12.1 ek_12.2 dX8_more_70 ?_
              refine lv_iconst (v := 1) hx hb dX8_more_71 (by decide) ?_
              refine lv_iadd hx hb dX8_more_72 ?_
              obtain ⟨k_13, ek_13, h⟩ := bnd h
              replace ek_13 := ix_s ek_13 (by decide)
              refine r_iastN C0 X hP hS 94 (k := k_13) ⟨by decide, rfl⟩ ek_13.1 ek_13.2 dX8_more_73 (fun H locs hP hS => ?_)
              refine lv_aload_n hx hb dX8_more_74 rfl (lv_at hl 3 rfl) ?_
              obtain ⟨σ_14, r_15, eσ_14, h⟩ := bnd2 h
              refine r_ci X hS (r_runV (As := []) (rest := []) C0 X hP L_X8_247 (fun sz => c_X8_costs l D cA ad o (stm σ_11 94 k_13 ((σ_11 94 k_12) + 1))   (σ_14, r_15) eσ_14 sz) (show 91 < 106 ∧ kd 91 = (8, 24) from ⟨by decide, rfl⟩).1 (show 91 < 106 ∧ kd 91 = (8, 24) from ⟨by decide, rfl⟩).2 (by decide) rfl ⟨Nat.le_of_ble_eq_true rfl, Nat.le_of_ble_eq_true rfl⟩ rfl hl.1 rfl (Nat.le_of_ble_eq_true rfl) dX8_more_75 ⟨Nat.zero_le _, Nat.zero_le _⟩) (fun r9 σ9 H locs hw hP hS => ?_)
              rw [show σ9 = σ_14 from hw.2] at hP
              rw [show r9 = r_15 from hw.1]
              refine lv_istore (lv' := [(5, .int r_15), (4, .int v4), (3, .int v3), (2, .int v2), (0, .ref (ad 91)), (1, .int x1)]) hx hb dX8_more_78 hl (by decide) rfl (fun ls hl => ?_)
              refine lv_iload_n hx hb dX8_more_80 rfl (lv_at hl 3 rfl) ?_
              refine lv_if_lt (tgt := 93) hx hb dX8_more_81 (by decide) (fun c_16 => ?_) (fun c_16 => ?_)
              · replace h := it_t h c_16
                refine lv_iload hx hb dX8_more_93 (lv_at hl 1 rfl) ?_
                refine lv_istore_n (lv' := [(2, .int v4), (5, .int r_15), (4, .int v4), (3, .int v3), (0, .ref (ad 91)), (1, .int x1)]) hx hb dX8_more_95 rfl hl (by decide) rfl (fun ls hl => ?_)
                refine lv_iload hx hb dX8_more_96 (lv_at hl 1 rfl) ?_
                refine lv_istore_n (lv' := [(3, .int r_15), (2, .int v4), (5, .int r_15), (4, .int v4), (0, .ref (ad 91)), (1, .int x1)]) hx hb dX8_more_98 rfl hl (by decide) rfl (fun ls hl => ?_)
                refine lv_iinc (v := (v4 + 1)) (lv' := [(4, .int (v4 + 1)), (3, .int r_15), (2, .int v4), (5, .int r_15), (0, .ref (ad 91)), (1, .int x1)]) hx hb dX8_more_99 hl (k := 3) rfl rfl (by decide) rfl (fun ls hl => ?_)
                refine lv_goto (tgt := 30) hx hb dX8_more_102 (by decide) ?_
                exact ih30 σ_14 (v4 + 1) r_15 v4 _ _ ls  h hP hS (lv_sub hl [0, 1, 2, 4, 5] rfl)
              · replace h := it_f h c_16
                refine lv_iload hx hb dX8_more_84 (lv_at hl 0 rfl) ?_
                refine lv_iload_n hx hb dX8_more_86 rfl (lv_at hl 2 rfl) ?_
                refine lv_icmp_lt (tgt := 93) hx hb dX8_more_87 (by decide) (fun c_17 => ?_) (fun c_17 => ?_)
                · replace h := it_t h c_17
                  refine lv_iload hx hb dX8_more_93 (lv_at hl 1 rfl) ?_
                  refine lv_istore_n (lv' := [(2, .int v4), (5, .int r_15), (4, .int v4), (3, .int v3), (0, .ref (ad 91)), (1, .int x1)]) hx hb dX8_more_95 rfl hl (by decide) rfl (fun ls hl => ?_)
                  refine lv_iload hx hb dX8_more_96 (lv_at hl 1 rfl) ?_
                  refine lv_istore_n (lv' := [(3, .int r_15), (2, .int v4), (5, .int r_15), (4, .int v4), (0, .ref (ad 91)), (1, .int x1)]) hx hb dX8_more_98 rfl hl (by decide) rfl (fun ls hl => ?_)
                  refine lv_iinc (v := (v4 + 1)) (lv' := [(4, .int (v4 + 1)), (3, .int r_15), (2, .int v4), (5, .int r_15), (0, .ref (ad 91)), (1, .int x1)]) hx hb dX8_more_99 hl (k := 3) rfl rfl (by decide) rfl (fun ls hl => ?_)
                  refine lv_goto (tgt := 30) hx hb dX8_more_102 (by decide) ?_
                  exact ih30 σ_14 (v4 + 1) r_15 v4 _ _ ls  h hP hS (lv_sub hl [0, 1, 2, 4, 5] rfl)
                · replace h := it_f h c_17
                  refine lv_goto (tgt := 99) hx hb dX8_more_90 (by decide) ?_
                  refine lv_iinc (v := (v4 + 1)) (lv' := [(4, .int (v4 + 1)), (5, .int r_15), (3, .int v3), (2, .int v2), (0, .ref (ad 91)), (1, .int x1)]) hx hb dX8_more_99 hl (k := 1) rfl rfl (by decide) rfl (fun ls hl => ?_)
                  refine lv_goto (tgt := 30) hx hb dX8_more_102 (by decide) ?_
                  exact ih30 σ_14 (v4 + 1) v3 v2 _ _ ls  h hP hS (lv_sub hl [0, 2, 3, 4, 5] rfl)
            · replace h := it_t h c_10
              refine lv_goto (tgt := 99) hx hb dX8_more_54 (by decide) ?_
              refine lv_iinc (v := (v4 + 1)) (lv' := [(4, .int (v4 + 1)), (3, .int v3), (2, .int v2), (0, .ref (ad 91)), (1, .int x1)]) hx hb dX8_more_99 hl (k := 0) rfl rfl (by decide) rfl (fun ls hl => ?_)
              refine lv_goto (tgt := 30) hx hb dX8_more_102 (by decide) ?_
              exact ih30 σ (v4 + 1) v3 v2 _ _ ls  h hP hS (lv_sub hl [0, 1, 2, 3, 4] rfl)
      exact lp_5 FU σ 1 0 (-4) _ _ ls  h hP hS (lv_sub hl [0, 1, 2, 3, 4] rfl)
    · replace h := it_f h c_4
      refine lv_bipush (v := (-3)) hx hb dX8_more_19 (by decide) ?_
      exact r_iret C0 X hP hS hr hlk dX8_more_21 (rt2 h)
  · replace h := it_t h b_1
    refine lv_if_ne (tgt := 12) hx hb dX8_more_7 (by decide) (fun c_18 => absurd c_18 (by decide)) (fun _ => ?_)
    refine lv_iconst (v := (-1)) hx hb dX8_more_10 (by decide) ?_
    exact r_iret C0 X hP hS hr hlk dX8_more_11 (rt2 h)
def bB_cX8_costBy : Nat := 0xacf700b62afa00b61c1b2af400b62a
theorem yB_cX8_costBy : BYS cX8_costBy 15 bB_cX8_costBy := BYS_of (by decide +kernel)
theorem dX8_costBy_0 : decode cX8_costBy 0 = .ok (.aload_n 0, 1) := D_42 yB_cX8_costBy rfl rfl
theorem dX8_costBy_1 : decode cX8_costBy 1 = .ok (.invokevirtual 244, 3) := D_182 yB_cX8_costBy rfl rfl rfl
theorem dX8_costBy_4 : decode cX8_costBy 4 = .ok (.aload_n 0, 1) := D_42 yB_cX8_costBy rfl rfl
theorem dX8_costBy_5 : decode cX8_costBy 5 = .ok (.iload_n 1, 1) := D_27 yB_cX8_costBy rfl rfl
theorem dX8_costBy_6 : decode cX8_costBy 6 = .ok (.iload_n 2, 1) := D_28 yB_cX8_costBy rfl rfl
theorem dX8_costBy_7 : decode cX8_costBy 7 = .ok (.invokevirtual 250, 3) := D_182 yB_cX8_costBy rfl rfl rfl
theorem dX8_costBy_10 : decode cX8_costBy 10 = .ok (.aload_n 0, 1) := D_42 yB_cX8_costBy rfl rfl
theorem dX8_costBy_11 : decode cX8_costBy 11 = .ok (.invokevirtual 247, 3) := D_182 yB_cX8_costBy rfl rfl rfl
theorem dX8_costBy_14 : decode cX8_costBy 14 = .ok (.ireturn, 1) := D_172 yB_cX8_costBy rfl rfl
def F_X8_costBy (σ : Mem) (x1 : Int32) (x2 : Int32) : Option (Mem × Int32) := (F_X8_opens σ ).bind fun σ_1 => (F_X8_allBy σ_1 x1 x2).bind fun σ_2 => bd2 (F_X8_costs σ_2 ) fun σ_3 r_4 => some (σ_3, r_4)
set_option maxHeartbeats 4000000 in
set_option maxRecDepth 100000 in
theorem c_X8_costBy (l : Launch) (D : va_G) (cA : Nat → ClassId) (ad : Nat → Nat) (o : Int64) (σ : Mem) (x1 : Int32) (x2 : Int32)  (res : Mem × Int32) (h : F_X8_costBy σ x1 x2 = some res) (sz : Nat) : Met l yX8_costBy (WY yX8_costBy cX8_costBy 3 (some .int)) (RM 9) (va_Pc [.ref (ad 91), .int x1, .int x2] (PW D cA ad o σ sz)) (va_Qi (fun r σ9 => r = res.2 ∧ σ9 = res.1) (QW D cA ad o) (FA ad sz)) 0 0 (FA ad sz) := by
  refine ct_of (own := RX8) (k := 9) (Qf := va_Qi (fun r σ9 => r = res.2 ∧ σ9 = res.1) (QW D cA ad o)) rfl (by decide) (Nat.le_of_ble_eq_true rfl) (fun p e s m below meth c ls C0 X hr hlk hP hl => ?_) sz
  have hS : va_S (FA ad s.heap.size) s.heap s.heap [] := va_S.rf
  have hl : lv_has ls 3 [(0, .ref (ad 91)), (1, .int x1), (2, .int x2)] := hl
  obtain ⟨hx, hb, hml, hown, hts⟩ := id C0
  unfold F_X8_costBy at h
  refine lv_aload_n hx hb dX8_costBy_0 rfl (lv_at hl 0 rfl) ?_
  obtain ⟨σ_1, eσ_1, h⟩ := bnd h
  refine r_cv X hS (r_runV (As := []) (rest := []) C0 X hP L_X8_244 (fun sz => c_X8_opens l D cA ad o σ   σ_1 eσ_1 sz) (show 91 < 106 ∧ kd 91 = (8, 24) from ⟨by decide, rfl⟩).1 (show 91 < 106 ∧ kd 91 = (8, 24) from ⟨by decide, rfl⟩).2 (by decide) rfl ⟨Nat.le_of_ble_eq_true rfl, Nat.le_of_ble_eq_true rfl⟩ rfl hl.1 rfl (Nat.le_of_ble_eq_true rfl) dX8_costBy_1 ⟨Nat.zero_le _, Nat.zero_le _⟩) (fun σ9 H locs hw hP hS => ?_)
  rw [show σ9 = σ_1 from hw] at hP
  refine lv_aload_n hx hb dX8_costBy_4 rfl (lv_at hl 0 rfl) ?_
  refine lv_iload_n hx hb dX8_costBy_5 rfl (lv_at hl 1 rfl) ?_
  refine lv_iload_n hx hb dX8_costBy_6 rfl (lv_at hl 2 rfl) ?_
  obtain ⟨σ_2, eσ_2, h⟩ := bnd h
  refine r_cv X hS (r_runV (As := [.int x1, .int x2]) (rest := []) C0 X hP L_X8_250 (fun sz => c_X8_allBy l D cA ad o σ_1 x1 x2  σ_2 eσ_2 sz) (show 91 < 106 ∧ kd 91 = (8, 24) from ⟨by decide, rfl⟩).1 (show 91 < 106 ∧ kd 91 = (8, 24) from ⟨by decide, rfl⟩).2 (by decide) rfl ⟨Nat.le_of_ble_eq_true rfl, Nat.le_of_ble_eq_true rfl⟩ rfl hl.1 rfl (Nat.le_of_ble_eq_true rfl) dX8_costBy_7 ⟨Nat.zero_le _, Nat.zero_le _⟩) (fun σ9 H locs hw hP hS => ?_)
  rw [show σ9 = σ_2 from hw] at hP
  refine lv_aload_n hx hb dX8_costBy_10 rfl (lv_at hl 0 rfl) ?_
  obtain ⟨σ_3, r_4, eσ_3, h⟩ := bnd2 h
  refine r_ci X hS (r_runV (As := []) (rest := []) C0 X hP L_X8_247 (fun sz => c_X8_costs l D cA ad o σ_2   (σ_3, r_4) eσ_3 sz) (show 91 < 106 ∧ kd 91 = (8, 24) from ⟨by decide, rfl⟩).1 (show 91 < 106 ∧ kd 91 = (8, 24) from ⟨by decide, rfl⟩).2 (by decide) rfl ⟨Nat.le_of_ble_eq_true rfl, Nat.le_of_ble_eq_true rfl⟩ rfl hl.1 rfl (Nat.le_of_ble_eq_true rfl) dX8_costBy_11 ⟨Nat.zero_le _, Nat.zero_le _⟩) (fun r9 σ9 H locs hw hP hS => ?_)
  rw [show σ9 = σ_3 from hw.2] at hP
  rw [show r9 = r_4 from hw.1]
  exact r_iret C0 X hP hS hr hlk dX8_costBy_14 (rt2 h)
def bB_cX8_fit : Nat := 0xac0415c8ffa701068405360715043606150b00a70600a1051507150d009b04150736fe00b61c2e600615681b64101f00b42a2a3300a22e1b1c00b42a06150636030536030436fc10acfd10060099dd00b62ad8ffa7010484acf31006009a3500b839001409852e600415681b64101f00b42a2300a22e1b1c00b42a0415043603acf31006009a2e1b1c00b42aac1d0500991d3e6c00b6031b2aac0205009a3500b85f001409851c0f00996900b81b
theorem yB_cX8_fit : BYS cX8_fit 174 bB_cX8_fit := BYS_of (by decide +kernel)
theorem dX8_fit_0 : decode cX8_fit 0 = .ok (.iload_n 1, 1) := D_27 yB_cX8_fit rfl rfl
theorem dX8_fit_1 : decode cX8_fit 1 = .ok (.invokestatic 105, 3) := D_184 yB_cX8_fit rfl rfl rfl
theorem dX8_fit_4 : decode cX8_fit 4 = .ok (.ifCond .eq 15, 3) := D_153 yB_cX8_fit rfl rfl (sg_p (m := 32768) (N := 15) rfl rfl rfl)
theorem dX8_fit_7 : decode cX8_fit 7 = .ok (.iload_n 2, 1) := D_28 yB_cX8_fit rfl rfl
theorem dX8_fit_8 : decode cX8_fit 8 = .ok (.i2l, 1) := D_133 yB_cX8_fit rfl rfl
theorem dX8_fit_9 : decode cX8_fit 9 = .ok (.lconst 0, 1) := D_9 yB_cX8_fit rfl rfl
theorem dX8_fit_10 : decode cX8_fit 10 = .ok (.ldc2_w 95, 3) := D_20 yB_cX8_fit rfl rfl rfl
theorem dX8_fit_13 : decode cX8_fit 13 = .ok (.invokestatic 53, 3) := D_184 yB_cX8_fit rfl rfl rfl
theorem dX8_fit_16 : decode cX8_fit 16 = .ok (.ifCond .ne 5, 3) := D_154 yB_cX8_fit rfl rfl (sg_p (m := 32768) (N := 5) rfl rfl rfl)
theorem dX8_fit_19 : decode cX8_fit 19 = .ok (.iconst (-1), 1) := D_2 yB_cX8_fit rfl rfl
theorem dX8_fit_20 : decode cX8_fit 20 = .ok (.ireturn, 1) := D_172 yB_cX8_fit rfl rfl
theorem dX8_fit_21 : decode cX8_fit 21 = .ok (.aload_n 0, 1) := D_42 yB_cX8_fit rfl rfl
theorem dX8_fit_22 : decode cX8_fit 22 = .ok (.iload_n 1, 1) := D_27 yB_cX8_fit rfl rfl
theorem dX8_fit_23 : decode cX8_fit 23 = .ok (.iconst 0, 1) := D_3 yB_cX8_fit rfl rfl
theorem dX8_fit_24 : decode cX8_fit 24 = .ok (.invokevirtual 108, 3) := D_182 yB_cX8_fit rfl rfl rfl
theorem dX8_fit_27 : decode cX8_fit 27 = .ok (.istore_n 3, 1) := D_62 yB_cX8_fit rfl rfl
theorem dX8_fit_28 : decode cX8_fit 28 = .ok (.iload_n 3, 1) := D_29 yB_cX8_fit rfl rfl
theorem dX8_fit_29 : decode cX8_fit 29 = .ok (.ifCond .eq 5, 3) := D_153 yB_cX8_fit rfl rfl (sg_p (m := 32768) (N := 5) rfl rfl rfl)
theorem dX8_fit_32 : decode cX8_fit 32 = .ok (.iload_n 3, 1) := D_29 yB_cX8_fit rfl rfl
theorem dX8_fit_33 : decode cX8_fit 33 = .ok (.ireturn, 1) := D_172 yB_cX8_fit rfl rfl
theorem dX8_fit_34 : decode cX8_fit 34 = .ok (.aload_n 0, 1) := D_42 yB_cX8_fit rfl rfl
theorem dX8_fit_35 : decode cX8_fit 35 = .ok (.getfield 28, 3) := D_180 yB_cX8_fit rfl rfl rfl
theorem dX8_fit_38 : decode cX8_fit 38 = .ok (.iload_n 1, 1) := D_27 yB_cX8_fit rfl rfl
theorem dX8_fit_39 : decode cX8_fit 39 = .ok (.iaload, 1) := D_46 yB_cX8_fit rfl rfl
theorem dX8_fit_40 : decode cX8_fit 40 = .ok (.ifCond .ne 6, 3) := D_154 yB_cX8_fit rfl rfl (sg_p (m := 32768) (N := 6) rfl rfl rfl)
theorem dX8_fit_43 : decode cX8_fit 43 = .ok (.bipush (-13), 2) := D_16 yB_cX8_fit rfl rfl (sg_n (m := 128) (N := 13) rfl rfl rfl)
theorem dX8_fit_45 : decode cX8_fit 45 = .ok (.ireturn, 1) := D_172 yB_cX8_fit rfl rfl
theorem dX8_fit_46 : decode cX8_fit 46 = .ok (.iconst 0, 1) := D_3 yB_cX8_fit rfl rfl
theorem dX8_fit_47 : decode cX8_fit 47 = .ok (.istore 4, 2) := D_54 yB_cX8_fit rfl rfl rfl
theorem dX8_fit_49 : decode cX8_fit 49 = .ok (.iload 4, 2) := D_21 yB_cX8_fit rfl rfl rfl
theorem dX8_fit_51 : decode cX8_fit 51 = .ok (.aload_n 0, 1) := D_42 yB_cX8_fit rfl rfl
theorem dX8_fit_52 : decode cX8_fit 52 = .ok (.getfield 28, 3) := D_180 yB_cX8_fit rfl rfl rfl
theorem dX8_fit_55 : decode cX8_fit 55 = .ok (.iload_n 1, 1) := D_27 yB_cX8_fit rfl rfl
theorem dX8_fit_56 : decode cX8_fit 56 = .ok (.iaload, 1) := D_46 yB_cX8_fit rfl rfl
theorem dX8_fit_57 : decode cX8_fit 57 = .ok (.if_icmp .ge 35, 3) := D_162 yB_cX8_fit rfl rfl (sg_p (m := 32768) (N := 35) rfl rfl rfl)
theorem dX8_fit_60 : decode cX8_fit 60 = .ok (.aload_n 0, 1) := D_42 yB_cX8_fit rfl rfl
theorem dX8_fit_61 : decode cX8_fit 61 = .ok (.getfield 31, 3) := D_180 yB_cX8_fit rfl rfl rfl
theorem dX8_fit_64 : decode cX8_fit 64 = .ok (.bipush 100, 2) := D_16 yB_cX8_fit rfl rfl (sg_p (m := 128) (N := 100) rfl rfl rfl)
theorem dX8_fit_66 : decode cX8_fit 66 = .ok (.iload_n 1, 1) := D_27 yB_cX8_fit rfl rfl
theorem dX8_fit_67 : decode cX8_fit 67 = .ok (.imul, 1) := D_104 yB_cX8_fit rfl rfl
theorem dX8_fit_68 : decode cX8_fit 68 = .ok (.iload 4, 2) := D_21 yB_cX8_fit rfl rfl rfl
theorem dX8_fit_70 : decode cX8_fit 70 = .ok (.iadd, 1) := D_96 yB_cX8_fit rfl rfl
theorem dX8_fit_71 : decode cX8_fit 71 = .ok (.iaload, 1) := D_46 yB_cX8_fit rfl rfl
theorem dX8_fit_72 : decode cX8_fit 72 = .ok (.i2l, 1) := D_133 yB_cX8_fit rfl rfl
theorem dX8_fit_73 : decode cX8_fit 73 = .ok (.lconst 0, 1) := D_9 yB_cX8_fit rfl rfl
theorem dX8_fit_74 : decode cX8_fit 74 = .ok (.ldc2_w 57, 3) := D_20 yB_cX8_fit rfl rfl rfl
theorem dX8_fit_77 : decode cX8_fit 77 = .ok (.invokestatic 53, 3) := D_184 yB_cX8_fit rfl rfl rfl
theorem dX8_fit_80 : decode cX8_fit 80 = .ok (.ifCond .ne 6, 3) := D_154 yB_cX8_fit rfl rfl (sg_p (m := 32768) (N := 6) rfl rfl rfl)
theorem dX8_fit_83 : decode cX8_fit 83 = .ok (.bipush (-13), 2) := D_16 yB_cX8_fit rfl rfl (sg_n (m := 128) (N := 13) rfl rfl rfl)
theorem dX8_fit_85 : decode cX8_fit 85 = .ok (.ireturn, 1) := D_172 yB_cX8_fit rfl rfl
theorem dX8_fit_86 : decode cX8_fit 86 = .ok (.iinc 4 1, 3) := D_132 yB_cX8_fit rfl rfl rfl (sg_p (m := 128) (N := 1) rfl rfl rfl)
theorem dX8_fit_89 : decode cX8_fit 89 = .ok (.goto (-40), 3) := D_167 yB_cX8_fit rfl rfl (sg_n (m := 32768) (N := 40) rfl rfl rfl)
theorem dX8_fit_92 : decode cX8_fit 92 = .ok (.aload_n 0, 1) := D_42 yB_cX8_fit rfl rfl
theorem dX8_fit_93 : decode cX8_fit 93 = .ok (.invokevirtual 221, 3) := D_182 yB_cX8_fit rfl rfl rfl
theorem dX8_fit_96 : decode cX8_fit 96 = .ok (.ifCond .eq 6, 3) := D_153 yB_cX8_fit rfl rfl (sg_p (m := 32768) (N := 6) rfl rfl rfl)
theorem dX8_fit_99 : decode cX8_fit 99 = .ok (.bipush (-3), 2) := D_16 yB_cX8_fit rfl rfl (sg_n (m := 128) (N := 3) rfl rfl rfl)
theorem dX8_fit_101 : decode cX8_fit 101 = .ok (.ireturn, 1) := D_172 yB_cX8_fit rfl rfl
theorem dX8_fit_102 : decode cX8_fit 102 = .ok (.bipush (-4), 2) := D_16 yB_cX8_fit rfl rfl (sg_n (m := 128) (N := 4) rfl rfl rfl)
theorem dX8_fit_104 : decode cX8_fit 104 = .ok (.istore 4, 2) := D_54 yB_cX8_fit rfl rfl rfl
theorem dX8_fit_106 : decode cX8_fit 106 = .ok (.iconst 0, 1) := D_3 yB_cX8_fit rfl rfl
theorem dX8_fit_107 : decode cX8_fit 107 = .ok (.istore 5, 2) := D_54 yB_cX8_fit rfl rfl rfl
theorem dX8_fit_109 : decode cX8_fit 109 = .ok (.iconst 0, 1) := D_3 yB_cX8_fit rfl rfl
theorem dX8_fit_110 : decode cX8_fit 110 = .ok (.istore 6, 2) := D_54 yB_cX8_fit rfl rfl rfl
theorem dX8_fit_112 : decode cX8_fit 112 = .ok (.iload 6, 2) := D_21 yB_cX8_fit rfl rfl rfl
theorem dX8_fit_114 : decode cX8_fit 114 = .ok (.aload_n 0, 1) := D_42 yB_cX8_fit rfl rfl
theorem dX8_fit_115 : decode cX8_fit 115 = .ok (.getfield 28, 3) := D_180 yB_cX8_fit rfl rfl rfl
theorem dX8_fit_118 : decode cX8_fit 118 = .ok (.iload_n 1, 1) := D_27 yB_cX8_fit rfl rfl
theorem dX8_fit_119 : decode cX8_fit 119 = .ok (.iaload, 1) := D_46 yB_cX8_fit rfl rfl
theorem dX8_fit_120 : decode cX8_fit 120 = .ok (.if_icmp .ge 51, 3) := D_162 yB_cX8_fit rfl rfl (sg_p (m := 32768) (N := 51) rfl rfl rfl)
theorem dX8_fit_123 : decode cX8_fit 123 = .ok (.aload_n 0, 1) := D_42 yB_cX8_fit rfl rfl
theorem dX8_fit_124 : decode cX8_fit 124 = .ok (.aload_n 0, 1) := D_42 yB_cX8_fit rfl rfl
theorem dX8_fit_125 : decode cX8_fit 125 = .ok (.getfield 31, 3) := D_180 yB_cX8_fit rfl rfl rfl
theorem dX8_fit_128 : decode cX8_fit 128 = .ok (.bipush 100, 2) := D_16 yB_cX8_fit rfl rfl (sg_p (m := 128) (N := 100) rfl rfl rfl)
theorem dX8_fit_130 : decode cX8_fit 130 = .ok (.iload_n 1, 1) := D_27 yB_cX8_fit rfl rfl
theorem dX8_fit_131 : decode cX8_fit 131 = .ok (.imul, 1) := D_104 yB_cX8_fit rfl rfl
theorem dX8_fit_132 : decode cX8_fit 132 = .ok (.iload 6, 2) := D_21 yB_cX8_fit rfl rfl rfl
theorem dX8_fit_134 : decode cX8_fit 134 = .ok (.iadd, 1) := D_96 yB_cX8_fit rfl rfl
theorem dX8_fit_135 : decode cX8_fit 135 = .ok (.iaload, 1) := D_46 yB_cX8_fit rfl rfl
theorem dX8_fit_136 : decode cX8_fit 136 = .ok (.iload_n 2, 1) := D_28 yB_cX8_fit rfl rfl
theorem dX8_fit_137 : decode cX8_fit 137 = .ok (.invokevirtual 254, 3) := D_182 yB_cX8_fit rfl rfl rfl
theorem dX8_fit_140 : decode cX8_fit 140 = .ok (.istore 7, 2) := D_54 yB_cX8_fit rfl rfl rfl
theorem dX8_fit_142 : decode cX8_fit 142 = .ok (.iload 4, 2) := D_21 yB_cX8_fit rfl rfl rfl
theorem dX8_fit_144 : decode cX8_fit 144 = .ok (.ifCond .lt 13, 3) := D_155 yB_cX8_fit rfl rfl (sg_p (m := 32768) (N := 13) rfl rfl rfl)
theorem dX8_fit_147 : decode cX8_fit 147 = .ok (.iload 7, 2) := D_21 yB_cX8_fit rfl rfl rfl
theorem dX8_fit_149 : decode cX8_fit 149 = .ok (.iload 5, 2) := D_21 yB_cX8_fit rfl rfl rfl
theorem dX8_fit_151 : decode cX8_fit 151 = .ok (.if_icmp .lt 6, 3) := D_161 yB_cX8_fit rfl rfl (sg_p (m := 32768) (N := 6) rfl rfl rfl)
theorem dX8_fit_154 : decode cX8_fit 154 = .ok (.goto 11, 3) := D_167 yB_cX8_fit rfl rfl (sg_p (m := 32768) (N := 11) rfl rfl rfl)
theorem dX8_fit_157 : decode cX8_fit 157 = .ok (.iload 6, 2) := D_21 yB_cX8_fit rfl rfl rfl
theorem dX8_fit_159 : decode cX8_fit 159 = .ok (.istore 4, 2) := D_54 yB_cX8_fit rfl rfl rfl
theorem dX8_fit_161 : decode cX8_fit 161 = .ok (.iload 7, 2) := D_21 yB_cX8_fit rfl rfl rfl
theorem dX8_fit_163 : decode cX8_fit 163 = .ok (.istore 5, 2) := D_54 yB_cX8_fit rfl rfl rfl
theorem dX8_fit_165 : decode cX8_fit 165 = .ok (.iinc 6 1, 3) := D_132 yB_cX8_fit rfl rfl rfl (sg_p (m := 128) (N := 1) rfl rfl rfl)
theorem dX8_fit_168 : decode cX8_fit 168 = .ok (.goto (-56), 3) := D_167 yB_cX8_fit rfl rfl (sg_n (m := 32768) (N := 56) rfl rfl rfl)
theorem dX8_fit_171 : decode cX8_fit 171 = .ok (.iload 4, 2) := D_21 yB_cX8_fit rfl rfl rfl
theorem dX8_fit_173 : decode cX8_fit 173 = .ok (.ireturn, 1) := D_172 yB_cX8_fit rfl rfl
def F_X8_fit_112 (x1 : Int32) (x2 : Int32)  : Nat → Mem → Int32 → Int32 → Int32 → Int32 → Option (Mem × Int32)
  | 0, _, _, _, _, _ => none
  | nn + 1, σ, v6, v5, v4, v3 => (ix 8 x1).bind fun k_15 => if (σ 98 k_15) ≤ v6 then (some (σ, v4)) else ((ix 800 ((100 * x1) + v6)).bind fun k_17 => bd2 (F_X8_costBy σ (σ 99 k_17) x2) fun σ_18 r_19 => if v4 < 0 then (F_X8_fit_112 x1 x2 nn σ_18 (v6 + 1) r_19 v6 v3) else (if r_19 < v5 then (F_X8_fit_112 x1 x2 nn σ_18 (v6 + 1) r_19 v6 v3) else (F_X8_fit_112 x1 x2 nn σ_18 (v6 + 1) v5 v4 v3)))
def F_X8_fit_49 (x1 : Int32) (x2 : Int32)  : Nat → Mem → Int32 → Int32 → Option (Mem × Int32)
  | 0, _, _, _ => none
  | nn + 1, σ, v4, v3 => (ix 8 x1).bind fun k_10 => if (σ 98 k_10) ≤ v4 then ((F_X8_isEmpty σ ).bind fun r_12 => if r_12 = 0 then (F_X8_fit_112 x1 x2 FU σ 0 0 (-4) v3) else (some (σ, (-3)))) else ((ix 800 ((100 * x1) + v4)).bind fun k_22 => if (σ 99 k_22) < 0 ∨ 7 < (σ 99 k_22) then (some (σ, (-13))) else (F_X8_fit_49 x1 x2 nn σ (v4 + 1) v3))
def F_X8_fit (σ : Mem) (x1 : Int32) (x2 : Int32) : Option (Mem × Int32) := (F_X8_isShelf σ x1).bind fun r_1 => if r_1 = 0 then (some (σ, (-1))) else (if x2 < 0 ∨ 9 < x2 then (some (σ, (-1))) else ((F_X8_wrongRow σ x1 0).bind fun r_5 => if r_5 = 0 then ((ix 8 x1).bind fun k_7 => if (σ 98 k_7) = 0 then (some (σ, (-13))) else (F_X8_fit_49 x1 x2 FU σ 0 r_5)) else (some (σ, r_5))))
set_option maxHeartbeats 4000000 in
set_option maxRecDepth 100000 in
theorem c_X8_fit (l : Launch) (D : va_G) (cA : Nat → ClassId) (ad : Nat → Nat) (o : Int64) (σ : Mem) (x1 : Int32) (x2 : Int32)  (res : Mem × Int32) (h : F_X8_fit σ x1 x2 = some res) (sz : Nat) : Met l yX8_fit (WY yX8_fit cX8_fit 8 (some .int)) (RM 10) (va_Pc [.ref (ad 91), .int x1, .int x2] (PW D cA ad o σ sz)) (va_Qi (fun r σ9 => r = res.2 ∧ σ9 = res.1) (QW D cA ad o) (FA ad sz)) 0 0 (FA ad sz) := by
  refine ct_of (own := RX8) (k := 10) (Qf := va_Qi (fun r σ9 => r = res.2 ∧ σ9 = res.1) (QW D cA ad o)) rfl (by decide) (Nat.le_of_ble_eq_true rfl) (fun p e s m below meth c ls C0 X hr hlk hP hl => ?_) sz
  have hS : va_S (FA ad s.heap.size) s.heap s.heap [] := va_S.rf
  have hl : lv_has ls 8 [(0, .ref (ad 91)), (1, .int x1), (2, .int x2)] := hl
  obtain ⟨hx, hb, hml, hown, hts⟩ := id C0
  unfold F_X8_fit at h
  refine lv_iload_n hx hb dX8_fit_0 rfl (lv_at hl 1 rfl) ?_
  obtain ⟨r_1, er_1, h⟩ := bnd h
  refine r_ci X hS (r_runS (As := [.int x1]) (rest := []) C0 X hP L_X8_105 (fun sz => c_X8_isShelf l D cA ad o σ x1  r_1 er_1 sz) ⟨Nat.le_of_ble_eq_true rfl, Nat.le_of_ble_eq_true rfl⟩ rfl hl.1 rfl (Nat.le_of_ble_eq_true rfl) dX8_fit_1 ⟨Nat.zero_le _, Nat.zero_le _⟩) (fun r9 σ9 H locs hw hP hS => ?_)
  rw [hw.2] at hP
  rw [hw.1]
  refine lv_if_eq (tgt := 19) hx hb dX8_fit_4 (by decide) (fun c_2 => ?_) (fun c_2 => ?_)
  · replace h := it_t h c_2
    refine lv_iconst (v := (-1)) hx hb dX8_fit_19 (by decide) ?_
    exact r_iret C0 X hP hS hr hlk dX8_fit_20 (rt2 h)
  · replace h := it_f h c_2
    refine lv_iload_n hx hb dX8_fit_7 rfl (lv_at hl 2 rfl) ?_
    refine lv_i2l (v := (x2.toInt64)) hx hb dX8_fit_8 rfl ?_
    refine lv_lconst (v := ((0 : Int32).toInt64)) hx hb dX8_fit_9 (by decide) ?_
    refine lv_ldc2 (own := RX8) (index := 95) (v := 9) hx hb hown (hts _ (tmc sb5_7 10 rfl (by decide +kernel))) dX8_fit_10 ?_
    refine lv_topEl (y := ((9 : Int32).toInt64)) (by decide) ?_
    refine r_ci X hS (r_runS (As := [.long (x2.toInt64), .long ((0 : Int32).toInt64), .long ((9 : Int32).toInt64)]) (rest := []) C0 X hP L_X8_53 (fun sz => c_X8_isIn l D cA ad o σ x2 0 9 sz) ⟨Nat.le_of_ble_eq_true rfl, Nat.le_of_ble_eq_true rfl⟩ rfl hl.1 rfl (Nat.le_of_ble_eq_true rfl) dX8_fit_13 ⟨Nat.zero_le _, Nat.zero_le _⟩) (fun r9 σ9 H locs hw hP hS => ?_)
    rw [hw.2] at hP
    obtain ⟨⟨b_3, rfl⟩ | ⟨b_3, rfl⟩, -⟩ := hw
    · replace h := it_f h (inn b_3)
      refine lv_if_ne (tgt := 21) hx hb dX8_fit_16 (by decide) (fun _ => ?_) (fun c_4 => absurd c_4 (by decide))
      refine lv_aload_n hx hb dX8_fit_21 rfl (lv_at hl 0 rfl) ?_
      refine lv_iload_n hx hb dX8_fit_22 rfl (lv_at hl 1 rfl) ?_
      refine lv_iconst (v := 0) hx hb dX8_fit_23 (by decide) ?_
      obtain ⟨r_5, er_5, h⟩ := bnd h
      refine r_ci X hS (r_runV (As := [.int x1, .int 0]) (rest := []) C0 X hP L_X8_108 (fun sz => c_X8_wrongRow l D cA ad o σ x1 0  r_5 er_5 sz) (show 91 < 106 ∧ kd 91 = (8, 24) from ⟨by decide, rfl⟩).1 (show 91 < 106 ∧ kd 91 = (8, 24) from ⟨by decide, rfl⟩).2 (by decide) rfl ⟨Nat.le_of_ble_eq_true rfl, Nat.le_of_ble_eq_true rfl⟩ rfl hl.1 rfl (Nat.le_of_ble_eq_true rfl) dX8_fit_24 ⟨Nat.zero_le _, Nat.zero_le _⟩) (fun r9 σ9 H locs hw hP hS => ?_)
      rw [hw.2] at hP
      rw [hw.1]
      refine lv_istore_n (lv' := [(3, .int r_5), (0, .ref (ad 91)), (1, .int x1), (2, .int x2)]) hx hb dX8_fit_27 rfl hl (by decide) rfl (fun ls hl => ?_)
      refine lv_iload_n hx hb dX8_fit_28 rfl (lv_at hl 0 rfl) ?_
      refine lv_if_eq (tgt := 34) hx hb dX8_fit_29 (by decide) (fun c_6 => ?_) (fun c_6 => ?_)
      · replace h := it_t h c_6
        refine lv_aload_n hx hb dX8_fit_34 rfl (lv_at hl 1 rfl) ?_
        refine gf_X8_28 C0 X hP 91 (q := 98) ⟨by decide, rfl⟩ (by omega) rfl dX8_fit_35 ?_
        refine lv_iload_n hx hb dX8_fit_38 rfl (lv_at hl 2 rfl) ?_
        obtain ⟨k_7, ek_7, h⟩ := bnd h
        replace ek_7 := ix_s ek_7 (by decide)
        refine r_ialdN C0 X hP 98 (k := k_7) ⟨by decide, rfl⟩ ek_7.1 ek_7.2 dX8_fit_39 ?_
        refine lv_if_ne (tgt := 46) hx hb dX8_fit_40 (by decide) (fun c_8 => ?_) (fun c_8 => ?_)
        · replace h := it_f h c_8
          refine lv_iconst (v := 0) hx hb dX8_fit_46 (by decide) ?_
          refine lv_istore (lv' := [(4, .int 0), (3, .int r_5), (0, .ref (ad 91)), (1, .int x1), (2, .int x2)]) hx hb dX8_fit_47 hl (by decide) rfl (fun ls hl => ?_)
          have lp_9 : ∀ (nn49 : Nat) (σ : Mem) (v4 : Int32) (v3 : Int32) (H : Heap) (locs : List Loc) (ls : Array Slot), F_X8_fit_49 x1 x2 nn49 σ v4 v3 = some res → WP D cA ad o σ H → va_S (FA ad s.heap.size) s.heap H locs → lv_has ls 8 [(4, .int v4), (3, .int v3), (0, .ref (ad 91)), (1, .int x1), (2, .int x2)] → W p l e (RM 10) s m ([.ref (ad 91), .int x1, .int x2] : List Value).toArray below meth c H locs 0 0 (MQ below (va_Qi (fun r σ9 => r = res.2 ∧ σ9 = res.1) (QW D cA ad o) (FA ad s.heap.size)) ([.ref (ad 91), .int x1, .int x2] : List Value).toArray s 0 0 (FA ad s.heap.size)) (F0 m 49 ls []) := by
            intro nn49
            induction nn49 with
            | zero => intro σ v4 v3 H locs ls h hP hS hl; exact absurd (show none = some res from h) nofun
            | succ nn49 ih49 =>
              intro σ v4 v3 H locs ls h hP hS hl
              replace h := (F_X8_fit_49.eq_2 _ _ _ _ _ _).symm.trans h
              refine lv_iload hx hb dX8_fit_49 (lv_at hl 0 rfl) ?_
              refine lv_aload_n hx hb dX8_fit_51 rfl (lv_at hl 2 rfl) ?_
              refine gf_X8_28 C0 X hP 91 (q := 98) ⟨by decide, rfl⟩ (by omega) rfl dX8_fit_52 ?_
              refine lv_iload_n hx hb dX8_fit_55 rfl (lv_at hl 3 rfl) ?_
              obtain ⟨k_10, ek_10, h⟩ := bnd h
              replace ek_10 := ix_s ek_10 (by decide)
              refine r_ialdN C0 X hP 98 (k := k_10) ⟨by decide, rfl⟩ ek_10.1 ek_10.2 dX8_fit_56 ?_
              refine lv_icmp_ge (tgt := 92) hx hb dX8_fit_57 (by decide) (fun c_11 => ?_) (fun c_11 => ?_)
              · replace h := it_t h c_11
                refine lv_aload_n hx hb dX8_fit_92 rfl (lv_at hl 2 rfl) ?_
                obtain ⟨r_12, er_12, h⟩ := bnd h
                refine r_ci X hS (r_runV (As := []) (rest := []) C0 X hP L_X8_221 (fun sz => c_X8_isEmpty l D cA ad o σ   r_12 er_12 sz) (show 91 < 106 ∧ kd 91 = (8, 24) from ⟨by decide, rfl⟩).1 (show 91 < 106 ∧ kd 91 = (8, 24) from ⟨by decide, rfl⟩).2 (by decide) rfl ⟨Nat.le_of_ble_eq_true rfl, Nat.le_of_ble_eq_true rfl⟩ rfl hl.1 rfl (Nat.le_of_ble_eq_true rfl) dX8_fit_93 ⟨Nat.zero_le _, Nat.zero_le _⟩) (fun r9 σ9 H locs hw hP hS => ?_)
                rw [hw.2] at hP
                rw [hw.1]
                refine lv_if_eq (tgt := 102) hx hb dX8_fit_96 (by decide) (fun c_13 => ?_) (fun c_13 => ?_)
                · replace h := it_t h c_13
                  refine lv_bipush (v := (-4)) hx hb dX8_fit_102 (by decide) ?_
                  refine lv_istore (lv' := [(4, .int (-4)), (3, .int v3), (0, .ref (ad 91)), (1, .int x1), (2, .int x2)]) hx hb dX8_fit_104 hl (by decide) rfl (fun ls hl => ?_)
                  refine lv_iconst (v := 0) hx hb dX8_fit_106 (by decide) ?_
                  refine lv_istore (lv' := [(5, .int 0), (4, .int (-4)), (3, .int v3), (0, .ref (ad 91)), (1, .int x1), (2, .int x2)]) hx hb dX8_fit_107 hl (by decide) rfl (fun ls hl => ?_)
                  refine lv_iconst (v := 0) hx hb dX8_fit_109 (by decide) ?_
                  refine lv_istore (lv' := [(6, .int 0), (5, .int 0), (4, .int (-4)), (3, .int v3), (0, .ref (ad 91)), (1, .int x1), (2, .int x2)]) hx hb dX8_fit_110 hl (by decide) rfl (fun ls hl => ?_)
                  have lp_14 : ∀ (nn112 : Nat) (σ : Mem) (v6 : Int32) (v5 : Int32) (v4 : Int32) (v3 : Int32) (H : Heap) (locs : List Loc) (ls : Array Slot), F_X8_fit_112 x1 x2 nn112 σ v6 v5 v4 v3 = some res → WP D cA ad o σ H → va_S (FA ad s.heap.size) s.heap H locs → lv_has ls 8 [(6, .int v6), (5, .int v5), (4, .int v4), (3, .int v3), (0, .ref (ad 91)), (1, .int x1), (2, .int x2)] → W p l e (RM 10) s m ([.ref (ad 91), .int x1, .int x2] : List Value).toArray below meth c H locs 0 0 (MQ below (va_Qi (fun r σ9 => r = res.2 ∧ σ9 = res.1) (QW D cA ad o) (FA ad s.heap.size)) ([.ref (ad 91), .int x1, .int x2] : List Value).toArray s 0 0 (FA ad s.heap.size)) (F0 m 112 ls []) := by
                    intro nn112
                    induction nn112 with
                    | zero => intro σ v6 v5 v4 v3 H locs ls h hP hS hl; exact absurd (show none = some res from h) nofun
                    | succ nn112 ih112 =>
                      intro σ v6 v5 v4 v3 H locs ls h hP hS hl
                      replace h := (F_X8_fit_112.eq_2 _ _ _ _ _ _ _ _).symm.trans h
                      refine lv_iload hx hb dX8_fit_112 (lv_at hl 0 rfl) ?_
                      refine lv_aload_n hx hb dX8_fit_114 rfl (lv_at hl 4 rfl) ?_
                      refine gf_X8_28 C0 X hP 91 (q := 98) ⟨by decide, rfl⟩ (by omega) rfl dX8_fit_115 ?_
                      refine lv_iload_n hx hb dX8_fit_118 rfl (lv_at hl 5 rfl) ?_
                      obtain ⟨k_15, ek_15, h⟩ := bnd h
                      replace ek_15 := ix_s ek_15 (by decide)
                      refine r_ialdN C0 X hP 98 (k := k_15) ⟨by decide, rfl⟩ ek_15.1 ek_15.2 dX8_fit_119 ?_
                      refine lv_icmp_ge (tgt := 171) hx hb dX8_fit_120 (by decide) (fun c_16 => ?_) (fun c_16 => ?_)
                      · replace h := it_t h c_16
                        refine lv_iload hx hb dX8_fit_171 (lv_at hl 2 rfl) ?_
                        exact r_iret C0 X hP hS hr hlk dX8_fit_173 (rt2 h)
                      · replace h := it_f h c_16
                        refine lv_aload_n hx hb dX8_fit_123 rfl (lv_at hl 4 rfl) ?_
                        refine lv_aload_n hx hb dX8_fit_124 rfl (lv_at hl 4 rfl) ?_
                        refine gf_X8_31 C0 X hP 91 (q := 99) ⟨by decide, rfl⟩ (by omega) rfl dX8_fit_125 ?_
                        refine lv_bipush (v := 100) hx hb dX8_fit_128 (by decide) ?_
                        refine lv_iload_n hx hb dX8_fit_130 rfl (lv_at hl 5 rfl) ?_
                        refine lv_imul hx hb dX8_fit_131 ?_
                        refine lv_iload hx hb dX8_fit_132 (lv_at hl 0 rfl) ?_
                        refine lv_iadd hx hb dX8_fit_134 ?_
                        obtain ⟨k_17, ek_17, h⟩ := bnd h
                        replace ek_17 := ix_s ek_17 (by decide)
                        refine r_ialdN C0 X hP 99 (k := k_17) ⟨by decide, rfl⟩ ek_17.1 ek_17.2 dX8_fit_135 ?_
                        refine lv_iload_n hx hb dX8_fit_136 rfl (lv_at hl 6 rfl) ?_
                        obtain ⟨σ_18, r_19, eσ_18, h⟩ := bnd2 h
                        refine r_ci X hS (r_runV (As := [.int (σ 99 k_17), .int x2]) (rest := []) C0 X hP L_X8_254 (fun sz => c_X8_costBy l D cA ad o σ (σ 99 k_17) x2  (σ_18, r_19) eσ_18 sz) (show 91 < 106 ∧ kd 91 = (8, 24) from ⟨by decide, rfl⟩).1 (show 91 < 106 ∧ kd 91 = (8, 24) from ⟨by decide, rfl⟩).2 (by decide) rfl ⟨Nat.le_of_ble_eq_true rfl, Nat.le_of_ble_eq_true rfl⟩ rfl hl.1 rfl (Nat.le_of_ble_eq_true rfl) dX8_fit_137 ⟨Nat.zero_le _, Nat.zero_le _⟩) (fun r9 σ9 H locs hw hP hS => ?_)
                        rw [show σ9 = σ_18 from hw.2] at hP
                        rw [show r9 = r_19 from hw.1]
                        refine lv_istore (lv' := [(7, .int r_19), (6, .int v6), (5, .int v5), (4, .int v4), (3, .int v3), (0, .ref (ad 91)), (1, .int x1), (2, .int x2)]) hx hb dX8_fit_140 hl (by decide) rfl (fun ls hl => ?_)
                        refine lv_iload hx hb dX8_fit_142 (lv_at hl 3 rfl) ?_
                        refine lv_if_lt (tgt := 157) hx hb dX8_fit_144 (by decide) (fun c_20 => ?_) (fun c_20 => ?_)
                        · replace h := it_t h c_20
                          refine lv_iload hx hb dX8_fit_157 (lv_at hl 1 rfl) ?_
                          refine lv_istore (lv' := [(4, .int v6), (7, .int r_19), (6, .int v6), (5, .int v5), (3, .int v3), (0, .ref (ad 91)), (1, .int x1), (2, .int x2)]) hx hb dX8_fit_159 hl (by decide) rfl (fun ls hl => ?_)
                          refine lv_iload hx hb dX8_fit_161 (lv_at hl 1 rfl) ?_
                          refine lv_istore (lv' := [(5, .int r_19), (4, .int v6), (7, .int r_19), (6, .int v6), (3, .int v3), (0, .ref (ad 91)), (1, .int x1), (2, .int x2)]) hx hb dX8_fit_163 hl (by decide) rfl (fun ls hl => ?_)
                          refine lv_iinc (v := (v6 + 1)) (lv' := [(6, .int (v6 + 1)), (5, .int r_19), (4, .int v6), (7, .int r_19), (3, .int v3), (0, .ref (ad 91)), (1, .int x1), (2, .int x2)]) hx hb dX8_fit_165 hl (k := 3) rfl rfl (by decide) rfl (fun ls hl => ?_)
                          refine lv_goto (tgt := 112) hx hb dX8_fit_168 (by decide) ?_
                          exact ih112 σ_18 (v6 + 1) r_19 v6 v3 _ _ ls  h hP hS (lv_sub hl [0, 1, 2, 4, 5, 6, 7] rfl)
                        · replace h := it_f h c_20
                          refine lv_iload hx hb dX8_fit_147 (lv_at hl 0 rfl) ?_
                          refine lv_iload hx hb dX8_fit_149 (lv_at hl 2 rfl) ?_
                          refine lv_icmp_lt (tgt := 157) hx hb dX8_fit_151 (by decide) (fun c_21 => ?_) (fun c_21 => ?_)
                          · replace h := it_t h c_21
                            refine lv_iload hx hb dX8_fit_157 (lv_at hl 1 rfl) ?_
                            refine lv_istore (lv' := [(4, .int v6), (7, .int r_19), (6, .int v6), (5, .int v5), (3, .int v3), (0, .ref (ad 91)), (1, .int x1), (2, .int x2)]) hx hb dX8_fit_159 hl (by decide) rfl (fun ls hl => ?_)
                            refine lv_iload hx hb dX8_fit_161 (lv_at hl 1 rfl) ?_
                            refine lv_istore (lv' := [(5, .int r_19), (4, .int v6), (7, .int r_19), (6, .int v6), (3, .int v3), (0, .ref (ad 91)), (1, .int x1), (2, .int x2)]) hx hb dX8_fit_163 hl (by decide) rfl (fun ls hl => ?_)
                            refine lv_iinc (v := (v6 + 1)) (lv' := [(6, .int (v6 + 1)), (5, .int r_19), (4, .int v6), (7, .int r_19), (3, .int v3), (0, .ref (ad 91)), (1, .int x1), (2, .int x2)]) hx hb dX8_fit_165 hl (k := 3) rfl rfl (by decide) rfl (fun ls hl => ?_)
                            refine lv_goto (tgt := 112) hx hb dX8_fit_168 (by decide) ?_
                            exact ih112 σ_18 (v6 + 1) r_19 v6 v3 _ _ ls  h hP hS (lv_sub hl [0, 1, 2, 4, 5, 6, 7] rfl)
                          · replace h := it_f h c_21
                            refine lv_goto (tgt := 165) hx hb dX8_fit_154 (by decide) ?_
                            refine lv_iinc (v := (v6 + 1)) (lv' := [(6, .int (v6 + 1)), (7, .int r_19), (5, .int v5), (4, .int v4), (3, .int v3), (0, .ref (ad 91)), (1, .int x1), (2, .int x2)]) hx hb dX8_fit_165 hl (k := 1) rfl rfl (by decide) rfl (fun ls hl => ?_)
                            refine lv_goto (tgt := 112) hx hb dX8_fit_168 (by decide) ?_
                            exact ih112 σ_18 (v6 + 1) v5 v4 v3 _ _ ls  h hP hS (lv_sub hl [0, 2, 3, 4, 5, 6, 7] rfl)
                  exact lp_14 FU σ 0 0 (-4) v3 _ _ ls  h hP hS (lv_sub hl [0, 1, 2, 3, 4, 5, 6] rfl)
                · replace h := it_f h c_13
                  refine lv_bipush (v := (-3)) hx hb dX8_fit_99 (by decide) ?_
                  exact r_iret C0 X hP hS hr hlk dX8_fit_101 (rt2 h)
              · replace h := it_f h c_11
                refine lv_aload_n hx hb dX8_fit_60 rfl (lv_at hl 2 rfl) ?_
                refine gf_X8_31 C0 X hP 91 (q := 99) ⟨by decide, rfl⟩ (by omega) rfl dX8_fit_61 ?_
                refine lv_bipush (v := 100) hx hb dX8_fit_64 (by decide) ?_
                refine lv_iload_n hx hb dX8_fit_66 rfl (lv_at hl 3 rfl) ?_
                refine lv_imul hx hb dX8_fit_67 ?_
                refine lv_iload hx hb dX8_fit_68 (lv_at hl 0 rfl) ?_
                refine lv_iadd hx hb dX8_fit_70 ?_
                obtain ⟨k_22, ek_22, h⟩ := bnd h
                replace ek_22 := ix_s ek_22 (by decide)
                refine r_ialdN C0 X hP 99 (k := k_22) ⟨by decide, rfl⟩ ek_22.1 ek_22.2 dX8_fit_71 ?_
                refine lv_i2l (v := ((σ 99 k_22).toInt64)) hx hb dX8_fit_72 rfl ?_
                refine lv_lconst (v := ((0 : Int32).toInt64)) hx hb dX8_fit_73 (by decide) ?_
                refine lv_ldc2 (own := RX8) (index := 57) (v := 7) hx hb hown (hts _ (tmc sb5_5 7 rfl (by decide +kernel))) dX8_fit_74 ?_
                refine lv_topEl (y := ((7 : Int32).toInt64)) (by decide) ?_
                refine r_ci X hS (r_runS (As := [.long ((σ 99 k_22).toInt64), .long ((0 : Int32).toInt64), .long ((7 : Int32).toInt64)]) (rest := []) C0 X hP L_X8_53 (fun sz => c_X8_isIn l D cA ad o σ (σ 99 k_22) 0 7 sz) ⟨Nat.le_of_ble_eq_true rfl, Nat.le_of_ble_eq_true rfl⟩ rfl hl.1 rfl (Nat.le_of_ble_eq_true rfl) dX8_fit_77 ⟨Nat.zero_le _, Nat.zero_le _⟩) (fun r9 σ9 H locs hw hP hS => ?_)
                rw [hw.2] at hP
                obtain ⟨⟨b_23, rfl⟩ | ⟨b_23, rfl⟩, -⟩ := hw
                · replace h := it_f h (inn b_23)
                  refine lv_if_ne (tgt := 86) hx hb dX8_fit_80 (by decide) (fun _ => ?_) (fun c_24 => absurd c_24 (by decide))
                  refine lv_iinc (v := (v4 + 1)) (lv' := [(4, .int (v4 + 1)), (3, .int v3), (0, .ref (ad 91)), (1, .int x1), (2, .int x2)]) hx hb dX8_fit_86 hl (k := 0) rfl rfl (by decide) rfl (fun ls hl => ?_)
                  refine lv_goto (tgt := 49) hx hb dX8_fit_89 (by decide) ?_
                  exact ih49 σ (v4 + 1) v3 _ _ ls  h hP hS (lv_sub hl [0, 1, 2, 3, 4] rfl)
                · replace h := it_t h b_23
                  refine lv_if_ne (tgt := 86) hx hb dX8_fit_80 (by decide) (fun c_25 => absurd c_25 (by decide)) (fun _ => ?_)
                  refine lv_bipush (v := (-13)) hx hb dX8_fit_83 (by decide) ?_
                  exact r_iret C0 X hP hS hr hlk dX8_fit_85 (rt2 h)
          exact lp_9 FU σ 0 r_5 _ _ ls  h hP hS (lv_sub hl [0, 1, 2, 3, 4] rfl)
        · replace h := it_t h c_8
          refine lv_bipush (v := (-13)) hx hb dX8_fit_43 (by decide) ?_
          exact r_iret C0 X hP hS hr hlk dX8_fit_45 (rt2 h)
      · replace h := it_f h c_6
        refine lv_iload_n hx hb dX8_fit_32 rfl (lv_at hl 0 rfl) ?_
        exact r_iret C0 X hP hS hr hlk dX8_fit_33 (rt2 h)
    · replace h := it_t h b_3
      refine lv_if_ne (tgt := 21) hx hb dX8_fit_16 (by decide) (fun c_26 => absurd c_26 (by decide)) (fun _ => ?_)
      refine lv_iconst (v := (-1)) hx hb dX8_fit_19 (by decide) ?_
      exact r_iret C0 X hP hS hr hlk dX8_fit_20 (rt2 h)
def bB_cX8_wordsBy : Nat := 0xac05ac08ac0a10ac601b0d10ac601b07ac601b05ac0610ac08400000003d0000003800000034000000300000002d0000002b0000000700000001000000420000000000aa1a
theorem yB_cX8_wordsBy : BYS cX8_wordsBy 69 bB_cX8_wordsBy := BYS_of (by decide +kernel)
theorem dX8_wordsBy_0 : decode cX8_wordsBy 0 = .ok (.iload_n 0, 1) := D_26 yB_cX8_wordsBy rfl rfl
theorem dX8_wordsBy_1 : decode cX8_wordsBy 1 = .ok (.tableswitch 66 1 7 #[43, 45, 48, 52, 56, 61, 64], 43) := by decide +kernel
theorem dX8_wordsBy_44 : decode cX8_wordsBy 44 = .ok (.iconst 5, 1) := D_8 yB_cX8_wordsBy rfl rfl
theorem dX8_wordsBy_45 : decode cX8_wordsBy 45 = .ok (.ireturn, 1) := D_172 yB_cX8_wordsBy rfl rfl
theorem dX8_wordsBy_46 : decode cX8_wordsBy 46 = .ok (.bipush 6, 2) := D_16 yB_cX8_wordsBy rfl rfl (sg_p (m := 128) (N := 6) rfl rfl rfl)
theorem dX8_wordsBy_48 : decode cX8_wordsBy 48 = .ok (.ireturn, 1) := D_172 yB_cX8_wordsBy rfl rfl
theorem dX8_wordsBy_49 : decode cX8_wordsBy 49 = .ok (.iconst 2, 1) := D_5 yB_cX8_wordsBy rfl rfl
theorem dX8_wordsBy_50 : decode cX8_wordsBy 50 = .ok (.iload_n 1, 1) := D_27 yB_cX8_wordsBy rfl rfl
theorem dX8_wordsBy_51 : decode cX8_wordsBy 51 = .ok (.iadd, 1) := D_96 yB_cX8_wordsBy rfl rfl
theorem dX8_wordsBy_52 : decode cX8_wordsBy 52 = .ok (.ireturn, 1) := D_172 yB_cX8_wordsBy rfl rfl
theorem dX8_wordsBy_53 : decode cX8_wordsBy 53 = .ok (.iconst 4, 1) := D_7 yB_cX8_wordsBy rfl rfl
theorem dX8_wordsBy_54 : decode cX8_wordsBy 54 = .ok (.iload_n 1, 1) := D_27 yB_cX8_wordsBy rfl rfl
theorem dX8_wordsBy_55 : decode cX8_wordsBy 55 = .ok (.iadd, 1) := D_96 yB_cX8_wordsBy rfl rfl
theorem dX8_wordsBy_56 : decode cX8_wordsBy 56 = .ok (.ireturn, 1) := D_172 yB_cX8_wordsBy rfl rfl
theorem dX8_wordsBy_57 : decode cX8_wordsBy 57 = .ok (.bipush 13, 2) := D_16 yB_cX8_wordsBy rfl rfl (sg_p (m := 128) (N := 13) rfl rfl rfl)
theorem dX8_wordsBy_59 : decode cX8_wordsBy 59 = .ok (.iload_n 1, 1) := D_27 yB_cX8_wordsBy rfl rfl
theorem dX8_wordsBy_60 : decode cX8_wordsBy 60 = .ok (.iadd, 1) := D_96 yB_cX8_wordsBy rfl rfl
theorem dX8_wordsBy_61 : decode cX8_wordsBy 61 = .ok (.ireturn, 1) := D_172 yB_cX8_wordsBy rfl rfl
theorem dX8_wordsBy_62 : decode cX8_wordsBy 62 = .ok (.bipush 10, 2) := D_16 yB_cX8_wordsBy rfl rfl (sg_p (m := 128) (N := 10) rfl rfl rfl)
theorem dX8_wordsBy_64 : decode cX8_wordsBy 64 = .ok (.ireturn, 1) := D_172 yB_cX8_wordsBy rfl rfl
theorem dX8_wordsBy_65 : decode cX8_wordsBy 65 = .ok (.iconst 5, 1) := D_8 yB_cX8_wordsBy rfl rfl
theorem dX8_wordsBy_66 : decode cX8_wordsBy 66 = .ok (.ireturn, 1) := D_172 yB_cX8_wordsBy rfl rfl
theorem dX8_wordsBy_67 : decode cX8_wordsBy 67 = .ok (.iconst 2, 1) := D_5 yB_cX8_wordsBy rfl rfl
theorem dX8_wordsBy_68 : decode cX8_wordsBy 68 = .ok (.ireturn, 1) := D_172 yB_cX8_wordsBy rfl rfl
def F_X8_wordsBy (σ : Mem) (x1 : Int32) (x2 : Int32) : Option (Int32) := if x1 = 1 then (some 5) else (if x1 = 2 then (some 6) else (if x1 = 3 then (some (2 + x2)) else (if x1 = 4 then (some (4 + x2)) else (if x1 = 5 then (some (13 + x2)) else (if x1 = 6 then (some 10) else (if x1 = 7 then (some 5) else (some 2)))))))
set_option maxHeartbeats 4000000 in
set_option maxRecDepth 100000 in
theorem c_X8_wordsBy (l : Launch) (D : va_G) (cA : Nat → ClassId) (ad : Nat → Nat) (o : Int64) (σ : Mem) (x1 : Int32) (x2 : Int32)  (res : Int32) (h : F_X8_wordsBy σ x1 x2 = some res) (sz : Nat) : Met l yX8_wordsBy (WY yX8_wordsBy cX8_wordsBy 2 (some .int)) (RM 0) (va_Pc [.int x1, .int x2] (PW D cA ad o σ sz)) (va_Qi (fun r σ9 => r = res ∧ σ9 = σ) (QW D cA ad o) (FA ad sz)) 0 0 (FA ad sz) := by
  refine ct_of (own := RX8) (k := 0) (Qf := va_Qi (fun r σ9 => r = res ∧ σ9 = σ) (QW D cA ad o)) rfl (by decide) (Nat.le_of_ble_eq_true rfl) (fun p e s m below meth c ls C0 X hr hlk hP hl => ?_) sz
  have hS : va_S (FA ad s.heap.size) s.heap s.heap [] := va_S.rf
  have hl : lv_has ls 2 [(0, .int x1), (1, .int x2)] := hl
  obtain ⟨hx, hb, hml, hown, hts⟩ := id C0
  unfold F_X8_wordsBy at h
  refine lv_iload_n hx hb dX8_wordsBy_0 rfl (lv_at hl 0 rfl) ?_
  rcases sw_in (x := x1) (lo := 1) (n := 7) with c_1 | ⟨j, hj, c_1⟩
  · replace h := it_f h (sw_ne (v := 1) c_1 (by decide))
    replace h := it_f h (sw_ne (v := 2) c_1 (by decide))
    replace h := it_f h (sw_ne (v := 3) c_1 (by decide))
    replace h := it_f h (sw_ne (v := 4) c_1 (by decide))
    replace h := it_f h (sw_ne (v := 5) c_1 (by decide))
    replace h := it_f h (sw_ne (v := 6) c_1 (by decide))
    replace h := it_f h (sw_ne (v := 7) c_1 (by decide))
    refine lv_tableOut (tgt := 67) hx hb dX8_wordsBy_1 (by omega) (by decide) ?_
    refine lv_iconst (v := 2) hx hb dX8_wordsBy_67 (by decide) ?_
    exact r_iret C0 X hP hS hr hlk dX8_wordsBy_68 ⟨Option.some.inj h, rfl⟩
  · rcases (show j = 0 ∨ j = 1 ∨ j = 2 ∨ j = 3 ∨ j = 4 ∨ j = 5 ∨ j = 6 by omega) with rfl | rfl | rfl | rfl | rfl | rfl | rfl
    · have e_2 : x1 = 1 := sw_eq c_1 (by decide)
      replace h := it_t h e_2
      refine lv_tableIn (off := 43) (tgt := 44) hx hb dX8_wordsBy_1 (by rw [e_2]; decide) (by rw [e_2]; decide) (by rw [e_2]; rfl) (by decide) ?_
      refine lv_iconst (v := 5) hx hb dX8_wordsBy_44 (by decide) ?_
      exact r_iret C0 X hP hS hr hlk dX8_wordsBy_45 ⟨Option.some.inj h, rfl⟩
    · have e_3 : x1 = 2 := sw_eq c_1 (by decide)
      replace h := it_f h (show ¬ x1 = 1 by rw [e_3]; decide)
      replace h := it_t h e_3
      refine lv_tableIn (off := 45) (tgt := 46) hx hb dX8_wordsBy_1 (by rw [e_3]; decide) (by rw [e_3]; decide) (by rw [e_3]; rfl) (by decide) ?_
      refine lv_bipush (v := 6) hx hb dX8_wordsBy_46 (by decide) ?_
      exact r_iret C0 X hP hS hr hlk dX8_wordsBy_48 ⟨Option.some.inj h, rfl⟩
    · have e_4 : x1 = 3 := sw_eq c_1 (by decide)
      replace h := it_f h (show ¬ x1 = 1 by rw [e_4]; decide)
      replace h := it_f h (show ¬ x1 = 2 by rw [e_4]; decide)
      replace h := it_t h e_4
      refine lv_tableIn (off := 48) (tgt := 49) hx hb dX8_wordsBy_1 (by rw [e_4]; decide) (by rw [e_4]; decide) (by rw [e_4]; rfl) (by decide) ?_
      refine lv_iconst (v := 2) hx hb dX8_wordsBy_49 (by decide) ?_
      refine lv_iload_n hx hb dX8_wordsBy_50 rfl (lv_at hl 1 rfl) ?_
      refine lv_iadd hx hb dX8_wordsBy_51 ?_
      exact r_iret C0 X hP hS hr hlk dX8_wordsBy_52 ⟨Option.some.inj h, rfl⟩
    · have e_5 : x1 = 4 := sw_eq c_1 (by decide)
      replace h := it_f h (show ¬ x1 = 1 by rw [e_5]; decide)
      replace h := it_f h (show ¬ x1 = 2 by rw [e_5]; decide)
      replace h := it_f h (show ¬ x1 = 3 by rw [e_5]; decide)
      replace h := it_t h e_5
      refine lv_tableIn (off := 52) (tgt := 53) hx hb dX8_wordsBy_1 (by rw [e_5]; decide) (by rw [e_5]; decide) (by rw [e_5]; rfl) (by decide) ?_
      refine lv_iconst (v := 4) hx hb dX8_wordsBy_53 (by decide) ?_
      refine lv_iload_n hx hb dX8_wordsBy_54 rfl (lv_at hl 1 rfl) ?_
      refine lv_iadd hx hb dX8_wordsBy_55 ?_
      exact r_iret C0 X hP hS hr hlk dX8_wordsBy_56 ⟨Option.some.inj h, rfl⟩
    · have e_6 : x1 = 5 := sw_eq c_1 (by decide)
      replace h := it_f h (show ¬ x1 = 1 by rw [e_6]; decide)
      replace h := it_f h (show ¬ x1 = 2 by rw [e_6]; decide)
      replace h := it_f h (show ¬ x1 = 3 by rw [e_6]; decide)
      replace h := it_f h (show ¬ x1 = 4 by rw [e_6]; decide)
      replace h := it_t h e_6
      refine lv_tableIn (off := 56) (tgt := 57) hx hb dX8_wordsBy_1 (by rw [e_6]; decide) (by rw [e_6]; decide) (by rw [e_6]; rfl) (by decide) ?_
      refine lv_bipush (v := 13) hx hb dX8_wordsBy_57 (by decide) ?_
      refine lv_iload_n hx hb dX8_wordsBy_59 rfl (lv_at hl 1 rfl) ?_
      refine lv_iadd hx hb dX8_wordsBy_60 ?_
      exact r_iret C0 X hP hS hr hlk dX8_wordsBy_61 ⟨Option.some.inj h, rfl⟩
    · have e_7 : x1 = 6 := sw_eq c_1 (by decide)
      replace h := it_f h (show ¬ x1 = 1 by rw [e_7]; decide)
      replace h := it_f h (show ¬ x1 = 2 by rw [e_7]; decide)
      replace h := it_f h (show ¬ x1 = 3 by rw [e_7]; decide)
      replace h := it_f h (show ¬ x1 = 4 by rw [e_7]; decide)
      replace h := it_f h (show ¬ x1 = 5 by rw [e_7]; decide)
      replace h := it_t h e_7
      refine lv_tableIn (off := 61) (tgt := 62) hx hb dX8_wordsBy_1 (by rw [e_7]; decide) (by rw [e_7]; decide) (by rw [e_7]; rfl) (by decide) ?_
      refine lv_bipush (v := 10) hx hb dX8_wordsBy_62 (by decide) ?_
      exact r_iret C0 X hP hS hr hlk dX8_wordsBy_64 ⟨Option.some.inj h, rfl⟩
    · have e_8 : x1 = 7 := sw_eq c_1 (by decide)
      replace h := it_f h (show ¬ x1 = 1 by rw [e_8]; decide)
      replace h := it_f h (show ¬ x1 = 2 by rw [e_8]; decide)
      replace h := it_f h (show ¬ x1 = 3 by rw [e_8]; decide)
      replace h := it_f h (show ¬ x1 = 4 by rw [e_8]; decide)
      replace h := it_f h (show ¬ x1 = 5 by rw [e_8]; decide)
      replace h := it_f h (show ¬ x1 = 6 by rw [e_8]; decide)
      replace h := it_t h e_8
      refine lv_tableIn (off := 64) (tgt := 65) hx hb dX8_wordsBy_1 (by rw [e_8]; decide) (by rw [e_8]; decide) (by rw [e_8]; rfl) (by decide) ?_
      refine lv_iconst (v := 5) hx hb dX8_wordsBy_65 (by decide) ?_
      exact r_iret C0 X hP hS hr hlk dX8_wordsBy_66 ⟨Option.some.inj h, rfl⟩
def bB_cX8_shortest : Nat := 0xac1bb2ffa7010384c1ffa70104843d05153c600415681d0a100e00a7060099d700b81000b42a0636fe00b604151d2a2400a70600a11c05150c009b1b05360101b804151d3f00a20804150436034e00a208101d3e033d033cfc10acfd10060099dd00b62a
theorem yB_cX8_shortest : BYS cX8_shortest 100 bB_cX8_shortest := BYS_of (by decide +kernel)
theorem dX8_shortest_0 : decode cX8_shortest 0 = .ok (.aload_n 0, 1) := D_42 yB_cX8_shortest rfl rfl
theorem dX8_shortest_1 : decode cX8_shortest 1 = .ok (.invokevirtual 221, 3) := D_182 yB_cX8_shortest rfl rfl rfl
theorem dX8_shortest_4 : decode cX8_shortest 4 = .ok (.ifCond .eq 6, 3) := D_153 yB_cX8_shortest rfl rfl (sg_p (m := 32768) (N := 6) rfl rfl rfl)
theorem dX8_shortest_7 : decode cX8_shortest 7 = .ok (.bipush (-3), 2) := D_16 yB_cX8_shortest rfl rfl (sg_n (m := 128) (N := 3) rfl rfl rfl)
theorem dX8_shortest_9 : decode cX8_shortest 9 = .ok (.ireturn, 1) := D_172 yB_cX8_shortest rfl rfl
theorem dX8_shortest_10 : decode cX8_shortest 10 = .ok (.bipush (-4), 2) := D_16 yB_cX8_shortest rfl rfl (sg_n (m := 128) (N := 4) rfl rfl rfl)
theorem dX8_shortest_12 : decode cX8_shortest 12 = .ok (.istore_n 1, 1) := D_60 yB_cX8_shortest rfl rfl
theorem dX8_shortest_13 : decode cX8_shortest 13 = .ok (.iconst 0, 1) := D_3 yB_cX8_shortest rfl rfl
theorem dX8_shortest_14 : decode cX8_shortest 14 = .ok (.istore_n 2, 1) := D_61 yB_cX8_shortest rfl rfl
theorem dX8_shortest_15 : decode cX8_shortest 15 = .ok (.iconst 0, 1) := D_3 yB_cX8_shortest rfl rfl
theorem dX8_shortest_16 : decode cX8_shortest 16 = .ok (.istore_n 3, 1) := D_62 yB_cX8_shortest rfl rfl
theorem dX8_shortest_17 : decode cX8_shortest 17 = .ok (.iload_n 3, 1) := D_29 yB_cX8_shortest rfl rfl
theorem dX8_shortest_18 : decode cX8_shortest 18 = .ok (.bipush 8, 2) := D_16 yB_cX8_shortest rfl rfl (sg_p (m := 128) (N := 8) rfl rfl rfl)
theorem dX8_shortest_20 : decode cX8_shortest 20 = .ok (.if_icmp .ge 78, 3) := D_162 yB_cX8_shortest rfl rfl (sg_p (m := 32768) (N := 78) rfl rfl rfl)
theorem dX8_shortest_23 : decode cX8_shortest 23 = .ok (.iconst 0, 1) := D_3 yB_cX8_shortest rfl rfl
theorem dX8_shortest_24 : decode cX8_shortest 24 = .ok (.istore 4, 2) := D_54 yB_cX8_shortest rfl rfl rfl
theorem dX8_shortest_26 : decode cX8_shortest 26 = .ok (.iload 4, 2) := D_21 yB_cX8_shortest rfl rfl rfl
theorem dX8_shortest_28 : decode cX8_shortest 28 = .ok (.iconst 5, 1) := D_8 yB_cX8_shortest rfl rfl
theorem dX8_shortest_29 : decode cX8_shortest 29 = .ok (.if_icmp .ge 63, 3) := D_162 yB_cX8_shortest rfl rfl (sg_p (m := 32768) (N := 63) rfl rfl rfl)
theorem dX8_shortest_32 : decode cX8_shortest 32 = .ok (.iload_n 3, 1) := D_29 yB_cX8_shortest rfl rfl
theorem dX8_shortest_33 : decode cX8_shortest 33 = .ok (.iload 4, 2) := D_21 yB_cX8_shortest rfl rfl rfl
theorem dX8_shortest_35 : decode cX8_shortest 35 = .ok (.invokestatic 257, 3) := D_184 yB_cX8_shortest rfl rfl rfl
theorem dX8_shortest_38 : decode cX8_shortest 38 = .ok (.istore 5, 2) := D_54 yB_cX8_shortest rfl rfl rfl
theorem dX8_shortest_40 : decode cX8_shortest 40 = .ok (.iload_n 1, 1) := D_27 yB_cX8_shortest rfl rfl
theorem dX8_shortest_41 : decode cX8_shortest 41 = .ok (.ifCond .lt 12, 3) := D_155 yB_cX8_shortest rfl rfl (sg_p (m := 32768) (N := 12) rfl rfl rfl)
theorem dX8_shortest_44 : decode cX8_shortest 44 = .ok (.iload 5, 2) := D_21 yB_cX8_shortest rfl rfl rfl
theorem dX8_shortest_46 : decode cX8_shortest 46 = .ok (.iload_n 2, 1) := D_28 yB_cX8_shortest rfl rfl
theorem dX8_shortest_47 : decode cX8_shortest 47 = .ok (.if_icmp .lt 6, 3) := D_161 yB_cX8_shortest rfl rfl (sg_p (m := 32768) (N := 6) rfl rfl rfl)
theorem dX8_shortest_50 : decode cX8_shortest 50 = .ok (.goto 36, 3) := D_167 yB_cX8_shortest rfl rfl (sg_p (m := 32768) (N := 36) rfl rfl rfl)
theorem dX8_shortest_53 : decode cX8_shortest 53 = .ok (.aload_n 0, 1) := D_42 yB_cX8_shortest rfl rfl
theorem dX8_shortest_54 : decode cX8_shortest 54 = .ok (.iload_n 3, 1) := D_29 yB_cX8_shortest rfl rfl
theorem dX8_shortest_55 : decode cX8_shortest 55 = .ok (.iload 4, 2) := D_21 yB_cX8_shortest rfl rfl rfl
theorem dX8_shortest_57 : decode cX8_shortest 57 = .ok (.invokevirtual 254, 3) := D_182 yB_cX8_shortest rfl rfl rfl
theorem dX8_shortest_60 : decode cX8_shortest 60 = .ok (.istore 6, 2) := D_54 yB_cX8_shortest rfl rfl rfl
theorem dX8_shortest_62 : decode cX8_shortest 62 = .ok (.aload_n 0, 1) := D_42 yB_cX8_shortest rfl rfl
theorem dX8_shortest_63 : decode cX8_shortest 63 = .ok (.getfield 16, 3) := D_180 yB_cX8_shortest rfl rfl rfl
theorem dX8_shortest_66 : decode cX8_shortest 66 = .ok (.invokestatic 215, 3) := D_184 yB_cX8_shortest rfl rfl rfl
theorem dX8_shortest_69 : decode cX8_shortest 69 = .ok (.ifCond .eq 6, 3) := D_153 yB_cX8_shortest rfl rfl (sg_p (m := 32768) (N := 6) rfl rfl rfl)
theorem dX8_shortest_72 : decode cX8_shortest 72 = .ok (.goto 14, 3) := D_167 yB_cX8_shortest rfl rfl (sg_p (m := 32768) (N := 14) rfl rfl rfl)
theorem dX8_shortest_75 : decode cX8_shortest 75 = .ok (.bipush 10, 2) := D_16 yB_cX8_shortest rfl rfl (sg_p (m := 128) (N := 10) rfl rfl rfl)
theorem dX8_shortest_77 : decode cX8_shortest 77 = .ok (.iload_n 3, 1) := D_29 yB_cX8_shortest rfl rfl
theorem dX8_shortest_78 : decode cX8_shortest 78 = .ok (.imul, 1) := D_104 yB_cX8_shortest rfl rfl
theorem dX8_shortest_79 : decode cX8_shortest 79 = .ok (.iload 4, 2) := D_21 yB_cX8_shortest rfl rfl rfl
theorem dX8_shortest_81 : decode cX8_shortest 81 = .ok (.iadd, 1) := D_96 yB_cX8_shortest rfl rfl
theorem dX8_shortest_82 : decode cX8_shortest 82 = .ok (.istore_n 1, 1) := D_60 yB_cX8_shortest rfl rfl
theorem dX8_shortest_83 : decode cX8_shortest 83 = .ok (.iload 5, 2) := D_21 yB_cX8_shortest rfl rfl rfl
theorem dX8_shortest_85 : decode cX8_shortest 85 = .ok (.istore_n 2, 1) := D_61 yB_cX8_shortest rfl rfl
theorem dX8_shortest_86 : decode cX8_shortest 86 = .ok (.iinc 4 1, 3) := D_132 yB_cX8_shortest rfl rfl rfl (sg_p (m := 128) (N := 1) rfl rfl rfl)
theorem dX8_shortest_89 : decode cX8_shortest 89 = .ok (.goto (-63), 3) := D_167 yB_cX8_shortest rfl rfl (sg_n (m := 32768) (N := 63) rfl rfl rfl)
theorem dX8_shortest_92 : decode cX8_shortest 92 = .ok (.iinc 3 1, 3) := D_132 yB_cX8_shortest rfl rfl rfl (sg_p (m := 128) (N := 1) rfl rfl rfl)
theorem dX8_shortest_95 : decode cX8_shortest 95 = .ok (.goto (-78), 3) := D_167 yB_cX8_shortest rfl rfl (sg_n (m := 32768) (N := 78) rfl rfl rfl)
theorem dX8_shortest_98 : decode cX8_shortest 98 = .ok (.iload_n 1, 1) := D_27 yB_cX8_shortest rfl rfl
theorem dX8_shortest_99 : decode cX8_shortest 99 = .ok (.ireturn, 1) := D_172 yB_cX8_shortest rfl rfl
def F_X8_shortest_26  (k17 : Mem → Int32 → Int32 → Int32 → Option (Mem × Int32)) : Nat → Mem → Int32 → Int32 → Int32 → Int32 → Option (Mem × Int32)
  | 0, _, _, _, _, _ => none
  | nn + 1, σ, v4, v3, v2, v1 => if 5 ≤ v4 then (k17 σ (v3 + 1) v2 v1) else ((F_X8_wordsBy σ v3 v4).bind fun r_7 => if v1 < 0 then (bd2 (F_X8_costBy σ v3 v4) fun σ_9 r_10 => (F_X8_stands σ_9 94).bind fun r_11 => if r_11 = 0 then (F_X8_shortest_26 k17 nn σ_9 (v4 + 1) v3 r_7 ((10 * v3) + v4)) else (F_X8_shortest_26 k17 nn σ_9 (v4 + 1) v3 v2 v1)) else (if r_7 < v2 then (bd2 (F_X8_costBy σ v3 v4) fun σ_14 r_15 => (F_X8_stands σ_14 94).bind fun r_16 => if r_16 = 0 then (F_X8_shortest_26 k17 nn σ_14 (v4 + 1) v3 r_7 ((10 * v3) + v4)) else (F_X8_shortest_26 k17 nn σ_14 (v4 + 1) v3 v2 v1)) else (F_X8_shortest_26 k17 nn σ (v4 + 1) v3 v2 v1)))
def F_X8_shortest_17   : Nat → Mem → Int32 → Int32 → Int32 → Option (Mem × Int32)
  | 0, _, _, _, _ => none
  | nn + 1, σ, v3, v2, v1 => if 8 ≤ v3 then (some (σ, v1)) else (F_X8_shortest_26 (fun σ v3 v2 v1 => F_X8_shortest_17 nn σ v3 v2 v1) FU σ 0 v3 v2 v1)
def F_X8_shortest (σ : Mem)  : Option (Mem × Int32) := (F_X8_isEmpty σ ).bind fun r_1 => if r_1 = 0 then (F_X8_shortest_17 FU σ 0 0 (-4)) else (some (σ, (-3)))
set_option maxHeartbeats 4000000 in
set_option maxRecDepth 100000 in
theorem c_X8_shortest (l : Launch) (D : va_G) (cA : Nat → ClassId) (ad : Nat → Nat) (o : Int64) (σ : Mem)   (res : Mem × Int32) (h : F_X8_shortest σ  = some res) (sz : Nat) : Met l yX8_shortest (WY yX8_shortest cX8_shortest 7 (some .int)) (RM 10) (va_Pc [.ref (ad 91)] (PW D cA ad o σ sz)) (va_Qi (fun r σ9 => r = res.2 ∧ σ9 = res.1) (QW D cA ad o) (FA ad sz)) 0 0 (FA ad sz) := by
  refine ct_of (own := RX8) (k := 10) (Qf := va_Qi (fun r σ9 => r = res.2 ∧ σ9 = res.1) (QW D cA ad o)) rfl (by decide) (Nat.le_of_ble_eq_true rfl) (fun p e s m below meth c ls C0 X hr hlk hP hl => ?_) sz
  have hS : va_S (FA ad s.heap.size) s.heap s.heap [] := va_S.rf
  have hl : lv_has ls 7 [(0, .ref (ad 91))] := hl
  obtain ⟨hx, hb, hml, hown, hts⟩ := id C0
  unfold F_X8_shortest at h
  refine lv_aload_n hx hb dX8_shortest_0 rfl (lv_at hl 0 rfl) ?_
  obtain ⟨r_1, er_1, h⟩ := bnd h
  refine r_ci X hS (r_runV (As := []) (rest := []) C0 X hP L_X8_221 (fun sz => c_X8_isEmpty l D cA ad o σ   r_1 er_1 sz) (show 91 < 106 ∧ kd 91 = (8, 24) from ⟨by decide, rfl⟩).1 (show 91 < 106 ∧ kd 91 = (8, 24) from ⟨by decide, rfl⟩).2 (by decide) rfl ⟨Nat.le_of_ble_eq_true rfl, Nat.le_of_ble_eq_true rfl⟩ rfl hl.1 rfl (Nat.le_of_ble_eq_true rfl) dX8_shortest_1 ⟨Nat.zero_le _, Nat.zero_le _⟩) (fun r9 σ9 H locs hw hP hS => ?_)
  rw [hw.2] at hP
  rw [hw.1]
  refine lv_if_eq (tgt := 10) hx hb dX8_shortest_4 (by decide) (fun c_2 => ?_) (fun c_2 => ?_)
  · replace h := it_t h c_2
    refine lv_bipush (v := (-4)) hx hb dX8_shortest_10 (by decide) ?_
    refine lv_istore_n (lv' := [(1, .int (-4)), (0, .ref (ad 91))]) hx hb dX8_shortest_12 rfl hl (by decide) rfl (fun ls hl => ?_)
    refine lv_iconst (v := 0) hx hb dX8_shortest_13 (by decide) ?_
    refine lv_istore_n (lv' := [(2, .int 0), (1, .int (-4)), (0, .ref (ad 91))]) hx hb dX8_shortest_14 rfl hl (by decide) rfl (fun ls hl => ?_)
    refine lv_iconst (v := 0) hx hb dX8_shortest_15 (by decide) ?_
    refine lv_istore_n (lv' := [(3, .int 0), (2, .int 0), (1, .int (-4)), (0, .ref (ad 91))]) hx hb dX8_shortest_16 rfl hl (by decide) rfl (fun ls hl => ?_)
    have lp_3 : ∀ (nn17 : Nat) (σ : Mem) (v3 : Int32) (v2 : Int32) (v1 : Int32) (H : Heap) (locs : List Loc) (ls : Array Slot), F_X8_shortest_17 nn17 σ v3 v2 v1 = some res → WP D cA ad o σ H → va_S (FA ad s.heap.size) s.heap H locs → lv_has ls 7 [(3, .int v3), (2, .int v2), (1, .int v1), (0, .ref (ad 91))] → W p l e (RM 10) s m ([.ref (ad 91)] : List Value).toArray below meth c H locs 0 0 (MQ below (va_Qi (fun r σ9 => r = res.2 ∧ σ9 = res.1) (QW D cA ad o) (FA ad s.heap.size)) ([.ref (ad 91)] : List Value).toArray s 0 0 (FA ad s.heap.size)) (F0 m 17 ls []) := by
      intro nn17
      induction nn17 with
      | zero => intro σ v3 v2 v1 H locs ls h hP hS hl; exact absurd (show none = some res from h) nofun
      | succ nn17 ih17 =>
        intro σ v3 v2 v1 H locs ls h hP hS hl
        replace h := (F_X8_shortest_17.eq_2 _ _ _ _ _).symm.trans h
        refine lv_iload_n hx hb dX8_shortest_17 rfl (lv_at hl 0 rfl) ?_
        refine lv_bipush (v := 8) hx hb dX8_shortest_18 (by decide) ?_
        refine lv_icmp_ge (tgt := 98) hx hb dX8_shortest_20 (by decide) (fun c_4 => ?_) (fun c_4 => ?_)
        · replace h := it_t h c_4
          refine lv_iload_n hx hb dX8_shortest_98 rfl (lv_at hl 2 rfl) ?_
          exact r_iret C0 X hP hS hr hlk dX8_shortest_99 (rt2 h)
        · replace h := it_f h c_4
          refine lv_iconst (v := 0) hx hb dX8_shortest_23 (by decide) ?_
          refine lv_istore (lv' := [(4, .int 0), (3, .int v3), (2, .int v2), (1, .int v1), (0, .ref (ad 91))]) hx hb dX8_shortest_24 hl (by decide) rfl (fun ls hl => ?_)
          have lp_5 : ∀ (nn26 : Nat) (σ : Mem) (v4 : Int32) (v3 : Int32) (v2 : Int32) (v1 : Int32) (H : Heap) (locs : List Loc) (ls : Array Slot), F_X8_shortest_26 (fun σ v3 v2 v1 => F_X8_shortest_17 nn17 σ v3 v2 v1) nn26 σ v4 v3 v2 v1 = some res → WP D cA ad o σ H → va_S (FA ad s.heap.size) s.heap H locs → lv_has ls 7 [(4, .int v4), (3, .int v3), (2, .int v2), (1, .int v1), (0, .ref (ad 91))] → W p l e (RM 10) s m ([.ref (ad 91)] : List Value).toArray below meth c H locs 0 0 (MQ below (va_Qi (fun r σ9 => r = res.2 ∧ σ9 = res.1) (QW D cA ad o) (FA ad s.heap.size)) ([.ref (ad 91)] : List Value).toArray s 0 0 (FA ad s.heap.size)) (F0 m 26 ls []) := by
            intro nn26
            induction nn26 with
            | zero => intro σ v4 v3 v2 v1 H locs ls h hP hS hl; exact absurd (show none = some res from h) nofun
            | succ nn26 ih26 =>
              intro σ v4 v3 v2 v1 H locs ls h hP hS hl
              replace h := (F_X8_shortest_26.eq_2 _ _ _ _ _ _ _).symm.trans h
              refine lv_iload hx hb dX8_shortest_26 (lv_at hl 0 rfl) ?_
              refine lv_iconst (v := 5) hx hb dX8_shortest_28 (by decide) ?_
              refine lv_icmp_ge (tgt := 92) hx hb dX8_shortest_29 (by decide) (fun c_6 => ?_) (fun c_6 => ?_)
              · replace h := it_t h c_6
                refine lv_iinc (v := (v3 + 1)) (lv' := [(3, .int (v3 + 1)), (4, .int v4), (2, .int v2), (1, .int v1), (0, .ref (ad 91))]) hx hb dX8_shortest_92 hl (k := 1) rfl rfl (by decide) rfl (fun ls hl => ?_)
                refine lv_goto (tgt := 17) hx hb dX8_shortest_95 (by decide) ?_
                exact ih17 σ (v3 + 1) v2 v1 _ _ ls  h hP hS (lv_sub hl [0, 2, 3, 4] rfl)
              · replace h := it_f h c_6
                refine lv_iload_n hx hb dX8_shortest_32 rfl (lv_at hl 1 rfl) ?_
                refine lv_iload hx hb dX8_shortest_33 (lv_at hl 0 rfl) ?_
                obtain ⟨r_7, er_7, h⟩ := bnd h
                refine r_ci X hS (r_runS (As := [.int v3, .int v4]) (rest := []) C0 X hP L_X8_257 (fun sz => c_X8_wordsBy l D cA ad o σ v3 v4  r_7 er_7 sz) ⟨Nat.le_of_ble_eq_true rfl, Nat.le_of_ble_eq_true rfl⟩ rfl hl.1 rfl (Nat.le_of_ble_eq_true rfl) dX8_shortest_35 ⟨Nat.zero_le _, Nat.zero_le _⟩) (fun r9 σ9 H locs hw hP hS => ?_)
                rw [hw.2] at hP
                rw [hw.1]
                refine lv_istore (lv' := [(5, .int r_7), (4, .int v4), (3, .int v3), (2, .int v2), (1, .int v1), (0, .ref (ad 91))]) hx hb dX8_shortest_38 hl (by decide) rfl (fun ls hl => ?_)
                refine lv_iload_n hx hb dX8_shortest_40 rfl (lv_at hl 4 rfl) ?_
                refine lv_if_lt (tgt := 53) hx hb dX8_shortest_41 (by decide) (fun c_8 => ?_) (fun c_8 => ?_)
                · replace h := it_t h c_8
                  refine lv_aload_n hx hb dX8_shortest_53 rfl (lv_at hl 5 rfl) ?_
                  refine lv_iload_n hx hb dX8_shortest_54 rfl (lv_at hl 2 rfl) ?_
                  refine lv_iload hx hb dX8_shortest_55 (lv_at hl 1 rfl) ?_
                  obtain ⟨σ_9, r_10, eσ_9, h⟩ := bnd2 h
                  refine r_ci X hS (r_runV (As := [.int v3, .int v4]) (rest := []) C0 X hP L_X8_254 (fun sz => c_X8_costBy l D cA ad o σ v3 v4  (σ_9, r_10) eσ_9 sz) (show 91 < 106 ∧ kd 91 = (8, 24) from ⟨by decide, rfl⟩).1 (show 91 < 106 ∧ kd 91 = (8, 24) from ⟨by decide, rfl⟩).2 (by decide) rfl ⟨Nat.le_of_ble_eq_true rfl, Nat.le_of_ble_eq_true rfl⟩ rfl hl.1 rfl (Nat.le_of_ble_eq_true rfl) dX8_shortest_57 ⟨Nat.zero_le _, Nat.zero_le _⟩) (fun r9 σ9 H locs hw hP hS => ?_)
                  rw [show σ9 = σ_9 from hw.2] at hP
                  rw [show r9 = r_10 from hw.1]
                  refine lv_istore (lv' := [(6, .int r_10), (5, .int r_7), (4, .int v4), (3, .int v3), (2, .int v2), (1, .int v1), (0, .ref (ad 91))]) hx hb dX8_shortest_60 hl (by decide) rfl (fun ls hl => ?_)
                  refine lv_aload_n hx hb dX8_shortest_62 rfl (lv_at hl 6 rfl) ?_
                  refine gf_X8_16 C0 X hP 91 (q := 94) ⟨by decide, rfl⟩ (by omega) rfl dX8_shortest_63 ?_
                  obtain ⟨r_11, er_11, h⟩ := bnd h
                  refine r_ci X hS (r_runS (As := [.ref (ad 94)]) (rest := []) C0 X hP L_X8_215 (fun sz => c_X8_stands l D cA ad o σ_9 94 ⟨by decide, rfl⟩ r_11 er_11 sz) ⟨Nat.le_of_ble_eq_true rfl, Nat.le_of_ble_eq_true rfl⟩ rfl hl.1 rfl (Nat.le_of_ble_eq_true rfl) dX8_shortest_66 ⟨Nat.zero_le _, Nat.zero_le _⟩) (fun r9 σ9 H locs hw hP hS => ?_)
                  rw [hw.2] at hP
                  rw [hw.1]
                  refine lv_if_eq (tgt := 75) hx hb dX8_shortest_69 (by decide) (fun c_12 => ?_) (fun c_12 => ?_)
                  · replace h := it_t h c_12
                    refine lv_bipush (v := 10) hx hb dX8_shortest_75 (by decide) ?_
                    refine lv_iload_n hx hb dX8_shortest_77 rfl (lv_at hl 3 rfl) ?_
                    refine lv_imul hx hb dX8_shortest_78 ?_
                    refine lv_iload hx hb dX8_shortest_79 (lv_at hl 2 rfl) ?_
                    refine lv_iadd hx hb dX8_shortest_81 ?_
                    refine lv_istore_n (lv' := [(1, .int ((10 * v3) + v4)), (6, .int r_10), (5, .int r_7), (4, .int v4), (3, .int v3), (2, .int v2), (0, .ref (ad 91))]) hx hb dX8_shortest_82 rfl hl (by decide) rfl (fun ls hl => ?_)
                    refine lv_iload hx hb dX8_shortest_83 (lv_at hl 2 rfl) ?_
                    refine lv_istore_n (lv' := [(2, .int r_7), (1, .int ((10 * v3) + v4)), (6, .int r_10), (5, .int r_7), (4, .int v4), (3, .int v3), (0, .ref (ad 91))]) hx hb dX8_shortest_85 rfl hl (by decide) rfl (fun ls hl => ?_)
                    refine lv_iinc (v := (v4 + 1)) (lv' := [(4, .int (v4 + 1)), (2, .int r_7), (1, .int ((10 * v3) + v4)), (6, .int r_10), (5, .int r_7), (3, .int v3), (0, .ref (ad 91))]) hx hb dX8_shortest_86 hl (k := 4) rfl rfl (by decide) rfl (fun ls hl => ?_)
                    refine lv_goto (tgt := 26) hx hb dX8_shortest_89 (by decide) ?_
                    exact ih26 σ_9 (v4 + 1) v3 r_7 ((10 * v3) + v4) _ _ ls  h hP hS (lv_sub hl [0, 5, 1, 2, 6] rfl)
                  · replace h := it_f h c_12
                    refine lv_goto (tgt := 86) hx hb dX8_shortest_72 (by decide) ?_
                    refine lv_iinc (v := (v4 + 1)) (lv' := [(4, .int (v4 + 1)), (6, .int r_10), (5, .int r_7), (3, .int v3), (2, .int v2), (1, .int v1), (0, .ref (ad 91))]) hx hb dX8_shortest_86 hl (k := 2) rfl rfl (by decide) rfl (fun ls hl => ?_)
                    refine lv_goto (tgt := 26) hx hb dX8_shortest_89 (by decide) ?_
                    exact ih26 σ_9 (v4 + 1) v3 v2 v1 _ _ ls  h hP hS (lv_sub hl [0, 3, 4, 5, 6] rfl)
                · replace h := it_f h c_8
                  refine lv_iload hx hb dX8_shortest_44 (lv_at hl 0 rfl) ?_
                  refine lv_iload_n hx hb dX8_shortest_46 rfl (lv_at hl 3 rfl) ?_
                  refine lv_icmp_lt (tgt := 53) hx hb dX8_shortest_47 (by decide) (fun c_13 => ?_) (fun c_13 => ?_)
                  · replace h := it_t h c_13
                    refine lv_aload_n hx hb dX8_shortest_53 rfl (lv_at hl 5 rfl) ?_
                    refine lv_iload_n hx hb dX8_shortest_54 rfl (lv_at hl 2 rfl) ?_
                    refine lv_iload hx hb dX8_shortest_55 (lv_at hl 1 rfl) ?_
                    obtain ⟨σ_14, r_15, eσ_14, h⟩ := bnd2 h
                    refine r_ci X hS (r_runV (As := [.int v3, .int v4]) (rest := []) C0 X hP L_X8_254 (fun sz => c_X8_costBy l D cA ad o σ v3 v4  (σ_14, r_15) eσ_14 sz) (show 91 < 106 ∧ kd 91 = (8, 24) from ⟨by decide, rfl⟩).1 (show 91 < 106 ∧ kd 91 = (8, 24) from ⟨by decide, rfl⟩).2 (by decide) rfl ⟨Nat.le_of_ble_eq_true rfl, Nat.le_of_ble_eq_true rfl⟩ rfl hl.1 rfl (Nat.le_of_ble_eq_true rfl) dX8_shortest_57 ⟨Nat.zero_le _, Nat.zero_le _⟩) (fun r9 σ9 H locs hw hP hS => ?_)
                    rw [show σ9 = σ_14 from hw.2] at hP
                    rw [show r9 = r_15 from hw.1]
                    refine lv_istore (lv' := [(6, .int r_15), (5, .int r_7), (4, .int v4), (3, .int v3), (2, .int v2), (1, .int v1), (0, .ref (ad 91))]) hx hb dX8_shortest_60 hl (by decide) rfl (fun ls hl => ?_)
                    refine lv_aload_n hx hb dX8_shortest_62 rfl (lv_at hl 6 rfl) ?_
                    refine gf_X8_16 C0 X hP 91 (q := 94) ⟨by decide, rfl⟩ (by omega) rfl dX8_shortest_63 ?_
                    obtain ⟨r_16, er_16, h⟩ := bnd h
                    refine r_ci X hS (r_runS (As := [.ref (ad 94)]) (rest := []) C0 X hP L_X8_215 (fun sz => c_X8_stands l D cA ad o σ_14 94 ⟨by decide, rfl⟩ r_16 er_16 sz) ⟨Nat.le_of_ble_eq_true rfl, Nat.le_of_ble_eq_true rfl⟩ rfl hl.1 rfl (Nat.le_of_ble_eq_true rfl) dX8_shortest_66 ⟨Nat.zero_le _, Nat.zero_le _⟩) (fun r9 σ9 H locs hw hP hS => ?_)
                    rw [hw.2] at hP
                    rw [hw.1]
                    refine lv_if_eq (tgt := 75) hx hb dX8_shortest_69 (by decide) (fun c_17 => ?_) (fun c_17 => ?_)
                    · replace h := it_t h c_17
                      refine lv_bipush (v := 10) hx hb dX8_shortest_75 (by decide) ?_
                      refine lv_iload_n hx hb dX8_shortest_77 rfl (lv_at hl 3 rfl) ?_
                      refine lv_imul hx hb dX8_shortest_78 ?_
                      refine lv_iload hx hb dX8_shortest_79 (lv_at hl 2 rfl) ?_
                      refine lv_iadd hx hb dX8_shortest_81 ?_
                      refine lv_istore_n (lv' := [(1, .int ((10 * v3) + v4)), (6, .int r_15), (5, .int r_7), (4, .int v4), (3, .int v3), (2, .int v2), (0, .ref (ad 91))]) hx hb dX8_shortest_82 rfl hl (by decide) rfl (fun ls hl => ?_)
                      refine lv_iload hx hb dX8_shortest_83 (lv_at hl 2 rfl) ?_
                      refine lv_istore_n (lv' := [(2, .int r_7), (1, .int ((10 * v3) + v4)), (6, .int r_15), (5, .int r_7), (4, .int v4), (3, .int v3), (0, .ref (ad 91))]) hx hb dX8_shortest_85 rfl hl (by decide) rfl (fun ls hl => ?_)
                      refine lv_iinc (v := (v4 + 1)) (lv' := [(4, .int (v4 + 1)), (2, .int r_7), (1, .int ((10 * v3) + v4)), (6, .int r_15), (5, .int r_7), (3, .int v3), (0, .ref (ad 91))]) hx hb dX8_shortest_86 hl (k := 4) rfl rfl (by decide) rfl (fun ls hl => ?_)
                      refine lv_goto (tgt := 26) hx hb dX8_shortest_89 (by decide) ?_
                      exact ih26 σ_14 (v4 + 1) v3 r_7 ((10 * v3) + v4) _ _ ls  h hP hS (lv_sub hl [0, 5, 1, 2, 6] rfl)
                    · replace h := it_f h c_17
                      refine lv_goto (tgt := 86) hx hb dX8_shortest_72 (by decide) ?_
                      refine lv_iinc (v := (v4 + 1)) (lv' := [(4, .int (v4 + 1)), (6, .int r_15), (5, .int r_7), (3, .int v3), (2, .int v2), (1, .int v1), (0, .ref (ad 91))]) hx hb dX8_shortest_86 hl (k := 2) rfl rfl (by decide) rfl (fun ls hl => ?_)
                      refine lv_goto (tgt := 26) hx hb dX8_shortest_89 (by decide) ?_
                      exact ih26 σ_14 (v4 + 1) v3 v2 v1 _ _ ls  h hP hS (lv_sub hl [0, 3, 4, 5, 6] rfl)
                  · replace h := it_f h c_13
                    refine lv_goto (tgt := 86) hx hb dX8_shortest_50 (by decide) ?_
                    refine lv_iinc (v := (v4 + 1)) (lv' := [(4, .int (v4 + 1)), (5, .int r_7), (3, .int v3), (2, .int v2), (1, .int v1), (0, .ref (ad 91))]) hx hb dX8_shortest_86 hl (k := 1) rfl rfl (by decide) rfl (fun ls hl => ?_)
                    refine lv_goto (tgt := 26) hx hb dX8_shortest_89 (by decide) ?_
                    exact ih26 σ (v4 + 1) v3 v2 v1 _ _ ls  h hP hS (lv_sub hl [0, 2, 3, 4, 5] rfl)
          exact lp_5 FU σ 0 v3 v2 v1 _ _ ls  h hP hS (lv_sub hl [0, 1, 2, 3, 4] rfl)
    exact lp_3 FU σ 0 0 (-4) _ _ ls  h hP hS (lv_sub hl [0, 1, 2, 3] rfl)
  · replace h := it_f h c_2
    refine lv_bipush (v := (-3)) hx hb dX8_shortest_7 (by decide) ?_
    exact r_iret C0 X hP hS hr hlk dX8_shortest_9 (rt2 h)
def bB_cX8_hours : Nat := 0xac1d0400a71c07009a1bdaffa70104843e05153d04150900a70600a11d05150c009b1c0536fe00b60415062a2500a20a1004150436033e033dfc10acfd10060099dd00b62aac0205009a3500b80a09851b
theorem yB_cX8_hours : BYS cX8_hours 81 bB_cX8_hours := BYS_of (by decide +kernel)
theorem dX8_hours_0 : decode cX8_hours 0 = .ok (.iload_n 1, 1) := D_27 yB_cX8_hours rfl rfl
theorem dX8_hours_1 : decode cX8_hours 1 = .ok (.i2l, 1) := D_133 yB_cX8_hours rfl rfl
theorem dX8_hours_2 : decode cX8_hours 2 = .ok (.lconst 0, 1) := D_9 yB_cX8_hours rfl rfl
theorem dX8_hours_3 : decode cX8_hours 3 = .ok (.lconst 1, 1) := D_10 yB_cX8_hours rfl rfl
theorem dX8_hours_4 : decode cX8_hours 4 = .ok (.invokestatic 53, 3) := D_184 yB_cX8_hours rfl rfl rfl
theorem dX8_hours_7 : decode cX8_hours 7 = .ok (.ifCond .ne 5, 3) := D_154 yB_cX8_hours rfl rfl (sg_p (m := 32768) (N := 5) rfl rfl rfl)
theorem dX8_hours_10 : decode cX8_hours 10 = .ok (.iconst (-1), 1) := D_2 yB_cX8_hours rfl rfl
theorem dX8_hours_11 : decode cX8_hours 11 = .ok (.ireturn, 1) := D_172 yB_cX8_hours rfl rfl
theorem dX8_hours_12 : decode cX8_hours 12 = .ok (.aload_n 0, 1) := D_42 yB_cX8_hours rfl rfl
theorem dX8_hours_13 : decode cX8_hours 13 = .ok (.invokevirtual 221, 3) := D_182 yB_cX8_hours rfl rfl rfl
theorem dX8_hours_16 : decode cX8_hours 16 = .ok (.ifCond .eq 6, 3) := D_153 yB_cX8_hours rfl rfl (sg_p (m := 32768) (N := 6) rfl rfl rfl)
theorem dX8_hours_19 : decode cX8_hours 19 = .ok (.bipush (-3), 2) := D_16 yB_cX8_hours rfl rfl (sg_n (m := 128) (N := 3) rfl rfl rfl)
theorem dX8_hours_21 : decode cX8_hours 21 = .ok (.ireturn, 1) := D_172 yB_cX8_hours rfl rfl
theorem dX8_hours_22 : decode cX8_hours 22 = .ok (.bipush (-4), 2) := D_16 yB_cX8_hours rfl rfl (sg_n (m := 128) (N := 4) rfl rfl rfl)
theorem dX8_hours_24 : decode cX8_hours 24 = .ok (.istore_n 2, 1) := D_61 yB_cX8_hours rfl rfl
theorem dX8_hours_25 : decode cX8_hours 25 = .ok (.iconst 0, 1) := D_3 yB_cX8_hours rfl rfl
theorem dX8_hours_26 : decode cX8_hours 26 = .ok (.istore_n 3, 1) := D_62 yB_cX8_hours rfl rfl
theorem dX8_hours_27 : decode cX8_hours 27 = .ok (.iconst 0, 1) := D_3 yB_cX8_hours rfl rfl
theorem dX8_hours_28 : decode cX8_hours 28 = .ok (.istore 4, 2) := D_54 yB_cX8_hours rfl rfl rfl
theorem dX8_hours_30 : decode cX8_hours 30 = .ok (.iload 4, 2) := D_21 yB_cX8_hours rfl rfl rfl
theorem dX8_hours_32 : decode cX8_hours 32 = .ok (.bipush 10, 2) := D_16 yB_cX8_hours rfl rfl (sg_p (m := 128) (N := 10) rfl rfl rfl)
theorem dX8_hours_34 : decode cX8_hours 34 = .ok (.if_icmp .ge 37, 3) := D_162 yB_cX8_hours rfl rfl (sg_p (m := 32768) (N := 37) rfl rfl rfl)
theorem dX8_hours_37 : decode cX8_hours 37 = .ok (.aload_n 0, 1) := D_42 yB_cX8_hours rfl rfl
theorem dX8_hours_38 : decode cX8_hours 38 = .ok (.iconst 3, 1) := D_6 yB_cX8_hours rfl rfl
theorem dX8_hours_39 : decode cX8_hours 39 = .ok (.iload 4, 2) := D_21 yB_cX8_hours rfl rfl rfl
theorem dX8_hours_41 : decode cX8_hours 41 = .ok (.invokevirtual 254, 3) := D_182 yB_cX8_hours rfl rfl rfl
theorem dX8_hours_44 : decode cX8_hours 44 = .ok (.istore 5, 2) := D_54 yB_cX8_hours rfl rfl rfl
theorem dX8_hours_46 : decode cX8_hours 46 = .ok (.iload_n 2, 1) := D_28 yB_cX8_hours rfl rfl
theorem dX8_hours_47 : decode cX8_hours 47 = .ok (.ifCond .lt 12, 3) := D_155 yB_cX8_hours rfl rfl (sg_p (m := 32768) (N := 12) rfl rfl rfl)
theorem dX8_hours_50 : decode cX8_hours 50 = .ok (.iload 5, 2) := D_21 yB_cX8_hours rfl rfl rfl
theorem dX8_hours_52 : decode cX8_hours 52 = .ok (.iload_n 3, 1) := D_29 yB_cX8_hours rfl rfl
theorem dX8_hours_53 : decode cX8_hours 53 = .ok (.if_icmp .lt 6, 3) := D_161 yB_cX8_hours rfl rfl (sg_p (m := 32768) (N := 6) rfl rfl rfl)
theorem dX8_hours_56 : decode cX8_hours 56 = .ok (.goto 9, 3) := D_167 yB_cX8_hours rfl rfl (sg_p (m := 32768) (N := 9) rfl rfl rfl)
theorem dX8_hours_59 : decode cX8_hours 59 = .ok (.iload 4, 2) := D_21 yB_cX8_hours rfl rfl rfl
theorem dX8_hours_61 : decode cX8_hours 61 = .ok (.istore_n 2, 1) := D_61 yB_cX8_hours rfl rfl
theorem dX8_hours_62 : decode cX8_hours 62 = .ok (.iload 5, 2) := D_21 yB_cX8_hours rfl rfl rfl
theorem dX8_hours_64 : decode cX8_hours 64 = .ok (.istore_n 3, 1) := D_62 yB_cX8_hours rfl rfl
theorem dX8_hours_65 : decode cX8_hours 65 = .ok (.iinc 4 1, 3) := D_132 yB_cX8_hours rfl rfl rfl (sg_p (m := 128) (N := 1) rfl rfl rfl)
theorem dX8_hours_68 : decode cX8_hours 68 = .ok (.goto (-38), 3) := D_167 yB_cX8_hours rfl rfl (sg_n (m := 32768) (N := 38) rfl rfl rfl)
theorem dX8_hours_71 : decode cX8_hours 71 = .ok (.iload_n 1, 1) := D_27 yB_cX8_hours rfl rfl
theorem dX8_hours_72 : decode cX8_hours 72 = .ok (.ifCond .ne 7, 3) := D_154 yB_cX8_hours rfl rfl (sg_p (m := 32768) (N := 7) rfl rfl rfl)
theorem dX8_hours_75 : decode cX8_hours 75 = .ok (.iload_n 2, 1) := D_28 yB_cX8_hours rfl rfl
theorem dX8_hours_76 : decode cX8_hours 76 = .ok (.goto 4, 3) := D_167 yB_cX8_hours rfl rfl (sg_p (m := 32768) (N := 4) rfl rfl rfl)
theorem dX8_hours_79 : decode cX8_hours 79 = .ok (.iload_n 3, 1) := D_29 yB_cX8_hours rfl rfl
theorem dX8_hours_80 : decode cX8_hours 80 = .ok (.ireturn, 1) := D_172 yB_cX8_hours rfl rfl
def F_X8_hours_30 (x1 : Int32)  : Nat → Mem → Int32 → Int32 → Int32 → Option (Mem × Int32)
  | 0, _, _, _, _ => none
  | nn + 1, σ, v4, v3, v2 => if 10 ≤ v4 then (if x1 = 0 then (some (σ, v2)) else (some (σ, v3))) else (bd2 (F_X8_costBy σ 3 v4) fun σ_8 r_9 => if v2 < 0 then (F_X8_hours_30 x1 nn σ_8 (v4 + 1) r_9 v4) else (if r_9 < v3 then (F_X8_hours_30 x1 nn σ_8 (v4 + 1) r_9 v4) else (F_X8_hours_30 x1 nn σ_8 (v4 + 1) v3 v2)))
def F_X8_hours (σ : Mem) (x1 : Int32) : Option (Mem × Int32) := if x1 < 0 ∨ 1 < x1 then (some (σ, (-1))) else ((F_X8_isEmpty σ ).bind fun r_3 => if r_3 = 0 then (F_X8_hours_30 x1 FU σ 0 0 (-4)) else (some (σ, (-3))))
set_option maxHeartbeats 4000000 in
set_option maxRecDepth 100000 in
theorem c_X8_hours (l : Launch) (D : va_G) (cA : Nat → ClassId) (ad : Nat → Nat) (o : Int64) (σ : Mem) (x1 : Int32)  (res : Mem × Int32) (h : F_X8_hours σ x1 = some res) (sz : Nat) : Met l yX8_hours (WY yX8_hours cX8_hours 6 (some .int)) (RM 10) (va_Pc [.ref (ad 91), .int x1] (PW D cA ad o σ sz)) (va_Qi (fun r σ9 => r = res.2 ∧ σ9 = res.1) (QW D cA ad o) (FA ad sz)) 0 0 (FA ad sz) := by
  refine ct_of (own := RX8) (k := 10) (Qf := va_Qi (fun r σ9 => r = res.2 ∧ σ9 = res.1) (QW D cA ad o)) rfl (by decide) (Nat.le_of_ble_eq_true rfl) (fun p e s m below meth c ls C0 X hr hlk hP hl => ?_) sz
  have hS : va_S (FA ad s.heap.size) s.heap s.heap [] := va_S.rf
  have hl : lv_has ls 6 [(0, .ref (ad 91)), (1, .int x1)] := hl
  obtain ⟨hx, hb, hml, hown, hts⟩ := id C0
  unfold F_X8_hours at h
  refine lv_iload_n hx hb dX8_hours_0 rfl (lv_at hl 1 rfl) ?_
  refine lv_i2l (v := (x1.toInt64)) hx hb dX8_hours_1 rfl ?_
  refine lv_lconst (v := ((0 : Int32).toInt64)) hx hb dX8_hours_2 (by decide) ?_
  refine lv_lconst (v := ((1 : Int32).toInt64)) hx hb dX8_hours_3 (by decide) ?_
  refine r_ci X hS (r_runS (As := [.long (x1.toInt64), .long ((0 : Int32).toInt64), .long ((1 : Int32).toInt64)]) (rest := []) C0 X hP L_X8_53 (fun sz => c_X8_isIn l D cA ad o σ x1 0 1 sz) ⟨Nat.le_of_ble_eq_true rfl, Nat.le_of_ble_eq_true rfl⟩ rfl hl.1 rfl (Nat.le_of_ble_eq_true rfl) dX8_hours_4 ⟨Nat.zero_le _, Nat.zero_le _⟩) (fun r9 σ9 H locs hw hP hS => ?_)
  rw [hw.2] at hP
  obtain ⟨⟨b_1, rfl⟩ | ⟨b_1, rfl⟩, -⟩ := hw
  · replace h := it_f h (inn b_1)
    refine lv_if_ne (tgt := 12) hx hb dX8_hours_7 (by decide) (fun _ => ?_) (fun c_2 => absurd c_2 (by decide))
    refine lv_aload_n hx hb dX8_hours_12 rfl (lv_at hl 0 rfl) ?_
    obtain ⟨r_3, er_3, h⟩ := bnd h
    refine r_ci X hS (r_runV (As := []) (rest := []) C0 X hP L_X8_221 (fun sz => c_X8_isEmpty l D cA ad o σ   r_3 er_3 sz) (show 91 < 106 ∧ kd 91 = (8, 24) from ⟨by decide, rfl⟩).1 (show 91 < 106 ∧ kd 91 = (8, 24) from ⟨by decide, rfl⟩).2 (by decide) rfl ⟨Nat.le_of_ble_eq_true rfl, Nat.le_of_ble_eq_true rfl⟩ rfl hl.1 rfl (Nat.le_of_ble_eq_true rfl) dX8_hours_13 ⟨Nat.zero_le _, Nat.zero_le _⟩) (fun r9 σ9 H locs hw hP hS => ?_)
    rw [hw.2] at hP
    rw [hw.1]
    refine lv_if_eq (tgt := 22) hx hb dX8_hours_16 (by decide) (fun c_4 => ?_) (fun c_4 => ?_)
    · replace h := it_t h c_4
      refine lv_bipush (v := (-4)) hx hb dX8_hours_22 (by decide) ?_
      refine lv_istore_n (lv' := [(2, .int (-4)), (0, .ref (ad 91)), (1, .int x1)]) hx hb dX8_hours_24 rfl hl (by decide) rfl (fun ls hl => ?_)
      refine lv_iconst (v := 0) hx hb dX8_hours_25 (by decide) ?_
      refine lv_istore_n (lv' := [(3, .int 0), (2, .int (-4)), (0, .ref (ad 91)), (1, .int x1)]) hx hb dX8_hours_26 rfl hl (by decide) rfl (fun ls hl => ?_)
      refine lv_iconst (v := 0) hx hb dX8_hours_27 (by decide) ?_
      refine lv_istore (lv' := [(4, .int 0), (3, .int 0), (2, .int (-4)), (0, .ref (ad 91)), (1, .int x1)]) hx hb dX8_hours_28 hl (by decide) rfl (fun ls hl => ?_)
      have lp_5 : ∀ (nn30 : Nat) (σ : Mem) (v4 : Int32) (v3 : Int32) (v2 : Int32) (H : Heap) (locs : List Loc) (ls : Array Slot), F_X8_hours_30 x1 nn30 σ v4 v3 v2 = some res → WP D cA ad o σ H → va_S (FA ad s.heap.size) s.heap H locs → lv_has ls 6 [(4, .int v4), (3, .int v3), (2, .int v2), (0, .ref (ad 91)), (1, .int x1)] → W p l e (RM 10) s m ([.ref (ad 91), .int x1] : List Value).toArray below meth c H locs 0 0 (MQ below (va_Qi (fun r σ9 => r = res.2 ∧ σ9 = res.1) (QW D cA ad o) (FA ad s.heap.size)) ([.ref (ad 91), .int x1] : List Value).toArray s 0 0 (FA ad s.heap.size)) (F0 m 30 ls []) := by
        intro nn30
        induction nn30 with
        | zero => intro σ v4 v3 v2 H locs ls h hP hS hl; exact absurd (show none = some res from h) nofun
        | succ nn30 ih30 =>
          intro σ v4 v3 v2 H locs ls h hP hS hl
          replace h := (F_X8_hours_30.eq_2 _ _ _ _ _ _).symm.trans h
          refine lv_iload hx hb dX8_hours_30 (lv_at hl 0 rfl) ?_
          refine lv_bipush (v := 10) hx hb dX8_hours_32 (by decide) ?_
          refine lv_icmp_ge (tgt := 71) hx hb dX8_hours_34 (by decide) (fun c_6 => ?_) (fun c_6 => ?_)
          · replace h := it_t h c_6
            refine lv_iload_n hx hb dX8_hours_71 rfl (lv_at hl 4 rfl) ?_
            refine lv_if_ne (tgt := 79) hx hb dX8_hours_72 (by decide) (fun c_7 => ?_) (fun c_7 => ?_)
            · replace h := it_f h c_7
              refine lv_iload_n hx hb dX8_hours_79 rfl (lv_at hl 1 rfl) ?_
              exact r_iret C0 X hP hS hr hlk dX8_hours_80 (rt2 h)
            · replace h := it_t h c_7
              refine lv_iload_n hx hb dX8_hours_75 rfl (lv_at hl 2 rfl) ?_
              refine lv_goto (tgt := 80) hx hb dX8_hours_76 (by decide) ?_
              exact r_iret C0 X hP hS hr hlk dX8_hours_80 (rt2 h)
          · replace h := it_f h c_6
            refine lv_aload_n hx hb dX8_hours_37 rfl (lv_at hl 3 rfl) ?_
            refine lv_iconst (v := 3) hx hb dX8_hours_38 (by decide) ?_
            refine lv_iload hx hb dX8_hours_39 (lv_at hl 0 rfl) ?_
            obtain ⟨σ_8, r_9, eσ_8, h⟩ := bnd2 h
            refine r_ci X hS (r_runV (As := [.int 3, .int v4]) (rest := []) C0 X hP L_X8_254 (fun sz => c_X8_costBy l D cA ad o σ 3 v4  (σ_8, r_9) eσ_8 sz) (show 91 < 106 ∧ kd 91 = (8, 24) from ⟨by decide, rfl⟩).1 (show 91 < 106 ∧ kd 91 = (8, 24) from ⟨by decide, rfl⟩).2 (by decide) rfl ⟨Nat.le_of_ble_eq_true rfl, Nat.le_of_ble_eq_true rfl⟩ rfl hl.1 rfl (Nat.le_of_ble_eq_true rfl) dX8_hours_41 ⟨Nat.zero_le _, Nat.zero_le _⟩) (fun r9 σ9 H locs hw hP hS => ?_)
            rw [show σ9 = σ_8 from hw.2] at hP
            rw [show r9 = r_9 from hw.1]
            refine lv_istore (lv' := [(5, .int r_9), (4, .int v4), (3, .int v3), (2, .int v2), (0, .ref (ad 91)), (1, .int x1)]) hx hb dX8_hours_44 hl (by decide) rfl (fun ls hl => ?_)
            refine lv_iload_n hx hb dX8_hours_46 rfl (lv_at hl 3 rfl) ?_
            refine lv_if_lt (tgt := 59) hx hb dX8_hours_47 (by decide) (fun c_10 => ?_) (fun c_10 => ?_)
            · replace h := it_t h c_10
              refine lv_iload hx hb dX8_hours_59 (lv_at hl 1 rfl) ?_
              refine lv_istore_n (lv' := [(2, .int v4), (5, .int r_9), (4, .int v4), (3, .int v3), (0, .ref (ad 91)), (1, .int x1)]) hx hb dX8_hours_61 rfl hl (by decide) rfl (fun ls hl => ?_)
              refine lv_iload hx hb dX8_hours_62 (lv_at hl 1 rfl) ?_
              refine lv_istore_n (lv' := [(3, .int r_9), (2, .int v4), (5, .int r_9), (4, .int v4), (0, .ref (ad 91)), (1, .int x1)]) hx hb dX8_hours_64 rfl hl (by decide) rfl (fun ls hl => ?_)
              refine lv_iinc (v := (v4 + 1)) (lv' := [(4, .int (v4 + 1)), (3, .int r_9), (2, .int v4), (5, .int r_9), (0, .ref (ad 91)), (1, .int x1)]) hx hb dX8_hours_65 hl (k := 3) rfl rfl (by decide) rfl (fun ls hl => ?_)
              refine lv_goto (tgt := 30) hx hb dX8_hours_68 (by decide) ?_
              exact ih30 σ_8 (v4 + 1) r_9 v4 _ _ ls  h hP hS (lv_sub hl [0, 1, 2, 4, 5] rfl)
            · replace h := it_f h c_10
              refine lv_iload hx hb dX8_hours_50 (lv_at hl 0 rfl) ?_
              refine lv_iload_n hx hb dX8_hours_52 rfl (lv_at hl 2 rfl) ?_
              refine lv_icmp_lt (tgt := 59) hx hb dX8_hours_53 (by decide) (fun c_11 => ?_) (fun c_11 => ?_)
              · replace h := it_t h c_11
                refine lv_iload hx hb dX8_hours_59 (lv_at hl 1 rfl) ?_
                refine lv_istore_n (lv' := [(2, .int v4), (5, .int r_9), (4, .int v4), (3, .int v3), (0, .ref (ad 91)), (1, .int x1)]) hx hb dX8_hours_61 rfl hl (by decide) rfl (fun ls hl => ?_)
                refine lv_iload hx hb dX8_hours_62 (lv_at hl 1 rfl) ?_
                refine lv_istore_n (lv' := [(3, .int r_9), (2, .int v4), (5, .int r_9), (4, .int v4), (0, .ref (ad 91)), (1, .int x1)]) hx hb dX8_hours_64 rfl hl (by decide) rfl (fun ls hl => ?_)
                refine lv_iinc (v := (v4 + 1)) (lv' := [(4, .int (v4 + 1)), (3, .int r_9), (2, .int v4), (5, .int r_9), (0, .ref (ad 91)), (1, .int x1)]) hx hb dX8_hours_65 hl (k := 3) rfl rfl (by decide) rfl (fun ls hl => ?_)
                refine lv_goto (tgt := 30) hx hb dX8_hours_68 (by decide) ?_
                exact ih30 σ_8 (v4 + 1) r_9 v4 _ _ ls  h hP hS (lv_sub hl [0, 1, 2, 4, 5] rfl)
              · replace h := it_f h c_11
                refine lv_goto (tgt := 65) hx hb dX8_hours_56 (by decide) ?_
                refine lv_iinc (v := (v4 + 1)) (lv' := [(4, .int (v4 + 1)), (5, .int r_9), (3, .int v3), (2, .int v2), (0, .ref (ad 91)), (1, .int x1)]) hx hb dX8_hours_65 hl (k := 1) rfl rfl (by decide) rfl (fun ls hl => ?_)
                refine lv_goto (tgt := 30) hx hb dX8_hours_68 (by decide) ?_
                exact ih30 σ_8 (v4 + 1) v3 v2 _ _ ls  h hP hS (lv_sub hl [0, 2, 3, 4, 5] rfl)
      exact lp_5 FU σ 0 0 (-4) _ _ ls  h hP hS (lv_sub hl [0, 1, 2, 3, 4] rfl)
    · replace h := it_f h c_4
      refine lv_bipush (v := (-3)) hx hb dX8_hours_19 (by decide) ?_
      exact r_iret C0 X hP hS hr hlk dX8_hours_21 (rt2 h)
  · replace h := it_t h b_1
    refine lv_if_ne (tgt := 12) hx hb dX8_hours_7 (by decide) (fun c_12 => absurd c_12 (by decide)) (fun _ => ?_)
    refine lv_iconst (v := (-1)) hx hb dX8_hours_10 (by decide) ?_
    exact r_iret C0 X hP hS hr hlk dX8_hours_11 (rt2 h)
def bB_cX8_stubborn : Nat := 0xac641cf700b62a6100b803061b1000b42af400b62a3df700b62af400b62aac04011307009a2e030900b42aacea1206009a7f00b61b2a
theorem yB_cX8_stubborn : BYS cX8_stubborn 54 bB_cX8_stubborn := BYS_of (by decide +kernel)
theorem dX8_stubborn_0 : decode cX8_stubborn 0 = .ok (.aload_n 0, 1) := D_42 yB_cX8_stubborn rfl rfl
theorem dX8_stubborn_1 : decode cX8_stubborn 1 = .ok (.iload_n 1, 1) := D_27 yB_cX8_stubborn rfl rfl
theorem dX8_stubborn_2 : decode cX8_stubborn 2 = .ok (.invokevirtual 127, 3) := D_182 yB_cX8_stubborn rfl rfl rfl
theorem dX8_stubborn_5 : decode cX8_stubborn 5 = .ok (.ifCond .ne 6, 3) := D_154 yB_cX8_stubborn rfl rfl (sg_p (m := 32768) (N := 6) rfl rfl rfl)
theorem dX8_stubborn_8 : decode cX8_stubborn 8 = .ok (.ldc 234, 2) := D_18 yB_cX8_stubborn rfl rfl rfl
theorem dX8_stubborn_10 : decode cX8_stubborn 10 = .ok (.ireturn, 1) := D_172 yB_cX8_stubborn rfl rfl
theorem dX8_stubborn_11 : decode cX8_stubborn 11 = .ok (.aload_n 0, 1) := D_42 yB_cX8_stubborn rfl rfl
theorem dX8_stubborn_12 : decode cX8_stubborn 12 = .ok (.getfield 9, 3) := D_180 yB_cX8_stubborn rfl rfl rfl
theorem dX8_stubborn_15 : decode cX8_stubborn 15 = .ok (.iconst 0, 1) := D_3 yB_cX8_stubborn rfl rfl
theorem dX8_stubborn_16 : decode cX8_stubborn 16 = .ok (.iaload, 1) := D_46 yB_cX8_stubborn rfl rfl
theorem dX8_stubborn_17 : decode cX8_stubborn 17 = .ok (.ifCond .ne 7, 3) := D_154 yB_cX8_stubborn rfl rfl (sg_p (m := 32768) (N := 7) rfl rfl rfl)
theorem dX8_stubborn_20 : decode cX8_stubborn 20 = .ok (.ldc_w 260, 3) := D_19 yB_cX8_stubborn rfl rfl rfl
theorem dX8_stubborn_23 : decode cX8_stubborn 23 = .ok (.ireturn, 1) := D_172 yB_cX8_stubborn rfl rfl
theorem dX8_stubborn_24 : decode cX8_stubborn 24 = .ok (.aload_n 0, 1) := D_42 yB_cX8_stubborn rfl rfl
theorem dX8_stubborn_25 : decode cX8_stubborn 25 = .ok (.invokevirtual 244, 3) := D_182 yB_cX8_stubborn rfl rfl rfl
theorem dX8_stubborn_28 : decode cX8_stubborn 28 = .ok (.aload_n 0, 1) := D_42 yB_cX8_stubborn rfl rfl
theorem dX8_stubborn_29 : decode cX8_stubborn 29 = .ok (.invokevirtual 247, 3) := D_182 yB_cX8_stubborn rfl rfl rfl
theorem dX8_stubborn_32 : decode cX8_stubborn 32 = .ok (.istore_n 2, 1) := D_61 yB_cX8_stubborn rfl rfl
theorem dX8_stubborn_33 : decode cX8_stubborn 33 = .ok (.aload_n 0, 1) := D_42 yB_cX8_stubborn rfl rfl
theorem dX8_stubborn_34 : decode cX8_stubborn 34 = .ok (.invokevirtual 244, 3) := D_182 yB_cX8_stubborn rfl rfl rfl
theorem dX8_stubborn_37 : decode cX8_stubborn 37 = .ok (.aload_n 0, 1) := D_42 yB_cX8_stubborn rfl rfl
theorem dX8_stubborn_38 : decode cX8_stubborn 38 = .ok (.getfield 16, 3) := D_180 yB_cX8_stubborn rfl rfl rfl
theorem dX8_stubborn_41 : decode cX8_stubborn 41 = .ok (.iload_n 1, 1) := D_27 yB_cX8_stubborn rfl rfl
theorem dX8_stubborn_42 : decode cX8_stubborn 42 = .ok (.iconst 3, 1) := D_6 yB_cX8_stubborn rfl rfl
theorem dX8_stubborn_43 : decode cX8_stubborn 43 = .ok (.iconst 0, 1) := D_3 yB_cX8_stubborn rfl rfl
theorem dX8_stubborn_44 : decode cX8_stubborn 44 = .ok (.invokestatic 97, 3) := D_184 yB_cX8_stubborn rfl rfl rfl
theorem dX8_stubborn_47 : decode cX8_stubborn 47 = .ok (.aload_n 0, 1) := D_42 yB_cX8_stubborn rfl rfl
theorem dX8_stubborn_48 : decode cX8_stubborn 48 = .ok (.invokevirtual 247, 3) := D_182 yB_cX8_stubborn rfl rfl rfl
theorem dX8_stubborn_51 : decode cX8_stubborn 51 = .ok (.iload_n 2, 1) := D_28 yB_cX8_stubborn rfl rfl
theorem dX8_stubborn_52 : decode cX8_stubborn 52 = .ok (.isub, 1) := D_100 yB_cX8_stubborn rfl rfl
theorem dX8_stubborn_53 : decode cX8_stubborn 53 = .ok (.ireturn, 1) := D_172 yB_cX8_stubborn rfl rfl
def F_X8_stubborn (σ : Mem) (x1 : Int32) : Option (Mem × Int32) := (F_X8_isCart σ x1).bind fun r_1 => if r_1 = 0 then (some (σ, (-1000000001))) else (if (σ 92 0) = 0 then (some (σ, (-1000000003))) else ((F_X8_opens σ ).bind fun σ_4 => bd2 (F_X8_costs σ_4 ) fun σ_5 r_6 => (F_X8_opens σ_5 ).bind fun σ_7 => (F_X8_puts σ_7 94 x1 3 0).bind fun σ_8 => bd2 (F_X8_costs σ_8 ) fun σ_9 r_10 => some (σ_9, (r_10 - r_6))))
set_option maxHeartbeats 4000000 in
set_option maxRecDepth 100000 in
theorem c_X8_stubborn (l : Launch) (D : va_G) (cA : Nat → ClassId) (ad : Nat → Nat) (o : Int64) (σ : Mem) (x1 : Int32)  (res : Mem × Int32) (h : F_X8_stubborn σ x1 = some res) (sz : Nat) : Met l yX8_stubborn (WY yX8_stubborn cX8_stubborn 3 (some .int)) (RM 9) (va_Pc [.ref (ad 91), .int x1] (PW D cA ad o σ sz)) (va_Qi (fun r σ9 => r = res.2 ∧ σ9 = res.1) (QW D cA ad o) (FA ad sz)) 0 0 (FA ad sz) := by
  refine ct_of (own := RX8) (k := 9) (Qf := va_Qi (fun r σ9 => r = res.2 ∧ σ9 = res.1) (QW D cA ad o)) rfl (by decide) (Nat.le_of_ble_eq_true rfl) (fun p e s m below meth c ls C0 X hr hlk hP hl => ?_) sz
  have hS : va_S (FA ad s.heap.size) s.heap s.heap [] := va_S.rf
  have hl : lv_has ls 3 [(0, .ref (ad 91)), (1, .int x1)] := hl
  obtain ⟨hx, hb, hml, hown, hts⟩ := id C0
  unfold F_X8_stubborn at h
  refine lv_aload_n hx hb dX8_stubborn_0 rfl (lv_at hl 0 rfl) ?_
  refine lv_iload_n hx hb dX8_stubborn_1 rfl (lv_at hl 1 rfl) ?_
  obtain ⟨r_1, er_1, h⟩ := bnd h
  refine r_ci X hS (r_runV (As := [.int x1]) (rest := []) C0 X hP L_X8_127 (fun sz => c_X8_isCart l D cA ad o σ x1  r_1 er_1 sz) (show 91 < 106 ∧ kd 91 = (8, 24) from ⟨by decide, rfl⟩).1 (show 91 < 106 ∧ kd 91 = (8, 24) from ⟨by decide, rfl⟩).2 (by decide) rfl ⟨Nat.le_of_ble_eq_true rfl, Nat.le_of_ble_eq_true rfl⟩ rfl hl.1 rfl (Nat.le_of_ble_eq_true rfl) dX8_stubborn_2 ⟨Nat.zero_le _, Nat.zero_le _⟩) (fun r9 σ9 H locs hw hP hS => ?_)
  rw [hw.2] at hP
  rw [hw.1]
  refine lv_if_ne (tgt := 11) hx hb dX8_stubborn_5 (by decide) (fun c_2 => ?_) (fun c_2 => ?_)
  · replace h := it_f h c_2
    refine lv_aload_n hx hb dX8_stubborn_11 rfl (lv_at hl 0 rfl) ?_
    refine gf_X8_9 C0 X hP 91 (q := 92) ⟨by decide, rfl⟩ (by omega) rfl dX8_stubborn_12 ?_
    refine lv_iconst (v := 0) hx hb dX8_stubborn_15 (by decide) ?_
    refine r_ialdN C0 X hP 92 (k := 0) ⟨by decide, rfl⟩ rfl (by decide) dX8_stubborn_16 ?_
    refine lv_if_ne (tgt := 24) hx hb dX8_stubborn_17 (by decide) (fun c_3 => ?_) (fun c_3 => ?_)
    · replace h := it_f h c_3
      refine lv_aload_n hx hb dX8_stubborn_24 rfl (lv_at hl 0 rfl) ?_
      obtain ⟨σ_4, eσ_4, h⟩ := bnd h
      refine r_cv X hS (r_runV (As := []) (rest := []) C0 X hP L_X8_244 (fun sz => c_X8_opens l D cA ad o σ   σ_4 eσ_4 sz) (show 91 < 106 ∧ kd 91 = (8, 24) from ⟨by decide, rfl⟩).1 (show 91 < 106 ∧ kd 91 = (8, 24) from ⟨by decide, rfl⟩).2 (by decide) rfl ⟨Nat.le_of_ble_eq_true rfl, Nat.le_of_ble_eq_true rfl⟩ rfl hl.1 rfl (Nat.le_of_ble_eq_true rfl) dX8_stubborn_25 ⟨Nat.zero_le _, Nat.zero_le _⟩) (fun σ9 H locs hw hP hS => ?_)
      rw [show σ9 = σ_4 from hw] at hP
      refine lv_aload_n hx hb dX8_stubborn_28 rfl (lv_at hl 0 rfl) ?_
      obtain ⟨σ_5, r_6, eσ_5, h⟩ := bnd2 h
      refine r_ci X hS (r_runV (As := []) (rest := []) C0 X hP L_X8_247 (fun sz => c_X8_costs l D cA ad o σ_4   (σ_5, r_6) eσ_5 sz) (show 91 < 106 ∧ kd 91 = (8, 24) from ⟨by decide, rfl⟩).1 (show 91 < 106 ∧ kd 91 = (8, 24) from ⟨by decide, rfl⟩).2 (by decide) rfl ⟨Nat.le_of_ble_eq_true rfl, Nat.le_of_ble_eq_true rfl⟩ rfl hl.1 rfl (Nat.le_of_ble_eq_true rfl) dX8_stubborn_29 ⟨Nat.zero_le _, Nat.zero_le _⟩) (fun r9 σ9 H locs hw hP hS => ?_)
      rw [show σ9 = σ_5 from hw.2] at hP
      rw [show r9 = r_6 from hw.1]
      refine lv_istore_n (lv' := [(2, .int r_6), (0, .ref (ad 91)), (1, .int x1)]) hx hb dX8_stubborn_32 rfl hl (by decide) rfl (fun ls hl => ?_)
      refine lv_aload_n hx hb dX8_stubborn_33 rfl (lv_at hl 1 rfl) ?_
      obtain ⟨σ_7, eσ_7, h⟩ := bnd h
      refine r_cv X hS (r_runV (As := []) (rest := []) C0 X hP L_X8_244 (fun sz => c_X8_opens l D cA ad o σ_5   σ_7 eσ_7 sz) (show 91 < 106 ∧ kd 91 = (8, 24) from ⟨by decide, rfl⟩).1 (show 91 < 106 ∧ kd 91 = (8, 24) from ⟨by decide, rfl⟩).2 (by decide) rfl ⟨Nat.le_of_ble_eq_true rfl, Nat.le_of_ble_eq_true rfl⟩ rfl hl.1 rfl (Nat.le_of_ble_eq_true rfl) dX8_stubborn_34 ⟨Nat.zero_le _, Nat.zero_le _⟩) (fun σ9 H locs hw hP hS => ?_)
      rw [show σ9 = σ_7 from hw] at hP
      refine lv_aload_n hx hb dX8_stubborn_37 rfl (lv_at hl 1 rfl) ?_
      refine gf_X8_16 C0 X hP 91 (q := 94) ⟨by decide, rfl⟩ (by omega) rfl dX8_stubborn_38 ?_
      refine lv_iload_n hx hb dX8_stubborn_41 rfl (lv_at hl 2 rfl) ?_
      refine lv_iconst (v := 3) hx hb dX8_stubborn_42 (by decide) ?_
      refine lv_iconst (v := 0) hx hb dX8_stubborn_43 (by decide) ?_
      obtain ⟨σ_8, eσ_8, h⟩ := bnd h
      refine r_cv X hS (r_runS (As := [.ref (ad 94), .int x1, .int 3, .int 0]) (rest := []) C0 X hP L_X8_97 (fun sz => c_X8_puts l D cA ad o σ_7 94 x1 3 0 ⟨by decide, rfl⟩ σ_8 eσ_8 sz) ⟨Nat.le_of_ble_eq_true rfl, Nat.le_of_ble_eq_true rfl⟩ rfl hl.1 rfl (Nat.le_of_ble_eq_true rfl) dX8_stubborn_44 ⟨Nat.zero_le _, Nat.zero_le _⟩) (fun σ9 H locs hw hP hS => ?_)
      rw [show σ9 = σ_8 from hw] at hP
      refine lv_aload_n hx hb dX8_stubborn_47 rfl (lv_at hl 1 rfl) ?_
      obtain ⟨σ_9, r_10, eσ_9, h⟩ := bnd2 h
      refine r_ci X hS (r_runV (As := []) (rest := []) C0 X hP L_X8_247 (fun sz => c_X8_costs l D cA ad o σ_8   (σ_9, r_10) eσ_9 sz) (show 91 < 106 ∧ kd 91 = (8, 24) from ⟨by decide, rfl⟩).1 (show 91 < 106 ∧ kd 91 = (8, 24) from ⟨by decide, rfl⟩).2 (by decide) rfl ⟨Nat.le_of_ble_eq_true rfl, Nat.le_of_ble_eq_true rfl⟩ rfl hl.1 rfl (Nat.le_of_ble_eq_true rfl) dX8_stubborn_48 ⟨Nat.zero_le _, Nat.zero_le _⟩) (fun r9 σ9 H locs hw hP hS => ?_)
      rw [show σ9 = σ_9 from hw.2] at hP
      rw [show r9 = r_10 from hw.1]
      refine lv_iload_n hx hb dX8_stubborn_51 rfl (lv_at hl 0 rfl) ?_
      refine lv_isub hx hb dX8_stubborn_52 ?_
      exact r_iret C0 X hP hS hr hlk dX8_stubborn_53 (rt2 h)
    · replace h := it_t h c_3
      refine lv_ldcw (own := RX8) (index := 260) (v := (-1000000003)) hx hb hown (hts _ (tmc sb6_6 6 rfl (by decide +kernel))) dX8_stubborn_20 ?_
      exact r_iret C0 X hP hS hr hlk dX8_stubborn_23 (rt2 h)
  · replace h := it_t h c_2
    refine lv_ldc (own := RX8) (index := 234) (v := (-1000000001)) hx hb hown (hts _ (tmc sb6_1 9 rfl (by decide +kernel))) dX8_stubborn_8 ?_
    exact r_iret C0 X hP hS hr hlk dX8_stubborn_10 (rt2 h)
def bB_cX8_heard : Nat := 0xac64fe00b61b072afe00b603072a1000a7040113090099dd00b62a1d00a7ea1208009a3500b85f001409851b
theorem yB_cX8_heard : BYS cX8_heard 44 bB_cX8_heard := BYS_of (by decide +kernel)
theorem dX8_heard_0 : decode cX8_heard 0 = .ok (.iload_n 1, 1) := D_27 yB_cX8_heard rfl rfl
theorem dX8_heard_1 : decode cX8_heard 1 = .ok (.i2l, 1) := D_133 yB_cX8_heard rfl rfl
theorem dX8_heard_2 : decode cX8_heard 2 = .ok (.lconst 0, 1) := D_9 yB_cX8_heard rfl rfl
theorem dX8_heard_3 : decode cX8_heard 3 = .ok (.ldc2_w 95, 3) := D_20 yB_cX8_heard rfl rfl rfl
theorem dX8_heard_6 : decode cX8_heard 6 = .ok (.invokestatic 53, 3) := D_184 yB_cX8_heard rfl rfl rfl
theorem dX8_heard_9 : decode cX8_heard 9 = .ok (.ifCond .ne 8, 3) := D_154 yB_cX8_heard rfl rfl (sg_p (m := 32768) (N := 8) rfl rfl rfl)
theorem dX8_heard_12 : decode cX8_heard 12 = .ok (.ldc 234, 2) := D_18 yB_cX8_heard rfl rfl rfl
theorem dX8_heard_14 : decode cX8_heard 14 = .ok (.goto 29, 3) := D_167 yB_cX8_heard rfl rfl (sg_p (m := 32768) (N := 29) rfl rfl rfl)
theorem dX8_heard_17 : decode cX8_heard 17 = .ok (.aload_n 0, 1) := D_42 yB_cX8_heard rfl rfl
theorem dX8_heard_18 : decode cX8_heard 18 = .ok (.invokevirtual 221, 3) := D_182 yB_cX8_heard rfl rfl rfl
theorem dX8_heard_21 : decode cX8_heard 21 = .ok (.ifCond .eq 9, 3) := D_153 yB_cX8_heard rfl rfl (sg_p (m := 32768) (N := 9) rfl rfl rfl)
theorem dX8_heard_24 : decode cX8_heard 24 = .ok (.ldc_w 260, 3) := D_19 yB_cX8_heard rfl rfl rfl
theorem dX8_heard_27 : decode cX8_heard 27 = .ok (.goto 16, 3) := D_167 yB_cX8_heard rfl rfl (sg_p (m := 32768) (N := 16) rfl rfl rfl)
theorem dX8_heard_30 : decode cX8_heard 30 = .ok (.aload_n 0, 1) := D_42 yB_cX8_heard rfl rfl
theorem dX8_heard_31 : decode cX8_heard 31 = .ok (.iconst 4, 1) := D_7 yB_cX8_heard rfl rfl
theorem dX8_heard_32 : decode cX8_heard 32 = .ok (.iconst 0, 1) := D_3 yB_cX8_heard rfl rfl
theorem dX8_heard_33 : decode cX8_heard 33 = .ok (.invokevirtual 254, 3) := D_182 yB_cX8_heard rfl rfl rfl
theorem dX8_heard_36 : decode cX8_heard 36 = .ok (.aload_n 0, 1) := D_42 yB_cX8_heard rfl rfl
theorem dX8_heard_37 : decode cX8_heard 37 = .ok (.iconst 4, 1) := D_7 yB_cX8_heard rfl rfl
theorem dX8_heard_38 : decode cX8_heard 38 = .ok (.iload_n 1, 1) := D_27 yB_cX8_heard rfl rfl
theorem dX8_heard_39 : decode cX8_heard 39 = .ok (.invokevirtual 254, 3) := D_182 yB_cX8_heard rfl rfl rfl
theorem dX8_heard_42 : decode cX8_heard 42 = .ok (.isub, 1) := D_100 yB_cX8_heard rfl rfl
theorem dX8_heard_43 : decode cX8_heard 43 = .ok (.ireturn, 1) := D_172 yB_cX8_heard rfl rfl
def F_X8_heard (σ : Mem) (x1 : Int32) : Option (Mem × Int32) := if x1 < 0 ∨ 9 < x1 then (some (σ, (-1000000001))) else ((F_X8_isEmpty σ ).bind fun r_3 => if r_3 = 0 then (bd2 (F_X8_costBy σ 4 0) fun σ_5 r_6 => bd2 (F_X8_costBy σ_5 4 x1) fun σ_7 r_8 => some (σ_7, (r_6 - r_8))) else (some (σ, (-1000000003))))
set_option maxHeartbeats 4000000 in
set_option maxRecDepth 100000 in
theorem c_X8_heard (l : Launch) (D : va_G) (cA : Nat → ClassId) (ad : Nat → Nat) (o : Int64) (σ : Mem) (x1 : Int32)  (res : Mem × Int32) (h : F_X8_heard σ x1 = some res) (sz : Nat) : Met l yX8_heard (WY yX8_heard cX8_heard 2 (some .int)) (RM 10) (va_Pc [.ref (ad 91), .int x1] (PW D cA ad o σ sz)) (va_Qi (fun r σ9 => r = res.2 ∧ σ9 = res.1) (QW D cA ad o) (FA ad sz)) 0 0 (FA ad sz) := by
  refine ct_of (own := RX8) (k := 10) (Qf := va_Qi (fun r σ9 => r = res.2 ∧ σ9 = res.1) (QW D cA ad o)) rfl (by decide) (Nat.le_of_ble_eq_true rfl) (fun p e s m below meth c ls C0 X hr hlk hP hl => ?_) sz
  have hS : va_S (FA ad s.heap.size) s.heap s.heap [] := va_S.rf
  have hl : lv_has ls 2 [(0, .ref (ad 91)), (1, .int x1)] := hl
  obtain ⟨hx, hb, hml, hown, hts⟩ := id C0
  unfold F_X8_heard at h
  refine lv_iload_n hx hb dX8_heard_0 rfl (lv_at hl 1 rfl) ?_
  refine lv_i2l (v := (x1.toInt64)) hx hb dX8_heard_1 rfl ?_
  refine lv_lconst (v := ((0 : Int32).toInt64)) hx hb dX8_heard_2 (by decide) ?_
  refine lv_ldc2 (own := RX8) (index := 95) (v := 9) hx hb hown (hts _ (tmc sb5_7 10 rfl (by decide +kernel))) dX8_heard_3 ?_
  refine lv_topEl (y := ((9 : Int32).toInt64)) (by decide) ?_
  refine r_ci X hS (r_runS (As := [.long (x1.toInt64), .long ((0 : Int32).toInt64), .long ((9 : Int32).toInt64)]) (rest := []) C0 X hP L_X8_53 (fun sz => c_X8_isIn l D cA ad o σ x1 0 9 sz) ⟨Nat.le_of_ble_eq_true rfl, Nat.le_of_ble_eq_true rfl⟩ rfl hl.1 rfl (Nat.le_of_ble_eq_true rfl) dX8_heard_6 ⟨Nat.zero_le _, Nat.zero_le _⟩) (fun r9 σ9 H locs hw hP hS => ?_)
  rw [hw.2] at hP
  obtain ⟨⟨b_1, rfl⟩ | ⟨b_1, rfl⟩, -⟩ := hw
  · replace h := it_f h (inn b_1)
    refine lv_if_ne (tgt := 17) hx hb dX8_heard_9 (by decide) (fun _ => ?_) (fun c_2 => absurd c_2 (by decide))
    refine lv_aload_n hx hb dX8_heard_17 rfl (lv_at hl 0 rfl) ?_
    obtain ⟨r_3, er_3, h⟩ := bnd h
    refine r_ci X hS (r_runV (As := []) (rest := []) C0 X hP L_X8_221 (fun sz => c_X8_isEmpty l D cA ad o σ   r_3 er_3 sz) (show 91 < 106 ∧ kd 91 = (8, 24) from ⟨by decide, rfl⟩).1 (show 91 < 106 ∧ kd 91 = (8, 24) from ⟨by decide, rfl⟩).2 (by decide) rfl ⟨Nat.le_of_ble_eq_true rfl, Nat.le_of_ble_eq_true rfl⟩ rfl hl.1 rfl (Nat.le_of_ble_eq_true rfl) dX8_heard_18 ⟨Nat.zero_le _, Nat.zero_le _⟩) (fun r9 σ9 H locs hw hP hS => ?_)
    rw [hw.2] at hP
    rw [hw.1]
    refine lv_if_eq (tgt := 30) hx hb dX8_heard_21 (by decide) (fun c_4 => ?_) (fun c_4 => ?_)
    · replace h := it_t h c_4
      refine lv_aload_n hx hb dX8_heard_30 rfl (lv_at hl 0 rfl) ?_
      refine lv_iconst (v := 4) hx hb dX8_heard_31 (by decide) ?_
      refine lv_iconst (v := 0) hx hb dX8_heard_32 (by decide) ?_
      obtain ⟨σ_5, r_6, eσ_5, h⟩ := bnd2 h
      refine r_ci X hS (r_runV (As := [.int 4, .int 0]) (rest := []) C0 X hP L_X8_254 (fun sz => c_X8_costBy l D cA ad o σ 4 0  (σ_5, r_6) eσ_5 sz) (show 91 < 106 ∧ kd 91 = (8, 24) from ⟨by decide, rfl⟩).1 (show 91 < 106 ∧ kd 91 = (8, 24) from ⟨by decide, rfl⟩).2 (by decide) rfl ⟨Nat.le_of_ble_eq_true rfl, Nat.le_of_ble_eq_true rfl⟩ rfl hl.1 rfl (Nat.le_of_ble_eq_true rfl) dX8_heard_33 ⟨Nat.zero_le _, Nat.zero_le _⟩) (fun r9 σ9 H locs hw hP hS => ?_)
      rw [show σ9 = σ_5 from hw.2] at hP
      rw [show r9 = r_6 from hw.1]
      refine lv_aload_n hx hb dX8_heard_36 rfl (lv_at hl 0 rfl) ?_
      refine lv_iconst (v := 4) hx hb dX8_heard_37 (by decide) ?_
      refine lv_iload_n hx hb dX8_heard_38 rfl (lv_at hl 1 rfl) ?_
      obtain ⟨σ_7, r_8, eσ_7, h⟩ := bnd2 h
      refine r_ci X hS (r_runV (As := [.int 4, .int x1]) (rest := [.int r_6]) C0 X hP L_X8_254 (fun sz => c_X8_costBy l D cA ad o σ_5 4 x1  (σ_7, r_8) eσ_7 sz) (show 91 < 106 ∧ kd 91 = (8, 24) from ⟨by decide, rfl⟩).1 (show 91 < 106 ∧ kd 91 = (8, 24) from ⟨by decide, rfl⟩).2 (by decide) rfl ⟨Nat.le_of_ble_eq_true rfl, Nat.le_of_ble_eq_true rfl⟩ rfl hl.1 rfl (Nat.le_of_ble_eq_true rfl) dX8_heard_39 ⟨Nat.zero_le _, Nat.zero_le _⟩) (fun r9 σ9 H locs hw hP hS => ?_)
      rw [show σ9 = σ_7 from hw.2] at hP
      rw [show r9 = r_8 from hw.1]
      refine lv_isub hx hb dX8_heard_42 ?_
      exact r_iret C0 X hP hS hr hlk dX8_heard_43 (rt2 h)
    · replace h := it_f h c_4
      refine lv_ldcw (own := RX8) (index := 260) (v := (-1000000003)) hx hb hown (hts _ (tmc sb6_6 6 rfl (by decide +kernel))) dX8_heard_24 ?_
      refine lv_goto (tgt := 43) hx hb dX8_heard_27 (by decide) ?_
      exact r_iret C0 X hP hS hr hlk dX8_heard_43 (rt2 h)
  · replace h := it_t h b_1
    refine lv_if_ne (tgt := 17) hx hb dX8_heard_9 (by decide) (fun c_9 => absurd c_9 (by decide)) (fun _ => ?_)
    refine lv_ldc (own := RX8) (index := 234) (v := (-1000000001)) hx hb hown (hts _ (tmc sb6_1 9 rfl (by decide +kernel))) dX8_heard_12 ?_
    refine lv_goto (tgt := 43) hx hb dX8_heard_14 (by decide) ?_
    exact r_iret C0 X hP hS hr hlk dX8_heard_43 (rt2 h)
def bB_cX8_days : Nat := 0xac0415adffa7010584043660f700b62a0415cfffa70107846100b8701c6c0b01137e0a011306150a1007151000b42a0636603930116809011306152c00a22e040900b42a071507360306366005151df400b62a5300a21b0515053603043603acfd10060099dd00b62aac0205009a3500b80701140a851c0f00993500b80501140a851b
theorem yB_cX8_days : BYS cX8_days 131 bB_cX8_days := BYS_of (by decide +kernel)
theorem dX8_days_0 : decode cX8_days 0 = .ok (.iload_n 1, 1) := D_27 yB_cX8_days rfl rfl
theorem dX8_days_1 : decode cX8_days 1 = .ok (.i2l, 1) := D_133 yB_cX8_days rfl rfl
theorem dX8_days_2 : decode cX8_days 2 = .ok (.lconst 1, 1) := D_10 yB_cX8_days rfl rfl
theorem dX8_days_3 : decode cX8_days 3 = .ok (.ldc2_w 261, 3) := D_20 yB_cX8_days rfl rfl rfl
theorem dX8_days_6 : decode cX8_days 6 = .ok (.invokestatic 53, 3) := D_184 yB_cX8_days rfl rfl rfl
theorem dX8_days_9 : decode cX8_days 9 = .ok (.ifCond .eq 15, 3) := D_153 yB_cX8_days rfl rfl (sg_p (m := 32768) (N := 15) rfl rfl rfl)
theorem dX8_days_12 : decode cX8_days 12 = .ok (.iload_n 2, 1) := D_28 yB_cX8_days rfl rfl
theorem dX8_days_13 : decode cX8_days 13 = .ok (.i2l, 1) := D_133 yB_cX8_days rfl rfl
theorem dX8_days_14 : decode cX8_days 14 = .ok (.lconst 1, 1) := D_10 yB_cX8_days rfl rfl
theorem dX8_days_15 : decode cX8_days 15 = .ok (.ldc2_w 263, 3) := D_20 yB_cX8_days rfl rfl rfl
theorem dX8_days_18 : decode cX8_days 18 = .ok (.invokestatic 53, 3) := D_184 yB_cX8_days rfl rfl rfl
theorem dX8_days_21 : decode cX8_days 21 = .ok (.ifCond .ne 5, 3) := D_154 yB_cX8_days rfl rfl (sg_p (m := 32768) (N := 5) rfl rfl rfl)
theorem dX8_days_24 : decode cX8_days 24 = .ok (.iconst (-1), 1) := D_2 yB_cX8_days rfl rfl
theorem dX8_days_25 : decode cX8_days 25 = .ok (.ireturn, 1) := D_172 yB_cX8_days rfl rfl
theorem dX8_days_26 : decode cX8_days 26 = .ok (.aload_n 0, 1) := D_42 yB_cX8_days rfl rfl
theorem dX8_days_27 : decode cX8_days 27 = .ok (.invokevirtual 221, 3) := D_182 yB_cX8_days rfl rfl rfl
theorem dX8_days_30 : decode cX8_days 30 = .ok (.ifCond .eq 6, 3) := D_153 yB_cX8_days rfl rfl (sg_p (m := 32768) (N := 6) rfl rfl rfl)
theorem dX8_days_33 : decode cX8_days 33 = .ok (.bipush (-3), 2) := D_16 yB_cX8_days rfl rfl (sg_n (m := 128) (N := 3) rfl rfl rfl)
theorem dX8_days_35 : decode cX8_days 35 = .ok (.ireturn, 1) := D_172 yB_cX8_days rfl rfl
theorem dX8_days_36 : decode cX8_days 36 = .ok (.iconst 0, 1) := D_3 yB_cX8_days rfl rfl
theorem dX8_days_37 : decode cX8_days 37 = .ok (.istore 4, 2) := D_54 yB_cX8_days rfl rfl rfl
theorem dX8_days_39 : decode cX8_days 39 = .ok (.iconst 0, 1) := D_3 yB_cX8_days rfl rfl
theorem dX8_days_40 : decode cX8_days 40 = .ok (.istore 5, 2) := D_54 yB_cX8_days rfl rfl rfl
theorem dX8_days_42 : decode cX8_days 42 = .ok (.iload 5, 2) := D_21 yB_cX8_days rfl rfl rfl
theorem dX8_days_44 : decode cX8_days 44 = .ok (.iload_n 1, 1) := D_27 yB_cX8_days rfl rfl
theorem dX8_days_45 : decode cX8_days 45 = .ok (.if_icmp .ge 83, 3) := D_162 yB_cX8_days rfl rfl (sg_p (m := 32768) (N := 83) rfl rfl rfl)
theorem dX8_days_48 : decode cX8_days 48 = .ok (.aload_n 0, 1) := D_42 yB_cX8_days rfl rfl
theorem dX8_days_49 : decode cX8_days 49 = .ok (.invokevirtual 244, 3) := D_182 yB_cX8_days rfl rfl rfl
theorem dX8_days_52 : decode cX8_days 52 = .ok (.iload_n 3, 1) := D_29 yB_cX8_days rfl rfl
theorem dX8_days_53 : decode cX8_days 53 = .ok (.iload 5, 2) := D_21 yB_cX8_days rfl rfl rfl
theorem dX8_days_55 : decode cX8_days 55 = .ok (.iadd, 1) := D_96 yB_cX8_days rfl rfl
theorem dX8_days_56 : decode cX8_days 56 = .ok (.istore 6, 2) := D_54 yB_cX8_days rfl rfl rfl
theorem dX8_days_58 : decode cX8_days 58 = .ok (.iconst 0, 1) := D_3 yB_cX8_days rfl rfl
theorem dX8_days_59 : decode cX8_days 59 = .ok (.istore 7, 2) := D_54 yB_cX8_days rfl rfl rfl
theorem dX8_days_61 : decode cX8_days 61 = .ok (.iload 7, 2) := D_21 yB_cX8_days rfl rfl rfl
theorem dX8_days_63 : decode cX8_days 63 = .ok (.aload_n 0, 1) := D_42 yB_cX8_days rfl rfl
theorem dX8_days_64 : decode cX8_days 64 = .ok (.getfield 9, 3) := D_180 yB_cX8_days rfl rfl rfl
theorem dX8_days_67 : decode cX8_days 67 = .ok (.iconst 1, 1) := D_4 yB_cX8_days rfl rfl
theorem dX8_days_68 : decode cX8_days 68 = .ok (.iaload, 1) := D_46 yB_cX8_days rfl rfl
theorem dX8_days_69 : decode cX8_days 69 = .ok (.if_icmp .ge 44, 3) := D_162 yB_cX8_days rfl rfl (sg_p (m := 32768) (N := 44) rfl rfl rfl)
theorem dX8_days_72 : decode cX8_days 72 = .ok (.iload 6, 2) := D_21 yB_cX8_days rfl rfl rfl
theorem dX8_days_74 : decode cX8_days 74 = .ok (.ldc_w 265, 3) := D_19 yB_cX8_days rfl rfl rfl
theorem dX8_days_77 : decode cX8_days 77 = .ok (.imul, 1) := D_104 yB_cX8_days rfl rfl
theorem dX8_days_78 : decode cX8_days 78 = .ok (.sipush 12345, 3) := D_17 yB_cX8_days rfl rfl (sg_p (m := 32768) (N := 12345) rfl rfl rfl)
theorem dX8_days_81 : decode cX8_days 81 = .ok (.iadd, 1) := D_96 yB_cX8_days rfl rfl
theorem dX8_days_82 : decode cX8_days 82 = .ok (.istore 6, 2) := D_54 yB_cX8_days rfl rfl rfl
theorem dX8_days_84 : decode cX8_days 84 = .ok (.aload_n 0, 1) := D_42 yB_cX8_days rfl rfl
theorem dX8_days_85 : decode cX8_days 85 = .ok (.getfield 16, 3) := D_180 yB_cX8_days rfl rfl rfl
theorem dX8_days_88 : decode cX8_days 88 = .ok (.iload 7, 2) := D_21 yB_cX8_days rfl rfl rfl
theorem dX8_days_90 : decode cX8_days 90 = .ok (.bipush 10, 2) := D_16 yB_cX8_days rfl rfl (sg_p (m := 128) (N := 10) rfl rfl rfl)
theorem dX8_days_92 : decode cX8_days 92 = .ok (.iload 6, 2) := D_21 yB_cX8_days rfl rfl rfl
theorem dX8_days_94 : decode cX8_days 94 = .ok (.ldc_w 266, 3) := D_19 yB_cX8_days rfl rfl rfl
theorem dX8_days_97 : decode cX8_days 97 = .ok (.iand, 1) := D_126 yB_cX8_days rfl rfl
theorem dX8_days_98 : decode cX8_days 98 = .ok (.ldc_w 267, 3) := D_19 yB_cX8_days rfl rfl rfl
theorem dX8_days_101 : decode cX8_days 101 = .ok (.idiv, 1) := D_108 yB_cX8_days rfl rfl
theorem dX8_days_102 : decode cX8_days 102 = .ok (.iload_n 2, 1) := D_28 yB_cX8_days rfl rfl
theorem dX8_days_103 : decode cX8_days 103 = .ok (.irem, 1) := D_112 yB_cX8_days rfl rfl
theorem dX8_days_104 : decode cX8_days 104 = .ok (.invokestatic 97, 3) := D_184 yB_cX8_days rfl rfl rfl
theorem dX8_days_107 : decode cX8_days 107 = .ok (.iinc 7 1, 3) := D_132 yB_cX8_days rfl rfl rfl (sg_p (m := 128) (N := 1) rfl rfl rfl)
theorem dX8_days_110 : decode cX8_days 110 = .ok (.goto (-49), 3) := D_167 yB_cX8_days rfl rfl (sg_n (m := 32768) (N := 49) rfl rfl rfl)
theorem dX8_days_113 : decode cX8_days 113 = .ok (.iload 4, 2) := D_21 yB_cX8_days rfl rfl rfl
theorem dX8_days_115 : decode cX8_days 115 = .ok (.aload_n 0, 1) := D_42 yB_cX8_days rfl rfl
theorem dX8_days_116 : decode cX8_days 116 = .ok (.invokevirtual 247, 3) := D_182 yB_cX8_days rfl rfl rfl
theorem dX8_days_119 : decode cX8_days 119 = .ok (.iadd, 1) := D_96 yB_cX8_days rfl rfl
theorem dX8_days_120 : decode cX8_days 120 = .ok (.istore 4, 2) := D_54 yB_cX8_days rfl rfl rfl
theorem dX8_days_122 : decode cX8_days 122 = .ok (.iinc 5 1, 3) := D_132 yB_cX8_days rfl rfl rfl (sg_p (m := 128) (N := 1) rfl rfl rfl)
theorem dX8_days_125 : decode cX8_days 125 = .ok (.goto (-83), 3) := D_167 yB_cX8_days rfl rfl (sg_n (m := 32768) (N := 83) rfl rfl rfl)
theorem dX8_days_128 : decode cX8_days 128 = .ok (.iload 4, 2) := D_21 yB_cX8_days rfl rfl rfl
theorem dX8_days_130 : decode cX8_days 130 = .ok (.ireturn, 1) := D_172 yB_cX8_days rfl rfl
def F_X8_days_61 (x1 : Int32) (x2 : Int32) (x3 : Int32) (k42 : Mem → Int32 → Int32 → Option (Mem × Int32)) : Nat → Mem → Int32 → Int32 → Int32 → Int32 → Option (Mem × Int32)
  | 0, _, _, _, _, _ => none
  | nn + 1, σ, v7, v6, v5, v4 => if (σ 92 1) ≤ v7 then (bd2 (F_X8_costs σ ) fun σ_12 r_13 => k42 σ_12 (v5 + 1) (v4 + r_13)) else (ck (¬ x2 = 0) <| (F_X8_puts σ 94 v7 10 (((((v6 * 1103515245) + 12345) &&& 2147483647) / 65536) - ((((v6 * 1103515245) + 12345) &&& 2147483647) / 65536) / x2 * x2)).bind fun σ_15 => F_X8_days_61 x1 x2 x3 k42 nn σ_15 (v7 + 1) ((v6 * 1103515245) + 12345) v5 v4)
def F_X8_days_42 (x1 : Int32) (x2 : Int32) (x3 : Int32)  : Nat → Mem → Int32 → Int32 → Option (Mem × Int32)
  | 0, _, _, _ => none
  | nn + 1, σ, v5, v4 => if x1 ≤ v5 then (some (σ, v4)) else ((F_X8_opens σ ).bind fun σ_9 => F_X8_days_61 x1 x2 x3 (fun σ v5 v4 => F_X8_days_42 x1 x2 x3 nn σ v5 v4) FU σ_9 0 (x3 + v5) v5 v4)
def F_X8_days (σ : Mem) (x1 : Int32) (x2 : Int32) (x3 : Int32) : Option (Mem × Int32) := if x1 < 1 ∨ 5 < x1 then (some (σ, (-1))) else (if x2 < 1 ∨ 60 < x2 then (some (σ, (-1))) else ((F_X8_isEmpty σ ).bind fun r_5 => if r_5 = 0 then (F_X8_days_42 x1 x2 x3 FU σ 0 0) else (some (σ, (-3)))))
set_option maxHeartbeats 4000000 in
set_option maxRecDepth 100000 in
theorem c_X8_days (l : Launch) (D : va_G) (cA : Nat → ClassId) (ad : Nat → Nat) (o : Int64) (σ : Mem) (x1 : Int32) (x2 : Int32) (x3 : Int32)  (res : Mem × Int32) (h : F_X8_days σ x1 x2 x3 = some res) (sz : Nat) : Met l yX8_days (WY yX8_days cX8_days 8 (some .int)) (RM 9) (va_Pc [.ref (ad 91), .int x1, .int x2, .int x3] (PW D cA ad o σ sz)) (va_Qi (fun r σ9 => r = res.2 ∧ σ9 = res.1) (QW D cA ad o) (FA ad sz)) 0 0 (FA ad sz) := by
  refine ct_of (own := RX8) (k := 9) (Qf := va_Qi (fun r σ9 => r = res.2 ∧ σ9 = res.1) (QW D cA ad o)) rfl (by decide) (Nat.le_of_ble_eq_true rfl) (fun p e s m below meth c ls C0 X hr hlk hP hl => ?_) sz
  have hS : va_S (FA ad s.heap.size) s.heap s.heap [] := va_S.rf
  have hl : lv_has ls 8 [(0, .ref (ad 91)), (1, .int x1), (2, .int x2), (3, .int x3)] := hl
  obtain ⟨hx, hb, hml, hown, hts⟩ := id C0
  unfold F_X8_days at h
  refine lv_iload_n hx hb dX8_days_0 rfl (lv_at hl 1 rfl) ?_
  refine lv_i2l (v := (x1.toInt64)) hx hb dX8_days_1 rfl ?_
  refine lv_lconst (v := ((1 : Int32).toInt64)) hx hb dX8_days_2 (by decide) ?_
  refine lv_ldc2 (own := RX8) (index := 261) (v := 5) hx hb hown (hts _ (tmc sb6_6 15 rfl (by decide +kernel))) dX8_days_3 ?_
  refine lv_topEl (y := ((5 : Int32).toInt64)) (by decide) ?_
  refine r_ci X hS (r_runS (As := [.long (x1.toInt64), .long ((1 : Int32).toInt64), .long ((5 : Int32).toInt64)]) (rest := []) C0 X hP L_X8_53 (fun sz => c_X8_isIn l D cA ad o σ x1 1 5 sz) ⟨Nat.le_of_ble_eq_true rfl, Nat.le_of_ble_eq_true rfl⟩ rfl hl.1 rfl (Nat.le_of_ble_eq_true rfl) dX8_days_6 ⟨Nat.zero_le _, Nat.zero_le _⟩) (fun r9 σ9 H locs hw hP hS => ?_)
  rw [hw.2] at hP
  obtain ⟨⟨b_1, rfl⟩ | ⟨b_1, rfl⟩, -⟩ := hw
  · replace h := it_f h (inn b_1)
    refine lv_if_eq (tgt := 24) hx hb dX8_days_9 (by decide) (fun c_2 => absurd c_2 (by decide)) (fun _ => ?_)
    refine lv_iload_n hx hb dX8_days_12 rfl (lv_at hl 2 rfl) ?_
    refine lv_i2l (v := (x2.toInt64)) hx hb dX8_days_13 rfl ?_
    refine lv_lconst (v := ((1 : Int32).toInt64)) hx hb dX8_days_14 (by decide) ?_
    refine lv_ldc2 (own := RX8) (index := 263) (v := 60) hx hb hown (hts _ (tmc sb6_7 0 rfl (by decide +kernel))) dX8_days_15 ?_
    refine lv_topEl (y := ((60 : Int32).toInt64)) (by decide) ?_
    refine r_ci X hS (r_runS (As := [.long (x2.toInt64), .long ((1 : Int32).toInt64), .long ((60 : Int32).toInt64)]) (rest := []) C0 X hP L_X8_53 (fun sz => c_X8_isIn l D cA ad o σ x2 1 60 sz) ⟨Nat.le_of_ble_eq_true rfl, Nat.le_of_ble_eq_true rfl⟩ rfl hl.1 rfl (Nat.le_of_ble_eq_true rfl) dX8_days_18 ⟨Nat.zero_le _, Nat.zero_le _⟩) (fun r9 σ9 H locs hw hP hS => ?_)
    rw [hw.2] at hP
    obtain ⟨⟨b_3, rfl⟩ | ⟨b_3, rfl⟩, -⟩ := hw
    · replace h := it_f h (inn b_3)
      refine lv_if_ne (tgt := 26) hx hb dX8_days_21 (by decide) (fun _ => ?_) (fun c_4 => absurd c_4 (by decide))
      refine lv_aload_n hx hb dX8_days_26 rfl (lv_at hl 0 rfl) ?_
      obtain ⟨r_5, er_5, h⟩ := bnd h
      refine r_ci X hS (r_runV (As := []) (rest := []) C0 X hP L_X8_221 (fun sz => c_X8_isEmpty l D cA ad o σ   r_5 er_5 sz) (show 91 < 106 ∧ kd 91 = (8, 24) from ⟨by decide, rfl⟩).1 (show 91 < 106 ∧ kd 91 = (8, 24) from ⟨by decide, rfl⟩).2 (by decide) rfl ⟨Nat.le_of_ble_eq_true rfl, Nat.le_of_ble_eq_true rfl⟩ rfl hl.1 rfl (Nat.le_of_ble_eq_true rfl) dX8_days_27 ⟨Nat.zero_le _, Nat.zero_le _⟩) (fun r9 σ9 H locs hw hP hS => ?_)
      rw [hw.2] at hP
      rw [hw.1]
      refine lv_if_eq (tgt := 36) hx hb dX8_days_30 (by decide) (fun c_6 => ?_) (fun c_6 => ?_)
      · replace h := it_t h c_6
        refine lv_iconst (v := 0) hx hb dX8_days_36 (by decide) ?_
        refine lv_istore (lv' := [(4, .int 0), (0, .ref (ad 91)), (1, .int x1), (2, .int x2), (3, .int x3)]) hx hb dX8_days_37 hl (by decide) rfl (fun ls hl => ?_)
        refine lv_iconst (v := 0) hx hb dX8_days_39 (by decide) ?_
        refine lv_istore (lv' := [(5, .int 0), (4, .int 0), (0, .ref (ad 91)), (1, .int x1), (2, .int x2), (3, .int x3)]) hx hb dX8_days_40 hl (by decide) rfl (fun ls hl => ?_)
        have lp_7 : ∀ (nn42 : Nat) (σ : Mem) (v5 : Int32) (v4 : Int32) (H : Heap) (locs : List Loc) (ls : Array Slot), F_X8_days_42 x1 x2 x3 nn42 σ v5 v4 = some res → WP D cA ad o σ H → va_S (FA ad s.heap.size) s.heap H locs → lv_has ls 8 [(5, .int v5), (4, .int v4), (0, .ref (ad 91)), (1, .int x1), (2, .int x2), (3, .int x3)] → W p l e (RM 9) s m ([.ref (ad 91), .int x1, .int x2, .int x3] : List Value).toArray below meth c H locs 0 0 (MQ below (va_Qi (fun r σ9 => r = res.2 ∧ σ9 = res.1) (QW D cA ad o) (FA ad s.heap.size)) ([.ref (ad 91), .int x1, .int x2, .int x3] : List Value).toArray s 0 0 (FA ad s.heap.size)) (F0 m 42 ls []) := by
          intro nn42
          induction nn42 with
          | zero => intro σ v5 v4 H locs ls h hP hS hl; exact absurd (show none = some res from h) nofun
          | succ nn42 ih42 =>
            intro σ v5 v4 H locs ls h hP hS hl
            replace h := (F_X8_days_42.eq_2 _ _ _ _ _ _ _).symm.trans h
            refine lv_iload hx hb dX8_days_42 (lv_at hl 0 rfl) ?_
            refine lv_iload_n hx hb dX8_days_44 rfl (lv_at hl 3 rfl) ?_
            refine lv_icmp_ge (tgt := 128) hx hb dX8_days_45 (by decide) (fun c_8 => ?_) (fun c_8 => ?_)
            · replace h := it_t h c_8
              refine lv_iload hx hb dX8_days_128 (lv_at hl 1 rfl) ?_
              exact r_iret C0 X hP hS hr hlk dX8_days_130 (rt2 h)
            · replace h := it_f h c_8
              refine lv_aload_n hx hb dX8_days_48 rfl (lv_at hl 2 rfl) ?_
              obtain ⟨σ_9, eσ_9, h⟩ := bnd h
              refine r_cv X hS (r_runV (As := []) (rest := []) C0 X hP L_X8_244 (fun sz => c_X8_opens l D cA ad o σ   σ_9 eσ_9 sz) (show 91 < 106 ∧ kd 91 = (8, 24) from ⟨by decide, rfl⟩).1 (show 91 < 106 ∧ kd 91 = (8, 24) from ⟨by decide, rfl⟩).2 (by decide) rfl ⟨Nat.le_of_ble_eq_true rfl, Nat.le_of_ble_eq_true rfl⟩ rfl hl.1 rfl (Nat.le_of_ble_eq_true rfl) dX8_days_49 ⟨Nat.zero_le _, Nat.zero_le _⟩) (fun σ9 H locs hw hP hS => ?_)
              rw [show σ9 = σ_9 from hw] at hP
              refine lv_iload_n hx hb dX8_days_52 rfl (lv_at hl 5 rfl) ?_
              refine lv_iload hx hb dX8_days_53 (lv_at hl 0 rfl) ?_
              refine lv_iadd hx hb dX8_days_55 ?_
              refine lv_istore (lv' := [(6, .int (x3 + v5)), (5, .int v5), (4, .int v4), (0, .ref (ad 91)), (1, .int x1), (2, .int x2), (3, .int x3)]) hx hb dX8_days_56 hl (by decide) rfl (fun ls hl => ?_)
              refine lv_iconst (v := 0) hx hb dX8_days_58 (by decide) ?_
              refine lv_istore (lv' := [(7, .int 0), (6, .int (x3 + v5)), (5, .int v5), (4, .int v4), (0, .ref (ad 91)), (1, .int x1), (2, .int x2), (3, .int x3)]) hx hb dX8_days_59 hl (by decide) rfl (fun ls hl => ?_)
              have lp_10 : ∀ (nn61 : Nat) (σ : Mem) (v7 : Int32) (v6 : Int32) (v5 : Int32) (v4 : Int32) (H : Heap) (locs : List Loc) (ls : Array Slot), F_X8_days_61 x1 x2 x3 (fun σ v5 v4 => F_X8_days_42 x1 x2 x3 nn42 σ v5 v4) nn61 σ v7 v6 v5 v4 = some res → WP D cA ad o σ H → va_S (FA ad s.heap.size) s.heap H locs → lv_has ls 8 [(7, .int v7), (6, .int v6), (5, .int v5), (4, .int v4), (0, .ref (ad 91)), (1, .int x1), (2, .int x2), (3, .int x3)] → W p l e (RM 9) s m ([.ref (ad 91), .int x1, .int x2, .int x3] : List Value).toArray below meth c H locs 0 0 (MQ below (va_Qi (fun r σ9 => r = res.2 ∧ σ9 = res.1) (QW D cA ad o) (FA ad s.heap.size)) ([.ref (ad 91), .int x1, .int x2, .int x3] : List Value).toArray s 0 0 (FA ad s.heap.size)) (F0 m 61 ls []) := by
                intro nn61
                induction nn61 with
                | zero => intro σ v7 v6 v5 v4 H locs ls h hP hS hl; exact absurd (show none = some res from h) nofun
                | succ nn61 ih61 =>
                  intro σ v7 v6 v5 v4 H locs ls h hP hS hl
                  replace h := (F_X8_days_61.eq_2 _ _ _ _ _ _ _ _ _ _).symm.trans h
                  refine lv_iload hx hb dX8_days_61 (lv_at hl 0 rfl) ?_
                  refine lv_aload_n hx hb dX8_days_63 rfl (lv_at hl 4 rfl) ?_
                  refine gf_X8_9 C0 X hP 91 (q := 92) ⟨by decide, rfl⟩ (by omega) rfl dX8_days_64 ?_
                  refine lv_iconst (v := 1) hx hb dX8_days_67 (by decide) ?_
                  refine r_ialdN C0 X hP 92 (k := 1) ⟨by decide, rfl⟩ rfl (by decide) dX8_days_68 ?_
                  refine lv_icmp_ge (tgt := 113) hx hb dX8_days_69 (by decide) (fun c_11 => ?_) (fun c_11 => ?_)
                  · replace h := it_t h c_11
                    refine lv_iload hx hb dX8_days_113 (lv_at hl 3 rfl) ?_
                    refine lv_aload_n hx hb dX8_days_115 rfl (lv_at hl 4 rfl) ?_
                    obtain ⟨σ_12, r_13, eσ_12, h⟩ := bnd2 h
                    refine r_ci X hS (r_runV (As := []) (rest := [.int v4]) C0 X hP L_X8_247 (fun sz => c_X8_costs l D cA ad o σ   (σ_12, r_13) eσ_12 sz) (show 91 < 106 ∧ kd 91 = (8, 24) from ⟨by decide, rfl⟩).1 (show 91 < 106 ∧ kd 91 = (8, 24) from ⟨by decide, rfl⟩).2 (by decide) rfl ⟨Nat.le_of_ble_eq_true rfl, Nat.le_of_ble_eq_true rfl⟩ rfl hl.1 rfl (Nat.le_of_ble_eq_true rfl) dX8_days_116 ⟨Nat.zero_le _, Nat.zero_le _⟩) (fun r9 σ9 H locs hw hP hS => ?_)
                    rw [show σ9 = σ_12 from hw.2] at hP
                    rw [show r9 = r_13 from hw.1]
                    refine lv_iadd hx hb dX8_days_119 ?_
                    refine lv_istore (lv' := [(4, .int (v4 + r_13)), (7, .int v7), (6, .int v6), (5, .int v5), (0, .ref (ad 91)), (1, .int x1), (2, .int x2), (3, .int x3)]) hx hb dX8_days_120 hl (by decide) rfl (fun ls hl => ?_)
                    refine lv_iinc (v := (v5 + 1)) (lv' := [(5, .int (v5 + 1)), (4, .int (v4 + r_13)), (7, .int v7), (6, .int v6), (0, .ref (ad 91)), (1, .int x1), (2, .int x2), (3, .int x3)]) hx hb dX8_days_122 hl (k := 3) rfl rfl (by decide) rfl (fun ls hl => ?_)
                    refine lv_goto (tgt := 42) hx hb dX8_days_125 (by decide) ?_
                    exact ih42 σ_12 (v5 + 1) (v4 + r_13) _ _ ls  h hP hS (lv_sub hl [0, 1, 4, 5, 6, 7] rfl)
                  · replace h := it_f h c_11
                    refine lv_iload hx hb dX8_days_72 (lv_at hl 1 rfl) ?_
                    refine lv_ldcw (own := RX8) (index := 265) (v := 1103515245) hx hb hown (hts _ (tmc sb6_7 1 rfl (by decide +kernel))) dX8_days_74 ?_
                    refine lv_imul hx hb dX8_days_77 ?_
                    refine lv_sipush (v := 12345) hx hb dX8_days_78 (by decide) ?_
                    refine lv_iadd hx hb dX8_days_81 ?_
                    refine lv_istore (lv' := [(6, .int ((v6 * 1103515245) + 12345)), (7, .int v7), (5, .int v5), (4, .int v4), (0, .ref (ad 91)), (1, .int x1), (2, .int x2), (3, .int x3)]) hx hb dX8_days_82 hl (by decide) rfl (fun ls hl => ?_)
                    refine lv_aload_n hx hb dX8_days_84 rfl (lv_at hl 4 rfl) ?_
                    refine gf_X8_16 C0 X hP 91 (q := 94) ⟨by decide, rfl⟩ (by omega) rfl dX8_days_85 ?_
                    refine lv_iload hx hb dX8_days_88 (lv_at hl 1 rfl) ?_
                    refine lv_bipush (v := 10) hx hb dX8_days_90 (by decide) ?_
                    refine lv_iload hx hb dX8_days_92 (lv_at hl 0 rfl) ?_
                    refine lv_ldcw (own := RX8) (index := 266) (v := 2147483647) hx hb hown (hts _ (tmc sb6_7 2 rfl (by decide +kernel))) dX8_days_94 ?_
                    refine lv_iand hx hb dX8_days_97 ?_
                    refine lv_ldcw (own := RX8) (index := 267) (v := 65536) hx hb hown (hts _ (tmc sb6_7 3 rfl (by decide +kernel))) dX8_days_98 ?_
                    refine lv_idiv hx hb dX8_days_101 (by decide) ?_
                    refine lv_iload_n hx hb dX8_days_102 rfl (lv_at hl 6 rfl) ?_
                    obtain ⟨q_14, h⟩ := ckp h
                    refine lv_irem hx hb dX8_days_103 q_14 ?_
                    obtain ⟨σ_15, eσ_15, h⟩ := bnd h
                    refine r_cv X hS (r_runS (As := [.ref (ad 94), .int v7, .int 10, .int (((((v6 * 1103515245) + 12345) &&& 2147483647) / 65536) - ((((v6 * 1103515245) + 12345) &&& 2147483647) / 65536) / x2 * x2)]) (rest := []) C0 X hP L_X8_97 (fun sz => c_X8_puts l D cA ad o σ 94 v7 10 (((((v6 * 1103515245) + 12345) &&& 2147483647) / 65536) - ((((v6 * 1103515245) + 12345) &&& 2147483647) / 65536) / x2 * x2) ⟨by decide, rfl⟩ σ_15 eσ_15 sz) ⟨Nat.le_of_ble_eq_true rfl, Nat.le_of_ble_eq_true rfl⟩ rfl hl.1 rfl (Nat.le_of_ble_eq_true rfl) dX8_days_104 ⟨Nat.zero_le _, Nat.zero_le _⟩) (fun σ9 H locs hw hP hS => ?_)
                    rw [show σ9 = σ_15 from hw] at hP
                    refine lv_iinc (v := (v7 + 1)) (lv' := [(7, .int (v7 + 1)), (6, .int ((v6 * 1103515245) + 12345)), (5, .int v5), (4, .int v4), (0, .ref (ad 91)), (1, .int x1), (2, .int x2), (3, .int x3)]) hx hb dX8_days_107 hl (k := 1) rfl rfl (by decide) rfl (fun ls hl => ?_)
                    refine lv_goto (tgt := 61) hx hb dX8_days_110 (by decide) ?_
                    exact ih61 σ_15 (v7 + 1) ((v6 * 1103515245) + 12345) v5 v4 _ _ ls  h hP hS (lv_sub hl [0, 1, 2, 3, 4, 5, 6, 7] rfl)
              exact lp_10 FU σ_9 0 (x3 + v5) v5 v4 _ _ ls  h hP hS (lv_sub hl [0, 1, 2, 3, 4, 5, 6, 7] rfl)
        exact lp_7 FU σ 0 0 _ _ ls  h hP hS (lv_sub hl [0, 1, 2, 3, 4, 5] rfl)
      · replace h := it_f h c_6
        refine lv_bipush (v := (-3)) hx hb dX8_days_33 (by decide) ?_
        exact r_iret C0 X hP hS hr hlk dX8_days_35 (rt2 h)
    · replace h := it_t h b_3
      refine lv_if_ne (tgt := 26) hx hb dX8_days_21 (by decide) (fun c_16 => absurd c_16 (by decide)) (fun _ => ?_)
      refine lv_iconst (v := (-1)) hx hb dX8_days_24 (by decide) ?_
      exact r_iret C0 X hP hS hr hlk dX8_days_25 (rt2 h)
  · replace h := it_t h b_1
    refine lv_if_eq (tgt := 24) hx hb dX8_days_9 (by decide) (fun _ => ?_) (fun c_17 => absurd c_17 (by decide))
    refine lv_iconst (v := (-1)) hx hb dX8_days_24 (by decide) ?_
    exact r_iret C0 X hP hS hr hlk dX8_days_25 (rt2 h)
def bB_cX8_met : Nat := 0xacbf00b42a3ef700b62ac500b51c2ac200b51b2af400b62aacfd1006009a2e030900b42aac020500a01c1b0800997f00b61c2a1000997f00b61b2a
theorem yB_cX8_met : BYS cX8_met 59 bB_cX8_met := BYS_of (by decide +kernel)
theorem dX8_met_0 : decode cX8_met 0 = .ok (.aload_n 0, 1) := D_42 yB_cX8_met rfl rfl
theorem dX8_met_1 : decode cX8_met 1 = .ok (.iload_n 1, 1) := D_27 yB_cX8_met rfl rfl
theorem dX8_met_2 : decode cX8_met 2 = .ok (.invokevirtual 127, 3) := D_182 yB_cX8_met rfl rfl rfl
theorem dX8_met_5 : decode cX8_met 5 = .ok (.ifCond .eq 16, 3) := D_153 yB_cX8_met rfl rfl (sg_p (m := 32768) (N := 16) rfl rfl rfl)
theorem dX8_met_8 : decode cX8_met 8 = .ok (.aload_n 0, 1) := D_42 yB_cX8_met rfl rfl
theorem dX8_met_9 : decode cX8_met 9 = .ok (.iload_n 2, 1) := D_28 yB_cX8_met rfl rfl
theorem dX8_met_10 : decode cX8_met 10 = .ok (.invokevirtual 127, 3) := D_182 yB_cX8_met rfl rfl rfl
theorem dX8_met_13 : decode cX8_met 13 = .ok (.ifCond .eq 8, 3) := D_153 yB_cX8_met rfl rfl (sg_p (m := 32768) (N := 8) rfl rfl rfl)
theorem dX8_met_16 : decode cX8_met 16 = .ok (.iload_n 1, 1) := D_27 yB_cX8_met rfl rfl
theorem dX8_met_17 : decode cX8_met 17 = .ok (.iload_n 2, 1) := D_28 yB_cX8_met rfl rfl
theorem dX8_met_18 : decode cX8_met 18 = .ok (.if_icmp .ne 5, 3) := D_160 yB_cX8_met rfl rfl (sg_p (m := 32768) (N := 5) rfl rfl rfl)
theorem dX8_met_21 : decode cX8_met 21 = .ok (.iconst (-1), 1) := D_2 yB_cX8_met rfl rfl
theorem dX8_met_22 : decode cX8_met 22 = .ok (.ireturn, 1) := D_172 yB_cX8_met rfl rfl
theorem dX8_met_23 : decode cX8_met 23 = .ok (.aload_n 0, 1) := D_42 yB_cX8_met rfl rfl
theorem dX8_met_24 : decode cX8_met 24 = .ok (.getfield 9, 3) := D_180 yB_cX8_met rfl rfl rfl
theorem dX8_met_27 : decode cX8_met 27 = .ok (.iconst 0, 1) := D_3 yB_cX8_met rfl rfl
theorem dX8_met_28 : decode cX8_met 28 = .ok (.iaload, 1) := D_46 yB_cX8_met rfl rfl
theorem dX8_met_29 : decode cX8_met 29 = .ok (.ifCond .ne 6, 3) := D_154 yB_cX8_met rfl rfl (sg_p (m := 32768) (N := 6) rfl rfl rfl)
theorem dX8_met_32 : decode cX8_met 32 = .ok (.bipush (-3), 2) := D_16 yB_cX8_met rfl rfl (sg_n (m := 128) (N := 3) rfl rfl rfl)
theorem dX8_met_34 : decode cX8_met 34 = .ok (.ireturn, 1) := D_172 yB_cX8_met rfl rfl
theorem dX8_met_35 : decode cX8_met 35 = .ok (.aload_n 0, 1) := D_42 yB_cX8_met rfl rfl
theorem dX8_met_36 : decode cX8_met 36 = .ok (.invokevirtual 244, 3) := D_182 yB_cX8_met rfl rfl rfl
theorem dX8_met_39 : decode cX8_met 39 = .ok (.aload_n 0, 1) := D_42 yB_cX8_met rfl rfl
theorem dX8_met_40 : decode cX8_met 40 = .ok (.iload_n 1, 1) := D_27 yB_cX8_met rfl rfl
theorem dX8_met_41 : decode cX8_met 41 = .ok (.putfield 194, 3) := D_181 yB_cX8_met rfl rfl rfl
theorem dX8_met_44 : decode cX8_met 44 = .ok (.aload_n 0, 1) := D_42 yB_cX8_met rfl rfl
theorem dX8_met_45 : decode cX8_met 45 = .ok (.iload_n 2, 1) := D_28 yB_cX8_met rfl rfl
theorem dX8_met_46 : decode cX8_met 46 = .ok (.putfield 197, 3) := D_181 yB_cX8_met rfl rfl rfl
theorem dX8_met_49 : decode cX8_met 49 = .ok (.aload_n 0, 1) := D_42 yB_cX8_met rfl rfl
theorem dX8_met_50 : decode cX8_met 50 = .ok (.invokevirtual 247, 3) := D_182 yB_cX8_met rfl rfl rfl
theorem dX8_met_53 : decode cX8_met 53 = .ok (.istore_n 3, 1) := D_62 yB_cX8_met rfl rfl
theorem dX8_met_54 : decode cX8_met 54 = .ok (.aload_n 0, 1) := D_42 yB_cX8_met rfl rfl
theorem dX8_met_55 : decode cX8_met 55 = .ok (.getfield 191, 3) := D_180 yB_cX8_met rfl rfl rfl
theorem dX8_met_58 : decode cX8_met 58 = .ok (.ireturn, 1) := D_172 yB_cX8_met rfl rfl
def F_X8_met (σ : Mem) (x1 : Int32) (x2 : Int32) : Option (Mem × Int32) := (F_X8_isCart σ x1).bind fun r_1 => if r_1 = 0 then (some (σ, (-1))) else ((F_X8_isCart σ x2).bind fun r_3 => if r_3 = 0 then (some (σ, (-1))) else (if x1 = x2 then (some (σ, (-1))) else (if (σ 92 0) = 0 then (some (σ, (-3))) else ((F_X8_opens σ ).bind fun σ_7 => bd2 (F_X8_costs (stm (stm σ_7 91 17 x1) 91 18 x2) ) fun σ_8 r_9 => some (σ_8, (σ_8 91 19))))))
set_option maxHeartbeats 4000000 in
set_option maxRecDepth 100000 in
theorem c_X8_met (l : Launch) (D : va_G) (cA : Nat → ClassId) (ad : Nat → Nat) (o : Int64) (σ : Mem) (x1 : Int32) (x2 : Int32)  (res : Mem × Int32) (h : F_X8_met σ x1 x2 = some res) (sz : Nat) : Met l yX8_met (WY yX8_met cX8_met 4 (some .int)) (RM 9) (va_Pc [.ref (ad 91), .int x1, .int x2] (PW D cA ad o σ sz)) (va_Qi (fun r σ9 => r = res.2 ∧ σ9 = res.1) (QW D cA ad o) (FA ad sz)) 0 0 (FA ad sz) := by
  refine ct_of (own := RX8) (k := 9) (Qf := va_Qi (fun r σ9 => r = res.2 ∧ σ9 = res.1) (QW D cA ad o)) rfl (by decide) (Nat.le_of_ble_eq_true rfl) (fun p e s m below meth c ls C0 X hr hlk hP hl => ?_) sz
  have hS : va_S (FA ad s.heap.size) s.heap s.heap [] := va_S.rf
  have hl : lv_has ls 4 [(0, .ref (ad 91)), (1, .int x1), (2, .int x2)] := hl
  obtain ⟨hx, hb, hml, hown, hts⟩ := id C0
  unfold F_X8_met at h
  refine lv_aload_n hx hb dX8_met_0 rfl (lv_at hl 0 rfl) ?_
  refine lv_iload_n hx hb dX8_met_1 rfl (lv_at hl 1 rfl) ?_
  obtain ⟨r_1, er_1, h⟩ := bnd h
  refine r_ci X hS (r_runV (As := [.int x1]) (rest := []) C0 X hP L_X8_127 (fun sz => c_X8_isCart l D cA ad o σ x1  r_1 er_1 sz) (show 91 < 106 ∧ kd 91 = (8, 24) from ⟨by decide, rfl⟩).1 (show 91 < 106 ∧ kd 91 = (8, 24) from ⟨by decide, rfl⟩).2 (by decide) rfl ⟨Nat.le_of_ble_eq_true rfl, Nat.le_of_ble_eq_true rfl⟩ rfl hl.1 rfl (Nat.le_of_ble_eq_true rfl) dX8_met_2 ⟨Nat.zero_le _, Nat.zero_le _⟩) (fun r9 σ9 H locs hw hP hS => ?_)
  rw [hw.2] at hP
  rw [hw.1]
  refine lv_if_eq (tgt := 21) hx hb dX8_met_5 (by decide) (fun c_2 => ?_) (fun c_2 => ?_)
  · replace h := it_t h c_2
    refine lv_iconst (v := (-1)) hx hb dX8_met_21 (by decide) ?_
    exact r_iret C0 X hP hS hr hlk dX8_met_22 (rt2 h)
  · replace h := it_f h c_2
    refine lv_aload_n hx hb dX8_met_8 rfl (lv_at hl 0 rfl) ?_
    refine lv_iload_n hx hb dX8_met_9 rfl (lv_at hl 2 rfl) ?_
    obtain ⟨r_3, er_3, h⟩ := bnd h
    refine r_ci X hS (r_runV (As := [.int x2]) (rest := []) C0 X hP L_X8_127 (fun sz => c_X8_isCart l D cA ad o σ x2  r_3 er_3 sz) (show 91 < 106 ∧ kd 91 = (8, 24) from ⟨by decide, rfl⟩).1 (show 91 < 106 ∧ kd 91 = (8, 24) from ⟨by decide, rfl⟩).2 (by decide) rfl ⟨Nat.le_of_ble_eq_true rfl, Nat.le_of_ble_eq_true rfl⟩ rfl hl.1 rfl (Nat.le_of_ble_eq_true rfl) dX8_met_10 ⟨Nat.zero_le _, Nat.zero_le _⟩) (fun r9 σ9 H locs hw hP hS => ?_)
    rw [hw.2] at hP
    rw [hw.1]
    refine lv_if_eq (tgt := 21) hx hb dX8_met_13 (by decide) (fun c_4 => ?_) (fun c_4 => ?_)
    · replace h := it_t h c_4
      refine lv_iconst (v := (-1)) hx hb dX8_met_21 (by decide) ?_
      exact r_iret C0 X hP hS hr hlk dX8_met_22 (rt2 h)
    · replace h := it_f h c_4
      refine lv_iload_n hx hb dX8_met_16 rfl (lv_at hl 1 rfl) ?_
      refine lv_iload_n hx hb dX8_met_17 rfl (lv_at hl 2 rfl) ?_
      refine lv_icmp_ne (tgt := 23) hx hb dX8_met_18 (by decide) (fun c_5 => ?_) (fun c_5 => ?_)
      · replace h := it_f h c_5
        refine lv_aload_n hx hb dX8_met_23 rfl (lv_at hl 0 rfl) ?_
        refine gf_X8_9 C0 X hP 91 (q := 92) ⟨by decide, rfl⟩ (by omega) rfl dX8_met_24 ?_
        refine lv_iconst (v := 0) hx hb dX8_met_27 (by decide) ?_
        refine r_ialdN C0 X hP 92 (k := 0) ⟨by decide, rfl⟩ rfl (by decide) dX8_met_28 ?_
        refine lv_if_ne (tgt := 35) hx hb dX8_met_29 (by decide) (fun c_6 => ?_) (fun c_6 => ?_)
        · replace h := it_f h c_6
          refine lv_aload_n hx hb dX8_met_35 rfl (lv_at hl 0 rfl) ?_
          obtain ⟨σ_7, eσ_7, h⟩ := bnd h
          refine r_cv X hS (r_runV (As := []) (rest := []) C0 X hP L_X8_244 (fun sz => c_X8_opens l D cA ad o σ   σ_7 eσ_7 sz) (show 91 < 106 ∧ kd 91 = (8, 24) from ⟨by decide, rfl⟩).1 (show 91 < 106 ∧ kd 91 = (8, 24) from ⟨by decide, rfl⟩).2 (by decide) rfl ⟨Nat.le_of_ble_eq_true rfl, Nat.le_of_ble_eq_true rfl⟩ rfl hl.1 rfl (Nat.le_of_ble_eq_true rfl) dX8_met_36 ⟨Nat.zero_le _, Nat.zero_le _⟩) (fun σ9 H locs hw hP hS => ?_)
          rw [show σ9 = σ_7 from hw] at hP
          refine lv_aload_n hx hb dX8_met_39 rfl (lv_at hl 0 rfl) ?_
          refine lv_iload_n hx hb dX8_met_40 rfl (lv_at hl 1 rfl) ?_
          refine pf_X8_194 C0 X hP hS 91 ⟨by decide, rfl⟩ dX8_met_41 (fun H locs hP hS => ?_)
          refine lv_aload_n hx hb dX8_met_44 rfl (lv_at hl 0 rfl) ?_
          refine lv_iload_n hx hb dX8_met_45 rfl (lv_at hl 2 rfl) ?_
          refine pf_X8_197 C0 X hP hS 91 ⟨by decide, rfl⟩ dX8_met_46 (fun H locs hP hS => ?_)
          refine lv_aload_n hx hb dX8_met_49 rfl (lv_at hl 0 rfl) ?_
          obtain ⟨σ_8, r_9, eσ_8, h⟩ := bnd2 h
          refine r_ci X hS (r_runV (As := []) (rest := []) C0 X hP L_X8_247 (fun sz => c_X8_costs l D cA ad o (stm (stm σ_7 91 17 x1) 91 18 x2)   (σ_8, r_9) eσ_8 sz) (show 91 < 106 ∧ kd 91 = (8, 24) from ⟨by decide, rfl⟩).1 (show 91 < 106 ∧ kd 91 = (8, 24) from ⟨by decide, rfl⟩).2 (by decide) rfl ⟨Nat.le_of_ble_eq_true rfl, Nat.le_of_ble_eq_true rfl⟩ rfl hl.1 rfl (Nat.le_of_ble_eq_true rfl) dX8_met_50 ⟨Nat.zero_le _, Nat.zero_le _⟩) (fun r9 σ9 H locs hw hP hS => ?_)
          rw [show σ9 = σ_8 from hw.2] at hP
          rw [show r9 = r_9 from hw.1]
          refine lv_istore_n (lv' := [(3, .int r_9), (0, .ref (ad 91)), (1, .int x1), (2, .int x2)]) hx hb dX8_met_53 rfl hl (by decide) rfl (fun ls hl => ?_)
          refine lv_aload_n hx hb dX8_met_54 rfl (lv_at hl 1 rfl) ?_
          refine gf_X8_191 C0 X hP 91 ⟨by decide, rfl⟩ dX8_met_55 ?_
          exact r_iret C0 X hP hS hr hlk dX8_met_58 (rt2 h)
        · replace h := it_t h c_6
          refine lv_bipush (v := (-3)) hx hb dX8_met_32 (by decide) ?_
          exact r_iret C0 X hP hS hr hlk dX8_met_34 (rt2 h)
      · replace h := it_t h c_5
        refine lv_iconst (v := (-1)) hx hb dX8_met_21 (by decide) ?_
        exact r_iret C0 X hP hS hr hlk dX8_met_22 (rt2 h)
def bB_cX8_image : Nat := 0xac2e050900b42a2001b5042aebffa70101844f2e1b0900b42a1b0d00b42a1500a279101b3c03
theorem yB_cX8_image : BYS cX8_image 38 bB_cX8_image := BYS_of (by decide +kernel)
theorem dX8_image_0 : decode cX8_image 0 = .ok (.iconst 0, 1) := D_3 yB_cX8_image rfl rfl
theorem dX8_image_1 : decode cX8_image 1 = .ok (.istore_n 1, 1) := D_60 yB_cX8_image rfl rfl
theorem dX8_image_2 : decode cX8_image 2 = .ok (.iload_n 1, 1) := D_27 yB_cX8_image rfl rfl
theorem dX8_image_3 : decode cX8_image 3 = .ok (.bipush 121, 2) := D_16 yB_cX8_image rfl rfl (sg_p (m := 128) (N := 121) rfl rfl rfl)
theorem dX8_image_5 : decode cX8_image 5 = .ok (.if_icmp .ge 21, 3) := D_162 yB_cX8_image rfl rfl (sg_p (m := 32768) (N := 21) rfl rfl rfl)
theorem dX8_image_8 : decode cX8_image 8 = .ok (.aload_n 0, 1) := D_42 yB_cX8_image rfl rfl
theorem dX8_image_9 : decode cX8_image 9 = .ok (.getfield 13, 3) := D_180 yB_cX8_image rfl rfl rfl
theorem dX8_image_12 : decode cX8_image 12 = .ok (.iload_n 1, 1) := D_27 yB_cX8_image rfl rfl
theorem dX8_image_13 : decode cX8_image 13 = .ok (.aload_n 0, 1) := D_42 yB_cX8_image rfl rfl
theorem dX8_image_14 : decode cX8_image 14 = .ok (.getfield 9, 3) := D_180 yB_cX8_image rfl rfl rfl
theorem dX8_image_17 : decode cX8_image 17 = .ok (.iload_n 1, 1) := D_27 yB_cX8_image rfl rfl
theorem dX8_image_18 : decode cX8_image 18 = .ok (.iaload, 1) := D_46 yB_cX8_image rfl rfl
theorem dX8_image_19 : decode cX8_image 19 = .ok (.iastore, 1) := D_79 yB_cX8_image rfl rfl
theorem dX8_image_20 : decode cX8_image 20 = .ok (.iinc 1 1, 3) := D_132 yB_cX8_image rfl rfl rfl (sg_p (m := 128) (N := 1) rfl rfl rfl)
theorem dX8_image_23 : decode cX8_image 23 = .ok (.goto (-21), 3) := D_167 yB_cX8_image rfl rfl (sg_n (m := 32768) (N := 21) rfl rfl rfl)
theorem dX8_image_26 : decode cX8_image 26 = .ok (.aload_n 0, 1) := D_42 yB_cX8_image rfl rfl
theorem dX8_image_27 : decode cX8_image 27 = .ok (.iconst 1, 1) := D_4 yB_cX8_image rfl rfl
theorem dX8_image_28 : decode cX8_image 28 = .ok (.putfield 288, 3) := D_181 yB_cX8_image rfl rfl rfl
theorem dX8_image_31 : decode cX8_image 31 = .ok (.aload_n 0, 1) := D_42 yB_cX8_image rfl rfl
theorem dX8_image_32 : decode cX8_image 32 = .ok (.getfield 9, 3) := D_180 yB_cX8_image rfl rfl rfl
theorem dX8_image_35 : decode cX8_image 35 = .ok (.iconst 2, 1) := D_5 yB_cX8_image rfl rfl
theorem dX8_image_36 : decode cX8_image 36 = .ok (.iaload, 1) := D_46 yB_cX8_image rfl rfl
theorem dX8_image_37 : decode cX8_image 37 = .ok (.ireturn, 1) := D_172 yB_cX8_image rfl rfl
def F_X8_image_2   : Nat → Mem → Int32 → Option (Mem × Int32)
  | 0, _, _ => none
  | nn + 1, σ, v1 => if 121 ≤ v1 then (some ((stm σ 91 10 1), ((stm σ 91 10 1) 92 2))) else ((ix 121 v1).bind fun k_3 => (ix 121 v1).bind fun k_4 => F_X8_image_2 nn (stm σ 93 k_4 (σ 92 k_3)) (v1 + 1))
def F_X8_image (σ : Mem)  : Option (Mem × Int32) := F_X8_image_2 FU σ 0
set_option maxHeartbeats 4000000 in
set_option maxRecDepth 100000 in
theorem c_X8_image (l : Launch) (D : va_G) (cA : Nat → ClassId) (ad : Nat → Nat) (o : Int64) (σ : Mem)   (res : Mem × Int32) (h : F_X8_image σ  = some res) (sz : Nat) : Met l yX8_image (WY yX8_image cX8_image 2 (some .int)) (RM 0) (va_Pc [.ref (ad 91)] (PW D cA ad o σ sz)) (va_Qi (fun r σ9 => r = res.2 ∧ σ9 = res.1) (QW D cA ad o) (FA ad sz)) 0 0 (FA ad sz) := by
  refine ct_of (own := RX8) (k := 0) (Qf := va_Qi (fun r σ9 => r = res.2 ∧ σ9 = res.1) (QW D cA ad o)) rfl (by decide) (Nat.le_of_ble_eq_true rfl) (fun p e s m below meth c ls C0 X hr hlk hP hl => ?_) sz
  have hS : va_S (FA ad s.heap.size) s.heap s.heap [] := va_S.rf
  have hl : lv_has ls 2 [(0, .ref (ad 91))] := hl
  obtain ⟨hx, hb, hml, hown, hts⟩ := id C0
  unfold F_X8_image at h
  refine lv_iconst (v := 0) hx hb dX8_image_0 (by decide) ?_
  refine lv_istore_n (lv' := [(1, .int 0), (0, .ref (ad 91))]) hx hb dX8_image_1 rfl hl (by decide) rfl (fun ls hl => ?_)
  have lp_1 : ∀ (nn2 : Nat) (σ : Mem) (v1 : Int32) (H : Heap) (locs : List Loc) (ls : Array Slot), F_X8_image_2 nn2 σ v1 = some res → WP D cA ad o σ H → va_S (FA ad s.heap.size) s.heap H locs → lv_has ls 2 [(1, .int v1), (0, .ref (ad 91))] → W p l e (RM 0) s m ([.ref (ad 91)] : List Value).toArray below meth c H locs 0 0 (MQ below (va_Qi (fun r σ9 => r = res.2 ∧ σ9 = res.1) (QW D cA ad o) (FA ad s.heap.size)) ([.ref (ad 91)] : List Value).toArray s 0 0 (FA ad s.heap.size)) (F0 m 2 ls []) := by
    intro nn2
    induction nn2 with
    | zero => intro σ v1 H locs ls h hP hS hl; exact absurd (show none = some res from h) nofun
    | succ nn2 ih2 =>
      intro σ v1 H locs ls h hP hS hl
      replace h := (F_X8_image_2.eq_2 _ _ _).symm.trans h
      refine lv_iload_n hx hb dX8_image_2 rfl (lv_at hl 0 rfl) ?_
      refine lv_bipush (v := 121) hx hb dX8_image_3 (by decide) ?_
      refine lv_icmp_ge (tgt := 26) hx hb dX8_image_5 (by decide) (fun c_2 => ?_) (fun c_2 => ?_)
      · replace h := it_t h c_2
        refine lv_aload_n hx hb dX8_image_26 rfl (lv_at hl 1 rfl) ?_
        refine lv_iconst (v := 1) hx hb dX8_image_27 (by decide) ?_
        refine pf_X8_288 C0 X hP hS 91 (Or.inr rfl) ⟨by decide, rfl⟩ dX8_image_28 (fun H locs hP hS => ?_)
        refine lv_aload_n hx hb dX8_image_31 rfl (lv_at hl 1 rfl) ?_
        refine gf_X8_9 C0 X hP 91 (q := 92) ⟨by decide, rfl⟩ (by omega) rfl dX8_image_32 ?_
        refine lv_iconst (v := 2) hx hb dX8_image_35 (by decide) ?_
        refine r_ialdN C0 X hP 92 (k := 2) ⟨by decide, rfl⟩ rfl (by decide) dX8_image_36 ?_
        exact r_iret C0 X hP hS hr hlk dX8_image_37 (rt2 h)
      · replace h := it_f h c_2
        refine lv_aload_n hx hb dX8_image_8 rfl (lv_at hl 1 rfl) ?_
        refine gf_X8_13 C0 X hP 91 (q := 93) ⟨by decide, rfl⟩ (by omega) rfl dX8_image_9 ?_
        refine lv_iload_n hx hb dX8_image_12 rfl (lv_at hl 0 rfl) ?_
        refine lv_aload_n hx hb dX8_image_13 rfl (lv_at hl 1 rfl) ?_
        refine gf_X8_9 C0 X hP 91 (q := 92) ⟨by decide, rfl⟩ (by omega) rfl dX8_image_14 ?_
        refine lv_iload_n hx hb dX8_image_17 rfl (lv_at hl 0 rfl) ?_
        obtain ⟨k_3, ek_3, h⟩ := bnd h
        replace ek_3 := ix_s ek_3 (by decide)
        refine r_ialdN C0 X hP 92 (k := k_3) ⟨by decide, rfl⟩ ek_3.1 ek_3.2 dX8_image_18 ?_
        obtain ⟨k_4, ek_4, h⟩ := bnd h
        replace ek_4 := ix_s ek_4 (by decide)
        refine r_iastN C0 X hP hS 93 (k := k_4) ⟨by decide, rfl⟩ ek_4.1 ek_4.2 dX8_image_19 (fun H locs hP hS => ?_)
        refine lv_iinc (v := (v1 + 1)) (lv' := [(1, .int (v1 + 1)), (0, .ref (ad 91))]) hx hb dX8_image_20 hl (k := 0) rfl rfl (by decide) rfl (fun ls hl => ?_)
        refine lv_goto (tgt := 2) hx hb dX8_image_23 (by decide) ?_
        exact ih2 (stm σ 93 k_4 (σ 92 k_3)) (v1 + 1) _ _ ls  h hP hS (lv_sub hl [0, 1] rfl)
  exact lp_1 FU σ 0 _ _ ls  h hP hS (lv_sub hl [0, 1] rfl)
def bB_cX8_restore : Nat := 0xac2e050900b42aebffa70101844f2e1b0d00b42a1b0900b42a1500a279101b3c03acfd1006009a2001b42a
theorem yB_cX8_restore : BYS cX8_restore 43 bB_cX8_restore := BYS_of (by decide +kernel)
theorem dX8_restore_0 : decode cX8_restore 0 = .ok (.aload_n 0, 1) := D_42 yB_cX8_restore rfl rfl
theorem dX8_restore_1 : decode cX8_restore 1 = .ok (.getfield 288, 3) := D_180 yB_cX8_restore rfl rfl rfl
theorem dX8_restore_4 : decode cX8_restore 4 = .ok (.ifCond .ne 6, 3) := D_154 yB_cX8_restore rfl rfl (sg_p (m := 32768) (N := 6) rfl rfl rfl)
theorem dX8_restore_7 : decode cX8_restore 7 = .ok (.bipush (-3), 2) := D_16 yB_cX8_restore rfl rfl (sg_n (m := 128) (N := 3) rfl rfl rfl)
theorem dX8_restore_9 : decode cX8_restore 9 = .ok (.ireturn, 1) := D_172 yB_cX8_restore rfl rfl
theorem dX8_restore_10 : decode cX8_restore 10 = .ok (.iconst 0, 1) := D_3 yB_cX8_restore rfl rfl
theorem dX8_restore_11 : decode cX8_restore 11 = .ok (.istore_n 1, 1) := D_60 yB_cX8_restore rfl rfl
theorem dX8_restore_12 : decode cX8_restore 12 = .ok (.iload_n 1, 1) := D_27 yB_cX8_restore rfl rfl
theorem dX8_restore_13 : decode cX8_restore 13 = .ok (.bipush 121, 2) := D_16 yB_cX8_restore rfl rfl (sg_p (m := 128) (N := 121) rfl rfl rfl)
theorem dX8_restore_15 : decode cX8_restore 15 = .ok (.if_icmp .ge 21, 3) := D_162 yB_cX8_restore rfl rfl (sg_p (m := 32768) (N := 21) rfl rfl rfl)
theorem dX8_restore_18 : decode cX8_restore 18 = .ok (.aload_n 0, 1) := D_42 yB_cX8_restore rfl rfl
theorem dX8_restore_19 : decode cX8_restore 19 = .ok (.getfield 9, 3) := D_180 yB_cX8_restore rfl rfl rfl
theorem dX8_restore_22 : decode cX8_restore 22 = .ok (.iload_n 1, 1) := D_27 yB_cX8_restore rfl rfl
theorem dX8_restore_23 : decode cX8_restore 23 = .ok (.aload_n 0, 1) := D_42 yB_cX8_restore rfl rfl
theorem dX8_restore_24 : decode cX8_restore 24 = .ok (.getfield 13, 3) := D_180 yB_cX8_restore rfl rfl rfl
theorem dX8_restore_27 : decode cX8_restore 27 = .ok (.iload_n 1, 1) := D_27 yB_cX8_restore rfl rfl
theorem dX8_restore_28 : decode cX8_restore 28 = .ok (.iaload, 1) := D_46 yB_cX8_restore rfl rfl
theorem dX8_restore_29 : decode cX8_restore 29 = .ok (.iastore, 1) := D_79 yB_cX8_restore rfl rfl
theorem dX8_restore_30 : decode cX8_restore 30 = .ok (.iinc 1 1, 3) := D_132 yB_cX8_restore rfl rfl rfl (sg_p (m := 128) (N := 1) rfl rfl rfl)
theorem dX8_restore_33 : decode cX8_restore 33 = .ok (.goto (-21), 3) := D_167 yB_cX8_restore rfl rfl (sg_n (m := 32768) (N := 21) rfl rfl rfl)
theorem dX8_restore_36 : decode cX8_restore 36 = .ok (.aload_n 0, 1) := D_42 yB_cX8_restore rfl rfl
theorem dX8_restore_37 : decode cX8_restore 37 = .ok (.getfield 9, 3) := D_180 yB_cX8_restore rfl rfl rfl
theorem dX8_restore_40 : decode cX8_restore 40 = .ok (.iconst 2, 1) := D_5 yB_cX8_restore rfl rfl
theorem dX8_restore_41 : decode cX8_restore 41 = .ok (.iaload, 1) := D_46 yB_cX8_restore rfl rfl
theorem dX8_restore_42 : decode cX8_restore 42 = .ok (.ireturn, 1) := D_172 yB_cX8_restore rfl rfl
def F_X8_restore_12   : Nat → Mem → Int32 → Option (Mem × Int32)
  | 0, _, _ => none
  | nn + 1, σ, v1 => if 121 ≤ v1 then (some (σ, (σ 92 2))) else ((ix 121 v1).bind fun k_4 => (ix 121 v1).bind fun k_5 => F_X8_restore_12 nn (stm σ 92 k_5 (σ 93 k_4)) (v1 + 1))
def F_X8_restore (σ : Mem)  : Option (Mem × Int32) := if (σ 91 10) = 0 then (some (σ, (-3))) else (F_X8_restore_12 FU σ 0)
set_option maxHeartbeats 4000000 in
set_option maxRecDepth 100000 in
theorem c_X8_restore (l : Launch) (D : va_G) (cA : Nat → ClassId) (ad : Nat → Nat) (o : Int64) (σ : Mem)   (res : Mem × Int32) (h : F_X8_restore σ  = some res) (sz : Nat) : Met l yX8_restore (WY yX8_restore cX8_restore 2 (some .int)) (RM 0) (va_Pc [.ref (ad 91)] (PW D cA ad o σ sz)) (va_Qi (fun r σ9 => r = res.2 ∧ σ9 = res.1) (QW D cA ad o) (FA ad sz)) 0 0 (FA ad sz) := by
  refine ct_of (own := RX8) (k := 0) (Qf := va_Qi (fun r σ9 => r = res.2 ∧ σ9 = res.1) (QW D cA ad o)) rfl (by decide) (Nat.le_of_ble_eq_true rfl) (fun p e s m below meth c ls C0 X hr hlk hP hl => ?_) sz
  have hS : va_S (FA ad s.heap.size) s.heap s.heap [] := va_S.rf
  have hl : lv_has ls 2 [(0, .ref (ad 91))] := hl
  obtain ⟨hx, hb, hml, hown, hts⟩ := id C0
  unfold F_X8_restore at h
  refine lv_aload_n hx hb dX8_restore_0 rfl (lv_at hl 0 rfl) ?_
  refine gf_X8_288 C0 X hP 91 ⟨by decide, rfl⟩ dX8_restore_1 ?_
  refine lv_if_ne (tgt := 10) hx hb dX8_restore_4 (by decide) (fun c_1 => ?_) (fun c_1 => ?_)
  · replace h := it_f h c_1
    refine lv_iconst (v := 0) hx hb dX8_restore_10 (by decide) ?_
    refine lv_istore_n (lv' := [(1, .int 0), (0, .ref (ad 91))]) hx hb dX8_restore_11 rfl hl (by decide) rfl (fun ls hl => ?_)
    have lp_2 : ∀ (nn12 : Nat) (σ : Mem) (v1 : Int32) (H : Heap) (locs : List Loc) (ls : Array Slot), F_X8_restore_12 nn12 σ v1 = some res → WP D cA ad o σ H → va_S (FA ad s.heap.size) s.heap H locs → lv_has ls 2 [(1, .int v1), (0, .ref (ad 91))] → W p l e (RM 0) s m ([.ref (ad 91)] : List Value).toArray below meth c H locs 0 0 (MQ below (va_Qi (fun r σ9 => r = res.2 ∧ σ9 = res.1) (QW D cA ad o) (FA ad s.heap.size)) ([.ref (ad 91)] : List Value).toArray s 0 0 (FA ad s.heap.size)) (F0 m 12 ls []) := by
      intro nn12
      induction nn12 with
      | zero => intro σ v1 H locs ls h hP hS hl; exact absurd (show none = some res from h) nofun
      | succ nn12 ih12 =>
        intro σ v1 H locs ls h hP hS hl
        replace h := (F_X8_restore_12.eq_2 _ _ _).symm.trans h
        refine lv_iload_n hx hb dX8_restore_12 rfl (lv_at hl 0 rfl) ?_
        refine lv_bipush (v := 121) hx hb dX8_restore_13 (by decide) ?_
        refine lv_icmp_ge (tgt := 36) hx hb dX8_restore_15 (by decide) (fun c_3 => ?_) (fun c_3 => ?_)
        · replace h := it_t h c_3
          refine lv_aload_n hx hb dX8_restore_36 rfl (lv_at hl 1 rfl) ?_
          refine gf_X8_9 C0 X hP 91 (q := 92) ⟨by decide, rfl⟩ (by omega) rfl dX8_restore_37 ?_
          refine lv_iconst (v := 2) hx hb dX8_restore_40 (by decide) ?_
          refine r_ialdN C0 X hP 92 (k := 2) ⟨by decide, rfl⟩ rfl (by decide) dX8_restore_41 ?_
          exact r_iret C0 X hP hS hr hlk dX8_restore_42 (rt2 h)
        · replace h := it_f h c_3
          refine lv_aload_n hx hb dX8_restore_18 rfl (lv_at hl 1 rfl) ?_
          refine gf_X8_9 C0 X hP 91 (q := 92) ⟨by decide, rfl⟩ (by omega) rfl dX8_restore_19 ?_
          refine lv_iload_n hx hb dX8_restore_22 rfl (lv_at hl 0 rfl) ?_
          refine lv_aload_n hx hb dX8_restore_23 rfl (lv_at hl 1 rfl) ?_
          refine gf_X8_13 C0 X hP 91 (q := 93) ⟨by decide, rfl⟩ (by omega) rfl dX8_restore_24 ?_
          refine lv_iload_n hx hb dX8_restore_27 rfl (lv_at hl 0 rfl) ?_
          obtain ⟨k_4, ek_4, h⟩ := bnd h
          replace ek_4 := ix_s ek_4 (by decide)
          refine r_ialdN C0 X hP 93 (k := k_4) ⟨by decide, rfl⟩ ek_4.1 ek_4.2 dX8_restore_28 ?_
          obtain ⟨k_5, ek_5, h⟩ := bnd h
          replace ek_5 := ix_s ek_5 (by decide)
          refine r_iastN C0 X hP hS 92 (k := k_5) ⟨by decide, rfl⟩ ek_5.1 ek_5.2 dX8_restore_29 (fun H locs hP hS => ?_)
          refine lv_iinc (v := (v1 + 1)) (lv' := [(1, .int (v1 + 1)), (0, .ref (ad 91))]) hx hb dX8_restore_30 hl (k := 0) rfl rfl (by decide) rfl (fun ls hl => ?_)
          refine lv_goto (tgt := 12) hx hb dX8_restore_33 (by decide) ?_
          exact ih12 (stm σ 92 k_5 (σ 93 k_4)) (v1 + 1) _ _ ls  h hP hS (lv_sub hl [0, 1] rfl)
    exact lp_2 FU σ 0 _ _ ls  h hP hS (lv_sub hl [0, 1] rfl)
  · replace h := it_t h c_1
    refine lv_bipush (v := (-3)) hx hb dX8_restore_7 (by decide) ?_
    exact r_iret C0 X hP hS hr hlk dX8_restore_9 (rt2 h)
def bB_cX8_count : Nat := 0xac02aceb00b8070900b42aac1ce0ffa70103843d60030400a7040700999d00b81d0900b42a1c1c00a22e040900b42a1d3e03ac1ce8ffa70103843d602e601d080900b42a1c1400a22e030900b42a1d3e04ac8d00b80900b42aac2e040900b42aac2e030900b42a810000005a0000003b000000330000002c0000002500000005000000000000008a000000aa1b3d03
theorem yB_cX8_count : BYS cX8_count 143 bB_cX8_count := BYS_of (by decide +kernel)
theorem dX8_count_0 : decode cX8_count 0 = .ok (.iconst 0, 1) := D_3 yB_cX8_count rfl rfl
theorem dX8_count_1 : decode cX8_count 1 = .ok (.istore_n 2, 1) := D_61 yB_cX8_count rfl rfl
theorem dX8_count_2 : decode cX8_count 2 = .ok (.iload_n 1, 1) := D_27 yB_cX8_count rfl rfl
theorem dX8_count_3 : decode cX8_count 3 = .ok (.tableswitch 138 0 5 #[37, 44, 51, 59, 90, 129], 37) := by decide +kernel
theorem dX8_count_40 : decode cX8_count 40 = .ok (.aload_n 0, 1) := D_42 yB_cX8_count rfl rfl
theorem dX8_count_41 : decode cX8_count 41 = .ok (.getfield 9, 3) := D_180 yB_cX8_count rfl rfl rfl
theorem dX8_count_44 : decode cX8_count 44 = .ok (.iconst 0, 1) := D_3 yB_cX8_count rfl rfl
theorem dX8_count_45 : decode cX8_count 45 = .ok (.iaload, 1) := D_46 yB_cX8_count rfl rfl
theorem dX8_count_46 : decode cX8_count 46 = .ok (.ireturn, 1) := D_172 yB_cX8_count rfl rfl
theorem dX8_count_47 : decode cX8_count 47 = .ok (.aload_n 0, 1) := D_42 yB_cX8_count rfl rfl
theorem dX8_count_48 : decode cX8_count 48 = .ok (.getfield 9, 3) := D_180 yB_cX8_count rfl rfl rfl
theorem dX8_count_51 : decode cX8_count 51 = .ok (.iconst 1, 1) := D_4 yB_cX8_count rfl rfl
theorem dX8_count_52 : decode cX8_count 52 = .ok (.iaload, 1) := D_46 yB_cX8_count rfl rfl
theorem dX8_count_53 : decode cX8_count 53 = .ok (.ireturn, 1) := D_172 yB_cX8_count rfl rfl
theorem dX8_count_54 : decode cX8_count 54 = .ok (.aload_n 0, 1) := D_42 yB_cX8_count rfl rfl
theorem dX8_count_55 : decode cX8_count 55 = .ok (.getfield 9, 3) := D_180 yB_cX8_count rfl rfl rfl
theorem dX8_count_58 : decode cX8_count 58 = .ok (.invokestatic 141, 3) := D_184 yB_cX8_count rfl rfl rfl
theorem dX8_count_61 : decode cX8_count 61 = .ok (.ireturn, 1) := D_172 yB_cX8_count rfl rfl
theorem dX8_count_62 : decode cX8_count 62 = .ok (.iconst 1, 1) := D_4 yB_cX8_count rfl rfl
theorem dX8_count_63 : decode cX8_count 63 = .ok (.istore_n 3, 1) := D_62 yB_cX8_count rfl rfl
theorem dX8_count_64 : decode cX8_count 64 = .ok (.iload_n 3, 1) := D_29 yB_cX8_count rfl rfl
theorem dX8_count_65 : decode cX8_count 65 = .ok (.aload_n 0, 1) := D_42 yB_cX8_count rfl rfl
theorem dX8_count_66 : decode cX8_count 66 = .ok (.getfield 9, 3) := D_180 yB_cX8_count rfl rfl rfl
theorem dX8_count_69 : decode cX8_count 69 = .ok (.iconst 0, 1) := D_3 yB_cX8_count rfl rfl
theorem dX8_count_70 : decode cX8_count 70 = .ok (.iaload, 1) := D_46 yB_cX8_count rfl rfl
theorem dX8_count_71 : decode cX8_count 71 = .ok (.if_icmp .ge 20, 3) := D_162 yB_cX8_count rfl rfl (sg_p (m := 32768) (N := 20) rfl rfl rfl)
theorem dX8_count_74 : decode cX8_count 74 = .ok (.iload_n 2, 1) := D_28 yB_cX8_count rfl rfl
theorem dX8_count_75 : decode cX8_count 75 = .ok (.aload_n 0, 1) := D_42 yB_cX8_count rfl rfl
theorem dX8_count_76 : decode cX8_count 76 = .ok (.getfield 9, 3) := D_180 yB_cX8_count rfl rfl rfl
theorem dX8_count_79 : decode cX8_count 79 = .ok (.iconst 5, 1) := D_8 yB_cX8_count rfl rfl
theorem dX8_count_80 : decode cX8_count 80 = .ok (.iload_n 3, 1) := D_29 yB_cX8_count rfl rfl
theorem dX8_count_81 : decode cX8_count 81 = .ok (.iadd, 1) := D_96 yB_cX8_count rfl rfl
theorem dX8_count_82 : decode cX8_count 82 = .ok (.iaload, 1) := D_46 yB_cX8_count rfl rfl
theorem dX8_count_83 : decode cX8_count 83 = .ok (.iadd, 1) := D_96 yB_cX8_count rfl rfl
theorem dX8_count_84 : decode cX8_count 84 = .ok (.istore_n 2, 1) := D_61 yB_cX8_count rfl rfl
theorem dX8_count_85 : decode cX8_count 85 = .ok (.iinc 3 1, 3) := D_132 yB_cX8_count rfl rfl rfl (sg_p (m := 128) (N := 1) rfl rfl rfl)
theorem dX8_count_88 : decode cX8_count 88 = .ok (.goto (-24), 3) := D_167 yB_cX8_count rfl rfl (sg_n (m := 32768) (N := 24) rfl rfl rfl)
theorem dX8_count_91 : decode cX8_count 91 = .ok (.iload_n 2, 1) := D_28 yB_cX8_count rfl rfl
theorem dX8_count_92 : decode cX8_count 92 = .ok (.ireturn, 1) := D_172 yB_cX8_count rfl rfl
theorem dX8_count_93 : decode cX8_count 93 = .ok (.iconst 0, 1) := D_3 yB_cX8_count rfl rfl
theorem dX8_count_94 : decode cX8_count 94 = .ok (.istore_n 3, 1) := D_62 yB_cX8_count rfl rfl
theorem dX8_count_95 : decode cX8_count 95 = .ok (.iload_n 3, 1) := D_29 yB_cX8_count rfl rfl
theorem dX8_count_96 : decode cX8_count 96 = .ok (.aload_n 0, 1) := D_42 yB_cX8_count rfl rfl
theorem dX8_count_97 : decode cX8_count 97 = .ok (.getfield 9, 3) := D_180 yB_cX8_count rfl rfl rfl
theorem dX8_count_100 : decode cX8_count 100 = .ok (.iconst 1, 1) := D_4 yB_cX8_count rfl rfl
theorem dX8_count_101 : decode cX8_count 101 = .ok (.iaload, 1) := D_46 yB_cX8_count rfl rfl
theorem dX8_count_102 : decode cX8_count 102 = .ok (.if_icmp .ge 28, 3) := D_162 yB_cX8_count rfl rfl (sg_p (m := 32768) (N := 28) rfl rfl rfl)
theorem dX8_count_105 : decode cX8_count 105 = .ok (.iload_n 2, 1) := D_28 yB_cX8_count rfl rfl
theorem dX8_count_106 : decode cX8_count 106 = .ok (.aload_n 0, 1) := D_42 yB_cX8_count rfl rfl
theorem dX8_count_107 : decode cX8_count 107 = .ok (.getfield 9, 3) := D_180 yB_cX8_count rfl rfl rfl
theorem dX8_count_110 : decode cX8_count 110 = .ok (.iload_n 3, 1) := D_29 yB_cX8_count rfl rfl
theorem dX8_count_111 : decode cX8_count 111 = .ok (.invokestatic 157, 3) := D_184 yB_cX8_count rfl rfl rfl
theorem dX8_count_114 : decode cX8_count 114 = .ok (.ifCond .eq 7, 3) := D_153 yB_cX8_count rfl rfl (sg_p (m := 32768) (N := 7) rfl rfl rfl)
theorem dX8_count_117 : decode cX8_count 117 = .ok (.iconst 1, 1) := D_4 yB_cX8_count rfl rfl
theorem dX8_count_118 : decode cX8_count 118 = .ok (.goto 4, 3) := D_167 yB_cX8_count rfl rfl (sg_p (m := 32768) (N := 4) rfl rfl rfl)
theorem dX8_count_121 : decode cX8_count 121 = .ok (.iconst 0, 1) := D_3 yB_cX8_count rfl rfl
theorem dX8_count_122 : decode cX8_count 122 = .ok (.iadd, 1) := D_96 yB_cX8_count rfl rfl
theorem dX8_count_123 : decode cX8_count 123 = .ok (.istore_n 2, 1) := D_61 yB_cX8_count rfl rfl
theorem dX8_count_124 : decode cX8_count 124 = .ok (.iinc 3 1, 3) := D_132 yB_cX8_count rfl rfl rfl (sg_p (m := 128) (N := 1) rfl rfl rfl)
theorem dX8_count_127 : decode cX8_count 127 = .ok (.goto (-32), 3) := D_167 yB_cX8_count rfl rfl (sg_n (m := 32768) (N := 32) rfl rfl rfl)
theorem dX8_count_130 : decode cX8_count 130 = .ok (.iload_n 2, 1) := D_28 yB_cX8_count rfl rfl
theorem dX8_count_131 : decode cX8_count 131 = .ok (.ireturn, 1) := D_172 yB_cX8_count rfl rfl
theorem dX8_count_132 : decode cX8_count 132 = .ok (.aload_n 0, 1) := D_42 yB_cX8_count rfl rfl
theorem dX8_count_133 : decode cX8_count 133 = .ok (.getfield 9, 3) := D_180 yB_cX8_count rfl rfl rfl
theorem dX8_count_136 : decode cX8_count 136 = .ok (.iconst 4, 1) := D_7 yB_cX8_count rfl rfl
theorem dX8_count_137 : decode cX8_count 137 = .ok (.invokestatic 235, 3) := D_184 yB_cX8_count rfl rfl rfl
theorem dX8_count_140 : decode cX8_count 140 = .ok (.ireturn, 1) := D_172 yB_cX8_count rfl rfl
theorem dX8_count_141 : decode cX8_count 141 = .ok (.iconst (-1), 1) := D_2 yB_cX8_count rfl rfl
theorem dX8_count_142 : decode cX8_count 142 = .ok (.ireturn, 1) := D_172 yB_cX8_count rfl rfl
def F_X8_count_64 (σ : Mem) (x1 : Int32)  : Nat → Int32 → Int32 → Option (Int32)
  | 0, _, _ => none
  | nn + 1, v3, v2 => if (σ 92 0) ≤ v3 then (some v2) else ((ix 121 (5 + v3)).bind fun k_9 => F_X8_count_64 σ x1 nn (v3 + 1) (v2 + (σ 92 k_9)))
def F_X8_count_95 (σ : Mem) (x1 : Int32)  : Nat → Int32 → Int32 → Option (Int32)
  | 0, _, _ => none
  | nn + 1, v3, v2 => if (σ 92 1) ≤ v3 then (some v2) else ((F_X8_isOn σ 92 v3).bind fun r_13 => if r_13 = 0 then (F_X8_count_95 σ x1 nn (v3 + 1) (v2 + 0)) else (F_X8_count_95 σ x1 nn (v3 + 1) (v2 + 1)))
def F_X8_count (σ : Mem) (x1 : Int32) : Option (Int32) := if x1 = 0 then (some (σ 92 0)) else (if x1 = 1 then (some (σ 92 1)) else (if x1 = 2 then ((F_X8_endOf σ 92).bind fun r_5 => some r_5) else (if x1 = 3 then (F_X8_count_64 σ x1 FU 1 0) else (if x1 = 4 then (F_X8_count_95 σ x1 FU 0 0) else (if x1 = 5 then ((F_X8_allOf σ 92 4).bind fun r_16 => some r_16) else (some (-1)))))))
set_option maxHeartbeats 4000000 in
set_option maxRecDepth 100000 in
theorem c_X8_count (l : Launch) (D : va_G) (cA : Nat → ClassId) (ad : Nat → Nat) (o : Int64) (σ : Mem) (x1 : Int32)  (res : Int32) (h : F_X8_count σ x1 = some res) (sz : Nat) : Met l yX8_count (WY yX8_count cX8_count 4 (some .int)) (RM 2) (va_Pc [.ref (ad 91), .int x1] (PW D cA ad o σ sz)) (va_Qi (fun r σ9 => r = res ∧ σ9 = σ) (QW D cA ad o) (FA ad sz)) 0 0 (FA ad sz) := by
  refine ct_of (own := RX8) (k := 2) (Qf := va_Qi (fun r σ9 => r = res ∧ σ9 = σ) (QW D cA ad o)) rfl (by decide) (Nat.le_of_ble_eq_true rfl) (fun p e s m below meth c ls C0 X hr hlk hP hl => ?_) sz
  have hS : va_S (FA ad s.heap.size) s.heap s.heap [] := va_S.rf
  have hl : lv_has ls 4 [(0, .ref (ad 91)), (1, .int x1)] := hl
  obtain ⟨hx, hb, hml, hown, hts⟩ := id C0
  unfold F_X8_count at h
  refine lv_iconst (v := 0) hx hb dX8_count_0 (by decide) ?_
  refine lv_istore_n (lv' := [(2, .int 0), (0, .ref (ad 91)), (1, .int x1)]) hx hb dX8_count_1 rfl hl (by decide) rfl (fun ls hl => ?_)
  refine lv_iload_n hx hb dX8_count_2 rfl (lv_at hl 2 rfl) ?_
  rcases sw_in (x := x1) (lo := 0) (n := 6) with c_1 | ⟨j, hj, c_1⟩
  · replace h := it_f h (sw_ne (v := 0) c_1 (by decide))
    replace h := it_f h (sw_ne (v := 1) c_1 (by decide))
    replace h := it_f h (sw_ne (v := 2) c_1 (by decide))
    replace h := it_f h (sw_ne (v := 3) c_1 (by decide))
    replace h := it_f h (sw_ne (v := 4) c_1 (by decide))
    replace h := it_f h (sw_ne (v := 5) c_1 (by decide))
    refine lv_tableOut (tgt := 141) hx hb dX8_count_3 (by omega) (by decide) ?_
    refine lv_iconst (v := (-1)) hx hb dX8_count_141 (by decide) ?_
    exact r_iret C0 X hP hS hr hlk dX8_count_142 ⟨Option.some.inj h, rfl⟩
  · rcases (show j = 0 ∨ j = 1 ∨ j = 2 ∨ j = 3 ∨ j = 4 ∨ j = 5 by omega) with rfl | rfl | rfl | rfl | rfl | rfl
    · have e_2 : x1 = 0 := sw_eq c_1 (by decide)
      replace h := it_t h e_2
      refine lv_tableIn (off := 37) (tgt := 40) hx hb dX8_count_3 (by rw [e_2]; decide) (by rw [e_2]; decide) (by rw [e_2]; rfl) (by decide) ?_
      refine lv_aload_n hx hb dX8_count_40 rfl (lv_at hl 1 rfl) ?_
      refine gf_X8_9 C0 X hP 91 (q := 92) ⟨by decide, rfl⟩ (by omega) rfl dX8_count_41 ?_
      refine lv_iconst (v := 0) hx hb dX8_count_44 (by decide) ?_
      refine r_ialdN C0 X hP 92 (k := 0) ⟨by decide, rfl⟩ rfl (by decide) dX8_count_45 ?_
      exact r_iret C0 X hP hS hr hlk dX8_count_46 ⟨Option.some.inj h, rfl⟩
    · have e_3 : x1 = 1 := sw_eq c_1 (by decide)
      replace h := it_f h (show ¬ x1 = 0 by rw [e_3]; decide)
      replace h := it_t h e_3
      refine lv_tableIn (off := 44) (tgt := 47) hx hb dX8_count_3 (by rw [e_3]; decide) (by rw [e_3]; decide) (by rw [e_3]; rfl) (by decide) ?_
      refine lv_aload_n hx hb dX8_count_47 rfl (lv_at hl 1 rfl) ?_
      refine gf_X8_9 C0 X hP 91 (q := 92) ⟨by decide, rfl⟩ (by omega) rfl dX8_count_48 ?_
      refine lv_iconst (v := 1) hx hb dX8_count_51 (by decide) ?_
      refine r_ialdN C0 X hP 92 (k := 1) ⟨by decide, rfl⟩ rfl (by decide) dX8_count_52 ?_
      exact r_iret C0 X hP hS hr hlk dX8_count_53 ⟨Option.some.inj h, rfl⟩
    · have e_4 : x1 = 2 := sw_eq c_1 (by decide)
      replace h := it_f h (show ¬ x1 = 0 by rw [e_4]; decide)
      replace h := it_f h (show ¬ x1 = 1 by rw [e_4]; decide)
      replace h := it_t h e_4
      refine lv_tableIn (off := 51) (tgt := 54) hx hb dX8_count_3 (by rw [e_4]; decide) (by rw [e_4]; decide) (by rw [e_4]; rfl) (by decide) ?_
      refine lv_aload_n hx hb dX8_count_54 rfl (lv_at hl 1 rfl) ?_
      refine gf_X8_9 C0 X hP 91 (q := 92) ⟨by decide, rfl⟩ (by omega) rfl dX8_count_55 ?_
      obtain ⟨r_5, er_5, h⟩ := bnd h
      refine r_ci X hS (r_runS (As := [.ref (ad 92)]) (rest := []) C0 X hP L_X8_141 (fun sz => c_X8_endOf l D cA ad o σ 92 ⟨by decide, rfl⟩ r_5 er_5 sz) ⟨Nat.le_of_ble_eq_true rfl, Nat.le_of_ble_eq_true rfl⟩ rfl hl.1 rfl (Nat.le_of_ble_eq_true rfl) dX8_count_58 ⟨Nat.zero_le _, Nat.zero_le _⟩) (fun r9 σ9 H locs hw hP hS => ?_)
      rw [hw.2] at hP
      rw [hw.1]
      exact r_iret C0 X hP hS hr hlk dX8_count_61 ⟨Option.some.inj h, rfl⟩
    · have e_6 : x1 = 3 := sw_eq c_1 (by decide)
      replace h := it_f h (show ¬ x1 = 0 by rw [e_6]; decide)
      replace h := it_f h (show ¬ x1 = 1 by rw [e_6]; decide)
      replace h := it_f h (show ¬ x1 = 2 by rw [e_6]; decide)
      replace h := it_t h e_6
      refine lv_tableIn (off := 59) (tgt := 62) hx hb dX8_count_3 (by rw [e_6]; decide) (by rw [e_6]; decide) (by rw [e_6]; rfl) (by decide) ?_
      refine lv_iconst (v := 1) hx hb dX8_count_62 (by decide) ?_
      refine lv_istore_n (lv' := [(3, .int 1), (2, .int 0), (0, .ref (ad 91)), (1, .int x1)]) hx hb dX8_count_63 rfl hl (by decide) rfl (fun ls hl => ?_)
      have lp_7 : ∀ (nn64 : Nat) (v3 : Int32) (v2 : Int32) (H : Heap) (locs : List Loc) (ls : Array Slot), F_X8_count_64 σ x1 nn64 v3 v2 = some res → WP D cA ad o σ H → va_S (FA ad s.heap.size) s.heap H locs → lv_has ls 4 [(3, .int v3), (2, .int v2), (0, .ref (ad 91)), (1, .int x1)] → W p l e (RM 2) s m ([.ref (ad 91), .int x1] : List Value).toArray below meth c H locs 0 0 (MQ below (va_Qi (fun r σ9 => r = res ∧ σ9 = σ) (QW D cA ad o) (FA ad s.heap.size)) ([.ref (ad 91), .int x1] : List Value).toArray s 0 0 (FA ad s.heap.size)) (F0 m 64 ls []) := by
        intro nn64
        induction nn64 with
        | zero => intro v3 v2 H locs ls h hP hS hl; exact absurd (show none = some res from h) nofun
        | succ nn64 ih64 =>
          intro v3 v2 H locs ls h hP hS hl
          replace h := (F_X8_count_64.eq_2 _ _ _ _ _).symm.trans h
          refine lv_iload_n hx hb dX8_count_64 rfl (lv_at hl 0 rfl) ?_
          refine lv_aload_n hx hb dX8_count_65 rfl (lv_at hl 2 rfl) ?_
          refine gf_X8_9 C0 X hP 91 (q := 92) ⟨by decide, rfl⟩ (by omega) rfl dX8_count_66 ?_
          refine lv_iconst (v := 0) hx hb dX8_count_69 (by decide) ?_
          refine r_ialdN C0 X hP 92 (k := 0) ⟨by decide, rfl⟩ rfl (by decide) dX8_count_70 ?_
          refine lv_icmp_ge (tgt := 91) hx hb dX8_count_71 (by decide) (fun c_8 => ?_) (fun c_8 => ?_)
          · replace h := it_t h c_8
            refine lv_iload_n hx hb dX8_count_91 rfl (lv_at hl 1 rfl) ?_
            exact r_iret C0 X hP hS hr hlk dX8_count_92 ⟨Option.some.inj h, rfl⟩
          · replace h := it_f h c_8
            refine lv_iload_n hx hb dX8_count_74 rfl (lv_at hl 1 rfl) ?_
            refine lv_aload_n hx hb dX8_count_75 rfl (lv_at hl 2 rfl) ?_
            refine gf_X8_9 C0 X hP 91 (q := 92) ⟨by decide, rfl⟩ (by omega) rfl dX8_count_76 ?_
            refine lv_iconst (v := 5) hx hb dX8_count_79 (by decide) ?_
            refine lv_iload_n hx hb dX8_count_80 rfl (lv_at hl 0 rfl) ?_
            refine lv_iadd hx hb dX8_count_81 ?_
            obtain ⟨k_9, ek_9, h⟩ := bnd h
            replace ek_9 := ix_s ek_9 (by decide)
            refine r_ialdN C0 X hP 92 (k := k_9) ⟨by decide, rfl⟩ ek_9.1 ek_9.2 dX8_count_82 ?_
            refine lv_iadd hx hb dX8_count_83 ?_
            refine lv_istore_n (lv' := [(2, .int (v2 + (σ 92 k_9))), (3, .int v3), (0, .ref (ad 91)), (1, .int x1)]) hx hb dX8_count_84 rfl hl (by decide) rfl (fun ls hl => ?_)
            refine lv_iinc (v := (v3 + 1)) (lv' := [(3, .int (v3 + 1)), (2, .int (v2 + (σ 92 k_9))), (0, .ref (ad 91)), (1, .int x1)]) hx hb dX8_count_85 hl (k := 1) rfl rfl (by decide) rfl (fun ls hl => ?_)
            refine lv_goto (tgt := 64) hx hb dX8_count_88 (by decide) ?_
            exact ih64 (v3 + 1) (v2 + (σ 92 k_9)) _ _ ls  h hP hS (lv_sub hl [0, 1, 2, 3] rfl)
      exact lp_7 FU 1 0 _ _ ls  h hP hS (lv_sub hl [0, 1, 2, 3] rfl)
    · have e_10 : x1 = 4 := sw_eq c_1 (by decide)
      replace h := it_f h (show ¬ x1 = 0 by rw [e_10]; decide)
      replace h := it_f h (show ¬ x1 = 1 by rw [e_10]; decide)
      replace h := it_f h (show ¬ x1 = 2 by rw [e_10]; decide)
      replace h := it_f h (show ¬ x1 = 3 by rw [e_10]; decide)
      replace h := it_t h e_10
      refine lv_tableIn (off := 90) (tgt := 93) hx hb dX8_count_3 (by rw [e_10]; decide) (by rw [e_10]; decide) (by rw [e_10]; rfl) (by decide) ?_
      refine lv_iconst (v := 0) hx hb dX8_count_93 (by decide) ?_
      refine lv_istore_n (lv' := [(3, .int 0), (2, .int 0), (0, .ref (ad 91)), (1, .int x1)]) hx hb dX8_count_94 rfl hl (by decide) rfl (fun ls hl => ?_)
      have lp_11 : ∀ (nn95 : Nat) (v3 : Int32) (v2 : Int32) (H : Heap) (locs : List Loc) (ls : Array Slot), F_X8_count_95 σ x1 nn95 v3 v2 = some res → WP D cA ad o σ H → va_S (FA ad s.heap.size) s.heap H locs → lv_has ls 4 [(3, .int v3), (2, .int v2), (0, .ref (ad 91)), (1, .int x1)] → W p l e (RM 2) s m ([.ref (ad 91), .int x1] : List Value).toArray below meth c H locs 0 0 (MQ below (va_Qi (fun r σ9 => r = res ∧ σ9 = σ) (QW D cA ad o) (FA ad s.heap.size)) ([.ref (ad 91), .int x1] : List Value).toArray s 0 0 (FA ad s.heap.size)) (F0 m 95 ls []) := by
        intro nn95
        induction nn95 with
        | zero => intro v3 v2 H locs ls h hP hS hl; exact absurd (show none = some res from h) nofun
        | succ nn95 ih95 =>
          intro v3 v2 H locs ls h hP hS hl
          replace h := (F_X8_count_95.eq_2 _ _ _ _ _).symm.trans h
          refine lv_iload_n hx hb dX8_count_95 rfl (lv_at hl 0 rfl) ?_
          refine lv_aload_n hx hb dX8_count_96 rfl (lv_at hl 2 rfl) ?_
          refine gf_X8_9 C0 X hP 91 (q := 92) ⟨by decide, rfl⟩ (by omega) rfl dX8_count_97 ?_
          refine lv_iconst (v := 1) hx hb dX8_count_100 (by decide) ?_
          refine r_ialdN C0 X hP 92 (k := 1) ⟨by decide, rfl⟩ rfl (by decide) dX8_count_101 ?_
          refine lv_icmp_ge (tgt := 130) hx hb dX8_count_102 (by decide) (fun c_12 => ?_) (fun c_12 => ?_)
          · replace h := it_t h c_12
            refine lv_iload_n hx hb dX8_count_130 rfl (lv_at hl 1 rfl) ?_
            exact r_iret C0 X hP hS hr hlk dX8_count_131 ⟨Option.some.inj h, rfl⟩
          · replace h := it_f h c_12
            refine lv_iload_n hx hb dX8_count_105 rfl (lv_at hl 1 rfl) ?_
            refine lv_aload_n hx hb dX8_count_106 rfl (lv_at hl 2 rfl) ?_
            refine gf_X8_9 C0 X hP 91 (q := 92) ⟨by decide, rfl⟩ (by omega) rfl dX8_count_107 ?_
            refine lv_iload_n hx hb dX8_count_110 rfl (lv_at hl 0 rfl) ?_
            obtain ⟨r_13, er_13, h⟩ := bnd h
            refine r_ci X hS (r_runS (As := [.ref (ad 92), .int v3]) (rest := [.int v2]) C0 X hP L_X8_157 (fun sz => c_X8_isOn l D cA ad o σ 92 v3 ⟨by decide, rfl⟩ r_13 er_13 sz) ⟨Nat.le_of_ble_eq_true rfl, Nat.le_of_ble_eq_true rfl⟩ rfl hl.1 rfl (Nat.le_of_ble_eq_true rfl) dX8_count_111 ⟨Nat.zero_le _, Nat.zero_le _⟩) (fun r9 σ9 H locs hw hP hS => ?_)
            rw [hw.2] at hP
            rw [hw.1]
            refine lv_if_eq (tgt := 121) hx hb dX8_count_114 (by decide) (fun c_14 => ?_) (fun c_14 => ?_)
            · replace h := it_t h c_14
              refine lv_iconst (v := 0) hx hb dX8_count_121 (by decide) ?_
              refine lv_iadd hx hb dX8_count_122 ?_
              refine lv_istore_n (lv' := [(2, .int (v2 + 0)), (3, .int v3), (0, .ref (ad 91)), (1, .int x1)]) hx hb dX8_count_123 rfl hl (by decide) rfl (fun ls hl => ?_)
              refine lv_iinc (v := (v3 + 1)) (lv' := [(3, .int (v3 + 1)), (2, .int (v2 + 0)), (0, .ref (ad 91)), (1, .int x1)]) hx hb dX8_count_124 hl (k := 1) rfl rfl (by decide) rfl (fun ls hl => ?_)
              refine lv_goto (tgt := 95) hx hb dX8_count_127 (by decide) ?_
              exact ih95 (v3 + 1) (v2 + 0) _ _ ls  h hP hS (lv_sub hl [0, 1, 2, 3] rfl)
            · replace h := it_f h c_14
              refine lv_iconst (v := 1) hx hb dX8_count_117 (by decide) ?_
              refine lv_goto (tgt := 122) hx hb dX8_count_118 (by decide) ?_
              refine lv_iadd hx hb dX8_count_122 ?_
              refine lv_istore_n (lv' := [(2, .int (v2 + 1)), (3, .int v3), (0, .ref (ad 91)), (1, .int x1)]) hx hb dX8_count_123 rfl hl (by decide) rfl (fun ls hl => ?_)
              refine lv_iinc (v := (v3 + 1)) (lv' := [(3, .int (v3 + 1)), (2, .int (v2 + 1)), (0, .ref (ad 91)), (1, .int x1)]) hx hb dX8_count_124 hl (k := 1) rfl rfl (by decide) rfl (fun ls hl => ?_)
              refine lv_goto (tgt := 95) hx hb dX8_count_127 (by decide) ?_
              exact ih95 (v3 + 1) (v2 + 1) _ _ ls  h hP hS (lv_sub hl [0, 1, 2, 3] rfl)
      exact lp_11 FU 0 0 _ _ ls  h hP hS (lv_sub hl [0, 1, 2, 3] rfl)
    · have e_15 : x1 = 5 := sw_eq c_1 (by decide)
      replace h := it_f h (show ¬ x1 = 0 by rw [e_15]; decide)
      replace h := it_f h (show ¬ x1 = 1 by rw [e_15]; decide)
      replace h := it_f h (show ¬ x1 = 2 by rw [e_15]; decide)
      replace h := it_f h (show ¬ x1 = 3 by rw [e_15]; decide)
      replace h := it_f h (show ¬ x1 = 4 by rw [e_15]; decide)
      replace h := it_t h e_15
      refine lv_tableIn (off := 129) (tgt := 132) hx hb dX8_count_3 (by rw [e_15]; decide) (by rw [e_15]; decide) (by rw [e_15]; rfl) (by decide) ?_
      refine lv_aload_n hx hb dX8_count_132 rfl (lv_at hl 1 rfl) ?_
      refine gf_X8_9 C0 X hP 91 (q := 92) ⟨by decide, rfl⟩ (by omega) rfl dX8_count_133 ?_
      refine lv_iconst (v := 4) hx hb dX8_count_136 (by decide) ?_
      obtain ⟨r_16, er_16, h⟩ := bnd h
      refine r_ci X hS (r_runS (As := [.ref (ad 92), .int 4]) (rest := []) C0 X hP L_X8_235 (fun sz => c_X8_allOf l D cA ad o σ 92 4 ⟨by decide, rfl⟩ r_16 er_16 sz) ⟨Nat.le_of_ble_eq_true rfl, Nat.le_of_ble_eq_true rfl⟩ rfl hl.1 rfl (Nat.le_of_ble_eq_true rfl) dX8_count_137 ⟨Nat.zero_le _, Nat.zero_le _⟩) (fun r9 σ9 H locs hw hP hS => ?_)
      rw [hw.2] at hP
      rw [hw.1]
      exact r_iret C0 X hP hS hr hlk dX8_count_140 ⟨Option.some.inj h, rfl⟩
def bB_cX8_keep : Nat := 0xac034f04151b2500b42a4f1d1b2200b42a4f1c1b1600b42aac0205009a3500b85f0014098504151000993500b839001409851d1e00a0041c2100993500b80a09851c2b00996900b81b
theorem yB_cX8_keep : BYS cX8_keep 73 bB_cX8_keep := BYS_of (by decide +kernel)
theorem dX8_keep_0 : decode cX8_keep 0 = .ok (.iload_n 1, 1) := D_27 yB_cX8_keep rfl rfl
theorem dX8_keep_1 : decode cX8_keep 1 = .ok (.invokestatic 105, 3) := D_184 yB_cX8_keep rfl rfl rfl
theorem dX8_keep_4 : decode cX8_keep 4 = .ok (.ifCond .eq 43, 3) := D_153 yB_cX8_keep rfl rfl (sg_p (m := 32768) (N := 43) rfl rfl rfl)
theorem dX8_keep_7 : decode cX8_keep 7 = .ok (.iload_n 2, 1) := D_28 yB_cX8_keep rfl rfl
theorem dX8_keep_8 : decode cX8_keep 8 = .ok (.i2l, 1) := D_133 yB_cX8_keep rfl rfl
theorem dX8_keep_9 : decode cX8_keep 9 = .ok (.lconst 0, 1) := D_9 yB_cX8_keep rfl rfl
theorem dX8_keep_10 : decode cX8_keep 10 = .ok (.lconst 1, 1) := D_10 yB_cX8_keep rfl rfl
theorem dX8_keep_11 : decode cX8_keep 11 = .ok (.invokestatic 53, 3) := D_184 yB_cX8_keep rfl rfl rfl
theorem dX8_keep_14 : decode cX8_keep 14 = .ok (.ifCond .eq 33, 3) := D_153 yB_cX8_keep rfl rfl (sg_p (m := 32768) (N := 33) rfl rfl rfl)
theorem dX8_keep_17 : decode cX8_keep 17 = .ok (.iload_n 2, 1) := D_28 yB_cX8_keep rfl rfl
theorem dX8_keep_18 : decode cX8_keep 18 = .ok (.iconst 1, 1) := D_4 yB_cX8_keep rfl rfl
theorem dX8_keep_19 : decode cX8_keep 19 = .ok (.if_icmp .ne 30, 3) := D_160 yB_cX8_keep rfl rfl (sg_p (m := 32768) (N := 30) rfl rfl rfl)
theorem dX8_keep_22 : decode cX8_keep 22 = .ok (.iload_n 3, 1) := D_29 yB_cX8_keep rfl rfl
theorem dX8_keep_23 : decode cX8_keep 23 = .ok (.i2l, 1) := D_133 yB_cX8_keep rfl rfl
theorem dX8_keep_24 : decode cX8_keep 24 = .ok (.lconst 0, 1) := D_9 yB_cX8_keep rfl rfl
theorem dX8_keep_25 : decode cX8_keep 25 = .ok (.ldc2_w 57, 3) := D_20 yB_cX8_keep rfl rfl rfl
theorem dX8_keep_28 : decode cX8_keep 28 = .ok (.invokestatic 53, 3) := D_184 yB_cX8_keep rfl rfl rfl
theorem dX8_keep_31 : decode cX8_keep 31 = .ok (.ifCond .eq 16, 3) := D_153 yB_cX8_keep rfl rfl (sg_p (m := 32768) (N := 16) rfl rfl rfl)
theorem dX8_keep_34 : decode cX8_keep 34 = .ok (.iload 4, 2) := D_21 yB_cX8_keep rfl rfl rfl
theorem dX8_keep_36 : decode cX8_keep 36 = .ok (.i2l, 1) := D_133 yB_cX8_keep rfl rfl
theorem dX8_keep_37 : decode cX8_keep 37 = .ok (.lconst 0, 1) := D_9 yB_cX8_keep rfl rfl
theorem dX8_keep_38 : decode cX8_keep 38 = .ok (.ldc2_w 95, 3) := D_20 yB_cX8_keep rfl rfl rfl
theorem dX8_keep_41 : decode cX8_keep 41 = .ok (.invokestatic 53, 3) := D_184 yB_cX8_keep rfl rfl rfl
theorem dX8_keep_44 : decode cX8_keep 44 = .ok (.ifCond .ne 5, 3) := D_154 yB_cX8_keep rfl rfl (sg_p (m := 32768) (N := 5) rfl rfl rfl)
theorem dX8_keep_47 : decode cX8_keep 47 = .ok (.iconst (-1), 1) := D_2 yB_cX8_keep rfl rfl
theorem dX8_keep_48 : decode cX8_keep 48 = .ok (.ireturn, 1) := D_172 yB_cX8_keep rfl rfl
theorem dX8_keep_49 : decode cX8_keep 49 = .ok (.aload_n 0, 1) := D_42 yB_cX8_keep rfl rfl
theorem dX8_keep_50 : decode cX8_keep 50 = .ok (.getfield 22, 3) := D_180 yB_cX8_keep rfl rfl rfl
theorem dX8_keep_53 : decode cX8_keep 53 = .ok (.iload_n 1, 1) := D_27 yB_cX8_keep rfl rfl
theorem dX8_keep_54 : decode cX8_keep 54 = .ok (.iload_n 2, 1) := D_28 yB_cX8_keep rfl rfl
theorem dX8_keep_55 : decode cX8_keep 55 = .ok (.iastore, 1) := D_79 yB_cX8_keep rfl rfl
theorem dX8_keep_56 : decode cX8_keep 56 = .ok (.aload_n 0, 1) := D_42 yB_cX8_keep rfl rfl
theorem dX8_keep_57 : decode cX8_keep 57 = .ok (.getfield 34, 3) := D_180 yB_cX8_keep rfl rfl rfl
theorem dX8_keep_60 : decode cX8_keep 60 = .ok (.iload_n 1, 1) := D_27 yB_cX8_keep rfl rfl
theorem dX8_keep_61 : decode cX8_keep 61 = .ok (.iload_n 3, 1) := D_29 yB_cX8_keep rfl rfl
theorem dX8_keep_62 : decode cX8_keep 62 = .ok (.iastore, 1) := D_79 yB_cX8_keep rfl rfl
theorem dX8_keep_63 : decode cX8_keep 63 = .ok (.aload_n 0, 1) := D_42 yB_cX8_keep rfl rfl
theorem dX8_keep_64 : decode cX8_keep 64 = .ok (.getfield 37, 3) := D_180 yB_cX8_keep rfl rfl rfl
theorem dX8_keep_67 : decode cX8_keep 67 = .ok (.iload_n 1, 1) := D_27 yB_cX8_keep rfl rfl
theorem dX8_keep_68 : decode cX8_keep 68 = .ok (.iload 4, 2) := D_21 yB_cX8_keep rfl rfl rfl
theorem dX8_keep_70 : decode cX8_keep 70 = .ok (.iastore, 1) := D_79 yB_cX8_keep rfl rfl
theorem dX8_keep_71 : decode cX8_keep 71 = .ok (.iconst 0, 1) := D_3 yB_cX8_keep rfl rfl
theorem dX8_keep_72 : decode cX8_keep 72 = .ok (.ireturn, 1) := D_172 yB_cX8_keep rfl rfl
def F_X8_keep (σ : Mem) (x1 : Int32) (x2 : Int32) (x3 : Int32) (x4 : Int32) : Option (Mem × Int32) := (F_X8_isShelf σ x1).bind fun r_1 => if r_1 = 0 then (some (σ, (-1))) else (if x2 < 0 ∨ 1 < x2 then (some (σ, (-1))) else (if x2 = 1 then (if x3 < 0 ∨ 7 < x3 then (some (σ, (-1))) else (if x4 < 0 ∨ 9 < x4 then (some (σ, (-1))) else ((ix 8 x1).bind fun k_13 => (ix 8 x1).bind fun k_14 => (ix 8 x1).bind fun k_15 => some ((stm (stm (stm σ 96 k_13 x2) 100 k_14 x3) 101 k_15 x4), 0)))) else ((ix 8 x1).bind fun k_6 => (ix 8 x1).bind fun k_7 => (ix 8 x1).bind fun k_8 => some ((stm (stm (stm σ 96 k_6 x2) 100 k_7 x3) 101 k_8 x4), 0))))
set_option maxHeartbeats 4000000 in
set_option maxRecDepth 100000 in
theorem c_X8_keep (l : Launch) (D : va_G) (cA : Nat → ClassId) (ad : Nat → Nat) (o : Int64) (σ : Mem) (x1 : Int32) (x2 : Int32) (x3 : Int32) (x4 : Int32)  (res : Mem × Int32) (h : F_X8_keep σ x1 x2 x3 x4 = some res) (sz : Nat) : Met l yX8_keep (WY yX8_keep cX8_keep 5 (some .int)) (RM 2) (va_Pc [.ref (ad 91), .int x1, .int x2, .int x3, .int x4] (PW D cA ad o σ sz)) (va_Qi (fun r σ9 => r = res.2 ∧ σ9 = res.1) (QW D cA ad o) (FA ad sz)) 0 0 (FA ad sz) := by
  refine ct_of (own := RX8) (k := 2) (Qf := va_Qi (fun r σ9 => r = res.2 ∧ σ9 = res.1) (QW D cA ad o)) rfl (by decide) (Nat.le_of_ble_eq_true rfl) (fun p e s m below meth c ls C0 X hr hlk hP hl => ?_) sz
  have hS : va_S (FA ad s.heap.size) s.heap s.heap [] := va_S.rf
  have hl : lv_has ls 5 [(0, .ref (ad 91)), (1, .int x1), (2, .int x2), (3, .int x3), (4, .int x4)] := hl
  obtain ⟨hx, hb, hml, hown, hts⟩ := id C0
  unfold F_X8_keep at h
  refine lv_iload_n hx hb dX8_keep_0 rfl (lv_at hl 1 rfl) ?_
  obtain ⟨r_1, er_1, h⟩ := bnd h
  refine r_ci X hS (r_runS (As := [.int x1]) (rest := []) C0 X hP L_X8_105 (fun sz => c_X8_isShelf l D cA ad o σ x1  r_1 er_1 sz) ⟨Nat.le_of_ble_eq_true rfl, Nat.le_of_ble_eq_true rfl⟩ rfl hl.1 rfl (Nat.le_of_ble_eq_true rfl) dX8_keep_1 ⟨Nat.zero_le _, Nat.zero_le _⟩) (fun r9 σ9 H locs hw hP hS => ?_)
  rw [hw.2] at hP
  rw [hw.1]
  refine lv_if_eq (tgt := 47) hx hb dX8_keep_4 (by decide) (fun c_2 => ?_) (fun c_2 => ?_)
  · replace h := it_t h c_2
    refine lv_iconst (v := (-1)) hx hb dX8_keep_47 (by decide) ?_
    exact r_iret C0 X hP hS hr hlk dX8_keep_48 (rt2 h)
  · replace h := it_f h c_2
    refine lv_iload_n hx hb dX8_keep_7 rfl (lv_at hl 2 rfl) ?_
    refine lv_i2l (v := (x2.toInt64)) hx hb dX8_keep_8 rfl ?_
    refine lv_lconst (v := ((0 : Int32).toInt64)) hx hb dX8_keep_9 (by decide) ?_
    refine lv_lconst (v := ((1 : Int32).toInt64)) hx hb dX8_keep_10 (by decide) ?_
    refine r_ci X hS (r_runS (As := [.long (x2.toInt64), .long ((0 : Int32).toInt64), .long ((1 : Int32).toInt64)]) (rest := []) C0 X hP L_X8_53 (fun sz => c_X8_isIn l D cA ad o σ x2 0 1 sz) ⟨Nat.le_of_ble_eq_true rfl, Nat.le_of_ble_eq_true rfl⟩ rfl hl.1 rfl (Nat.le_of_ble_eq_true rfl) dX8_keep_11 ⟨Nat.zero_le _, Nat.zero_le _⟩) (fun r9 σ9 H locs hw hP hS => ?_)
    rw [hw.2] at hP
    obtain ⟨⟨b_3, rfl⟩ | ⟨b_3, rfl⟩, -⟩ := hw
    · replace h := it_f h (inn b_3)
      refine lv_if_eq (tgt := 47) hx hb dX8_keep_14 (by decide) (fun c_4 => absurd c_4 (by decide)) (fun _ => ?_)
      refine lv_iload_n hx hb dX8_keep_17 rfl (lv_at hl 2 rfl) ?_
      refine lv_iconst (v := 1) hx hb dX8_keep_18 (by decide) ?_
      refine lv_icmp_ne (tgt := 49) hx hb dX8_keep_19 (by decide) (fun c_5 => ?_) (fun c_5 => ?_)
      · replace h := it_f h c_5
        refine lv_aload_n hx hb dX8_keep_49 rfl (lv_at hl 0 rfl) ?_
        refine gf_X8_22 C0 X hP 91 (q := 96) ⟨by decide, rfl⟩ (by omega) rfl dX8_keep_50 ?_
        refine lv_iload_n hx hb dX8_keep_53 rfl (lv_at hl 1 rfl) ?_
        refine lv_iload_n hx hb dX8_keep_54 rfl (lv_at hl 2 rfl) ?_
        obtain ⟨k_6, ek_6, h⟩ := bnd h
        replace ek_6 := ix_s ek_6 (by decide)
        refine r_iastN C0 X hP hS 96 (k := k_6) ⟨by decide, rfl⟩ ek_6.1 ek_6.2 dX8_keep_55 (fun H locs hP hS => ?_)
        refine lv_aload_n hx hb dX8_keep_56 rfl (lv_at hl 0 rfl) ?_
        refine gf_X8_34 C0 X hP 91 (q := 100) ⟨by decide, rfl⟩ (by omega) rfl dX8_keep_57 ?_
        refine lv_iload_n hx hb dX8_keep_60 rfl (lv_at hl 1 rfl) ?_
        refine lv_iload_n hx hb dX8_keep_61 rfl (lv_at hl 3 rfl) ?_
        obtain ⟨k_7, ek_7, h⟩ := bnd h
        replace ek_7 := ix_s ek_7 (by decide)
        refine r_iastN C0 X hP hS 100 (k := k_7) ⟨by decide, rfl⟩ ek_7.1 ek_7.2 dX8_keep_62 (fun H locs hP hS => ?_)
        refine lv_aload_n hx hb dX8_keep_63 rfl (lv_at hl 0 rfl) ?_
        refine gf_X8_37 C0 X hP 91 (q := 101) ⟨by decide, rfl⟩ (by omega) rfl dX8_keep_64 ?_
        refine lv_iload_n hx hb dX8_keep_67 rfl (lv_at hl 1 rfl) ?_
        refine lv_iload hx hb dX8_keep_68 (lv_at hl 4 rfl) ?_
        obtain ⟨k_8, ek_8, h⟩ := bnd h
        replace ek_8 := ix_s ek_8 (by decide)
        refine r_iastN C0 X hP hS 101 (k := k_8) ⟨by decide, rfl⟩ ek_8.1 ek_8.2 dX8_keep_70 (fun H locs hP hS => ?_)
        refine lv_iconst (v := 0) hx hb dX8_keep_71 (by decide) ?_
        exact r_iret C0 X hP hS hr hlk dX8_keep_72 (rt2 h)
      · replace h := it_t h c_5
        refine lv_iload_n hx hb dX8_keep_22 rfl (lv_at hl 3 rfl) ?_
        refine lv_i2l (v := (x3.toInt64)) hx hb dX8_keep_23 rfl ?_
        refine lv_lconst (v := ((0 : Int32).toInt64)) hx hb dX8_keep_24 (by decide) ?_
        refine lv_ldc2 (own := RX8) (index := 57) (v := 7) hx hb hown (hts _ (tmc sb5_5 7 rfl (by decide +kernel))) dX8_keep_25 ?_
        refine lv_topEl (y := ((7 : Int32).toInt64)) (by decide) ?_
        refine r_ci X hS (r_runS (As := [.long (x3.toInt64), .long ((0 : Int32).toInt64), .long ((7 : Int32).toInt64)]) (rest := []) C0 X hP L_X8_53 (fun sz => c_X8_isIn l D cA ad o σ x3 0 7 sz) ⟨Nat.le_of_ble_eq_true rfl, Nat.le_of_ble_eq_true rfl⟩ rfl hl.1 rfl (Nat.le_of_ble_eq_true rfl) dX8_keep_28 ⟨Nat.zero_le _, Nat.zero_le _⟩) (fun r9 σ9 H locs hw hP hS => ?_)
        rw [hw.2] at hP
        obtain ⟨⟨b_9, rfl⟩ | ⟨b_9, rfl⟩, -⟩ := hw
        · replace h := it_f h (inn b_9)
          refine lv_if_eq (tgt := 47) hx hb dX8_keep_31 (by decide) (fun c_10 => absurd c_10 (by decide)) (fun _ => ?_)
          refine lv_iload hx hb dX8_keep_34 (lv_at hl 4 rfl) ?_
          refine lv_i2l (v := (x4.toInt64)) hx hb dX8_keep_36 rfl ?_
          refine lv_lconst (v := ((0 : Int32).toInt64)) hx hb dX8_keep_37 (by decide) ?_
          refine lv_ldc2 (own := RX8) (index := 95) (v := 9) hx hb hown (hts _ (tmc sb5_7 10 rfl (by decide +kernel))) dX8_keep_38 ?_
          refine lv_topEl (y := ((9 : Int32).toInt64)) (by decide) ?_
          refine r_ci X hS (r_runS (As := [.long (x4.toInt64), .long ((0 : Int32).toInt64), .long ((9 : Int32).toInt64)]) (rest := []) C0 X hP L_X8_53 (fun sz => c_X8_isIn l D cA ad o σ x4 0 9 sz) ⟨Nat.le_of_ble_eq_true rfl, Nat.le_of_ble_eq_true rfl⟩ rfl hl.1 rfl (Nat.le_of_ble_eq_true rfl) dX8_keep_41 ⟨Nat.zero_le _, Nat.zero_le _⟩) (fun r9 σ9 H locs hw hP hS => ?_)
          rw [hw.2] at hP
          obtain ⟨⟨b_11, rfl⟩ | ⟨b_11, rfl⟩, -⟩ := hw
          · replace h := it_f h (inn b_11)
            refine lv_if_ne (tgt := 49) hx hb dX8_keep_44 (by decide) (fun _ => ?_) (fun c_12 => absurd c_12 (by decide))
            refine lv_aload_n hx hb dX8_keep_49 rfl (lv_at hl 0 rfl) ?_
            refine gf_X8_22 C0 X hP 91 (q := 96) ⟨by decide, rfl⟩ (by omega) rfl dX8_keep_50 ?_
            refine lv_iload_n hx hb dX8_keep_53 rfl (lv_at hl 1 rfl) ?_
            refine lv_iload_n hx hb dX8_keep_54 rfl (lv_at hl 2 rfl) ?_
            obtain ⟨k_13, ek_13, h⟩ := bnd h
            replace ek_13 := ix_s ek_13 (by decide)
            refine r_iastN C0 X hP hS 96 (k := k_13) ⟨by decide, rfl⟩ ek_13.1 ek_13.2 dX8_keep_55 (fun H locs hP hS => ?_)
            refine lv_aload_n hx hb dX8_keep_56 rfl (lv_at hl 0 rfl) ?_
            refine gf_X8_34 C0 X hP 91 (q := 100) ⟨by decide, rfl⟩ (by omega) rfl dX8_keep_57 ?_
            refine lv_iload_n hx hb dX8_keep_60 rfl (lv_at hl 1 rfl) ?_
            refine lv_iload_n hx hb dX8_keep_61 rfl (lv_at hl 3 rfl) ?_
            obtain ⟨k_14, ek_14, h⟩ := bnd h
            replace ek_14 := ix_s ek_14 (by decide)
            refine r_iastN C0 X hP hS 100 (k := k_14) ⟨by decide, rfl⟩ ek_14.1 ek_14.2 dX8_keep_62 (fun H locs hP hS => ?_)
            refine lv_aload_n hx hb dX8_keep_63 rfl (lv_at hl 0 rfl) ?_
            refine gf_X8_37 C0 X hP 91 (q := 101) ⟨by decide, rfl⟩ (by omega) rfl dX8_keep_64 ?_
            refine lv_iload_n hx hb dX8_keep_67 rfl (lv_at hl 1 rfl) ?_
            refine lv_iload hx hb dX8_keep_68 (lv_at hl 4 rfl) ?_
            obtain ⟨k_15, ek_15, h⟩ := bnd h
            replace ek_15 := ix_s ek_15 (by decide)
            refine r_iastN C0 X hP hS 101 (k := k_15) ⟨by decide, rfl⟩ ek_15.1 ek_15.2 dX8_keep_70 (fun H locs hP hS => ?_)
            refine lv_iconst (v := 0) hx hb dX8_keep_71 (by decide) ?_
            exact r_iret C0 X hP hS hr hlk dX8_keep_72 (rt2 h)
          · replace h := it_t h b_11
            refine lv_if_ne (tgt := 49) hx hb dX8_keep_44 (by decide) (fun c_16 => absurd c_16 (by decide)) (fun _ => ?_)
            refine lv_iconst (v := (-1)) hx hb dX8_keep_47 (by decide) ?_
            exact r_iret C0 X hP hS hr hlk dX8_keep_48 (rt2 h)
        · replace h := it_t h b_9
          refine lv_if_eq (tgt := 47) hx hb dX8_keep_31 (by decide) (fun _ => ?_) (fun c_17 => absurd c_17 (by decide))
          refine lv_iconst (v := (-1)) hx hb dX8_keep_47 (by decide) ?_
          exact r_iret C0 X hP hS hr hlk dX8_keep_48 (rt2 h)
    · replace h := it_t h b_3
      refine lv_if_eq (tgt := 47) hx hb dX8_keep_14 (by decide) (fun _ => ?_) (fun c_18 => absurd c_18 (by decide))
      refine lv_iconst (v := (-1)) hx hb dX8_keep_47 (by decide) ?_
      exact r_iret C0 X hP hS hr hlk dX8_keep_48 (rt2 h)
def bB_cX8_row : Nat := 0xac03e9ffa70104844f03600415681b64101f00b42a1600a2641004150436034f1d1b1c00b42a4f1c1b1900b42a4f051b1600b42aacf21006009c1dac020500a464101d0900993500b83b001409851c1500996900b81b
theorem yB_cX8_row : BYS cX8_row 86 bB_cX8_row := BYS_of (by decide +kernel)
theorem dX8_row_0 : decode cX8_row 0 = .ok (.iload_n 1, 1) := D_27 yB_cX8_row rfl rfl
theorem dX8_row_1 : decode cX8_row 1 = .ok (.invokestatic 105, 3) := D_184 yB_cX8_row rfl rfl rfl
theorem dX8_row_4 : decode cX8_row 4 = .ok (.ifCond .eq 21, 3) := D_153 yB_cX8_row rfl rfl (sg_p (m := 32768) (N := 21) rfl rfl rfl)
theorem dX8_row_7 : decode cX8_row 7 = .ok (.iload_n 2, 1) := D_28 yB_cX8_row rfl rfl
theorem dX8_row_8 : decode cX8_row 8 = .ok (.i2l, 1) := D_133 yB_cX8_row rfl rfl
theorem dX8_row_9 : decode cX8_row 9 = .ok (.lconst 0, 1) := D_9 yB_cX8_row rfl rfl
theorem dX8_row_10 : decode cX8_row 10 = .ok (.ldc2_w 59, 3) := D_20 yB_cX8_row rfl rfl rfl
theorem dX8_row_13 : decode cX8_row 13 = .ok (.invokestatic 53, 3) := D_184 yB_cX8_row rfl rfl rfl
theorem dX8_row_16 : decode cX8_row 16 = .ok (.ifCond .eq 9, 3) := D_153 yB_cX8_row rfl rfl (sg_p (m := 32768) (N := 9) rfl rfl rfl)
theorem dX8_row_19 : decode cX8_row 19 = .ok (.iload_n 3, 1) := D_29 yB_cX8_row rfl rfl
theorem dX8_row_20 : decode cX8_row 20 = .ok (.bipush 100, 2) := D_16 yB_cX8_row rfl rfl (sg_p (m := 128) (N := 100) rfl rfl rfl)
theorem dX8_row_22 : decode cX8_row 22 = .ok (.if_icmp .le 5, 3) := D_164 yB_cX8_row rfl rfl (sg_p (m := 32768) (N := 5) rfl rfl rfl)
theorem dX8_row_25 : decode cX8_row 25 = .ok (.iconst (-1), 1) := D_2 yB_cX8_row rfl rfl
theorem dX8_row_26 : decode cX8_row 26 = .ok (.ireturn, 1) := D_172 yB_cX8_row rfl rfl
theorem dX8_row_27 : decode cX8_row 27 = .ok (.iload_n 3, 1) := D_29 yB_cX8_row rfl rfl
theorem dX8_row_28 : decode cX8_row 28 = .ok (.ifCond .ge 6, 3) := D_156 yB_cX8_row rfl rfl (sg_p (m := 32768) (N := 6) rfl rfl rfl)
theorem dX8_row_31 : decode cX8_row 31 = .ok (.bipush (-14), 2) := D_16 yB_cX8_row rfl rfl (sg_n (m := 128) (N := 14) rfl rfl rfl)
theorem dX8_row_33 : decode cX8_row 33 = .ok (.ireturn, 1) := D_172 yB_cX8_row rfl rfl
theorem dX8_row_34 : decode cX8_row 34 = .ok (.aload_n 0, 1) := D_42 yB_cX8_row rfl rfl
theorem dX8_row_35 : decode cX8_row 35 = .ok (.getfield 22, 3) := D_180 yB_cX8_row rfl rfl rfl
theorem dX8_row_38 : decode cX8_row 38 = .ok (.iload_n 1, 1) := D_27 yB_cX8_row rfl rfl
theorem dX8_row_39 : decode cX8_row 39 = .ok (.iconst 2, 1) := D_5 yB_cX8_row rfl rfl
theorem dX8_row_40 : decode cX8_row 40 = .ok (.iastore, 1) := D_79 yB_cX8_row rfl rfl
theorem dX8_row_41 : decode cX8_row 41 = .ok (.aload_n 0, 1) := D_42 yB_cX8_row rfl rfl
theorem dX8_row_42 : decode cX8_row 42 = .ok (.getfield 25, 3) := D_180 yB_cX8_row rfl rfl rfl
theorem dX8_row_45 : decode cX8_row 45 = .ok (.iload_n 1, 1) := D_27 yB_cX8_row rfl rfl
theorem dX8_row_46 : decode cX8_row 46 = .ok (.iload_n 2, 1) := D_28 yB_cX8_row rfl rfl
theorem dX8_row_47 : decode cX8_row 47 = .ok (.iastore, 1) := D_79 yB_cX8_row rfl rfl
theorem dX8_row_48 : decode cX8_row 48 = .ok (.aload_n 0, 1) := D_42 yB_cX8_row rfl rfl
theorem dX8_row_49 : decode cX8_row 49 = .ok (.getfield 28, 3) := D_180 yB_cX8_row rfl rfl rfl
theorem dX8_row_52 : decode cX8_row 52 = .ok (.iload_n 1, 1) := D_27 yB_cX8_row rfl rfl
theorem dX8_row_53 : decode cX8_row 53 = .ok (.iload_n 3, 1) := D_29 yB_cX8_row rfl rfl
theorem dX8_row_54 : decode cX8_row 54 = .ok (.iastore, 1) := D_79 yB_cX8_row rfl rfl
theorem dX8_row_55 : decode cX8_row 55 = .ok (.iconst 0, 1) := D_3 yB_cX8_row rfl rfl
theorem dX8_row_56 : decode cX8_row 56 = .ok (.istore 4, 2) := D_54 yB_cX8_row rfl rfl rfl
theorem dX8_row_58 : decode cX8_row 58 = .ok (.iload 4, 2) := D_21 yB_cX8_row rfl rfl rfl
theorem dX8_row_60 : decode cX8_row 60 = .ok (.bipush 100, 2) := D_16 yB_cX8_row rfl rfl (sg_p (m := 128) (N := 100) rfl rfl rfl)
theorem dX8_row_62 : decode cX8_row 62 = .ok (.if_icmp .ge 22, 3) := D_162 yB_cX8_row rfl rfl (sg_p (m := 32768) (N := 22) rfl rfl rfl)
theorem dX8_row_65 : decode cX8_row 65 = .ok (.aload_n 0, 1) := D_42 yB_cX8_row rfl rfl
theorem dX8_row_66 : decode cX8_row 66 = .ok (.getfield 31, 3) := D_180 yB_cX8_row rfl rfl rfl
theorem dX8_row_69 : decode cX8_row 69 = .ok (.bipush 100, 2) := D_16 yB_cX8_row rfl rfl (sg_p (m := 128) (N := 100) rfl rfl rfl)
theorem dX8_row_71 : decode cX8_row 71 = .ok (.iload_n 1, 1) := D_27 yB_cX8_row rfl rfl
theorem dX8_row_72 : decode cX8_row 72 = .ok (.imul, 1) := D_104 yB_cX8_row rfl rfl
theorem dX8_row_73 : decode cX8_row 73 = .ok (.iload 4, 2) := D_21 yB_cX8_row rfl rfl rfl
theorem dX8_row_75 : decode cX8_row 75 = .ok (.iadd, 1) := D_96 yB_cX8_row rfl rfl
theorem dX8_row_76 : decode cX8_row 76 = .ok (.iconst 0, 1) := D_3 yB_cX8_row rfl rfl
theorem dX8_row_77 : decode cX8_row 77 = .ok (.iastore, 1) := D_79 yB_cX8_row rfl rfl
theorem dX8_row_78 : decode cX8_row 78 = .ok (.iinc 4 1, 3) := D_132 yB_cX8_row rfl rfl rfl (sg_p (m := 128) (N := 1) rfl rfl rfl)
theorem dX8_row_81 : decode cX8_row 81 = .ok (.goto (-23), 3) := D_167 yB_cX8_row rfl rfl (sg_n (m := 32768) (N := 23) rfl rfl rfl)
theorem dX8_row_84 : decode cX8_row 84 = .ok (.iconst 0, 1) := D_3 yB_cX8_row rfl rfl
theorem dX8_row_85 : decode cX8_row 85 = .ok (.ireturn, 1) := D_172 yB_cX8_row rfl rfl
def F_X8_row_58 (x1 : Int32) (x2 : Int32) (x3 : Int32)  : Nat → Mem → Int32 → Option (Mem × Int32)
  | 0, _, _ => none
  | nn + 1, σ, v4 => if 100 ≤ v4 then (some (σ, 0)) else ((ix 800 ((100 * x1) + v4)).bind fun k_12 => F_X8_row_58 x1 x2 x3 nn (stm σ 99 k_12 0) (v4 + 1))
def F_X8_row (σ : Mem) (x1 : Int32) (x2 : Int32) (x3 : Int32) : Option (Mem × Int32) := (F_X8_isShelf σ x1).bind fun r_1 => if r_1 = 0 then (some (σ, (-1))) else (if x2 < 0 ∨ 2 < x2 then (some (σ, (-1))) else (if x3 ≤ 100 then (if 0 ≤ x3 then ((ix 8 x1).bind fun k_7 => (ix 8 x1).bind fun k_8 => (ix 8 x1).bind fun k_9 => F_X8_row_58 x1 x2 x3 FU (stm (stm (stm σ 96 k_7 2) 97 k_8 x2) 98 k_9 x3) 0) else (some (σ, (-14)))) else (some (σ, (-1)))))
set_option maxHeartbeats 4000000 in
set_option maxRecDepth 100000 in
theorem c_X8_row (l : Launch) (D : va_G) (cA : Nat → ClassId) (ad : Nat → Nat) (o : Int64) (σ : Mem) (x1 : Int32) (x2 : Int32) (x3 : Int32)  (res : Mem × Int32) (h : F_X8_row σ x1 x2 x3 = some res) (sz : Nat) : Met l yX8_row (WY yX8_row cX8_row 5 (some .int)) (RM 2) (va_Pc [.ref (ad 91), .int x1, .int x2, .int x3] (PW D cA ad o σ sz)) (va_Qi (fun r σ9 => r = res.2 ∧ σ9 = res.1) (QW D cA ad o) (FA ad sz)) 0 0 (FA ad sz) := by
  refine ct_of (own := RX8) (k := 2) (Qf := va_Qi (fun r σ9 => r = res.2 ∧ σ9 = res.1) (QW D cA ad o)) rfl (by decide) (Nat.le_of_ble_eq_true rfl) (fun p e s m below meth c ls C0 X hr hlk hP hl => ?_) sz
  have hS : va_S (FA ad s.heap.size) s.heap s.heap [] := va_S.rf
  have hl : lv_has ls 5 [(0, .ref (ad 91)), (1, .int x1), (2, .int x2), (3, .int x3)] := hl
  obtain ⟨hx, hb, hml, hown, hts⟩ := id C0
  unfold F_X8_row at h
  refine lv_iload_n hx hb dX8_row_0 rfl (lv_at hl 1 rfl) ?_
  obtain ⟨r_1, er_1, h⟩ := bnd h
  refine r_ci X hS (r_runS (As := [.int x1]) (rest := []) C0 X hP L_X8_105 (fun sz => c_X8_isShelf l D cA ad o σ x1  r_1 er_1 sz) ⟨Nat.le_of_ble_eq_true rfl, Nat.le_of_ble_eq_true rfl⟩ rfl hl.1 rfl (Nat.le_of_ble_eq_true rfl) dX8_row_1 ⟨Nat.zero_le _, Nat.zero_le _⟩) (fun r9 σ9 H locs hw hP hS => ?_)
  rw [hw.2] at hP
  rw [hw.1]
  refine lv_if_eq (tgt := 25) hx hb dX8_row_4 (by decide) (fun c_2 => ?_) (fun c_2 => ?_)
  · replace h := it_t h c_2
    refine lv_iconst (v := (-1)) hx hb dX8_row_25 (by decide) ?_
    exact r_iret C0 X hP hS hr hlk dX8_row_26 (rt2 h)
  · replace h := it_f h c_2
    refine lv_iload_n hx hb dX8_row_7 rfl (lv_at hl 2 rfl) ?_
    refine lv_i2l (v := (x2.toInt64)) hx hb dX8_row_8 rfl ?_
    refine lv_lconst (v := ((0 : Int32).toInt64)) hx hb dX8_row_9 (by decide) ?_
    refine lv_ldc2 (own := RX8) (index := 59) (v := 2) hx hb hown (hts _ (tmc sb5_7 9 rfl (by decide +kernel))) dX8_row_10 ?_
    refine lv_topEl (y := ((2 : Int32).toInt64)) (by decide) ?_
    refine r_ci X hS (r_runS (As := [.long (x2.toInt64), .long ((0 : Int32).toInt64), .long ((2 : Int32).toInt64)]) (rest := []) C0 X hP L_X8_53 (fun sz => c_X8_isIn l D cA ad o σ x2 0 2 sz) ⟨Nat.le_of_ble_eq_true rfl, Nat.le_of_ble_eq_true rfl⟩ rfl hl.1 rfl (Nat.le_of_ble_eq_true rfl) dX8_row_13 ⟨Nat.zero_le _, Nat.zero_le _⟩) (fun r9 σ9 H locs hw hP hS => ?_)
    rw [hw.2] at hP
    obtain ⟨⟨b_3, rfl⟩ | ⟨b_3, rfl⟩, -⟩ := hw
    · replace h := it_f h (inn b_3)
      refine lv_if_eq (tgt := 25) hx hb dX8_row_16 (by decide) (fun c_4 => absurd c_4 (by decide)) (fun _ => ?_)
      refine lv_iload_n hx hb dX8_row_19 rfl (lv_at hl 3 rfl) ?_
      refine lv_bipush (v := 100) hx hb dX8_row_20 (by decide) ?_
      refine lv_icmp_le (tgt := 27) hx hb dX8_row_22 (by decide) (fun c_5 => ?_) (fun c_5 => ?_)
      · replace h := it_t h c_5
        refine lv_iload_n hx hb dX8_row_27 rfl (lv_at hl 3 rfl) ?_
        refine lv_if_ge (tgt := 34) hx hb dX8_row_28 (by decide) (fun c_6 => ?_) (fun c_6 => ?_)
        · replace h := it_t h c_6
          refine lv_aload_n hx hb dX8_row_34 rfl (lv_at hl 0 rfl) ?_
          refine gf_X8_22 C0 X hP 91 (q := 96) ⟨by decide, rfl⟩ (by omega) rfl dX8_row_35 ?_
          refine lv_iload_n hx hb dX8_row_38 rfl (lv_at hl 1 rfl) ?_
          refine lv_iconst (v := 2) hx hb dX8_row_39 (by decide) ?_
          obtain ⟨k_7, ek_7, h⟩ := bnd h
          replace ek_7 := ix_s ek_7 (by decide)
          refine r_iastN C0 X hP hS 96 (k := k_7) ⟨by decide, rfl⟩ ek_7.1 ek_7.2 dX8_row_40 (fun H locs hP hS => ?_)
          refine lv_aload_n hx hb dX8_row_41 rfl (lv_at hl 0 rfl) ?_
          refine gf_X8_25 C0 X hP 91 (q := 97) ⟨by decide, rfl⟩ (by omega) rfl dX8_row_42 ?_
          refine lv_iload_n hx hb dX8_row_45 rfl (lv_at hl 1 rfl) ?_
          refine lv_iload_n hx hb dX8_row_46 rfl (lv_at hl 2 rfl) ?_
          obtain ⟨k_8, ek_8, h⟩ := bnd h
          replace ek_8 := ix_s ek_8 (by decide)
          refine r_iastN C0 X hP hS 97 (k := k_8) ⟨by decide, rfl⟩ ek_8.1 ek_8.2 dX8_row_47 (fun H locs hP hS => ?_)
          refine lv_aload_n hx hb dX8_row_48 rfl (lv_at hl 0 rfl) ?_
          refine gf_X8_28 C0 X hP 91 (q := 98) ⟨by decide, rfl⟩ (by omega) rfl dX8_row_49 ?_
          refine lv_iload_n hx hb dX8_row_52 rfl (lv_at hl 1 rfl) ?_
          refine lv_iload_n hx hb dX8_row_53 rfl (lv_at hl 3 rfl) ?_
          obtain ⟨k_9, ek_9, h⟩ := bnd h
          replace ek_9 := ix_s ek_9 (by decide)
          refine r_iastN C0 X hP hS 98 (k := k_9) ⟨by decide, rfl⟩ ek_9.1 ek_9.2 dX8_row_54 (fun H locs hP hS => ?_)
          refine lv_iconst (v := 0) hx hb dX8_row_55 (by decide) ?_
          refine lv_istore (lv' := [(4, .int 0), (0, .ref (ad 91)), (1, .int x1), (2, .int x2), (3, .int x3)]) hx hb dX8_row_56 hl (by decide) rfl (fun ls hl => ?_)
          have lp_10 : ∀ (nn58 : Nat) (σ : Mem) (v4 : Int32) (H : Heap) (locs : List Loc) (ls : Array Slot), F_X8_row_58 x1 x2 x3 nn58 σ v4 = some res → WP D cA ad o σ H → va_S (FA ad s.heap.size) s.heap H locs → lv_has ls 5 [(4, .int v4), (0, .ref (ad 91)), (1, .int x1), (2, .int x2), (3, .int x3)] → W p l e (RM 2) s m ([.ref (ad 91), .int x1, .int x2, .int x3] : List Value).toArray below meth c H locs 0 0 (MQ below (va_Qi (fun r σ9 => r = res.2 ∧ σ9 = res.1) (QW D cA ad o) (FA ad s.heap.size)) ([.ref (ad 91), .int x1, .int x2, .int x3] : List Value).toArray s 0 0 (FA ad s.heap.size)) (F0 m 58 ls []) := by
            intro nn58
            induction nn58 with
            | zero => intro σ v4 H locs ls h hP hS hl; exact absurd (show none = some res from h) nofun
            | succ nn58 ih58 =>
              intro σ v4 H locs ls h hP hS hl
              replace h := (F_X8_row_58.eq_2 _ _ _ _ _ _).symm.trans h
              refine lv_iload hx hb dX8_row_58 (lv_at hl 0 rfl) ?_
              refine lv_bipush (v := 100) hx hb dX8_row_60 (by decide) ?_
              refine lv_icmp_ge (tgt := 84) hx hb dX8_row_62 (by decide) (fun c_11 => ?_) (fun c_11 => ?_)
              · replace h := it_t h c_11
                refine lv_iconst (v := 0) hx hb dX8_row_84 (by decide) ?_
                exact r_iret C0 X hP hS hr hlk dX8_row_85 (rt2 h)
              · replace h := it_f h c_11
                refine lv_aload_n hx hb dX8_row_65 rfl (lv_at hl 1 rfl) ?_
                refine gf_X8_31 C0 X hP 91 (q := 99) ⟨by decide, rfl⟩ (by omega) rfl dX8_row_66 ?_
                refine lv_bipush (v := 100) hx hb dX8_row_69 (by decide) ?_
                refine lv_iload_n hx hb dX8_row_71 rfl (lv_at hl 2 rfl) ?_
                refine lv_imul hx hb dX8_row_72 ?_
                refine lv_iload hx hb dX8_row_73 (lv_at hl 0 rfl) ?_
                refine lv_iadd hx hb dX8_row_75 ?_
                refine lv_iconst (v := 0) hx hb dX8_row_76 (by decide) ?_
                obtain ⟨k_12, ek_12, h⟩ := bnd h
                replace ek_12 := ix_s ek_12 (by decide)
                refine r_iastN C0 X hP hS 99 (k := k_12) ⟨by decide, rfl⟩ ek_12.1 ek_12.2 dX8_row_77 (fun H locs hP hS => ?_)
                refine lv_iinc (v := (v4 + 1)) (lv' := [(4, .int (v4 + 1)), (0, .ref (ad 91)), (1, .int x1), (2, .int x2), (3, .int x3)]) hx hb dX8_row_78 hl (k := 0) rfl rfl (by decide) rfl (fun ls hl => ?_)
                refine lv_goto (tgt := 58) hx hb dX8_row_81 (by decide) ?_
                exact ih58 (stm σ 99 k_12 0) (v4 + 1) _ _ ls  h hP hS (lv_sub hl [0, 1, 2, 3, 4] rfl)
          exact lp_10 FU (stm (stm (stm σ 96 k_7 2) 97 k_8 x2) 98 k_9 x3) 0 _ _ ls  h hP hS (lv_sub hl [0, 1, 2, 3, 4] rfl)
        · replace h := it_f h c_6
          refine lv_bipush (v := (-14)) hx hb dX8_row_31 (by decide) ?_
          exact r_iret C0 X hP hS hr hlk dX8_row_33 (rt2 h)
      · replace h := it_f h c_5
        refine lv_iconst (v := (-1)) hx hb dX8_row_25 (by decide) ?_
        exact r_iret C0 X hP hS hr hlk dX8_row_26 (rt2 h)
    · replace h := it_t h b_3
      refine lv_if_eq (tgt := 25) hx hb dX8_row_16 (by decide) (fun _ => ?_) (fun c_13 => absurd c_13 (by decide))
      refine lv_iconst (v := (-1)) hx hb dX8_row_25 (by decide) ?_
      exact r_iret C0 X hP hS hr hlk dX8_row_26 (rt2 h)
def bB_cX8_put : Nat := 0xac034f1d0400a7931d0800a0042e1b1900b42a1300a7911d08009a2e1b1900b42a601c681b64101f00b42aacf31006009a3500b88564042e1b1c00b42a09851cac0415060099041504366c00b6021b2a
theorem yB_cX8_put : BYS cX8_put 80 bB_cX8_put := BYS_of (by decide +kernel)
theorem dX8_put_0 : decode cX8_put 0 = .ok (.aload_n 0, 1) := D_42 yB_cX8_put rfl rfl
theorem dX8_put_1 : decode cX8_put 1 = .ok (.iload_n 1, 1) := D_27 yB_cX8_put rfl rfl
theorem dX8_put_2 : decode cX8_put 2 = .ok (.iconst (-1), 1) := D_2 yB_cX8_put rfl rfl
theorem dX8_put_3 : decode cX8_put 3 = .ok (.invokevirtual 108, 3) := D_182 yB_cX8_put rfl rfl rfl
theorem dX8_put_6 : decode cX8_put 6 = .ok (.istore 4, 2) := D_54 yB_cX8_put rfl rfl rfl
theorem dX8_put_8 : decode cX8_put 8 = .ok (.iload 4, 2) := D_21 yB_cX8_put rfl rfl rfl
theorem dX8_put_10 : decode cX8_put 10 = .ok (.ifCond .eq 6, 3) := D_153 yB_cX8_put rfl rfl (sg_p (m := 32768) (N := 6) rfl rfl rfl)
theorem dX8_put_13 : decode cX8_put 13 = .ok (.iload 4, 2) := D_21 yB_cX8_put rfl rfl rfl
theorem dX8_put_15 : decode cX8_put 15 = .ok (.ireturn, 1) := D_172 yB_cX8_put rfl rfl
theorem dX8_put_16 : decode cX8_put 16 = .ok (.iload_n 2, 1) := D_28 yB_cX8_put rfl rfl
theorem dX8_put_17 : decode cX8_put 17 = .ok (.i2l, 1) := D_133 yB_cX8_put rfl rfl
theorem dX8_put_18 : decode cX8_put 18 = .ok (.lconst 0, 1) := D_9 yB_cX8_put rfl rfl
theorem dX8_put_19 : decode cX8_put 19 = .ok (.aload_n 0, 1) := D_42 yB_cX8_put rfl rfl
theorem dX8_put_20 : decode cX8_put 20 = .ok (.getfield 28, 3) := D_180 yB_cX8_put rfl rfl rfl
theorem dX8_put_23 : decode cX8_put 23 = .ok (.iload_n 1, 1) := D_27 yB_cX8_put rfl rfl
theorem dX8_put_24 : decode cX8_put 24 = .ok (.iaload, 1) := D_46 yB_cX8_put rfl rfl
theorem dX8_put_25 : decode cX8_put 25 = .ok (.iconst 1, 1) := D_4 yB_cX8_put rfl rfl
theorem dX8_put_26 : decode cX8_put 26 = .ok (.isub, 1) := D_100 yB_cX8_put rfl rfl
theorem dX8_put_27 : decode cX8_put 27 = .ok (.i2l, 1) := D_133 yB_cX8_put rfl rfl
theorem dX8_put_28 : decode cX8_put 28 = .ok (.invokestatic 53, 3) := D_184 yB_cX8_put rfl rfl rfl
theorem dX8_put_31 : decode cX8_put 31 = .ok (.ifCond .ne 6, 3) := D_154 yB_cX8_put rfl rfl (sg_p (m := 32768) (N := 6) rfl rfl rfl)
theorem dX8_put_34 : decode cX8_put 34 = .ok (.bipush (-13), 2) := D_16 yB_cX8_put rfl rfl (sg_n (m := 128) (N := 13) rfl rfl rfl)
theorem dX8_put_36 : decode cX8_put 36 = .ok (.ireturn, 1) := D_172 yB_cX8_put rfl rfl
theorem dX8_put_37 : decode cX8_put 37 = .ok (.aload_n 0, 1) := D_42 yB_cX8_put rfl rfl
theorem dX8_put_38 : decode cX8_put 38 = .ok (.getfield 31, 3) := D_180 yB_cX8_put rfl rfl rfl
theorem dX8_put_41 : decode cX8_put 41 = .ok (.bipush 100, 2) := D_16 yB_cX8_put rfl rfl (sg_p (m := 128) (N := 100) rfl rfl rfl)
theorem dX8_put_43 : decode cX8_put 43 = .ok (.iload_n 1, 1) := D_27 yB_cX8_put rfl rfl
theorem dX8_put_44 : decode cX8_put 44 = .ok (.imul, 1) := D_104 yB_cX8_put rfl rfl
theorem dX8_put_45 : decode cX8_put 45 = .ok (.iload_n 2, 1) := D_28 yB_cX8_put rfl rfl
theorem dX8_put_46 : decode cX8_put 46 = .ok (.iadd, 1) := D_96 yB_cX8_put rfl rfl
theorem dX8_put_47 : decode cX8_put 47 = .ok (.aload_n 0, 1) := D_42 yB_cX8_put rfl rfl
theorem dX8_put_48 : decode cX8_put 48 = .ok (.getfield 25, 3) := D_180 yB_cX8_put rfl rfl rfl
theorem dX8_put_51 : decode cX8_put 51 = .ok (.iload_n 1, 1) := D_27 yB_cX8_put rfl rfl
theorem dX8_put_52 : decode cX8_put 52 = .ok (.iaload, 1) := D_46 yB_cX8_put rfl rfl
theorem dX8_put_53 : decode cX8_put 53 = .ok (.ifCond .ne 8, 3) := D_154 yB_cX8_put rfl rfl (sg_p (m := 32768) (N := 8) rfl rfl rfl)
theorem dX8_put_56 : decode cX8_put 56 = .ok (.iload_n 3, 1) := D_29 yB_cX8_put rfl rfl
theorem dX8_put_57 : decode cX8_put 57 = .ok (.i2b, 1) := D_145 yB_cX8_put rfl rfl
theorem dX8_put_58 : decode cX8_put 58 = .ok (.goto 19, 3) := D_167 yB_cX8_put rfl rfl (sg_p (m := 32768) (N := 19) rfl rfl rfl)
theorem dX8_put_61 : decode cX8_put 61 = .ok (.aload_n 0, 1) := D_42 yB_cX8_put rfl rfl
theorem dX8_put_62 : decode cX8_put 62 = .ok (.getfield 25, 3) := D_180 yB_cX8_put rfl rfl rfl
theorem dX8_put_65 : decode cX8_put 65 = .ok (.iload_n 1, 1) := D_27 yB_cX8_put rfl rfl
theorem dX8_put_66 : decode cX8_put 66 = .ok (.iaload, 1) := D_46 yB_cX8_put rfl rfl
theorem dX8_put_67 : decode cX8_put 67 = .ok (.iconst 1, 1) := D_4 yB_cX8_put rfl rfl
theorem dX8_put_68 : decode cX8_put 68 = .ok (.if_icmp .ne 8, 3) := D_160 yB_cX8_put rfl rfl (sg_p (m := 32768) (N := 8) rfl rfl rfl)
theorem dX8_put_71 : decode cX8_put 71 = .ok (.iload_n 3, 1) := D_29 yB_cX8_put rfl rfl
theorem dX8_put_72 : decode cX8_put 72 = .ok (.i2s, 1) := D_147 yB_cX8_put rfl rfl
theorem dX8_put_73 : decode cX8_put 73 = .ok (.goto 4, 3) := D_167 yB_cX8_put rfl rfl (sg_p (m := 32768) (N := 4) rfl rfl rfl)
theorem dX8_put_76 : decode cX8_put 76 = .ok (.iload_n 3, 1) := D_29 yB_cX8_put rfl rfl
theorem dX8_put_77 : decode cX8_put 77 = .ok (.iastore, 1) := D_79 yB_cX8_put rfl rfl
theorem dX8_put_78 : decode cX8_put 78 = .ok (.iconst 0, 1) := D_3 yB_cX8_put rfl rfl
theorem dX8_put_79 : decode cX8_put 79 = .ok (.ireturn, 1) := D_172 yB_cX8_put rfl rfl
def F_X8_put (σ : Mem) (x1 : Int32) (x2 : Int32) (x3 : Int32) : Option (Mem × Int32) := (F_X8_wrongRow σ x1 (-1)).bind fun r_1 => if r_1 = 0 then ((ix 8 x1).bind fun k_3 => if x2 < 0 ∨ ((σ 98 k_3) - 1) < x2 then (some (σ, (-13))) else ((ix 8 x1).bind fun k_6 => if (σ 97 k_6) = 0 then ((ix 800 ((100 * x1) + x2)).bind fun k_12 => some ((stm σ 99 k_12 x3.toInt8.toInt32), 0)) else ((ix 8 x1).bind fun k_8 => if (σ 97 k_8) = 1 then ((ix 800 ((100 * x1) + x2)).bind fun k_11 => some ((stm σ 99 k_11 x3.toInt16.toInt32), 0)) else ((ix 800 ((100 * x1) + x2)).bind fun k_10 => some ((stm σ 99 k_10 x3), 0))))) else (some (σ, r_1))
set_option maxHeartbeats 4000000 in
set_option maxRecDepth 100000 in
theorem c_X8_put (l : Launch) (D : va_G) (cA : Nat → ClassId) (ad : Nat → Nat) (o : Int64) (σ : Mem) (x1 : Int32) (x2 : Int32) (x3 : Int32)  (res : Mem × Int32) (h : F_X8_put σ x1 x2 x3 = some res) (sz : Nat) : Met l yX8_put (WY yX8_put cX8_put 5 (some .int)) (RM 3) (va_Pc [.ref (ad 91), .int x1, .int x2, .int x3] (PW D cA ad o σ sz)) (va_Qi (fun r σ9 => r = res.2 ∧ σ9 = res.1) (QW D cA ad o) (FA ad sz)) 0 0 (FA ad sz) := by
  refine ct_of (own := RX8) (k := 3) (Qf := va_Qi (fun r σ9 => r = res.2 ∧ σ9 = res.1) (QW D cA ad o)) rfl (by decide) (Nat.le_of_ble_eq_true rfl) (fun p e s m below meth c ls C0 X hr hlk hP hl => ?_) sz
  have hS : va_S (FA ad s.heap.size) s.heap s.heap [] := va_S.rf
  have hl : lv_has ls 5 [(0, .ref (ad 91)), (1, .int x1), (2, .int x2), (3, .int x3)] := hl
  obtain ⟨hx, hb, hml, hown, hts⟩ := id C0
  unfold F_X8_put at h
  refine lv_aload_n hx hb dX8_put_0 rfl (lv_at hl 0 rfl) ?_
  refine lv_iload_n hx hb dX8_put_1 rfl (lv_at hl 1 rfl) ?_
  refine lv_iconst (v := (-1)) hx hb dX8_put_2 (by decide) ?_
  obtain ⟨r_1, er_1, h⟩ := bnd h
  refine r_ci X hS (r_runV (As := [.int x1, .int (-1)]) (rest := []) C0 X hP L_X8_108 (fun sz => c_X8_wrongRow l D cA ad o σ x1 (-1)  r_1 er_1 sz) (show 91 < 106 ∧ kd 91 = (8, 24) from ⟨by decide, rfl⟩).1 (show 91 < 106 ∧ kd 91 = (8, 24) from ⟨by decide, rfl⟩).2 (by decide) rfl ⟨Nat.le_of_ble_eq_true rfl, Nat.le_of_ble_eq_true rfl⟩ rfl hl.1 rfl (Nat.le_of_ble_eq_true rfl) dX8_put_3 ⟨Nat.zero_le _, Nat.zero_le _⟩) (fun r9 σ9 H locs hw hP hS => ?_)
  rw [hw.2] at hP
  rw [hw.1]
  refine lv_istore (lv' := [(4, .int r_1), (0, .ref (ad 91)), (1, .int x1), (2, .int x2), (3, .int x3)]) hx hb dX8_put_6 hl (by decide) rfl (fun ls hl => ?_)
  refine lv_iload hx hb dX8_put_8 (lv_at hl 0 rfl) ?_
  refine lv_if_eq (tgt := 16) hx hb dX8_put_10 (by decide) (fun c_2 => ?_) (fun c_2 => ?_)
  · replace h := it_t h c_2
    refine lv_iload_n hx hb dX8_put_16 rfl (lv_at hl 3 rfl) ?_
    refine lv_i2l (v := (x2.toInt64)) hx hb dX8_put_17 rfl ?_
    refine lv_lconst (v := ((0 : Int32).toInt64)) hx hb dX8_put_18 (by decide) ?_
    refine lv_aload_n hx hb dX8_put_19 rfl (lv_at hl 1 rfl) ?_
    refine gf_X8_28 C0 X hP 91 (q := 98) ⟨by decide, rfl⟩ (by omega) rfl dX8_put_20 ?_
    refine lv_iload_n hx hb dX8_put_23 rfl (lv_at hl 2 rfl) ?_
    obtain ⟨k_3, ek_3, h⟩ := bnd h
    replace ek_3 := ix_s ek_3 (by decide)
    refine r_ialdN C0 X hP 98 (k := k_3) ⟨by decide, rfl⟩ ek_3.1 ek_3.2 dX8_put_24 ?_
    refine lv_iconst (v := 1) hx hb dX8_put_25 (by decide) ?_
    refine lv_isub hx hb dX8_put_26 ?_
    refine lv_i2l (v := (((σ 98 k_3) - 1).toInt64)) hx hb dX8_put_27 rfl ?_
    refine r_ci X hS (r_runS (As := [.long (x2.toInt64), .long ((0 : Int32).toInt64), .long (((σ 98 k_3) - 1).toInt64)]) (rest := []) C0 X hP L_X8_53 (fun sz => c_X8_isIn l D cA ad o σ x2 0 ((σ 98 k_3) - 1) sz) ⟨Nat.le_of_ble_eq_true rfl, Nat.le_of_ble_eq_true rfl⟩ rfl hl.1 rfl (Nat.le_of_ble_eq_true rfl) dX8_put_28 ⟨Nat.zero_le _, Nat.zero_le _⟩) (fun r9 σ9 H locs hw hP hS => ?_)
    rw [hw.2] at hP
    obtain ⟨⟨b_4, rfl⟩ | ⟨b_4, rfl⟩, -⟩ := hw
    · replace h := it_f h (inn b_4)
      refine lv_if_ne (tgt := 37) hx hb dX8_put_31 (by decide) (fun _ => ?_) (fun c_5 => absurd c_5 (by decide))
      refine lv_aload_n hx hb dX8_put_37 rfl (lv_at hl 1 rfl) ?_
      refine gf_X8_31 C0 X hP 91 (q := 99) ⟨by decide, rfl⟩ (by omega) rfl dX8_put_38 ?_
      refine lv_bipush (v := 100) hx hb dX8_put_41 (by decide) ?_
      refine lv_iload_n hx hb dX8_put_43 rfl (lv_at hl 2 rfl) ?_
      refine lv_imul hx hb dX8_put_44 ?_
      refine lv_iload_n hx hb dX8_put_45 rfl (lv_at hl 3 rfl) ?_
      refine lv_iadd hx hb dX8_put_46 ?_
      refine lv_aload_n hx hb dX8_put_47 rfl (lv_at hl 1 rfl) ?_
      refine gf_X8_25 C0 X hP 91 (q := 97) ⟨by decide, rfl⟩ (by omega) rfl dX8_put_48 ?_
      refine lv_iload_n hx hb dX8_put_51 rfl (lv_at hl 2 rfl) ?_
      obtain ⟨k_6, ek_6, h⟩ := bnd h
      replace ek_6 := ix_s ek_6 (by decide)
      refine r_ialdN C0 X hP 97 (k := k_6) ⟨by decide, rfl⟩ ek_6.1 ek_6.2 dX8_put_52 ?_
      refine lv_if_ne (tgt := 61) hx hb dX8_put_53 (by decide) (fun c_7 => ?_) (fun c_7 => ?_)
      · replace h := it_f h c_7
        refine lv_aload_n hx hb dX8_put_61 rfl (lv_at hl 1 rfl) ?_
        refine gf_X8_25 C0 X hP 91 (q := 97) ⟨by decide, rfl⟩ (by omega) rfl dX8_put_62 ?_
        refine lv_iload_n hx hb dX8_put_65 rfl (lv_at hl 2 rfl) ?_
        obtain ⟨k_8, ek_8, h⟩ := bnd h
        replace ek_8 := ix_s ek_8 (by decide)
        refine r_ialdN C0 X hP 97 (k := k_8) ⟨by decide, rfl⟩ ek_8.1 ek_8.2 dX8_put_66 ?_
        refine lv_iconst (v := 1) hx hb dX8_put_67 (by decide) ?_
        refine lv_icmp_ne (tgt := 76) hx hb dX8_put_68 (by decide) (fun c_9 => ?_) (fun c_9 => ?_)
        · replace h := it_f h c_9
          refine lv_iload_n hx hb dX8_put_76 rfl (lv_at hl 4 rfl) ?_
          obtain ⟨k_10, ek_10, h⟩ := bnd h
          replace ek_10 := ix_s ek_10 (by decide)
          refine r_iastN C0 X hP hS 99 (k := k_10) ⟨by decide, rfl⟩ ek_10.1 ek_10.2 dX8_put_77 (fun H locs hP hS => ?_)
          refine lv_iconst (v := 0) hx hb dX8_put_78 (by decide) ?_
          exact r_iret C0 X hP hS hr hlk dX8_put_79 (rt2 h)
        · replace h := it_t h c_9
          refine lv_iload_n hx hb dX8_put_71 rfl (lv_at hl 4 rfl) ?_
          refine lv_i2s (v := x3.toInt16.toInt32) hx hb dX8_put_72 rfl ?_
          refine lv_goto (tgt := 77) hx hb dX8_put_73 (by decide) ?_
          obtain ⟨k_11, ek_11, h⟩ := bnd h
          replace ek_11 := ix_s ek_11 (by decide)
          refine r_iastN C0 X hP hS 99 (k := k_11) ⟨by decide, rfl⟩ ek_11.1 ek_11.2 dX8_put_77 (fun H locs hP hS => ?_)
          refine lv_iconst (v := 0) hx hb dX8_put_78 (by decide) ?_
          exact r_iret C0 X hP hS hr hlk dX8_put_79 (rt2 h)
      · replace h := it_t h c_7
        refine lv_iload_n hx hb dX8_put_56 rfl (lv_at hl 4 rfl) ?_
        refine lv_i2b (v := x3.toInt8.toInt32) hx hb dX8_put_57 rfl ?_
        refine lv_goto (tgt := 77) hx hb dX8_put_58 (by decide) ?_
        obtain ⟨k_12, ek_12, h⟩ := bnd h
        replace ek_12 := ix_s ek_12 (by decide)
        refine r_iastN C0 X hP hS 99 (k := k_12) ⟨by decide, rfl⟩ ek_12.1 ek_12.2 dX8_put_77 (fun H locs hP hS => ?_)
        refine lv_iconst (v := 0) hx hb dX8_put_78 (by decide) ?_
        exact r_iret C0 X hP hS hr hlk dX8_put_79 (rt2 h)
    · replace h := it_t h b_4
      refine lv_if_ne (tgt := 37) hx hb dX8_put_31 (by decide) (fun c_13 => absurd c_13 (by decide)) (fun _ => ?_)
      refine lv_bipush (v := (-13)) hx hb dX8_put_34 (by decide) ?_
      exact r_iret C0 X hP hS hr hlk dX8_put_36 (rt2 h)
  · replace h := it_f h c_2
    refine lv_iload hx hb dX8_put_13 (lv_at hl 0 rfl) ?_
    exact r_iret C0 X hP hS hr hlk dX8_put_15 (rt2 h)
def bB_cX8_copy : Nat := 0xac0515c5ffa70106844f2e600715601c681b64101f00b42a600715600415681d64101f00b42a0736640615640405150a00a706150800a404151c3a00a205150615063603acf3100600a46404152e1d1c00b42a05151100a3641c2e1b1c00b42a05151e009b041523009b1c27009b0515acf41006009f2e1d1900b42a2e1b1900b42a1200a0052e1d1600b42a1c00a0052e1b1600b42aacf51006009a2e1d1600b42a0c00992e1b1600b42aac0205009a6900b81d0a00996900b81b
theorem yB_cX8_copy : BYS cX8_copy 187 bB_cX8_copy := BYS_of (by decide +kernel)
theorem dX8_copy_0 : decode cX8_copy 0 = .ok (.iload_n 1, 1) := D_27 yB_cX8_copy rfl rfl
theorem dX8_copy_1 : decode cX8_copy 1 = .ok (.invokestatic 105, 3) := D_184 yB_cX8_copy rfl rfl rfl
theorem dX8_copy_4 : decode cX8_copy 4 = .ok (.ifCond .eq 10, 3) := D_153 yB_cX8_copy rfl rfl (sg_p (m := 32768) (N := 10) rfl rfl rfl)
theorem dX8_copy_7 : decode cX8_copy 7 = .ok (.iload_n 3, 1) := D_29 yB_cX8_copy rfl rfl
theorem dX8_copy_8 : decode cX8_copy 8 = .ok (.invokestatic 105, 3) := D_184 yB_cX8_copy rfl rfl rfl
theorem dX8_copy_11 : decode cX8_copy 11 = .ok (.ifCond .ne 5, 3) := D_154 yB_cX8_copy rfl rfl (sg_p (m := 32768) (N := 5) rfl rfl rfl)
theorem dX8_copy_14 : decode cX8_copy 14 = .ok (.iconst (-1), 1) := D_2 yB_cX8_copy rfl rfl
theorem dX8_copy_15 : decode cX8_copy 15 = .ok (.ireturn, 1) := D_172 yB_cX8_copy rfl rfl
theorem dX8_copy_16 : decode cX8_copy 16 = .ok (.aload_n 0, 1) := D_42 yB_cX8_copy rfl rfl
theorem dX8_copy_17 : decode cX8_copy 17 = .ok (.getfield 22, 3) := D_180 yB_cX8_copy rfl rfl rfl
theorem dX8_copy_20 : decode cX8_copy 20 = .ok (.iload_n 1, 1) := D_27 yB_cX8_copy rfl rfl
theorem dX8_copy_21 : decode cX8_copy 21 = .ok (.iaload, 1) := D_46 yB_cX8_copy rfl rfl
theorem dX8_copy_22 : decode cX8_copy 22 = .ok (.ifCond .eq 12, 3) := D_153 yB_cX8_copy rfl rfl (sg_p (m := 32768) (N := 12) rfl rfl rfl)
theorem dX8_copy_25 : decode cX8_copy 25 = .ok (.aload_n 0, 1) := D_42 yB_cX8_copy rfl rfl
theorem dX8_copy_26 : decode cX8_copy 26 = .ok (.getfield 22, 3) := D_180 yB_cX8_copy rfl rfl rfl
theorem dX8_copy_29 : decode cX8_copy 29 = .ok (.iload_n 3, 1) := D_29 yB_cX8_copy rfl rfl
theorem dX8_copy_30 : decode cX8_copy 30 = .ok (.iaload, 1) := D_46 yB_cX8_copy rfl rfl
theorem dX8_copy_31 : decode cX8_copy 31 = .ok (.ifCond .ne 6, 3) := D_154 yB_cX8_copy rfl rfl (sg_p (m := 32768) (N := 6) rfl rfl rfl)
theorem dX8_copy_34 : decode cX8_copy 34 = .ok (.bipush (-11), 2) := D_16 yB_cX8_copy rfl rfl (sg_n (m := 128) (N := 11) rfl rfl rfl)
theorem dX8_copy_36 : decode cX8_copy 36 = .ok (.ireturn, 1) := D_172 yB_cX8_copy rfl rfl
theorem dX8_copy_37 : decode cX8_copy 37 = .ok (.aload_n 0, 1) := D_42 yB_cX8_copy rfl rfl
theorem dX8_copy_38 : decode cX8_copy 38 = .ok (.getfield 22, 3) := D_180 yB_cX8_copy rfl rfl rfl
theorem dX8_copy_41 : decode cX8_copy 41 = .ok (.iload_n 1, 1) := D_27 yB_cX8_copy rfl rfl
theorem dX8_copy_42 : decode cX8_copy 42 = .ok (.iaload, 1) := D_46 yB_cX8_copy rfl rfl
theorem dX8_copy_43 : decode cX8_copy 43 = .ok (.iconst 2, 1) := D_5 yB_cX8_copy rfl rfl
theorem dX8_copy_44 : decode cX8_copy 44 = .ok (.if_icmp .ne 28, 3) := D_160 yB_cX8_copy rfl rfl (sg_p (m := 32768) (N := 28) rfl rfl rfl)
theorem dX8_copy_47 : decode cX8_copy 47 = .ok (.aload_n 0, 1) := D_42 yB_cX8_copy rfl rfl
theorem dX8_copy_48 : decode cX8_copy 48 = .ok (.getfield 22, 3) := D_180 yB_cX8_copy rfl rfl rfl
theorem dX8_copy_51 : decode cX8_copy 51 = .ok (.iload_n 3, 1) := D_29 yB_cX8_copy rfl rfl
theorem dX8_copy_52 : decode cX8_copy 52 = .ok (.iaload, 1) := D_46 yB_cX8_copy rfl rfl
theorem dX8_copy_53 : decode cX8_copy 53 = .ok (.iconst 2, 1) := D_5 yB_cX8_copy rfl rfl
theorem dX8_copy_54 : decode cX8_copy 54 = .ok (.if_icmp .ne 18, 3) := D_160 yB_cX8_copy rfl rfl (sg_p (m := 32768) (N := 18) rfl rfl rfl)
theorem dX8_copy_57 : decode cX8_copy 57 = .ok (.aload_n 0, 1) := D_42 yB_cX8_copy rfl rfl
theorem dX8_copy_58 : decode cX8_copy 58 = .ok (.getfield 25, 3) := D_180 yB_cX8_copy rfl rfl rfl
theorem dX8_copy_61 : decode cX8_copy 61 = .ok (.iload_n 1, 1) := D_27 yB_cX8_copy rfl rfl
theorem dX8_copy_62 : decode cX8_copy 62 = .ok (.iaload, 1) := D_46 yB_cX8_copy rfl rfl
theorem dX8_copy_63 : decode cX8_copy 63 = .ok (.aload_n 0, 1) := D_42 yB_cX8_copy rfl rfl
theorem dX8_copy_64 : decode cX8_copy 64 = .ok (.getfield 25, 3) := D_180 yB_cX8_copy rfl rfl rfl
theorem dX8_copy_67 : decode cX8_copy 67 = .ok (.iload_n 3, 1) := D_29 yB_cX8_copy rfl rfl
theorem dX8_copy_68 : decode cX8_copy 68 = .ok (.iaload, 1) := D_46 yB_cX8_copy rfl rfl
theorem dX8_copy_69 : decode cX8_copy 69 = .ok (.if_icmp .eq 6, 3) := D_159 yB_cX8_copy rfl rfl (sg_p (m := 32768) (N := 6) rfl rfl rfl)
theorem dX8_copy_72 : decode cX8_copy 72 = .ok (.bipush (-12), 2) := D_16 yB_cX8_copy rfl rfl (sg_n (m := 128) (N := 12) rfl rfl rfl)
theorem dX8_copy_74 : decode cX8_copy 74 = .ok (.ireturn, 1) := D_172 yB_cX8_copy rfl rfl
theorem dX8_copy_75 : decode cX8_copy 75 = .ok (.iload 5, 2) := D_21 yB_cX8_copy rfl rfl rfl
theorem dX8_copy_77 : decode cX8_copy 77 = .ok (.ifCond .lt 39, 3) := D_155 yB_cX8_copy rfl rfl (sg_p (m := 32768) (N := 39) rfl rfl rfl)
theorem dX8_copy_80 : decode cX8_copy 80 = .ok (.iload_n 2, 1) := D_28 yB_cX8_copy rfl rfl
theorem dX8_copy_81 : decode cX8_copy 81 = .ok (.ifCond .lt 35, 3) := D_155 yB_cX8_copy rfl rfl (sg_p (m := 32768) (N := 35) rfl rfl rfl)
theorem dX8_copy_84 : decode cX8_copy 84 = .ok (.iload 4, 2) := D_21 yB_cX8_copy rfl rfl rfl
theorem dX8_copy_86 : decode cX8_copy 86 = .ok (.ifCond .lt 30, 3) := D_155 yB_cX8_copy rfl rfl (sg_p (m := 32768) (N := 30) rfl rfl rfl)
theorem dX8_copy_89 : decode cX8_copy 89 = .ok (.iload 5, 2) := D_21 yB_cX8_copy rfl rfl rfl
theorem dX8_copy_91 : decode cX8_copy 91 = .ok (.aload_n 0, 1) := D_42 yB_cX8_copy rfl rfl
theorem dX8_copy_92 : decode cX8_copy 92 = .ok (.getfield 28, 3) := D_180 yB_cX8_copy rfl rfl rfl
theorem dX8_copy_95 : decode cX8_copy 95 = .ok (.iload_n 1, 1) := D_27 yB_cX8_copy rfl rfl
theorem dX8_copy_96 : decode cX8_copy 96 = .ok (.iaload, 1) := D_46 yB_cX8_copy rfl rfl
theorem dX8_copy_97 : decode cX8_copy 97 = .ok (.iload_n 2, 1) := D_28 yB_cX8_copy rfl rfl
theorem dX8_copy_98 : decode cX8_copy 98 = .ok (.isub, 1) := D_100 yB_cX8_copy rfl rfl
theorem dX8_copy_99 : decode cX8_copy 99 = .ok (.if_icmp .gt 17, 3) := D_163 yB_cX8_copy rfl rfl (sg_p (m := 32768) (N := 17) rfl rfl rfl)
theorem dX8_copy_102 : decode cX8_copy 102 = .ok (.iload 5, 2) := D_21 yB_cX8_copy rfl rfl rfl
theorem dX8_copy_104 : decode cX8_copy 104 = .ok (.aload_n 0, 1) := D_42 yB_cX8_copy rfl rfl
theorem dX8_copy_105 : decode cX8_copy 105 = .ok (.getfield 28, 3) := D_180 yB_cX8_copy rfl rfl rfl
theorem dX8_copy_108 : decode cX8_copy 108 = .ok (.iload_n 3, 1) := D_29 yB_cX8_copy rfl rfl
theorem dX8_copy_109 : decode cX8_copy 109 = .ok (.iaload, 1) := D_46 yB_cX8_copy rfl rfl
theorem dX8_copy_110 : decode cX8_copy 110 = .ok (.iload 4, 2) := D_21 yB_cX8_copy rfl rfl rfl
theorem dX8_copy_112 : decode cX8_copy 112 = .ok (.isub, 1) := D_100 yB_cX8_copy rfl rfl
theorem dX8_copy_113 : decode cX8_copy 113 = .ok (.if_icmp .le 6, 3) := D_164 yB_cX8_copy rfl rfl (sg_p (m := 32768) (N := 6) rfl rfl rfl)
theorem dX8_copy_116 : decode cX8_copy 116 = .ok (.bipush (-13), 2) := D_16 yB_cX8_copy rfl rfl (sg_n (m := 128) (N := 13) rfl rfl rfl)
theorem dX8_copy_118 : decode cX8_copy 118 = .ok (.ireturn, 1) := D_172 yB_cX8_copy rfl rfl
theorem dX8_copy_119 : decode cX8_copy 119 = .ok (.iconst 0, 1) := D_3 yB_cX8_copy rfl rfl
theorem dX8_copy_120 : decode cX8_copy 120 = .ok (.istore 6, 2) := D_54 yB_cX8_copy rfl rfl rfl
theorem dX8_copy_122 : decode cX8_copy 122 = .ok (.iload 6, 2) := D_21 yB_cX8_copy rfl rfl rfl
theorem dX8_copy_124 : decode cX8_copy 124 = .ok (.iload 5, 2) := D_21 yB_cX8_copy rfl rfl rfl
theorem dX8_copy_126 : decode cX8_copy 126 = .ok (.if_icmp .ge 58, 3) := D_162 yB_cX8_copy rfl rfl (sg_p (m := 32768) (N := 58) rfl rfl rfl)
theorem dX8_copy_129 : decode cX8_copy 129 = .ok (.iload_n 2, 1) := D_28 yB_cX8_copy rfl rfl
theorem dX8_copy_130 : decode cX8_copy 130 = .ok (.iload 4, 2) := D_21 yB_cX8_copy rfl rfl rfl
theorem dX8_copy_132 : decode cX8_copy 132 = .ok (.if_icmp .le 8, 3) := D_164 yB_cX8_copy rfl rfl (sg_p (m := 32768) (N := 8) rfl rfl rfl)
theorem dX8_copy_135 : decode cX8_copy 135 = .ok (.iload 6, 2) := D_21 yB_cX8_copy rfl rfl rfl
theorem dX8_copy_137 : decode cX8_copy 137 = .ok (.goto 10, 3) := D_167 yB_cX8_copy rfl rfl (sg_p (m := 32768) (N := 10) rfl rfl rfl)
theorem dX8_copy_140 : decode cX8_copy 140 = .ok (.iload 5, 2) := D_21 yB_cX8_copy rfl rfl rfl
theorem dX8_copy_142 : decode cX8_copy 142 = .ok (.iconst 1, 1) := D_4 yB_cX8_copy rfl rfl
theorem dX8_copy_143 : decode cX8_copy 143 = .ok (.isub, 1) := D_100 yB_cX8_copy rfl rfl
theorem dX8_copy_144 : decode cX8_copy 144 = .ok (.iload 6, 2) := D_21 yB_cX8_copy rfl rfl rfl
theorem dX8_copy_146 : decode cX8_copy 146 = .ok (.isub, 1) := D_100 yB_cX8_copy rfl rfl
theorem dX8_copy_147 : decode cX8_copy 147 = .ok (.istore 7, 2) := D_54 yB_cX8_copy rfl rfl rfl
theorem dX8_copy_149 : decode cX8_copy 149 = .ok (.aload_n 0, 1) := D_42 yB_cX8_copy rfl rfl
theorem dX8_copy_150 : decode cX8_copy 150 = .ok (.getfield 31, 3) := D_180 yB_cX8_copy rfl rfl rfl
theorem dX8_copy_153 : decode cX8_copy 153 = .ok (.bipush 100, 2) := D_16 yB_cX8_copy rfl rfl (sg_p (m := 128) (N := 100) rfl rfl rfl)
theorem dX8_copy_155 : decode cX8_copy 155 = .ok (.iload_n 3, 1) := D_29 yB_cX8_copy rfl rfl
theorem dX8_copy_156 : decode cX8_copy 156 = .ok (.imul, 1) := D_104 yB_cX8_copy rfl rfl
theorem dX8_copy_157 : decode cX8_copy 157 = .ok (.iload 4, 2) := D_21 yB_cX8_copy rfl rfl rfl
theorem dX8_copy_159 : decode cX8_copy 159 = .ok (.iadd, 1) := D_96 yB_cX8_copy rfl rfl
theorem dX8_copy_160 : decode cX8_copy 160 = .ok (.iload 7, 2) := D_21 yB_cX8_copy rfl rfl rfl
theorem dX8_copy_162 : decode cX8_copy 162 = .ok (.iadd, 1) := D_96 yB_cX8_copy rfl rfl
theorem dX8_copy_163 : decode cX8_copy 163 = .ok (.aload_n 0, 1) := D_42 yB_cX8_copy rfl rfl
theorem dX8_copy_164 : decode cX8_copy 164 = .ok (.getfield 31, 3) := D_180 yB_cX8_copy rfl rfl rfl
theorem dX8_copy_167 : decode cX8_copy 167 = .ok (.bipush 100, 2) := D_16 yB_cX8_copy rfl rfl (sg_p (m := 128) (N := 100) rfl rfl rfl)
theorem dX8_copy_169 : decode cX8_copy 169 = .ok (.iload_n 1, 1) := D_27 yB_cX8_copy rfl rfl
theorem dX8_copy_170 : decode cX8_copy 170 = .ok (.imul, 1) := D_104 yB_cX8_copy rfl rfl
theorem dX8_copy_171 : decode cX8_copy 171 = .ok (.iload_n 2, 1) := D_28 yB_cX8_copy rfl rfl
theorem dX8_copy_172 : decode cX8_copy 172 = .ok (.iadd, 1) := D_96 yB_cX8_copy rfl rfl
theorem dX8_copy_173 : decode cX8_copy 173 = .ok (.iload 7, 2) := D_21 yB_cX8_copy rfl rfl rfl
theorem dX8_copy_175 : decode cX8_copy 175 = .ok (.iadd, 1) := D_96 yB_cX8_copy rfl rfl
theorem dX8_copy_176 : decode cX8_copy 176 = .ok (.iaload, 1) := D_46 yB_cX8_copy rfl rfl
theorem dX8_copy_177 : decode cX8_copy 177 = .ok (.iastore, 1) := D_79 yB_cX8_copy rfl rfl
theorem dX8_copy_178 : decode cX8_copy 178 = .ok (.iinc 6 1, 3) := D_132 yB_cX8_copy rfl rfl rfl (sg_p (m := 128) (N := 1) rfl rfl rfl)
theorem dX8_copy_181 : decode cX8_copy 181 = .ok (.goto (-59), 3) := D_167 yB_cX8_copy rfl rfl (sg_n (m := 32768) (N := 59) rfl rfl rfl)
theorem dX8_copy_184 : decode cX8_copy 184 = .ok (.iload 5, 2) := D_21 yB_cX8_copy rfl rfl rfl
theorem dX8_copy_186 : decode cX8_copy 186 = .ok (.ireturn, 1) := D_172 yB_cX8_copy rfl rfl
def F_X8_copy_122 (x1 : Int32) (x2 : Int32) (x3 : Int32) (x4 : Int32) (x5 : Int32)  : Nat → Mem → Int32 → Option (Mem × Int32)
  | 0, _, _ => none
  | nn + 1, σ, v6 => if x5 ≤ v6 then (some (σ, x5)) else (if x2 ≤ x4 then ((ix 800 (((100 * x1) + x2) + ((x5 - 1) - v6))).bind fun k_26 => (ix 800 (((100 * x3) + x4) + ((x5 - 1) - v6))).bind fun k_27 => F_X8_copy_122 x1 x2 x3 x4 x5 nn (stm σ 99 k_27 (σ 99 k_26)) (v6 + 1)) else ((ix 800 (((100 * x1) + x2) + v6)).bind fun k_28 => (ix 800 (((100 * x3) + x4) + v6)).bind fun k_29 => F_X8_copy_122 x1 x2 x3 x4 x5 nn (stm σ 99 k_29 (σ 99 k_28)) (v6 + 1)))
def F_X8_copy (σ : Mem) (x1 : Int32) (x2 : Int32) (x3 : Int32) (x4 : Int32) (x5 : Int32) : Option (Mem × Int32) := (F_X8_isShelf σ x1).bind fun r_1 => if r_1 = 0 then (some (σ, (-1))) else ((F_X8_isShelf σ x3).bind fun r_3 => if r_3 = 0 then (some (σ, (-1))) else ((ix 8 x1).bind fun k_5 => if (σ 96 k_5) = 0 then (some (σ, (-11))) else ((ix 8 x3).bind fun k_7 => if (σ 96 k_7) = 0 then (some (σ, (-11))) else ((ix 8 x1).bind fun k_9 => if (σ 96 k_9) = 2 then ((ix 8 x3).bind fun k_11 => if (σ 96 k_11) = 2 then ((ix 8 x1).bind fun k_13 => (ix 8 x3).bind fun k_14 => if (σ 97 k_13) = (σ 97 k_14) then (if x5 < 0 then (some (σ, (-13))) else (if x2 < 0 then (some (σ, (-13))) else (if x4 < 0 then (some (σ, (-13))) else ((ix 8 x1).bind fun k_19 => if ((σ 98 k_19) - x2) < x5 then (some (σ, (-13))) else ((ix 8 x3).bind fun k_21 => if x5 ≤ ((σ 98 k_21) - x4) then (F_X8_copy_122 x1 x2 x3 x4 x5 FU σ 0) else (some (σ, (-13)))))))) else (some (σ, (-12)))) else (some (σ, (-12)))) else (some (σ, (-12)))))))
set_option maxHeartbeats 4000000 in
set_option maxRecDepth 100000 in
theorem c_X8_copy (l : Launch) (D : va_G) (cA : Nat → ClassId) (ad : Nat → Nat) (o : Int64) (σ : Mem) (x1 : Int32) (x2 : Int32) (x3 : Int32) (x4 : Int32) (x5 : Int32)  (res : Mem × Int32) (h : F_X8_copy σ x1 x2 x3 x4 x5 = some res) (sz : Nat) : Met l yX8_copy (WY yX8_copy cX8_copy 8 (some .int)) (RM 2) (va_Pc [.ref (ad 91), .int x1, .int x2, .int x3, .int x4, .int x5] (PW D cA ad o σ sz)) (va_Qi (fun r σ9 => r = res.2 ∧ σ9 = res.1) (QW D cA ad o) (FA ad sz)) 0 0 (FA ad sz) := by
  refine ct_of (own := RX8) (k := 2) (Qf := va_Qi (fun r σ9 => r = res.2 ∧ σ9 = res.1) (QW D cA ad o)) rfl (by decide) (Nat.le_of_ble_eq_true rfl) (fun p e s m below meth c ls C0 X hr hlk hP hl => ?_) sz
  have hS : va_S (FA ad s.heap.size) s.heap s.heap [] := va_S.rf
  have hl : lv_has ls 8 [(0, .ref (ad 91)), (1, .int x1), (2, .int x2), (3, .int x3), (4, .int x4), (5, .int x5)] := hl
  obtain ⟨hx, hb, hml, hown, hts⟩ := id C0
  unfold F_X8_copy at h
  refine lv_iload_n hx hb dX8_copy_0 rfl (lv_at hl 1 rfl) ?_
  obtain ⟨r_1, er_1, h⟩ := bnd h
  refine r_ci X hS (r_runS (As := [.int x1]) (rest := []) C0 X hP L_X8_105 (fun sz => c_X8_isShelf l D cA ad o σ x1  r_1 er_1 sz) ⟨Nat.le_of_ble_eq_true rfl, Nat.le_of_ble_eq_true rfl⟩ rfl hl.1 rfl (Nat.le_of_ble_eq_true rfl) dX8_copy_1 ⟨Nat.zero_le _, Nat.zero_le _⟩) (fun r9 σ9 H locs hw hP hS => ?_)
  rw [hw.2] at hP
  rw [hw.1]
  refine lv_if_eq (tgt := 14) hx hb dX8_copy_4 (by decide) (fun c_2 => ?_) (fun c_2 => ?_)
  · replace h := it_t h c_2
    refine lv_iconst (v := (-1)) hx hb dX8_copy_14 (by decide) ?_
    exact r_iret C0 X hP hS hr hlk dX8_copy_15 (rt2 h)
  · replace h := it_f h c_2
    refine lv_iload_n hx hb dX8_copy_7 rfl (lv_at hl 3 rfl) ?_
    obtain ⟨r_3, er_3, h⟩ := bnd h
    refine r_ci X hS (r_runS (As := [.int x3]) (rest := []) C0 X hP L_X8_105 (fun sz => c_X8_isShelf l D cA ad o σ x3  r_3 er_3 sz) ⟨Nat.le_of_ble_eq_true rfl, Nat.le_of_ble_eq_true rfl⟩ rfl hl.1 rfl (Nat.le_of_ble_eq_true rfl) dX8_copy_8 ⟨Nat.zero_le _, Nat.zero_le _⟩) (fun r9 σ9 H locs hw hP hS => ?_)
    rw [hw.2] at hP
    rw [hw.1]
    refine lv_if_ne (tgt := 16) hx hb dX8_copy_11 (by decide) (fun c_4 => ?_) (fun c_4 => ?_)
    · replace h := it_f h c_4
      refine lv_aload_n hx hb dX8_copy_16 rfl (lv_at hl 0 rfl) ?_
      refine gf_X8_22 C0 X hP 91 (q := 96) ⟨by decide, rfl⟩ (by omega) rfl dX8_copy_17 ?_
      refine lv_iload_n hx hb dX8_copy_20 rfl (lv_at hl 1 rfl) ?_
      obtain ⟨k_5, ek_5, h⟩ := bnd h
      replace ek_5 := ix_s ek_5 (by decide)
      refine r_ialdN C0 X hP 96 (k := k_5) ⟨by decide, rfl⟩ ek_5.1 ek_5.2 dX8_copy_21 ?_
      refine lv_if_eq (tgt := 34) hx hb dX8_copy_22 (by decide) (fun c_6 => ?_) (fun c_6 => ?_)
      · replace h := it_t h c_6
        refine lv_bipush (v := (-11)) hx hb dX8_copy_34 (by decide) ?_
        exact r_iret C0 X hP hS hr hlk dX8_copy_36 (rt2 h)
      · replace h := it_f h c_6
        refine lv_aload_n hx hb dX8_copy_25 rfl (lv_at hl 0 rfl) ?_
        refine gf_X8_22 C0 X hP 91 (q := 96) ⟨by decide, rfl⟩ (by omega) rfl dX8_copy_26 ?_
        refine lv_iload_n hx hb dX8_copy_29 rfl (lv_at hl 3 rfl) ?_
        obtain ⟨k_7, ek_7, h⟩ := bnd h
        replace ek_7 := ix_s ek_7 (by decide)
        refine r_ialdN C0 X hP 96 (k := k_7) ⟨by decide, rfl⟩ ek_7.1 ek_7.2 dX8_copy_30 ?_
        refine lv_if_ne (tgt := 37) hx hb dX8_copy_31 (by decide) (fun c_8 => ?_) (fun c_8 => ?_)
        · replace h := it_f h c_8
          refine lv_aload_n hx hb dX8_copy_37 rfl (lv_at hl 0 rfl) ?_
          refine gf_X8_22 C0 X hP 91 (q := 96) ⟨by decide, rfl⟩ (by omega) rfl dX8_copy_38 ?_
          refine lv_iload_n hx hb dX8_copy_41 rfl (lv_at hl 1 rfl) ?_
          obtain ⟨k_9, ek_9, h⟩ := bnd h
          replace ek_9 := ix_s ek_9 (by decide)
          refine r_ialdN C0 X hP 96 (k := k_9) ⟨by decide, rfl⟩ ek_9.1 ek_9.2 dX8_copy_42 ?_
          refine lv_iconst (v := 2) hx hb dX8_copy_43 (by decide) ?_
          refine lv_icmp_ne (tgt := 72) hx hb dX8_copy_44 (by decide) (fun c_10 => ?_) (fun c_10 => ?_)
          · replace h := it_f h c_10
            refine lv_bipush (v := (-12)) hx hb dX8_copy_72 (by decide) ?_
            exact r_iret C0 X hP hS hr hlk dX8_copy_74 (rt2 h)
          · replace h := it_t h c_10
            refine lv_aload_n hx hb dX8_copy_47 rfl (lv_at hl 0 rfl) ?_
            refine gf_X8_22 C0 X hP 91 (q := 96) ⟨by decide, rfl⟩ (by omega) rfl dX8_copy_48 ?_
            refine lv_iload_n hx hb dX8_copy_51 rfl (lv_at hl 3 rfl) ?_
            obtain ⟨k_11, ek_11, h⟩ := bnd h
            replace ek_11 := ix_s ek_11 (by decide)
            refine r_ialdN C0 X hP 96 (k := k_11) ⟨by decide, rfl⟩ ek_11.1 ek_11.2 dX8_copy_52 ?_
            refine lv_iconst (v := 2) hx hb dX8_copy_53 (by decide) ?_
            refine lv_icmp_ne (tgt := 72) hx hb dX8_copy_54 (by decide) (fun c_12 => ?_) (fun c_12 => ?_)
            · replace h := it_f h c_12
              refine lv_bipush (v := (-12)) hx hb dX8_copy_72 (by decide) ?_
              exact r_iret C0 X hP hS hr hlk dX8_copy_74 (rt2 h)
            · replace h := it_t h c_12
              refine lv_aload_n hx hb dX8_copy_57 rfl (lv_at hl 0 rfl) ?_
              refine gf_X8_25 C0 X hP 91 (q := 97) ⟨by decide, rfl⟩ (by omega) rfl dX8_copy_58 ?_
              refine lv_iload_n hx hb dX8_copy_61 rfl (lv_at hl 1 rfl) ?_
              obtain ⟨k_13, ek_13, h⟩ := bnd h
              replace ek_13 := ix_s ek_13 (by decide)
              refine r_ialdN C0 X hP 97 (k := k_13) ⟨by decide, rfl⟩ ek_13.1 ek_13.2 dX8_copy_62 ?_
              refine lv_aload_n hx hb dX8_copy_63 rfl (lv_at hl 0 rfl) ?_
              refine gf_X8_25 C0 X hP 91 (q := 97) ⟨by decide, rfl⟩ (by omega) rfl dX8_copy_64 ?_
              refine lv_iload_n hx hb dX8_copy_67 rfl (lv_at hl 3 rfl) ?_
              obtain ⟨k_14, ek_14, h⟩ := bnd h
              replace ek_14 := ix_s ek_14 (by decide)
              refine r_ialdN C0 X hP 97 (k := k_14) ⟨by decide, rfl⟩ ek_14.1 ek_14.2 dX8_copy_68 ?_
              refine lv_icmp_eq (tgt := 75) hx hb dX8_copy_69 (by decide) (fun c_15 => ?_) (fun c_15 => ?_)
              · replace h := it_t h c_15
                refine lv_iload hx hb dX8_copy_75 (lv_at hl 5 rfl) ?_
                refine lv_if_lt (tgt := 116) hx hb dX8_copy_77 (by decide) (fun c_16 => ?_) (fun c_16 => ?_)
                · replace h := it_t h c_16
                  refine lv_bipush (v := (-13)) hx hb dX8_copy_116 (by decide) ?_
                  exact r_iret C0 X hP hS hr hlk dX8_copy_118 (rt2 h)
                · replace h := it_f h c_16
                  refine lv_iload_n hx hb dX8_copy_80 rfl (lv_at hl 2 rfl) ?_
                  refine lv_if_lt (tgt := 116) hx hb dX8_copy_81 (by decide) (fun c_17 => ?_) (fun c_17 => ?_)
                  · replace h := it_t h c_17
                    refine lv_bipush (v := (-13)) hx hb dX8_copy_116 (by decide) ?_
                    exact r_iret C0 X hP hS hr hlk dX8_copy_118 (rt2 h)
                  · replace h := it_f h c_17
                    refine lv_iload hx hb dX8_copy_84 (lv_at hl 4 rfl) ?_
                    refine lv_if_lt (tgt := 116) hx hb dX8_copy_86 (by decide) (fun c_18 => ?_) (fun c_18 => ?_)
                    · replace h := it_t h c_18
                      refine lv_bipush (v := (-13)) hx hb dX8_copy_116 (by decide) ?_
                      exact r_iret C0 X hP hS hr hlk dX8_copy_118 (rt2 h)
                    · replace h := it_f h c_18
                      refine lv_iload hx hb dX8_copy_89 (lv_at hl 5 rfl) ?_
                      refine lv_aload_n hx hb dX8_copy_91 rfl (lv_at hl 0 rfl) ?_
                      refine gf_X8_28 C0 X hP 91 (q := 98) ⟨by decide, rfl⟩ (by omega) rfl dX8_copy_92 ?_
                      refine lv_iload_n hx hb dX8_copy_95 rfl (lv_at hl 1 rfl) ?_
                      obtain ⟨k_19, ek_19, h⟩ := bnd h
                      replace ek_19 := ix_s ek_19 (by decide)
                      refine r_ialdN C0 X hP 98 (k := k_19) ⟨by decide, rfl⟩ ek_19.1 ek_19.2 dX8_copy_96 ?_
                      refine lv_iload_n hx hb dX8_copy_97 rfl (lv_at hl 2 rfl) ?_
                      refine lv_isub hx hb dX8_copy_98 ?_
                      refine lv_icmp_gt (tgt := 116) hx hb dX8_copy_99 (by decide) (fun c_20 => ?_) (fun c_20 => ?_)
                      · replace h := it_t h c_20
                        refine lv_bipush (v := (-13)) hx hb dX8_copy_116 (by decide) ?_
                        exact r_iret C0 X hP hS hr hlk dX8_copy_118 (rt2 h)
                      · replace h := it_f h c_20
                        refine lv_iload hx hb dX8_copy_102 (lv_at hl 5 rfl) ?_
                        refine lv_aload_n hx hb dX8_copy_104 rfl (lv_at hl 0 rfl) ?_
                        refine gf_X8_28 C0 X hP 91 (q := 98) ⟨by decide, rfl⟩ (by omega) rfl dX8_copy_105 ?_
                        refine lv_iload_n hx hb dX8_copy_108 rfl (lv_at hl 3 rfl) ?_
                        obtain ⟨k_21, ek_21, h⟩ := bnd h
                        replace ek_21 := ix_s ek_21 (by decide)
                        refine r_ialdN C0 X hP 98 (k := k_21) ⟨by decide, rfl⟩ ek_21.1 ek_21.2 dX8_copy_109 ?_
                        refine lv_iload hx hb dX8_copy_110 (lv_at hl 4 rfl) ?_
                        refine lv_isub hx hb dX8_copy_112 ?_
                        refine lv_icmp_le (tgt := 119) hx hb dX8_copy_113 (by decide) (fun c_22 => ?_) (fun c_22 => ?_)
                        · replace h := it_t h c_22
                          refine lv_iconst (v := 0) hx hb dX8_copy_119 (by decide) ?_
                          refine lv_istore (lv' := [(6, .int 0), (0, .ref (ad 91)), (1, .int x1), (2, .int x2), (3, .int x3), (4, .int x4), (5, .int x5)]) hx hb dX8_copy_120 hl (by decide) rfl (fun ls hl => ?_)
                          have lp_23 : ∀ (nn122 : Nat) (σ : Mem) (v6 : Int32) (H : Heap) (locs : List Loc) (ls : Array Slot), F_X8_copy_122 x1 x2 x3 x4 x5 nn122 σ v6 = some res → WP D cA ad o σ H → va_S (FA ad s.heap.size) s.heap H locs → lv_has ls 8 [(6, .int v6), (0, .ref (ad 91)), (1, .int x1), (2, .int x2), (3, .int x3), (4, .int x4), (5, .int x5)] → W p l e (RM 2) s m ([.ref (ad 91), .int x1, .int x2, .int x3, .int x4, .int x5] : List Value).toArray below meth c H locs 0 0 (MQ below (va_Qi (fun r σ9 => r = res.2 ∧ σ9 = res.1) (QW D cA ad o) (FA ad s.heap.size)) ([.ref (ad 91), .int x1, .int x2, .int x3, .int x4, .int x5] : List Value).toArray s 0 0 (FA ad s.heap.size)) (F0 m 122 ls []) := by
                            intro nn122
                            induction nn122 with
                            | zero => intro σ v6 H locs ls h hP hS hl; exact absurd (show none = some res from h) nofun
                            | succ nn122 ih122 =>
                              intro σ v6 H locs ls h hP hS hl
                              replace h := (F_X8_copy_122.eq_2 _ _ _ _ _ _ _ _).symm.trans h
                              refine lv_iload hx hb dX8_copy_122 (lv_at hl 0 rfl) ?_
                              refine lv_iload hx hb dX8_copy_124 (lv_at hl 6 rfl) ?_
                              refine lv_icmp_ge (tgt := 184) hx hb dX8_copy_126 (by decide) (fun c_24 => ?_) (fun c_24 => ?_)
                              · replace h := it_t h c_24
                                refine lv_iload hx hb dX8_copy_184 (lv_at hl 6 rfl) ?_
                                exact r_iret C0 X hP hS hr hlk dX8_copy_186 (rt2 h)
                              · replace h := it_f h c_24
                                refine lv_iload_n hx hb dX8_copy_129 rfl (lv_at hl 3 rfl) ?_
                                refine lv_iload hx hb dX8_copy_130 (lv_at hl 5 rfl) ?_
                                refine lv_icmp_le (tgt := 140) hx hb dX8_copy_132 (by decide) (fun c_25 => ?_) (fun c_25 => ?_)
                                · replace h := it_t h c_25
                                  refine lv_iload hx hb dX8_copy_140 (lv_at hl 6 rfl) ?_
                                  refine lv_iconst (v := 1) hx hb dX8_copy_142 (by decide) ?_
                                  refine lv_isub hx hb dX8_copy_143 ?_
                                  refine lv_iload hx hb dX8_copy_144 (lv_at hl 0 rfl) ?_
                                  refine lv_isub hx hb dX8_copy_146 ?_
                                  refine lv_istore (lv' := [(7, .int ((x5 - 1) - v6)), (6, .int v6), (0, .ref (ad 91)), (1, .int x1), (2, .int x2), (3, .int x3), (4, .int x4), (5, .int x5)]) hx hb dX8_copy_147 hl (by decide) rfl (fun ls hl => ?_)
                                  refine lv_aload_n hx hb dX8_copy_149 rfl (lv_at hl 2 rfl) ?_
                                  refine gf_X8_31 C0 X hP 91 (q := 99) ⟨by decide, rfl⟩ (by omega) rfl dX8_copy_150 ?_
                                  refine lv_bipush (v := 100) hx hb dX8_copy_153 (by decide) ?_
                                  refine lv_iload_n hx hb dX8_copy_155 rfl (lv_at hl 5 rfl) ?_
                                  refine lv_imul hx hb dX8_copy_156 ?_
                                  refine lv_iload hx hb dX8_copy_157 (lv_at hl 6 rfl) ?_
                                  refine lv_iadd hx hb dX8_copy_159 ?_
                                  refine lv_iload hx hb dX8_copy_160 (lv_at hl 0 rfl) ?_
                                  refine lv_iadd hx hb dX8_copy_162 ?_
                                  refine lv_aload_n hx hb dX8_copy_163 rfl (lv_at hl 2 rfl) ?_
                                  refine gf_X8_31 C0 X hP 91 (q := 99) ⟨by decide, rfl⟩ (by omega) rfl dX8_copy_164 ?_
                                  refine lv_bipush (v := 100) hx hb dX8_copy_167 (by decide) ?_
                                  refine lv_iload_n hx hb dX8_copy_169 rfl (lv_at hl 3 rfl) ?_
                                  refine lv_imul hx hb dX8_copy_170 ?_
                                  refine lv_iload_n hx hb dX8_copy_171 rfl (lv_at hl 4 rfl) ?_
                                  refine lv_iadd hx hb dX8_copy_172 ?_
                                  refine lv_iload hx hb dX8_copy_173 (lv_at hl 0 rfl) ?_
                                  refine lv_iadd hx hb dX8_copy_175 ?_
                                  obtain ⟨k_26, ek_26, h⟩ := bnd h
                                  replace ek_26 := ix_s ek_26 (by decide)
                                  refine r_ialdN C0 X hP 99 (k := k_26) ⟨by decide, rfl⟩ ek_26.1 ek_26.2 dX8_copy_176 ?_
                                  obtain ⟨k_27, ek_27, h⟩ := bnd h
                                  replace ek_27 := ix_s ek_27 (by decide)
                                  refine r_iastN C0 X hP hS 99 (k := k_27) ⟨by decide, rfl⟩ ek_27.1 ek_27.2 dX8_copy_177 (fun H locs hP hS => ?_)
                                  refine lv_iinc (v := (v6 + 1)) (lv' := [(6, .int (v6 + 1)), (7, .int ((x5 - 1) - v6)), (0, .ref (ad 91)), (1, .int x1), (2, .int x2), (3, .int x3), (4, .int x4), (5, .int x5)]) hx hb dX8_copy_178 hl (k := 1) rfl rfl (by decide) rfl (fun ls hl => ?_)
                                  refine lv_goto (tgt := 122) hx hb dX8_copy_181 (by decide) ?_
                                  exact ih122 (stm σ 99 k_27 (σ 99 k_26)) (v6 + 1) _ _ ls  h hP hS (lv_sub hl [0, 2, 3, 4, 5, 6, 7] rfl)
                                · replace h := it_f h c_25
                                  refine lv_iload hx hb dX8_copy_135 (lv_at hl 0 rfl) ?_
                                  refine lv_goto (tgt := 147) hx hb dX8_copy_137 (by decide) ?_
                                  refine lv_istore (lv' := [(7, .int v6), (6, .int v6), (0, .ref (ad 91)), (1, .int x1), (2, .int x2), (3, .int x3), (4, .int x4), (5, .int x5)]) hx hb dX8_copy_147 hl (by decide) rfl (fun ls hl => ?_)
                                  refine lv_aload_n hx hb dX8_copy_149 rfl (lv_at hl 2 rfl) ?_
                                  refine gf_X8_31 C0 X hP 91 (q := 99) ⟨by decide, rfl⟩ (by omega) rfl dX8_copy_150 ?_
                                  refine lv_bipush (v := 100) hx hb dX8_copy_153 (by decide) ?_
                                  refine lv_iload_n hx hb dX8_copy_155 rfl (lv_at hl 5 rfl) ?_
                                  refine lv_imul hx hb dX8_copy_156 ?_
                                  refine lv_iload hx hb dX8_copy_157 (lv_at hl 6 rfl) ?_
                                  refine lv_iadd hx hb dX8_copy_159 ?_
                                  refine lv_iload hx hb dX8_copy_160 (lv_at hl 0 rfl) ?_
                                  refine lv_iadd hx hb dX8_copy_162 ?_
                                  refine lv_aload_n hx hb dX8_copy_163 rfl (lv_at hl 2 rfl) ?_
                                  refine gf_X8_31 C0 X hP 91 (q := 99) ⟨by decide, rfl⟩ (by omega) rfl dX8_copy_164 ?_
                                  refine lv_bipush (v := 100) hx hb dX8_copy_167 (by decide) ?_
                                  refine lv_iload_n hx hb dX8_copy_169 rfl (lv_at hl 3 rfl) ?_
                                  refine lv_imul hx hb dX8_copy_170 ?_
                                  refine lv_iload_n hx hb dX8_copy_171 rfl (lv_at hl 4 rfl) ?_
                                  refine lv_iadd hx hb dX8_copy_172 ?_
                                  refine lv_iload hx hb dX8_copy_173 (lv_at hl 0 rfl) ?_
                                  refine lv_iadd hx hb dX8_copy_175 ?_
                                  obtain ⟨k_28, ek_28, h⟩ := bnd h
                                  replace ek_28 := ix_s ek_28 (by decide)
                                  refine r_ialdN C0 X hP 99 (k := k_28) ⟨by decide, rfl⟩ ek_28.1 ek_28.2 dX8_copy_176 ?_
                                  obtain ⟨k_29, ek_29, h⟩ := bnd h
                                  replace ek_29 := ix_s ek_29 (by decide)
                                  refine r_iastN C0 X hP hS 99 (k := k_29) ⟨by decide, rfl⟩ ek_29.1 ek_29.2 dX8_copy_177 (fun H locs hP hS => ?_)
                                  refine lv_iinc (v := (v6 + 1)) (lv' := [(6, .int (v6 + 1)), (7, .int v6), (0, .ref (ad 91)), (1, .int x1), (2, .int x2), (3, .int x3), (4, .int x4), (5, .int x5)]) hx hb dX8_copy_178 hl (k := 1) rfl rfl (by decide) rfl (fun ls hl => ?_)
                                  refine lv_goto (tgt := 122) hx hb dX8_copy_181 (by decide) ?_
                                  exact ih122 (stm σ 99 k_29 (σ 99 k_28)) (v6 + 1) _ _ ls  h hP hS (lv_sub hl [0, 2, 3, 4, 5, 6, 7] rfl)
                          exact lp_23 FU σ 0 _ _ ls  h hP hS (lv_sub hl [0, 1, 2, 3, 4, 5, 6] rfl)
                        · replace h := it_f h c_22
                          refine lv_bipush (v := (-13)) hx hb dX8_copy_116 (by decide) ?_
                          exact r_iret C0 X hP hS hr hlk dX8_copy_118 (rt2 h)
              · replace h := it_f h c_15
                refine lv_bipush (v := (-12)) hx hb dX8_copy_72 (by decide) ?_
                exact r_iret C0 X hP hS hr hlk dX8_copy_74 (rt2 h)
        · replace h := it_t h c_8
          refine lv_bipush (v := (-11)) hx hb dX8_copy_34 (by decide) ?_
          exact r_iret C0 X hP hS hr hlk dX8_copy_36 (rt2 h)
    · replace h := it_t h c_4
      refine lv_iconst (v := (-1)) hx hb dX8_copy_14 (by decide) ?_
      exact r_iret C0 X hP hS hr hlk dX8_copy_15 (rt2 h)
def bB_cX8_words : Nat := 0xac0101b82e1b2500b42a2e1b2200b42a1200a71c0700991c3d8900b61b2a
theorem yB_cX8_words : BYS cX8_words 30 bB_cX8_words := BYS_of (by decide +kernel)
theorem dX8_words_0 : decode cX8_words 0 = .ok (.aload_n 0, 1) := D_42 yB_cX8_words rfl rfl
theorem dX8_words_1 : decode cX8_words 1 = .ok (.iload_n 1, 1) := D_27 yB_cX8_words rfl rfl
theorem dX8_words_2 : decode cX8_words 2 = .ok (.invokevirtual 137, 3) := D_182 yB_cX8_words rfl rfl rfl
theorem dX8_words_5 : decode cX8_words 5 = .ok (.istore_n 2, 1) := D_61 yB_cX8_words rfl rfl
theorem dX8_words_6 : decode cX8_words 6 = .ok (.iload_n 2, 1) := D_28 yB_cX8_words rfl rfl
theorem dX8_words_7 : decode cX8_words 7 = .ok (.ifCond .eq 7, 3) := D_153 yB_cX8_words rfl rfl (sg_p (m := 32768) (N := 7) rfl rfl rfl)
theorem dX8_words_10 : decode cX8_words 10 = .ok (.iload_n 2, 1) := D_28 yB_cX8_words rfl rfl
theorem dX8_words_11 : decode cX8_words 11 = .ok (.goto 18, 3) := D_167 yB_cX8_words rfl rfl (sg_p (m := 32768) (N := 18) rfl rfl rfl)
theorem dX8_words_14 : decode cX8_words 14 = .ok (.aload_n 0, 1) := D_42 yB_cX8_words rfl rfl
theorem dX8_words_15 : decode cX8_words 15 = .ok (.getfield 34, 3) := D_180 yB_cX8_words rfl rfl rfl
theorem dX8_words_18 : decode cX8_words 18 = .ok (.iload_n 1, 1) := D_27 yB_cX8_words rfl rfl
theorem dX8_words_19 : decode cX8_words 19 = .ok (.iaload, 1) := D_46 yB_cX8_words rfl rfl
theorem dX8_words_20 : decode cX8_words 20 = .ok (.aload_n 0, 1) := D_42 yB_cX8_words rfl rfl
theorem dX8_words_21 : decode cX8_words 21 = .ok (.getfield 37, 3) := D_180 yB_cX8_words rfl rfl rfl
theorem dX8_words_24 : decode cX8_words 24 = .ok (.iload_n 1, 1) := D_27 yB_cX8_words rfl rfl
theorem dX8_words_25 : decode cX8_words 25 = .ok (.iaload, 1) := D_46 yB_cX8_words rfl rfl
theorem dX8_words_26 : decode cX8_words 26 = .ok (.invokestatic 257, 3) := D_184 yB_cX8_words rfl rfl rfl
theorem dX8_words_29 : decode cX8_words 29 = .ok (.ireturn, 1) := D_172 yB_cX8_words rfl rfl
def F_X8_words (σ : Mem) (x1 : Int32) : Option (Int32) := (F_X8_wrongRule σ x1).bind fun r_1 => if r_1 = 0 then ((ix 8 x1).bind fun k_3 => (ix 8 x1).bind fun k_4 => (F_X8_wordsBy σ (σ 100 k_3) (σ 101 k_4)).bind fun r_5 => some r_5) else (some r_1)
set_option maxHeartbeats 4000000 in
set_option maxRecDepth 100000 in
theorem c_X8_words (l : Launch) (D : va_G) (cA : Nat → ClassId) (ad : Nat → Nat) (o : Int64) (σ : Mem) (x1 : Int32)  (res : Int32) (h : F_X8_words σ x1 = some res) (sz : Nat) : Met l yX8_words (WY yX8_words cX8_words 3 (some .int)) (RM 3) (va_Pc [.ref (ad 91), .int x1] (PW D cA ad o σ sz)) (va_Qi (fun r σ9 => r = res ∧ σ9 = σ) (QW D cA ad o) (FA ad sz)) 0 0 (FA ad sz) := by
  refine ct_of (own := RX8) (k := 3) (Qf := va_Qi (fun r σ9 => r = res ∧ σ9 = σ) (QW D cA ad o)) rfl (by decide) (Nat.le_of_ble_eq_true rfl) (fun p e s m below meth c ls C0 X hr hlk hP hl => ?_) sz
  have hS : va_S (FA ad s.heap.size) s.heap s.heap [] := va_S.rf
  have hl : lv_has ls 3 [(0, .ref (ad 91)), (1, .int x1)] := hl
  obtain ⟨hx, hb, hml, hown, hts⟩ := id C0
  unfold F_X8_words at h
  refine lv_aload_n hx hb dX8_words_0 rfl (lv_at hl 0 rfl) ?_
  refine lv_iload_n hx hb dX8_words_1 rfl (lv_at hl 1 rfl) ?_
  obtain ⟨r_1, er_1, h⟩ := bnd h
  refine r_ci X hS (r_runV (As := [.int x1]) (rest := []) C0 X hP L_X8_137 (fun sz => c_X8_wrongRule l D cA ad o σ x1  r_1 er_1 sz) (show 91 < 106 ∧ kd 91 = (8, 24) from ⟨by decide, rfl⟩).1 (show 91 < 106 ∧ kd 91 = (8, 24) from ⟨by decide, rfl⟩).2 (by decide) rfl ⟨Nat.le_of_ble_eq_true rfl, Nat.le_of_ble_eq_true rfl⟩ rfl hl.1 rfl (Nat.le_of_ble_eq_true rfl) dX8_words_2 ⟨Nat.zero_le _, Nat.zero_le _⟩) (fun r9 σ9 H locs hw hP hS => ?_)
  rw [hw.2] at hP
  rw [hw.1]
  refine lv_istore_n (lv' := [(2, .int r_1), (0, .ref (ad 91)), (1, .int x1)]) hx hb dX8_words_5 rfl hl (by decide) rfl (fun ls hl => ?_)
  refine lv_iload_n hx hb dX8_words_6 rfl (lv_at hl 0 rfl) ?_
  refine lv_if_eq (tgt := 14) hx hb dX8_words_7 (by decide) (fun c_2 => ?_) (fun c_2 => ?_)
  · replace h := it_t h c_2
    refine lv_aload_n hx hb dX8_words_14 rfl (lv_at hl 1 rfl) ?_
    refine gf_X8_34 C0 X hP 91 (q := 100) ⟨by decide, rfl⟩ (by omega) rfl dX8_words_15 ?_
    refine lv_iload_n hx hb dX8_words_18 rfl (lv_at hl 2 rfl) ?_
    obtain ⟨k_3, ek_3, h⟩ := bnd h
    replace ek_3 := ix_s ek_3 (by decide)
    refine r_ialdN C0 X hP 100 (k := k_3) ⟨by decide, rfl⟩ ek_3.1 ek_3.2 dX8_words_19 ?_
    refine lv_aload_n hx hb dX8_words_20 rfl (lv_at hl 1 rfl) ?_
    refine gf_X8_37 C0 X hP 91 (q := 101) ⟨by decide, rfl⟩ (by omega) rfl dX8_words_21 ?_
    refine lv_iload_n hx hb dX8_words_24 rfl (lv_at hl 2 rfl) ?_
    obtain ⟨k_4, ek_4, h⟩ := bnd h
    replace ek_4 := ix_s ek_4 (by decide)
    refine r_ialdN C0 X hP 101 (k := k_4) ⟨by decide, rfl⟩ ek_4.1 ek_4.2 dX8_words_25 ?_
    obtain ⟨r_5, er_5, h⟩ := bnd h
    refine r_ci X hS (r_runS (As := [.int (σ 100 k_3), .int (σ 101 k_4)]) (rest := []) C0 X hP L_X8_257 (fun sz => c_X8_wordsBy l D cA ad o σ (σ 100 k_3) (σ 101 k_4)  r_5 er_5 sz) ⟨Nat.le_of_ble_eq_true rfl, Nat.le_of_ble_eq_true rfl⟩ rfl hl.1 rfl (Nat.le_of_ble_eq_true rfl) dX8_words_26 ⟨Nat.zero_le _, Nat.zero_le _⟩) (fun r9 σ9 H locs hw hP hS => ?_)
    rw [hw.2] at hP
    rw [hw.1]
    exact r_iret C0 X hP hS hr hlk dX8_words_29 ⟨Option.some.inj h, rfl⟩
  · replace h := it_f h c_2
    refine lv_iload_n hx hb dX8_words_10 rfl (lv_at hl 0 rfl) ?_
    refine lv_goto (tgt := 29) hx hb dX8_words_11 (by decide) ?_
    exact r_iret C0 X hP hS hr hlk dX8_words_29 ⟨Option.some.inj h, rfl⟩
def bB_cX8_toss : Nat := 0xac1d0400a7600101b81d0415c800111000a00804151700a7601d64100a00a0061004152500a7f11008009a1d07009f06041504362e1b2200b42a3e2e1b2500b42aac1c0500991c3d8900b61b2a
theorem yB_cX8_toss : BYS cX8_toss 77 bB_cX8_toss := BYS_of (by decide +kernel)
theorem dX8_toss_0 : decode cX8_toss 0 = .ok (.aload_n 0, 1) := D_42 yB_cX8_toss rfl rfl
theorem dX8_toss_1 : decode cX8_toss 1 = .ok (.iload_n 1, 1) := D_27 yB_cX8_toss rfl rfl
theorem dX8_toss_2 : decode cX8_toss 2 = .ok (.invokevirtual 137, 3) := D_182 yB_cX8_toss rfl rfl rfl
theorem dX8_toss_5 : decode cX8_toss 5 = .ok (.istore_n 2, 1) := D_61 yB_cX8_toss rfl rfl
theorem dX8_toss_6 : decode cX8_toss 6 = .ok (.iload_n 2, 1) := D_28 yB_cX8_toss rfl rfl
theorem dX8_toss_7 : decode cX8_toss 7 = .ok (.ifCond .eq 5, 3) := D_153 yB_cX8_toss rfl rfl (sg_p (m := 32768) (N := 5) rfl rfl rfl)
theorem dX8_toss_10 : decode cX8_toss 10 = .ok (.iload_n 2, 1) := D_28 yB_cX8_toss rfl rfl
theorem dX8_toss_11 : decode cX8_toss 11 = .ok (.ireturn, 1) := D_172 yB_cX8_toss rfl rfl
theorem dX8_toss_12 : decode cX8_toss 12 = .ok (.aload_n 0, 1) := D_42 yB_cX8_toss rfl rfl
theorem dX8_toss_13 : decode cX8_toss 13 = .ok (.getfield 37, 3) := D_180 yB_cX8_toss rfl rfl rfl
theorem dX8_toss_16 : decode cX8_toss 16 = .ok (.iload_n 1, 1) := D_27 yB_cX8_toss rfl rfl
theorem dX8_toss_17 : decode cX8_toss 17 = .ok (.iaload, 1) := D_46 yB_cX8_toss rfl rfl
theorem dX8_toss_18 : decode cX8_toss 18 = .ok (.istore_n 3, 1) := D_62 yB_cX8_toss rfl rfl
theorem dX8_toss_19 : decode cX8_toss 19 = .ok (.aload_n 0, 1) := D_42 yB_cX8_toss rfl rfl
theorem dX8_toss_20 : decode cX8_toss 20 = .ok (.getfield 34, 3) := D_180 yB_cX8_toss rfl rfl rfl
theorem dX8_toss_23 : decode cX8_toss 23 = .ok (.iload_n 1, 1) := D_27 yB_cX8_toss rfl rfl
theorem dX8_toss_24 : decode cX8_toss 24 = .ok (.iaload, 1) := D_46 yB_cX8_toss rfl rfl
theorem dX8_toss_25 : decode cX8_toss 25 = .ok (.istore 4, 2) := D_54 yB_cX8_toss rfl rfl rfl
theorem dX8_toss_27 : decode cX8_toss 27 = .ok (.iload 4, 2) := D_21 yB_cX8_toss rfl rfl rfl
theorem dX8_toss_29 : decode cX8_toss 29 = .ok (.iconst 3, 1) := D_6 yB_cX8_toss rfl rfl
theorem dX8_toss_30 : decode cX8_toss 30 = .ok (.if_icmp .eq 7, 3) := D_159 yB_cX8_toss rfl rfl (sg_p (m := 32768) (N := 7) rfl rfl rfl)
theorem dX8_toss_33 : decode cX8_toss 33 = .ok (.iload_n 3, 1) := D_29 yB_cX8_toss rfl rfl
theorem dX8_toss_34 : decode cX8_toss 34 = .ok (.ifCond .ne 8, 3) := D_154 yB_cX8_toss rfl rfl (sg_p (m := 32768) (N := 8) rfl rfl rfl)
theorem dX8_toss_37 : decode cX8_toss 37 = .ok (.bipush (-15), 2) := D_16 yB_cX8_toss rfl rfl (sg_n (m := 128) (N := 15) rfl rfl rfl)
theorem dX8_toss_39 : decode cX8_toss 39 = .ok (.goto 37, 3) := D_167 yB_cX8_toss rfl rfl (sg_p (m := 32768) (N := 37) rfl rfl rfl)
theorem dX8_toss_42 : decode cX8_toss 42 = .ok (.iload 4, 2) := D_21 yB_cX8_toss rfl rfl rfl
theorem dX8_toss_44 : decode cX8_toss 44 = .ok (.bipush 6, 2) := D_16 yB_cX8_toss rfl rfl (sg_p (m := 128) (N := 6) rfl rfl rfl)
theorem dX8_toss_46 : decode cX8_toss 46 = .ok (.if_icmp .ne 10, 3) := D_160 yB_cX8_toss rfl rfl (sg_p (m := 32768) (N := 10) rfl rfl rfl)
theorem dX8_toss_49 : decode cX8_toss 49 = .ok (.bipush 100, 2) := D_16 yB_cX8_toss rfl rfl (sg_p (m := 128) (N := 100) rfl rfl rfl)
theorem dX8_toss_51 : decode cX8_toss 51 = .ok (.iload_n 3, 1) := D_29 yB_cX8_toss rfl rfl
theorem dX8_toss_52 : decode cX8_toss 52 = .ok (.iadd, 1) := D_96 yB_cX8_toss rfl rfl
theorem dX8_toss_53 : decode cX8_toss 53 = .ok (.goto 23, 3) := D_167 yB_cX8_toss rfl rfl (sg_p (m := 32768) (N := 23) rfl rfl rfl)
theorem dX8_toss_56 : decode cX8_toss 56 = .ok (.iload 4, 2) := D_21 yB_cX8_toss rfl rfl rfl
theorem dX8_toss_58 : decode cX8_toss 58 = .ok (.iconst 5, 1) := D_8 yB_cX8_toss rfl rfl
theorem dX8_toss_59 : decode cX8_toss 59 = .ok (.if_icmp .ne 16, 3) := D_160 yB_cX8_toss rfl rfl (sg_p (m := 32768) (N := 16) rfl rfl rfl)
theorem dX8_toss_62 : decode cX8_toss 62 = .ok (.sipush 200, 3) := D_17 yB_cX8_toss rfl rfl (sg_p (m := 32768) (N := 200) rfl rfl rfl)
theorem dX8_toss_65 : decode cX8_toss 65 = .ok (.iload 4, 2) := D_21 yB_cX8_toss rfl rfl rfl
theorem dX8_toss_67 : decode cX8_toss 67 = .ok (.iload_n 3, 1) := D_29 yB_cX8_toss rfl rfl
theorem dX8_toss_68 : decode cX8_toss 68 = .ok (.invokestatic 257, 3) := D_184 yB_cX8_toss rfl rfl rfl
theorem dX8_toss_71 : decode cX8_toss 71 = .ok (.iadd, 1) := D_96 yB_cX8_toss rfl rfl
theorem dX8_toss_72 : decode cX8_toss 72 = .ok (.goto 4, 3) := D_167 yB_cX8_toss rfl rfl (sg_p (m := 32768) (N := 4) rfl rfl rfl)
theorem dX8_toss_75 : decode cX8_toss 75 = .ok (.iload_n 3, 1) := D_29 yB_cX8_toss rfl rfl
theorem dX8_toss_76 : decode cX8_toss 76 = .ok (.ireturn, 1) := D_172 yB_cX8_toss rfl rfl
def F_X8_toss (σ : Mem) (x1 : Int32) : Option (Int32) := (F_X8_wrongRule σ x1).bind fun r_1 => if r_1 = 0 then ((ix 8 x1).bind fun k_3 => (ix 8 x1).bind fun k_4 => if (σ 100 k_4) = 3 then (some (-15)) else (if (σ 101 k_3) = 0 then (some (-15)) else (if (σ 100 k_4) = 6 then (some (100 + (σ 101 k_3))) else (if (σ 100 k_4) = 5 then ((F_X8_wordsBy σ (σ 100 k_4) (σ 101 k_3)).bind fun r_9 => some (200 + r_9)) else (some (σ 101 k_3)))))) else (some r_1)
set_option maxHeartbeats 4000000 in
set_option maxRecDepth 100000 in
theorem c_X8_toss (l : Launch) (D : va_G) (cA : Nat → ClassId) (ad : Nat → Nat) (o : Int64) (σ : Mem) (x1 : Int32)  (res : Int32) (h : F_X8_toss σ x1 = some res) (sz : Nat) : Met l yX8_toss (WY yX8_toss cX8_toss 5 (some .int)) (RM 3) (va_Pc [.ref (ad 91), .int x1] (PW D cA ad o σ sz)) (va_Qi (fun r σ9 => r = res ∧ σ9 = σ) (QW D cA ad o) (FA ad sz)) 0 0 (FA ad sz) := by
  refine ct_of (own := RX8) (k := 3) (Qf := va_Qi (fun r σ9 => r = res ∧ σ9 = σ) (QW D cA ad o)) rfl (by decide) (Nat.le_of_ble_eq_true rfl) (fun p e s m below meth c ls C0 X hr hlk hP hl => ?_) sz
  have hS : va_S (FA ad s.heap.size) s.heap s.heap [] := va_S.rf
  have hl : lv_has ls 5 [(0, .ref (ad 91)), (1, .int x1)] := hl
  obtain ⟨hx, hb, hml, hown, hts⟩ := id C0
  unfold F_X8_toss at h
  refine lv_aload_n hx hb dX8_toss_0 rfl (lv_at hl 0 rfl) ?_
  refine lv_iload_n hx hb dX8_toss_1 rfl (lv_at hl 1 rfl) ?_
  obtain ⟨r_1, er_1, h⟩ := bnd h
  refine r_ci X hS (r_runV (As := [.int x1]) (rest := []) C0 X hP L_X8_137 (fun sz => c_X8_wrongRule l D cA ad o σ x1  r_1 er_1 sz) (show 91 < 106 ∧ kd 91 = (8, 24) from ⟨by decide, rfl⟩).1 (show 91 < 106 ∧ kd 91 = (8, 24) from ⟨by decide, rfl⟩).2 (by decide) rfl ⟨Nat.le_of_ble_eq_true rfl, Nat.le_of_ble_eq_true rfl⟩ rfl hl.1 rfl (Nat.le_of_ble_eq_true rfl) dX8_toss_2 ⟨Nat.zero_le _, Nat.zero_le _⟩) (fun r9 σ9 H locs hw hP hS => ?_)
  rw [hw.2] at hP
  rw [hw.1]
  refine lv_istore_n (lv' := [(2, .int r_1), (0, .ref (ad 91)), (1, .int x1)]) hx hb dX8_toss_5 rfl hl (by decide) rfl (fun ls hl => ?_)
  refine lv_iload_n hx hb dX8_toss_6 rfl (lv_at hl 0 rfl) ?_
  refine lv_if_eq (tgt := 12) hx hb dX8_toss_7 (by decide) (fun c_2 => ?_) (fun c_2 => ?_)
  · replace h := it_t h c_2
    refine lv_aload_n hx hb dX8_toss_12 rfl (lv_at hl 1 rfl) ?_
    refine gf_X8_37 C0 X hP 91 (q := 101) ⟨by decide, rfl⟩ (by omega) rfl dX8_toss_13 ?_
    refine lv_iload_n hx hb dX8_toss_16 rfl (lv_at hl 2 rfl) ?_
    obtain ⟨k_3, ek_3, h⟩ := bnd h
    replace ek_3 := ix_s ek_3 (by decide)
    refine r_ialdN C0 X hP 101 (k := k_3) ⟨by decide, rfl⟩ ek_3.1 ek_3.2 dX8_toss_17 ?_
    refine lv_istore_n (lv' := [(3, .int (σ 101 k_3)), (2, .int r_1), (0, .ref (ad 91)), (1, .int x1)]) hx hb dX8_toss_18 rfl hl (by decide) rfl (fun ls hl => ?_)
    refine lv_aload_n hx hb dX8_toss_19 rfl (lv_at hl 2 rfl) ?_
    refine gf_X8_34 C0 X hP 91 (q := 100) ⟨by decide, rfl⟩ (by omega) rfl dX8_toss_20 ?_
    refine lv_iload_n hx hb dX8_toss_23 rfl (lv_at hl 3 rfl) ?_
    obtain ⟨k_4, ek_4, h⟩ := bnd h
    replace ek_4 := ix_s ek_4 (by decide)
    refine r_ialdN C0 X hP 100 (k := k_4) ⟨by decide, rfl⟩ ek_4.1 ek_4.2 dX8_toss_24 ?_
    refine lv_istore (lv' := [(4, .int (σ 100 k_4)), (3, .int (σ 101 k_3)), (2, .int r_1), (0, .ref (ad 91)), (1, .int x1)]) hx hb dX8_toss_25 hl (by decide) rfl (fun ls hl => ?_)
    refine lv_iload hx hb dX8_toss_27 (lv_at hl 0 rfl) ?_
    refine lv_iconst (v := 3) hx hb dX8_toss_29 (by decide) ?_
    refine lv_icmp_eq (tgt := 37) hx hb dX8_toss_30 (by decide) (fun c_5 => ?_) (fun c_5 => ?_)
    · replace h := it_t h c_5
      refine lv_bipush (v := (-15)) hx hb dX8_toss_37 (by decide) ?_
      refine lv_goto (tgt := 76) hx hb dX8_toss_39 (by decide) ?_
      exact r_iret C0 X hP hS hr hlk dX8_toss_76 ⟨Option.some.inj h, rfl⟩
    · replace h := it_f h c_5
      refine lv_iload_n hx hb dX8_toss_33 rfl (lv_at hl 1 rfl) ?_
      refine lv_if_ne (tgt := 42) hx hb dX8_toss_34 (by decide) (fun c_6 => ?_) (fun c_6 => ?_)
      · replace h := it_f h c_6
        refine lv_iload hx hb dX8_toss_42 (lv_at hl 0 rfl) ?_
        refine lv_bipush (v := 6) hx hb dX8_toss_44 (by decide) ?_
        refine lv_icmp_ne (tgt := 56) hx hb dX8_toss_46 (by decide) (fun c_7 => ?_) (fun c_7 => ?_)
        · replace h := it_f h c_7
          refine lv_iload hx hb dX8_toss_56 (lv_at hl 0 rfl) ?_
          refine lv_iconst (v := 5) hx hb dX8_toss_58 (by decide) ?_
          refine lv_icmp_ne (tgt := 75) hx hb dX8_toss_59 (by decide) (fun c_8 => ?_) (fun c_8 => ?_)
          · replace h := it_f h c_8
            refine lv_iload_n hx hb dX8_toss_75 rfl (lv_at hl 1 rfl) ?_
            exact r_iret C0 X hP hS hr hlk dX8_toss_76 ⟨Option.some.inj h, rfl⟩
          · replace h := it_t h c_8
            refine lv_sipush (v := 200) hx hb dX8_toss_62 (by decide) ?_
            refine lv_iload hx hb dX8_toss_65 (lv_at hl 0 rfl) ?_
            refine lv_iload_n hx hb dX8_toss_67 rfl (lv_at hl 1 rfl) ?_
            obtain ⟨r_9, er_9, h⟩ := bnd h
            refine r_ci X hS (r_runS (As := [.int (σ 100 k_4), .int (σ 101 k_3)]) (rest := [.int 200]) C0 X hP L_X8_257 (fun sz => c_X8_wordsBy l D cA ad o σ (σ 100 k_4) (σ 101 k_3)  r_9 er_9 sz) ⟨Nat.le_of_ble_eq_true rfl, Nat.le_of_ble_eq_true rfl⟩ rfl hl.1 rfl (Nat.le_of_ble_eq_true rfl) dX8_toss_68 ⟨Nat.zero_le _, Nat.zero_le _⟩) (fun r9 σ9 H locs hw hP hS => ?_)
            rw [hw.2] at hP
            rw [hw.1]
            refine lv_iadd hx hb dX8_toss_71 ?_
            refine lv_goto (tgt := 76) hx hb dX8_toss_72 (by decide) ?_
            exact r_iret C0 X hP hS hr hlk dX8_toss_76 ⟨Option.some.inj h, rfl⟩
        · replace h := it_t h c_7
          refine lv_bipush (v := 100) hx hb dX8_toss_49 (by decide) ?_
          refine lv_iload_n hx hb dX8_toss_51 rfl (lv_at hl 1 rfl) ?_
          refine lv_iadd hx hb dX8_toss_52 ?_
          refine lv_goto (tgt := 76) hx hb dX8_toss_53 (by decide) ?_
          exact r_iret C0 X hP hS hr hlk dX8_toss_76 ⟨Option.some.inj h, rfl⟩
      · replace h := it_t h c_6
        refine lv_bipush (v := (-15)) hx hb dX8_toss_37 (by decide) ?_
        refine lv_goto (tgt := 76) hx hb dX8_toss_39 (by decide) ?_
        exact r_iret C0 X hP hS hr hlk dX8_toss_76 ⟨Option.some.inj h, rfl⟩
  · replace h := it_f h c_2
    refine lv_iload_n hx hb dX8_toss_10 rfl (lv_at hl 0 rfl) ?_
    exact r_iret C0 X hP hS hr hlk dX8_toss_11 ⟨Option.some.inj h, rfl⟩
