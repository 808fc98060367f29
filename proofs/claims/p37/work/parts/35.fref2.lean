def bB_cX8_placeAt : Nat := 0xacfc10d9ffa70103843d60030400a72e60681d060e102a0e00a22e032a1d1cac1d0500a01b1c2600a32e032a1d3e033d03
theorem yB_cX8_placeAt : BYS cX8_placeAt 49 bB_cX8_placeAt := BYS_of (by decide +kernel)
theorem dX8_placeAt_0 : decode cX8_placeAt 0 = .ok (.iconst 0, 1) := D_3 yB_cX8_placeAt rfl rfl
theorem dX8_placeAt_1 : decode cX8_placeAt 1 = .ok (.istore_n 2, 1) := D_61 yB_cX8_placeAt rfl rfl
theorem dX8_placeAt_2 : decode cX8_placeAt 2 = .ok (.iconst 0, 1) := D_3 yB_cX8_placeAt rfl rfl
theorem dX8_placeAt_3 : decode cX8_placeAt 3 = .ok (.istore_n 3, 1) := D_62 yB_cX8_placeAt rfl rfl
theorem dX8_placeAt_4 : decode cX8_placeAt 4 = .ok (.iload_n 3, 1) := D_29 yB_cX8_placeAt rfl rfl
theorem dX8_placeAt_5 : decode cX8_placeAt 5 = .ok (.aload_n 0, 1) := D_42 yB_cX8_placeAt rfl rfl
theorem dX8_placeAt_6 : decode cX8_placeAt 6 = .ok (.iconst 0, 1) := D_3 yB_cX8_placeAt rfl rfl
theorem dX8_placeAt_7 : decode cX8_placeAt 7 = .ok (.iaload, 1) := D_46 yB_cX8_placeAt rfl rfl
theorem dX8_placeAt_8 : decode cX8_placeAt 8 = .ok (.if_icmp .gt 38, 3) := D_163 yB_cX8_placeAt rfl rfl (sg_p (m := 32768) (N := 38) rfl rfl rfl)
theorem dX8_placeAt_11 : decode cX8_placeAt 11 = .ok (.iload_n 2, 1) := D_28 yB_cX8_placeAt rfl rfl
theorem dX8_placeAt_12 : decode cX8_placeAt 12 = .ok (.iload_n 1, 1) := D_27 yB_cX8_placeAt rfl rfl
theorem dX8_placeAt_13 : decode cX8_placeAt 13 = .ok (.if_icmp .ne 5, 3) := D_160 yB_cX8_placeAt rfl rfl (sg_p (m := 32768) (N := 5) rfl rfl rfl)
theorem dX8_placeAt_16 : decode cX8_placeAt 16 = .ok (.iload_n 3, 1) := D_29 yB_cX8_placeAt rfl rfl
theorem dX8_placeAt_17 : decode cX8_placeAt 17 = .ok (.ireturn, 1) := D_172 yB_cX8_placeAt rfl rfl
theorem dX8_placeAt_18 : decode cX8_placeAt 18 = .ok (.iload_n 2, 1) := D_28 yB_cX8_placeAt rfl rfl
theorem dX8_placeAt_19 : decode cX8_placeAt 19 = .ok (.iload_n 3, 1) := D_29 yB_cX8_placeAt rfl rfl
theorem dX8_placeAt_20 : decode cX8_placeAt 20 = .ok (.aload_n 0, 1) := D_42 yB_cX8_placeAt rfl rfl
theorem dX8_placeAt_21 : decode cX8_placeAt 21 = .ok (.iconst 0, 1) := D_3 yB_cX8_placeAt rfl rfl
theorem dX8_placeAt_22 : decode cX8_placeAt 22 = .ok (.iaload, 1) := D_46 yB_cX8_placeAt rfl rfl
theorem dX8_placeAt_23 : decode cX8_placeAt 23 = .ok (.if_icmp .ge 14, 3) := D_162 yB_cX8_placeAt rfl rfl (sg_p (m := 32768) (N := 14) rfl rfl rfl)
theorem dX8_placeAt_26 : decode cX8_placeAt 26 = .ok (.aload_n 0, 1) := D_42 yB_cX8_placeAt rfl rfl
theorem dX8_placeAt_27 : decode cX8_placeAt 27 = .ok (.bipush 14, 2) := D_16 yB_cX8_placeAt rfl rfl (sg_p (m := 128) (N := 14) rfl rfl rfl)
theorem dX8_placeAt_29 : decode cX8_placeAt 29 = .ok (.iconst 3, 1) := D_6 yB_cX8_placeAt rfl rfl
theorem dX8_placeAt_30 : decode cX8_placeAt 30 = .ok (.iload_n 3, 1) := D_29 yB_cX8_placeAt rfl rfl
theorem dX8_placeAt_31 : decode cX8_placeAt 31 = .ok (.imul, 1) := D_104 yB_cX8_placeAt rfl rfl
theorem dX8_placeAt_32 : decode cX8_placeAt 32 = .ok (.iadd, 1) := D_96 yB_cX8_placeAt rfl rfl
theorem dX8_placeAt_33 : decode cX8_placeAt 33 = .ok (.iaload, 1) := D_46 yB_cX8_placeAt rfl rfl
theorem dX8_placeAt_34 : decode cX8_placeAt 34 = .ok (.goto 4, 3) := D_167 yB_cX8_placeAt rfl rfl (sg_p (m := 32768) (N := 4) rfl rfl rfl)
theorem dX8_placeAt_37 : decode cX8_placeAt 37 = .ok (.iconst 0, 1) := D_3 yB_cX8_placeAt rfl rfl
theorem dX8_placeAt_38 : decode cX8_placeAt 38 = .ok (.iadd, 1) := D_96 yB_cX8_placeAt rfl rfl
theorem dX8_placeAt_39 : decode cX8_placeAt 39 = .ok (.istore_n 2, 1) := D_61 yB_cX8_placeAt rfl rfl
theorem dX8_placeAt_40 : decode cX8_placeAt 40 = .ok (.iinc 3 1, 3) := D_132 yB_cX8_placeAt rfl rfl rfl (sg_p (m := 128) (N := 1) rfl rfl rfl)
theorem dX8_placeAt_43 : decode cX8_placeAt 43 = .ok (.goto (-39), 3) := D_167 yB_cX8_placeAt rfl rfl (sg_n (m := 32768) (N := 39) rfl rfl rfl)
theorem dX8_placeAt_46 : decode cX8_placeAt 46 = .ok (.bipush (-4), 2) := D_16 yB_cX8_placeAt rfl rfl (sg_n (m := 128) (N := 4) rfl rfl rfl)
theorem dX8_placeAt_48 : decode cX8_placeAt 48 = .ok (.ireturn, 1) := D_172 yB_cX8_placeAt rfl rfl
def F_X8_placeAt_4 (σ : Mem) (a1 : Nat) (x2 : Int32)  : Nat → Int32 → Int32 → Option (Int32)
  | 0, _, _ => none
  | nn + 1, v3, v2 => if (σ a1 0) < v3 then (some (-4)) else (if v2 = x2 then (some v3) else (if (σ a1 0) ≤ v3 then (F_X8_placeAt_4 σ a1 x2 nn (v3 + 1) (v2 + 0)) else ((ix 121 (14 + (3 * v3))).bind fun k_5 => F_X8_placeAt_4 σ a1 x2 nn (v3 + 1) (v2 + (σ a1 k_5)))))
def F_X8_placeAt (σ : Mem) (a1 : Nat) (x2 : Int32) : Option (Int32) := F_X8_placeAt_4 σ a1 x2 FU 0 0
set_option maxHeartbeats 4000000 in
set_option maxRecDepth 100000 in
theorem c_X8_placeAt (l : Launch) (D : va_G) (cA : Nat → ClassId) (ad : Nat → Nat) (o : Int64) (σ : Mem) (a1 : Nat) (x2 : Int32) (ha1 : a1 < 106 ∧ kd a1 = (9, 121)) (res : Int32) (h : F_X8_placeAt σ a1 x2 = some res) (sz : Nat) : Met l yX8_placeAt (WY yX8_placeAt cX8_placeAt 4 (some .int)) (RM 0) (va_Pc [.ref (ad a1), .int x2] (PW D cA ad o σ sz)) (va_Qi (fun r σ9 => r = res ∧ σ9 = σ) (QW D cA ad o) (FA ad sz)) 0 0 (FA ad sz) := by
  refine ct_of (own := RX8) (k := 0) (Qf := va_Qi (fun r σ9 => r = res ∧ σ9 = σ) (QW D cA ad o)) rfl (by decide) (Nat.le_of_ble_eq_true rfl) (fun p e s m below meth c ls C0 X hr hlk hP hl => ?_) sz
  have hS : va_S (FA ad s.heap.size) s.heap s.heap [] := va_S.rf
  have hl : lv_has ls 4 [(0, .ref (ad a1)), (1, .int x2)] := hl
  obtain ⟨hx, hb, hml, hown, hts⟩ := id C0
  unfold F_X8_placeAt at h
  refine lv_iconst (v := 0) hx hb dX8_placeAt_0 (by decide) ?_
  refine lv_istore_n (lv' := [(2, .int 0), (0, .ref (ad a1)), (1, .int x2)]) hx hb dX8_placeAt_1 rfl hl (by decide) rfl (fun ls hl => ?_)
  refine lv_iconst (v := 0) hx hb dX8_placeAt_2 (by decide) ?_
  refine lv_istore_n (lv' := [(3, .int 0), (2, .int 0), (0, .ref (ad a1)), (1, .int x2)]) hx hb dX8_placeAt_3 rfl hl (by decide) rfl (fun ls hl => ?_)
  have lp_1 : ∀ (nn4 : Nat) (v3 : Int32) (v2 : Int32) (H : Heap) (locs : List Loc) (ls : Array Slot), F_X8_placeAt_4 σ a1 x2 nn4 v3 v2 = some res → WP D cA ad o σ H → va_S (FA ad s.heap.size) s.heap H locs → lv_has ls 4 [(3, .int v3), (2, .int v2), (0, .ref (ad a1)), (1, .int x2)] → W p l e (RM 0) s m ([.ref (ad a1), .int x2] : List Value).toArray below meth c H locs 0 0 (MQ below (va_Qi (fun r σ9 => r = res ∧ σ9 = σ) (QW D cA ad o) (FA ad s.heap.size)) ([.ref (ad a1), .int x2] : List Value).toArray s 0 0 (FA ad s.heap.size)) (F0 m 4 ls []) := by
    intro nn4
    induction nn4 with
    | zero => intro v3 v2 H locs ls h hP hS hl; exact absurd (show none = some res from h) nofun
    | succ nn4 ih4 =>
      intro v3 v2 H locs ls h hP hS hl
      replace h := (F_X8_placeAt_4.eq_2 _ _ _ _ _ _).symm.trans h
      refine lv_iload_n hx hb dX8_placeAt_4 rfl (lv_at hl 0 rfl) ?_
      refine lv_aload_n hx hb dX8_placeAt_5 rfl (lv_at hl 2 rfl) ?_
      refine lv_iconst (v := 0) hx hb dX8_placeAt_6 (by decide) ?_
      refine r_ialdN C0 X hP a1 (k := 0) ha1 rfl (by decide) dX8_placeAt_7 ?_
      refine lv_icmp_gt (tgt := 46) hx hb dX8_placeAt_8 (by decide) (fun c_2 => ?_) (fun c_2 => ?_)
      · replace h := it_t h c_2
        refine lv_bipush (v := (-4)) hx hb dX8_placeAt_46 (by decide) ?_
        exact r_iret C0 X hP hS hr hlk dX8_placeAt_48 ⟨Option.some.inj h, rfl⟩
      · replace h := it_f h c_2
        refine lv_iload_n hx hb dX8_placeAt_11 rfl (lv_at hl 1 rfl) ?_
        refine lv_iload_n hx hb dX8_placeAt_12 rfl (lv_at hl 3 rfl) ?_
        refine lv_icmp_ne (tgt := 18) hx hb dX8_placeAt_13 (by decide) (fun c_3 => ?_) (fun c_3 => ?_)
        · replace h := it_f h c_3
          refine lv_iload_n hx hb dX8_placeAt_18 rfl (lv_at hl 1 rfl) ?_
          refine lv_iload_n hx hb dX8_placeAt_19 rfl (lv_at hl 0 rfl) ?_
          refine lv_aload_n hx hb dX8_placeAt_20 rfl (lv_at hl 2 rfl) ?_
          refine lv_iconst (v := 0) hx hb dX8_placeAt_21 (by decide) ?_
          refine r_ialdN C0 X hP a1 (k := 0) ha1 rfl (by decide) dX8_placeAt_22 ?_
          refine lv_icmp_ge (tgt := 37) hx hb dX8_placeAt_23 (by decide) (fun c_4 => ?_) (fun c_4 => ?_)
          · replace h := it_t h c_4
            refine lv_iconst (v := 0) hx hb dX8_placeAt_37 (by decide) ?_
            refine lv_iadd hx hb dX8_placeAt_38 ?_
            refine lv_istore_n (lv' := [(2, .int (v2 + 0)), (3, .int v3), (0, .ref (ad a1)), (1, .int x2)]) hx hb dX8_placeAt_39 rfl hl (by decide) rfl (fun ls hl => ?_)
            refine lv_iinc (v := (v3 + 1)) (lv' := [(3, .int (v3 + 1)), (2, .int (v2 + 0)), (0, .ref (ad a1)), (1, .int x2)]) hx hb dX8_placeAt_40 hl (k := 1) rfl rfl (by decide) rfl (fun ls hl => ?_)
            refine lv_goto (tgt := 4) hx hb dX8_placeAt_43 (by decide) ?_
            exact ih4 (v3 + 1) (v2 + 0) _ _ ls  h hP hS (lv_sub hl [0, 1, 2, 3] rfl)
          · replace h := it_f h c_4
            refine lv_aload_n hx hb dX8_placeAt_26 rfl (lv_at hl 2 rfl) ?_
            refine lv_bipush (v := 14) hx hb dX8_placeAt_27 (by decide) ?_
            refine lv_iconst (v := 3) hx hb dX8_placeAt_29 (by decide) ?_
            refine lv_iload_n hx hb dX8_placeAt_30 rfl (lv_at hl 0 rfl) ?_
            refine lv_imul hx hb dX8_placeAt_31 ?_
            refine lv_iadd hx hb dX8_placeAt_32 ?_
            obtain ⟨k_5, ek_5, h⟩ := bnd h
            replace ek_5 := ix_s ek_5 (by decide)
            refine r_ialdN C0 X hP a1 (k := k_5) ha1 ek_5.1 ek_5.2 dX8_placeAt_33 ?_
            refine lv_goto (tgt := 38) hx hb dX8_placeAt_34 (by decide) ?_
            refine lv_iadd hx hb dX8_placeAt_38 ?_
            refine lv_istore_n (lv' := [(2, .int (v2 + (σ a1 k_5))), (3, .int v3), (0, .ref (ad a1)), (1, .int x2)]) hx hb dX8_placeAt_39 rfl hl (by decide) rfl (fun ls hl => ?_)
            refine lv_iinc (v := (v3 + 1)) (lv' := [(3, .int (v3 + 1)), (2, .int (v2 + (σ a1 k_5))), (0, .ref (ad a1)), (1, .int x2)]) hx hb dX8_placeAt_40 hl (k := 1) rfl rfl (by decide) rfl (fun ls hl => ?_)
            refine lv_goto (tgt := 4) hx hb dX8_placeAt_43 (by decide) ?_
            exact ih4 (v3 + 1) (v2 + (σ a1 k_5)) _ _ ls  h hP hS (lv_sub hl [0, 1, 2, 3] rfl)
        · replace h := it_t h c_3
          refine lv_iload_n hx hb dX8_placeAt_16 rfl (lv_at hl 0 rfl) ?_
          exact r_iret C0 X hP hS hr hlk dX8_placeAt_17 ⟨Option.some.inj h, rfl⟩
  exact lp_1 FU 0 0 _ _ ls  h hP hS (lv_sub hl [0, 1, 2, 3] rfl)
def bB_cX8_isOn : Nat := 0xac030400a70407009b8200b8081b2a
theorem yB_cX8_isOn : BYS cX8_isOn 15 bB_cX8_isOn := BYS_of (by decide +kernel)
theorem dX8_isOn_0 : decode cX8_isOn 0 = .ok (.aload_n 0, 1) := D_42 yB_cX8_isOn rfl rfl
theorem dX8_isOn_1 : decode cX8_isOn 1 = .ok (.iload_n 1, 1) := D_27 yB_cX8_isOn rfl rfl
theorem dX8_isOn_2 : decode cX8_isOn 2 = .ok (.iconst 5, 1) := D_8 yB_cX8_isOn rfl rfl
theorem dX8_isOn_3 : decode cX8_isOn 3 = .ok (.invokestatic 130, 3) := D_184 yB_cX8_isOn rfl rfl rfl
theorem dX8_isOn_6 : decode cX8_isOn 6 = .ok (.ifCond .lt 7, 3) := D_155 yB_cX8_isOn rfl rfl (sg_p (m := 32768) (N := 7) rfl rfl rfl)
theorem dX8_isOn_9 : decode cX8_isOn 9 = .ok (.iconst 1, 1) := D_4 yB_cX8_isOn rfl rfl
theorem dX8_isOn_10 : decode cX8_isOn 10 = .ok (.goto 4, 3) := D_167 yB_cX8_isOn rfl rfl (sg_p (m := 32768) (N := 4) rfl rfl rfl)
theorem dX8_isOn_13 : decode cX8_isOn 13 = .ok (.iconst 0, 1) := D_3 yB_cX8_isOn rfl rfl
theorem dX8_isOn_14 : decode cX8_isOn 14 = .ok (.ireturn, 1) := D_172 yB_cX8_isOn rfl rfl
def F_X8_isOn (σ : Mem) (a1 : Nat) (x2 : Int32) : Option (Int32) := (F_X8_get σ a1 x2 5).bind fun r_1 => if r_1 < 0 then (some 0) else (some 1)
set_option maxHeartbeats 4000000 in
set_option maxRecDepth 100000 in
theorem c_X8_isOn (l : Launch) (D : va_G) (cA : Nat → ClassId) (ad : Nat → Nat) (o : Int64) (σ : Mem) (a1 : Nat) (x2 : Int32) (ha1 : a1 < 106 ∧ kd a1 = (9, 121)) (res : Int32) (h : F_X8_isOn σ a1 x2 = some res) (sz : Nat) : Met l yX8_isOn (WY yX8_isOn cX8_isOn 2 (some .boolean)) (RM 1) (va_Pc [.ref (ad a1), .int x2] (PW D cA ad o σ sz)) (va_Qi (fun r σ9 => r = res ∧ σ9 = σ) (QW D cA ad o) (FA ad sz)) 0 0 (FA ad sz) := by
  refine ct_of (own := RX8) (k := 1) (Qf := va_Qi (fun r σ9 => r = res ∧ σ9 = σ) (QW D cA ad o)) rfl (by decide) (Nat.le_of_ble_eq_true rfl) (fun p e s m below meth c ls C0 X hr hlk hP hl => ?_) sz
  have hS : va_S (FA ad s.heap.size) s.heap s.heap [] := va_S.rf
  have hl : lv_has ls 2 [(0, .ref (ad a1)), (1, .int x2)] := hl
  obtain ⟨hx, hb, hml, hown, hts⟩ := id C0
  unfold F_X8_isOn at h
  refine lv_aload_n hx hb dX8_isOn_0 rfl (lv_at hl 0 rfl) ?_
  refine lv_iload_n hx hb dX8_isOn_1 rfl (lv_at hl 1 rfl) ?_
  refine lv_iconst (v := 5) hx hb dX8_isOn_2 (by decide) ?_
  obtain ⟨r_1, er_1, h⟩ := bnd h
  refine r_ci X hS (r_runS (As := [.ref (ad a1), .int x2, .int 5]) (rest := []) C0 X hP L_X8_130 (fun sz => c_X8_get l D cA ad o σ a1 x2 5 ha1 r_1 er_1 sz) ⟨Nat.le_of_ble_eq_true rfl, Nat.le_of_ble_eq_true rfl⟩ rfl hl.1 rfl (Nat.le_of_ble_eq_true rfl) dX8_isOn_3 ⟨Nat.zero_le _, Nat.zero_le _⟩) (fun r9 σ9 H locs hw hP hS => ?_)
  rw [hw.2] at hP
  rw [hw.1]
  refine lv_if_lt (tgt := 13) hx hb dX8_isOn_6 (by decide) (fun c_2 => ?_) (fun c_2 => ?_)
  · replace h := it_t h c_2
    refine lv_iconst (v := 0) hx hb dX8_isOn_13 (by decide) ?_
    exact r_zret C0 X hP hS hr hlk dX8_isOn_14 (Or.inl rfl) ⟨Option.some.inj h, rfl⟩
  · replace h := it_f h c_2
    refine lv_iconst (v := 1) hx hb dX8_isOn_9 (by decide) ?_
    refine lv_goto (tgt := 14) hx hb dX8_isOn_10 (by decide) ?_
    exact r_zret C0 X hP hS hr hlk dX8_isOn_14 (Or.inr rfl) ⟨Option.some.inj h, rfl⟩
def bB_cX8_goal : Nat := 0xac030400a78d00b82a0a009e8200b8031b2a
theorem yB_cX8_goal : BYS cX8_goal 18 bB_cX8_goal := BYS_of (by decide +kernel)
theorem dX8_goal_0 : decode cX8_goal 0 = .ok (.aload_n 0, 1) := D_42 yB_cX8_goal rfl rfl
theorem dX8_goal_1 : decode cX8_goal 1 = .ok (.iload_n 1, 1) := D_27 yB_cX8_goal rfl rfl
theorem dX8_goal_2 : decode cX8_goal 2 = .ok (.iconst 0, 1) := D_3 yB_cX8_goal rfl rfl
theorem dX8_goal_3 : decode cX8_goal 3 = .ok (.invokestatic 130, 3) := D_184 yB_cX8_goal rfl rfl rfl
theorem dX8_goal_6 : decode cX8_goal 6 = .ok (.ifCond .le 10, 3) := D_158 yB_cX8_goal rfl rfl (sg_p (m := 32768) (N := 10) rfl rfl rfl)
theorem dX8_goal_9 : decode cX8_goal 9 = .ok (.aload_n 0, 1) := D_42 yB_cX8_goal rfl rfl
theorem dX8_goal_10 : decode cX8_goal 10 = .ok (.invokestatic 141, 3) := D_184 yB_cX8_goal rfl rfl rfl
theorem dX8_goal_13 : decode cX8_goal 13 = .ok (.goto 4, 3) := D_167 yB_cX8_goal rfl rfl (sg_p (m := 32768) (N := 4) rfl rfl rfl)
theorem dX8_goal_16 : decode cX8_goal 16 = .ok (.iconst 0, 1) := D_3 yB_cX8_goal rfl rfl
theorem dX8_goal_17 : decode cX8_goal 17 = .ok (.ireturn, 1) := D_172 yB_cX8_goal rfl rfl
def F_X8_goal (σ : Mem) (a1 : Nat) (x2 : Int32) : Option (Int32) := (F_X8_get σ a1 x2 0).bind fun r_1 => if r_1 ≤ 0 then (some 0) else ((F_X8_endOf σ a1).bind fun r_3 => some r_3)
set_option maxHeartbeats 4000000 in
set_option maxRecDepth 100000 in
theorem c_X8_goal (l : Launch) (D : va_G) (cA : Nat → ClassId) (ad : Nat → Nat) (o : Int64) (σ : Mem) (a1 : Nat) (x2 : Int32) (ha1 : a1 < 106 ∧ kd a1 = (9, 121)) (res : Int32) (h : F_X8_goal σ a1 x2 = some res) (sz : Nat) : Met l yX8_goal (WY yX8_goal cX8_goal 2 (some .int)) (RM 2) (va_Pc [.ref (ad a1), .int x2] (PW D cA ad o σ sz)) (va_Qi (fun r σ9 => r = res ∧ σ9 = σ) (QW D cA ad o) (FA ad sz)) 0 0 (FA ad sz) := by
  refine ct_of (own := RX8) (k := 2) (Qf := va_Qi (fun r σ9 => r = res ∧ σ9 = σ) (QW D cA ad o)) rfl (by decide) (Nat.le_of_ble_eq_true rfl) (fun p e s m below meth c ls C0 X hr hlk hP hl => ?_) sz
  have hS : va_S (FA ad s.heap.size) s.heap s.heap [] := va_S.rf
  have hl : lv_has ls 2 [(0, .ref (ad a1)), (1, .int x2)] := hl
  obtain ⟨hx, hb, hml, hown, hts⟩ := id C0
  unfold F_X8_goal at h
  refine lv_aload_n hx hb dX8_goal_0 rfl (lv_at hl 0 rfl) ?_
  refine lv_iload_n hx hb dX8_goal_1 rfl (lv_at hl 1 rfl) ?_
  refine lv_iconst (v := 0) hx hb dX8_goal_2 (by decide) ?_
  obtain ⟨r_1, er_1, h⟩ := bnd h
  refine r_ci X hS (r_runS (As := [.ref (ad a1), .int x2, .int 0]) (rest := []) C0 X hP L_X8_130 (fun sz => c_X8_get l D cA ad o σ a1 x2 0 ha1 r_1 er_1 sz) ⟨Nat.le_of_ble_eq_true rfl, Nat.le_of_ble_eq_true rfl⟩ rfl hl.1 rfl (Nat.le_of_ble_eq_true rfl) dX8_goal_3 ⟨Nat.zero_le _, Nat.zero_le _⟩) (fun r9 σ9 H locs hw hP hS => ?_)
  rw [hw.2] at hP
  rw [hw.1]
  refine lv_if_le (tgt := 16) hx hb dX8_goal_6 (by decide) (fun c_2 => ?_) (fun c_2 => ?_)
  · replace h := it_t h c_2
    refine lv_iconst (v := 0) hx hb dX8_goal_16 (by decide) ?_
    exact r_iret C0 X hP hS hr hlk dX8_goal_17 ⟨Option.some.inj h, rfl⟩
  · replace h := it_f h c_2
    refine lv_aload_n hx hb dX8_goal_9 rfl (lv_at hl 0 rfl) ?_
    obtain ⟨r_3, er_3, h⟩ := bnd h
    refine r_ci X hS (r_runS (As := [.ref (ad a1)]) (rest := []) C0 X hP L_X8_141 (fun sz => c_X8_endOf l D cA ad o σ a1 ha1 r_3 er_3 sz) ⟨Nat.le_of_ble_eq_true rfl, Nat.le_of_ble_eq_true rfl⟩ rfl hl.1 rfl (Nat.le_of_ble_eq_true rfl) dX8_goal_10 ⟨Nat.zero_le _, Nat.zero_le _⟩) (fun r9 σ9 H locs hw hP hS => ?_)
    rw [hw.2] at hP
    rw [hw.1]
    refine lv_goto (tgt := 17) hx hb dX8_goal_13 (by decide) ?_
    exact r_iret C0 X hP hS hr hlk dX8_goal_17 ⟨Option.some.inj h, rfl⟩
def bB_cX8_origin : Nat := 0xac8d00b82a0700a70307009e8200b8031b2a
theorem yB_cX8_origin : BYS cX8_origin 18 bB_cX8_origin := BYS_of (by decide +kernel)
theorem dX8_origin_0 : decode cX8_origin 0 = .ok (.aload_n 0, 1) := D_42 yB_cX8_origin rfl rfl
theorem dX8_origin_1 : decode cX8_origin 1 = .ok (.iload_n 1, 1) := D_27 yB_cX8_origin rfl rfl
theorem dX8_origin_2 : decode cX8_origin 2 = .ok (.iconst 0, 1) := D_3 yB_cX8_origin rfl rfl
theorem dX8_origin_3 : decode cX8_origin 3 = .ok (.invokestatic 130, 3) := D_184 yB_cX8_origin rfl rfl rfl
theorem dX8_origin_6 : decode cX8_origin 6 = .ok (.ifCond .le 7, 3) := D_158 yB_cX8_origin rfl rfl (sg_p (m := 32768) (N := 7) rfl rfl rfl)
theorem dX8_origin_9 : decode cX8_origin 9 = .ok (.iconst 0, 1) := D_3 yB_cX8_origin rfl rfl
theorem dX8_origin_10 : decode cX8_origin 10 = .ok (.goto 7, 3) := D_167 yB_cX8_origin rfl rfl (sg_p (m := 32768) (N := 7) rfl rfl rfl)
theorem dX8_origin_13 : decode cX8_origin 13 = .ok (.aload_n 0, 1) := D_42 yB_cX8_origin rfl rfl
theorem dX8_origin_14 : decode cX8_origin 14 = .ok (.invokestatic 141, 3) := D_184 yB_cX8_origin rfl rfl rfl
theorem dX8_origin_17 : decode cX8_origin 17 = .ok (.ireturn, 1) := D_172 yB_cX8_origin rfl rfl
def F_X8_origin (σ : Mem) (a1 : Nat) (x2 : Int32) : Option (Int32) := (F_X8_get σ a1 x2 0).bind fun r_1 => if r_1 ≤ 0 then ((F_X8_endOf σ a1).bind fun r_3 => some r_3) else (some 0)
set_option maxHeartbeats 4000000 in
set_option maxRecDepth 100000 in
theorem c_X8_origin (l : Launch) (D : va_G) (cA : Nat → ClassId) (ad : Nat → Nat) (o : Int64) (σ : Mem) (a1 : Nat) (x2 : Int32) (ha1 : a1 < 106 ∧ kd a1 = (9, 121)) (res : Int32) (h : F_X8_origin σ a1 x2 = some res) (sz : Nat) : Met l yX8_origin (WY yX8_origin cX8_origin 2 (some .int)) (RM 2) (va_Pc [.ref (ad a1), .int x2] (PW D cA ad o σ sz)) (va_Qi (fun r σ9 => r = res ∧ σ9 = σ) (QW D cA ad o) (FA ad sz)) 0 0 (FA ad sz) := by
  refine ct_of (own := RX8) (k := 2) (Qf := va_Qi (fun r σ9 => r = res ∧ σ9 = σ) (QW D cA ad o)) rfl (by decide) (Nat.le_of_ble_eq_true rfl) (fun p e s m below meth c ls C0 X hr hlk hP hl => ?_) sz
  have hS : va_S (FA ad s.heap.size) s.heap s.heap [] := va_S.rf
  have hl : lv_has ls 2 [(0, .ref (ad a1)), (1, .int x2)] := hl
  obtain ⟨hx, hb, hml, hown, hts⟩ := id C0
  unfold F_X8_origin at h
  refine lv_aload_n hx hb dX8_origin_0 rfl (lv_at hl 0 rfl) ?_
  refine lv_iload_n hx hb dX8_origin_1 rfl (lv_at hl 1 rfl) ?_
  refine lv_iconst (v := 0) hx hb dX8_origin_2 (by decide) ?_
  obtain ⟨r_1, er_1, h⟩ := bnd h
  refine r_ci X hS (r_runS (As := [.ref (ad a1), .int x2, .int 0]) (rest := []) C0 X hP L_X8_130 (fun sz => c_X8_get l D cA ad o σ a1 x2 0 ha1 r_1 er_1 sz) ⟨Nat.le_of_ble_eq_true rfl, Nat.le_of_ble_eq_true rfl⟩ rfl hl.1 rfl (Nat.le_of_ble_eq_true rfl) dX8_origin_3 ⟨Nat.zero_le _, Nat.zero_le _⟩) (fun r9 σ9 H locs hw hP hS => ?_)
  rw [hw.2] at hP
  rw [hw.1]
  refine lv_if_le (tgt := 13) hx hb dX8_origin_6 (by decide) (fun c_2 => ?_) (fun c_2 => ?_)
  · replace h := it_t h c_2
    refine lv_aload_n hx hb dX8_origin_13 rfl (lv_at hl 0 rfl) ?_
    obtain ⟨r_3, er_3, h⟩ := bnd h
    refine r_ci X hS (r_runS (As := [.ref (ad a1)]) (rest := []) C0 X hP L_X8_141 (fun sz => c_X8_endOf l D cA ad o σ a1 ha1 r_3 er_3 sz) ⟨Nat.le_of_ble_eq_true rfl, Nat.le_of_ble_eq_true rfl⟩ rfl hl.1 rfl (Nat.le_of_ble_eq_true rfl) dX8_origin_14 ⟨Nat.zero_le _, Nat.zero_le _⟩) (fun r9 σ9 H locs hw hP hS => ?_)
    rw [hw.2] at hP
    rw [hw.1]
    exact r_iret C0 X hP hS hr hlk dX8_origin_17 ⟨Option.some.inj h, rfl⟩
  · replace h := it_f h c_2
    refine lv_iconst (v := 0) hx hb dX8_origin_9 (by decide) ?_
    refine lv_goto (tgt := 17) hx hb dX8_origin_10 (by decide) ?_
    exact r_iret C0 X hP hS hr hlk dX8_origin_17 ⟨Option.some.inj h, rfl⟩
def bB_cX8_cartsAt : Nat := 0xac1ce4ffa70103843d60030400a7040700a01b8200b8081d2a1c1b00a22e042a1d3e033d03
theorem yB_cX8_cartsAt : BYS cX8_cartsAt 37 bB_cX8_cartsAt := BYS_of (by decide +kernel)
theorem dX8_cartsAt_0 : decode cX8_cartsAt 0 = .ok (.iconst 0, 1) := D_3 yB_cX8_cartsAt rfl rfl
theorem dX8_cartsAt_1 : decode cX8_cartsAt 1 = .ok (.istore_n 2, 1) := D_61 yB_cX8_cartsAt rfl rfl
theorem dX8_cartsAt_2 : decode cX8_cartsAt 2 = .ok (.iconst 0, 1) := D_3 yB_cX8_cartsAt rfl rfl
theorem dX8_cartsAt_3 : decode cX8_cartsAt 3 = .ok (.istore_n 3, 1) := D_62 yB_cX8_cartsAt rfl rfl
theorem dX8_cartsAt_4 : decode cX8_cartsAt 4 = .ok (.iload_n 3, 1) := D_29 yB_cX8_cartsAt rfl rfl
theorem dX8_cartsAt_5 : decode cX8_cartsAt 5 = .ok (.aload_n 0, 1) := D_42 yB_cX8_cartsAt rfl rfl
theorem dX8_cartsAt_6 : decode cX8_cartsAt 6 = .ok (.iconst 1, 1) := D_4 yB_cX8_cartsAt rfl rfl
theorem dX8_cartsAt_7 : decode cX8_cartsAt 7 = .ok (.iaload, 1) := D_46 yB_cX8_cartsAt rfl rfl
theorem dX8_cartsAt_8 : decode cX8_cartsAt 8 = .ok (.if_icmp .ge 27, 3) := D_162 yB_cX8_cartsAt rfl rfl (sg_p (m := 32768) (N := 27) rfl rfl rfl)
theorem dX8_cartsAt_11 : decode cX8_cartsAt 11 = .ok (.iload_n 2, 1) := D_28 yB_cX8_cartsAt rfl rfl
theorem dX8_cartsAt_12 : decode cX8_cartsAt 12 = .ok (.aload_n 0, 1) := D_42 yB_cX8_cartsAt rfl rfl
theorem dX8_cartsAt_13 : decode cX8_cartsAt 13 = .ok (.iload_n 3, 1) := D_29 yB_cX8_cartsAt rfl rfl
theorem dX8_cartsAt_14 : decode cX8_cartsAt 14 = .ok (.iconst 5, 1) := D_8 yB_cX8_cartsAt rfl rfl
theorem dX8_cartsAt_15 : decode cX8_cartsAt 15 = .ok (.invokestatic 130, 3) := D_184 yB_cX8_cartsAt rfl rfl rfl
theorem dX8_cartsAt_18 : decode cX8_cartsAt 18 = .ok (.iload_n 1, 1) := D_27 yB_cX8_cartsAt rfl rfl
theorem dX8_cartsAt_19 : decode cX8_cartsAt 19 = .ok (.if_icmp .ne 7, 3) := D_160 yB_cX8_cartsAt rfl rfl (sg_p (m := 32768) (N := 7) rfl rfl rfl)
theorem dX8_cartsAt_22 : decode cX8_cartsAt 22 = .ok (.iconst 1, 1) := D_4 yB_cX8_cartsAt rfl rfl
theorem dX8_cartsAt_23 : decode cX8_cartsAt 23 = .ok (.goto 4, 3) := D_167 yB_cX8_cartsAt rfl rfl (sg_p (m := 32768) (N := 4) rfl rfl rfl)
theorem dX8_cartsAt_26 : decode cX8_cartsAt 26 = .ok (.iconst 0, 1) := D_3 yB_cX8_cartsAt rfl rfl
theorem dX8_cartsAt_27 : decode cX8_cartsAt 27 = .ok (.iadd, 1) := D_96 yB_cX8_cartsAt rfl rfl
theorem dX8_cartsAt_28 : decode cX8_cartsAt 28 = .ok (.istore_n 2, 1) := D_61 yB_cX8_cartsAt rfl rfl
theorem dX8_cartsAt_29 : decode cX8_cartsAt 29 = .ok (.iinc 3 1, 3) := D_132 yB_cX8_cartsAt rfl rfl rfl (sg_p (m := 128) (N := 1) rfl rfl rfl)
theorem dX8_cartsAt_32 : decode cX8_cartsAt 32 = .ok (.goto (-28), 3) := D_167 yB_cX8_cartsAt rfl rfl (sg_n (m := 32768) (N := 28) rfl rfl rfl)
theorem dX8_cartsAt_35 : decode cX8_cartsAt 35 = .ok (.iload_n 2, 1) := D_28 yB_cX8_cartsAt rfl rfl
theorem dX8_cartsAt_36 : decode cX8_cartsAt 36 = .ok (.ireturn, 1) := D_172 yB_cX8_cartsAt rfl rfl
def F_X8_cartsAt_4 (σ : Mem) (a1 : Nat) (x2 : Int32)  : Nat → Int32 → Int32 → Option (Int32)
  | 0, _, _ => none
  | nn + 1, v3, v2 => if (σ a1 1) ≤ v3 then (some v2) else ((F_X8_get σ a1 v3 5).bind fun r_3 => if r_3 = x2 then (F_X8_cartsAt_4 σ a1 x2 nn (v3 + 1) (v2 + 1)) else (F_X8_cartsAt_4 σ a1 x2 nn (v3 + 1) (v2 + 0)))
def F_X8_cartsAt (σ : Mem) (a1 : Nat) (x2 : Int32) : Option (Int32) := F_X8_cartsAt_4 σ a1 x2 FU 0 0
set_option maxHeartbeats 4000000 in
set_option maxRecDepth 100000 in
theorem c_X8_cartsAt (l : Launch) (D : va_G) (cA : Nat → ClassId) (ad : Nat → Nat) (o : Int64) (σ : Mem) (a1 : Nat) (x2 : Int32) (ha1 : a1 < 106 ∧ kd a1 = (9, 121)) (res : Int32) (h : F_X8_cartsAt σ a1 x2 = some res) (sz : Nat) : Met l yX8_cartsAt (WY yX8_cartsAt cX8_cartsAt 4 (some .int)) (RM 1) (va_Pc [.ref (ad a1), .int x2] (PW D cA ad o σ sz)) (va_Qi (fun r σ9 => r = res ∧ σ9 = σ) (QW D cA ad o) (FA ad sz)) 0 0 (FA ad sz) := by
  refine ct_of (own := RX8) (k := 1) (Qf := va_Qi (fun r σ9 => r = res ∧ σ9 = σ) (QW D cA ad o)) rfl (by decide) (Nat.le_of_ble_eq_true rfl) (fun p e s m below meth c ls C0 X hr hlk hP hl => ?_) sz
  have hS : va_S (FA ad s.heap.size) s.heap s.heap [] := va_S.rf
  have hl : lv_has ls 4 [(0, .ref (ad a1)), (1, .int x2)] := hl
  obtain ⟨hx, hb, hml, hown, hts⟩ := id C0
  unfold F_X8_cartsAt at h
  refine lv_iconst (v := 0) hx hb dX8_cartsAt_0 (by decide) ?_
  refine lv_istore_n (lv' := [(2, .int 0), (0, .ref (ad a1)), (1, .int x2)]) hx hb dX8_cartsAt_1 rfl hl (by decide) rfl (fun ls hl => ?_)
  refine lv_iconst (v := 0) hx hb dX8_cartsAt_2 (by decide) ?_
  refine lv_istore_n (lv' := [(3, .int 0), (2, .int 0), (0, .ref (ad a1)), (1, .int x2)]) hx hb dX8_cartsAt_3 rfl hl (by decide) rfl (fun ls hl => ?_)
  have lp_1 : ∀ (nn4 : Nat) (v3 : Int32) (v2 : Int32) (H : Heap) (locs : List Loc) (ls : Array Slot), F_X8_cartsAt_4 σ a1 x2 nn4 v3 v2 = some res → WP D cA ad o σ H → va_S (FA ad s.heap.size) s.heap H locs → lv_has ls 4 [(3, .int v3), (2, .int v2), (0, .ref (ad a1)), (1, .int x2)] → W p l e (RM 1) s m ([.ref (ad a1), .int x2] : List Value).toArray below meth c H locs 0 0 (MQ below (va_Qi (fun r σ9 => r = res ∧ σ9 = σ) (QW D cA ad o) (FA ad s.heap.size)) ([.ref (ad a1), .int x2] : List Value).toArray s 0 0 (FA ad s.heap.size)) (F0 m 4 ls []) := by
    intro nn4
    induction nn4 with
    | zero => intro v3 v2 H locs ls h hP hS hl; exact absurd (show none = some res from h) nofun
    | succ nn4 ih4 =>
      intro v3 v2 H locs ls h hP hS hl
      replace h := (F_X8_cartsAt_4.eq_2 _ _ _ _ _ _).symm.trans h
      refine lv_iload_n hx hb dX8_cartsAt_4 rfl (lv_at hl 0 rfl) ?_
      refine lv_aload_n hx hb dX8_cartsAt_5 rfl (lv_at hl 2 rfl) ?_
      refine lv_iconst (v := 1) hx hb dX8_cartsAt_6 (by decide) ?_
      refine r_ialdN C0 X hP a1 (k := 1) ha1 rfl (by decide) dX8_cartsAt_7 ?_
      refine lv_icmp_ge (tgt := 35) hx hb dX8_cartsAt_8 (by decide) (fun c_2 => ?_) (fun c_2 => ?_)
      · replace h := it_t h c_2
        refine lv_iload_n hx hb dX8_cartsAt_35 rfl (lv_at hl 1 rfl) ?_
        exact r_iret C0 X hP hS hr hlk dX8_cartsAt_36 ⟨Option.some.inj h, rfl⟩
      · replace h := it_f h c_2
        refine lv_iload_n hx hb dX8_cartsAt_11 rfl (lv_at hl 1 rfl) ?_
        refine lv_aload_n hx hb dX8_cartsAt_12 rfl (lv_at hl 2 rfl) ?_
        refine lv_iload_n hx hb dX8_cartsAt_13 rfl (lv_at hl 0 rfl) ?_
        refine lv_iconst (v := 5) hx hb dX8_cartsAt_14 (by decide) ?_
        obtain ⟨r_3, er_3, h⟩ := bnd h
        refine r_ci X hS (r_runS (As := [.ref (ad a1), .int v3, .int 5]) (rest := [.int v2]) C0 X hP L_X8_130 (fun sz => c_X8_get l D cA ad o σ a1 v3 5 ha1 r_3 er_3 sz) ⟨Nat.le_of_ble_eq_true rfl, Nat.le_of_ble_eq_true rfl⟩ rfl hl.1 rfl (Nat.le_of_ble_eq_true rfl) dX8_cartsAt_15 ⟨Nat.zero_le _, Nat.zero_le _⟩) (fun r9 σ9 H locs hw hP hS => ?_)
        rw [hw.2] at hP
        rw [hw.1]
        refine lv_iload_n hx hb dX8_cartsAt_18 rfl (lv_at hl 3 rfl) ?_
        refine lv_icmp_ne (tgt := 26) hx hb dX8_cartsAt_19 (by decide) (fun c_4 => ?_) (fun c_4 => ?_)
        · replace h := it_f h c_4
          refine lv_iconst (v := 0) hx hb dX8_cartsAt_26 (by decide) ?_
          refine lv_iadd hx hb dX8_cartsAt_27 ?_
          refine lv_istore_n (lv' := [(2, .int (v2 + 0)), (3, .int v3), (0, .ref (ad a1)), (1, .int x2)]) hx hb dX8_cartsAt_28 rfl hl (by decide) rfl (fun ls hl => ?_)
          refine lv_iinc (v := (v3 + 1)) (lv' := [(3, .int (v3 + 1)), (2, .int (v2 + 0)), (0, .ref (ad a1)), (1, .int x2)]) hx hb dX8_cartsAt_29 hl (k := 1) rfl rfl (by decide) rfl (fun ls hl => ?_)
          refine lv_goto (tgt := 4) hx hb dX8_cartsAt_32 (by decide) ?_
          exact ih4 (v3 + 1) (v2 + 0) _ _ ls  h hP hS (lv_sub hl [0, 1, 2, 3] rfl)
        · replace h := it_t h c_4
          refine lv_iconst (v := 1) hx hb dX8_cartsAt_22 (by decide) ?_
          refine lv_goto (tgt := 27) hx hb dX8_cartsAt_23 (by decide) ?_
          refine lv_iadd hx hb dX8_cartsAt_27 ?_
          refine lv_istore_n (lv' := [(2, .int (v2 + 1)), (3, .int v3), (0, .ref (ad a1)), (1, .int x2)]) hx hb dX8_cartsAt_28 rfl hl (by decide) rfl (fun ls hl => ?_)
          refine lv_iinc (v := (v3 + 1)) (lv' := [(3, .int (v3 + 1)), (2, .int (v2 + 1)), (0, .ref (ad a1)), (1, .int x2)]) hx hb dX8_cartsAt_29 hl (k := 1) rfl rfl (by decide) rfl (fun ls hl => ?_)
          refine lv_goto (tgt := 4) hx hb dX8_cartsAt_32 (by decide) ?_
          exact ih4 (v3 + 1) (v2 + 1) _ _ ls  h hP hS (lv_sub hl [0, 1, 2, 3] rfl)
  exact lp_1 FU 0 0 _ _ ls  h hP hS (lv_sub hl [0, 1, 2, 3] rfl)
def bB_cX8_hasRoom : Nat := 0xac030400a7040700a22e601c082a0800a70407009c1c9400b81b2aac040500a02e032a1c0a00991c3d9100b81b2a
theorem yB_cX8_hasRoom : BYS cX8_hasRoom 46 bB_cX8_hasRoom := BYS_of (by decide +kernel)
theorem dX8_hasRoom_0 : decode cX8_hasRoom 0 = .ok (.aload_n 0, 1) := D_42 yB_cX8_hasRoom rfl rfl
theorem dX8_hasRoom_1 : decode cX8_hasRoom 1 = .ok (.iload_n 1, 1) := D_27 yB_cX8_hasRoom rfl rfl
theorem dX8_hasRoom_2 : decode cX8_hasRoom 2 = .ok (.invokestatic 145, 3) := D_184 yB_cX8_hasRoom rfl rfl rfl
theorem dX8_hasRoom_5 : decode cX8_hasRoom 5 = .ok (.istore_n 2, 1) := D_61 yB_cX8_hasRoom rfl rfl
theorem dX8_hasRoom_6 : decode cX8_hasRoom 6 = .ok (.iload_n 2, 1) := D_28 yB_cX8_hasRoom rfl rfl
theorem dX8_hasRoom_7 : decode cX8_hasRoom 7 = .ok (.ifCond .eq 10, 3) := D_153 yB_cX8_hasRoom rfl rfl (sg_p (m := 32768) (N := 10) rfl rfl rfl)
theorem dX8_hasRoom_10 : decode cX8_hasRoom 10 = .ok (.iload_n 2, 1) := D_28 yB_cX8_hasRoom rfl rfl
theorem dX8_hasRoom_11 : decode cX8_hasRoom 11 = .ok (.aload_n 0, 1) := D_42 yB_cX8_hasRoom rfl rfl
theorem dX8_hasRoom_12 : decode cX8_hasRoom 12 = .ok (.iconst 0, 1) := D_3 yB_cX8_hasRoom rfl rfl
theorem dX8_hasRoom_13 : decode cX8_hasRoom 13 = .ok (.iaload, 1) := D_46 yB_cX8_hasRoom rfl rfl
theorem dX8_hasRoom_14 : decode cX8_hasRoom 14 = .ok (.if_icmp .ne 5, 3) := D_160 yB_cX8_hasRoom rfl rfl (sg_p (m := 32768) (N := 5) rfl rfl rfl)
theorem dX8_hasRoom_17 : decode cX8_hasRoom 17 = .ok (.iconst 1, 1) := D_4 yB_cX8_hasRoom rfl rfl
theorem dX8_hasRoom_18 : decode cX8_hasRoom 18 = .ok (.ireturn, 1) := D_172 yB_cX8_hasRoom rfl rfl
theorem dX8_hasRoom_19 : decode cX8_hasRoom 19 = .ok (.aload_n 0, 1) := D_42 yB_cX8_hasRoom rfl rfl
theorem dX8_hasRoom_20 : decode cX8_hasRoom 20 = .ok (.iload_n 1, 1) := D_27 yB_cX8_hasRoom rfl rfl
theorem dX8_hasRoom_21 : decode cX8_hasRoom 21 = .ok (.invokestatic 148, 3) := D_184 yB_cX8_hasRoom rfl rfl rfl
theorem dX8_hasRoom_24 : decode cX8_hasRoom 24 = .ok (.iload_n 2, 1) := D_28 yB_cX8_hasRoom rfl rfl
theorem dX8_hasRoom_25 : decode cX8_hasRoom 25 = .ok (.ifCond .ge 7, 3) := D_156 yB_cX8_hasRoom rfl rfl (sg_p (m := 32768) (N := 7) rfl rfl rfl)
theorem dX8_hasRoom_28 : decode cX8_hasRoom 28 = .ok (.iconst 1, 1) := D_4 yB_cX8_hasRoom rfl rfl
theorem dX8_hasRoom_29 : decode cX8_hasRoom 29 = .ok (.goto 8, 3) := D_167 yB_cX8_hasRoom rfl rfl (sg_p (m := 32768) (N := 8) rfl rfl rfl)
theorem dX8_hasRoom_32 : decode cX8_hasRoom 32 = .ok (.aload_n 0, 1) := D_42 yB_cX8_hasRoom rfl rfl
theorem dX8_hasRoom_33 : decode cX8_hasRoom 33 = .ok (.iconst 5, 1) := D_8 yB_cX8_hasRoom rfl rfl
theorem dX8_hasRoom_34 : decode cX8_hasRoom 34 = .ok (.iload_n 2, 1) := D_28 yB_cX8_hasRoom rfl rfl
theorem dX8_hasRoom_35 : decode cX8_hasRoom 35 = .ok (.iadd, 1) := D_96 yB_cX8_hasRoom rfl rfl
theorem dX8_hasRoom_36 : decode cX8_hasRoom 36 = .ok (.iaload, 1) := D_46 yB_cX8_hasRoom rfl rfl
theorem dX8_hasRoom_37 : decode cX8_hasRoom 37 = .ok (.if_icmp .ge 7, 3) := D_162 yB_cX8_hasRoom rfl rfl (sg_p (m := 32768) (N := 7) rfl rfl rfl)
theorem dX8_hasRoom_40 : decode cX8_hasRoom 40 = .ok (.iconst 1, 1) := D_4 yB_cX8_hasRoom rfl rfl
theorem dX8_hasRoom_41 : decode cX8_hasRoom 41 = .ok (.goto 4, 3) := D_167 yB_cX8_hasRoom rfl rfl (sg_p (m := 32768) (N := 4) rfl rfl rfl)
theorem dX8_hasRoom_44 : decode cX8_hasRoom 44 = .ok (.iconst 0, 1) := D_3 yB_cX8_hasRoom rfl rfl
theorem dX8_hasRoom_45 : decode cX8_hasRoom 45 = .ok (.ireturn, 1) := D_172 yB_cX8_hasRoom rfl rfl
def F_X8_hasRoom (σ : Mem) (a1 : Nat) (x2 : Int32) : Option (Int32) := (F_X8_placeAt σ a1 x2).bind fun r_1 => if r_1 = 0 then (some 1) else (if r_1 = (σ a1 0) then (some 1) else ((F_X8_cartsAt σ a1 x2).bind fun r_4 => if 0 ≤ r_1 then ((ix 121 (5 + r_1)).bind fun k_6 => if (σ a1 k_6) ≤ r_4 then (some 0) else (some 1)) else (if 1 ≤ r_4 then (some 0) else (some 1))))
set_option maxHeartbeats 4000000 in
set_option maxRecDepth 100000 in
theorem c_X8_hasRoom (l : Launch) (D : va_G) (cA : Nat → ClassId) (ad : Nat → Nat) (o : Int64) (σ : Mem) (a1 : Nat) (x2 : Int32) (ha1 : a1 < 106 ∧ kd a1 = (9, 121)) (res : Int32) (h : F_X8_hasRoom σ a1 x2 = some res) (sz : Nat) : Met l yX8_hasRoom (WY yX8_hasRoom cX8_hasRoom 3 (some .boolean)) (RM 2) (va_Pc [.ref (ad a1), .int x2] (PW D cA ad o σ sz)) (va_Qi (fun r σ9 => r = res ∧ σ9 = σ) (QW D cA ad o) (FA ad sz)) 0 0 (FA ad sz) := by
  refine ct_of (own := RX8) (k := 2) (Qf := va_Qi (fun r σ9 => r = res ∧ σ9 = σ) (QW D cA ad o)) rfl (by decide) (Nat.le_of_ble_eq_true rfl) (fun p e s m below meth c ls C0 X hr hlk hP hl => ?_) sz
  have hS : va_S (FA ad s.heap.size) s.heap s.heap [] := va_S.rf
  have hl : lv_has ls 3 [(0, .ref (ad a1)), (1, .int x2)] := hl
  obtain ⟨hx, hb, hml, hown, hts⟩ := id C0
  unfold F_X8_hasRoom at h
  refine lv_aload_n hx hb dX8_hasRoom_0 rfl (lv_at hl 0 rfl) ?_
  refine lv_iload_n hx hb dX8_hasRoom_1 rfl (lv_at hl 1 rfl) ?_
  obtain ⟨r_1, er_1, h⟩ := bnd h
  refine r_ci X hS (r_runS (As := [.ref (ad a1), .int x2]) (rest := []) C0 X hP L_X8_145 (fun sz => c_X8_placeAt l D cA ad o σ a1 x2 ha1 r_1 er_1 sz) ⟨Nat.le_of_ble_eq_true rfl, Nat.le_of_ble_eq_true rfl⟩ rfl hl.1 rfl (Nat.le_of_ble_eq_true rfl) dX8_hasRoom_2 ⟨Nat.zero_le _, Nat.zero_le _⟩) (fun r9 σ9 H locs hw hP hS => ?_)
  rw [hw.2] at hP
  rw [hw.1]
  refine lv_istore_n (lv' := [(2, .int r_1), (0, .ref (ad a1)), (1, .int x2)]) hx hb dX8_hasRoom_5 rfl hl (by decide) rfl (fun ls hl => ?_)
  refine lv_iload_n hx hb dX8_hasRoom_6 rfl (lv_at hl 0 rfl) ?_
  refine lv_if_eq (tgt := 17) hx hb dX8_hasRoom_7 (by decide) (fun c_2 => ?_) (fun c_2 => ?_)
  · replace h := it_t h c_2
    refine lv_iconst (v := 1) hx hb dX8_hasRoom_17 (by decide) ?_
    exact r_zret C0 X hP hS hr hlk dX8_hasRoom_18 (Or.inr rfl) ⟨Option.some.inj h, rfl⟩
  · replace h := it_f h c_2
    refine lv_iload_n hx hb dX8_hasRoom_10 rfl (lv_at hl 0 rfl) ?_
    refine lv_aload_n hx hb dX8_hasRoom_11 rfl (lv_at hl 1 rfl) ?_
    refine lv_iconst (v := 0) hx hb dX8_hasRoom_12 (by decide) ?_
    refine r_ialdN C0 X hP a1 (k := 0) ha1 rfl (by decide) dX8_hasRoom_13 ?_
    refine lv_icmp_ne (tgt := 19) hx hb dX8_hasRoom_14 (by decide) (fun c_3 => ?_) (fun c_3 => ?_)
    · replace h := it_f h c_3
      refine lv_aload_n hx hb dX8_hasRoom_19 rfl (lv_at hl 1 rfl) ?_
      refine lv_iload_n hx hb dX8_hasRoom_20 rfl (lv_at hl 2 rfl) ?_
      obtain ⟨r_4, er_4, h⟩ := bnd h
      refine r_ci X hS (r_runS (As := [.ref (ad a1), .int x2]) (rest := []) C0 X hP L_X8_148 (fun sz => c_X8_cartsAt l D cA ad o σ a1 x2 ha1 r_4 er_4 sz) ⟨Nat.le_of_ble_eq_true rfl, Nat.le_of_ble_eq_true rfl⟩ rfl hl.1 rfl (Nat.le_of_ble_eq_true rfl) dX8_hasRoom_21 ⟨Nat.zero_le _, Nat.zero_le _⟩) (fun r9 σ9 H locs hw hP hS => ?_)
      rw [hw.2] at hP
      rw [hw.1]
      refine lv_iload_n hx hb dX8_hasRoom_24 rfl (lv_at hl 0 rfl) ?_
      refine lv_if_ge (tgt := 32) hx hb dX8_hasRoom_25 (by decide) (fun c_5 => ?_) (fun c_5 => ?_)
      · replace h := it_t h c_5
        refine lv_aload_n hx hb dX8_hasRoom_32 rfl (lv_at hl 1 rfl) ?_
        refine lv_iconst (v := 5) hx hb dX8_hasRoom_33 (by decide) ?_
        refine lv_iload_n hx hb dX8_hasRoom_34 rfl (lv_at hl 0 rfl) ?_
        refine lv_iadd hx hb dX8_hasRoom_35 ?_
        obtain ⟨k_6, ek_6, h⟩ := bnd h
        replace ek_6 := ix_s ek_6 (by decide)
        refine r_ialdN C0 X hP a1 (k := k_6) ha1 ek_6.1 ek_6.2 dX8_hasRoom_36 ?_
        refine lv_icmp_ge (tgt := 44) hx hb dX8_hasRoom_37 (by decide) (fun c_7 => ?_) (fun c_7 => ?_)
        · replace h := it_t h c_7
          refine lv_iconst (v := 0) hx hb dX8_hasRoom_44 (by decide) ?_
          exact r_zret C0 X hP hS hr hlk dX8_hasRoom_45 (Or.inl rfl) ⟨Option.some.inj h, rfl⟩
        · replace h := it_f h c_7
          refine lv_iconst (v := 1) hx hb dX8_hasRoom_40 (by decide) ?_
          refine lv_goto (tgt := 45) hx hb dX8_hasRoom_41 (by decide) ?_
          exact r_zret C0 X hP hS hr hlk dX8_hasRoom_45 (Or.inr rfl) ⟨Option.some.inj h, rfl⟩
      · replace h := it_f h c_5
        refine lv_iconst (v := 1) hx hb dX8_hasRoom_28 (by decide) ?_
        refine lv_goto (tgt := 37) hx hb dX8_hasRoom_29 (by decide) ?_
        refine lv_icmp_ge (tgt := 44) hx hb dX8_hasRoom_37 (by decide) (fun c_8 => ?_) (fun c_8 => ?_)
        · replace h := it_t h c_8
          refine lv_iconst (v := 0) hx hb dX8_hasRoom_44 (by decide) ?_
          exact r_zret C0 X hP hS hr hlk dX8_hasRoom_45 (Or.inl rfl) ⟨Option.some.inj h, rfl⟩
        · replace h := it_f h c_8
          refine lv_iconst (v := 1) hx hb dX8_hasRoom_40 (by decide) ?_
          refine lv_goto (tgt := 45) hx hb dX8_hasRoom_41 (by decide) ?_
          exact r_zret C0 X hP hS hr hlk dX8_hasRoom_45 (Or.inr rfl) ⟨Option.some.inj h, rfl⟩
    · replace h := it_t h c_3
      refine lv_iconst (v := 1) hx hb dX8_hasRoom_17 (by decide) ?_
      exact r_zret C0 X hP hS hr hlk dX8_hasRoom_18 (Or.inr rfl) ⟨Option.some.inj h, rfl⟩
def bB_cX8_pieceFrom : Nat := 0xac1dcbffa70103840436602e60681d060e102a04151600a21b602e60681d060e102a04151200a72800a31b602e60681d060e102a041515009e1c0436033e03
theorem yB_cX8_pieceFrom : BYS cX8_pieceFrom 63 bB_cX8_pieceFrom := BYS_of (by decide +kernel)
theorem dX8_pieceFrom_0 : decode cX8_pieceFrom 0 = .ok (.iconst 0, 1) := D_3 yB_cX8_pieceFrom rfl rfl
theorem dX8_pieceFrom_1 : decode cX8_pieceFrom 1 = .ok (.istore_n 3, 1) := D_62 yB_cX8_pieceFrom rfl rfl
theorem dX8_pieceFrom_2 : decode cX8_pieceFrom 2 = .ok (.iconst 0, 1) := D_3 yB_cX8_pieceFrom rfl rfl
theorem dX8_pieceFrom_3 : decode cX8_pieceFrom 3 = .ok (.istore 4, 2) := D_54 yB_cX8_pieceFrom rfl rfl rfl
theorem dX8_pieceFrom_5 : decode cX8_pieceFrom 5 = .ok (.iload_n 2, 1) := D_28 yB_cX8_pieceFrom rfl rfl
theorem dX8_pieceFrom_6 : decode cX8_pieceFrom 6 = .ok (.ifCond .le 21, 3) := D_158 yB_cX8_pieceFrom rfl rfl (sg_p (m := 32768) (N := 21) rfl rfl rfl)
theorem dX8_pieceFrom_9 : decode cX8_pieceFrom 9 = .ok (.iload 4, 2) := D_21 yB_cX8_pieceFrom rfl rfl rfl
theorem dX8_pieceFrom_11 : decode cX8_pieceFrom 11 = .ok (.aload_n 0, 1) := D_42 yB_cX8_pieceFrom rfl rfl
theorem dX8_pieceFrom_12 : decode cX8_pieceFrom 12 = .ok (.bipush 14, 2) := D_16 yB_cX8_pieceFrom rfl rfl (sg_p (m := 128) (N := 14) rfl rfl rfl)
theorem dX8_pieceFrom_14 : decode cX8_pieceFrom 14 = .ok (.iconst 3, 1) := D_6 yB_cX8_pieceFrom rfl rfl
theorem dX8_pieceFrom_15 : decode cX8_pieceFrom 15 = .ok (.iload_n 3, 1) := D_29 yB_cX8_pieceFrom rfl rfl
theorem dX8_pieceFrom_16 : decode cX8_pieceFrom 16 = .ok (.imul, 1) := D_104 yB_cX8_pieceFrom rfl rfl
theorem dX8_pieceFrom_17 : decode cX8_pieceFrom 17 = .ok (.iadd, 1) := D_96 yB_cX8_pieceFrom rfl rfl
theorem dX8_pieceFrom_18 : decode cX8_pieceFrom 18 = .ok (.iaload, 1) := D_46 yB_cX8_pieceFrom rfl rfl
theorem dX8_pieceFrom_19 : decode cX8_pieceFrom 19 = .ok (.iadd, 1) := D_96 yB_cX8_pieceFrom rfl rfl
theorem dX8_pieceFrom_20 : decode cX8_pieceFrom 20 = .ok (.iload_n 1, 1) := D_27 yB_cX8_pieceFrom rfl rfl
theorem dX8_pieceFrom_21 : decode cX8_pieceFrom 21 = .ok (.if_icmp .gt 40, 3) := D_163 yB_cX8_pieceFrom rfl rfl (sg_p (m := 32768) (N := 40) rfl rfl rfl)
theorem dX8_pieceFrom_24 : decode cX8_pieceFrom 24 = .ok (.goto 18, 3) := D_167 yB_cX8_pieceFrom rfl rfl (sg_p (m := 32768) (N := 18) rfl rfl rfl)
theorem dX8_pieceFrom_27 : decode cX8_pieceFrom 27 = .ok (.iload 4, 2) := D_21 yB_cX8_pieceFrom rfl rfl rfl
theorem dX8_pieceFrom_29 : decode cX8_pieceFrom 29 = .ok (.aload_n 0, 1) := D_42 yB_cX8_pieceFrom rfl rfl
theorem dX8_pieceFrom_30 : decode cX8_pieceFrom 30 = .ok (.bipush 14, 2) := D_16 yB_cX8_pieceFrom rfl rfl (sg_p (m := 128) (N := 14) rfl rfl rfl)
theorem dX8_pieceFrom_32 : decode cX8_pieceFrom 32 = .ok (.iconst 3, 1) := D_6 yB_cX8_pieceFrom rfl rfl
theorem dX8_pieceFrom_33 : decode cX8_pieceFrom 33 = .ok (.iload_n 3, 1) := D_29 yB_cX8_pieceFrom rfl rfl
theorem dX8_pieceFrom_34 : decode cX8_pieceFrom 34 = .ok (.imul, 1) := D_104 yB_cX8_pieceFrom rfl rfl
theorem dX8_pieceFrom_35 : decode cX8_pieceFrom 35 = .ok (.iadd, 1) := D_96 yB_cX8_pieceFrom rfl rfl
theorem dX8_pieceFrom_36 : decode cX8_pieceFrom 36 = .ok (.iaload, 1) := D_46 yB_cX8_pieceFrom rfl rfl
theorem dX8_pieceFrom_37 : decode cX8_pieceFrom 37 = .ok (.iadd, 1) := D_96 yB_cX8_pieceFrom rfl rfl
theorem dX8_pieceFrom_38 : decode cX8_pieceFrom 38 = .ok (.iload_n 1, 1) := D_27 yB_cX8_pieceFrom rfl rfl
theorem dX8_pieceFrom_39 : decode cX8_pieceFrom 39 = .ok (.if_icmp .ge 22, 3) := D_162 yB_cX8_pieceFrom rfl rfl (sg_p (m := 32768) (N := 22) rfl rfl rfl)
theorem dX8_pieceFrom_42 : decode cX8_pieceFrom 42 = .ok (.iload 4, 2) := D_21 yB_cX8_pieceFrom rfl rfl rfl
theorem dX8_pieceFrom_44 : decode cX8_pieceFrom 44 = .ok (.aload_n 0, 1) := D_42 yB_cX8_pieceFrom rfl rfl
theorem dX8_pieceFrom_45 : decode cX8_pieceFrom 45 = .ok (.bipush 14, 2) := D_16 yB_cX8_pieceFrom rfl rfl (sg_p (m := 128) (N := 14) rfl rfl rfl)
theorem dX8_pieceFrom_47 : decode cX8_pieceFrom 47 = .ok (.iconst 3, 1) := D_6 yB_cX8_pieceFrom rfl rfl
theorem dX8_pieceFrom_48 : decode cX8_pieceFrom 48 = .ok (.iload_n 3, 1) := D_29 yB_cX8_pieceFrom rfl rfl
theorem dX8_pieceFrom_49 : decode cX8_pieceFrom 49 = .ok (.imul, 1) := D_104 yB_cX8_pieceFrom rfl rfl
theorem dX8_pieceFrom_50 : decode cX8_pieceFrom 50 = .ok (.iadd, 1) := D_96 yB_cX8_pieceFrom rfl rfl
theorem dX8_pieceFrom_51 : decode cX8_pieceFrom 51 = .ok (.iaload, 1) := D_46 yB_cX8_pieceFrom rfl rfl
theorem dX8_pieceFrom_52 : decode cX8_pieceFrom 52 = .ok (.iadd, 1) := D_96 yB_cX8_pieceFrom rfl rfl
theorem dX8_pieceFrom_53 : decode cX8_pieceFrom 53 = .ok (.istore 4, 2) := D_54 yB_cX8_pieceFrom rfl rfl rfl
theorem dX8_pieceFrom_55 : decode cX8_pieceFrom 55 = .ok (.iinc 3 1, 3) := D_132 yB_cX8_pieceFrom rfl rfl rfl (sg_p (m := 128) (N := 1) rfl rfl rfl)
theorem dX8_pieceFrom_58 : decode cX8_pieceFrom 58 = .ok (.goto (-53), 3) := D_167 yB_cX8_pieceFrom rfl rfl (sg_n (m := 32768) (N := 53) rfl rfl rfl)
theorem dX8_pieceFrom_61 : decode cX8_pieceFrom 61 = .ok (.iload_n 3, 1) := D_29 yB_cX8_pieceFrom rfl rfl
theorem dX8_pieceFrom_62 : decode cX8_pieceFrom 62 = .ok (.ireturn, 1) := D_172 yB_cX8_pieceFrom rfl rfl
def F_X8_pieceFrom_5 (σ : Mem) (a1 : Nat) (x2 : Int32) (x3 : Int32)  : Nat → Int32 → Int32 → Option (Int32)
  | 0, _, _ => none
  | nn + 1, v4, v3 => if x3 ≤ 0 then ((ix 121 (14 + (3 * v3))).bind fun k_3 => if x2 ≤ (v4 + (σ a1 k_3)) then (some v3) else ((ix 121 (14 + (3 * v3))).bind fun k_5 => F_X8_pieceFrom_5 σ a1 x2 x3 nn (v4 + (σ a1 k_5)) (v3 + 1))) else ((ix 121 (14 + (3 * v3))).bind fun k_6 => if x2 < (v4 + (σ a1 k_6)) then (some v3) else ((ix 121 (14 + (3 * v3))).bind fun k_8 => F_X8_pieceFrom_5 σ a1 x2 x3 nn (v4 + (σ a1 k_8)) (v3 + 1)))
def F_X8_pieceFrom (σ : Mem) (a1 : Nat) (x2 : Int32) (x3 : Int32) : Option (Int32) := F_X8_pieceFrom_5 σ a1 x2 x3 FU 0 0
set_option maxHeartbeats 4000000 in
set_option maxRecDepth 100000 in
theorem c_X8_pieceFrom (l : Launch) (D : va_G) (cA : Nat → ClassId) (ad : Nat → Nat) (o : Int64) (σ : Mem) (a1 : Nat) (x2 : Int32) (x3 : Int32) (ha1 : a1 < 106 ∧ kd a1 = (9, 121)) (res : Int32) (h : F_X8_pieceFrom σ a1 x2 x3 = some res) (sz : Nat) : Met l yX8_pieceFrom (WY yX8_pieceFrom cX8_pieceFrom 5 (some .int)) (RM 0) (va_Pc [.ref (ad a1), .int x2, .int x3] (PW D cA ad o σ sz)) (va_Qi (fun r σ9 => r = res ∧ σ9 = σ) (QW D cA ad o) (FA ad sz)) 0 0 (FA ad sz) := by
  refine ct_of (own := RX8) (k := 0) (Qf := va_Qi (fun r σ9 => r = res ∧ σ9 = σ) (QW D cA ad o)) rfl (by decide) (Nat.le_of_ble_eq_true rfl) (fun p e s m below meth c ls C0 X hr hlk hP hl => ?_) sz
  have hS : va_S (FA ad s.heap.size) s.heap s.heap [] := va_S.rf
  have hl : lv_has ls 5 [(0, .ref (ad a1)), (1, .int x2), (2, .int x3)] := hl
  obtain ⟨hx, hb, hml, hown, hts⟩ := id C0
  unfold F_X8_pieceFrom at h
  refine lv_iconst (v := 0) hx hb dX8_pieceFrom_0 (by decide) ?_
  refine lv_istore_n (lv' := [(3, .int 0), (0, .ref (ad a1)), (1, .int x2), (2, .int x3)]) hx hb dX8_pieceFrom_1 rfl hl (by decide) rfl (fun ls hl => ?_)
  refine lv_iconst (v := 0) hx hb dX8_pieceFrom_2 (by decide) ?_
  refine lv_istore (lv' := [(4, .int 0), (3, .int 0), (0, .ref (ad a1)), (1, .int x2), (2, .int x3)]) hx hb dX8_pieceFrom_3 hl (by decide) rfl (fun ls hl => ?_)
  have lp_1 : ∀ (nn5 : Nat) (v4 : Int32) (v3 : Int32) (H : Heap) (locs : List Loc) (ls : Array Slot), F_X8_pieceFrom_5 σ a1 x2 x3 nn5 v4 v3 = some res → WP D cA ad o σ H → va_S (FA ad s.heap.size) s.heap H locs → lv_has ls 5 [(4, .int v4), (3, .int v3), (0, .ref (ad a1)), (1, .int x2), (2, .int x3)] → W p l e (RM 0) s m ([.ref (ad a1), .int x2, .int x3] : List Value).toArray below meth c H locs 0 0 (MQ below (va_Qi (fun r σ9 => r = res ∧ σ9 = σ) (QW D cA ad o) (FA ad s.heap.size)) ([.ref (ad a1), .int x2, .int x3] : List Value).toArray s 0 0 (FA ad s.heap.size)) (F0 m 5 ls []) := by
    intro nn5
    induction nn5 with
    | zero => intro v4 v3 H locs ls h hP hS hl; exact absurd (show none = some res from h) nofun
    | succ nn5 ih5 =>
      intro v4 v3 H locs ls h hP hS hl
      replace h := (F_X8_pieceFrom_5.eq_2 _ _ _ _ _ _ _).symm.trans h
      refine lv_iload_n hx hb dX8_pieceFrom_5 rfl (lv_at hl 4 rfl) ?_
      refine lv_if_le (tgt := 27) hx hb dX8_pieceFrom_6 (by decide) (fun c_2 => ?_) (fun c_2 => ?_)
      · replace h := it_t h c_2
        refine lv_iload hx hb dX8_pieceFrom_27 (lv_at hl 0 rfl) ?_
        refine lv_aload_n hx hb dX8_pieceFrom_29 rfl (lv_at hl 2 rfl) ?_
        refine lv_bipush (v := 14) hx hb dX8_pieceFrom_30 (by decide) ?_
        refine lv_iconst (v := 3) hx hb dX8_pieceFrom_32 (by decide) ?_
        refine lv_iload_n hx hb dX8_pieceFrom_33 rfl (lv_at hl 1 rfl) ?_
        refine lv_imul hx hb dX8_pieceFrom_34 ?_
        refine lv_iadd hx hb dX8_pieceFrom_35 ?_
        obtain ⟨k_3, ek_3, h⟩ := bnd h
        replace ek_3 := ix_s ek_3 (by decide)
        refine r_ialdN C0 X hP a1 (k := k_3) ha1 ek_3.1 ek_3.2 dX8_pieceFrom_36 ?_
        refine lv_iadd hx hb dX8_pieceFrom_37 ?_
        refine lv_iload_n hx hb dX8_pieceFrom_38 rfl (lv_at hl 3 rfl) ?_
        refine lv_icmp_ge (tgt := 61) hx hb dX8_pieceFrom_39 (by decide) (fun c_4 => ?_) (fun c_4 => ?_)
        · replace h := it_t h c_4
          refine lv_iload_n hx hb dX8_pieceFrom_61 rfl (lv_at hl 1 rfl) ?_
          exact r_iret C0 X hP hS hr hlk dX8_pieceFrom_62 ⟨Option.some.inj h, rfl⟩
        · replace h := it_f h c_4
          refine lv_iload hx hb dX8_pieceFrom_42 (lv_at hl 0 rfl) ?_
          refine lv_aload_n hx hb dX8_pieceFrom_44 rfl (lv_at hl 2 rfl) ?_
          refine lv_bipush (v := 14) hx hb dX8_pieceFrom_45 (by decide) ?_
          refine lv_iconst (v := 3) hx hb dX8_pieceFrom_47 (by decide) ?_
          refine lv_iload_n hx hb dX8_pieceFrom_48 rfl (lv_at hl 1 rfl) ?_
          refine lv_imul hx hb dX8_pieceFrom_49 ?_
          refine lv_iadd hx hb dX8_pieceFrom_50 ?_
          obtain ⟨k_5, ek_5, h⟩ := bnd h
          replace ek_5 := ix_s ek_5 (by decide)
          refine r_ialdN C0 X hP a1 (k := k_5) ha1 ek_5.1 ek_5.2 dX8_pieceFrom_51 ?_
          refine lv_iadd hx hb dX8_pieceFrom_52 ?_
          refine lv_istore (lv' := [(4, .int (v4 + (σ a1 k_5))), (3, .int v3), (0, .ref (ad a1)), (1, .int x2), (2, .int x3)]) hx hb dX8_pieceFrom_53 hl (by decide) rfl (fun ls hl => ?_)
          refine lv_iinc (v := (v3 + 1)) (lv' := [(3, .int (v3 + 1)), (4, .int (v4 + (σ a1 k_5))), (0, .ref (ad a1)), (1, .int x2), (2, .int x3)]) hx hb dX8_pieceFrom_55 hl (k := 1) rfl rfl (by decide) rfl (fun ls hl => ?_)
          refine lv_goto (tgt := 5) hx hb dX8_pieceFrom_58 (by decide) ?_
          exact ih5 (v4 + (σ a1 k_5)) (v3 + 1) _ _ ls  h hP hS (lv_sub hl [1, 0, 2, 3, 4] rfl)
      · replace h := it_f h c_2
        refine lv_iload hx hb dX8_pieceFrom_9 (lv_at hl 0 rfl) ?_
        refine lv_aload_n hx hb dX8_pieceFrom_11 rfl (lv_at hl 2 rfl) ?_
        refine lv_bipush (v := 14) hx hb dX8_pieceFrom_12 (by decide) ?_
        refine lv_iconst (v := 3) hx hb dX8_pieceFrom_14 (by decide) ?_
        refine lv_iload_n hx hb dX8_pieceFrom_15 rfl (lv_at hl 1 rfl) ?_
        refine lv_imul hx hb dX8_pieceFrom_16 ?_
        refine lv_iadd hx hb dX8_pieceFrom_17 ?_
        obtain ⟨k_6, ek_6, h⟩ := bnd h
        replace ek_6 := ix_s ek_6 (by decide)
        refine r_ialdN C0 X hP a1 (k := k_6) ha1 ek_6.1 ek_6.2 dX8_pieceFrom_18 ?_
        refine lv_iadd hx hb dX8_pieceFrom_19 ?_
        refine lv_iload_n hx hb dX8_pieceFrom_20 rfl (lv_at hl 3 rfl) ?_
        refine lv_icmp_gt (tgt := 61) hx hb dX8_pieceFrom_21 (by decide) (fun c_7 => ?_) (fun c_7 => ?_)
        · replace h := it_t h c_7
          refine lv_iload_n hx hb dX8_pieceFrom_61 rfl (lv_at hl 1 rfl) ?_
          exact r_iret C0 X hP hS hr hlk dX8_pieceFrom_62 ⟨Option.some.inj h, rfl⟩
        · replace h := it_f h c_7
          refine lv_goto (tgt := 42) hx hb dX8_pieceFrom_24 (by decide) ?_
          refine lv_iload hx hb dX8_pieceFrom_42 (lv_at hl 0 rfl) ?_
          refine lv_aload_n hx hb dX8_pieceFrom_44 rfl (lv_at hl 2 rfl) ?_
          refine lv_bipush (v := 14) hx hb dX8_pieceFrom_45 (by decide) ?_
          refine lv_iconst (v := 3) hx hb dX8_pieceFrom_47 (by decide) ?_
          refine lv_iload_n hx hb dX8_pieceFrom_48 rfl (lv_at hl 1 rfl) ?_
          refine lv_imul hx hb dX8_pieceFrom_49 ?_
          refine lv_iadd hx hb dX8_pieceFrom_50 ?_
          obtain ⟨k_8, ek_8, h⟩ := bnd h
          replace ek_8 := ix_s ek_8 (by decide)
          refine r_ialdN C0 X hP a1 (k := k_8) ha1 ek_8.1 ek_8.2 dX8_pieceFrom_51 ?_
          refine lv_iadd hx hb dX8_pieceFrom_52 ?_
          refine lv_istore (lv' := [(4, .int (v4 + (σ a1 k_8))), (3, .int v3), (0, .ref (ad a1)), (1, .int x2), (2, .int x3)]) hx hb dX8_pieceFrom_53 hl (by decide) rfl (fun ls hl => ?_)
          refine lv_iinc (v := (v3 + 1)) (lv' := [(3, .int (v3 + 1)), (4, .int (v4 + (σ a1 k_8))), (0, .ref (ad a1)), (1, .int x2), (2, .int x3)]) hx hb dX8_pieceFrom_55 hl (k := 1) rfl rfl (by decide) rfl (fun ls hl => ?_)
          refine lv_goto (tgt := 5) hx hb dX8_pieceFrom_58 (by decide) ?_
          exact ih5 (v4 + (σ a1 k_8)) (v3 + 1) _ _ ls  h hP hS (lv_sub hl [1, 0, 2, 3, 4] rfl)
  exact lp_1 FU 0 0 _ _ ls  h hP hS (lv_sub hl [0, 1, 2, 3, 4] rfl)
def bB_cX8_kindOf : Nat := 0xac2e60681b0526102a
theorem yB_cX8_kindOf : BYS cX8_kindOf 9 bB_cX8_kindOf := BYS_of (by decide +kernel)
theorem dX8_kindOf_0 : decode cX8_kindOf 0 = .ok (.aload_n 0, 1) := D_42 yB_cX8_kindOf rfl rfl
theorem dX8_kindOf_1 : decode cX8_kindOf 1 = .ok (.bipush 38, 2) := D_16 yB_cX8_kindOf rfl rfl (sg_p (m := 128) (N := 38) rfl rfl rfl)
theorem dX8_kindOf_3 : decode cX8_kindOf 3 = .ok (.iconst 2, 1) := D_5 yB_cX8_kindOf rfl rfl
theorem dX8_kindOf_4 : decode cX8_kindOf 4 = .ok (.iload_n 1, 1) := D_27 yB_cX8_kindOf rfl rfl
theorem dX8_kindOf_5 : decode cX8_kindOf 5 = .ok (.imul, 1) := D_104 yB_cX8_kindOf rfl rfl
theorem dX8_kindOf_6 : decode cX8_kindOf 6 = .ok (.iadd, 1) := D_96 yB_cX8_kindOf rfl rfl
theorem dX8_kindOf_7 : decode cX8_kindOf 7 = .ok (.iaload, 1) := D_46 yB_cX8_kindOf rfl rfl
theorem dX8_kindOf_8 : decode cX8_kindOf 8 = .ok (.ireturn, 1) := D_172 yB_cX8_kindOf rfl rfl
def F_X8_kindOf (σ : Mem) (a1 : Nat) (x2 : Int32) : Option (Int32) := (ix 121 (38 + (2 * x2))).bind fun k_1 => some (σ a1 k_1)
set_option maxHeartbeats 4000000 in
set_option maxRecDepth 100000 in
theorem c_X8_kindOf (l : Launch) (D : va_G) (cA : Nat → ClassId) (ad : Nat → Nat) (o : Int64) (σ : Mem) (a1 : Nat) (x2 : Int32) (ha1 : a1 < 106 ∧ kd a1 = (9, 121)) (res : Int32) (h : F_X8_kindOf σ a1 x2 = some res) (sz : Nat) : Met l yX8_kindOf (WY yX8_kindOf cX8_kindOf 2 (some .int)) (RM 0) (va_Pc [.ref (ad a1), .int x2] (PW D cA ad o σ sz)) (va_Qi (fun r σ9 => r = res ∧ σ9 = σ) (QW D cA ad o) (FA ad sz)) 0 0 (FA ad sz) := by
  refine ct_of (own := RX8) (k := 0) (Qf := va_Qi (fun r σ9 => r = res ∧ σ9 = σ) (QW D cA ad o)) rfl (by decide) (Nat.le_of_ble_eq_true rfl) (fun p e s m below meth c ls C0 X hr hlk hP hl => ?_) sz
  have hS : va_S (FA ad s.heap.size) s.heap s.heap [] := va_S.rf
  have hl : lv_has ls 2 [(0, .ref (ad a1)), (1, .int x2)] := hl
  obtain ⟨hx, hb, hml, hown, hts⟩ := id C0
  unfold F_X8_kindOf at h
  refine lv_aload_n hx hb dX8_kindOf_0 rfl (lv_at hl 0 rfl) ?_
  refine lv_bipush (v := 38) hx hb dX8_kindOf_1 (by decide) ?_
  refine lv_iconst (v := 2) hx hb dX8_kindOf_3 (by decide) ?_
  refine lv_iload_n hx hb dX8_kindOf_4 rfl (lv_at hl 1 rfl) ?_
  refine lv_imul hx hb dX8_kindOf_5 ?_
  refine lv_iadd hx hb dX8_kindOf_6 ?_
  obtain ⟨k_1, ek_1, h⟩ := bnd h
  replace ek_1 := ix_s ek_1 (by decide)
  refine r_ialdN C0 X hP a1 (k := k_1) ha1 ek_1.1 ek_1.2 dX8_kindOf_7 ?_
  exact r_iret C0 X hP hS hr hlk dX8_kindOf_8 ⟨Option.some.inj h, rfl⟩
def bB_cX8_entersBy : Nat := 0xac030400a7040700a22e600915082a9400b808152a12009f2e032a09151a009909151f009f071d09366005150715a5ffa7010984ac030500a26004150b150a150f00a10b150a151400a10b150a150a009e0a150b3668051564061508150a366805156406158200b80809152a3b00a70600a005158200b80309152a4a00999d00b809152a5900a22e042a091509360308367600b860051507152a07369100b806152aac0405009f081d0a009f071dac030400a7040700a0040400a70307009e051570056c68600404150a102e052aac0405009f9a00b81b2a06152f00a0061d06368200b8081b2a05368200b8031b2a04362e600460681c0526102a3e9700b81c2a
theorem yB_cX8_entersBy : BYS cX8_entersBy 257 bB_cX8_entersBy := BYS_of (by decide +kernel)
theorem dX8_entersBy_0 : decode cX8_entersBy 0 = .ok (.aload_n 0, 1) := D_42 yB_cX8_entersBy rfl rfl
theorem dX8_entersBy_1 : decode cX8_entersBy 1 = .ok (.iload_n 2, 1) := D_28 yB_cX8_entersBy rfl rfl
theorem dX8_entersBy_2 : decode cX8_entersBy 2 = .ok (.invokestatic 151, 3) := D_184 yB_cX8_entersBy rfl rfl rfl
theorem dX8_entersBy_5 : decode cX8_entersBy 5 = .ok (.istore_n 3, 1) := D_62 yB_cX8_entersBy rfl rfl
theorem dX8_entersBy_6 : decode cX8_entersBy 6 = .ok (.aload_n 0, 1) := D_42 yB_cX8_entersBy rfl rfl
theorem dX8_entersBy_7 : decode cX8_entersBy 7 = .ok (.bipush 38, 2) := D_16 yB_cX8_entersBy rfl rfl (sg_p (m := 128) (N := 38) rfl rfl rfl)
theorem dX8_entersBy_9 : decode cX8_entersBy 9 = .ok (.iconst 2, 1) := D_5 yB_cX8_entersBy rfl rfl
theorem dX8_entersBy_10 : decode cX8_entersBy 10 = .ok (.iload_n 2, 1) := D_28 yB_cX8_entersBy rfl rfl
theorem dX8_entersBy_11 : decode cX8_entersBy 11 = .ok (.imul, 1) := D_104 yB_cX8_entersBy rfl rfl
theorem dX8_entersBy_12 : decode cX8_entersBy 12 = .ok (.iadd, 1) := D_96 yB_cX8_entersBy rfl rfl
theorem dX8_entersBy_13 : decode cX8_entersBy 13 = .ok (.iconst 1, 1) := D_4 yB_cX8_entersBy rfl rfl
theorem dX8_entersBy_14 : decode cX8_entersBy 14 = .ok (.iadd, 1) := D_96 yB_cX8_entersBy rfl rfl
theorem dX8_entersBy_15 : decode cX8_entersBy 15 = .ok (.iaload, 1) := D_46 yB_cX8_entersBy rfl rfl
theorem dX8_entersBy_16 : decode cX8_entersBy 16 = .ok (.istore 4, 2) := D_54 yB_cX8_entersBy rfl rfl rfl
theorem dX8_entersBy_18 : decode cX8_entersBy 18 = .ok (.aload_n 0, 1) := D_42 yB_cX8_entersBy rfl rfl
theorem dX8_entersBy_19 : decode cX8_entersBy 19 = .ok (.iload_n 1, 1) := D_27 yB_cX8_entersBy rfl rfl
theorem dX8_entersBy_20 : decode cX8_entersBy 20 = .ok (.iconst 0, 1) := D_3 yB_cX8_entersBy rfl rfl
theorem dX8_entersBy_21 : decode cX8_entersBy 21 = .ok (.invokestatic 130, 3) := D_184 yB_cX8_entersBy rfl rfl rfl
theorem dX8_entersBy_24 : decode cX8_entersBy 24 = .ok (.istore 5, 2) := D_54 yB_cX8_entersBy rfl rfl rfl
theorem dX8_entersBy_26 : decode cX8_entersBy 26 = .ok (.aload_n 0, 1) := D_42 yB_cX8_entersBy rfl rfl
theorem dX8_entersBy_27 : decode cX8_entersBy 27 = .ok (.iload_n 1, 1) := D_27 yB_cX8_entersBy rfl rfl
theorem dX8_entersBy_28 : decode cX8_entersBy 28 = .ok (.iconst 5, 1) := D_8 yB_cX8_entersBy rfl rfl
theorem dX8_entersBy_29 : decode cX8_entersBy 29 = .ok (.invokestatic 130, 3) := D_184 yB_cX8_entersBy rfl rfl rfl
theorem dX8_entersBy_32 : decode cX8_entersBy 32 = .ok (.istore 6, 2) := D_54 yB_cX8_entersBy rfl rfl rfl
theorem dX8_entersBy_34 : decode cX8_entersBy 34 = .ok (.iload_n 3, 1) := D_29 yB_cX8_entersBy rfl rfl
theorem dX8_entersBy_35 : decode cX8_entersBy 35 = .ok (.iconst 3, 1) := D_6 yB_cX8_entersBy rfl rfl
theorem dX8_entersBy_36 : decode cX8_entersBy 36 = .ok (.if_icmp .ne 47, 3) := D_160 yB_cX8_entersBy rfl rfl (sg_p (m := 32768) (N := 47) rfl rfl rfl)
theorem dX8_entersBy_39 : decode cX8_entersBy 39 = .ok (.iload 6, 2) := D_21 yB_cX8_entersBy rfl rfl rfl
theorem dX8_entersBy_41 : decode cX8_entersBy 41 = .ok (.aload_n 0, 1) := D_42 yB_cX8_entersBy rfl rfl
theorem dX8_entersBy_42 : decode cX8_entersBy 42 = .ok (.iload_n 1, 1) := D_27 yB_cX8_entersBy rfl rfl
theorem dX8_entersBy_43 : decode cX8_entersBy 43 = .ok (.invokestatic 154, 3) := D_184 yB_cX8_entersBy rfl rfl rfl
theorem dX8_entersBy_46 : decode cX8_entersBy 46 = .ok (.if_icmp .eq 5, 3) := D_159 yB_cX8_entersBy rfl rfl (sg_p (m := 32768) (N := 5) rfl rfl rfl)
theorem dX8_entersBy_49 : decode cX8_entersBy 49 = .ok (.iconst 1, 1) := D_4 yB_cX8_entersBy rfl rfl
theorem dX8_entersBy_50 : decode cX8_entersBy 50 = .ok (.ireturn, 1) := D_172 yB_cX8_entersBy rfl rfl
theorem dX8_entersBy_51 : decode cX8_entersBy 51 = .ok (.aload_n 0, 1) := D_42 yB_cX8_entersBy rfl rfl
theorem dX8_entersBy_52 : decode cX8_entersBy 52 = .ok (.iconst 2, 1) := D_5 yB_cX8_entersBy rfl rfl
theorem dX8_entersBy_53 : decode cX8_entersBy 53 = .ok (.iaload, 1) := D_46 yB_cX8_entersBy rfl rfl
theorem dX8_entersBy_54 : decode cX8_entersBy 54 = .ok (.bipush 10, 2) := D_16 yB_cX8_entersBy rfl rfl (sg_p (m := 128) (N := 10) rfl rfl rfl)
theorem dX8_entersBy_56 : decode cX8_entersBy 56 = .ok (.iload 4, 2) := D_21 yB_cX8_entersBy rfl rfl rfl
theorem dX8_entersBy_58 : decode cX8_entersBy 58 = .ok (.iconst 1, 1) := D_4 yB_cX8_entersBy rfl rfl
theorem dX8_entersBy_59 : decode cX8_entersBy 59 = .ok (.iadd, 1) := D_96 yB_cX8_entersBy rfl rfl
theorem dX8_entersBy_60 : decode cX8_entersBy 60 = .ok (.imul, 1) := D_104 yB_cX8_entersBy rfl rfl
theorem dX8_entersBy_61 : decode cX8_entersBy 61 = .ok (.idiv, 1) := D_108 yB_cX8_entersBy rfl rfl
theorem dX8_entersBy_62 : decode cX8_entersBy 62 = .ok (.iconst 2, 1) := D_5 yB_cX8_entersBy rfl rfl
theorem dX8_entersBy_63 : decode cX8_entersBy 63 = .ok (.irem, 1) := D_112 yB_cX8_entersBy rfl rfl
theorem dX8_entersBy_64 : decode cX8_entersBy 64 = .ok (.iload 5, 2) := D_21 yB_cX8_entersBy rfl rfl rfl
theorem dX8_entersBy_66 : decode cX8_entersBy 66 = .ok (.ifCond .le 7, 3) := D_158 yB_cX8_entersBy rfl rfl (sg_p (m := 32768) (N := 7) rfl rfl rfl)
theorem dX8_entersBy_69 : decode cX8_entersBy 69 = .ok (.iconst 0, 1) := D_3 yB_cX8_entersBy rfl rfl
theorem dX8_entersBy_70 : decode cX8_entersBy 70 = .ok (.goto 4, 3) := D_167 yB_cX8_entersBy rfl rfl (sg_p (m := 32768) (N := 4) rfl rfl rfl)
theorem dX8_entersBy_73 : decode cX8_entersBy 73 = .ok (.iconst 1, 1) := D_4 yB_cX8_entersBy rfl rfl
theorem dX8_entersBy_74 : decode cX8_entersBy 74 = .ok (.if_icmp .ne 7, 3) := D_160 yB_cX8_entersBy rfl rfl (sg_p (m := 32768) (N := 7) rfl rfl rfl)
theorem dX8_entersBy_77 : decode cX8_entersBy 77 = .ok (.iconst 1, 1) := D_4 yB_cX8_entersBy rfl rfl
theorem dX8_entersBy_78 : decode cX8_entersBy 78 = .ok (.goto 4, 3) := D_167 yB_cX8_entersBy rfl rfl (sg_p (m := 32768) (N := 4) rfl rfl rfl)
theorem dX8_entersBy_81 : decode cX8_entersBy 81 = .ok (.iconst 0, 1) := D_3 yB_cX8_entersBy rfl rfl
theorem dX8_entersBy_82 : decode cX8_entersBy 82 = .ok (.ireturn, 1) := D_172 yB_cX8_entersBy rfl rfl
theorem dX8_entersBy_83 : decode cX8_entersBy 83 = .ok (.iload_n 3, 1) := D_29 yB_cX8_entersBy rfl rfl
theorem dX8_entersBy_84 : decode cX8_entersBy 84 = .ok (.iconst 4, 1) := D_7 yB_cX8_entersBy rfl rfl
theorem dX8_entersBy_85 : decode cX8_entersBy 85 = .ok (.if_icmp .eq 10, 3) := D_159 yB_cX8_entersBy rfl rfl (sg_p (m := 32768) (N := 10) rfl rfl rfl)
theorem dX8_entersBy_88 : decode cX8_entersBy 88 = .ok (.iload_n 3, 1) := D_29 yB_cX8_entersBy rfl rfl
theorem dX8_entersBy_89 : decode cX8_entersBy 89 = .ok (.iconst 5, 1) := D_8 yB_cX8_entersBy rfl rfl
theorem dX8_entersBy_90 : decode cX8_entersBy 90 = .ok (.if_icmp .eq 5, 3) := D_159 yB_cX8_entersBy rfl rfl (sg_p (m := 32768) (N := 5) rfl rfl rfl)
theorem dX8_entersBy_93 : decode cX8_entersBy 93 = .ok (.iconst 1, 1) := D_4 yB_cX8_entersBy rfl rfl
theorem dX8_entersBy_94 : decode cX8_entersBy 94 = .ok (.ireturn, 1) := D_172 yB_cX8_entersBy rfl rfl
theorem dX8_entersBy_95 : decode cX8_entersBy 95 = .ok (.aload_n 0, 1) := D_42 yB_cX8_entersBy rfl rfl
theorem dX8_entersBy_96 : decode cX8_entersBy 96 = .ok (.iload 6, 2) := D_21 yB_cX8_entersBy rfl rfl rfl
theorem dX8_entersBy_98 : decode cX8_entersBy 98 = .ok (.invokestatic 145, 3) := D_184 yB_cX8_entersBy rfl rfl rfl
theorem dX8_entersBy_101 : decode cX8_entersBy 101 = .ok (.istore 7, 2) := D_54 yB_cX8_entersBy rfl rfl rfl
theorem dX8_entersBy_103 : decode cX8_entersBy 103 = .ok (.aload_n 0, 1) := D_42 yB_cX8_entersBy rfl rfl
theorem dX8_entersBy_104 : decode cX8_entersBy 104 = .ok (.iload 7, 2) := D_21 yB_cX8_entersBy rfl rfl rfl
theorem dX8_entersBy_106 : decode cX8_entersBy 106 = .ok (.iload 5, 2) := D_21 yB_cX8_entersBy rfl rfl rfl
theorem dX8_entersBy_108 : decode cX8_entersBy 108 = .ok (.iadd, 1) := D_96 yB_cX8_entersBy rfl rfl
theorem dX8_entersBy_109 : decode cX8_entersBy 109 = .ok (.invokestatic 118, 3) := D_184 yB_cX8_entersBy rfl rfl rfl
theorem dX8_entersBy_112 : decode cX8_entersBy 112 = .ok (.istore 8, 2) := D_54 yB_cX8_entersBy rfl rfl rfl
theorem dX8_entersBy_114 : decode cX8_entersBy 114 = .ok (.iconst 0, 1) := D_3 yB_cX8_entersBy rfl rfl
theorem dX8_entersBy_115 : decode cX8_entersBy 115 = .ok (.istore 9, 2) := D_54 yB_cX8_entersBy rfl rfl rfl
theorem dX8_entersBy_117 : decode cX8_entersBy 117 = .ok (.iload 9, 2) := D_21 yB_cX8_entersBy rfl rfl rfl
theorem dX8_entersBy_119 : decode cX8_entersBy 119 = .ok (.aload_n 0, 1) := D_42 yB_cX8_entersBy rfl rfl
theorem dX8_entersBy_120 : decode cX8_entersBy 120 = .ok (.iconst 1, 1) := D_4 yB_cX8_entersBy rfl rfl
theorem dX8_entersBy_121 : decode cX8_entersBy 121 = .ok (.iaload, 1) := D_46 yB_cX8_entersBy rfl rfl
theorem dX8_entersBy_122 : decode cX8_entersBy 122 = .ok (.if_icmp .ge 89, 3) := D_162 yB_cX8_entersBy rfl rfl (sg_p (m := 32768) (N := 89) rfl rfl rfl)
theorem dX8_entersBy_125 : decode cX8_entersBy 125 = .ok (.aload_n 0, 1) := D_42 yB_cX8_entersBy rfl rfl
theorem dX8_entersBy_126 : decode cX8_entersBy 126 = .ok (.iload 9, 2) := D_21 yB_cX8_entersBy rfl rfl rfl
theorem dX8_entersBy_128 : decode cX8_entersBy 128 = .ok (.invokestatic 157, 3) := D_184 yB_cX8_entersBy rfl rfl rfl
theorem dX8_entersBy_131 : decode cX8_entersBy 131 = .ok (.ifCond .eq 74, 3) := D_153 yB_cX8_entersBy rfl rfl (sg_p (m := 32768) (N := 74) rfl rfl rfl)
theorem dX8_entersBy_134 : decode cX8_entersBy 134 = .ok (.aload_n 0, 1) := D_42 yB_cX8_entersBy rfl rfl
theorem dX8_entersBy_135 : decode cX8_entersBy 135 = .ok (.iload 9, 2) := D_21 yB_cX8_entersBy rfl rfl rfl
theorem dX8_entersBy_137 : decode cX8_entersBy 137 = .ok (.iconst 0, 1) := D_3 yB_cX8_entersBy rfl rfl
theorem dX8_entersBy_138 : decode cX8_entersBy 138 = .ok (.invokestatic 130, 3) := D_184 yB_cX8_entersBy rfl rfl rfl
theorem dX8_entersBy_141 : decode cX8_entersBy 141 = .ok (.iload 5, 2) := D_21 yB_cX8_entersBy rfl rfl rfl
theorem dX8_entersBy_143 : decode cX8_entersBy 143 = .ok (.if_icmp .ne 6, 3) := D_160 yB_cX8_entersBy rfl rfl (sg_p (m := 32768) (N := 6) rfl rfl rfl)
theorem dX8_entersBy_146 : decode cX8_entersBy 146 = .ok (.goto 59, 3) := D_167 yB_cX8_entersBy rfl rfl (sg_p (m := 32768) (N := 59) rfl rfl rfl)
theorem dX8_entersBy_149 : decode cX8_entersBy 149 = .ok (.aload_n 0, 1) := D_42 yB_cX8_entersBy rfl rfl
theorem dX8_entersBy_150 : decode cX8_entersBy 150 = .ok (.iload 9, 2) := D_21 yB_cX8_entersBy rfl rfl rfl
theorem dX8_entersBy_152 : decode cX8_entersBy 152 = .ok (.iconst 5, 1) := D_8 yB_cX8_entersBy rfl rfl
theorem dX8_entersBy_153 : decode cX8_entersBy 153 = .ok (.invokestatic 130, 3) := D_184 yB_cX8_entersBy rfl rfl rfl
theorem dX8_entersBy_156 : decode cX8_entersBy 156 = .ok (.iload 6, 2) := D_21 yB_cX8_entersBy rfl rfl rfl
theorem dX8_entersBy_158 : decode cX8_entersBy 158 = .ok (.isub, 1) := D_100 yB_cX8_entersBy rfl rfl
theorem dX8_entersBy_159 : decode cX8_entersBy 159 = .ok (.iload 5, 2) := D_21 yB_cX8_entersBy rfl rfl rfl
theorem dX8_entersBy_161 : decode cX8_entersBy 161 = .ok (.imul, 1) := D_104 yB_cX8_entersBy rfl rfl
theorem dX8_entersBy_162 : decode cX8_entersBy 162 = .ok (.istore 10, 2) := D_54 yB_cX8_entersBy rfl rfl rfl
theorem dX8_entersBy_164 : decode cX8_entersBy 164 = .ok (.iload 8, 2) := D_21 yB_cX8_entersBy rfl rfl rfl
theorem dX8_entersBy_166 : decode cX8_entersBy 166 = .ok (.iload 6, 2) := D_21 yB_cX8_entersBy rfl rfl rfl
theorem dX8_entersBy_168 : decode cX8_entersBy 168 = .ok (.isub, 1) := D_100 yB_cX8_entersBy rfl rfl
theorem dX8_entersBy_169 : decode cX8_entersBy 169 = .ok (.iload 5, 2) := D_21 yB_cX8_entersBy rfl rfl rfl
theorem dX8_entersBy_171 : decode cX8_entersBy 171 = .ok (.imul, 1) := D_104 yB_cX8_entersBy rfl rfl
theorem dX8_entersBy_172 : decode cX8_entersBy 172 = .ok (.istore 11, 2) := D_54 yB_cX8_entersBy rfl rfl rfl
theorem dX8_entersBy_174 : decode cX8_entersBy 174 = .ok (.iload 10, 2) := D_21 yB_cX8_entersBy rfl rfl rfl
theorem dX8_entersBy_176 : decode cX8_entersBy 176 = .ok (.ifCond .le 10, 3) := D_158 yB_cX8_entersBy rfl rfl (sg_p (m := 32768) (N := 10) rfl rfl rfl)
theorem dX8_entersBy_179 : decode cX8_entersBy 179 = .ok (.iload 10, 2) := D_21 yB_cX8_entersBy rfl rfl rfl
theorem dX8_entersBy_181 : decode cX8_entersBy 181 = .ok (.iload 11, 2) := D_21 yB_cX8_entersBy rfl rfl rfl
theorem dX8_entersBy_183 : decode cX8_entersBy 183 = .ok (.if_icmp .lt 20, 3) := D_161 yB_cX8_entersBy rfl rfl (sg_p (m := 32768) (N := 20) rfl rfl rfl)
theorem dX8_entersBy_186 : decode cX8_entersBy 186 = .ok (.iload 10, 2) := D_21 yB_cX8_entersBy rfl rfl rfl
theorem dX8_entersBy_188 : decode cX8_entersBy 188 = .ok (.iload 11, 2) := D_21 yB_cX8_entersBy rfl rfl rfl
theorem dX8_entersBy_190 : decode cX8_entersBy 190 = .ok (.if_icmp .lt 15, 3) := D_161 yB_cX8_entersBy rfl rfl (sg_p (m := 32768) (N := 15) rfl rfl rfl)
theorem dX8_entersBy_193 : decode cX8_entersBy 193 = .ok (.iload 10, 2) := D_21 yB_cX8_entersBy rfl rfl rfl
theorem dX8_entersBy_195 : decode cX8_entersBy 195 = .ok (.iload 11, 2) := D_21 yB_cX8_entersBy rfl rfl rfl
theorem dX8_entersBy_197 : decode cX8_entersBy 197 = .ok (.iload 4, 2) := D_21 yB_cX8_entersBy rfl rfl rfl
theorem dX8_entersBy_199 : decode cX8_entersBy 199 = .ok (.iadd, 1) := D_96 yB_cX8_entersBy rfl rfl
theorem dX8_entersBy_200 : decode cX8_entersBy 200 = .ok (.if_icmp .ge 5, 3) := D_162 yB_cX8_entersBy rfl rfl (sg_p (m := 32768) (N := 5) rfl rfl rfl)
theorem dX8_entersBy_203 : decode cX8_entersBy 203 = .ok (.iconst 0, 1) := D_3 yB_cX8_entersBy rfl rfl
theorem dX8_entersBy_204 : decode cX8_entersBy 204 = .ok (.ireturn, 1) := D_172 yB_cX8_entersBy rfl rfl
theorem dX8_entersBy_205 : decode cX8_entersBy 205 = .ok (.iinc 9 1, 3) := D_132 yB_cX8_entersBy rfl rfl rfl (sg_p (m := 128) (N := 1) rfl rfl rfl)
theorem dX8_entersBy_208 : decode cX8_entersBy 208 = .ok (.goto (-91), 3) := D_167 yB_cX8_entersBy rfl rfl (sg_n (m := 32768) (N := 91) rfl rfl rfl)
theorem dX8_entersBy_211 : decode cX8_entersBy 211 = .ok (.iload 7, 2) := D_21 yB_cX8_entersBy rfl rfl rfl
theorem dX8_entersBy_213 : decode cX8_entersBy 213 = .ok (.iload 5, 2) := D_21 yB_cX8_entersBy rfl rfl rfl
theorem dX8_entersBy_215 : decode cX8_entersBy 215 = .ok (.iadd, 1) := D_96 yB_cX8_entersBy rfl rfl
theorem dX8_entersBy_216 : decode cX8_entersBy 216 = .ok (.istore 9, 2) := D_54 yB_cX8_entersBy rfl rfl rfl
theorem dX8_entersBy_218 : decode cX8_entersBy 218 = .ok (.iload_n 3, 1) := D_29 yB_cX8_entersBy rfl rfl
theorem dX8_entersBy_219 : decode cX8_entersBy 219 = .ok (.iconst 4, 1) := D_7 yB_cX8_entersBy rfl rfl
theorem dX8_entersBy_220 : decode cX8_entersBy 220 = .ok (.if_icmp .eq 31, 3) := D_159 yB_cX8_entersBy rfl rfl (sg_p (m := 32768) (N := 31) rfl rfl rfl)
theorem dX8_entersBy_223 : decode cX8_entersBy 223 = .ok (.iload 9, 2) := D_21 yB_cX8_entersBy rfl rfl rfl
theorem dX8_entersBy_225 : decode cX8_entersBy 225 = .ok (.ifCond .eq 26, 3) := D_153 yB_cX8_entersBy rfl rfl (sg_p (m := 32768) (N := 26) rfl rfl rfl)
theorem dX8_entersBy_228 : decode cX8_entersBy 228 = .ok (.iload 9, 2) := D_21 yB_cX8_entersBy rfl rfl rfl
theorem dX8_entersBy_230 : decode cX8_entersBy 230 = .ok (.aload_n 0, 1) := D_42 yB_cX8_entersBy rfl rfl
theorem dX8_entersBy_231 : decode cX8_entersBy 231 = .ok (.iconst 0, 1) := D_3 yB_cX8_entersBy rfl rfl
theorem dX8_entersBy_232 : decode cX8_entersBy 232 = .ok (.iaload, 1) := D_46 yB_cX8_entersBy rfl rfl
theorem dX8_entersBy_233 : decode cX8_entersBy 233 = .ok (.if_icmp .eq 18, 3) := D_159 yB_cX8_entersBy rfl rfl (sg_p (m := 32768) (N := 18) rfl rfl rfl)
theorem dX8_entersBy_236 : decode cX8_entersBy 236 = .ok (.aload_n 0, 1) := D_42 yB_cX8_entersBy rfl rfl
theorem dX8_entersBy_237 : decode cX8_entersBy 237 = .ok (.iload 8, 2) := D_21 yB_cX8_entersBy rfl rfl rfl
theorem dX8_entersBy_239 : decode cX8_entersBy 239 = .ok (.invokestatic 148, 3) := D_184 yB_cX8_entersBy rfl rfl rfl
theorem dX8_entersBy_242 : decode cX8_entersBy 242 = .ok (.aload_n 0, 1) := D_42 yB_cX8_entersBy rfl rfl
theorem dX8_entersBy_243 : decode cX8_entersBy 243 = .ok (.iconst 5, 1) := D_8 yB_cX8_entersBy rfl rfl
theorem dX8_entersBy_244 : decode cX8_entersBy 244 = .ok (.iload 9, 2) := D_21 yB_cX8_entersBy rfl rfl rfl
theorem dX8_entersBy_246 : decode cX8_entersBy 246 = .ok (.iadd, 1) := D_96 yB_cX8_entersBy rfl rfl
theorem dX8_entersBy_247 : decode cX8_entersBy 247 = .ok (.iaload, 1) := D_46 yB_cX8_entersBy rfl rfl
theorem dX8_entersBy_248 : decode cX8_entersBy 248 = .ok (.if_icmp .ge 7, 3) := D_162 yB_cX8_entersBy rfl rfl (sg_p (m := 32768) (N := 7) rfl rfl rfl)
theorem dX8_entersBy_251 : decode cX8_entersBy 251 = .ok (.iconst 1, 1) := D_4 yB_cX8_entersBy rfl rfl
theorem dX8_entersBy_252 : decode cX8_entersBy 252 = .ok (.goto 4, 3) := D_167 yB_cX8_entersBy rfl rfl (sg_p (m := 32768) (N := 4) rfl rfl rfl)
theorem dX8_entersBy_255 : decode cX8_entersBy 255 = .ok (.iconst 0, 1) := D_3 yB_cX8_entersBy rfl rfl
theorem dX8_entersBy_256 : decode cX8_entersBy 256 = .ok (.ireturn, 1) := D_172 yB_cX8_entersBy rfl rfl
def F_X8_entersBy_117 (σ : Mem) (a1 : Nat) (x2 : Int32) (x3 : Int32)  : Nat → Int32 → Int32 → Int32 → Int32 → Int32 → Int32 → Int32 → Option (Int32)
  | 0, _, _, _, _, _, _, _ => none
  | nn + 1, v9, v8, v7, v6, v5, v4, v3 => if (σ a1 1) ≤ v9 then (if v3 = 4 then (some 1) else (if (v7 + v5) = 0 then (some 1) else (if (v7 + v5) = (σ a1 0) then (some 1) else ((F_X8_cartsAt σ a1 v8).bind fun r_14 => (ix 121 (5 + (v7 + v5))).bind fun k_15 => if (σ a1 k_15) ≤ r_14 then (some 0) else (some 1))))) else ((F_X8_isOn σ a1 v9).bind fun r_17 => if r_17 = 0 then (F_X8_entersBy_117 σ a1 x2 x3 nn (v9 + 1) v8 v7 v6 v5 v4 v3) else ((F_X8_get σ a1 v9 0).bind fun r_19 => if r_19 = v5 then (F_X8_entersBy_117 σ a1 x2 x3 nn (v9 + 1) v8 v7 v6 v5 v4 v3) else ((F_X8_get σ a1 v9 5).bind fun r_21 => if ((r_21 - v6) * v5) ≤ 0 then (if ((r_21 - v6) * v5) < ((v8 - v6) * v5) then (F_X8_entersBy_117 σ a1 x2 x3 nn (v9 + 1) v8 v7 v6 v5 v4 v3) else (if (((v8 - v6) * v5) + v4) ≤ ((r_21 - v6) * v5) then (F_X8_entersBy_117 σ a1 x2 x3 nn (v9 + 1) v8 v7 v6 v5 v4 v3) else (some 0))) else (if ((r_21 - v6) * v5) < ((v8 - v6) * v5) then (some 0) else (if ((r_21 - v6) * v5) < ((v8 - v6) * v5) then (F_X8_entersBy_117 σ a1 x2 x3 nn (v9 + 1) v8 v7 v6 v5 v4 v3) else (if (((v8 - v6) * v5) + v4) ≤ ((r_21 - v6) * v5) then (F_X8_entersBy_117 σ a1 x2 x3 nn (v9 + 1) v8 v7 v6 v5 v4 v3) else (some 0)))))))
def F_X8_entersBy_117b (σ : Mem) (a1 : Nat) (x2 : Int32) (x3 : Int32)  : Nat → Int32 → Int32 → Int32 → Int32 → Int32 → Int32 → Int32 → Option (Int32)
  | 0, _, _, _, _, _, _, _ => none
  | nn + 1, v9, v8, v7, v6, v5, v4, v3 => if (σ a1 1) ≤ v9 then (if v3 = 4 then (some 1) else (if (v7 + v5) = 0 then (some 1) else (if (v7 + v5) = (σ a1 0) then (some 1) else ((F_X8_cartsAt σ a1 v8).bind fun r_36 => (ix 121 (5 + (v7 + v5))).bind fun k_37 => if (σ a1 k_37) ≤ r_36 then (some 0) else (some 1))))) else ((F_X8_isOn σ a1 v9).bind fun r_39 => if r_39 = 0 then (F_X8_entersBy_117b σ a1 x2 x3 nn (v9 + 1) v8 v7 v6 v5 v4 v3) else ((F_X8_get σ a1 v9 0).bind fun r_41 => if r_41 = v5 then (F_X8_entersBy_117b σ a1 x2 x3 nn (v9 + 1) v8 v7 v6 v5 v4 v3) else ((F_X8_get σ a1 v9 5).bind fun r_43 => if ((r_43 - v6) * v5) ≤ 0 then (if ((r_43 - v6) * v5) < ((v8 - v6) * v5) then (F_X8_entersBy_117b σ a1 x2 x3 nn (v9 + 1) v8 v7 v6 v5 v4 v3) else (if (((v8 - v6) * v5) + v4) ≤ ((r_43 - v6) * v5) then (F_X8_entersBy_117b σ a1 x2 x3 nn (v9 + 1) v8 v7 v6 v5 v4 v3) else (some 0))) else (if ((r_43 - v6) * v5) < ((v8 - v6) * v5) then (some 0) else (if ((r_43 - v6) * v5) < ((v8 - v6) * v5) then (F_X8_entersBy_117b σ a1 x2 x3 nn (v9 + 1) v8 v7 v6 v5 v4 v3) else (if (((v8 - v6) * v5) + v4) ≤ ((r_43 - v6) * v5) then (F_X8_entersBy_117b σ a1 x2 x3 nn (v9 + 1) v8 v7 v6 v5 v4 v3) else (some 0)))))))
def F_X8_entersBy (σ : Mem) (a1 : Nat) (x2 : Int32) (x3 : Int32) : Option (Int32) := (F_X8_kindOf σ a1 x3).bind fun r_1 => (ix 121 ((38 + (2 * x3)) + 1)).bind fun k_2 => (F_X8_get σ a1 x2 0).bind fun r_3 => (F_X8_get σ a1 x2 5).bind fun r_4 => if r_1 = 3 then ((F_X8_origin σ a1 x2).bind fun r_50 => if r_4 = r_50 then (ck (¬ (10 * ((σ a1 k_2) + 1)) = 0) <| if r_3 ≤ 0 then (if (((σ a1 2) / (10 * ((σ a1 k_2) + 1))) - ((σ a1 2) / (10 * ((σ a1 k_2) + 1))) / 2 * 2) = 1 then (some 1) else (some 0)) else (if (((σ a1 2) / (10 * ((σ a1 k_2) + 1))) - ((σ a1 2) / (10 * ((σ a1 k_2) + 1))) / 2 * 2) = 0 then (some 1) else (some 0))) else (some 1)) else (if r_1 = 4 then ((F_X8_placeAt σ a1 r_4).bind fun r_7 => (F_X8_spotOf σ a1 (r_7 + r_3)).bind fun r_8 => F_X8_entersBy_117 σ a1 x2 x3 FU 0 r_8 r_7 r_4 r_3 (σ a1 k_2) r_1) else (if r_1 = 5 then ((F_X8_placeAt σ a1 r_4).bind fun r_29 => (F_X8_spotOf σ a1 (r_29 + r_3)).bind fun r_30 => F_X8_entersBy_117b σ a1 x2 x3 FU 0 r_30 r_29 r_4 r_3 (σ a1 k_2) r_1) else (some 1)))
set_option maxHeartbeats 4000000 in
set_option maxRecDepth 100000 in
theorem c_X8_entersBy (l : Launch) (D : va_G) (cA : Nat → ClassId) (ad : Nat → Nat) (o : Int64) (σ : Mem) (a1 : Nat) (x2 : Int32) (x3 : Int32) (ha1 : a1 < 106 ∧ kd a1 = (9, 121)) (res : Int32) (h : F_X8_entersBy σ a1 x2 x3 = some res) (sz : Nat) : Met l yX8_entersBy (WY yX8_entersBy cX8_entersBy 12 (some .boolean)) (RM 3) (va_Pc [.ref (ad a1), .int x2, .int x3] (PW D cA ad o σ sz)) (va_Qi (fun r σ9 => r = res ∧ σ9 = σ) (QW D cA ad o) (FA ad sz)) 0 0 (FA ad sz) := by
  refine ct_of (own := RX8) (k := 3) (Qf := va_Qi (fun r σ9 => r = res ∧ σ9 = σ) (QW D cA ad o)) rfl (by decide) (Nat.le_of_ble_eq_true rfl) (fun p e s m below meth c ls C0 X hr hlk hP hl => ?_) sz
  have hS : va_S (FA ad s.heap.size) s.heap s.heap [] := va_S.rf
  have hl : lv_has ls 12 [(0, .ref (ad a1)), (1, .int x2), (2, .int x3)] := hl
  obtain ⟨hx, hb, hml, hown, hts⟩ := id C0
  unfold F_X8_entersBy at h
  refine lv_aload_n hx hb dX8_entersBy_0 rfl (lv_at hl 0 rfl) ?_
  refine lv_iload_n hx hb dX8_entersBy_1 rfl (lv_at hl 2 rfl) ?_
  obtain ⟨r_1, er_1, h⟩ := bnd h
  refine r_ci X hS (r_runS (As := [.ref (ad a1), .int x3]) (rest := []) C0 X hP L_X8_151 (fun sz => c_X8_kindOf l D cA ad o σ a1 x3 ha1 r_1 er_1 sz) ⟨Nat.le_of_ble_eq_true rfl, Nat.le_of_ble_eq_true rfl⟩ rfl hl.1 rfl (Nat.le_of_ble_eq_true rfl) dX8_entersBy_2 ⟨Nat.zero_le _, Nat.zero_le _⟩) (fun r9 σ9 H locs hw hP hS => ?_)
  rw [hw.2] at hP
  rw [hw.1]
  refine lv_istore_n (lv' := [(3, .int r_1), (0, .ref (ad a1)), (1, .int x2), (2, .int x3)]) hx hb dX8_entersBy_5 rfl hl (by decide) rfl (fun ls hl => ?_)
  refine lv_aload_n hx hb dX8_entersBy_6 rfl (lv_at hl 1 rfl) ?_
  refine lv_bipush (v := 38) hx hb dX8_entersBy_7 (by decide) ?_
  refine lv_iconst (v := 2) hx hb dX8_entersBy_9 (by decide) ?_
  refine lv_iload_n hx hb dX8_entersBy_10 rfl (lv_at hl 3 rfl) ?_
  refine lv_imul hx hb dX8_entersBy_11 ?_
  refine lv_iadd hx hb dX8_entersBy_12 ?_
  refine lv_iconst (v := 1) hx hb dX8_entersBy_13 (by decide) ?_
  refine lv_iadd hx hb dX8_entersBy_14 ?_
  obtain ⟨k_2, ek_2, h⟩ := bnd h
  replace ek_2 := ix_s ek_2 (by decide)
  refine r_ialdN C0 X hP a1 (k := k_2) ha1 ek_2.1 ek_2.2 dX8_entersBy_15 ?_
  refine lv_istore (lv' := [(4, .int (σ a1 k_2)), (3, .int r_1), (0, .ref (ad a1)), (1, .int x2), (2, .int x3)]) hx hb dX8_entersBy_16 hl (by decide) rfl (fun ls hl => ?_)
  refine lv_aload_n hx hb dX8_entersBy_18 rfl (lv_at hl 2 rfl) ?_
  refine lv_iload_n hx hb dX8_entersBy_19 rfl (lv_at hl 3 rfl) ?_
  refine lv_iconst (v := 0) hx hb dX8_entersBy_20 (by decide) ?_
  obtain ⟨r_3, er_3, h⟩ := bnd h
  refine r_ci X hS (r_runS (As := [.ref (ad a1), .int x2, .int 0]) (rest := []) C0 X hP L_X8_130 (fun sz => c_X8_get l D cA ad o σ a1 x2 0 ha1 r_3 er_3 sz) ⟨Nat.le_of_ble_eq_true rfl, Nat.le_of_ble_eq_true rfl⟩ rfl hl.1 rfl (Nat.le_of_ble_eq_true rfl) dX8_entersBy_21 ⟨Nat.zero_le _, Nat.zero_le _⟩) (fun r9 σ9 H locs hw hP hS => ?_)
  rw [hw.2] at hP
  rw [hw.1]
  refine lv_istore (lv' := [(5, .int r_3), (4, .int (σ a1 k_2)), (3, .int r_1), (0, .ref (ad a1)), (1, .int x2), (2, .int x3)]) hx hb dX8_entersBy_24 hl (by decide) rfl (fun ls hl => ?_)
  refine lv_aload_n hx hb dX8_entersBy_26 rfl (lv_at hl 3 rfl) ?_
  refine lv_iload_n hx hb dX8_entersBy_27 rfl (lv_at hl 4 rfl) ?_
  refine lv_iconst (v := 5) hx hb dX8_entersBy_28 (by decide) ?_
  obtain ⟨r_4, er_4, h⟩ := bnd h
  refine r_ci X hS (r_runS (As := [.ref (ad a1), .int x2, .int 5]) (rest := []) C0 X hP L_X8_130 (fun sz => c_X8_get l D cA ad o σ a1 x2 5 ha1 r_4 er_4 sz) ⟨Nat.le_of_ble_eq_true rfl, Nat.le_of_ble_eq_true rfl⟩ rfl hl.1 rfl (Nat.le_of_ble_eq_true rfl) dX8_entersBy_29 ⟨Nat.zero_le _, Nat.zero_le _⟩) (fun r9 σ9 H locs hw hP hS => ?_)
  rw [hw.2] at hP
  rw [hw.1]
  refine lv_istore (lv' := [(6, .int r_4), (5, .int r_3), (4, .int (σ a1 k_2)), (3, .int r_1), (0, .ref (ad a1)), (1, .int x2), (2, .int x3)]) hx hb dX8_entersBy_32 hl (by decide) rfl (fun ls hl => ?_)
  refine lv_iload_n hx hb dX8_entersBy_34 rfl (lv_at hl 3 rfl) ?_
  refine lv_iconst (v := 3) hx hb dX8_entersBy_35 (by decide) ?_
  refine lv_icmp_ne (tgt := 83) hx hb dX8_entersBy_36 (by decide) (fun c_5 => ?_) (fun c_5 => ?_)
  · replace h := it_f h c_5
    refine lv_iload_n hx hb dX8_entersBy_83 rfl (lv_at hl 3 rfl) ?_
    refine lv_iconst (v := 4) hx hb dX8_entersBy_84 (by decide) ?_
    refine lv_icmp_eq (tgt := 95) hx hb dX8_entersBy_85 (by decide) (fun c_6 => ?_) (fun c_6 => ?_)
    · replace h := it_t h c_6
      refine lv_aload_n hx hb dX8_entersBy_95 rfl (lv_at hl 4 rfl) ?_
      refine lv_iload hx hb dX8_entersBy_96 (lv_at hl 0 rfl) ?_
      obtain ⟨r_7, er_7, h⟩ := bnd h
      refine r_ci X hS (r_runS (As := [.ref (ad a1), .int r_4]) (rest := []) C0 X hP L_X8_145 (fun sz => c_X8_placeAt l D cA ad o σ a1 r_4 ha1 r_7 er_7 sz) ⟨Nat.le_of_ble_eq_true rfl, Nat.le_of_ble_eq_true rfl⟩ rfl hl.1 rfl (Nat.le_of_ble_eq_true rfl) dX8_entersBy_98 ⟨Nat.zero_le _, Nat.zero_le _⟩) (fun r9 σ9 H locs hw hP hS => ?_)
      rw [hw.2] at hP
      rw [hw.1]
      refine lv_istore (lv' := [(7, .int r_7), (6, .int r_4), (5, .int r_3), (4, .int (σ a1 k_2)), (3, .int r_1), (0, .ref (ad a1)), (1, .int x2), (2, .int x3)]) hx hb dX8_entersBy_101 hl (by decide) rfl (fun ls hl => ?_)
      refine lv_aload_n hx hb dX8_entersBy_103 rfl (lv_at hl 5 rfl) ?_
      refine lv_iload hx hb dX8_entersBy_104 (lv_at hl 0 rfl) ?_
      refine lv_iload hx hb dX8_entersBy_106 (lv_at hl 2 rfl) ?_
      refine lv_iadd hx hb dX8_entersBy_108 ?_
      obtain ⟨r_8, er_8, h⟩ := bnd h
      refine r_ci X hS (r_runS (As := [.ref (ad a1), .int (r_7 + r_3)]) (rest := []) C0 X hP L_X8_118 (fun sz => c_X8_spotOf l D cA ad o σ a1 (r_7 + r_3) ha1 r_8 er_8 sz) ⟨Nat.le_of_ble_eq_true rfl, Nat.le_of_ble_eq_true rfl⟩ rfl hl.1 rfl (Nat.le_of_ble_eq_true rfl) dX8_entersBy_109 ⟨Nat.zero_le _, Nat.zero_le _⟩) (fun r9 σ9 H locs hw hP hS => ?_)
      rw [hw.2] at hP
      rw [hw.1]
      refine lv_istore (lv' := [(8, .int r_8), (7, .int r_7), (6, .int r_4), (5, .int r_3), (4, .int (σ a1 k_2)), (3, .int r_1), (0, .ref (ad a1)), (1, .int x2), (2, .int x3)]) hx hb dX8_entersBy_112 hl (by decide) rfl (fun ls hl => ?_)
      refine lv_iconst (v := 0) hx hb dX8_entersBy_114 (by decide) ?_
      refine lv_istore (lv' := [(9, .int 0), (8, .int r_8), (7, .int r_7), (6, .int r_4), (5, .int r_3), (4, .int (σ a1 k_2)), (3, .int r_1), (0, .ref (ad a1)), (1, .int x2), (2, .int x3)]) hx hb dX8_entersBy_115 hl (by decide) rfl (fun ls hl => ?_)
      have lp_9 : ∀ (nn117 : Nat) (v9 : Int32) (v8 : Int32) (v7 : Int32) (v6 : Int32) (v5 : Int32) (v4 : Int32) (v3 : Int32) (H : Heap) (locs : List Loc) (ls : Array Slot), F_X8_entersBy_117 σ a1 x2 x3 nn117 v9 v8 v7 v6 v5 v4 v3 = some res → WP D cA ad o σ H → va_S (FA ad s.heap.size) s.heap H locs → lv_has ls 12 [(9, .int v9), (8, .int v8), (7, .int v7), (6, .int v6), (5, .int v5), (4, .int v4), (3, .int v3), (0, .ref (ad a1)), (1, .int x2), (2, .int x3)] → W p l e (RM 3) s m ([.ref (ad a1), .int x2, .int x3] : List Value).toArray below meth c H locs 0 0 (MQ below (va_Qi (fun r σ9 => r = res ∧ σ9 = σ) (QW D cA ad o) (FA ad s.heap.size)) ([.ref (ad a1), .int x2, .int x3] : List Value).toArray s 0 0 (FA ad s.heap.size)) (F0 m 117 ls []) := by
        intro nn117
        induction nn117 with
        | zero => intro v9 v8 v7 v6 v5 v4 v3 H locs ls h hP hS hl; exact absurd (show none = some res from h) nofun
        | succ nn117 ih117 =>
          intro v9 v8 v7 v6 v5 v4 v3 H locs ls h hP hS hl
          replace h := (F_X8_entersBy_117.eq_2 _ _ _ _ _ _ _ _ _ _ _ _).symm.trans h
          refine lv_iload hx hb dX8_entersBy_117 (lv_at hl 0 rfl) ?_
          refine lv_aload_n hx hb dX8_entersBy_119 rfl (lv_at hl 7 rfl) ?_
          refine lv_iconst (v := 1) hx hb dX8_entersBy_120 (by decide) ?_
          refine r_ialdN C0 X hP a1 (k := 1) ha1 rfl (by decide) dX8_entersBy_121 ?_
          refine lv_icmp_ge (tgt := 211) hx hb dX8_entersBy_122 (by decide) (fun c_10 => ?_) (fun c_10 => ?_)
          · replace h := it_t h c_10
            refine lv_iload hx hb dX8_entersBy_211 (lv_at hl 2 rfl) ?_
            refine lv_iload hx hb dX8_entersBy_213 (lv_at hl 4 rfl) ?_
            refine lv_iadd hx hb dX8_entersBy_215 ?_
            refine lv_istore (lv' := [(9, .int (v7 + v5)), (8, .int v8), (7, .int v7), (6, .int v6), (5, .int v5), (4, .int v4), (3, .int v3), (0, .ref (ad a1)), (1, .int x2), (2, .int x3)]) hx hb dX8_entersBy_216 hl (by decide) rfl (fun ls hl => ?_)
            refine lv_iload_n hx hb dX8_entersBy_218 rfl (lv_at hl 6 rfl) ?_
            refine lv_iconst (v := 4) hx hb dX8_entersBy_219 (by decide) ?_
            refine lv_icmp_eq (tgt := 251) hx hb dX8_entersBy_220 (by decide) (fun c_11 => ?_) (fun c_11 => ?_)
            · replace h := it_t h c_11
              refine lv_iconst (v := 1) hx hb dX8_entersBy_251 (by decide) ?_
              refine lv_goto (tgt := 256) hx hb dX8_entersBy_252 (by decide) ?_
              exact r_zret C0 X hP hS hr hlk dX8_entersBy_256 (Or.inr rfl) ⟨Option.some.inj h, rfl⟩
            · replace h := it_f h c_11
              refine lv_iload hx hb dX8_entersBy_223 (lv_at hl 0 rfl) ?_
              refine lv_if_eq (tgt := 251) hx hb dX8_entersBy_225 (by decide) (fun c_12 => ?_) (fun c_12 => ?_)
              · replace h := it_t h c_12
                refine lv_iconst (v := 1) hx hb dX8_entersBy_251 (by decide) ?_
                refine lv_goto (tgt := 256) hx hb dX8_entersBy_252 (by decide) ?_
                exact r_zret C0 X hP hS hr hlk dX8_entersBy_256 (Or.inr rfl) ⟨Option.some.inj h, rfl⟩
              · replace h := it_f h c_12
                refine lv_iload hx hb dX8_entersBy_228 (lv_at hl 0 rfl) ?_
                refine lv_aload_n hx hb dX8_entersBy_230 rfl (lv_at hl 7 rfl) ?_
                refine lv_iconst (v := 0) hx hb dX8_entersBy_231 (by decide) ?_
                refine r_ialdN C0 X hP a1 (k := 0) ha1 rfl (by decide) dX8_entersBy_232 ?_
                refine lv_icmp_eq (tgt := 251) hx hb dX8_entersBy_233 (by decide) (fun c_13 => ?_) (fun c_13 => ?_)
                · replace h := it_t h c_13
                  refine lv_iconst (v := 1) hx hb dX8_entersBy_251 (by decide) ?_
                  refine lv_goto (tgt := 256) hx hb dX8_entersBy_252 (by decide) ?_
                  exact r_zret C0 X hP hS hr hlk dX8_entersBy_256 (Or.inr rfl) ⟨Option.some.inj h, rfl⟩
                · replace h := it_f h c_13
                  refine lv_aload_n hx hb dX8_entersBy_236 rfl (lv_at hl 7 rfl) ?_
                  refine lv_iload hx hb dX8_entersBy_237 (lv_at hl 1 rfl) ?_
                  obtain ⟨r_14, er_14, h⟩ := bnd h
                  refine r_ci X hS (r_runS (As := [.ref (ad a1), .int v8]) (rest := []) C0 X hP L_X8_148 (fun sz => c_X8_cartsAt l D cA ad o σ a1 v8 ha1 r_14 er_14 sz) ⟨Nat.le_of_ble_eq_true rfl, Nat.le_of_ble_eq_true rfl⟩ rfl hl.1 rfl (Nat.le_of_ble_eq_true rfl) dX8_entersBy_239 ⟨Nat.zero_le _, Nat.zero_le _⟩) (fun r9 σ9 H locs hw hP hS => ?_)
                  rw [hw.2] at hP
                  rw [hw.1]
                  refine lv_aload_n hx hb dX8_entersBy_242 rfl (lv_at hl 7 rfl) ?_
                  refine lv_iconst (v := 5) hx hb dX8_entersBy_243 (by decide) ?_
                  refine lv_iload hx hb dX8_entersBy_244 (lv_at hl 0 rfl) ?_
                  refine lv_iadd hx hb dX8_entersBy_246 ?_
                  obtain ⟨k_15, ek_15, h⟩ := bnd h
                  replace ek_15 := ix_s ek_15 (by decide)
                  refine r_ialdN C0 X hP a1 (k := k_15) ha1 ek_15.1 ek_15.2 dX8_entersBy_247 ?_
                  refine lv_icmp_ge (tgt := 255) hx hb dX8_entersBy_248 (by decide) (fun c_16 => ?_) (fun c_16 => ?_)
                  · replace h := it_t h c_16
                    refine lv_iconst (v := 0) hx hb dX8_entersBy_255 (by decide) ?_
                    exact r_zret C0 X hP hS hr hlk dX8_entersBy_256 (Or.inl rfl) ⟨Option.some.inj h, rfl⟩
                  · replace h := it_f h c_16
                    refine lv_iconst (v := 1) hx hb dX8_entersBy_251 (by decide) ?_
                    refine lv_goto (tgt := 256) hx hb dX8_entersBy_252 (by decide) ?_
                    exact r_zret C0 X hP hS hr hlk dX8_entersBy_256 (Or.inr rfl) ⟨Option.some.inj h, rfl⟩
          · replace h := it_f h c_10
            refine lv_aload_n hx hb dX8_entersBy_125 rfl (lv_at hl 7 rfl) ?_
            refine lv_iload hx hb dX8_entersBy_126 (lv_at hl 0 rfl) ?_
            obtain ⟨r_17, er_17, h⟩ := bnd h
            refine r_ci X hS (r_runS (As := [.ref (ad a1), .int v9]) (rest := []) C0 X hP L_X8_157 (fun sz => c_X8_isOn l D cA ad o σ a1 v9 ha1 r_17 er_17 sz) ⟨Nat.le_of_ble_eq_true rfl, Nat.le_of_ble_eq_true rfl⟩ rfl hl.1 rfl (Nat.le_of_ble_eq_true rfl) dX8_entersBy_128 ⟨Nat.zero_le _, Nat.zero_le _⟩) (fun r9 σ9 H locs hw hP hS => ?_)
            rw [hw.2] at hP
            rw [hw.1]
            refine lv_if_eq (tgt := 205) hx hb dX8_entersBy_131 (by decide) (fun c_18 => ?_) (fun c_18 => ?_)
            · replace h := it_t h c_18
              refine lv_iinc (v := (v9 + 1)) (lv' := [(9, .int (v9 + 1)), (8, .int v8), (7, .int v7), (6, .int v6), (5, .int v5), (4, .int v4), (3, .int v3), (0, .ref (ad a1)), (1, .int x2), (2, .int x3)]) hx hb dX8_entersBy_205 hl (k := 0) rfl rfl (by decide) rfl (fun ls hl => ?_)
              refine lv_goto (tgt := 117) hx hb dX8_entersBy_208 (by decide) ?_
              exact ih117 (v9 + 1) v8 v7 v6 v5 v4 v3 _ _ ls  h hP hS (lv_sub hl [0, 1, 2, 3, 4, 5, 6, 7, 8, 9] rfl)
            · replace h := it_f h c_18
              refine lv_aload_n hx hb dX8_entersBy_134 rfl (lv_at hl 7 rfl) ?_
              refine lv_iload hx hb dX8_entersBy_135 (lv_at hl 0 rfl) ?_
              refine lv_iconst (v := 0) hx hb dX8_entersBy_137 (by decide) ?_
              obtain ⟨r_19, er_19, h⟩ := bnd h
              refine r_ci X hS (r_runS (As := [.ref (ad a1), .int v9, .int 0]) (rest := []) C0 X hP L_X8_130 (fun sz => c_X8_get l D cA ad o σ a1 v9 0 ha1 r_19 er_19 sz) ⟨Nat.le_of_ble_eq_true rfl, Nat.le_of_ble_eq_true rfl⟩ rfl hl.1 rfl (Nat.le_of_ble_eq_true rfl) dX8_entersBy_138 ⟨Nat.zero_le _, Nat.zero_le _⟩) (fun r9 σ9 H locs hw hP hS => ?_)
              rw [hw.2] at hP
              rw [hw.1]
              refine lv_iload hx hb dX8_entersBy_141 (lv_at hl 4 rfl) ?_
              refine lv_icmp_ne (tgt := 149) hx hb dX8_entersBy_143 (by decide) (fun c_20 => ?_) (fun c_20 => ?_)
              · replace h := it_f h c_20
                refine lv_aload_n hx hb dX8_entersBy_149 rfl (lv_at hl 7 rfl) ?_
                refine lv_iload hx hb dX8_entersBy_150 (lv_at hl 0 rfl) ?_
                refine lv_iconst (v := 5) hx hb dX8_entersBy_152 (by decide) ?_
                obtain ⟨r_21, er_21, h⟩ := bnd h
                refine r_ci X hS (r_runS (As := [.ref (ad a1), .int v9, .int 5]) (rest := []) C0 X hP L_X8_130 (fun sz => c_X8_get l D cA ad o σ a1 v9 5 ha1 r_21 er_21 sz) ⟨Nat.le_of_ble_eq_true rfl, Nat.le_of_ble_eq_true rfl⟩ rfl hl.1 rfl (Nat.le_of_ble_eq_true rfl) dX8_entersBy_153 ⟨Nat.zero_le _, Nat.zero_le _⟩) (fun r9 σ9 H locs hw hP hS => ?_)
                rw [hw.2] at hP
                rw [hw.1]
                refine lv_iload hx hb dX8_entersBy_156 (lv_at hl 3 rfl) ?_
                refine lv_isub hx hb dX8_entersBy_158 ?_
                refine lv_iload hx hb dX8_entersBy_159 (lv_at hl 4 rfl) ?_
                refine lv_imul hx hb dX8_entersBy_161 ?_
                refine lv_istore (lv' := [(10, .int ((r_21 - v6) * v5)), (9, .int v9), (8, .int v8), (7, .int v7), (6, .int v6), (5, .int v5), (4, .int v4), (3, .int v3), (0, .ref (ad a1)), (1, .int x2), (2, .int x3)]) hx hb dX8_entersBy_162 hl (by decide) rfl (fun ls hl => ?_)
                refine lv_iload hx hb dX8_entersBy_164 (lv_at hl 2 rfl) ?_
                refine lv_iload hx hb dX8_entersBy_166 (lv_at hl 4 rfl) ?_
                refine lv_isub hx hb dX8_entersBy_168 ?_
                refine lv_iload hx hb dX8_entersBy_169 (lv_at hl 5 rfl) ?_
                refine lv_imul hx hb dX8_entersBy_171 ?_
                refine lv_istore (lv' := [(11, .int ((v8 - v6) * v5)), (10, .int ((r_21 - v6) * v5)), (9, .int v9), (8, .int v8), (7, .int v7), (6, .int v6), (5, .int v5), (4, .int v4), (3, .int v3), (0, .ref (ad a1)), (1, .int x2), (2, .int x3)]) hx hb dX8_entersBy_172 hl (by decide) rfl (fun ls hl => ?_)
                refine lv_iload hx hb dX8_entersBy_174 (lv_at hl 1 rfl) ?_
                refine lv_if_le (tgt := 186) hx hb dX8_entersBy_176 (by decide) (fun c_22 => ?_) (fun c_22 => ?_)
                · replace h := it_t h c_22
                  refine lv_iload hx hb dX8_entersBy_186 (lv_at hl 1 rfl) ?_
                  refine lv_iload hx hb dX8_entersBy_188 (lv_at hl 0 rfl) ?_
                  refine lv_icmp_lt (tgt := 205) hx hb dX8_entersBy_190 (by decide) (fun c_23 => ?_) (fun c_23 => ?_)
                  · replace h := it_t h c_23
                    refine lv_iinc (v := (v9 + 1)) (lv' := [(9, .int (v9 + 1)), (11, .int ((v8 - v6) * v5)), (10, .int ((r_21 - v6) * v5)), (8, .int v8), (7, .int v7), (6, .int v6), (5, .int v5), (4, .int v4), (3, .int v3), (0, .ref (ad a1)), (1, .int x2), (2, .int x3)]) hx hb dX8_entersBy_205 hl (k := 2) rfl rfl (by decide) rfl (fun ls hl => ?_)
                    refine lv_goto (tgt := 117) hx hb dX8_entersBy_208 (by decide) ?_
                    exact ih117 (v9 + 1) v8 v7 v6 v5 v4 v3 _ _ ls  h hP hS (lv_sub hl [0, 3, 4, 5, 6, 7, 8, 9, 10, 11] rfl)
                  · replace h := it_f h c_23
                    refine lv_iload hx hb dX8_entersBy_193 (lv_at hl 1 rfl) ?_
                    refine lv_iload hx hb dX8_entersBy_195 (lv_at hl 0 rfl) ?_
                    refine lv_iload hx hb dX8_entersBy_197 (lv_at hl 7 rfl) ?_
                    refine lv_iadd hx hb dX8_entersBy_199 ?_
                    refine lv_icmp_ge (tgt := 205) hx hb dX8_entersBy_200 (by decide) (fun c_24 => ?_) (fun c_24 => ?_)
                    · replace h := it_t h c_24
                      refine lv_iinc (v := (v9 + 1)) (lv' := [(9, .int (v9 + 1)), (11, .int ((v8 - v6) * v5)), (10, .int ((r_21 - v6) * v5)), (8, .int v8), (7, .int v7), (6, .int v6), (5, .int v5), (4, .int v4), (3, .int v3), (0, .ref (ad a1)), (1, .int x2), (2, .int x3)]) hx hb dX8_entersBy_205 hl (k := 2) rfl rfl (by decide) rfl (fun ls hl => ?_)
                      refine lv_goto (tgt := 117) hx hb dX8_entersBy_208 (by decide) ?_
                      exact ih117 (v9 + 1) v8 v7 v6 v5 v4 v3 _ _ ls  h hP hS (lv_sub hl [0, 3, 4, 5, 6, 7, 8, 9, 10, 11] rfl)
                    · replace h := it_f h c_24
                      refine lv_iconst (v := 0) hx hb dX8_entersBy_203 (by decide) ?_
                      exact r_zret C0 X hP hS hr hlk dX8_entersBy_204 (Or.inl rfl) ⟨Option.some.inj h, rfl⟩
                · replace h := it_f h c_22
                  refine lv_iload hx hb dX8_entersBy_179 (lv_at hl 1 rfl) ?_
                  refine lv_iload hx hb dX8_entersBy_181 (lv_at hl 0 rfl) ?_
                  refine lv_icmp_lt (tgt := 203) hx hb dX8_entersBy_183 (by decide) (fun c_25 => ?_) (fun c_25 => ?_)
                  · replace h := it_t h c_25
                    refine lv_iconst (v := 0) hx hb dX8_entersBy_203 (by decide) ?_
                    exact r_zret C0 X hP hS hr hlk dX8_entersBy_204 (Or.inl rfl) ⟨Option.some.inj h, rfl⟩
                  · replace h := it_f h c_25
                    refine lv_iload hx hb dX8_entersBy_186 (lv_at hl 1 rfl) ?_
                    refine lv_iload hx hb dX8_entersBy_188 (lv_at hl 0 rfl) ?_
                    refine lv_icmp_lt (tgt := 205) hx hb dX8_entersBy_190 (by decide) (fun c_26 => ?_) (fun c_26 => ?_)
                    · replace h := it_t h c_26
                      refine lv_iinc (v := (v9 + 1)) (lv' := [(9, .int (v9 + 1)), (11, .int ((v8 - v6) * v5)), (10, .int ((r_21 - v6) * v5)), (8, .int v8), (7, .int v7), (6, .int v6), (5, .int v5), (4, .int v4), (3, .int v3), (0, .ref (ad a1)), (1, .int x2), (2, .int x3)]) hx hb dX8_entersBy_205 hl (k := 2) rfl rfl (by decide) rfl (fun ls hl => ?_)
                      refine lv_goto (tgt := 117) hx hb dX8_entersBy_208 (by decide) ?_
                      exact ih117 (v9 + 1) v8 v7 v6 v5 v4 v3 _ _ ls  h hP hS (lv_sub hl [0, 3, 4, 5, 6, 7, 8, 9, 10, 11] rfl)
                    · replace h := it_f h c_26
                      refine lv_iload hx hb dX8_entersBy_193 (lv_at hl 1 rfl) ?_
                      refine lv_iload hx hb dX8_entersBy_195 (lv_at hl 0 rfl) ?_
                      refine lv_iload hx hb dX8_entersBy_197 (lv_at hl 7 rfl) ?_
                      refine lv_iadd hx hb dX8_entersBy_199 ?_
                      refine lv_icmp_ge (tgt := 205) hx hb dX8_entersBy_200 (by decide) (fun c_27 => ?_) (fun c_27 => ?_)
                      · replace h := it_t h c_27
                        refine lv_iinc (v := (v9 + 1)) (lv' := [(9, .int (v9 + 1)), (11, .int ((v8 - v6) * v5)), (10, .int ((r_21 - v6) * v5)), (8, .int v8), (7, .int v7), (6, .int v6), (5, .int v5), (4, .int v4), (3, .int v3), (0, .ref (ad a1)), (1, .int x2), (2, .int x3)]) hx hb dX8_entersBy_205 hl (k := 2) rfl rfl (by decide) rfl (fun ls hl => ?_)
                        refine lv_goto (tgt := 117) hx hb dX8_entersBy_208 (by decide) ?_
                        exact ih117 (v9 + 1) v8 v7 v6 v5 v4 v3 _ _ ls  h hP hS (lv_sub hl [0, 3, 4, 5, 6, 7, 8, 9, 10, 11] rfl)
                      · replace h := it_f h c_27
                        refine lv_iconst (v := 0) hx hb dX8_entersBy_203 (by decide) ?_
                        exact r_zret C0 X hP hS hr hlk dX8_entersBy_204 (Or.inl rfl) ⟨Option.some.inj h, rfl⟩
              · replace h := it_t h c_20
                refine lv_goto (tgt := 205) hx hb dX8_entersBy_146 (by decide) ?_
                refine lv_iinc (v := (v9 + 1)) (lv' := [(9, .int (v9 + 1)), (8, .int v8), (7, .int v7), (6, .int v6), (5, .int v5), (4, .int v4), (3, .int v3), (0, .ref (ad a1)), (1, .int x2), (2, .int x3)]) hx hb dX8_entersBy_205 hl (k := 0) rfl rfl (by decide) rfl (fun ls hl => ?_)
                refine lv_goto (tgt := 117) hx hb dX8_entersBy_208 (by decide) ?_
                exact ih117 (v9 + 1) v8 v7 v6 v5 v4 v3 _ _ ls  h hP hS (lv_sub hl [0, 1, 2, 3, 4, 5, 6, 7, 8, 9] rfl)
      exact lp_9 FU 0 r_8 r_7 r_4 r_3 (σ a1 k_2) r_1 _ _ ls  h hP hS (lv_sub hl [0, 1, 2, 3, 4, 5, 6, 7, 8, 9] rfl)
    · replace h := it_f h c_6
      refine lv_iload_n hx hb dX8_entersBy_88 rfl (lv_at hl 3 rfl) ?_
      refine lv_iconst (v := 5) hx hb dX8_entersBy_89 (by decide) ?_
      refine lv_icmp_eq (tgt := 95) hx hb dX8_entersBy_90 (by decide) (fun c_28 => ?_) (fun c_28 => ?_)
      · replace h := it_t h c_28
        refine lv_aload_n hx hb dX8_entersBy_95 rfl (lv_at hl 4 rfl) ?_
        refine lv_iload hx hb dX8_entersBy_96 (lv_at hl 0 rfl) ?_
        obtain ⟨r_29, er_29, h⟩ := bnd h
        refine r_ci X hS (r_runS (As := [.ref (ad a1), .int r_4]) (rest := []) C0 X hP L_X8_145 (fun sz => c_X8_placeAt l D cA ad o σ a1 r_4 ha1 r_29 er_29 sz) ⟨Nat.le_of_ble_eq_true rfl, Nat.le_of_ble_eq_true rfl⟩ rfl hl.1 rfl (Nat.le_of_ble_eq_true rfl) dX8_entersBy_98 ⟨Nat.zero_le _, Nat.zero_le _⟩) (fun r9 σ9 H locs hw hP hS => ?_)
        rw [hw.2] at hP
        rw [hw.1]
        refine lv_istore (lv' := [(7, .int r_29), (6, .int r_4), (5, .int r_3), (4, .int (σ a1 k_2)), (3, .int r_1), (0, .ref (ad a1)), (1, .int x2), (2, .int x3)]) hx hb dX8_entersBy_101 hl (by decide) rfl (fun ls hl => ?_)
        refine lv_aload_n hx hb dX8_entersBy_103 rfl (lv_at hl 5 rfl) ?_
        refine lv_iload hx hb dX8_entersBy_104 (lv_at hl 0 rfl) ?_
        refine lv_iload hx hb dX8_entersBy_106 (lv_at hl 2 rfl) ?_
        refine lv_iadd hx hb dX8_entersBy_108 ?_
        obtain ⟨r_30, er_30, h⟩ := bnd h
        refine r_ci X hS (r_runS (As := [.ref (ad a1), .int (r_29 + r_3)]) (rest := []) C0 X hP L_X8_118 (fun sz => c_X8_spotOf l D cA ad o σ a1 (r_29 + r_3) ha1 r_30 er_30 sz) ⟨Nat.le_of_ble_eq_true rfl, Nat.le_of_ble_eq_true rfl⟩ rfl hl.1 rfl (Nat.le_of_ble_eq_true rfl) dX8_entersBy_109 ⟨Nat.zero_le _, Nat.zero_le _⟩) (fun r9 σ9 H locs hw hP hS => ?_)
        rw [hw.2] at hP
        rw [hw.1]
        refine lv_istore (lv' := [(8, .int r_30), (7, .int r_29), (6, .int r_4), (5, .int r_3), (4, .int (σ a1 k_2)), (3, .int r_1), (0, .ref (ad a1)), (1, .int x2), (2, .int x3)]) hx hb dX8_entersBy_112 hl (by decide) rfl (fun ls hl => ?_)
        refine lv_iconst (v := 0) hx hb dX8_entersBy_114 (by decide) ?_
        refine lv_istore (lv' := [(9, .int 0), (8, .int r_30), (7, .int r_29), (6, .int r_4), (5, .int r_3), (4, .int (σ a1 k_2)), (3, .int r_1), (0, .ref (ad a1)), (1, .int x2), (2, .int x3)]) hx hb dX8_entersBy_115 hl (by decide) rfl (fun ls hl => ?_)
        have lp_31 : ∀ (nn117 : Nat) (v9 : Int32) (v8 : Int32) (v7 : Int32) (v6 : Int32) (v5 : Int32) (v4 : Int32) (v3 : Int32) (H : Heap) (locs : List Loc) (ls : Array Slot), F_X8_entersBy_117b σ a1 x2 x3 nn117 v9 v8 v7 v6 v5 v4 v3 = some res → WP D cA ad o σ H → va_S (FA ad s.heap.size) s.heap H locs → lv_has ls 12 [(9, .int v9), (8, .int v8), (7, .int v7), (6, .int v6), (5, .int v5), (4, .int v4), (3, .int v3), (0, .ref (ad a1)), (1, .int x2), (2, .int x3)] → W p l e (RM 3) s m ([.ref (ad a1), .int x2, .int x3] : List Value).toArray below meth c H locs 0 0 (MQ below (va_Qi (fun r σ9 => r = res ∧ σ9 = σ) (QW D cA ad o) (FA ad s.heap.size)) ([.ref (ad a1), .int x2, .int x3] : List Value).toArray s 0 0 (FA ad s.heap.size)) (F0 m 117 ls []) := by
          intro nn117
          induction nn117 with
          | zero => intro v9 v8 v7 v6 v5 v4 v3 H locs ls h hP hS hl; exact absurd (show none = some res from h) nofun
          | succ nn117 ih117 =>
            intro v9 v8 v7 v6 v5 v4 v3 H locs ls h hP hS hl
            replace h := (F_X8_entersBy_117b.eq_2 _ _ _ _ _ _ _ _ _ _ _ _).symm.trans h
            refine lv_iload hx hb dX8_entersBy_117 (lv_at hl 0 rfl) ?_
            refine lv_aload_n hx hb dX8_entersBy_119 rfl (lv_at hl 7 rfl) ?_
            refine lv_iconst (v := 1) hx hb dX8_entersBy_120 (by decide) ?_
            refine r_ialdN C0 X hP a1 (k := 1) ha1 rfl (by decide) dX8_entersBy_121 ?_
            refine lv_icmp_ge (tgt := 211) hx hb dX8_entersBy_122 (by decide) (fun c_32 => ?_) (fun c_32 => ?_)
            · replace h := it_t h c_32
              refine lv_iload hx hb dX8_entersBy_211 (lv_at hl 2 rfl) ?_
              refine lv_iload hx hb dX8_entersBy_213 (lv_at hl 4 rfl) ?_
              refine lv_iadd hx hb dX8_entersBy_215 ?_
              refine lv_istore (lv' := [(9, .int (v7 + v5)), (8, .int v8), (7, .int v7), (6, .int v6), (5, .int v5), (4, .int v4), (3, .int v3), (0, .ref (ad a1)), (1, .int x2), (2, .int x3)]) hx hb dX8_entersBy_216 hl (by decide) rfl (fun ls hl => ?_)
              refine lv_iload_n hx hb dX8_entersBy_218 rfl (lv_at hl 6 rfl) ?_
              refine lv_iconst (v := 4) hx hb dX8_entersBy_219 (by decide) ?_
              refine lv_icmp_eq (tgt := 251) hx hb dX8_entersBy_220 (by decide) (fun c_33 => ?_) (fun c_33 => ?_)
              · replace h := it_t h c_33
                refine lv_iconst (v := 1) hx hb dX8_entersBy_251 (by decide) ?_
                refine lv_goto (tgt := 256) hx hb dX8_entersBy_252 (by decide) ?_
                exact r_zret C0 X hP hS hr hlk dX8_entersBy_256 (Or.inr rfl) ⟨Option.some.inj h, rfl⟩
              · replace h := it_f h c_33
                refine lv_iload hx hb dX8_entersBy_223 (lv_at hl 0 rfl) ?_
                refine lv_if_eq (tgt := 251) hx hb dX8_entersBy_225 (by decide) (fun c_34 => ?_) (fun c_34 => ?_)
                · replace h := it_t h c_34
                  refine lv_iconst (v := 1) hx hb dX8_entersBy_251 (by decide) ?_
                  refine lv_goto (tgt := 256) hx hb dX8_entersBy_252 (by decide) ?_
                  exact r_zret C0 X hP hS hr hlk dX8_entersBy_256 (Or.inr rfl) ⟨Option.some.inj h, rfl⟩
                · replace h := it_f h c_34
                  refine lv_iload hx hb dX8_entersBy_228 (lv_at hl 0 rfl) ?_
                  refine lv_aload_n hx hb dX8_entersBy_230 rfl (lv_at hl 7 rfl) ?_
                  refine lv_iconst (v := 0) hx hb dX8_entersBy_231 (by decide) ?_
                  refine r_ialdN C0 X hP a1 (k := 0) ha1 rfl (by decide) dX8_entersBy_232 ?_
                  refine lv_icmp_eq (tgt := 251) hx hb dX8_entersBy_233 (by decide) (fun c_35 => ?_) (fun c_35 => ?_)
                  · replace h := it_t h c_35
                    refine lv_iconst (v := 1) hx hb dX8_entersBy_251 (by decide) ?_
                    refine lv_goto (tgt := 256) hx hb dX8_entersBy_252 (by decide) ?_
                    exact r_zret C0 X hP hS hr hlk dX8_entersBy_256 (Or.inr rfl) ⟨Option.some.inj h, rfl⟩
                  · replace h := it_f h c_35
                    refine lv_aload_n hx hb dX8_entersBy_236 rfl (lv_at hl 7 rfl) ?_
                    refine lv_iload hx hb dX8_entersBy_237 (lv_at hl 1 rfl) ?_
                    obtain ⟨r_36, er_36, h⟩ := bnd h
                    refine r_ci X hS (r_runS (As := [.ref (ad a1), .int v8]) (rest := []) C0 X hP L_X8_148 (fun sz => c_X8_cartsAt l D cA ad o σ a1 v8 ha1 r_36 er_36 sz) ⟨Nat.le_of_ble_eq_true rfl, Nat.le_of_ble_eq_true rfl⟩ rfl hl.1 rfl (Nat.le_of_ble_eq_true rfl) dX8_entersBy_239 ⟨Nat.zero_le _, Nat.zero_le _⟩) (fun r9 σ9 H locs hw hP hS => ?_)
                    rw [hw.2] at hP
                    rw [hw.1]
                    refine lv_aload_n hx hb dX8_entersBy_242 rfl (lv_at hl 7 rfl) ?_
                    refine lv_iconst (v := 5) hx hb dX8_entersBy_243 (by decide) ?_
                    refine lv_iload hx hb dX8_entersBy_244 (lv_at hl 0 rfl) ?_
                    refine lv_iadd hx hb dX8_entersBy_246 ?_
                    obtain ⟨k_37, ek_37, h⟩ := bnd h
                    replace ek_37 := ix_s ek_37 (by decide)
                    refine r_ialdN C0 X hP a1 (k := k_37) ha1 ek_37.1 ek_37.2 dX8_entersBy_247 ?_
                    refine lv_icmp_ge (tgt := 255) hx hb dX8_entersBy_248 (by decide) (fun c_38 => ?_) (fun c_38 => ?_)
                    · replace h := it_t h c_38
                      refine lv_iconst (v := 0) hx hb dX8_entersBy_255 (by decide) ?_
                      exact r_zret C0 X hP hS hr hlk dX8_entersBy_256 (Or.inl rfl) ⟨Option.some.inj h, rfl⟩
                    · replace h := it_f h c_38
                      refine lv_iconst (v := 1) hx hb dX8_entersBy_251 (by decide) ?_
                      refine lv_goto (tgt := 256) hx hb dX8_entersBy_252 (by decide) ?_
                      exact r_zret C0 X hP hS hr hlk dX8_entersBy_256 (Or.inr rfl) ⟨Option.some.inj h, rfl⟩
            · replace h := it_f h c_32
              refine lv_aload_n hx hb dX8_entersBy_125 rfl (lv_at hl 7 rfl) ?_
              refine lv_iload hx hb dX8_entersBy_126 (lv_at hl 0 rfl) ?_
              obtain ⟨r_39, er_39, h⟩ := bnd h
              refine r_ci X hS (r_runS (As := [.ref (ad a1), .int v9]) (rest := []) C0 X hP L_X8_157 (fun sz => c_X8_isOn l D cA ad o σ a1 v9 ha1 r_39 er_39 sz) ⟨Nat.le_of_ble_eq_true rfl, Nat.le_of_ble_eq_true rfl⟩ rfl hl.1 rfl (Nat.le_of_ble_eq_true rfl) dX8_entersBy_128 ⟨Nat.zero_le _, Nat.zero_le _⟩) (fun r9 σ9 H locs hw hP hS => ?_)
              rw [hw.2] at hP
              rw [hw.1]
              refine lv_if_eq (tgt := 205) hx hb dX8_entersBy_131 (by decide) (fun c_40 => ?_) (fun c_40 => ?_)
              · replace h := it_t h c_40
                refine lv_iinc (v := (v9 + 1)) (lv' := [(9, .int (v9 + 1)), (8, .int v8), (7, .int v7), (6, .int v6), (5, .int v5), (4, .int v4), (3, .int v3), (0, .ref (ad a1)), (1, .int x2), (2, .int x3)]) hx hb dX8_entersBy_205 hl (k := 0) rfl rfl (by decide) rfl (fun ls hl => ?_)
                refine lv_goto (tgt := 117) hx hb dX8_entersBy_208 (by decide) ?_
                exact ih117 (v9 + 1) v8 v7 v6 v5 v4 v3 _ _ ls  h hP hS (lv_sub hl [0, 1, 2, 3, 4, 5, 6, 7, 8, 9] rfl)
              · replace h := it_f h c_40
                refine lv_aload_n hx hb dX8_entersBy_134 rfl (lv_at hl 7 rfl) ?_
                refine lv_iload hx hb dX8_entersBy_135 (lv_at hl 0 rfl) ?_
                refine lv_iconst (v := 0) hx hb dX8_entersBy_137 (by decide) ?_
                obtain ⟨r_41, er_41, h⟩ := bnd h
                refine r_ci X hS (r_runS (As := [.ref (ad a1), .int v9, .int 0]) (rest := []) C0 X hP L_X8_130 (fun sz => c_X8_get l D cA ad o σ a1 v9 0 ha1 r_41 er_41 sz) ⟨Nat.le_of_ble_eq_true rfl, Nat.le_of_ble_eq_true rfl⟩ rfl hl.1 rfl (Nat.le_of_ble_eq_true rfl) dX8_entersBy_138 ⟨Nat.zero_le _, Nat.zero_le _⟩) (fun r9 σ9 H locs hw hP hS => ?_)
                rw [hw.2] at hP
                rw [hw.1]
                refine lv_iload hx hb dX8_entersBy_141 (lv_at hl 4 rfl) ?_
                refine lv_icmp_ne (tgt := 149) hx hb dX8_entersBy_143 (by decide) (fun c_42 => ?_) (fun c_42 => ?_)
                · replace h := it_f h c_42
                  refine lv_aload_n hx hb dX8_entersBy_149 rfl (lv_at hl 7 rfl) ?_
                  refine lv_iload hx hb dX8_entersBy_150 (lv_at hl 0 rfl) ?_
                  refine lv_iconst (v := 5) hx hb dX8_entersBy_152 (by decide) ?_
                  obtain ⟨r_43, er_43, h⟩ := bnd h
                  refine r_ci X hS (r_runS (As := [.ref (ad a1), .int v9, .int 5]) (rest := []) C0 X hP L_X8_130 (fun sz => c_X8_get l D cA ad o σ a1 v9 5 ha1 r_43 er_43 sz) ⟨Nat.le_of_ble_eq_true rfl, Nat.le_of_ble_eq_true rfl⟩ rfl hl.1 rfl (Nat.le_of_ble_eq_true rfl) dX8_entersBy_153 ⟨Nat.zero_le _, Nat.zero_le _⟩) (fun r9 σ9 H locs hw hP hS => ?_)
                  rw [hw.2] at hP
                  rw [hw.1]
                  refine lv_iload hx hb dX8_entersBy_156 (lv_at hl 3 rfl) ?_
                  refine lv_isub hx hb dX8_entersBy_158 ?_
                  refine lv_iload hx hb dX8_entersBy_159 (lv_at hl 4 rfl) ?_
                  refine lv_imul hx hb dX8_entersBy_161 ?_
                  refine lv_istore (lv' := [(10, .int ((r_43 - v6) * v5)), (9, .int v9), (8, .int v8), (7, .int v7), (6, .int v6), (5, .int v5), (4, .int v4), (3, .int v3), (0, .ref (ad a1)), (1, .int x2), (2, .int x3)]) hx hb dX8_entersBy_162 hl (by decide) rfl (fun ls hl => ?_)
                  refine lv_iload hx hb dX8_entersBy_164 (lv_at hl 2 rfl) ?_
                  refine lv_iload hx hb dX8_entersBy_166 (lv_at hl 4 rfl) ?_
                  refine lv_isub hx hb dX8_entersBy_168 ?_
                  refine lv_iload hx hb dX8_entersBy_169 (lv_at hl 5 rfl) ?_
                  refine lv_imul hx hb dX8_entersBy_171 ?_
                  refine lv_istore (lv' := [(11, .int ((v8 - v6) * v5)), (10, .int ((r_43 - v6) * v5)), (9, .int v9), (8, .int v8), (7, .int v7), (6, .int v6), (5, .int v5), (4, .int v4), (3, .int v3), (0, .ref (ad a1)), (1, .int x2), (2, .int x3)]) hx hb dX8_entersBy_172 hl (by decide) rfl (fun ls hl => ?_)
                  refine lv_iload hx hb dX8_entersBy_174 (lv_at hl 1 rfl) ?_
                  refine lv_if_le (tgt := 186) hx hb dX8_entersBy_176 (by decide) (fun c_44 => ?_) (fun c_44 => ?_)
                  · replace h := it_t h c_44
                    refine lv_iload hx hb dX8_entersBy_186 (lv_at hl 1 rfl) ?_
                    refine lv_iload hx hb dX8_entersBy_188 (lv_at hl 0 rfl) ?_
                    refine lv_icmp_lt (tgt := 205) hx hb dX8_entersBy_190 (by decide) (fun c_45 => ?_) (fun c_45 => ?_)
                    · replace h := it_t h c_45
                      refine lv_iinc (v := (v9 + 1)) (lv' := [(9, .int (v9 + 1)), (11, .int ((v8 - v6) * v5)), (10, .int ((r_43 - v6) * v5)), (8, .int v8), (7, .int v7), (6, .int v6), (5, .int v5), (4, .int v4), (3, .int v3), (0, .ref (ad a1)), (1, .int x2), (2, .int x3)]) hx hb dX8_entersBy_205 hl (k := 2) rfl rfl (by decide) rfl (fun ls hl => ?_)
                      refine lv_goto (tgt := 117) hx hb dX8_entersBy_208 (by decide) ?_
                      exact ih117 (v9 + 1) v8 v7 v6 v5 v4 v3 _ _ ls  h hP hS (lv_sub hl [0, 3, 4, 5, 6, 7, 8, 9, 10, 11] rfl)
                    · replace h := it_f h c_45
                      refine lv_iload hx hb dX8_entersBy_193 (lv_at hl 1 rfl) ?_
                      refine lv_iload hx hb dX8_entersBy_195 (lv_at hl 0 rfl) ?_
                      refine lv_iload hx hb dX8_entersBy_197 (lv_at hl 7 rfl) ?_
                      refine lv_iadd hx hb dX8_entersBy_199 ?_
                      refine lv_icmp_ge (tgt := 205) hx hb dX8_entersBy_200 (by decide) (fun c_46 => ?_) (fun c_46 => ?_)
                      · replace h := it_t h c_46
                        refine lv_iinc (v := (v9 + 1)) (lv' := [(9, .int (v9 + 1)), (11, .int ((v8 - v6) * v5)), (10, .int ((r_43 - v6) * v5)), (8, .int v8), (7, .int v7), (6, .int v6), (5, .int v5), (4, .int v4), (3, .int v3), (0, .ref (ad a1)), (1, .int x2), (2, .int x3)]) hx hb dX8_entersBy_205 hl (k := 2) rfl rfl (by decide) rfl (fun ls hl => ?_)
                        refine lv_goto (tgt := 117) hx hb dX8_entersBy_208 (by decide) ?_
                        exact ih117 (v9 + 1) v8 v7 v6 v5 v4 v3 _ _ ls  h hP hS (lv_sub hl [0, 3, 4, 5, 6, 7, 8, 9, 10, 11] rfl)
                      · replace h := it_f h c_46
                        refine lv_iconst (v := 0) hx hb dX8_entersBy_203 (by decide) ?_
                        exact r_zret C0 X hP hS hr hlk dX8_entersBy_204 (Or.inl rfl) ⟨Option.some.inj h, rfl⟩
                  · replace h := it_f h c_44
                    refine lv_iload hx hb dX8_entersBy_179 (lv_at hl 1 rfl) ?_
                    refine lv_iload hx hb dX8_entersBy_181 (lv_at hl 0 rfl) ?_
                    refine lv_icmp_lt (tgt := 203) hx hb dX8_entersBy_183 (by decide) (fun c_47 => ?_) (fun c_47 => ?_)
                    · replace h := it_t h c_47
                      refine lv_iconst (v := 0) hx hb dX8_entersBy_203 (by decide) ?_
                      exact r_zret C0 X hP hS hr hlk dX8_entersBy_204 (Or.inl rfl) ⟨Option.some.inj h, rfl⟩
                    · replace h := it_f h c_47
                      refine lv_iload hx hb dX8_entersBy_186 (lv_at hl 1 rfl) ?_
                      refine lv_iload hx hb dX8_entersBy_188 (lv_at hl 0 rfl) ?_
                      refine lv_icmp_lt (tgt := 205) hx hb dX8_entersBy_190 (by decide) (fun c_48 => ?_) (fun c_48 => ?_)
                      · replace h := it_t h c_48
                        refine lv_iinc (v := (v9 + 1)) (lv' := [(9, .int (v9 + 1)), (11, .int ((v8 - v6) * v5)), (10, .int ((r_43 - v6) * v5)), (8, .int v8), (7, .int v7), (6, .int v6), (5, .int v5), (4, .int v4), (3, .int v3), (0, .ref (ad a1)), (1, .int x2), (2, .int x3)]) hx hb dX8_entersBy_205 hl (k := 2) rfl rfl (by decide) rfl (fun ls hl => ?_)
                        refine lv_goto (tgt := 117) hx hb dX8_entersBy_208 (by decide) ?_
                        exact ih117 (v9 + 1) v8 v7 v6 v5 v4 v3 _ _ ls  h hP hS (lv_sub hl [0, 3, 4, 5, 6, 7, 8, 9, 10, 11] rfl)
                      · replace h := it_f h c_48
                        refine lv_iload hx hb dX8_entersBy_193 (lv_at hl 1 rfl) ?_
                        refine lv_iload hx hb dX8_entersBy_195 (lv_at hl 0 rfl) ?_
                        refine lv_iload hx hb dX8_entersBy_197 (lv_at hl 7 rfl) ?_
                        refine lv_iadd hx hb dX8_entersBy_199 ?_
                        refine lv_icmp_ge (tgt := 205) hx hb dX8_entersBy_200 (by decide) (fun c_49 => ?_) (fun c_49 => ?_)
                        · replace h := it_t h c_49
                          refine lv_iinc (v := (v9 + 1)) (lv' := [(9, .int (v9 + 1)), (11, .int ((v8 - v6) * v5)), (10, .int ((r_43 - v6) * v5)), (8, .int v8), (7, .int v7), (6, .int v6), (5, .int v5), (4, .int v4), (3, .int v3), (0, .ref (ad a1)), (1, .int x2), (2, .int x3)]) hx hb dX8_entersBy_205 hl (k := 2) rfl rfl (by decide) rfl (fun ls hl => ?_)
                          refine lv_goto (tgt := 117) hx hb dX8_entersBy_208 (by decide) ?_
                          exact ih117 (v9 + 1) v8 v7 v6 v5 v4 v3 _ _ ls  h hP hS (lv_sub hl [0, 3, 4, 5, 6, 7, 8, 9, 10, 11] rfl)
                        · replace h := it_f h c_49
                          refine lv_iconst (v := 0) hx hb dX8_entersBy_203 (by decide) ?_
                          exact r_zret C0 X hP hS hr hlk dX8_entersBy_204 (Or.inl rfl) ⟨Option.some.inj h, rfl⟩
                · replace h := it_t h c_42
                  refine lv_goto (tgt := 205) hx hb dX8_entersBy_146 (by decide) ?_
                  refine lv_iinc (v := (v9 + 1)) (lv' := [(9, .int (v9 + 1)), (8, .int v8), (7, .int v7), (6, .int v6), (5, .int v5), (4, .int v4), (3, .int v3), (0, .ref (ad a1)), (1, .int x2), (2, .int x3)]) hx hb dX8_entersBy_205 hl (k := 0) rfl rfl (by decide) rfl (fun ls hl => ?_)
                  refine lv_goto (tgt := 117) hx hb dX8_entersBy_208 (by decide) ?_
                  exact ih117 (v9 + 1) v8 v7 v6 v5 v4 v3 _ _ ls  h hP hS (lv_sub hl [0, 1, 2, 3, 4, 5, 6, 7, 8, 9] rfl)
        exact lp_31 FU 0 r_30 r_29 r_4 r_3 (σ a1 k_2) r_1 _ _ ls  h hP hS (lv_sub hl [0, 1, 2, 3, 4, 5, 6, 7, 8, 9] rfl)
      · replace h := it_f h c_28
        refine lv_iconst (v := 1) hx hb dX8_entersBy_93 (by decide) ?_
        exact r_zret C0 X hP hS hr hlk dX8_entersBy_94 (Or.inr rfl) ⟨Option.some.inj h, rfl⟩
  · replace h := it_t h c_5
    refine lv_iload hx hb dX8_entersBy_39 (lv_at hl 0 rfl) ?_
    refine lv_aload_n hx hb dX8_entersBy_41 rfl (lv_at hl 4 rfl) ?_
    refine lv_iload_n hx hb dX8_entersBy_42 rfl (lv_at hl 5 rfl) ?_
    obtain ⟨r_50, er_50, h⟩ := bnd h
    refine r_ci X hS (r_runS (As := [.ref (ad a1), .int x2]) (rest := [.int r_4]) C0 X hP L_X8_154 (fun sz => c_X8_origin l D cA ad o σ a1 x2 ha1 r_50 er_50 sz) ⟨Nat.le_of_ble_eq_true rfl, Nat.le_of_ble_eq_true rfl⟩ rfl hl.1 rfl (Nat.le_of_ble_eq_true rfl) dX8_entersBy_43 ⟨Nat.zero_le _, Nat.zero_le _⟩) (fun r9 σ9 H locs hw hP hS => ?_)
    rw [hw.2] at hP
    rw [hw.1]
    refine lv_icmp_eq (tgt := 51) hx hb dX8_entersBy_46 (by decide) (fun c_51 => ?_) (fun c_51 => ?_)
    · replace h := it_t h c_51
      refine lv_aload_n hx hb dX8_entersBy_51 rfl (lv_at hl 4 rfl) ?_
      refine lv_iconst (v := 2) hx hb dX8_entersBy_52 (by decide) ?_
      refine r_ialdN C0 X hP a1 (k := 2) ha1 rfl (by decide) dX8_entersBy_53 ?_
      refine lv_bipush (v := 10) hx hb dX8_entersBy_54 (by decide) ?_
      refine lv_iload hx hb dX8_entersBy_56 (lv_at hl 2 rfl) ?_
      refine lv_iconst (v := 1) hx hb dX8_entersBy_58 (by decide) ?_
      refine lv_iadd hx hb dX8_entersBy_59 ?_
      refine lv_imul hx hb dX8_entersBy_60 ?_
      obtain ⟨q_52, h⟩ := ckp h
      refine lv_idiv hx hb dX8_entersBy_61 q_52 ?_
      refine lv_iconst (v := 2) hx hb dX8_entersBy_62 (by decide) ?_
      refine lv_irem hx hb dX8_entersBy_63 (by decide) ?_
      refine lv_iload hx hb dX8_entersBy_64 (lv_at hl 1 rfl) ?_
      refine lv_if_le (tgt := 73) hx hb dX8_entersBy_66 (by decide) (fun c_53 => ?_) (fun c_53 => ?_)
      · replace h := it_t h c_53
        refine lv_iconst (v := 1) hx hb dX8_entersBy_73 (by decide) ?_
        refine lv_icmp_ne (tgt := 81) hx hb dX8_entersBy_74 (by decide) (fun c_54 => ?_) (fun c_54 => ?_)
        · replace h := it_f h c_54
          refine lv_iconst (v := 0) hx hb dX8_entersBy_81 (by decide) ?_
          exact r_zret C0 X hP hS hr hlk dX8_entersBy_82 (Or.inl rfl) ⟨Option.some.inj h, rfl⟩
        · replace h := it_t h c_54
          refine lv_iconst (v := 1) hx hb dX8_entersBy_77 (by decide) ?_
          refine lv_goto (tgt := 82) hx hb dX8_entersBy_78 (by decide) ?_
          exact r_zret C0 X hP hS hr hlk dX8_entersBy_82 (Or.inr rfl) ⟨Option.some.inj h, rfl⟩
      · replace h := it_f h c_53
        refine lv_iconst (v := 0) hx hb dX8_entersBy_69 (by decide) ?_
        refine lv_goto (tgt := 74) hx hb dX8_entersBy_70 (by decide) ?_
        refine lv_icmp_ne (tgt := 81) hx hb dX8_entersBy_74 (by decide) (fun c_55 => ?_) (fun c_55 => ?_)
        · replace h := it_f h c_55
          refine lv_iconst (v := 0) hx hb dX8_entersBy_81 (by decide) ?_
          exact r_zret C0 X hP hS hr hlk dX8_entersBy_82 (Or.inl rfl) ⟨Option.some.inj h, rfl⟩
        · replace h := it_t h c_55
          refine lv_iconst (v := 1) hx hb dX8_entersBy_77 (by decide) ?_
          refine lv_goto (tgt := 82) hx hb dX8_entersBy_78 (by decide) ?_
          exact r_zret C0 X hP hS hr hlk dX8_entersBy_82 (Or.inr rfl) ⟨Option.some.inj h, rfl⟩
    · replace h := it_f h c_51
      refine lv_iconst (v := 1) hx hb dX8_entersBy_49 (by decide) ?_
      exact r_zret C0 X hP hS hr hlk dX8_entersBy_50 (Or.inr rfl) ⟨Option.some.inj h, rfl⟩
def bB_cX8_behind : Nat := 0xac641c7600b860041d2a0c00a7647600b81d2a1c0d009e8200b8031b2a3ea100b8041c2aac0305009b9100b81c2a3d8200b8081b2a
theorem yB_cX8_behind : BYS cX8_behind 53 bB_cX8_behind := BYS_of (by decide +kernel)
theorem dX8_behind_0 : decode cX8_behind 0 = .ok (.aload_n 0, 1) := D_42 yB_cX8_behind rfl rfl
theorem dX8_behind_1 : decode cX8_behind 1 = .ok (.iload_n 1, 1) := D_27 yB_cX8_behind rfl rfl
theorem dX8_behind_2 : decode cX8_behind 2 = .ok (.iconst 5, 1) := D_8 yB_cX8_behind rfl rfl
theorem dX8_behind_3 : decode cX8_behind 3 = .ok (.invokestatic 130, 3) := D_184 yB_cX8_behind rfl rfl rfl
theorem dX8_behind_6 : decode cX8_behind 6 = .ok (.istore_n 2, 1) := D_61 yB_cX8_behind rfl rfl
theorem dX8_behind_7 : decode cX8_behind 7 = .ok (.aload_n 0, 1) := D_42 yB_cX8_behind rfl rfl
theorem dX8_behind_8 : decode cX8_behind 8 = .ok (.iload_n 2, 1) := D_28 yB_cX8_behind rfl rfl
theorem dX8_behind_9 : decode cX8_behind 9 = .ok (.invokestatic 145, 3) := D_184 yB_cX8_behind rfl rfl rfl
theorem dX8_behind_12 : decode cX8_behind 12 = .ok (.ifCond .lt 5, 3) := D_155 yB_cX8_behind rfl rfl (sg_p (m := 32768) (N := 5) rfl rfl rfl)
theorem dX8_behind_15 : decode cX8_behind 15 = .ok (.iconst 0, 1) := D_3 yB_cX8_behind rfl rfl
theorem dX8_behind_16 : decode cX8_behind 16 = .ok (.ireturn, 1) := D_172 yB_cX8_behind rfl rfl
theorem dX8_behind_17 : decode cX8_behind 17 = .ok (.aload_n 0, 1) := D_42 yB_cX8_behind rfl rfl
theorem dX8_behind_18 : decode cX8_behind 18 = .ok (.iload_n 2, 1) := D_28 yB_cX8_behind rfl rfl
theorem dX8_behind_19 : decode cX8_behind 19 = .ok (.iconst 1, 1) := D_4 yB_cX8_behind rfl rfl
theorem dX8_behind_20 : decode cX8_behind 20 = .ok (.invokestatic 161, 3) := D_184 yB_cX8_behind rfl rfl rfl
theorem dX8_behind_23 : decode cX8_behind 23 = .ok (.istore_n 3, 1) := D_62 yB_cX8_behind rfl rfl
theorem dX8_behind_24 : decode cX8_behind 24 = .ok (.aload_n 0, 1) := D_42 yB_cX8_behind rfl rfl
theorem dX8_behind_25 : decode cX8_behind 25 = .ok (.iload_n 1, 1) := D_27 yB_cX8_behind rfl rfl
theorem dX8_behind_26 : decode cX8_behind 26 = .ok (.iconst 0, 1) := D_3 yB_cX8_behind rfl rfl
theorem dX8_behind_27 : decode cX8_behind 27 = .ok (.invokestatic 130, 3) := D_184 yB_cX8_behind rfl rfl rfl
theorem dX8_behind_30 : decode cX8_behind 30 = .ok (.ifCond .le 13, 3) := D_158 yB_cX8_behind rfl rfl (sg_p (m := 32768) (N := 13) rfl rfl rfl)
theorem dX8_behind_33 : decode cX8_behind 33 = .ok (.iload_n 2, 1) := D_28 yB_cX8_behind rfl rfl
theorem dX8_behind_34 : decode cX8_behind 34 = .ok (.aload_n 0, 1) := D_42 yB_cX8_behind rfl rfl
theorem dX8_behind_35 : decode cX8_behind 35 = .ok (.iload_n 3, 1) := D_29 yB_cX8_behind rfl rfl
theorem dX8_behind_36 : decode cX8_behind 36 = .ok (.invokestatic 118, 3) := D_184 yB_cX8_behind rfl rfl rfl
theorem dX8_behind_39 : decode cX8_behind 39 = .ok (.isub, 1) := D_100 yB_cX8_behind rfl rfl
theorem dX8_behind_40 : decode cX8_behind 40 = .ok (.goto 12, 3) := D_167 yB_cX8_behind rfl rfl (sg_p (m := 32768) (N := 12) rfl rfl rfl)
theorem dX8_behind_43 : decode cX8_behind 43 = .ok (.aload_n 0, 1) := D_42 yB_cX8_behind rfl rfl
theorem dX8_behind_44 : decode cX8_behind 44 = .ok (.iload_n 3, 1) := D_29 yB_cX8_behind rfl rfl
theorem dX8_behind_45 : decode cX8_behind 45 = .ok (.iconst 1, 1) := D_4 yB_cX8_behind rfl rfl
theorem dX8_behind_46 : decode cX8_behind 46 = .ok (.iadd, 1) := D_96 yB_cX8_behind rfl rfl
theorem dX8_behind_47 : decode cX8_behind 47 = .ok (.invokestatic 118, 3) := D_184 yB_cX8_behind rfl rfl rfl
theorem dX8_behind_50 : decode cX8_behind 50 = .ok (.iload_n 2, 1) := D_28 yB_cX8_behind rfl rfl
theorem dX8_behind_51 : decode cX8_behind 51 = .ok (.isub, 1) := D_100 yB_cX8_behind rfl rfl
theorem dX8_behind_52 : decode cX8_behind 52 = .ok (.ireturn, 1) := D_172 yB_cX8_behind rfl rfl
def F_X8_behind (σ : Mem) (a1 : Nat) (x2 : Int32) : Option (Int32) := (F_X8_get σ a1 x2 5).bind fun r_1 => (F_X8_placeAt σ a1 r_1).bind fun r_2 => if r_2 < 0 then ((F_X8_pieceFrom σ a1 r_1 1).bind fun r_4 => (F_X8_get σ a1 x2 0).bind fun r_5 => if r_5 ≤ 0 then ((F_X8_spotOf σ a1 (r_4 + 1)).bind fun r_7 => some (r_7 - r_1)) else ((F_X8_spotOf σ a1 r_4).bind fun r_8 => some (r_1 - r_8))) else (some 0)
set_option maxHeartbeats 4000000 in
set_option maxRecDepth 100000 in
theorem c_X8_behind (l : Launch) (D : va_G) (cA : Nat → ClassId) (ad : Nat → Nat) (o : Int64) (σ : Mem) (a1 : Nat) (x2 : Int32) (ha1 : a1 < 106 ∧ kd a1 = (9, 121)) (res : Int32) (h : F_X8_behind σ a1 x2 = some res) (sz : Nat) : Met l yX8_behind (WY yX8_behind cX8_behind 4 (some .int)) (RM 1) (va_Pc [.ref (ad a1), .int x2] (PW D cA ad o σ sz)) (va_Qi (fun r σ9 => r = res ∧ σ9 = σ) (QW D cA ad o) (FA ad sz)) 0 0 (FA ad sz) := by
  refine ct_of (own := RX8) (k := 1) (Qf := va_Qi (fun r σ9 => r = res ∧ σ9 = σ) (QW D cA ad o)) rfl (by decide) (Nat.le_of_ble_eq_true rfl) (fun p e s m below meth c ls C0 X hr hlk hP hl => ?_) sz
  have hS : va_S (FA ad s.heap.size) s.heap s.heap [] := va_S.rf
  have hl : lv_has ls 4 [(0, .ref (ad a1)), (1, .int x2)] := hl
  obtain ⟨hx, hb, hml, hown, hts⟩ := id C0
  unfold F_X8_behind at h
  refine lv_aload_n hx hb dX8_behind_0 rfl (lv_at hl 0 rfl) ?_
  refine lv_iload_n hx hb dX8_behind_1 rfl (lv_at hl 1 rfl) ?_
  refine lv_iconst (v := 5) hx hb dX8_behind_2 (by decide) ?_
  obtain ⟨r_1, er_1, h⟩ := bnd h
  refine r_ci X hS (r_runS (As := [.ref (ad a1), .int x2, .int 5]) (rest := []) C0 X hP L_X8_130 (fun sz => c_X8_get l D cA ad o σ a1 x2 5 ha1 r_1 er_1 sz) ⟨Nat.le_of_ble_eq_true rfl, Nat.le_of_ble_eq_true rfl⟩ rfl hl.1 rfl (Nat.le_of_ble_eq_true rfl) dX8_behind_3 ⟨Nat.zero_le _, Nat.zero_le _⟩) (fun r9 σ9 H locs hw hP hS => ?_)
  rw [hw.2] at hP
  rw [hw.1]
  refine lv_istore_n (lv' := [(2, .int r_1), (0, .ref (ad a1)), (1, .int x2)]) hx hb dX8_behind_6 rfl hl (by decide) rfl (fun ls hl => ?_)
  refine lv_aload_n hx hb dX8_behind_7 rfl (lv_at hl 1 rfl) ?_
  refine lv_iload_n hx hb dX8_behind_8 rfl (lv_at hl 0 rfl) ?_
  obtain ⟨r_2, er_2, h⟩ := bnd h
  refine r_ci X hS (r_runS (As := [.ref (ad a1), .int r_1]) (rest := []) C0 X hP L_X8_145 (fun sz => c_X8_placeAt l D cA ad o σ a1 r_1 ha1 r_2 er_2 sz) ⟨Nat.le_of_ble_eq_true rfl, Nat.le_of_ble_eq_true rfl⟩ rfl hl.1 rfl (Nat.le_of_ble_eq_true rfl) dX8_behind_9 ⟨Nat.zero_le _, Nat.zero_le _⟩) (fun r9 σ9 H locs hw hP hS => ?_)
  rw [hw.2] at hP
  rw [hw.1]
  refine lv_if_lt (tgt := 17) hx hb dX8_behind_12 (by decide) (fun c_3 => ?_) (fun c_3 => ?_)
  · replace h := it_t h c_3
    refine lv_aload_n hx hb dX8_behind_17 rfl (lv_at hl 1 rfl) ?_
    refine lv_iload_n hx hb dX8_behind_18 rfl (lv_at hl 0 rfl) ?_
    refine lv_iconst (v := 1) hx hb dX8_behind_19 (by decide) ?_
    obtain ⟨r_4, er_4, h⟩ := bnd h
    refine r_ci X hS (r_runS (As := [.ref (ad a1), .int r_1, .int 1]) (rest := []) C0 X hP L_X8_161 (fun sz => c_X8_pieceFrom l D cA ad o σ a1 r_1 1 ha1 r_4 er_4 sz) ⟨Nat.le_of_ble_eq_true rfl, Nat.le_of_ble_eq_true rfl⟩ rfl hl.1 rfl (Nat.le_of_ble_eq_true rfl) dX8_behind_20 ⟨Nat.zero_le _, Nat.zero_le _⟩) (fun r9 σ9 H locs hw hP hS => ?_)
    rw [hw.2] at hP
    rw [hw.1]
    refine lv_istore_n (lv' := [(3, .int r_4), (2, .int r_1), (0, .ref (ad a1)), (1, .int x2)]) hx hb dX8_behind_23 rfl hl (by decide) rfl (fun ls hl => ?_)
    refine lv_aload_n hx hb dX8_behind_24 rfl (lv_at hl 2 rfl) ?_
    refine lv_iload_n hx hb dX8_behind_25 rfl (lv_at hl 3 rfl) ?_
    refine lv_iconst (v := 0) hx hb dX8_behind_26 (by decide) ?_
    obtain ⟨r_5, er_5, h⟩ := bnd h
    refine r_ci X hS (r_runS (As := [.ref (ad a1), .int x2, .int 0]) (rest := []) C0 X hP L_X8_130 (fun sz => c_X8_get l D cA ad o σ a1 x2 0 ha1 r_5 er_5 sz) ⟨Nat.le_of_ble_eq_true rfl, Nat.le_of_ble_eq_true rfl⟩ rfl hl.1 rfl (Nat.le_of_ble_eq_true rfl) dX8_behind_27 ⟨Nat.zero_le _, Nat.zero_le _⟩) (fun r9 σ9 H locs hw hP hS => ?_)
    rw [hw.2] at hP
    rw [hw.1]
    refine lv_if_le (tgt := 43) hx hb dX8_behind_30 (by decide) (fun c_6 => ?_) (fun c_6 => ?_)
    · replace h := it_t h c_6
      refine lv_aload_n hx hb dX8_behind_43 rfl (lv_at hl 2 rfl) ?_
      refine lv_iload_n hx hb dX8_behind_44 rfl (lv_at hl 0 rfl) ?_
      refine lv_iconst (v := 1) hx hb dX8_behind_45 (by decide) ?_
      refine lv_iadd hx hb dX8_behind_46 ?_
      obtain ⟨r_7, er_7, h⟩ := bnd h
      refine r_ci X hS (r_runS (As := [.ref (ad a1), .int (r_4 + 1)]) (rest := []) C0 X hP L_X8_118 (fun sz => c_X8_spotOf l D cA ad o σ a1 (r_4 + 1) ha1 r_7 er_7 sz) ⟨Nat.le_of_ble_eq_true rfl, Nat.le_of_ble_eq_true rfl⟩ rfl hl.1 rfl (Nat.le_of_ble_eq_true rfl) dX8_behind_47 ⟨Nat.zero_le _, Nat.zero_le _⟩) (fun r9 σ9 H locs hw hP hS => ?_)
      rw [hw.2] at hP
      rw [hw.1]
      refine lv_iload_n hx hb dX8_behind_50 rfl (lv_at hl 1 rfl) ?_
      refine lv_isub hx hb dX8_behind_51 ?_
      exact r_iret C0 X hP hS hr hlk dX8_behind_52 ⟨Option.some.inj h, rfl⟩
    · replace h := it_f h c_6
      refine lv_iload_n hx hb dX8_behind_33 rfl (lv_at hl 1 rfl) ?_
      refine lv_aload_n hx hb dX8_behind_34 rfl (lv_at hl 2 rfl) ?_
      refine lv_iload_n hx hb dX8_behind_35 rfl (lv_at hl 0 rfl) ?_
      obtain ⟨r_8, er_8, h⟩ := bnd h
      refine r_ci X hS (r_runS (As := [.ref (ad a1), .int r_4]) (rest := [.int r_1]) C0 X hP L_X8_118 (fun sz => c_X8_spotOf l D cA ad o σ a1 r_4 ha1 r_8 er_8 sz) ⟨Nat.le_of_ble_eq_true rfl, Nat.le_of_ble_eq_true rfl⟩ rfl hl.1 rfl (Nat.le_of_ble_eq_true rfl) dX8_behind_36 ⟨Nat.zero_le _, Nat.zero_le _⟩) (fun r9 σ9 H locs hw hP hS => ?_)
      rw [hw.2] at hP
      rw [hw.1]
      refine lv_isub hx hb dX8_behind_39 ?_
      refine lv_goto (tgt := 52) hx hb dX8_behind_40 (by decide) ?_
      exact r_iret C0 X hP hS hr hlk dX8_behind_52 ⟨Option.some.inj h, rfl⟩
  · replace h := it_f h c_3
    refine lv_iconst (v := 0) hx hb dX8_behind_15 (by decide) ?_
    exact r_iret C0 X hP hS hr hlk dX8_behind_16 ⟨Option.some.inj h, rfl⟩
def bB_cX8_falls : Nat := 0xac030400a7040700a0040400a70507009e8200b8031b2a1c
theorem yB_cX8_falls : BYS cX8_falls 24 bB_cX8_falls := BYS_of (by decide +kernel)
theorem dX8_falls_0 : decode cX8_falls 0 = .ok (.iload_n 2, 1) := D_28 yB_cX8_falls rfl rfl
theorem dX8_falls_1 : decode cX8_falls 1 = .ok (.aload_n 0, 1) := D_42 yB_cX8_falls rfl rfl
theorem dX8_falls_2 : decode cX8_falls 2 = .ok (.iload_n 1, 1) := D_27 yB_cX8_falls rfl rfl
theorem dX8_falls_3 : decode cX8_falls 3 = .ok (.iconst 0, 1) := D_3 yB_cX8_falls rfl rfl
theorem dX8_falls_4 : decode cX8_falls 4 = .ok (.invokestatic 130, 3) := D_184 yB_cX8_falls rfl rfl rfl
theorem dX8_falls_7 : decode cX8_falls 7 = .ok (.ifCond .le 7, 3) := D_158 yB_cX8_falls rfl rfl (sg_p (m := 32768) (N := 7) rfl rfl rfl)
theorem dX8_falls_10 : decode cX8_falls 10 = .ok (.iconst 2, 1) := D_5 yB_cX8_falls rfl rfl
theorem dX8_falls_11 : decode cX8_falls 11 = .ok (.goto 4, 3) := D_167 yB_cX8_falls rfl rfl (sg_p (m := 32768) (N := 4) rfl rfl rfl)
theorem dX8_falls_14 : decode cX8_falls 14 = .ok (.iconst 1, 1) := D_4 yB_cX8_falls rfl rfl
theorem dX8_falls_15 : decode cX8_falls 15 = .ok (.if_icmp .ne 7, 3) := D_160 yB_cX8_falls rfl rfl (sg_p (m := 32768) (N := 7) rfl rfl rfl)
theorem dX8_falls_18 : decode cX8_falls 18 = .ok (.iconst 1, 1) := D_4 yB_cX8_falls rfl rfl
theorem dX8_falls_19 : decode cX8_falls 19 = .ok (.goto 4, 3) := D_167 yB_cX8_falls rfl rfl (sg_p (m := 32768) (N := 4) rfl rfl rfl)
theorem dX8_falls_22 : decode cX8_falls 22 = .ok (.iconst 0, 1) := D_3 yB_cX8_falls rfl rfl
theorem dX8_falls_23 : decode cX8_falls 23 = .ok (.ireturn, 1) := D_172 yB_cX8_falls rfl rfl
def F_X8_falls (σ : Mem) (a1 : Nat) (x2 : Int32) (x3 : Int32) : Option (Int32) := (F_X8_get σ a1 x2 0).bind fun r_1 => if r_1 ≤ 0 then (if x3 = 1 then (some 1) else (some 0)) else (if x3 = 2 then (some 1) else (some 0))
set_option maxHeartbeats 4000000 in
set_option maxRecDepth 100000 in
theorem c_X8_falls (l : Launch) (D : va_G) (cA : Nat → ClassId) (ad : Nat → Nat) (o : Int64) (σ : Mem) (a1 : Nat) (x2 : Int32) (x3 : Int32) (ha1 : a1 < 106 ∧ kd a1 = (9, 121)) (res : Int32) (h : F_X8_falls σ a1 x2 x3 = some res) (sz : Nat) : Met l yX8_falls (WY yX8_falls cX8_falls 3 (some .int)) (RM 1) (va_Pc [.ref (ad a1), .int x2, .int x3] (PW D cA ad o σ sz)) (va_Qi (fun r σ9 => r = res ∧ σ9 = σ) (QW D cA ad o) (FA ad sz)) 0 0 (FA ad sz) := by
  refine ct_of (own := RX8) (k := 1) (Qf := va_Qi (fun r σ9 => r = res ∧ σ9 = σ) (QW D cA ad o)) rfl (by decide) (Nat.le_of_ble_eq_true rfl) (fun p e s m below meth c ls C0 X hr hlk hP hl => ?_) sz
  have hS : va_S (FA ad s.heap.size) s.heap s.heap [] := va_S.rf
  have hl : lv_has ls 3 [(0, .ref (ad a1)), (1, .int x2), (2, .int x3)] := hl
  obtain ⟨hx, hb, hml, hown, hts⟩ := id C0
  unfold F_X8_falls at h
  refine lv_iload_n hx hb dX8_falls_0 rfl (lv_at hl 2 rfl) ?_
  refine lv_aload_n hx hb dX8_falls_1 rfl (lv_at hl 0 rfl) ?_
  refine lv_iload_n hx hb dX8_falls_2 rfl (lv_at hl 1 rfl) ?_
  refine lv_iconst (v := 0) hx hb dX8_falls_3 (by decide) ?_
  obtain ⟨r_1, er_1, h⟩ := bnd h
  refine r_ci X hS (r_runS (As := [.ref (ad a1), .int x2, .int 0]) (rest := [.int x3]) C0 X hP L_X8_130 (fun sz => c_X8_get l D cA ad o σ a1 x2 0 ha1 r_1 er_1 sz) ⟨Nat.le_of_ble_eq_true rfl, Nat.le_of_ble_eq_true rfl⟩ rfl hl.1 rfl (Nat.le_of_ble_eq_true rfl) dX8_falls_4 ⟨Nat.zero_le _, Nat.zero_le _⟩) (fun r9 σ9 H locs hw hP hS => ?_)
  rw [hw.2] at hP
  rw [hw.1]
  refine lv_if_le (tgt := 14) hx hb dX8_falls_7 (by decide) (fun c_2 => ?_) (fun c_2 => ?_)
  · replace h := it_t h c_2
    refine lv_iconst (v := 1) hx hb dX8_falls_14 (by decide) ?_
    refine lv_icmp_ne (tgt := 22) hx hb dX8_falls_15 (by decide) (fun c_3 => ?_) (fun c_3 => ?_)
    · replace h := it_f h c_3
      refine lv_iconst (v := 0) hx hb dX8_falls_22 (by decide) ?_
      exact r_iret C0 X hP hS hr hlk dX8_falls_23 ⟨Option.some.inj h, rfl⟩
    · replace h := it_t h c_3
      refine lv_iconst (v := 1) hx hb dX8_falls_18 (by decide) ?_
      refine lv_goto (tgt := 23) hx hb dX8_falls_19 (by decide) ?_
      exact r_iret C0 X hP hS hr hlk dX8_falls_23 ⟨Option.some.inj h, rfl⟩
  · replace h := it_f h c_2
    refine lv_iconst (v := 2) hx hb dX8_falls_10 (by decide) ?_
    refine lv_goto (tgt := 15) hx hb dX8_falls_11 (by decide) ?_
    refine lv_icmp_ne (tgt := 22) hx hb dX8_falls_15 (by decide) (fun c_4 => ?_) (fun c_4 => ?_)
    · replace h := it_f h c_4
      refine lv_iconst (v := 0) hx hb dX8_falls_22 (by decide) ?_
      exact r_iret C0 X hP hS hr hlk dX8_falls_23 ⟨Option.some.inj h, rfl⟩
    · replace h := it_t h c_4
      refine lv_iconst (v := 1) hx hb dX8_falls_18 (by decide) ?_
      refine lv_goto (tgt := 23) hx hb dX8_falls_19 (by decide) ?_
      exact r_iret C0 X hP hS hr hlk dX8_falls_23 ⟨Option.some.inj h, rfl⟩
def bB_cX8_toldBy : Nat := 0xac1c0400a71b0700a41c1b0d00a71c1100a71b0700a20615051512009f06150515aca700b80415051c1b2a0d00a006150515063674ab00b82e600460680415060e102a1c2a1400a70307009c0415053674ab00b82e600460680415060e102a1b2a1400a70307009c0415aca700b80415041c1b2a5600a00615051506368200b8051c2a05368200b8051b2a6d00a70636688200b8061c2aa400b81c2a0536688200b8061b2aa400b81b2a8c00a70636a400b81c2a0536a400b81b2a9d00a706368200b8071c2a05368200b8071b2a8d0000006c0000004d000000d6000000d60000003c000000290000000700000001000000d6000000aa1d063603053603
theorem yB_cX8_toldBy : BYS cX8_toldBy 254 bB_cX8_toldBy := BYS_of (by decide +kernel)
theorem dX8_toldBy_0 : decode cX8_toldBy 0 = .ok (.iconst 0, 1) := D_3 yB_cX8_toldBy rfl rfl
theorem dX8_toldBy_1 : decode cX8_toldBy 1 = .ok (.istore 5, 2) := D_54 yB_cX8_toldBy rfl rfl rfl
theorem dX8_toldBy_3 : decode cX8_toldBy 3 = .ok (.iconst 0, 1) := D_3 yB_cX8_toldBy rfl rfl
theorem dX8_toldBy_4 : decode cX8_toldBy 4 = .ok (.istore 6, 2) := D_54 yB_cX8_toldBy rfl rfl rfl
theorem dX8_toldBy_6 : decode cX8_toldBy 6 = .ok (.iload_n 3, 1) := D_29 yB_cX8_toldBy rfl rfl
theorem dX8_toldBy_7 : decode cX8_toldBy 7 = .ok (.tableswitch 214 1 7 #[41, 60, 214, 214, 77, 108, 141], 41) := by decide +kernel
theorem dX8_toldBy_48 : decode cX8_toldBy 48 = .ok (.aload_n 0, 1) := D_42 yB_cX8_toldBy rfl rfl
theorem dX8_toldBy_49 : decode cX8_toldBy 49 = .ok (.iload_n 1, 1) := D_27 yB_cX8_toldBy rfl rfl
theorem dX8_toldBy_50 : decode cX8_toldBy 50 = .ok (.iconst 4, 1) := D_7 yB_cX8_toldBy rfl rfl
theorem dX8_toldBy_51 : decode cX8_toldBy 51 = .ok (.invokestatic 130, 3) := D_184 yB_cX8_toldBy rfl rfl rfl
theorem dX8_toldBy_54 : decode cX8_toldBy 54 = .ok (.istore 5, 2) := D_54 yB_cX8_toldBy rfl rfl rfl
theorem dX8_toldBy_56 : decode cX8_toldBy 56 = .ok (.aload_n 0, 1) := D_42 yB_cX8_toldBy rfl rfl
theorem dX8_toldBy_57 : decode cX8_toldBy 57 = .ok (.iload_n 2, 1) := D_28 yB_cX8_toldBy rfl rfl
theorem dX8_toldBy_58 : decode cX8_toldBy 58 = .ok (.iconst 4, 1) := D_7 yB_cX8_toldBy rfl rfl
theorem dX8_toldBy_59 : decode cX8_toldBy 59 = .ok (.invokestatic 130, 3) := D_184 yB_cX8_toldBy rfl rfl rfl
theorem dX8_toldBy_62 : decode cX8_toldBy 62 = .ok (.istore 6, 2) := D_54 yB_cX8_toldBy rfl rfl rfl
theorem dX8_toldBy_64 : decode cX8_toldBy 64 = .ok (.goto 157, 3) := D_167 yB_cX8_toldBy rfl rfl (sg_p (m := 32768) (N := 157) rfl rfl rfl)
theorem dX8_toldBy_67 : decode cX8_toldBy 67 = .ok (.aload_n 0, 1) := D_42 yB_cX8_toldBy rfl rfl
theorem dX8_toldBy_68 : decode cX8_toldBy 68 = .ok (.iload_n 1, 1) := D_27 yB_cX8_toldBy rfl rfl
theorem dX8_toldBy_69 : decode cX8_toldBy 69 = .ok (.invokestatic 164, 3) := D_184 yB_cX8_toldBy rfl rfl rfl
theorem dX8_toldBy_72 : decode cX8_toldBy 72 = .ok (.istore 5, 2) := D_54 yB_cX8_toldBy rfl rfl rfl
theorem dX8_toldBy_74 : decode cX8_toldBy 74 = .ok (.aload_n 0, 1) := D_42 yB_cX8_toldBy rfl rfl
theorem dX8_toldBy_75 : decode cX8_toldBy 75 = .ok (.iload_n 2, 1) := D_28 yB_cX8_toldBy rfl rfl
theorem dX8_toldBy_76 : decode cX8_toldBy 76 = .ok (.invokestatic 164, 3) := D_184 yB_cX8_toldBy rfl rfl rfl
theorem dX8_toldBy_79 : decode cX8_toldBy 79 = .ok (.istore 6, 2) := D_54 yB_cX8_toldBy rfl rfl rfl
theorem dX8_toldBy_81 : decode cX8_toldBy 81 = .ok (.goto 140, 3) := D_167 yB_cX8_toldBy rfl rfl (sg_p (m := 32768) (N := 140) rfl rfl rfl)
theorem dX8_toldBy_84 : decode cX8_toldBy 84 = .ok (.aload_n 0, 1) := D_42 yB_cX8_toldBy rfl rfl
theorem dX8_toldBy_85 : decode cX8_toldBy 85 = .ok (.iload_n 1, 1) := D_27 yB_cX8_toldBy rfl rfl
theorem dX8_toldBy_86 : decode cX8_toldBy 86 = .ok (.invokestatic 164, 3) := D_184 yB_cX8_toldBy rfl rfl rfl
theorem dX8_toldBy_89 : decode cX8_toldBy 89 = .ok (.aload_n 0, 1) := D_42 yB_cX8_toldBy rfl rfl
theorem dX8_toldBy_90 : decode cX8_toldBy 90 = .ok (.iload_n 1, 1) := D_27 yB_cX8_toldBy rfl rfl
theorem dX8_toldBy_91 : decode cX8_toldBy 91 = .ok (.iconst 3, 1) := D_6 yB_cX8_toldBy rfl rfl
theorem dX8_toldBy_92 : decode cX8_toldBy 92 = .ok (.invokestatic 130, 3) := D_184 yB_cX8_toldBy rfl rfl rfl
theorem dX8_toldBy_95 : decode cX8_toldBy 95 = .ok (.imul, 1) := D_104 yB_cX8_toldBy rfl rfl
theorem dX8_toldBy_96 : decode cX8_toldBy 96 = .ok (.istore 5, 2) := D_54 yB_cX8_toldBy rfl rfl rfl
theorem dX8_toldBy_98 : decode cX8_toldBy 98 = .ok (.aload_n 0, 1) := D_42 yB_cX8_toldBy rfl rfl
theorem dX8_toldBy_99 : decode cX8_toldBy 99 = .ok (.iload_n 2, 1) := D_28 yB_cX8_toldBy rfl rfl
theorem dX8_toldBy_100 : decode cX8_toldBy 100 = .ok (.invokestatic 164, 3) := D_184 yB_cX8_toldBy rfl rfl rfl
theorem dX8_toldBy_103 : decode cX8_toldBy 103 = .ok (.aload_n 0, 1) := D_42 yB_cX8_toldBy rfl rfl
theorem dX8_toldBy_104 : decode cX8_toldBy 104 = .ok (.iload_n 2, 1) := D_28 yB_cX8_toldBy rfl rfl
theorem dX8_toldBy_105 : decode cX8_toldBy 105 = .ok (.iconst 3, 1) := D_6 yB_cX8_toldBy rfl rfl
theorem dX8_toldBy_106 : decode cX8_toldBy 106 = .ok (.invokestatic 130, 3) := D_184 yB_cX8_toldBy rfl rfl rfl
theorem dX8_toldBy_109 : decode cX8_toldBy 109 = .ok (.imul, 1) := D_104 yB_cX8_toldBy rfl rfl
theorem dX8_toldBy_110 : decode cX8_toldBy 110 = .ok (.istore 6, 2) := D_54 yB_cX8_toldBy rfl rfl rfl
theorem dX8_toldBy_112 : decode cX8_toldBy 112 = .ok (.goto 109, 3) := D_167 yB_cX8_toldBy rfl rfl (sg_p (m := 32768) (N := 109) rfl rfl rfl)
theorem dX8_toldBy_115 : decode cX8_toldBy 115 = .ok (.aload_n 0, 1) := D_42 yB_cX8_toldBy rfl rfl
theorem dX8_toldBy_116 : decode cX8_toldBy 116 = .ok (.iload_n 1, 1) := D_27 yB_cX8_toldBy rfl rfl
theorem dX8_toldBy_117 : decode cX8_toldBy 117 = .ok (.iconst 2, 1) := D_5 yB_cX8_toldBy rfl rfl
theorem dX8_toldBy_118 : decode cX8_toldBy 118 = .ok (.invokestatic 130, 3) := D_184 yB_cX8_toldBy rfl rfl rfl
theorem dX8_toldBy_121 : decode cX8_toldBy 121 = .ok (.istore 5, 2) := D_54 yB_cX8_toldBy rfl rfl rfl
theorem dX8_toldBy_123 : decode cX8_toldBy 123 = .ok (.aload_n 0, 1) := D_42 yB_cX8_toldBy rfl rfl
theorem dX8_toldBy_124 : decode cX8_toldBy 124 = .ok (.iload_n 2, 1) := D_28 yB_cX8_toldBy rfl rfl
theorem dX8_toldBy_125 : decode cX8_toldBy 125 = .ok (.iconst 2, 1) := D_5 yB_cX8_toldBy rfl rfl
theorem dX8_toldBy_126 : decode cX8_toldBy 126 = .ok (.invokestatic 130, 3) := D_184 yB_cX8_toldBy rfl rfl rfl
theorem dX8_toldBy_129 : decode cX8_toldBy 129 = .ok (.istore 6, 2) := D_54 yB_cX8_toldBy rfl rfl rfl
theorem dX8_toldBy_131 : decode cX8_toldBy 131 = .ok (.iload 5, 2) := D_21 yB_cX8_toldBy rfl rfl rfl
theorem dX8_toldBy_133 : decode cX8_toldBy 133 = .ok (.iload 6, 2) := D_21 yB_cX8_toldBy rfl rfl rfl
theorem dX8_toldBy_135 : decode cX8_toldBy 135 = .ok (.if_icmp .ne 86, 3) := D_160 yB_cX8_toldBy rfl rfl (sg_p (m := 32768) (N := 86) rfl rfl rfl)
theorem dX8_toldBy_138 : decode cX8_toldBy 138 = .ok (.aload_n 0, 1) := D_42 yB_cX8_toldBy rfl rfl
theorem dX8_toldBy_139 : decode cX8_toldBy 139 = .ok (.iload_n 1, 1) := D_27 yB_cX8_toldBy rfl rfl
theorem dX8_toldBy_140 : decode cX8_toldBy 140 = .ok (.iload_n 2, 1) := D_28 yB_cX8_toldBy rfl rfl
theorem dX8_toldBy_141 : decode cX8_toldBy 141 = .ok (.iconst 1, 1) := D_4 yB_cX8_toldBy rfl rfl
theorem dX8_toldBy_142 : decode cX8_toldBy 142 = .ok (.iload 4, 2) := D_21 yB_cX8_toldBy rfl rfl rfl
theorem dX8_toldBy_144 : decode cX8_toldBy 144 = .ok (.invokestatic 167, 3) := D_184 yB_cX8_toldBy rfl rfl rfl
theorem dX8_toldBy_147 : decode cX8_toldBy 147 = .ok (.ireturn, 1) := D_172 yB_cX8_toldBy rfl rfl
theorem dX8_toldBy_148 : decode cX8_toldBy 148 = .ok (.iload 4, 2) := D_21 yB_cX8_toldBy rfl rfl rfl
theorem dX8_toldBy_150 : decode cX8_toldBy 150 = .ok (.ifCond .ge 7, 3) := D_156 yB_cX8_toldBy rfl rfl (sg_p (m := 32768) (N := 7) rfl rfl rfl)
theorem dX8_toldBy_153 : decode cX8_toldBy 153 = .ok (.iconst 0, 1) := D_3 yB_cX8_toldBy rfl rfl
theorem dX8_toldBy_154 : decode cX8_toldBy 154 = .ok (.goto 20, 3) := D_167 yB_cX8_toldBy rfl rfl (sg_p (m := 32768) (N := 20) rfl rfl rfl)
theorem dX8_toldBy_157 : decode cX8_toldBy 157 = .ok (.aload_n 0, 1) := D_42 yB_cX8_toldBy rfl rfl
theorem dX8_toldBy_158 : decode cX8_toldBy 158 = .ok (.iload_n 1, 1) := D_27 yB_cX8_toldBy rfl rfl
theorem dX8_toldBy_159 : decode cX8_toldBy 159 = .ok (.aload_n 0, 1) := D_42 yB_cX8_toldBy rfl rfl
theorem dX8_toldBy_160 : decode cX8_toldBy 160 = .ok (.bipush 14, 2) := D_16 yB_cX8_toldBy rfl rfl (sg_p (m := 128) (N := 14) rfl rfl rfl)
theorem dX8_toldBy_162 : decode cX8_toldBy 162 = .ok (.iconst 3, 1) := D_6 yB_cX8_toldBy rfl rfl
theorem dX8_toldBy_163 : decode cX8_toldBy 163 = .ok (.iload 4, 2) := D_21 yB_cX8_toldBy rfl rfl rfl
theorem dX8_toldBy_165 : decode cX8_toldBy 165 = .ok (.imul, 1) := D_104 yB_cX8_toldBy rfl rfl
theorem dX8_toldBy_166 : decode cX8_toldBy 166 = .ok (.iadd, 1) := D_96 yB_cX8_toldBy rfl rfl
theorem dX8_toldBy_167 : decode cX8_toldBy 167 = .ok (.iconst 1, 1) := D_4 yB_cX8_toldBy rfl rfl
theorem dX8_toldBy_168 : decode cX8_toldBy 168 = .ok (.iadd, 1) := D_96 yB_cX8_toldBy rfl rfl
theorem dX8_toldBy_169 : decode cX8_toldBy 169 = .ok (.iaload, 1) := D_46 yB_cX8_toldBy rfl rfl
theorem dX8_toldBy_170 : decode cX8_toldBy 170 = .ok (.invokestatic 171, 3) := D_184 yB_cX8_toldBy rfl rfl rfl
theorem dX8_toldBy_173 : decode cX8_toldBy 173 = .ok (.ineg, 1) := D_116 yB_cX8_toldBy rfl rfl
theorem dX8_toldBy_174 : decode cX8_toldBy 174 = .ok (.istore 5, 2) := D_54 yB_cX8_toldBy rfl rfl rfl
theorem dX8_toldBy_176 : decode cX8_toldBy 176 = .ok (.iload 4, 2) := D_21 yB_cX8_toldBy rfl rfl rfl
theorem dX8_toldBy_178 : decode cX8_toldBy 178 = .ok (.ifCond .ge 7, 3) := D_156 yB_cX8_toldBy rfl rfl (sg_p (m := 32768) (N := 7) rfl rfl rfl)
theorem dX8_toldBy_181 : decode cX8_toldBy 181 = .ok (.iconst 0, 1) := D_3 yB_cX8_toldBy rfl rfl
theorem dX8_toldBy_182 : decode cX8_toldBy 182 = .ok (.goto 20, 3) := D_167 yB_cX8_toldBy rfl rfl (sg_p (m := 32768) (N := 20) rfl rfl rfl)
theorem dX8_toldBy_185 : decode cX8_toldBy 185 = .ok (.aload_n 0, 1) := D_42 yB_cX8_toldBy rfl rfl
theorem dX8_toldBy_186 : decode cX8_toldBy 186 = .ok (.iload_n 2, 1) := D_28 yB_cX8_toldBy rfl rfl
theorem dX8_toldBy_187 : decode cX8_toldBy 187 = .ok (.aload_n 0, 1) := D_42 yB_cX8_toldBy rfl rfl
theorem dX8_toldBy_188 : decode cX8_toldBy 188 = .ok (.bipush 14, 2) := D_16 yB_cX8_toldBy rfl rfl (sg_p (m := 128) (N := 14) rfl rfl rfl)
theorem dX8_toldBy_190 : decode cX8_toldBy 190 = .ok (.iconst 3, 1) := D_6 yB_cX8_toldBy rfl rfl
theorem dX8_toldBy_191 : decode cX8_toldBy 191 = .ok (.iload 4, 2) := D_21 yB_cX8_toldBy rfl rfl rfl
theorem dX8_toldBy_193 : decode cX8_toldBy 193 = .ok (.imul, 1) := D_104 yB_cX8_toldBy rfl rfl
theorem dX8_toldBy_194 : decode cX8_toldBy 194 = .ok (.iadd, 1) := D_96 yB_cX8_toldBy rfl rfl
theorem dX8_toldBy_195 : decode cX8_toldBy 195 = .ok (.iconst 1, 1) := D_4 yB_cX8_toldBy rfl rfl
theorem dX8_toldBy_196 : decode cX8_toldBy 196 = .ok (.iadd, 1) := D_96 yB_cX8_toldBy rfl rfl
theorem dX8_toldBy_197 : decode cX8_toldBy 197 = .ok (.iaload, 1) := D_46 yB_cX8_toldBy rfl rfl
theorem dX8_toldBy_198 : decode cX8_toldBy 198 = .ok (.invokestatic 171, 3) := D_184 yB_cX8_toldBy rfl rfl rfl
theorem dX8_toldBy_201 : decode cX8_toldBy 201 = .ok (.ineg, 1) := D_116 yB_cX8_toldBy rfl rfl
theorem dX8_toldBy_202 : decode cX8_toldBy 202 = .ok (.istore 6, 2) := D_54 yB_cX8_toldBy rfl rfl rfl
theorem dX8_toldBy_204 : decode cX8_toldBy 204 = .ok (.iload 5, 2) := D_21 yB_cX8_toldBy rfl rfl rfl
theorem dX8_toldBy_206 : decode cX8_toldBy 206 = .ok (.iload 6, 2) := D_21 yB_cX8_toldBy rfl rfl rfl
theorem dX8_toldBy_208 : decode cX8_toldBy 208 = .ok (.if_icmp .ne 13, 3) := D_160 yB_cX8_toldBy rfl rfl (sg_p (m := 32768) (N := 13) rfl rfl rfl)
theorem dX8_toldBy_211 : decode cX8_toldBy 211 = .ok (.aload_n 0, 1) := D_42 yB_cX8_toldBy rfl rfl
theorem dX8_toldBy_212 : decode cX8_toldBy 212 = .ok (.iload_n 1, 1) := D_27 yB_cX8_toldBy rfl rfl
theorem dX8_toldBy_213 : decode cX8_toldBy 213 = .ok (.iload_n 2, 1) := D_28 yB_cX8_toldBy rfl rfl
theorem dX8_toldBy_214 : decode cX8_toldBy 214 = .ok (.iconst 2, 1) := D_5 yB_cX8_toldBy rfl rfl
theorem dX8_toldBy_215 : decode cX8_toldBy 215 = .ok (.iload 4, 2) := D_21 yB_cX8_toldBy rfl rfl rfl
theorem dX8_toldBy_217 : decode cX8_toldBy 217 = .ok (.invokestatic 167, 3) := D_184 yB_cX8_toldBy rfl rfl rfl
theorem dX8_toldBy_220 : decode cX8_toldBy 220 = .ok (.ireturn, 1) := D_172 yB_cX8_toldBy rfl rfl
theorem dX8_toldBy_221 : decode cX8_toldBy 221 = .ok (.iload 5, 2) := D_21 yB_cX8_toldBy rfl rfl rfl
theorem dX8_toldBy_223 : decode cX8_toldBy 223 = .ok (.iload 6, 2) := D_21 yB_cX8_toldBy rfl rfl rfl
theorem dX8_toldBy_225 : decode cX8_toldBy 225 = .ok (.if_icmp .eq 18, 3) := D_159 yB_cX8_toldBy rfl rfl (sg_p (m := 32768) (N := 18) rfl rfl rfl)
theorem dX8_toldBy_228 : decode cX8_toldBy 228 = .ok (.iload 5, 2) := D_21 yB_cX8_toldBy rfl rfl rfl
theorem dX8_toldBy_230 : decode cX8_toldBy 230 = .ok (.iload 6, 2) := D_21 yB_cX8_toldBy rfl rfl rfl
theorem dX8_toldBy_232 : decode cX8_toldBy 232 = .ok (.if_icmp .ge 7, 3) := D_162 yB_cX8_toldBy rfl rfl (sg_p (m := 32768) (N := 7) rfl rfl rfl)
theorem dX8_toldBy_235 : decode cX8_toldBy 235 = .ok (.iload_n 1, 1) := D_27 yB_cX8_toldBy rfl rfl
theorem dX8_toldBy_236 : decode cX8_toldBy 236 = .ok (.goto 17, 3) := D_167 yB_cX8_toldBy rfl rfl (sg_p (m := 32768) (N := 17) rfl rfl rfl)
theorem dX8_toldBy_239 : decode cX8_toldBy 239 = .ok (.iload_n 2, 1) := D_28 yB_cX8_toldBy rfl rfl
theorem dX8_toldBy_240 : decode cX8_toldBy 240 = .ok (.goto 13, 3) := D_167 yB_cX8_toldBy rfl rfl (sg_p (m := 32768) (N := 13) rfl rfl rfl)
theorem dX8_toldBy_243 : decode cX8_toldBy 243 = .ok (.iload_n 1, 1) := D_27 yB_cX8_toldBy rfl rfl
theorem dX8_toldBy_244 : decode cX8_toldBy 244 = .ok (.iload_n 2, 1) := D_28 yB_cX8_toldBy rfl rfl
theorem dX8_toldBy_245 : decode cX8_toldBy 245 = .ok (.if_icmp .le 7, 3) := D_164 yB_cX8_toldBy rfl rfl (sg_p (m := 32768) (N := 7) rfl rfl rfl)
theorem dX8_toldBy_248 : decode cX8_toldBy 248 = .ok (.iload_n 1, 1) := D_27 yB_cX8_toldBy rfl rfl
theorem dX8_toldBy_249 : decode cX8_toldBy 249 = .ok (.goto 4, 3) := D_167 yB_cX8_toldBy rfl rfl (sg_p (m := 32768) (N := 4) rfl rfl rfl)
theorem dX8_toldBy_252 : decode cX8_toldBy 252 = .ok (.iload_n 2, 1) := D_28 yB_cX8_toldBy rfl rfl
theorem dX8_toldBy_253 : decode cX8_toldBy 253 = .ok (.ireturn, 1) := D_172 yB_cX8_toldBy rfl rfl
def F_X8_toldBy0 (σ : Mem) (a1 : Nat) (x2 : Int32) (x3 : Int32) (x4 : Int32) (x5 : Int32) : Option (Int32) := if x4 = 1 then ((F_X8_get σ a1 x2 4).bind fun r_5 => (F_X8_get σ a1 x3 4).bind fun r_6 => if r_5 = r_6 then (if x2 ≤ x3 then (some x3) else (some x2)) else (if r_6 ≤ r_5 then (some x3) else (some x2))) else (if x4 = 2 then ((F_X8_behind σ a1 x2).bind fun r_11 => (F_X8_behind σ a1 x3).bind fun r_12 => if r_11 = r_12 then (if x2 ≤ x3 then (some x3) else (some x2)) else (if r_12 ≤ r_11 then (some x3) else (some x2))) else (if x4 = 5 then ((F_X8_behind σ a1 x2).bind fun r_23 => (F_X8_get σ a1 x2 3).bind fun r_24 => (F_X8_behind σ a1 x3).bind fun r_25 => (F_X8_get σ a1 x3 3).bind fun r_26 => if (r_23 * r_24) = (r_25 * r_26) then (if x2 ≤ x3 then (some x3) else (some x2)) else (if (r_25 * r_26) ≤ (r_23 * r_24) then (some x3) else (some x2))) else (if x4 = 6 then ((F_X8_get σ a1 x2 2).bind fun r_31 => (F_X8_get σ a1 x3 2).bind fun r_32 => if r_31 = r_32 then (none) else (if r_31 = r_32 then (if x2 ≤ x3 then (some x3) else (some x2)) else (if r_32 ≤ r_31 then (some x3) else (some x2)))) else (if x4 = 7 then (if 0 ≤ x5 then ((ix 121 ((14 + (3 * x5)) + 1)).bind fun k_39 => (F_X8_falls σ a1 x2 (σ a1 k_39)).bind fun r_40 => if 0 ≤ x5 then ((ix 121 ((14 + (3 * x5)) + 1)).bind fun k_42 => (F_X8_falls σ a1 x3 (σ a1 k_42)).bind fun r_43 => if (-r_40) = (-r_43) then (none) else (if (-r_40) = (-r_43) then (if x2 ≤ x3 then (some x3) else (some x2)) else (if (-r_43) ≤ (-r_40) then (some x3) else (some x2)))) else (if (-r_40) = 0 then (none) else (if (-r_40) = 0 then (if x2 ≤ x3 then (some x3) else (some x2)) else (if 0 ≤ (-r_40) then (some x3) else (some x2))))) else (if 0 ≤ x5 then ((ix 121 ((14 + (3 * x5)) + 1)).bind fun k_53 => (F_X8_falls σ a1 x3 (σ a1 k_53)).bind fun r_54 => if 0 = (-r_54) then (none) else (if 0 = (-r_54) then (if x2 ≤ x3 then (some x3) else (some x2)) else (if (-r_54) ≤ 0 then (some x3) else (some x2)))) else (none))) else (if x2 ≤ x3 then (some x3) else (some x2))))))
set_option maxHeartbeats 4000000 in
set_option maxRecDepth 100000 in
theorem c_X8_toldBy0 (l : Launch) (D : va_G) (cA : Nat → ClassId) (ad : Nat → Nat) (o : Int64) (σ : Mem) (a1 : Nat) (x2 : Int32) (x3 : Int32) (x4 : Int32) (x5 : Int32) (ha1 : a1 < 106 ∧ kd a1 = (9, 121)) (res : Int32) (h : F_X8_toldBy0 σ a1 x2 x3 x4 x5 = some res) (sz : Nat) : Met l yX8_toldBy (WY yX8_toldBy cX8_toldBy 7 (some .int)) (RM 2) (va_Pc [.ref (ad a1), .int x2, .int x3, .int x4, .int x5] (PW D cA ad o σ sz)) (va_Qi (fun r σ9 => r = res ∧ σ9 = σ) (QW D cA ad o) (FA ad sz)) 0 0 (FA ad sz) := by
  refine ct_of (own := RX8) (k := 2) (Qf := va_Qi (fun r σ9 => r = res ∧ σ9 = σ) (QW D cA ad o)) rfl (by decide) (Nat.le_of_ble_eq_true rfl) (fun p e s m below meth c ls C0 X hr hlk hP hl => ?_) sz
  have hS : va_S (FA ad s.heap.size) s.heap s.heap [] := va_S.rf
  have hl : lv_has ls 7 [(0, .ref (ad a1)), (1, .int x2), (2, .int x3), (3, .int x4), (4, .int x5)] := hl
  obtain ⟨hx, hb, hml, hown, hts⟩ := id C0
  unfold F_X8_toldBy0 at h
  refine lv_iconst (v := 0) hx hb dX8_toldBy_0 (by decide) ?_
  refine lv_istore (lv' := [(5, .int 0), (0, .ref (ad a1)), (1, .int x2), (2, .int x3), (3, .int x4), (4, .int x5)]) hx hb dX8_toldBy_1 hl (by decide) rfl (fun ls hl => ?_)
  refine lv_iconst (v := 0) hx hb dX8_toldBy_3 (by decide) ?_
  refine lv_istore (lv' := [(6, .int 0), (5, .int 0), (0, .ref (ad a1)), (1, .int x2), (2, .int x3), (3, .int x4), (4, .int x5)]) hx hb dX8_toldBy_4 hl (by decide) rfl (fun ls hl => ?_)
  refine lv_iload_n hx hb dX8_toldBy_6 rfl (lv_at hl 5 rfl) ?_
  rcases sw_in (x := x4) (lo := 1) (n := 7) with c_1 | ⟨j, hj, c_1⟩
  · replace h := it_f h (sw_ne (v := 1) c_1 (by decide))
    replace h := it_f h (sw_ne (v := 2) c_1 (by decide))
    replace h := it_f h (sw_ne (v := 5) c_1 (by decide))
    replace h := it_f h (sw_ne (v := 6) c_1 (by decide))
    replace h := it_f h (sw_ne (v := 7) c_1 (by decide))
    refine lv_tableOut (tgt := 221) hx hb dX8_toldBy_7 (by omega) (by decide) ?_
    refine lv_iload hx hb dX8_toldBy_221 (lv_at hl 1 rfl) ?_
    refine lv_iload hx hb dX8_toldBy_223 (lv_at hl 0 rfl) ?_
    refine lv_icmp_eq (tgt := 243) hx hb dX8_toldBy_225 (by decide) (fun _ => ?_) (fun c_2 => absurd c_2 (by decide))
    refine lv_iload_n hx hb dX8_toldBy_243 rfl (lv_at hl 3 rfl) ?_
    refine lv_iload_n hx hb dX8_toldBy_244 rfl (lv_at hl 4 rfl) ?_
    refine lv_icmp_le (tgt := 252) hx hb dX8_toldBy_245 (by decide) (fun c_3 => ?_) (fun c_3 => ?_)
    · replace h := it_t h c_3
      refine lv_iload_n hx hb dX8_toldBy_252 rfl (lv_at hl 4 rfl) ?_
      exact r_iret C0 X hP hS hr hlk dX8_toldBy_253 ⟨Option.some.inj h, rfl⟩
    · replace h := it_f h c_3
      refine lv_iload_n hx hb dX8_toldBy_248 rfl (lv_at hl 3 rfl) ?_
      refine lv_goto (tgt := 253) hx hb dX8_toldBy_249 (by decide) ?_
      exact r_iret C0 X hP hS hr hlk dX8_toldBy_253 ⟨Option.some.inj h, rfl⟩
  · rcases (show j = 0 ∨ j = 1 ∨ j = 2 ∨ j = 3 ∨ j = 4 ∨ j = 5 ∨ j = 6 by omega) with rfl | rfl | rfl | rfl | rfl | rfl | rfl
    · have e_4 : x4 = 1 := sw_eq c_1 (by decide)
      replace h := it_t h e_4
      refine lv_tableIn (off := 41) (tgt := 48) hx hb dX8_toldBy_7 (by rw [e_4]; decide) (by rw [e_4]; decide) (by rw [e_4]; rfl) (by decide) ?_
      refine lv_aload_n hx hb dX8_toldBy_48 rfl (lv_at hl 2 rfl) ?_
      refine lv_iload_n hx hb dX8_toldBy_49 rfl (lv_at hl 3 rfl) ?_
      refine lv_iconst (v := 4) hx hb dX8_toldBy_50 (by decide) ?_
      obtain ⟨r_5, er_5, h⟩ := bnd h
      refine r_ci X hS (r_runS (As := [.ref (ad a1), .int x2, .int 4]) (rest := []) C0 X hP L_X8_130 (fun sz => c_X8_get l D cA ad o σ a1 x2 4 ha1 r_5 er_5 sz) ⟨Nat.le_of_ble_eq_true rfl, Nat.le_of_ble_eq_true rfl⟩ rfl hl.1 rfl (Nat.le_of_ble_eq_true rfl) dX8_toldBy_51 ⟨Nat.zero_le _, Nat.zero_le _⟩) (fun r9 σ9 H locs hw hP hS => ?_)
      rw [hw.2] at hP
      rw [hw.1]
      refine lv_istore (lv' := [(5, .int r_5), (6, .int 0), (0, .ref (ad a1)), (1, .int x2), (2, .int x3), (3, .int x4), (4, .int x5)]) hx hb dX8_toldBy_54 hl (by decide) rfl (fun ls hl => ?_)
      refine lv_aload_n hx hb dX8_toldBy_56 rfl (lv_at hl 2 rfl) ?_
      refine lv_iload_n hx hb dX8_toldBy_57 rfl (lv_at hl 4 rfl) ?_
      refine lv_iconst (v := 4) hx hb dX8_toldBy_58 (by decide) ?_
      obtain ⟨r_6, er_6, h⟩ := bnd h
      refine r_ci X hS (r_runS (As := [.ref (ad a1), .int x3, .int 4]) (rest := []) C0 X hP L_X8_130 (fun sz => c_X8_get l D cA ad o σ a1 x3 4 ha1 r_6 er_6 sz) ⟨Nat.le_of_ble_eq_true rfl, Nat.le_of_ble_eq_true rfl⟩ rfl hl.1 rfl (Nat.le_of_ble_eq_true rfl) dX8_toldBy_59 ⟨Nat.zero_le _, Nat.zero_le _⟩) (fun r9 σ9 H locs hw hP hS => ?_)
      rw [hw.2] at hP
      rw [hw.1]
      refine lv_istore (lv' := [(6, .int r_6), (5, .int r_5), (0, .ref (ad a1)), (1, .int x2), (2, .int x3), (3, .int x4), (4, .int x5)]) hx hb dX8_toldBy_62 hl (by decide) rfl (fun ls hl => ?_)
      refine lv_goto (tgt := 221) hx hb dX8_toldBy_64 (by decide) ?_
      refine lv_iload hx hb dX8_toldBy_221 (lv_at hl 1 rfl) ?_
      refine lv_iload hx hb dX8_toldBy_223 (lv_at hl 0 rfl) ?_
      refine lv_icmp_eq (tgt := 243) hx hb dX8_toldBy_225 (by decide) (fun c_7 => ?_) (fun c_7 => ?_)
      · replace h := it_t h c_7
        refine lv_iload_n hx hb dX8_toldBy_243 rfl (lv_at hl 3 rfl) ?_
        refine lv_iload_n hx hb dX8_toldBy_244 rfl (lv_at hl 4 rfl) ?_
        refine lv_icmp_le (tgt := 252) hx hb dX8_toldBy_245 (by decide) (fun c_8 => ?_) (fun c_8 => ?_)
        · replace h := it_t h c_8
          refine lv_iload_n hx hb dX8_toldBy_252 rfl (lv_at hl 4 rfl) ?_
          exact r_iret C0 X hP hS hr hlk dX8_toldBy_253 ⟨Option.some.inj h, rfl⟩
        · replace h := it_f h c_8
          refine lv_iload_n hx hb dX8_toldBy_248 rfl (lv_at hl 3 rfl) ?_
          refine lv_goto (tgt := 253) hx hb dX8_toldBy_249 (by decide) ?_
          exact r_iret C0 X hP hS hr hlk dX8_toldBy_253 ⟨Option.some.inj h, rfl⟩
      · replace h := it_f h c_7
        refine lv_iload hx hb dX8_toldBy_228 (lv_at hl 1 rfl) ?_
        refine lv_iload hx hb dX8_toldBy_230 (lv_at hl 0 rfl) ?_
        refine lv_icmp_ge (tgt := 239) hx hb dX8_toldBy_232 (by decide) (fun c_9 => ?_) (fun c_9 => ?_)
        · replace h := it_t h c_9
          refine lv_iload_n hx hb dX8_toldBy_239 rfl (lv_at hl 4 rfl) ?_
          refine lv_goto (tgt := 253) hx hb dX8_toldBy_240 (by decide) ?_
          exact r_iret C0 X hP hS hr hlk dX8_toldBy_253 ⟨Option.some.inj h, rfl⟩
        · replace h := it_f h c_9
          refine lv_iload_n hx hb dX8_toldBy_235 rfl (lv_at hl 3 rfl) ?_
          refine lv_goto (tgt := 253) hx hb dX8_toldBy_236 (by decide) ?_
          exact r_iret C0 X hP hS hr hlk dX8_toldBy_253 ⟨Option.some.inj h, rfl⟩
    · have e_10 : x4 = 2 := sw_eq c_1 (by decide)
      replace h := it_f h (show ¬ x4 = 1 by rw [e_10]; decide)
      replace h := it_t h e_10
      refine lv_tableIn (off := 60) (tgt := 67) hx hb dX8_toldBy_7 (by rw [e_10]; decide) (by rw [e_10]; decide) (by rw [e_10]; rfl) (by decide) ?_
      refine lv_aload_n hx hb dX8_toldBy_67 rfl (lv_at hl 2 rfl) ?_
      refine lv_iload_n hx hb dX8_toldBy_68 rfl (lv_at hl 3 rfl) ?_
      obtain ⟨r_11, er_11, h⟩ := bnd h
      refine r_ci X hS (r_runS (As := [.ref (ad a1), .int x2]) (rest := []) C0 X hP L_X8_164 (fun sz => c_X8_behind l D cA ad o σ a1 x2 ha1 r_11 er_11 sz) ⟨Nat.le_of_ble_eq_true rfl, Nat.le_of_ble_eq_true rfl⟩ rfl hl.1 rfl (Nat.le_of_ble_eq_true rfl) dX8_toldBy_69 ⟨Nat.zero_le _, Nat.zero_le _⟩) (fun r9 σ9 H locs hw hP hS => ?_)
      rw [hw.2] at hP
      rw [hw.1]
      refine lv_istore (lv' := [(5, .int r_11), (6, .int 0), (0, .ref (ad a1)), (1, .int x2), (2, .int x3), (3, .int x4), (4, .int x5)]) hx hb dX8_toldBy_72 hl (by decide) rfl (fun ls hl => ?_)
      refine lv_aload_n hx hb dX8_toldBy_74 rfl (lv_at hl 2 rfl) ?_
      refine lv_iload_n hx hb dX8_toldBy_75 rfl (lv_at hl 4 rfl) ?_
      obtain ⟨r_12, er_12, h⟩ := bnd h
      refine r_ci X hS (r_runS (As := [.ref (ad a1), .int x3]) (rest := []) C0 X hP L_X8_164 (fun sz => c_X8_behind l D cA ad o σ a1 x3 ha1 r_12 er_12 sz) ⟨Nat.le_of_ble_eq_true rfl, Nat.le_of_ble_eq_true rfl⟩ rfl hl.1 rfl (Nat.le_of_ble_eq_true rfl) dX8_toldBy_76 ⟨Nat.zero_le _, Nat.zero_le _⟩) (fun r9 σ9 H locs hw hP hS => ?_)
      rw [hw.2] at hP
      rw [hw.1]
      refine lv_istore (lv' := [(6, .int r_12), (5, .int r_11), (0, .ref (ad a1)), (1, .int x2), (2, .int x3), (3, .int x4), (4, .int x5)]) hx hb dX8_toldBy_79 hl (by decide) rfl (fun ls hl => ?_)
      refine lv_goto (tgt := 221) hx hb dX8_toldBy_81 (by decide) ?_
      refine lv_iload hx hb dX8_toldBy_221 (lv_at hl 1 rfl) ?_
      refine lv_iload hx hb dX8_toldBy_223 (lv_at hl 0 rfl) ?_
      refine lv_icmp_eq (tgt := 243) hx hb dX8_toldBy_225 (by decide) (fun c_13 => ?_) (fun c_13 => ?_)
      · replace h := it_t h c_13
        refine lv_iload_n hx hb dX8_toldBy_243 rfl (lv_at hl 3 rfl) ?_
        refine lv_iload_n hx hb dX8_toldBy_244 rfl (lv_at hl 4 rfl) ?_
        refine lv_icmp_le (tgt := 252) hx hb dX8_toldBy_245 (by decide) (fun c_14 => ?_) (fun c_14 => ?_)
        · replace h := it_t h c_14
          refine lv_iload_n hx hb dX8_toldBy_252 rfl (lv_at hl 4 rfl) ?_
          exact r_iret C0 X hP hS hr hlk dX8_toldBy_253 ⟨Option.some.inj h, rfl⟩
        · replace h := it_f h c_14
          refine lv_iload_n hx hb dX8_toldBy_248 rfl (lv_at hl 3 rfl) ?_
          refine lv_goto (tgt := 253) hx hb dX8_toldBy_249 (by decide) ?_
          exact r_iret C0 X hP hS hr hlk dX8_toldBy_253 ⟨Option.some.inj h, rfl⟩
      · replace h := it_f h c_13
        refine lv_iload hx hb dX8_toldBy_228 (lv_at hl 1 rfl) ?_
        refine lv_iload hx hb dX8_toldBy_230 (lv_at hl 0 rfl) ?_
        refine lv_icmp_ge (tgt := 239) hx hb dX8_toldBy_232 (by decide) (fun c_15 => ?_) (fun c_15 => ?_)
        · replace h := it_t h c_15
          refine lv_iload_n hx hb dX8_toldBy_239 rfl (lv_at hl 4 rfl) ?_
          refine lv_goto (tgt := 253) hx hb dX8_toldBy_240 (by decide) ?_
          exact r_iret C0 X hP hS hr hlk dX8_toldBy_253 ⟨Option.some.inj h, rfl⟩
        · replace h := it_f h c_15
          refine lv_iload_n hx hb dX8_toldBy_235 rfl (lv_at hl 3 rfl) ?_
          refine lv_goto (tgt := 253) hx hb dX8_toldBy_236 (by decide) ?_
          exact r_iret C0 X hP hS hr hlk dX8_toldBy_253 ⟨Option.some.inj h, rfl⟩
    · have e_16 : x4 = 3 := sw_eq c_1 (by decide)
      replace h := it_f h (show ¬ x4 = 1 by rw [e_16]; decide)
      replace h := it_f h (show ¬ x4 = 2 by rw [e_16]; decide)
      replace h := it_f h (show ¬ x4 = 5 by rw [e_16]; decide)
      replace h := it_f h (show ¬ x4 = 6 by rw [e_16]; decide)
      replace h := it_f h (show ¬ x4 = 7 by rw [e_16]; decide)
      refine lv_tableIn (off := 214) (tgt := 221) hx hb dX8_toldBy_7 (by rw [e_16]; decide) (by rw [e_16]; decide) (by rw [e_16]; rfl) (by decide) ?_
      refine lv_iload hx hb dX8_toldBy_221 (lv_at hl 1 rfl) ?_
      refine lv_iload hx hb dX8_toldBy_223 (lv_at hl 0 rfl) ?_
      refine lv_icmp_eq (tgt := 243) hx hb dX8_toldBy_225 (by decide) (fun _ => ?_) (fun c_17 => absurd c_17 (by decide))
      refine lv_iload_n hx hb dX8_toldBy_243 rfl (lv_at hl 3 rfl) ?_
      refine lv_iload_n hx hb dX8_toldBy_244 rfl (lv_at hl 4 rfl) ?_
      refine lv_icmp_le (tgt := 252) hx hb dX8_toldBy_245 (by decide) (fun c_18 => ?_) (fun c_18 => ?_)
      · replace h := it_t h c_18
        refine lv_iload_n hx hb dX8_toldBy_252 rfl (lv_at hl 4 rfl) ?_
        exact r_iret C0 X hP hS hr hlk dX8_toldBy_253 ⟨Option.some.inj h, rfl⟩
      · replace h := it_f h c_18
        refine lv_iload_n hx hb dX8_toldBy_248 rfl (lv_at hl 3 rfl) ?_
        refine lv_goto (tgt := 253) hx hb dX8_toldBy_249 (by decide) ?_
        exact r_iret C0 X hP hS hr hlk dX8_toldBy_253 ⟨Option.some.inj h, rfl⟩
    · have e_19 : x4 = 4 := sw_eq c_1 (by decide)
      replace h := it_f h (show ¬ x4 = 1 by rw [e_19]; decide)
      replace h := it_f h (show ¬ x4 = 2 by rw [e_19]; decide)
      replace h := it_f h (show ¬ x4 = 5 by rw [e_19]; decide)
      replace h := it_f h (show ¬ x4 = 6 by rw [e_19]; decide)
      replace h := it_f h (show ¬ x4 = 7 by rw [e_19]; decide)
      refine lv_tableIn (off := 214) (tgt := 221) hx hb dX8_toldBy_7 (by rw [e_19]; decide) (by rw [e_19]; decide) (by rw [e_19]; rfl) (by decide) ?_
      refine lv_iload hx hb dX8_toldBy_221 (lv_at hl 1 rfl) ?_
      refine lv_iload hx hb dX8_toldBy_223 (lv_at hl 0 rfl) ?_
      refine lv_icmp_eq (tgt := 243) hx hb dX8_toldBy_225 (by decide) (fun _ => ?_) (fun c_20 => absurd c_20 (by decide))
      refine lv_iload_n hx hb dX8_toldBy_243 rfl (lv_at hl 3 rfl) ?_
      refine lv_iload_n hx hb dX8_toldBy_244 rfl (lv_at hl 4 rfl) ?_
      refine lv_icmp_le (tgt := 252) hx hb dX8_toldBy_245 (by decide) (fun c_21 => ?_) (fun c_21 => ?_)
      · replace h := it_t h c_21
        refine lv_iload_n hx hb dX8_toldBy_252 rfl (lv_at hl 4 rfl) ?_
        exact r_iret C0 X hP hS hr hlk dX8_toldBy_253 ⟨Option.some.inj h, rfl⟩
      · replace h := it_f h c_21
        refine lv_iload_n hx hb dX8_toldBy_248 rfl (lv_at hl 3 rfl) ?_
        refine lv_goto (tgt := 253) hx hb dX8_toldBy_249 (by decide) ?_
        exact r_iret C0 X hP hS hr hlk dX8_toldBy_253 ⟨Option.some.inj h, rfl⟩
    · have e_22 : x4 = 5 := sw_eq c_1 (by decide)
      replace h := it_f h (show ¬ x4 = 1 by rw [e_22]; decide)
      replace h := it_f h (show ¬ x4 = 2 by rw [e_22]; decide)
      replace h := it_t h e_22
      refine lv_tableIn (off := 77) (tgt := 84) hx hb dX8_toldBy_7 (by rw [e_22]; decide) (by rw [e_22]; decide) (by rw [e_22]; rfl) (by decide) ?_
      refine lv_aload_n hx hb dX8_toldBy_84 rfl (lv_at hl 2 rfl) ?_
      refine lv_iload_n hx hb dX8_toldBy_85 rfl (lv_at hl 3 rfl) ?_
      obtain ⟨r_23, er_23, h⟩ := bnd h
      refine r_ci X hS (r_runS (As := [.ref (ad a1), .int x2]) (rest := []) C0 X hP L_X8_164 (fun sz => c_X8_behind l D cA ad o σ a1 x2 ha1 r_23 er_23 sz) ⟨Nat.le_of_ble_eq_true rfl, Nat.le_of_ble_eq_true rfl⟩ rfl hl.1 rfl (Nat.le_of_ble_eq_true rfl) dX8_toldBy_86 ⟨Nat.zero_le _, Nat.zero_le _⟩) (fun r9 σ9 H locs hw hP hS => ?_)
      rw [hw.2] at hP
      rw [hw.1]
      refine lv_aload_n hx hb dX8_toldBy_89 rfl (lv_at hl 2 rfl) ?_
      refine lv_iload_n hx hb dX8_toldBy_90 rfl (lv_at hl 3 rfl) ?_
      refine lv_iconst (v := 3) hx hb dX8_toldBy_91 (by decide) ?_
      obtain ⟨r_24, er_24, h⟩ := bnd h
      refine r_ci X hS (r_runS (As := [.ref (ad a1), .int x2, .int 3]) (rest := [.int r_23]) C0 X hP L_X8_130 (fun sz => c_X8_get l D cA ad o σ a1 x2 3 ha1 r_24 er_24 sz) ⟨Nat.le_of_ble_eq_true rfl, Nat.le_of_ble_eq_true rfl⟩ rfl hl.1 rfl (Nat.le_of_ble_eq_true rfl) dX8_toldBy_92 ⟨Nat.zero_le _, Nat.zero_le _⟩) (fun r9 σ9 H locs hw hP hS => ?_)
      rw [hw.2] at hP
      rw [hw.1]
      refine lv_imul hx hb dX8_toldBy_95 ?_
      refine lv_istore (lv' := [(5, .int (r_23 * r_24)), (6, .int 0), (0, .ref (ad a1)), (1, .int x2), (2, .int x3), (3, .int x4), (4, .int x5)]) hx hb dX8_toldBy_96 hl (by decide) rfl (fun ls hl => ?_)
      refine lv_aload_n hx hb dX8_toldBy_98 rfl (lv_at hl 2 rfl) ?_
      refine lv_iload_n hx hb dX8_toldBy_99 rfl (lv_at hl 4 rfl) ?_
      obtain ⟨r_25, er_25, h⟩ := bnd h
      refine r_ci X hS (r_runS (As := [.ref (ad a1), .int x3]) (rest := []) C0 X hP L_X8_164 (fun sz => c_X8_behind l D cA ad o σ a1 x3 ha1 r_25 er_25 sz) ⟨Nat.le_of_ble_eq_true rfl, Nat.le_of_ble_eq_true rfl⟩ rfl hl.1 rfl (Nat.le_of_ble_eq_true rfl) dX8_toldBy_100 ⟨Nat.zero_le _, Nat.zero_le _⟩) (fun r9 σ9 H locs hw hP hS => ?_)
      rw [hw.2] at hP
      rw [hw.1]
      refine lv_aload_n hx hb dX8_toldBy_103 rfl (lv_at hl 2 rfl) ?_
      refine lv_iload_n hx hb dX8_toldBy_104 rfl (lv_at hl 4 rfl) ?_
      refine lv_iconst (v := 3) hx hb dX8_toldBy_105 (by decide) ?_
      obtain ⟨r_26, er_26, h⟩ := bnd h
      refine r_ci X hS (r_runS (As := [.ref (ad a1), .int x3, .int 3]) (rest := [.int r_25]) C0 X hP L_X8_130 (fun sz => c_X8_get l D cA ad o σ a1 x3 3 ha1 r_26 er_26 sz) ⟨Nat.le_of_ble_eq_true rfl, Nat.le_of_ble_eq_true rfl⟩ rfl hl.1 rfl (Nat.le_of_ble_eq_true rfl) dX8_toldBy_106 ⟨Nat.zero_le _, Nat.zero_le _⟩) (fun r9 σ9 H locs hw hP hS => ?_)
      rw [hw.2] at hP
      rw [hw.1]
      refine lv_imul hx hb dX8_toldBy_109 ?_
      refine lv_istore (lv' := [(6, .int (r_25 * r_26)), (5, .int (r_23 * r_24)), (0, .ref (ad a1)), (1, .int x2), (2, .int x3), (3, .int x4), (4, .int x5)]) hx hb dX8_toldBy_110 hl (by decide) rfl (fun ls hl => ?_)
      refine lv_goto (tgt := 221) hx hb dX8_toldBy_112 (by decide) ?_
      refine lv_iload hx hb dX8_toldBy_221 (lv_at hl 1 rfl) ?_
      refine lv_iload hx hb dX8_toldBy_223 (lv_at hl 0 rfl) ?_
      refine lv_icmp_eq (tgt := 243) hx hb dX8_toldBy_225 (by decide) (fun c_27 => ?_) (fun c_27 => ?_)
      · replace h := it_t h c_27
        refine lv_iload_n hx hb dX8_toldBy_243 rfl (lv_at hl 3 rfl) ?_
        refine lv_iload_n hx hb dX8_toldBy_244 rfl (lv_at hl 4 rfl) ?_
        refine lv_icmp_le (tgt := 252) hx hb dX8_toldBy_245 (by decide) (fun c_28 => ?_) (fun c_28 => ?_)
        · replace h := it_t h c_28
          refine lv_iload_n hx hb dX8_toldBy_252 rfl (lv_at hl 4 rfl) ?_
          exact r_iret C0 X hP hS hr hlk dX8_toldBy_253 ⟨Option.some.inj h, rfl⟩
        · replace h := it_f h c_28
          refine lv_iload_n hx hb dX8_toldBy_248 rfl (lv_at hl 3 rfl) ?_
          refine lv_goto (tgt := 253) hx hb dX8_toldBy_249 (by decide) ?_
          exact r_iret C0 X hP hS hr hlk dX8_toldBy_253 ⟨Option.some.inj h, rfl⟩
      · replace h := it_f h c_27
        refine lv_iload hx hb dX8_toldBy_228 (lv_at hl 1 rfl) ?_
        refine lv_iload hx hb dX8_toldBy_230 (lv_at hl 0 rfl) ?_
        refine lv_icmp_ge (tgt := 239) hx hb dX8_toldBy_232 (by decide) (fun c_29 => ?_) (fun c_29 => ?_)
        · replace h := it_t h c_29
          refine lv_iload_n hx hb dX8_toldBy_239 rfl (lv_at hl 4 rfl) ?_
          refine lv_goto (tgt := 253) hx hb dX8_toldBy_240 (by decide) ?_
          exact r_iret C0 X hP hS hr hlk dX8_toldBy_253 ⟨Option.some.inj h, rfl⟩
        · replace h := it_f h c_29
          refine lv_iload_n hx hb dX8_toldBy_235 rfl (lv_at hl 3 rfl) ?_
          refine lv_goto (tgt := 253) hx hb dX8_toldBy_236 (by decide) ?_
          exact r_iret C0 X hP hS hr hlk dX8_toldBy_253 ⟨Option.some.inj h, rfl⟩
    · have e_30 : x4 = 6 := sw_eq c_1 (by decide)
      replace h := it_f h (show ¬ x4 = 1 by rw [e_30]; decide)
      replace h := it_f h (show ¬ x4 = 2 by rw [e_30]; decide)
      replace h := it_f h (show ¬ x4 = 5 by rw [e_30]; decide)
      replace h := it_t h e_30
      refine lv_tableIn (off := 108) (tgt := 115) hx hb dX8_toldBy_7 (by rw [e_30]; decide) (by rw [e_30]; decide) (by rw [e_30]; rfl) (by decide) ?_
      refine lv_aload_n hx hb dX8_toldBy_115 rfl (lv_at hl 2 rfl) ?_
      refine lv_iload_n hx hb dX8_toldBy_116 rfl (lv_at hl 3 rfl) ?_
      refine lv_iconst (v := 2) hx hb dX8_toldBy_117 (by decide) ?_
      obtain ⟨r_31, er_31, h⟩ := bnd h
      refine r_ci X hS (r_runS (As := [.ref (ad a1), .int x2, .int 2]) (rest := []) C0 X hP L_X8_130 (fun sz => c_X8_get l D cA ad o σ a1 x2 2 ha1 r_31 er_31 sz) ⟨Nat.le_of_ble_eq_true rfl, Nat.le_of_ble_eq_true rfl⟩ rfl hl.1 rfl (Nat.le_of_ble_eq_true rfl) dX8_toldBy_118 ⟨Nat.zero_le _, Nat.zero_le _⟩) (fun r9 σ9 H locs hw hP hS => ?_)
      rw [hw.2] at hP
      rw [hw.1]
      refine lv_istore (lv' := [(5, .int r_31), (6, .int 0), (0, .ref (ad a1)), (1, .int x2), (2, .int x3), (3, .int x4), (4, .int x5)]) hx hb dX8_toldBy_121 hl (by decide) rfl (fun ls hl => ?_)
      refine lv_aload_n hx hb dX8_toldBy_123 rfl (lv_at hl 2 rfl) ?_
      refine lv_iload_n hx hb dX8_toldBy_124 rfl (lv_at hl 4 rfl) ?_
      refine lv_iconst (v := 2) hx hb dX8_toldBy_125 (by decide) ?_
      obtain ⟨r_32, er_32, h⟩ := bnd h
      refine r_ci X hS (r_runS (As := [.ref (ad a1), .int x3, .int 2]) (rest := []) C0 X hP L_X8_130 (fun sz => c_X8_get l D cA ad o σ a1 x3 2 ha1 r_32 er_32 sz) ⟨Nat.le_of_ble_eq_true rfl, Nat.le_of_ble_eq_true rfl⟩ rfl hl.1 rfl (Nat.le_of_ble_eq_true rfl) dX8_toldBy_126 ⟨Nat.zero_le _, Nat.zero_le _⟩) (fun r9 σ9 H locs hw hP hS => ?_)
      rw [hw.2] at hP
      rw [hw.1]
      refine lv_istore (lv' := [(6, .int r_32), (5, .int r_31), (0, .ref (ad a1)), (1, .int x2), (2, .int x3), (3, .int x4), (4, .int x5)]) hx hb dX8_toldBy_129 hl (by decide) rfl (fun ls hl => ?_)
      refine lv_iload hx hb dX8_toldBy_131 (lv_at hl 1 rfl) ?_
      refine lv_iload hx hb dX8_toldBy_133 (lv_at hl 0 rfl) ?_
      refine lv_icmp_ne (tgt := 221) hx hb dX8_toldBy_135 (by decide) (fun c_33 => ?_) (fun c_33 => ?_)
      · replace h := it_f h c_33
        refine lv_iload hx hb dX8_toldBy_221 (lv_at hl 1 rfl) ?_
        refine lv_iload hx hb dX8_toldBy_223 (lv_at hl 0 rfl) ?_
        refine lv_icmp_eq (tgt := 243) hx hb dX8_toldBy_225 (by decide) (fun c_34 => ?_) (fun c_34 => ?_)
        · replace h := it_t h c_34
          refine lv_iload_n hx hb dX8_toldBy_243 rfl (lv_at hl 3 rfl) ?_
          refine lv_iload_n hx hb dX8_toldBy_244 rfl (lv_at hl 4 rfl) ?_
          refine lv_icmp_le (tgt := 252) hx hb dX8_toldBy_245 (by decide) (fun c_35 => ?_) (fun c_35 => ?_)
          · replace h := it_t h c_35
            refine lv_iload_n hx hb dX8_toldBy_252 rfl (lv_at hl 4 rfl) ?_
            exact r_iret C0 X hP hS hr hlk dX8_toldBy_253 ⟨Option.some.inj h, rfl⟩
          · replace h := it_f h c_35
            refine lv_iload_n hx hb dX8_toldBy_248 rfl (lv_at hl 3 rfl) ?_
            refine lv_goto (tgt := 253) hx hb dX8_toldBy_249 (by decide) ?_
            exact r_iret C0 X hP hS hr hlk dX8_toldBy_253 ⟨Option.some.inj h, rfl⟩
        · replace h := it_f h c_34
          refine lv_iload hx hb dX8_toldBy_228 (lv_at hl 1 rfl) ?_
          refine lv_iload hx hb dX8_toldBy_230 (lv_at hl 0 rfl) ?_
          refine lv_icmp_ge (tgt := 239) hx hb dX8_toldBy_232 (by decide) (fun c_36 => ?_) (fun c_36 => ?_)
          · replace h := it_t h c_36
            refine lv_iload_n hx hb dX8_toldBy_239 rfl (lv_at hl 4 rfl) ?_
            refine lv_goto (tgt := 253) hx hb dX8_toldBy_240 (by decide) ?_
            exact r_iret C0 X hP hS hr hlk dX8_toldBy_253 ⟨Option.some.inj h, rfl⟩
          · replace h := it_f h c_36
            refine lv_iload_n hx hb dX8_toldBy_235 rfl (lv_at hl 3 rfl) ?_
            refine lv_goto (tgt := 253) hx hb dX8_toldBy_236 (by decide) ?_
            exact r_iret C0 X hP hS hr hlk dX8_toldBy_253 ⟨Option.some.inj h, rfl⟩
      · replace h := it_t h c_33
        refine lv_aload_n hx hb dX8_toldBy_138 rfl (lv_at hl 2 rfl) ?_
        refine lv_iload_n hx hb dX8_toldBy_139 rfl (lv_at hl 3 rfl) ?_
        refine lv_iload_n hx hb dX8_toldBy_140 rfl (lv_at hl 4 rfl) ?_
        refine lv_iconst (v := 1) hx hb dX8_toldBy_141 (by decide) ?_
        refine lv_iload hx hb dX8_toldBy_142 (lv_at hl 6 rfl) ?_
        exact absurd h nofun
    · have e_37 : x4 = 7 := sw_eq c_1 (by decide)
      replace h := it_f h (show ¬ x4 = 1 by rw [e_37]; decide)
      replace h := it_f h (show ¬ x4 = 2 by rw [e_37]; decide)
      replace h := it_f h (show ¬ x4 = 5 by rw [e_37]; decide)
      replace h := it_f h (show ¬ x4 = 6 by rw [e_37]; decide)
      replace h := it_t h e_37
      refine lv_tableIn (off := 141) (tgt := 148) hx hb dX8_toldBy_7 (by rw [e_37]; decide) (by rw [e_37]; decide) (by rw [e_37]; rfl) (by decide) ?_
      refine lv_iload hx hb dX8_toldBy_148 (lv_at hl 6 rfl) ?_
      refine lv_if_ge (tgt := 157) hx hb dX8_toldBy_150 (by decide) (fun c_38 => ?_) (fun c_38 => ?_)
      · replace h := it_t h c_38
        refine lv_aload_n hx hb dX8_toldBy_157 rfl (lv_at hl 2 rfl) ?_
        refine lv_iload_n hx hb dX8_toldBy_158 rfl (lv_at hl 3 rfl) ?_
        refine lv_aload_n hx hb dX8_toldBy_159 rfl (lv_at hl 2 rfl) ?_
        refine lv_bipush (v := 14) hx hb dX8_toldBy_160 (by decide) ?_
        refine lv_iconst (v := 3) hx hb dX8_toldBy_162 (by decide) ?_
        refine lv_iload hx hb dX8_toldBy_163 (lv_at hl 6 rfl) ?_
        refine lv_imul hx hb dX8_toldBy_165 ?_
        refine lv_iadd hx hb dX8_toldBy_166 ?_
        refine lv_iconst (v := 1) hx hb dX8_toldBy_167 (by decide) ?_
        refine lv_iadd hx hb dX8_toldBy_168 ?_
        obtain ⟨k_39, ek_39, h⟩ := bnd h
        replace ek_39 := ix_s ek_39 (by decide)
        refine r_ialdN C0 X hP a1 (k := k_39) ha1 ek_39.1 ek_39.2 dX8_toldBy_169 ?_
        obtain ⟨r_40, er_40, h⟩ := bnd h
        refine r_ci X hS (r_runS (As := [.ref (ad a1), .int x2, .int (σ a1 k_39)]) (rest := []) C0 X hP L_X8_171 (fun sz => c_X8_falls l D cA ad o σ a1 x2 (σ a1 k_39) ha1 r_40 er_40 sz) ⟨Nat.le_of_ble_eq_true rfl, Nat.le_of_ble_eq_true rfl⟩ rfl hl.1 rfl (Nat.le_of_ble_eq_true rfl) dX8_toldBy_170 ⟨Nat.zero_le _, Nat.zero_le _⟩) (fun r9 σ9 H locs hw hP hS => ?_)
        rw [hw.2] at hP
        rw [hw.1]
        refine lv_ineg hx hb dX8_toldBy_173 ?_
        refine lv_istore (lv' := [(5, .int (-r_40)), (6, .int 0), (0, .ref (ad a1)), (1, .int x2), (2, .int x3), (3, .int x4), (4, .int x5)]) hx hb dX8_toldBy_174 hl (by decide) rfl (fun ls hl => ?_)
        refine lv_iload hx hb dX8_toldBy_176 (lv_at hl 6 rfl) ?_
        refine lv_if_ge (tgt := 185) hx hb dX8_toldBy_178 (by decide) (fun c_41 => ?_) (fun c_41 => ?_)
        · replace h := it_t h c_41
          refine lv_aload_n hx hb dX8_toldBy_185 rfl (lv_at hl 2 rfl) ?_
          refine lv_iload_n hx hb dX8_toldBy_186 rfl (lv_at hl 4 rfl) ?_
          refine lv_aload_n hx hb dX8_toldBy_187 rfl (lv_at hl 2 rfl) ?_
          refine lv_bipush (v := 14) hx hb dX8_toldBy_188 (by decide) ?_
          refine lv_iconst (v := 3) hx hb dX8_toldBy_190 (by decide) ?_
          refine lv_iload hx hb dX8_toldBy_191 (lv_at hl 6 rfl) ?_
          refine lv_imul hx hb dX8_toldBy_193 ?_
          refine lv_iadd hx hb dX8_toldBy_194 ?_
          refine lv_iconst (v := 1) hx hb dX8_toldBy_195 (by decide) ?_
          refine lv_iadd hx hb dX8_toldBy_196 ?_
          obtain ⟨k_42, ek_42, h⟩ := bnd h
          replace ek_42 := ix_s ek_42 (by decide)
          refine r_ialdN C0 X hP a1 (k := k_42) ha1 ek_42.1 ek_42.2 dX8_toldBy_197 ?_
          obtain ⟨r_43, er_43, h⟩ := bnd h
          refine r_ci X hS (r_runS (As := [.ref (ad a1), .int x3, .int (σ a1 k_42)]) (rest := []) C0 X hP L_X8_171 (fun sz => c_X8_falls l D cA ad o σ a1 x3 (σ a1 k_42) ha1 r_43 er_43 sz) ⟨Nat.le_of_ble_eq_true rfl, Nat.le_of_ble_eq_true rfl⟩ rfl hl.1 rfl (Nat.le_of_ble_eq_true rfl) dX8_toldBy_198 ⟨Nat.zero_le _, Nat.zero_le _⟩) (fun r9 σ9 H locs hw hP hS => ?_)
          rw [hw.2] at hP
          rw [hw.1]
          refine lv_ineg hx hb dX8_toldBy_201 ?_
          refine lv_istore (lv' := [(6, .int (-r_43)), (5, .int (-r_40)), (0, .ref (ad a1)), (1, .int x2), (2, .int x3), (3, .int x4), (4, .int x5)]) hx hb dX8_toldBy_202 hl (by decide) rfl (fun ls hl => ?_)
          refine lv_iload hx hb dX8_toldBy_204 (lv_at hl 1 rfl) ?_
          refine lv_iload hx hb dX8_toldBy_206 (lv_at hl 0 rfl) ?_
          refine lv_icmp_ne (tgt := 221) hx hb dX8_toldBy_208 (by decide) (fun c_44 => ?_) (fun c_44 => ?_)
          · replace h := it_f h c_44
            refine lv_iload hx hb dX8_toldBy_221 (lv_at hl 1 rfl) ?_
            refine lv_iload hx hb dX8_toldBy_223 (lv_at hl 0 rfl) ?_
            refine lv_icmp_eq (tgt := 243) hx hb dX8_toldBy_225 (by decide) (fun c_45 => ?_) (fun c_45 => ?_)
            · replace h := it_t h c_45
              refine lv_iload_n hx hb dX8_toldBy_243 rfl (lv_at hl 3 rfl) ?_
              refine lv_iload_n hx hb dX8_toldBy_244 rfl (lv_at hl 4 rfl) ?_
              refine lv_icmp_le (tgt := 252) hx hb dX8_toldBy_245 (by decide) (fun c_46 => ?_) (fun c_46 => ?_)
              · replace h := it_t h c_46
                refine lv_iload_n hx hb dX8_toldBy_252 rfl (lv_at hl 4 rfl) ?_
                exact r_iret C0 X hP hS hr hlk dX8_toldBy_253 ⟨Option.some.inj h, rfl⟩
              · replace h := it_f h c_46
                refine lv_iload_n hx hb dX8_toldBy_248 rfl (lv_at hl 3 rfl) ?_
                refine lv_goto (tgt := 253) hx hb dX8_toldBy_249 (by decide) ?_
                exact r_iret C0 X hP hS hr hlk dX8_toldBy_253 ⟨Option.some.inj h, rfl⟩
            · replace h := it_f h c_45
              refine lv_iload hx hb dX8_toldBy_228 (lv_at hl 1 rfl) ?_
              refine lv_iload hx hb dX8_toldBy_230 (lv_at hl 0 rfl) ?_
              refine lv_icmp_ge (tgt := 239) hx hb dX8_toldBy_232 (by decide) (fun c_47 => ?_) (fun c_47 => ?_)
              · replace h := it_t h c_47
                refine lv_iload_n hx hb dX8_toldBy_239 rfl (lv_at hl 4 rfl) ?_
                refine lv_goto (tgt := 253) hx hb dX8_toldBy_240 (by decide) ?_
                exact r_iret C0 X hP hS hr hlk dX8_toldBy_253 ⟨Option.some.inj h, rfl⟩
              · replace h := it_f h c_47
                refine lv_iload_n hx hb dX8_toldBy_235 rfl (lv_at hl 3 rfl) ?_
                refine lv_goto (tgt := 253) hx hb dX8_toldBy_236 (by decide) ?_
                exact r_iret C0 X hP hS hr hlk dX8_toldBy_253 ⟨Option.some.inj h, rfl⟩
          · replace h := it_t h c_44
            refine lv_aload_n hx hb dX8_toldBy_211 rfl (lv_at hl 2 rfl) ?_
            refine lv_iload_n hx hb dX8_toldBy_212 rfl (lv_at hl 3 rfl) ?_
            refine lv_iload_n hx hb dX8_toldBy_213 rfl (lv_at hl 4 rfl) ?_
            refine lv_iconst (v := 2) hx hb dX8_toldBy_214 (by decide) ?_
            refine lv_iload hx hb dX8_toldBy_215 (lv_at hl 6 rfl) ?_
            exact absurd h nofun
        · replace h := it_f h c_41
          refine lv_iconst (v := 0) hx hb dX8_toldBy_181 (by decide) ?_
          refine lv_goto (tgt := 202) hx hb dX8_toldBy_182 (by decide) ?_
          refine lv_istore (lv' := [(6, .int 0), (5, .int (-r_40)), (0, .ref (ad a1)), (1, .int x2), (2, .int x3), (3, .int x4), (4, .int x5)]) hx hb dX8_toldBy_202 hl (by decide) rfl (fun ls hl => ?_)
          refine lv_iload hx hb dX8_toldBy_204 (lv_at hl 1 rfl) ?_
          refine lv_iload hx hb dX8_toldBy_206 (lv_at hl 0 rfl) ?_
          refine lv_icmp_ne (tgt := 221) hx hb dX8_toldBy_208 (by decide) (fun c_48 => ?_) (fun c_48 => ?_)
          · replace h := it_f h c_48
            refine lv_iload hx hb dX8_toldBy_221 (lv_at hl 1 rfl) ?_
            refine lv_iload hx hb dX8_toldBy_223 (lv_at hl 0 rfl) ?_
            refine lv_icmp_eq (tgt := 243) hx hb dX8_toldBy_225 (by decide) (fun c_49 => ?_) (fun c_49 => ?_)
            · replace h := it_t h c_49
              refine lv_iload_n hx hb dX8_toldBy_243 rfl (lv_at hl 3 rfl) ?_
              refine lv_iload_n hx hb dX8_toldBy_244 rfl (lv_at hl 4 rfl) ?_
              refine lv_icmp_le (tgt := 252) hx hb dX8_toldBy_245 (by decide) (fun c_50 => ?_) (fun c_50 => ?_)
              · replace h := it_t h c_50
                refine lv_iload_n hx hb dX8_toldBy_252 rfl (lv_at hl 4 rfl) ?_
                exact r_iret C0 X hP hS hr hlk dX8_toldBy_253 ⟨Option.some.inj h, rfl⟩
              · replace h := it_f h c_50
                refine lv_iload_n hx hb dX8_toldBy_248 rfl (lv_at hl 3 rfl) ?_
                refine lv_goto (tgt := 253) hx hb dX8_toldBy_249 (by decide) ?_
                exact r_iret C0 X hP hS hr hlk dX8_toldBy_253 ⟨Option.some.inj h, rfl⟩
            · replace h := it_f h c_49
              refine lv_iload hx hb dX8_toldBy_228 (lv_at hl 1 rfl) ?_
              refine lv_iload hx hb dX8_toldBy_230 (lv_at hl 0 rfl) ?_
              refine lv_icmp_ge (tgt := 239) hx hb dX8_toldBy_232 (by decide) (fun c_51 => ?_) (fun c_51 => ?_)
              · replace h := it_t h c_51
                refine lv_iload_n hx hb dX8_toldBy_239 rfl (lv_at hl 4 rfl) ?_
                refine lv_goto (tgt := 253) hx hb dX8_toldBy_240 (by decide) ?_
                exact r_iret C0 X hP hS hr hlk dX8_toldBy_253 ⟨Option.some.inj h, rfl⟩
              · replace h := it_f h c_51
                refine lv_iload_n hx hb dX8_toldBy_235 rfl (lv_at hl 3 rfl) ?_
                refine lv_goto (tgt := 253) hx hb dX8_toldBy_236 (by decide) ?_
                exact r_iret C0 X hP hS hr hlk dX8_toldBy_253 ⟨Option.some.inj h, rfl⟩
          · replace h := it_t h c_48
            refine lv_aload_n hx hb dX8_toldBy_211 rfl (lv_at hl 2 rfl) ?_
            refine lv_iload_n hx hb dX8_toldBy_212 rfl (lv_at hl 3 rfl) ?_
            refine lv_iload_n hx hb dX8_toldBy_213 rfl (lv_at hl 4 rfl) ?_
            refine lv_iconst (v := 2) hx hb dX8_toldBy_214 (by decide) ?_
            refine lv_iload hx hb dX8_toldBy_215 (lv_at hl 6 rfl) ?_
            exact absurd h nofun
      · replace h := it_f h c_38
        refine lv_iconst (v := 0) hx hb dX8_toldBy_153 (by decide) ?_
        refine lv_goto (tgt := 174) hx hb dX8_toldBy_154 (by decide) ?_
        refine lv_istore (lv' := [(5, .int 0), (6, .int 0), (0, .ref (ad a1)), (1, .int x2), (2, .int x3), (3, .int x4), (4, .int x5)]) hx hb dX8_toldBy_174 hl (by decide) rfl (fun ls hl => ?_)
        refine lv_iload hx hb dX8_toldBy_176 (lv_at hl 6 rfl) ?_
        refine lv_if_ge (tgt := 185) hx hb dX8_toldBy_178 (by decide) (fun c_52 => ?_) (fun c_52 => ?_)
        · replace h := it_t h c_52
          refine lv_aload_n hx hb dX8_toldBy_185 rfl (lv_at hl 2 rfl) ?_
          refine lv_iload_n hx hb dX8_toldBy_186 rfl (lv_at hl 4 rfl) ?_
          refine lv_aload_n hx hb dX8_toldBy_187 rfl (lv_at hl 2 rfl) ?_
          refine lv_bipush (v := 14) hx hb dX8_toldBy_188 (by decide) ?_
          refine lv_iconst (v := 3) hx hb dX8_toldBy_190 (by decide) ?_
          refine lv_iload hx hb dX8_toldBy_191 (lv_at hl 6 rfl) ?_
          refine lv_imul hx hb dX8_toldBy_193 ?_
          refine lv_iadd hx hb dX8_toldBy_194 ?_
          refine lv_iconst (v := 1) hx hb dX8_toldBy_195 (by decide) ?_
          refine lv_iadd hx hb dX8_toldBy_196 ?_
          obtain ⟨k_53, ek_53, h⟩ := bnd h
          replace ek_53 := ix_s ek_53 (by decide)
          refine r_ialdN C0 X hP a1 (k := k_53) ha1 ek_53.1 ek_53.2 dX8_toldBy_197 ?_
          obtain ⟨r_54, er_54, h⟩ := bnd h
          refine r_ci X hS (r_runS (As := [.ref (ad a1), .int x3, .int (σ a1 k_53)]) (rest := []) C0 X hP L_X8_171 (fun sz => c_X8_falls l D cA ad o σ a1 x3 (σ a1 k_53) ha1 r_54 er_54 sz) ⟨Nat.le_of_ble_eq_true rfl, Nat.le_of_ble_eq_true rfl⟩ rfl hl.1 rfl (Nat.le_of_ble_eq_true rfl) dX8_toldBy_198 ⟨Nat.zero_le _, Nat.zero_le _⟩) (fun r9 σ9 H locs hw hP hS => ?_)
          rw [hw.2] at hP
          rw [hw.1]
          refine lv_ineg hx hb dX8_toldBy_201 ?_
          refine lv_istore (lv' := [(6, .int (-r_54)), (5, .int 0), (0, .ref (ad a1)), (1, .int x2), (2, .int x3), (3, .int x4), (4, .int x5)]) hx hb dX8_toldBy_202 hl (by decide) rfl (fun ls hl => ?_)
          refine lv_iload hx hb dX8_toldBy_204 (lv_at hl 1 rfl) ?_
          refine lv_iload hx hb dX8_toldBy_206 (lv_at hl 0 rfl) ?_
          refine lv_icmp_ne (tgt := 221) hx hb dX8_toldBy_208 (by decide) (fun c_55 => ?_) (fun c_55 => ?_)
          · replace h := it_f h c_55
            refine lv_iload hx hb dX8_toldBy_221 (lv_at hl 1 rfl) ?_
            refine lv_iload hx hb dX8_toldBy_223 (lv_at hl 0 rfl) ?_
            refine lv_icmp_eq (tgt := 243) hx hb dX8_toldBy_225 (by decide) (fun c_56 => ?_) (fun c_56 => ?_)
            · replace h := it_t h c_56
              refine lv_iload_n hx hb dX8_toldBy_243 rfl (lv_at hl 3 rfl) ?_
              refine lv_iload_n hx hb dX8_toldBy_244 rfl (lv_at hl 4 rfl) ?_
              refine lv_icmp_le (tgt := 252) hx hb dX8_toldBy_245 (by decide) (fun c_57 => ?_) (fun c_57 => ?_)
              · replace h := it_t h c_57
                refine lv_iload_n hx hb dX8_toldBy_252 rfl (lv_at hl 4 rfl) ?_
                exact r_iret C0 X hP hS hr hlk dX8_toldBy_253 ⟨Option.some.inj h, rfl⟩
              · replace h := it_f h c_57
                refine lv_iload_n hx hb dX8_toldBy_248 rfl (lv_at hl 3 rfl) ?_
                refine lv_goto (tgt := 253) hx hb dX8_toldBy_249 (by decide) ?_
                exact r_iret C0 X hP hS hr hlk dX8_toldBy_253 ⟨Option.some.inj h, rfl⟩
            · replace h := it_f h c_56
              refine lv_iload hx hb dX8_toldBy_228 (lv_at hl 1 rfl) ?_
              refine lv_iload hx hb dX8_toldBy_230 (lv_at hl 0 rfl) ?_
              refine lv_icmp_ge (tgt := 239) hx hb dX8_toldBy_232 (by decide) (fun c_58 => ?_) (fun c_58 => ?_)
              · replace h := it_t h c_58
                refine lv_iload_n hx hb dX8_toldBy_239 rfl (lv_at hl 4 rfl) ?_
                refine lv_goto (tgt := 253) hx hb dX8_toldBy_240 (by decide) ?_
                exact r_iret C0 X hP hS hr hlk dX8_toldBy_253 ⟨Option.some.inj h, rfl⟩
              · replace h := it_f h c_58
                refine lv_iload_n hx hb dX8_toldBy_235 rfl (lv_at hl 3 rfl) ?_
                refine lv_goto (tgt := 253) hx hb dX8_toldBy_236 (by decide) ?_
                exact r_iret C0 X hP hS hr hlk dX8_toldBy_253 ⟨Option.some.inj h, rfl⟩
          · replace h := it_t h c_55
            refine lv_aload_n hx hb dX8_toldBy_211 rfl (lv_at hl 2 rfl) ?_
            refine lv_iload_n hx hb dX8_toldBy_212 rfl (lv_at hl 3 rfl) ?_
            refine lv_iload_n hx hb dX8_toldBy_213 rfl (lv_at hl 4 rfl) ?_
            refine lv_iconst (v := 2) hx hb dX8_toldBy_214 (by decide) ?_
            refine lv_iload hx hb dX8_toldBy_215 (lv_at hl 6 rfl) ?_
            exact absurd h nofun
        · replace h := it_f h c_52
          refine lv_iconst (v := 0) hx hb dX8_toldBy_181 (by decide) ?_
          refine lv_goto (tgt := 202) hx hb dX8_toldBy_182 (by decide) ?_
          refine lv_istore (lv' := [(6, .int 0), (5, .int 0), (0, .ref (ad a1)), (1, .int x2), (2, .int x3), (3, .int x4), (4, .int x5)]) hx hb dX8_toldBy_202 hl (by decide) rfl (fun ls hl => ?_)
          refine lv_iload hx hb dX8_toldBy_204 (lv_at hl 1 rfl) ?_
          refine lv_iload hx hb dX8_toldBy_206 (lv_at hl 0 rfl) ?_
          refine lv_icmp_ne (tgt := 221) hx hb dX8_toldBy_208 (by decide) (fun c_59 => absurd c_59 (by decide)) (fun _ => ?_)
          refine lv_aload_n hx hb dX8_toldBy_211 rfl (lv_at hl 2 rfl) ?_
          refine lv_iload_n hx hb dX8_toldBy_212 rfl (lv_at hl 3 rfl) ?_
          refine lv_iload_n hx hb dX8_toldBy_213 rfl (lv_at hl 4 rfl) ?_
          refine lv_iconst (v := 2) hx hb dX8_toldBy_214 (by decide) ?_
          refine lv_iload hx hb dX8_toldBy_215 (lv_at hl 6 rfl) ?_
          exact absurd h nofun
def F_X8_toldBy (σ : Mem) (a1 : Nat) (x2 : Int32) (x3 : Int32) (x4 : Int32) (x5 : Int32) : Option (Int32) := if x4 = 1 then ((F_X8_get σ a1 x2 4).bind fun r_5 => (F_X8_get σ a1 x3 4).bind fun r_6 => if r_5 = r_6 then (if x2 ≤ x3 then (some x3) else (some x2)) else (if r_6 ≤ r_5 then (some x3) else (some x2))) else (if x4 = 2 then ((F_X8_behind σ a1 x2).bind fun r_11 => (F_X8_behind σ a1 x3).bind fun r_12 => if r_11 = r_12 then (if x2 ≤ x3 then (some x3) else (some x2)) else (if r_12 ≤ r_11 then (some x3) else (some x2))) else (if x4 = 5 then ((F_X8_behind σ a1 x2).bind fun r_23 => (F_X8_get σ a1 x2 3).bind fun r_24 => (F_X8_behind σ a1 x3).bind fun r_25 => (F_X8_get σ a1 x3 3).bind fun r_26 => if (r_23 * r_24) = (r_25 * r_26) then (if x2 ≤ x3 then (some x3) else (some x2)) else (if (r_25 * r_26) ≤ (r_23 * r_24) then (some x3) else (some x2))) else (if x4 = 6 then ((F_X8_get σ a1 x2 2).bind fun r_31 => (F_X8_get σ a1 x3 2).bind fun r_32 => if r_31 = r_32 then ((F_X8_toldBy0 σ a1 x2 x3 1 x5).bind fun r_37 => some r_37) else (if r_31 = r_32 then (if x2 ≤ x3 then (some x3) else (some x2)) else (if r_32 ≤ r_31 then (some x3) else (some x2)))) else (if x4 = 7 then (if 0 ≤ x5 then ((ix 121 ((14 + (3 * x5)) + 1)).bind fun k_40 => (F_X8_falls σ a1 x2 (σ a1 k_40)).bind fun r_41 => if 0 ≤ x5 then ((ix 121 ((14 + (3 * x5)) + 1)).bind fun k_43 => (F_X8_falls σ a1 x3 (σ a1 k_43)).bind fun r_44 => if (-r_41) = (-r_44) then ((F_X8_toldBy0 σ a1 x2 x3 2 x5).bind fun r_49 => some r_49) else (if (-r_41) = (-r_44) then (if x2 ≤ x3 then (some x3) else (some x2)) else (if (-r_44) ≤ (-r_41) then (some x3) else (some x2)))) else (if (-r_41) = 0 then ((F_X8_toldBy0 σ a1 x2 x3 2 x5).bind fun r_54 => some r_54) else (if (-r_41) = 0 then (if x2 ≤ x3 then (some x3) else (some x2)) else (if 0 ≤ (-r_41) then (some x3) else (some x2))))) else (if 0 ≤ x5 then ((ix 121 ((14 + (3 * x5)) + 1)).bind fun k_56 => (F_X8_falls σ a1 x3 (σ a1 k_56)).bind fun r_57 => if 0 = (-r_57) then ((F_X8_toldBy0 σ a1 x2 x3 2 x5).bind fun r_62 => some r_62) else (if 0 = (-r_57) then (if x2 ≤ x3 then (some x3) else (some x2)) else (if (-r_57) ≤ 0 then (some x3) else (some x2)))) else ((F_X8_toldBy0 σ a1 x2 x3 2 x5).bind fun r_64 => some r_64))) else (if x2 ≤ x3 then (some x3) else (some x2))))))
set_option maxHeartbeats 4000000 in
set_option maxRecDepth 100000 in
theorem c_X8_toldBy (l : Launch) (D : va_G) (cA : Nat → ClassId) (ad : Nat → Nat) (o : Int64) (σ : Mem) (a1 : Nat) (x2 : Int32) (x3 : Int32) (x4 : Int32) (x5 : Int32) (ha1 : a1 < 106 ∧ kd a1 = (9, 121)) (res : Int32) (h : F_X8_toldBy σ a1 x2 x3 x4 x5 = some res) (sz : Nat) : Met l yX8_toldBy (WY yX8_toldBy cX8_toldBy 7 (some .int)) (RM 3) (va_Pc [.ref (ad a1), .int x2, .int x3, .int x4, .int x5] (PW D cA ad o σ sz)) (va_Qi (fun r σ9 => r = res ∧ σ9 = σ) (QW D cA ad o) (FA ad sz)) 0 0 (FA ad sz) := by
  refine ct_of (own := RX8) (k := 3) (Qf := va_Qi (fun r σ9 => r = res ∧ σ9 = σ) (QW D cA ad o)) rfl (by decide) (Nat.le_of_ble_eq_true rfl) (fun p e s m below meth c ls C0 X hr hlk hP hl => ?_) sz
  have hS : va_S (FA ad s.heap.size) s.heap s.heap [] := va_S.rf
  have hl : lv_has ls 7 [(0, .ref (ad a1)), (1, .int x2), (2, .int x3), (3, .int x4), (4, .int x5)] := hl
  obtain ⟨hx, hb, hml, hown, hts⟩ := id C0
  unfold F_X8_toldBy at h
  refine lv_iconst (v := 0) hx hb dX8_toldBy_0 (by decide) ?_
  refine lv_istore (lv' := [(5, .int 0), (0, .ref (ad a1)), (1, .int x2), (2, .int x3), (3, .int x4), (4, .int x5)]) hx hb dX8_toldBy_1 hl (by decide) rfl (fun ls hl => ?_)
  refine lv_iconst (v := 0) hx hb dX8_toldBy_3 (by decide) ?_
  refine lv_istore (lv' := [(6, .int 0), (5, .int 0), (0, .ref (ad a1)), (1, .int x2), (2, .int x3), (3, .int x4), (4, .int x5)]) hx hb dX8_toldBy_4 hl (by decide) rfl (fun ls hl => ?_)
  refine lv_iload_n hx hb dX8_toldBy_6 rfl (lv_at hl 5 rfl) ?_
  rcases sw_in (x := x4) (lo := 1) (n := 7) with c_1 | ⟨j, hj, c_1⟩
  · replace h := it_f h (sw_ne (v := 1) c_1 (by decide))
    replace h := it_f h (sw_ne (v := 2) c_1 (by decide))
    replace h := it_f h (sw_ne (v := 5) c_1 (by decide))
    replace h := it_f h (sw_ne (v := 6) c_1 (by decide))
    replace h := it_f h (sw_ne (v := 7) c_1 (by decide))
    refine lv_tableOut (tgt := 221) hx hb dX8_toldBy_7 (by omega) (by decide) ?_
    refine lv_iload hx hb dX8_toldBy_221 (lv_at hl 1 rfl) ?_
    refine lv_iload hx hb dX8_toldBy_223 (lv_at hl 0 rfl) ?_
    refine lv_icmp_eq (tgt := 243) hx hb dX8_toldBy_225 (by decide) (fun _ => ?_) (fun c_2 => absurd c_2 (by decide))
    refine lv_iload_n hx hb dX8_toldBy_243 rfl (lv_at hl 3 rfl) ?_
    refine lv_iload_n hx hb dX8_toldBy_244 rfl (lv_at hl 4 rfl) ?_
    refine lv_icmp_le (tgt := 252) hx hb dX8_toldBy_245 (by decide) (fun c_3 => ?_) (fun c_3 => ?_)
    · replace h := it_t h c_3
      refine lv_iload_n hx hb dX8_toldBy_252 rfl (lv_at hl 4 rfl) ?_
      exact r_iret C0 X hP hS hr hlk dX8_toldBy_253 ⟨Option.some.inj h, rfl⟩
    · replace h := it_f h c_3
      refine lv_iload_n hx hb dX8_toldBy_248 rfl (lv_at hl 3 rfl) ?_
      refine lv_goto (tgt := 253) hx hb dX8_toldBy_249 (by decide) ?_
      exact r_iret C0 X hP hS hr hlk dX8_toldBy_253 ⟨Option.some.inj h, rfl⟩
  · rcases (show j = 0 ∨ j = 1 ∨ j = 2 ∨ j = 3 ∨ j = 4 ∨ j = 5 ∨ j = 6 by omega) with rfl | rfl | rfl | rfl | rfl | rfl | rfl
    · have e_4 : x4 = 1 := sw_eq c_1 (by decide)
      replace h := it_t h e_4
      refine lv_tableIn (off := 41) (tgt := 48) hx hb dX8_toldBy_7 (by rw [e_4]; decide) (by rw [e_4]; decide) (by rw [e_4]; rfl) (by decide) ?_
      refine lv_aload_n hx hb dX8_toldBy_48 rfl (lv_at hl 2 rfl) ?_
      refine lv_iload_n hx hb dX8_toldBy_49 rfl (lv_at hl 3 rfl) ?_
      refine lv_iconst (v := 4) hx hb dX8_toldBy_50 (by decide) ?_
      obtain ⟨r_5, er_5, h⟩ := bnd h
      refine r_ci X hS (r_runS (As := [.ref (ad a1), .int x2, .int 4]) (rest := []) C0 X hP L_X8_130 (fun sz => c_X8_get l D cA ad o σ a1 x2 4 ha1 r_5 er_5 sz) ⟨Nat.le_of_ble_eq_true rfl, Nat.le_of_ble_eq_true rfl⟩ rfl hl.1 rfl (Nat.le_of_ble_eq_true rfl) dX8_toldBy_51 ⟨Nat.zero_le _, Nat.zero_le _⟩) (fun r9 σ9 H locs hw hP hS => ?_)
      rw [hw.2] at hP
      rw [hw.1]
      refine lv_istore (lv' := [(5, .int r_5), (6, .int 0), (0, .ref (ad a1)), (1, .int x2), (2, .int x3), (3, .int x4), (4, .int x5)]) hx hb dX8_toldBy_54 hl (by decide) rfl (fun ls hl => ?_)
      refine lv_aload_n hx hb dX8_toldBy_56 rfl (lv_at hl 2 rfl) ?_
      refine lv_iload_n hx hb dX8_toldBy_57 rfl (lv_at hl 4 rfl) ?_
      refine lv_iconst (v := 4) hx hb dX8_toldBy_58 (by decide) ?_
      obtain ⟨r_6, er_6, h⟩ := bnd h
      refine r_ci X hS (r_runS (As := [.ref (ad a1), .int x3, .int 4]) (rest := []) C0 X hP L_X8_130 (fun sz => c_X8_get l D cA ad o σ a1 x3 4 ha1 r_6 er_6 sz) ⟨Nat.le_of_ble_eq_true rfl, Nat.le_of_ble_eq_true rfl⟩ rfl hl.1 rfl (Nat.le_of_ble_eq_true rfl) dX8_toldBy_59 ⟨Nat.zero_le _, Nat.zero_le _⟩) (fun r9 σ9 H locs hw hP hS => ?_)
      rw [hw.2] at hP
      rw [hw.1]
      refine lv_istore (lv' := [(6, .int r_6), (5, .int r_5), (0, .ref (ad a1)), (1, .int x2), (2, .int x3), (3, .int x4), (4, .int x5)]) hx hb dX8_toldBy_62 hl (by decide) rfl (fun ls hl => ?_)
      refine lv_goto (tgt := 221) hx hb dX8_toldBy_64 (by decide) ?_
      refine lv_iload hx hb dX8_toldBy_221 (lv_at hl 1 rfl) ?_
      refine lv_iload hx hb dX8_toldBy_223 (lv_at hl 0 rfl) ?_
      refine lv_icmp_eq (tgt := 243) hx hb dX8_toldBy_225 (by decide) (fun c_7 => ?_) (fun c_7 => ?_)
      · replace h := it_t h c_7
        refine lv_iload_n hx hb dX8_toldBy_243 rfl (lv_at hl 3 rfl) ?_
        refine lv_iload_n hx hb dX8_toldBy_244 rfl (lv_at hl 4 rfl) ?_
        refine lv_icmp_le (tgt := 252) hx hb dX8_toldBy_245 (by decide) (fun c_8 => ?_) (fun c_8 => ?_)
        · replace h := it_t h c_8
          refine lv_iload_n hx hb dX8_toldBy_252 rfl (lv_at hl 4 rfl) ?_
          exact r_iret C0 X hP hS hr hlk dX8_toldBy_253 ⟨Option.some.inj h, rfl⟩
        · replace h := it_f h c_8
          refine lv_iload_n hx hb dX8_toldBy_248 rfl (lv_at hl 3 rfl) ?_
          refine lv_goto (tgt := 253) hx hb dX8_toldBy_249 (by decide) ?_
          exact r_iret C0 X hP hS hr hlk dX8_toldBy_253 ⟨Option.some.inj h, rfl⟩
      · replace h := it_f h c_7
        refine lv_iload hx hb dX8_toldBy_228 (lv_at hl 1 rfl) ?_
        refine lv_iload hx hb dX8_toldBy_230 (lv_at hl 0 rfl) ?_
        refine lv_icmp_ge (tgt := 239) hx hb dX8_toldBy_232 (by decide) (fun c_9 => ?_) (fun c_9 => ?_)
        · replace h := it_t h c_9
          refine lv_iload_n hx hb dX8_toldBy_239 rfl (lv_at hl 4 rfl) ?_
          refine lv_goto (tgt := 253) hx hb dX8_toldBy_240 (by decide) ?_
          exact r_iret C0 X hP hS hr hlk dX8_toldBy_253 ⟨Option.some.inj h, rfl⟩
        · replace h := it_f h c_9
          refine lv_iload_n hx hb dX8_toldBy_235 rfl (lv_at hl 3 rfl) ?_
          refine lv_goto (tgt := 253) hx hb dX8_toldBy_236 (by decide) ?_
          exact r_iret C0 X hP hS hr hlk dX8_toldBy_253 ⟨Option.some.inj h, rfl⟩
    · have e_10 : x4 = 2 := sw_eq c_1 (by decide)
      replace h := it_f h (show ¬ x4 = 1 by rw [e_10]; decide)
      replace h := it_t h e_10
      refine lv_tableIn (off := 60) (tgt := 67) hx hb dX8_toldBy_7 (by rw [e_10]; decide) (by rw [e_10]; decide) (by rw [e_10]; rfl) (by decide) ?_
      refine lv_aload_n hx hb dX8_toldBy_67 rfl (lv_at hl 2 rfl) ?_
      refine lv_iload_n hx hb dX8_toldBy_68 rfl (lv_at hl 3 rfl) ?_
      obtain ⟨r_11, er_11, h⟩ := bnd h
      refine r_ci X hS (r_runS (As := [.ref (ad a1), .int x2]) (rest := []) C0 X hP L_X8_164 (fun sz => c_X8_behind l D cA ad o σ a1 x2 ha1 r_11 er_11 sz) ⟨Nat.le_of_ble_eq_true rfl, Nat.le_of_ble_eq_true rfl⟩ rfl hl.1 rfl (Nat.le_of_ble_eq_true rfl) dX8_toldBy_69 ⟨Nat.zero_le _, Nat.zero_le _⟩) (fun r9 σ9 H locs hw hP hS => ?_)
      rw [hw.2] at hP
      rw [hw.1]
      refine lv_istore (lv' := [(5, .int r_11), (6, .int 0), (0, .ref (ad a1)), (1, .int x2), (2, .int x3), (3, .int x4), (4, .int x5)]) hx hb dX8_toldBy_72 hl (by decide) rfl (fun ls hl => ?_)
      refine lv_aload_n hx hb dX8_toldBy_74 rfl (lv_at hl 2 rfl) ?_
      refine lv_iload_n hx hb dX8_toldBy_75 rfl (lv_at hl 4 rfl) ?_
      obtain ⟨r_12, er_12, h⟩ := bnd h
      refine r_ci X hS (r_runS (As := [.ref (ad a1), .int x3]) (rest := []) C0 X hP L_X8_164 (fun sz => c_X8_behind l D cA ad o σ a1 x3 ha1 r_12 er_12 sz) ⟨Nat.le_of_ble_eq_true rfl, Nat.le_of_ble_eq_true rfl⟩ rfl hl.1 rfl (Nat.le_of_ble_eq_true rfl) dX8_toldBy_76 ⟨Nat.zero_le _, Nat.zero_le _⟩) (fun r9 σ9 H locs hw hP hS => ?_)
      rw [hw.2] at hP
      rw [hw.1]
      refine lv_istore (lv' := [(6, .int r_12), (5, .int r_11), (0, .ref (ad a1)), (1, .int x2), (2, .int x3), (3, .int x4), (4, .int x5)]) hx hb dX8_toldBy_79 hl (by decide) rfl (fun ls hl => ?_)
      refine lv_goto (tgt := 221) hx hb dX8_toldBy_81 (by decide) ?_
      refine lv_iload hx hb dX8_toldBy_221 (lv_at hl 1 rfl) ?_
      refine lv_iload hx hb dX8_toldBy_223 (lv_at hl 0 rfl) ?_
      refine lv_icmp_eq (tgt := 243) hx hb dX8_toldBy_225 (by decide) (fun c_13 => ?_) (fun c_13 => ?_)
      · replace h := it_t h c_13
        refine lv_iload_n hx hb dX8_toldBy_243 rfl (lv_at hl 3 rfl) ?_
        refine lv_iload_n hx hb dX8_toldBy_244 rfl (lv_at hl 4 rfl) ?_
        refine lv_icmp_le (tgt := 252) hx hb dX8_toldBy_245 (by decide) (fun c_14 => ?_) (fun c_14 => ?_)
        · replace h := it_t h c_14
          refine lv_iload_n hx hb dX8_toldBy_252 rfl (lv_at hl 4 rfl) ?_
          exact r_iret C0 X hP hS hr hlk dX8_toldBy_253 ⟨Option.some.inj h, rfl⟩
        · replace h := it_f h c_14
          refine lv_iload_n hx hb dX8_toldBy_248 rfl (lv_at hl 3 rfl) ?_
          refine lv_goto (tgt := 253) hx hb dX8_toldBy_249 (by decide) ?_
          exact r_iret C0 X hP hS hr hlk dX8_toldBy_253 ⟨Option.some.inj h, rfl⟩
      · replace h := it_f h c_13
        refine lv_iload hx hb dX8_toldBy_228 (lv_at hl 1 rfl) ?_
        refine lv_iload hx hb dX8_toldBy_230 (lv_at hl 0 rfl) ?_
        refine lv_icmp_ge (tgt := 239) hx hb dX8_toldBy_232 (by decide) (fun c_15 => ?_) (fun c_15 => ?_)
        · replace h := it_t h c_15
          refine lv_iload_n hx hb dX8_toldBy_239 rfl (lv_at hl 4 rfl) ?_
          refine lv_goto (tgt := 253) hx hb dX8_toldBy_240 (by decide) ?_
          exact r_iret C0 X hP hS hr hlk dX8_toldBy_253 ⟨Option.some.inj h, rfl⟩
        · replace h := it_f h c_15
          refine lv_iload_n hx hb dX8_toldBy_235 rfl (lv_at hl 3 rfl) ?_
          refine lv_goto (tgt := 253) hx hb dX8_toldBy_236 (by decide) ?_
          exact r_iret C0 X hP hS hr hlk dX8_toldBy_253 ⟨Option.some.inj h, rfl⟩
    · have e_16 : x4 = 3 := sw_eq c_1 (by decide)
      replace h := it_f h (show ¬ x4 = 1 by rw [e_16]; decide)
      replace h := it_f h (show ¬ x4 = 2 by rw [e_16]; decide)
      replace h := it_f h (show ¬ x4 = 5 by rw [e_16]; decide)
      replace h := it_f h (show ¬ x4 = 6 by rw [e_16]; decide)
      replace h := it_f h (show ¬ x4 = 7 by rw [e_16]; decide)
      refine lv_tableIn (off := 214) (tgt := 221) hx hb dX8_toldBy_7 (by rw [e_16]; decide) (by rw [e_16]; decide) (by rw [e_16]; rfl) (by decide) ?_
      refine lv_iload hx hb dX8_toldBy_221 (lv_at hl 1 rfl) ?_
      refine lv_iload hx hb dX8_toldBy_223 (lv_at hl 0 rfl) ?_
      refine lv_icmp_eq (tgt := 243) hx hb dX8_toldBy_225 (by decide) (fun _ => ?_) (fun c_17 => absurd c_17 (by decide))
      refine lv_iload_n hx hb dX8_toldBy_243 rfl (lv_at hl 3 rfl) ?_
      refine lv_iload_n hx hb dX8_toldBy_244 rfl (lv_at hl 4 rfl) ?_
      refine lv_icmp_le (tgt := 252) hx hb dX8_toldBy_245 (by decide) (fun c_18 => ?_) (fun c_18 => ?_)
      · replace h := it_t h c_18
        refine lv_iload_n hx hb dX8_toldBy_252 rfl (lv_at hl 4 rfl) ?_
        exact r_iret C0 X hP hS hr hlk dX8_toldBy_253 ⟨Option.some.inj h, rfl⟩
      · replace h := it_f h c_18
        refine lv_iload_n hx hb dX8_toldBy_248 rfl (lv_at hl 3 rfl) ?_
        refine lv_goto (tgt := 253) hx hb dX8_toldBy_249 (by decide) ?_
        exact r_iret C0 X hP hS hr hlk dX8_toldBy_253 ⟨Option.some.inj h, rfl⟩
    · have e_19 : x4 = 4 := sw_eq c_1 (by decide)
      replace h := it_f h (show ¬ x4 = 1 by rw [e_19]; decide)
      replace h := it_f h (show ¬ x4 = 2 by rw [e_19]; decide)
      replace h := it_f h (show ¬ x4 = 5 by rw [e_19]; decide)
      replace h := it_f h (show ¬ x4 = 6 by rw [e_19]; decide)
      replace h := it_f h (show ¬ x4 = 7 by rw [e_19]; decide)
      refine lv_tableIn (off := 214) (tgt := 221) hx hb dX8_toldBy_7 (by rw [e_19]; decide) (by rw [e_19]; decide) (by rw [e_19]; rfl) (by decide) ?_
      refine lv_iload hx hb dX8_toldBy_221 (lv_at hl 1 rfl) ?_
      refine lv_iload hx hb dX8_toldBy_223 (lv_at hl 0 rfl) ?_
      refine lv_icmp_eq (tgt := 243) hx hb dX8_toldBy_225 (by decide) (fun _ => ?_) (fun c_20 => absurd c_20 (by decide))
      refine lv_iload_n hx hb dX8_toldBy_243 rfl (lv_at hl 3 rfl) ?_
      refine lv_iload_n hx hb dX8_toldBy_244 rfl (lv_at hl 4 rfl) ?_
      refine lv_icmp_le (tgt := 252) hx hb dX8_toldBy_245 (by decide) (fun c_21 => ?_) (fun c_21 => ?_)
      · replace h := it_t h c_21
        refine lv_iload_n hx hb dX8_toldBy_252 rfl (lv_at hl 4 rfl) ?_
        exact r_iret C0 X hP hS hr hlk dX8_toldBy_253 ⟨Option.some.inj h, rfl⟩
      · replace h := it_f h c_21
        refine lv_iload_n hx hb dX8_toldBy_248 rfl (lv_at hl 3 rfl) ?_
        refine lv_goto (tgt := 253) hx hb dX8_toldBy_249 (by decide) ?_
        exact r_iret C0 X hP hS hr hlk dX8_toldBy_253 ⟨Option.some.inj h, rfl⟩
    · have e_22 : x4 = 5 := sw_eq c_1 (by decide)
      replace h := it_f h (show ¬ x4 = 1 by rw [e_22]; decide)
      replace h := it_f h (show ¬ x4 = 2 by rw [e_22]; decide)
      replace h := it_t h e_22
      refine lv_tableIn (off := 77) (tgt := 84) hx hb dX8_toldBy_7 (by rw [e_22]; decide) (by rw [e_22]; decide) (by rw [e_22]; rfl) (by decide) ?_
      refine lv_aload_n hx hb dX8_toldBy_84 rfl (lv_at hl 2 rfl) ?_
      refine lv_iload_n hx hb dX8_toldBy_85 rfl (lv_at hl 3 rfl) ?_
      obtain ⟨r_23, er_23, h⟩ := bnd h
      refine r_ci X hS (r_runS (As := [.ref (ad a1), .int x2]) (rest := []) C0 X hP L_X8_164 (fun sz => c_X8_behind l D cA ad o σ a1 x2 ha1 r_23 er_23 sz) ⟨Nat.le_of_ble_eq_true rfl, Nat.le_of_ble_eq_true rfl⟩ rfl hl.1 rfl (Nat.le_of_ble_eq_true rfl) dX8_toldBy_86 ⟨Nat.zero_le _, Nat.zero_le _⟩) (fun r9 σ9 H locs hw hP hS => ?_)
      rw [hw.2] at hP
      rw [hw.1]
      refine lv_aload_n hx hb dX8_toldBy_89 rfl (lv_at hl 2 rfl) ?_
      refine lv_iload_n hx hb dX8_toldBy_90 rfl (lv_at hl 3 rfl) ?_
      refine lv_iconst (v := 3) hx hb dX8_toldBy_91 (by decide) ?_
      obtain ⟨r_24, er_24, h⟩ := bnd h
      refine r_ci X hS (r_runS (As := [.ref (ad a1), .int x2, .int 3]) (rest := [.int r_23]) C0 X hP L_X8_130 (fun sz => c_X8_get l D cA ad o σ a1 x2 3 ha1 r_24 er_24 sz) ⟨Nat.le_of_ble_eq_true rfl, Nat.le_of_ble_eq_true rfl⟩ rfl hl.1 rfl (Nat.le_of_ble_eq_true rfl) dX8_toldBy_92 ⟨Nat.zero_le _, Nat.zero_le _⟩) (fun r9 σ9 H locs hw hP hS => ?_)
      rw [hw.2] at hP
      rw [hw.1]
      refine lv_imul hx hb dX8_toldBy_95 ?_
      refine lv_istore (lv' := [(5, .int (r_23 * r_24)), (6, .int 0), (0, .ref (ad a1)), (1, .int x2), (2, .int x3), (3, .int x4), (4, .int x5)]) hx hb dX8_toldBy_96 hl (by decide) rfl (fun ls hl => ?_)
      refine lv_aload_n hx hb dX8_toldBy_98 rfl (lv_at hl 2 rfl) ?_
      refine lv_iload_n hx hb dX8_toldBy_99 rfl (lv_at hl 4 rfl) ?_
      obtain ⟨r_25, er_25, h⟩ := bnd h
      refine r_ci X hS (r_runS (As := [.ref (ad a1), .int x3]) (rest := []) C0 X hP L_X8_164 (fun sz => c_X8_behind l D cA ad o σ a1 x3 ha1 r_25 er_25 sz) ⟨Nat.le_of_ble_eq_true rfl, Nat.le_of_ble_eq_true rfl⟩ rfl hl.1 rfl (Nat.le_of_ble_eq_true rfl) dX8_toldBy_100 ⟨Nat.zero_le _, Nat.zero_le _⟩) (fun r9 σ9 H locs hw hP hS => ?_)
      rw [hw.2] at hP
      rw [hw.1]
      refine lv_aload_n hx hb dX8_toldBy_103 rfl (lv_at hl 2 rfl) ?_
      refine lv_iload_n hx hb dX8_toldBy_104 rfl (lv_at hl 4 rfl) ?_
      refine lv_iconst (v := 3) hx hb dX8_toldBy_105 (by decide) ?_
      obtain ⟨r_26, er_26, h⟩ := bnd h
      refine r_ci X hS (r_runS (As := [.ref (ad a1), .int x3, .int 3]) (rest := [.int r_25]) C0 X hP L_X8_130 (fun sz => c_X8_get l D cA ad o σ a1 x3 3 ha1 r_26 er_26 sz) ⟨Nat.le_of_ble_eq_true rfl, Nat.le_of_ble_eq_true rfl⟩ rfl hl.1 rfl (Nat.le_of_ble_eq_true rfl) dX8_toldBy_106 ⟨Nat.zero_le _, Nat.zero_le _⟩) (fun r9 σ9 H locs hw hP hS => ?_)
      rw [hw.2] at hP
      rw [hw.1]
      refine lv_imul hx hb dX8_toldBy_109 ?_
      refine lv_istore (lv' := [(6, .int (r_25 * r_26)), (5, .int (r_23 * r_24)), (0, .ref (ad a1)), (1, .int x2), (2, .int x3), (3, .int x4), (4, .int x5)]) hx hb dX8_toldBy_110 hl (by decide) rfl (fun ls hl => ?_)
      refine lv_goto (tgt := 221) hx hb dX8_toldBy_112 (by decide) ?_
      refine lv_iload hx hb dX8_toldBy_221 (lv_at hl 1 rfl) ?_
      refine lv_iload hx hb dX8_toldBy_223 (lv_at hl 0 rfl) ?_
      refine lv_icmp_eq (tgt := 243) hx hb dX8_toldBy_225 (by decide) (fun c_27 => ?_) (fun c_27 => ?_)
      · replace h := it_t h c_27
        refine lv_iload_n hx hb dX8_toldBy_243 rfl (lv_at hl 3 rfl) ?_
        refine lv_iload_n hx hb dX8_toldBy_244 rfl (lv_at hl 4 rfl) ?_
        refine lv_icmp_le (tgt := 252) hx hb dX8_toldBy_245 (by decide) (fun c_28 => ?_) (fun c_28 => ?_)
        · replace h := it_t h c_28
          refine lv_iload_n hx hb dX8_toldBy_252 rfl (lv_at hl 4 rfl) ?_
          exact r_iret C0 X hP hS hr hlk dX8_toldBy_253 ⟨Option.some.inj h, rfl⟩
        · replace h := it_f h c_28
          refine lv_iload_n hx hb dX8_toldBy_248 rfl (lv_at hl 3 rfl) ?_
          refine lv_goto (tgt := 253) hx hb dX8_toldBy_249 (by decide) ?_
          exact r_iret C0 X hP hS hr hlk dX8_toldBy_253 ⟨Option.some.inj h, rfl⟩
      · replace h := it_f h c_27
        refine lv_iload hx hb dX8_toldBy_228 (lv_at hl 1 rfl) ?_
        refine lv_iload hx hb dX8_toldBy_230 (lv_at hl 0 rfl) ?_
        refine lv_icmp_ge (tgt := 239) hx hb dX8_toldBy_232 (by decide) (fun c_29 => ?_) (fun c_29 => ?_)
        · replace h := it_t h c_29
          refine lv_iload_n hx hb dX8_toldBy_239 rfl (lv_at hl 4 rfl) ?_
          refine lv_goto (tgt := 253) hx hb dX8_toldBy_240 (by decide) ?_
          exact r_iret C0 X hP hS hr hlk dX8_toldBy_253 ⟨Option.some.inj h, rfl⟩
        · replace h := it_f h c_29
          refine lv_iload_n hx hb dX8_toldBy_235 rfl (lv_at hl 3 rfl) ?_
          refine lv_goto (tgt := 253) hx hb dX8_toldBy_236 (by decide) ?_
          exact r_iret C0 X hP hS hr hlk dX8_toldBy_253 ⟨Option.some.inj h, rfl⟩
    · have e_30 : x4 = 6 := sw_eq c_1 (by decide)
      replace h := it_f h (show ¬ x4 = 1 by rw [e_30]; decide)
      replace h := it_f h (show ¬ x4 = 2 by rw [e_30]; decide)
      replace h := it_f h (show ¬ x4 = 5 by rw [e_30]; decide)
      replace h := it_t h e_30
      refine lv_tableIn (off := 108) (tgt := 115) hx hb dX8_toldBy_7 (by rw [e_30]; decide) (by rw [e_30]; decide) (by rw [e_30]; rfl) (by decide) ?_
      refine lv_aload_n hx hb dX8_toldBy_115 rfl (lv_at hl 2 rfl) ?_
      refine lv_iload_n hx hb dX8_toldBy_116 rfl (lv_at hl 3 rfl) ?_
      refine lv_iconst (v := 2) hx hb dX8_toldBy_117 (by decide) ?_
      obtain ⟨r_31, er_31, h⟩ := bnd h
      refine r_ci X hS (r_runS (As := [.ref (ad a1), .int x2, .int 2]) (rest := []) C0 X hP L_X8_130 (fun sz => c_X8_get l D cA ad o σ a1 x2 2 ha1 r_31 er_31 sz) ⟨Nat.le_of_ble_eq_true rfl, Nat.le_of_ble_eq_true rfl⟩ rfl hl.1 rfl (Nat.le_of_ble_eq_true rfl) dX8_toldBy_118 ⟨Nat.zero_le _, Nat.zero_le _⟩) (fun r9 σ9 H locs hw hP hS => ?_)
      rw [hw.2] at hP
      rw [hw.1]
      refine lv_istore (lv' := [(5, .int r_31), (6, .int 0), (0, .ref (ad a1)), (1, .int x2), (2, .int x3), (3, .int x4), (4, .int x5)]) hx hb dX8_toldBy_121 hl (by decide) rfl (fun ls hl => ?_)
      refine lv_aload_n hx hb dX8_toldBy_123 rfl (lv_at hl 2 rfl) ?_
      refine lv_iload_n hx hb dX8_toldBy_124 rfl (lv_at hl 4 rfl) ?_
      refine lv_iconst (v := 2) hx hb dX8_toldBy_125 (by decide) ?_
      obtain ⟨r_32, er_32, h⟩ := bnd h
      refine r_ci X hS (r_runS (As := [.ref (ad a1), .int x3, .int 2]) (rest := []) C0 X hP L_X8_130 (fun sz => c_X8_get l D cA ad o σ a1 x3 2 ha1 r_32 er_32 sz) ⟨Nat.le_of_ble_eq_true rfl, Nat.le_of_ble_eq_true rfl⟩ rfl hl.1 rfl (Nat.le_of_ble_eq_true rfl) dX8_toldBy_126 ⟨Nat.zero_le _, Nat.zero_le _⟩) (fun r9 σ9 H locs hw hP hS => ?_)
      rw [hw.2] at hP
      rw [hw.1]
      refine lv_istore (lv' := [(6, .int r_32), (5, .int r_31), (0, .ref (ad a1)), (1, .int x2), (2, .int x3), (3, .int x4), (4, .int x5)]) hx hb dX8_toldBy_129 hl (by decide) rfl (fun ls hl => ?_)
      refine lv_iload hx hb dX8_toldBy_131 (lv_at hl 1 rfl) ?_
      refine lv_iload hx hb dX8_toldBy_133 (lv_at hl 0 rfl) ?_
      refine lv_icmp_ne (tgt := 221) hx hb dX8_toldBy_135 (by decide) (fun c_33 => ?_) (fun c_33 => ?_)
      · replace h := it_f h c_33
        refine lv_iload hx hb dX8_toldBy_221 (lv_at hl 1 rfl) ?_
        refine lv_iload hx hb dX8_toldBy_223 (lv_at hl 0 rfl) ?_
        refine lv_icmp_eq (tgt := 243) hx hb dX8_toldBy_225 (by decide) (fun c_34 => ?_) (fun c_34 => ?_)
        · replace h := it_t h c_34
          refine lv_iload_n hx hb dX8_toldBy_243 rfl (lv_at hl 3 rfl) ?_
          refine lv_iload_n hx hb dX8_toldBy_244 rfl (lv_at hl 4 rfl) ?_
          refine lv_icmp_le (tgt := 252) hx hb dX8_toldBy_245 (by decide) (fun c_35 => ?_) (fun c_35 => ?_)
          · replace h := it_t h c_35
            refine lv_iload_n hx hb dX8_toldBy_252 rfl (lv_at hl 4 rfl) ?_
            exact r_iret C0 X hP hS hr hlk dX8_toldBy_253 ⟨Option.some.inj h, rfl⟩
          · replace h := it_f h c_35
            refine lv_iload_n hx hb dX8_toldBy_248 rfl (lv_at hl 3 rfl) ?_
            refine lv_goto (tgt := 253) hx hb dX8_toldBy_249 (by decide) ?_
            exact r_iret C0 X hP hS hr hlk dX8_toldBy_253 ⟨Option.some.inj h, rfl⟩
        · replace h := it_f h c_34
          refine lv_iload hx hb dX8_toldBy_228 (lv_at hl 1 rfl) ?_
          refine lv_iload hx hb dX8_toldBy_230 (lv_at hl 0 rfl) ?_
          refine lv_icmp_ge (tgt := 239) hx hb dX8_toldBy_232 (by decide) (fun c_36 => ?_) (fun c_36 => ?_)
          · replace h := it_t h c_36
            refine lv_iload_n hx hb dX8_toldBy_239 rfl (lv_at hl 4 rfl) ?_
            refine lv_goto (tgt := 253) hx hb dX8_toldBy_240 (by decide) ?_
            exact r_iret C0 X hP hS hr hlk dX8_toldBy_253 ⟨Option.some.inj h, rfl⟩
          · replace h := it_f h c_36
            refine lv_iload_n hx hb dX8_toldBy_235 rfl (lv_at hl 3 rfl) ?_
            refine lv_goto (tgt := 253) hx hb dX8_toldBy_236 (by decide) ?_
            exact r_iret C0 X hP hS hr hlk dX8_toldBy_253 ⟨Option.some.inj h, rfl⟩
      · replace h := it_t h c_33
        refine lv_aload_n hx hb dX8_toldBy_138 rfl (lv_at hl 2 rfl) ?_
        refine lv_iload_n hx hb dX8_toldBy_139 rfl (lv_at hl 3 rfl) ?_
        refine lv_iload_n hx hb dX8_toldBy_140 rfl (lv_at hl 4 rfl) ?_
        refine lv_iconst (v := 1) hx hb dX8_toldBy_141 (by decide) ?_
        refine lv_iload hx hb dX8_toldBy_142 (lv_at hl 6 rfl) ?_
        obtain ⟨r_37, er_37, h⟩ := bnd h
        refine r_ci X hS (r_runS (As := [.ref (ad a1), .int x2, .int x3, .int 1, .int x5]) (rest := []) C0 X hP L_X8_167 (fun sz => c_X8_toldBy0 l D cA ad o σ a1 x2 x3 1 x5 ha1 r_37 er_37 sz) ⟨Nat.le_of_ble_eq_true rfl, Nat.le_of_ble_eq_true rfl⟩ rfl hl.1 rfl (Nat.le_of_ble_eq_true rfl) dX8_toldBy_144 ⟨Nat.zero_le _, Nat.zero_le _⟩) (fun r9 σ9 H locs hw hP hS => ?_)
        rw [hw.2] at hP
        rw [hw.1]
        exact r_iret C0 X hP hS hr hlk dX8_toldBy_147 ⟨Option.some.inj h, rfl⟩
    · have e_38 : x4 = 7 := sw_eq c_1 (by decide)
      replace h := it_f h (show ¬ x4 = 1 by rw [e_38]; decide)
      replace h := it_f h (show ¬ x4 = 2 by rw [e_38]; decide)
      replace h := it_f h (show ¬ x4 = 5 by rw [e_38]; decide)
      replace h := it_f h (show ¬ x4 = 6 by rw [e_38]; decide)
      replace h := it_t h e_38
      refine lv_tableIn (off := 141) (tgt := 148) hx hb dX8_toldBy_7 (by rw [e_38]; decide) (by rw [e_38]; decide) (by rw [e_38]; rfl) (by decide) ?_
      refine lv_iload hx hb dX8_toldBy_148 (lv_at hl 6 rfl) ?_
      refine lv_if_ge (tgt := 157) hx hb dX8_toldBy_150 (by decide) (fun c_39 => ?_) (fun c_39 => ?_)
      · replace h := it_t h c_39
        refine lv_aload_n hx hb dX8_toldBy_157 rfl (lv_at hl 2 rfl) ?_
        refine lv_iload_n hx hb dX8_toldBy_158 rfl (lv_at hl 3 rfl) ?_
        refine lv_aload_n hx hb dX8_toldBy_159 rfl (lv_at hl 2 rfl) ?_
        refine lv_bipush (v := 14) hx hb dX8_toldBy_160 (by decide) ?_
        refine lv_iconst (v := 3) hx hb dX8_toldBy_162 (by decide) ?_
        refine lv_iload hx hb dX8_toldBy_163 (lv_at hl 6 rfl) ?_
        refine lv_imul hx hb dX8_toldBy_165 ?_
        refine lv_iadd hx hb dX8_toldBy_166 ?_
        refine lv_iconst (v := 1) hx hb dX8_toldBy_167 (by decide) ?_
        refine lv_iadd hx hb dX8_toldBy_168 ?_
        obtain ⟨k_40, ek_40, h⟩ := bnd h
        replace ek_40 := ix_s ek_40 (by decide)
        refine r_ialdN C0 X hP a1 (k := k_40) ha1 ek_40.1 ek_40.2 dX8_toldBy_169 ?_
        obtain ⟨r_41, er_41, h⟩ := bnd h
        refine r_ci X hS (r_runS (As := [.ref (ad a1), .int x2, .int (σ a1 k_40)]) (rest := []) C0 X hP L_X8_171 (fun sz => c_X8_falls l D cA ad o σ a1 x2 (σ a1 k_40) ha1 r_41 er_41 sz) ⟨Nat.le_of_ble_eq_true rfl, Nat.le_of_ble_eq_true rfl⟩ rfl hl.1 rfl (Nat.le_of_ble_eq_true rfl) dX8_toldBy_170 ⟨Nat.zero_le _, Nat.zero_le _⟩) (fun r9 σ9 H locs hw hP hS => ?_)
        rw [hw.2] at hP
        rw [hw.1]
        refine lv_ineg hx hb dX8_toldBy_173 ?_
        refine lv_istore (lv' := [(5, .int (-r_41)), (6, .int 0), (0, .ref (ad a1)), (1, .int x2), (2, .int x3), (3, .int x4), (4, .int x5)]) hx hb dX8_toldBy_174 hl (by decide) rfl (fun ls hl => ?_)
        refine lv_iload hx hb dX8_toldBy_176 (lv_at hl 6 rfl) ?_
        refine lv_if_ge (tgt := 185) hx hb dX8_toldBy_178 (by decide) (fun c_42 => ?_) (fun c_42 => ?_)
        · replace h := it_t h c_42
          refine lv_aload_n hx hb dX8_toldBy_185 rfl (lv_at hl 2 rfl) ?_
          refine lv_iload_n hx hb dX8_toldBy_186 rfl (lv_at hl 4 rfl) ?_
          refine lv_aload_n hx hb dX8_toldBy_187 rfl (lv_at hl 2 rfl) ?_
          refine lv_bipush (v := 14) hx hb dX8_toldBy_188 (by decide) ?_
          refine lv_iconst (v := 3) hx hb dX8_toldBy_190 (by decide) ?_
          refine lv_iload hx hb dX8_toldBy_191 (lv_at hl 6 rfl) ?_
          refine lv_imul hx hb dX8_toldBy_193 ?_
          refine lv_iadd hx hb dX8_toldBy_194 ?_
          refine lv_iconst (v := 1) hx hb dX8_toldBy_195 (by decide) ?_
          refine lv_iadd hx hb dX8_toldBy_196 ?_
          obtain ⟨k_43, ek_43, h⟩ := bnd h
          replace ek_43 := ix_s ek_43 (by decide)
          refine r_ialdN C0 X hP a1 (k := k_43) ha1 ek_43.1 ek_43.2 dX8_toldBy_197 ?_
          obtain ⟨r_44, er_44, h⟩ := bnd h
          refine r_ci X hS (r_runS (As := [.ref (ad a1), .int x3, .int (σ a1 k_43)]) (rest := []) C0 X hP L_X8_171 (fun sz => c_X8_falls l D cA ad o σ a1 x3 (σ a1 k_43) ha1 r_44 er_44 sz) ⟨Nat.le_of_ble_eq_true rfl, Nat.le_of_ble_eq_true rfl⟩ rfl hl.1 rfl (Nat.le_of_ble_eq_true rfl) dX8_toldBy_198 ⟨Nat.zero_le _, Nat.zero_le _⟩) (fun r9 σ9 H locs hw hP hS => ?_)
          rw [hw.2] at hP
          rw [hw.1]
          refine lv_ineg hx hb dX8_toldBy_201 ?_
          refine lv_istore (lv' := [(6, .int (-r_44)), (5, .int (-r_41)), (0, .ref (ad a1)), (1, .int x2), (2, .int x3), (3, .int x4), (4, .int x5)]) hx hb dX8_toldBy_202 hl (by decide) rfl (fun ls hl => ?_)
          refine lv_iload hx hb dX8_toldBy_204 (lv_at hl 1 rfl) ?_
          refine lv_iload hx hb dX8_toldBy_206 (lv_at hl 0 rfl) ?_
          refine lv_icmp_ne (tgt := 221) hx hb dX8_toldBy_208 (by decide) (fun c_45 => ?_) (fun c_45 => ?_)
          · replace h := it_f h c_45
            refine lv_iload hx hb dX8_toldBy_221 (lv_at hl 1 rfl) ?_
            refine lv_iload hx hb dX8_toldBy_223 (lv_at hl 0 rfl) ?_
            refine lv_icmp_eq (tgt := 243) hx hb dX8_toldBy_225 (by decide) (fun c_46 => ?_) (fun c_46 => ?_)
            · replace h := it_t h c_46
              refine lv_iload_n hx hb dX8_toldBy_243 rfl (lv_at hl 3 rfl) ?_
              refine lv_iload_n hx hb dX8_toldBy_244 rfl (lv_at hl 4 rfl) ?_
              refine lv_icmp_le (tgt := 252) hx hb dX8_toldBy_245 (by decide) (fun c_47 => ?_) (fun c_47 => ?_)
              · replace h := it_t h c_47
                refine lv_iload_n hx hb dX8_toldBy_252 rfl (lv_at hl 4 rfl) ?_
                exact r_iret C0 X hP hS hr hlk dX8_toldBy_253 ⟨Option.some.inj h, rfl⟩
              · replace h := it_f h c_47
                refine lv_iload_n hx hb dX8_toldBy_248 rfl (lv_at hl 3 rfl) ?_
                refine lv_goto (tgt := 253) hx hb dX8_toldBy_249 (by decide) ?_
                exact r_iret C0 X hP hS hr hlk dX8_toldBy_253 ⟨Option.some.inj h, rfl⟩
            · replace h := it_f h c_46
              refine lv_iload hx hb dX8_toldBy_228 (lv_at hl 1 rfl) ?_
              refine lv_iload hx hb dX8_toldBy_230 (lv_at hl 0 rfl) ?_
              refine lv_icmp_ge (tgt := 239) hx hb dX8_toldBy_232 (by decide) (fun c_48 => ?_) (fun c_48 => ?_)
              · replace h := it_t h c_48
                refine lv_iload_n hx hb dX8_toldBy_239 rfl (lv_at hl 4 rfl) ?_
                refine lv_goto (tgt := 253) hx hb dX8_toldBy_240 (by decide) ?_
                exact r_iret C0 X hP hS hr hlk dX8_toldBy_253 ⟨Option.some.inj h, rfl⟩
              · replace h := it_f h c_48
                refine lv_iload_n hx hb dX8_toldBy_235 rfl (lv_at hl 3 rfl) ?_
                refine lv_goto (tgt := 253) hx hb dX8_toldBy_236 (by decide) ?_
                exact r_iret C0 X hP hS hr hlk dX8_toldBy_253 ⟨Option.some.inj h, rfl⟩
          · replace h := it_t h c_45
            refine lv_aload_n hx hb dX8_toldBy_211 rfl (lv_at hl 2 rfl) ?_
            refine lv_iload_n hx hb dX8_toldBy_212 rfl (lv_at hl 3 rfl) ?_
            refine lv_iload_n hx hb dX8_toldBy_213 rfl (lv_at hl 4 rfl) ?_
            refine lv_iconst (v := 2) hx hb dX8_toldBy_214 (by decide) ?_
            refine lv_iload hx hb dX8_toldBy_215 (lv_at hl 6 rfl) ?_
            obtain ⟨r_49, er_49, h⟩ := bnd h
            refine r_ci X hS (r_runS (As := [.ref (ad a1), .int x2, .int x3, .int 2, .int x5]) (rest := []) C0 X hP L_X8_167 (fun sz => c_X8_toldBy0 l D cA ad o σ a1 x2 x3 2 x5 ha1 r_49 er_49 sz) ⟨Nat.le_of_ble_eq_true rfl, Nat.le_of_ble_eq_true rfl⟩ rfl hl.1 rfl (Nat.le_of_ble_eq_true rfl) dX8_toldBy_217 ⟨Nat.zero_le _, Nat.zero_le _⟩) (fun r9 σ9 H locs hw hP hS => ?_)
            rw [hw.2] at hP
            rw [hw.1]
            exact r_iret C0 X hP hS hr hlk dX8_toldBy_220 ⟨Option.some.inj h, rfl⟩
        · replace h := it_f h c_42
          refine lv_iconst (v := 0) hx hb dX8_toldBy_181 (by decide) ?_
          refine lv_goto (tgt := 202) hx hb dX8_toldBy_182 (by decide) ?_
          refine lv_istore (lv' := [(6, .int 0), (5, .int (-r_41)), (0, .ref (ad a1)), (1, .int x2), (2, .int x3), (3, .int x4), (4, .int x5)]) hx hb dX8_toldBy_202 hl (by decide) rfl (fun ls hl => ?_)
          refine lv_iload hx hb dX8_toldBy_204 (lv_at hl 1 rfl) ?_
          refine lv_iload hx hb dX8_toldBy_206 (lv_at hl 0 rfl) ?_
          refine lv_icmp_ne (tgt := 221) hx hb dX8_toldBy_208 (by decide) (fun c_50 => ?_) (fun c_50 => ?_)
          · replace h := it_f h c_50
            refine lv_iload hx hb dX8_toldBy_221 (lv_at hl 1 rfl) ?_
            refine lv_iload hx hb dX8_toldBy_223 (lv_at hl 0 rfl) ?_
            refine lv_icmp_eq (tgt := 243) hx hb dX8_toldBy_225 (by decide) (fun c_51 => ?_) (fun c_51 => ?_)
            · replace h := it_t h c_51
              refine lv_iload_n hx hb dX8_toldBy_243 rfl (lv_at hl 3 rfl) ?_
              refine lv_iload_n hx hb dX8_toldBy_244 rfl (lv_at hl 4 rfl) ?_
              refine lv_icmp_le (tgt := 252) hx hb dX8_toldBy_245 (by decide) (fun c_52 => ?_) (fun c_52 => ?_)
              · replace h := it_t h c_52
                refine lv_iload_n hx hb dX8_toldBy_252 rfl (lv_at hl 4 rfl) ?_
                exact r_iret C0 X hP hS hr hlk dX8_toldBy_253 ⟨Option.some.inj h, rfl⟩
              · replace h := it_f h c_52
                refine lv_iload_n hx hb dX8_toldBy_248 rfl (lv_at hl 3 rfl) ?_
                refine lv_goto (tgt := 253) hx hb dX8_toldBy_249 (by decide) ?_
                exact r_iret C0 X hP hS hr hlk dX8_toldBy_253 ⟨Option.some.inj h, rfl⟩
            · replace h := it_f h c_51
              refine lv_iload hx hb dX8_toldBy_228 (lv_at hl 1 rfl) ?_
              refine lv_iload hx hb dX8_toldBy_230 (lv_at hl 0 rfl) ?_
              refine lv_icmp_ge (tgt := 239) hx hb dX8_toldBy_232 (by decide) (fun c_53 => ?_) (fun c_53 => ?_)
              · replace h := it_t h c_53
                refine lv_iload_n hx hb dX8_toldBy_239 rfl (lv_at hl 4 rfl) ?_
                refine lv_goto (tgt := 253) hx hb dX8_toldBy_240 (by decide) ?_
                exact r_iret C0 X hP hS hr hlk dX8_toldBy_253 ⟨Option.some.inj h, rfl⟩
              · replace h := it_f h c_53
                refine lv_iload_n hx hb dX8_toldBy_235 rfl (lv_at hl 3 rfl) ?_
                refine lv_goto (tgt := 253) hx hb dX8_toldBy_236 (by decide) ?_
                exact r_iret C0 X hP hS hr hlk dX8_toldBy_253 ⟨Option.some.inj h, rfl⟩
          · replace h := it_t h c_50
            refine lv_aload_n hx hb dX8_toldBy_211 rfl (lv_at hl 2 rfl) ?_
            refine lv_iload_n hx hb dX8_toldBy_212 rfl (lv_at hl 3 rfl) ?_
            refine lv_iload_n hx hb dX8_toldBy_213 rfl (lv_at hl 4 rfl) ?_
            refine lv_iconst (v := 2) hx hb dX8_toldBy_214 (by decide) ?_
            refine lv_iload hx hb dX8_toldBy_215 (lv_at hl 6 rfl) ?_
            obtain ⟨r_54, er_54, h⟩ := bnd h
            refine r_ci X hS (r_runS (As := [.ref (ad a1), .int x2, .int x3, .int 2, .int x5]) (rest := []) C0 X hP L_X8_167 (fun sz => c_X8_toldBy0 l D cA ad o σ a1 x2 x3 2 x5 ha1 r_54 er_54 sz) ⟨Nat.le_of_ble_eq_true rfl, Nat.le_of_ble_eq_true rfl⟩ rfl hl.1 rfl (Nat.le_of_ble_eq_true rfl) dX8_toldBy_217 ⟨Nat.zero_le _, Nat.zero_le _⟩) (fun r9 σ9 H locs hw hP hS => ?_)
            rw [hw.2] at hP
            rw [hw.1]
            exact r_iret C0 X hP hS hr hlk dX8_toldBy_220 ⟨Option.some.inj h, rfl⟩
      · replace h := it_f h c_39
        refine lv_iconst (v := 0) hx hb dX8_toldBy_153 (by decide) ?_
        refine lv_goto (tgt := 174) hx hb dX8_toldBy_154 (by decide) ?_
        refine lv_istore (lv' := [(5, .int 0), (6, .int 0), (0, .ref (ad a1)), (1, .int x2), (2, .int x3), (3, .int x4), (4, .int x5)]) hx hb dX8_toldBy_174 hl (by decide) rfl (fun ls hl => ?_)
        refine lv_iload hx hb dX8_toldBy_176 (lv_at hl 6 rfl) ?_
        refine lv_if_ge (tgt := 185) hx hb dX8_toldBy_178 (by decide) (fun c_55 => ?_) (fun c_55 => ?_)
        · replace h := it_t h c_55
          refine lv_aload_n hx hb dX8_toldBy_185 rfl (lv_at hl 2 rfl) ?_
          refine lv_iload_n hx hb dX8_toldBy_186 rfl (lv_at hl 4 rfl) ?_
          refine lv_aload_n hx hb dX8_toldBy_187 rfl (lv_at hl 2 rfl) ?_
          refine lv_bipush (v := 14) hx hb dX8_toldBy_188 (by decide) ?_
          refine lv_iconst (v := 3) hx hb dX8_toldBy_190 (by decide) ?_
          refine lv_iload hx hb dX8_toldBy_191 (lv_at hl 6 rfl) ?_
          refine lv_imul hx hb dX8_toldBy_193 ?_
          refine lv_iadd hx hb dX8_toldBy_194 ?_
          refine lv_iconst (v := 1) hx hb dX8_toldBy_195 (by decide) ?_
          refine lv_iadd hx hb dX8_toldBy_196 ?_
          obtain ⟨k_56, ek_56, h⟩ := bnd h
          replace ek_56 := ix_s ek_56 (by decide)
          refine r_ialdN C0 X hP a1 (k := k_56) ha1 ek_56.1 ek_56.2 dX8_toldBy_197 ?_
          obtain ⟨r_57, er_57, h⟩ := bnd h
          refine r_ci X hS (r_runS (As := [.ref (ad a1), .int x3, .int (σ a1 k_56)]) (rest := []) C0 X hP L_X8_171 (fun sz => c_X8_falls l D cA ad o σ a1 x3 (σ a1 k_56) ha1 r_57 er_57 sz) ⟨Nat.le_of_ble_eq_true rfl, Nat.le_of_ble_eq_true rfl⟩ rfl hl.1 rfl (Nat.le_of_ble_eq_true rfl) dX8_toldBy_198 ⟨Nat.zero_le _, Nat.zero_le _⟩) (fun r9 σ9 H locs hw hP hS => ?_)
          rw [hw.2] at hP
          rw [hw.1]
          refine lv_ineg hx hb dX8_toldBy_201 ?_
          refine lv_istore (lv' := [(6, .int (-r_57)), (5, .int 0), (0, .ref (ad a1)), (1, .int x2), (2, .int x3), (3, .int x4), (4, .int x5)]) hx hb dX8_toldBy_202 hl (by decide) rfl (fun ls hl => ?_)
          refine lv_iload hx hb dX8_toldBy_204 (lv_at hl 1 rfl) ?_
          refine lv_iload hx hb dX8_toldBy_206 (lv_at hl 0 rfl) ?_
          refine lv_icmp_ne (tgt := 221) hx hb dX8_toldBy_208 (by decide) (fun c_58 => ?_) (fun c_58 => ?_)
          · replace h := it_f h c_58
            refine lv_iload hx hb dX8_toldBy_221 (lv_at hl 1 rfl) ?_
            refine lv_iload hx hb dX8_toldBy_223 (lv_at hl 0 rfl) ?_
            refine lv_icmp_eq (tgt := 243) hx hb dX8_toldBy_225 (by decide) (fun c_59 => ?_) (fun c_59 => ?_)
            · replace h := it_t h c_59
              refine lv_iload_n hx hb dX8_toldBy_243 rfl (lv_at hl 3 rfl) ?_
              refine lv_iload_n hx hb dX8_toldBy_244 rfl (lv_at hl 4 rfl) ?_
              refine lv_icmp_le (tgt := 252) hx hb dX8_toldBy_245 (by decide) (fun c_60 => ?_) (fun c_60 => ?_)
              · replace h := it_t h c_60
                refine lv_iload_n hx hb dX8_toldBy_252 rfl (lv_at hl 4 rfl) ?_
                exact r_iret C0 X hP hS hr hlk dX8_toldBy_253 ⟨Option.some.inj h, rfl⟩
              · replace h := it_f h c_60
                refine lv_iload_n hx hb dX8_toldBy_248 rfl (lv_at hl 3 rfl) ?_
                refine lv_goto (tgt := 253) hx hb dX8_toldBy_249 (by decide) ?_
                exact r_iret C0 X hP hS hr hlk dX8_toldBy_253 ⟨Option.some.inj h, rfl⟩
            · replace h := it_f h c_59
              refine lv_iload hx hb dX8_toldBy_228 (lv_at hl 1 rfl) ?_
              refine lv_iload hx hb dX8_toldBy_230 (lv_at hl 0 rfl) ?_
              refine lv_icmp_ge (tgt := 239) hx hb dX8_toldBy_232 (by decide) (fun c_61 => ?_) (fun c_61 => ?_)
              · replace h := it_t h c_61
                refine lv_iload_n hx hb dX8_toldBy_239 rfl (lv_at hl 4 rfl) ?_
                refine lv_goto (tgt := 253) hx hb dX8_toldBy_240 (by decide) ?_
                exact r_iret C0 X hP hS hr hlk dX8_toldBy_253 ⟨Option.some.inj h, rfl⟩
              · replace h := it_f h c_61
                refine lv_iload_n hx hb dX8_toldBy_235 rfl (lv_at hl 3 rfl) ?_
                refine lv_goto (tgt := 253) hx hb dX8_toldBy_236 (by decide) ?_
                exact r_iret C0 X hP hS hr hlk dX8_toldBy_253 ⟨Option.some.inj h, rfl⟩
          · replace h := it_t h c_58
            refine lv_aload_n hx hb dX8_toldBy_211 rfl (lv_at hl 2 rfl) ?_
            refine lv_iload_n hx hb dX8_toldBy_212 rfl (lv_at hl 3 rfl) ?_
            refine lv_iload_n hx hb dX8_toldBy_213 rfl (lv_at hl 4 rfl) ?_
            refine lv_iconst (v := 2) hx hb dX8_toldBy_214 (by decide) ?_
            refine lv_iload hx hb dX8_toldBy_215 (lv_at hl 6 rfl) ?_
            obtain ⟨r_62, er_62, h⟩ := bnd h
            refine r_ci X hS (r_runS (As := [.ref (ad a1), .int x2, .int x3, .int 2, .int x5]) (rest := []) C0 X hP L_X8_167 (fun sz => c_X8_toldBy0 l D cA ad o σ a1 x2 x3 2 x5 ha1 r_62 er_62 sz) ⟨Nat.le_of_ble_eq_true rfl, Nat.le_of_ble_eq_true rfl⟩ rfl hl.1 rfl (Nat.le_of_ble_eq_true rfl) dX8_toldBy_217 ⟨Nat.zero_le _, Nat.zero_le _⟩) (fun r9 σ9 H locs hw hP hS => ?_)
            rw [hw.2] at hP
            rw [hw.1]
            exact r_iret C0 X hP hS hr hlk dX8_toldBy_220 ⟨Option.some.inj h, rfl⟩
        · replace h := it_f h c_55
          refine lv_iconst (v := 0) hx hb dX8_toldBy_181 (by decide) ?_
          refine lv_goto (tgt := 202) hx hb dX8_toldBy_182 (by decide) ?_
          refine lv_istore (lv' := [(6, .int 0), (5, .int 0), (0, .ref (ad a1)), (1, .int x2), (2, .int x3), (3, .int x4), (4, .int x5)]) hx hb dX8_toldBy_202 hl (by decide) rfl (fun ls hl => ?_)
          refine lv_iload hx hb dX8_toldBy_204 (lv_at hl 1 rfl) ?_
          refine lv_iload hx hb dX8_toldBy_206 (lv_at hl 0 rfl) ?_
          refine lv_icmp_ne (tgt := 221) hx hb dX8_toldBy_208 (by decide) (fun c_63 => absurd c_63 (by decide)) (fun _ => ?_)
          refine lv_aload_n hx hb dX8_toldBy_211 rfl (lv_at hl 2 rfl) ?_
          refine lv_iload_n hx hb dX8_toldBy_212 rfl (lv_at hl 3 rfl) ?_
          refine lv_iload_n hx hb dX8_toldBy_213 rfl (lv_at hl 4 rfl) ?_
          refine lv_iconst (v := 2) hx hb dX8_toldBy_214 (by decide) ?_
          refine lv_iload hx hb dX8_toldBy_215 (lv_at hl 6 rfl) ?_
          obtain ⟨r_64, er_64, h⟩ := bnd h
          refine r_ci X hS (r_runS (As := [.ref (ad a1), .int x2, .int x3, .int 2, .int x5]) (rest := []) C0 X hP L_X8_167 (fun sz => c_X8_toldBy0 l D cA ad o σ a1 x2 x3 2 x5 ha1 r_64 er_64 sz) ⟨Nat.le_of_ble_eq_true rfl, Nat.le_of_ble_eq_true rfl⟩ rfl hl.1 rfl (Nat.le_of_ble_eq_true rfl) dX8_toldBy_217 ⟨Nat.zero_le _, Nat.zero_le _⟩) (fun r9 σ9 H locs hw hP hS => ?_)
          rw [hw.2] at hP
          rw [hw.1]
          exact r_iret C0 X hP hS hr hlk dX8_toldBy_220 ⟨Option.some.inj h, rfl⟩
def bB_cX8_backsOf : Nat := 0xacfc100500a7061508009e8200b80606152a1400a7051508009e8200b80605152a06361b0400a71c0700a01b05150536a700b804159700b81d2a1c1b2a
theorem yB_cX8_backsOf : BYS cX8_backsOf 61 bB_cX8_backsOf := BYS_of (by decide +kernel)
theorem dX8_backsOf_0 : decode cX8_backsOf 0 = .ok (.aload_n 0, 1) := D_42 yB_cX8_backsOf rfl rfl
theorem dX8_backsOf_1 : decode cX8_backsOf 1 = .ok (.iload_n 1, 1) := D_27 yB_cX8_backsOf rfl rfl
theorem dX8_backsOf_2 : decode cX8_backsOf 2 = .ok (.iload_n 2, 1) := D_28 yB_cX8_backsOf rfl rfl
theorem dX8_backsOf_3 : decode cX8_backsOf 3 = .ok (.aload_n 0, 1) := D_42 yB_cX8_backsOf rfl rfl
theorem dX8_backsOf_4 : decode cX8_backsOf 4 = .ok (.iload_n 3, 1) := D_29 yB_cX8_backsOf rfl rfl
theorem dX8_backsOf_5 : decode cX8_backsOf 5 = .ok (.invokestatic 151, 3) := D_184 yB_cX8_backsOf rfl rfl rfl
theorem dX8_backsOf_8 : decode cX8_backsOf 8 = .ok (.iload 4, 2) := D_21 yB_cX8_backsOf rfl rfl rfl
theorem dX8_backsOf_10 : decode cX8_backsOf 10 = .ok (.invokestatic 167, 3) := D_184 yB_cX8_backsOf rfl rfl rfl
theorem dX8_backsOf_13 : decode cX8_backsOf 13 = .ok (.istore 5, 2) := D_54 yB_cX8_backsOf rfl rfl rfl
theorem dX8_backsOf_15 : decode cX8_backsOf 15 = .ok (.iload 5, 2) := D_21 yB_cX8_backsOf rfl rfl rfl
theorem dX8_backsOf_17 : decode cX8_backsOf 17 = .ok (.iload_n 1, 1) := D_27 yB_cX8_backsOf rfl rfl
theorem dX8_backsOf_18 : decode cX8_backsOf 18 = .ok (.if_icmp .ne 7, 3) := D_160 yB_cX8_backsOf rfl rfl (sg_p (m := 32768) (N := 7) rfl rfl rfl)
theorem dX8_backsOf_21 : decode cX8_backsOf 21 = .ok (.iload_n 2, 1) := D_28 yB_cX8_backsOf rfl rfl
theorem dX8_backsOf_22 : decode cX8_backsOf 22 = .ok (.goto 4, 3) := D_167 yB_cX8_backsOf rfl rfl (sg_p (m := 32768) (N := 4) rfl rfl rfl)
theorem dX8_backsOf_25 : decode cX8_backsOf 25 = .ok (.iload_n 1, 1) := D_27 yB_cX8_backsOf rfl rfl
theorem dX8_backsOf_26 : decode cX8_backsOf 26 = .ok (.istore 6, 2) := D_54 yB_cX8_backsOf rfl rfl rfl
theorem dX8_backsOf_28 : decode cX8_backsOf 28 = .ok (.aload_n 0, 1) := D_42 yB_cX8_backsOf rfl rfl
theorem dX8_backsOf_29 : decode cX8_backsOf 29 = .ok (.iload 5, 2) := D_21 yB_cX8_backsOf rfl rfl rfl
theorem dX8_backsOf_31 : decode cX8_backsOf 31 = .ok (.iconst 3, 1) := D_6 yB_cX8_backsOf rfl rfl
theorem dX8_backsOf_32 : decode cX8_backsOf 32 = .ok (.invokestatic 130, 3) := D_184 yB_cX8_backsOf rfl rfl rfl
theorem dX8_backsOf_35 : decode cX8_backsOf 35 = .ok (.ifCond .le 8, 3) := D_158 yB_cX8_backsOf rfl rfl (sg_p (m := 32768) (N := 8) rfl rfl rfl)
theorem dX8_backsOf_38 : decode cX8_backsOf 38 = .ok (.iload 5, 2) := D_21 yB_cX8_backsOf rfl rfl rfl
theorem dX8_backsOf_40 : decode cX8_backsOf 40 = .ok (.goto 20, 3) := D_167 yB_cX8_backsOf rfl rfl (sg_p (m := 32768) (N := 20) rfl rfl rfl)
theorem dX8_backsOf_43 : decode cX8_backsOf 43 = .ok (.aload_n 0, 1) := D_42 yB_cX8_backsOf rfl rfl
theorem dX8_backsOf_44 : decode cX8_backsOf 44 = .ok (.iload 6, 2) := D_21 yB_cX8_backsOf rfl rfl rfl
theorem dX8_backsOf_46 : decode cX8_backsOf 46 = .ok (.iconst 3, 1) := D_6 yB_cX8_backsOf rfl rfl
theorem dX8_backsOf_47 : decode cX8_backsOf 47 = .ok (.invokestatic 130, 3) := D_184 yB_cX8_backsOf rfl rfl rfl
theorem dX8_backsOf_50 : decode cX8_backsOf 50 = .ok (.ifCond .le 8, 3) := D_158 yB_cX8_backsOf rfl rfl (sg_p (m := 32768) (N := 8) rfl rfl rfl)
theorem dX8_backsOf_53 : decode cX8_backsOf 53 = .ok (.iload 6, 2) := D_21 yB_cX8_backsOf rfl rfl rfl
theorem dX8_backsOf_55 : decode cX8_backsOf 55 = .ok (.goto 5, 3) := D_167 yB_cX8_backsOf rfl rfl (sg_p (m := 32768) (N := 5) rfl rfl rfl)
theorem dX8_backsOf_58 : decode cX8_backsOf 58 = .ok (.bipush (-4), 2) := D_16 yB_cX8_backsOf rfl rfl (sg_n (m := 128) (N := 4) rfl rfl rfl)
theorem dX8_backsOf_60 : decode cX8_backsOf 60 = .ok (.ireturn, 1) := D_172 yB_cX8_backsOf rfl rfl
def F_X8_backsOf (σ : Mem) (a1 : Nat) (x2 : Int32) (x3 : Int32) (x4 : Int32) (x5 : Int32) : Option (Int32) := (F_X8_kindOf σ a1 x4).bind fun r_1 => (F_X8_toldBy σ a1 x2 x3 r_1 x5).bind fun r_2 => if r_2 = x2 then ((F_X8_get σ a1 r_2 3).bind fun r_8 => if r_8 ≤ 0 then ((F_X8_get σ a1 x3 3).bind fun r_10 => if r_10 ≤ 0 then (some (-4)) else (some x3)) else (some r_2)) else ((F_X8_get σ a1 r_2 3).bind fun r_4 => if r_4 ≤ 0 then ((F_X8_get σ a1 x2 3).bind fun r_6 => if r_6 ≤ 0 then (some (-4)) else (some x2)) else (some r_2))
set_option maxHeartbeats 4000000 in
set_option maxRecDepth 100000 in
theorem c_X8_backsOf (l : Launch) (D : va_G) (cA : Nat → ClassId) (ad : Nat → Nat) (o : Int64) (σ : Mem) (a1 : Nat) (x2 : Int32) (x3 : Int32) (x4 : Int32) (x5 : Int32) (ha1 : a1 < 106 ∧ kd a1 = (9, 121)) (res : Int32) (h : F_X8_backsOf σ a1 x2 x3 x4 x5 = some res) (sz : Nat) : Met l yX8_backsOf (WY yX8_backsOf cX8_backsOf 7 (some .int)) (RM 4) (va_Pc [.ref (ad a1), .int x2, .int x3, .int x4, .int x5] (PW D cA ad o σ sz)) (va_Qi (fun r σ9 => r = res ∧ σ9 = σ) (QW D cA ad o) (FA ad sz)) 0 0 (FA ad sz) := by
  refine ct_of (own := RX8) (k := 4) (Qf := va_Qi (fun r σ9 => r = res ∧ σ9 = σ) (QW D cA ad o)) rfl (by decide) (Nat.le_of_ble_eq_true rfl) (fun p e s m below meth c ls C0 X hr hlk hP hl => ?_) sz
  have hS : va_S (FA ad s.heap.size) s.heap s.heap [] := va_S.rf
  have hl : lv_has ls 7 [(0, .ref (ad a1)), (1, .int x2), (2, .int x3), (3, .int x4), (4, .int x5)] := hl
  obtain ⟨hx, hb, hml, hown, hts⟩ := id C0
  unfold F_X8_backsOf at h
  refine lv_aload_n hx hb dX8_backsOf_0 rfl (lv_at hl 0 rfl) ?_
  refine lv_iload_n hx hb dX8_backsOf_1 rfl (lv_at hl 1 rfl) ?_
  refine lv_iload_n hx hb dX8_backsOf_2 rfl (lv_at hl 2 rfl) ?_
  refine lv_aload_n hx hb dX8_backsOf_3 rfl (lv_at hl 0 rfl) ?_
  refine lv_iload_n hx hb dX8_backsOf_4 rfl (lv_at hl 3 rfl) ?_
  obtain ⟨r_1, er_1, h⟩ := bnd h
  refine r_ci X hS (r_runS (As := [.ref (ad a1), .int x4]) (rest := [.int x3, .int x2, .ref (ad a1)]) C0 X hP L_X8_151 (fun sz => c_X8_kindOf l D cA ad o σ a1 x4 ha1 r_1 er_1 sz) ⟨Nat.le_of_ble_eq_true rfl, Nat.le_of_ble_eq_true rfl⟩ rfl hl.1 rfl (Nat.le_of_ble_eq_true rfl) dX8_backsOf_5 ⟨Nat.zero_le _, Nat.zero_le _⟩) (fun r9 σ9 H locs hw hP hS => ?_)
  rw [hw.2] at hP
  rw [hw.1]
  refine lv_iload hx hb dX8_backsOf_8 (lv_at hl 4 rfl) ?_
  obtain ⟨r_2, er_2, h⟩ := bnd h
  refine r_ci X hS (r_runS (As := [.ref (ad a1), .int x2, .int x3, .int r_1, .int x5]) (rest := []) C0 X hP L_X8_167 (fun sz => c_X8_toldBy l D cA ad o σ a1 x2 x3 r_1 x5 ha1 r_2 er_2 sz) ⟨Nat.le_of_ble_eq_true rfl, Nat.le_of_ble_eq_true rfl⟩ rfl hl.1 rfl (Nat.le_of_ble_eq_true rfl) dX8_backsOf_10 ⟨Nat.zero_le _, Nat.zero_le _⟩) (fun r9 σ9 H locs hw hP hS => ?_)
  rw [hw.2] at hP
  rw [hw.1]
  refine lv_istore (lv' := [(5, .int r_2), (0, .ref (ad a1)), (1, .int x2), (2, .int x3), (3, .int x4), (4, .int x5)]) hx hb dX8_backsOf_13 hl (by decide) rfl (fun ls hl => ?_)
  refine lv_iload hx hb dX8_backsOf_15 (lv_at hl 0 rfl) ?_
  refine lv_iload_n hx hb dX8_backsOf_17 rfl (lv_at hl 2 rfl) ?_
  refine lv_icmp_ne (tgt := 25) hx hb dX8_backsOf_18 (by decide) (fun c_3 => ?_) (fun c_3 => ?_)
  · replace h := it_f h c_3
    refine lv_iload_n hx hb dX8_backsOf_25 rfl (lv_at hl 2 rfl) ?_
    refine lv_istore (lv' := [(6, .int x2), (5, .int r_2), (0, .ref (ad a1)), (1, .int x2), (2, .int x3), (3, .int x4), (4, .int x5)]) hx hb dX8_backsOf_26 hl (by decide) rfl (fun ls hl => ?_)
    refine lv_aload_n hx hb dX8_backsOf_28 rfl (lv_at hl 2 rfl) ?_
    refine lv_iload hx hb dX8_backsOf_29 (lv_at hl 1 rfl) ?_
    refine lv_iconst (v := 3) hx hb dX8_backsOf_31 (by decide) ?_
    obtain ⟨r_4, er_4, h⟩ := bnd h
    refine r_ci X hS (r_runS (As := [.ref (ad a1), .int r_2, .int 3]) (rest := []) C0 X hP L_X8_130 (fun sz => c_X8_get l D cA ad o σ a1 r_2 3 ha1 r_4 er_4 sz) ⟨Nat.le_of_ble_eq_true rfl, Nat.le_of_ble_eq_true rfl⟩ rfl hl.1 rfl (Nat.le_of_ble_eq_true rfl) dX8_backsOf_32 ⟨Nat.zero_le _, Nat.zero_le _⟩) (fun r9 σ9 H locs hw hP hS => ?_)
    rw [hw.2] at hP
    rw [hw.1]
    refine lv_if_le (tgt := 43) hx hb dX8_backsOf_35 (by decide) (fun c_5 => ?_) (fun c_5 => ?_)
    · replace h := it_t h c_5
      refine lv_aload_n hx hb dX8_backsOf_43 rfl (lv_at hl 2 rfl) ?_
      refine lv_iload hx hb dX8_backsOf_44 (lv_at hl 0 rfl) ?_
      refine lv_iconst (v := 3) hx hb dX8_backsOf_46 (by decide) ?_
      obtain ⟨r_6, er_6, h⟩ := bnd h
      refine r_ci X hS (r_runS (As := [.ref (ad a1), .int x2, .int 3]) (rest := []) C0 X hP L_X8_130 (fun sz => c_X8_get l D cA ad o σ a1 x2 3 ha1 r_6 er_6 sz) ⟨Nat.le_of_ble_eq_true rfl, Nat.le_of_ble_eq_true rfl⟩ rfl hl.1 rfl (Nat.le_of_ble_eq_true rfl) dX8_backsOf_47 ⟨Nat.zero_le _, Nat.zero_le _⟩) (fun r9 σ9 H locs hw hP hS => ?_)
      rw [hw.2] at hP
      rw [hw.1]
      refine lv_if_le (tgt := 58) hx hb dX8_backsOf_50 (by decide) (fun c_7 => ?_) (fun c_7 => ?_)
      · replace h := it_t h c_7
        refine lv_bipush (v := (-4)) hx hb dX8_backsOf_58 (by decide) ?_
        exact r_iret C0 X hP hS hr hlk dX8_backsOf_60 ⟨Option.some.inj h, rfl⟩
      · replace h := it_f h c_7
        refine lv_iload hx hb dX8_backsOf_53 (lv_at hl 0 rfl) ?_
        refine lv_goto (tgt := 60) hx hb dX8_backsOf_55 (by decide) ?_
        exact r_iret C0 X hP hS hr hlk dX8_backsOf_60 ⟨Option.some.inj h, rfl⟩
    · replace h := it_f h c_5
      refine lv_iload hx hb dX8_backsOf_38 (lv_at hl 1 rfl) ?_
      refine lv_goto (tgt := 60) hx hb dX8_backsOf_40 (by decide) ?_
      exact r_iret C0 X hP hS hr hlk dX8_backsOf_60 ⟨Option.some.inj h, rfl⟩
  · replace h := it_t h c_3
    refine lv_iload_n hx hb dX8_backsOf_21 rfl (lv_at hl 3 rfl) ?_
    refine lv_goto (tgt := 26) hx hb dX8_backsOf_22 (by decide) ?_
    refine lv_istore (lv' := [(6, .int x3), (5, .int r_2), (0, .ref (ad a1)), (1, .int x2), (2, .int x3), (3, .int x4), (4, .int x5)]) hx hb dX8_backsOf_26 hl (by decide) rfl (fun ls hl => ?_)
    refine lv_aload_n hx hb dX8_backsOf_28 rfl (lv_at hl 2 rfl) ?_
    refine lv_iload hx hb dX8_backsOf_29 (lv_at hl 1 rfl) ?_
    refine lv_iconst (v := 3) hx hb dX8_backsOf_31 (by decide) ?_
    obtain ⟨r_8, er_8, h⟩ := bnd h
    refine r_ci X hS (r_runS (As := [.ref (ad a1), .int r_2, .int 3]) (rest := []) C0 X hP L_X8_130 (fun sz => c_X8_get l D cA ad o σ a1 r_2 3 ha1 r_8 er_8 sz) ⟨Nat.le_of_ble_eq_true rfl, Nat.le_of_ble_eq_true rfl⟩ rfl hl.1 rfl (Nat.le_of_ble_eq_true rfl) dX8_backsOf_32 ⟨Nat.zero_le _, Nat.zero_le _⟩) (fun r9 σ9 H locs hw hP hS => ?_)
    rw [hw.2] at hP
    rw [hw.1]
    refine lv_if_le (tgt := 43) hx hb dX8_backsOf_35 (by decide) (fun c_9 => ?_) (fun c_9 => ?_)
    · replace h := it_t h c_9
      refine lv_aload_n hx hb dX8_backsOf_43 rfl (lv_at hl 2 rfl) ?_
      refine lv_iload hx hb dX8_backsOf_44 (lv_at hl 0 rfl) ?_
      refine lv_iconst (v := 3) hx hb dX8_backsOf_46 (by decide) ?_
      obtain ⟨r_10, er_10, h⟩ := bnd h
      refine r_ci X hS (r_runS (As := [.ref (ad a1), .int x3, .int 3]) (rest := []) C0 X hP L_X8_130 (fun sz => c_X8_get l D cA ad o σ a1 x3 3 ha1 r_10 er_10 sz) ⟨Nat.le_of_ble_eq_true rfl, Nat.le_of_ble_eq_true rfl⟩ rfl hl.1 rfl (Nat.le_of_ble_eq_true rfl) dX8_backsOf_47 ⟨Nat.zero_le _, Nat.zero_le _⟩) (fun r9 σ9 H locs hw hP hS => ?_)
      rw [hw.2] at hP
      rw [hw.1]
      refine lv_if_le (tgt := 58) hx hb dX8_backsOf_50 (by decide) (fun c_11 => ?_) (fun c_11 => ?_)
      · replace h := it_t h c_11
        refine lv_bipush (v := (-4)) hx hb dX8_backsOf_58 (by decide) ?_
        exact r_iret C0 X hP hS hr hlk dX8_backsOf_60 ⟨Option.some.inj h, rfl⟩
      · replace h := it_f h c_11
        refine lv_iload hx hb dX8_backsOf_53 (lv_at hl 0 rfl) ?_
        refine lv_goto (tgt := 60) hx hb dX8_backsOf_55 (by decide) ?_
        exact r_iret C0 X hP hS hr hlk dX8_backsOf_60 ⟨Option.some.inj h, rfl⟩
    · replace h := it_f h c_9
      refine lv_iload hx hb dX8_backsOf_38 (lv_at hl 1 rfl) ?_
      refine lv_goto (tgt := 60) hx hb dX8_backsOf_40 (by decide) ?_
      exact r_iret C0 X hP hS hr hlk dX8_backsOf_60 ⟨Option.some.inj h, rfl⟩
def bB_cX8_backs_ : Nat := 0xb16100b80406101b2a
theorem yB_cX8_backs_ : BYS cX8_backs_ 9 bB_cX8_backs_ := BYS_of (by decide +kernel)
theorem dX8_backs__0 : decode cX8_backs_ 0 = .ok (.aload_n 0, 1) := D_42 yB_cX8_backs_ rfl rfl
theorem dX8_backs__1 : decode cX8_backs_ 1 = .ok (.iload_n 1, 1) := D_27 yB_cX8_backs_ rfl rfl
theorem dX8_backs__2 : decode cX8_backs_ 2 = .ok (.bipush 6, 2) := D_16 yB_cX8_backs_ rfl rfl (sg_p (m := 128) (N := 6) rfl rfl rfl)
theorem dX8_backs__4 : decode cX8_backs_ 4 = .ok (.iconst 1, 1) := D_4 yB_cX8_backs_ rfl rfl
theorem dX8_backs__5 : decode cX8_backs_ 5 = .ok (.invokestatic 97, 3) := D_184 yB_cX8_backs_ rfl rfl rfl
theorem dX8_backs__8 : decode cX8_backs_ 8 = .ok (.return_, 1) := D_177 yB_cX8_backs_ rfl rfl
def F_X8_backs_ (σ : Mem) (a1 : Nat) (x2 : Int32) : Option (Mem) := (F_X8_puts σ a1 x2 6 1).bind fun σ_1 => some σ_1
set_option maxHeartbeats 4000000 in
set_option maxRecDepth 100000 in
theorem c_X8_backs_ (l : Launch) (D : va_G) (cA : Nat → ClassId) (ad : Nat → Nat) (o : Int64) (σ : Mem) (a1 : Nat) (x2 : Int32) (ha1 : a1 < 106 ∧ kd a1 = (9, 121)) (res : Mem) (h : F_X8_backs_ σ a1 x2 = some res) (sz : Nat) : Met l yX8_backs_ (WY yX8_backs_ cX8_backs_ 2 none) (RM 1) (va_Pc [.ref (ad a1), .int x2] (PW D cA ad o σ sz)) (va_Qv (fun σ9 => σ9 = res) (QW D cA ad o) (FA ad sz)) 0 0 (FA ad sz) := by
  refine ct_of (own := RX8) (k := 1) (Qf := va_Qv (fun σ9 => σ9 = res) (QW D cA ad o)) rfl (by decide) (Nat.le_of_ble_eq_true rfl) (fun p e s m below meth c ls C0 X hr hlk hP hl => ?_) sz
  have hS : va_S (FA ad s.heap.size) s.heap s.heap [] := va_S.rf
  have hl : lv_has ls 2 [(0, .ref (ad a1)), (1, .int x2)] := hl
  obtain ⟨hx, hb, hml, hown, hts⟩ := id C0
  unfold F_X8_backs_ at h
  refine lv_aload_n hx hb dX8_backs__0 rfl (lv_at hl 0 rfl) ?_
  refine lv_iload_n hx hb dX8_backs__1 rfl (lv_at hl 1 rfl) ?_
  refine lv_bipush (v := 6) hx hb dX8_backs__2 (by decide) ?_
  refine lv_iconst (v := 1) hx hb dX8_backs__4 (by decide) ?_
  obtain ⟨σ_1, eσ_1, h⟩ := bnd h
  refine r_cv X hS (r_runS (As := [.ref (ad a1), .int x2, .int 6, .int 1]) (rest := []) C0 X hP L_X8_97 (fun sz => c_X8_puts l D cA ad o σ a1 x2 6 1 ha1 σ_1 eσ_1 sz) ⟨Nat.le_of_ble_eq_true rfl, Nat.le_of_ble_eq_true rfl⟩ rfl hl.1 rfl (Nat.le_of_ble_eq_true rfl) dX8_backs__5 ⟨Nat.zero_le _, Nat.zero_le _⟩) (fun σ9 H locs hw hP hS => ?_)
  rw [show σ9 = σ_1 from hw] at hP
  exact r_vret C0 X hP hS hr hlk dX8_backs__8 (Option.some.inj h)
def bB_cX8_goesBack : Nat := 0xb1bcffa7010584b1b500b805152b0a00a706009e8200b8061005152b1800998200b80605152b2200a004158200b80305152b2e00a06404151d8200b80805152b4200a22e042b05150536036100b860048200b809101c2b09101c2bb1b100b5042a6100b80506101c2b6100b860048200b808101c2b08101c2b6100b864048200b8061c2b07101c2b6100b86404151d081c2b3a0099ae00b86404151d2bb16100b80306101c2b0c00a09a00b81c2b1d0c009f058200b806101c2b0e009b9100b81d2b04368200b8031c2b3e8200b8081c2b
theorem yB_cX8_goesBack : BYS cX8_goesBack 209 bB_cX8_goesBack := BYS_of (by decide +kernel)
theorem dX8_goesBack_0 : decode cX8_goesBack 0 = .ok (.aload_n 1, 1) := D_43 yB_cX8_goesBack rfl rfl
theorem dX8_goesBack_1 : decode cX8_goesBack 1 = .ok (.iload_n 2, 1) := D_28 yB_cX8_goesBack rfl rfl
theorem dX8_goesBack_2 : decode cX8_goesBack 2 = .ok (.iconst 5, 1) := D_8 yB_cX8_goesBack rfl rfl
theorem dX8_goesBack_3 : decode cX8_goesBack 3 = .ok (.invokestatic 130, 3) := D_184 yB_cX8_goesBack rfl rfl rfl
theorem dX8_goesBack_6 : decode cX8_goesBack 6 = .ok (.istore_n 3, 1) := D_62 yB_cX8_goesBack rfl rfl
theorem dX8_goesBack_7 : decode cX8_goesBack 7 = .ok (.aload_n 1, 1) := D_43 yB_cX8_goesBack rfl rfl
theorem dX8_goesBack_8 : decode cX8_goesBack 8 = .ok (.iload_n 2, 1) := D_28 yB_cX8_goesBack rfl rfl
theorem dX8_goesBack_9 : decode cX8_goesBack 9 = .ok (.iconst 0, 1) := D_3 yB_cX8_goesBack rfl rfl
theorem dX8_goesBack_10 : decode cX8_goesBack 10 = .ok (.invokestatic 130, 3) := D_184 yB_cX8_goesBack rfl rfl rfl
theorem dX8_goesBack_13 : decode cX8_goesBack 13 = .ok (.istore 4, 2) := D_54 yB_cX8_goesBack rfl rfl rfl
theorem dX8_goesBack_15 : decode cX8_goesBack 15 = .ok (.aload_n 1, 1) := D_43 yB_cX8_goesBack rfl rfl
theorem dX8_goesBack_16 : decode cX8_goesBack 16 = .ok (.iload_n 3, 1) := D_29 yB_cX8_goesBack rfl rfl
theorem dX8_goesBack_17 : decode cX8_goesBack 17 = .ok (.invokestatic 145, 3) := D_184 yB_cX8_goesBack rfl rfl rfl
theorem dX8_goesBack_20 : decode cX8_goesBack 20 = .ok (.ifCond .lt 14, 3) := D_155 yB_cX8_goesBack rfl rfl (sg_p (m := 32768) (N := 14) rfl rfl rfl)
theorem dX8_goesBack_23 : decode cX8_goesBack 23 = .ok (.aload_n 1, 1) := D_43 yB_cX8_goesBack rfl rfl
theorem dX8_goesBack_24 : decode cX8_goesBack 24 = .ok (.iload_n 2, 1) := D_28 yB_cX8_goesBack rfl rfl
theorem dX8_goesBack_25 : decode cX8_goesBack 25 = .ok (.bipush 6, 2) := D_16 yB_cX8_goesBack rfl rfl (sg_p (m := 128) (N := 6) rfl rfl rfl)
theorem dX8_goesBack_27 : decode cX8_goesBack 27 = .ok (.invokestatic 130, 3) := D_184 yB_cX8_goesBack rfl rfl rfl
theorem dX8_goesBack_30 : decode cX8_goesBack 30 = .ok (.iconst 2, 1) := D_5 yB_cX8_goesBack rfl rfl
theorem dX8_goesBack_31 : decode cX8_goesBack 31 = .ok (.if_icmp .eq 12, 3) := D_159 yB_cX8_goesBack rfl rfl (sg_p (m := 32768) (N := 12) rfl rfl rfl)
theorem dX8_goesBack_34 : decode cX8_goesBack 34 = .ok (.iload_n 3, 1) := D_29 yB_cX8_goesBack rfl rfl
theorem dX8_goesBack_35 : decode cX8_goesBack 35 = .ok (.aload_n 1, 1) := D_43 yB_cX8_goesBack rfl rfl
theorem dX8_goesBack_36 : decode cX8_goesBack 36 = .ok (.iload_n 2, 1) := D_28 yB_cX8_goesBack rfl rfl
theorem dX8_goesBack_37 : decode cX8_goesBack 37 = .ok (.invokestatic 154, 3) := D_184 yB_cX8_goesBack rfl rfl rfl
theorem dX8_goesBack_40 : decode cX8_goesBack 40 = .ok (.if_icmp .ne 12, 3) := D_160 yB_cX8_goesBack rfl rfl (sg_p (m := 32768) (N := 12) rfl rfl rfl)
theorem dX8_goesBack_43 : decode cX8_goesBack 43 = .ok (.aload_n 1, 1) := D_43 yB_cX8_goesBack rfl rfl
theorem dX8_goesBack_44 : decode cX8_goesBack 44 = .ok (.iload_n 2, 1) := D_28 yB_cX8_goesBack rfl rfl
theorem dX8_goesBack_45 : decode cX8_goesBack 45 = .ok (.bipush 6, 2) := D_16 yB_cX8_goesBack rfl rfl (sg_p (m := 128) (N := 6) rfl rfl rfl)
theorem dX8_goesBack_47 : decode cX8_goesBack 47 = .ok (.iconst 0, 1) := D_3 yB_cX8_goesBack rfl rfl
theorem dX8_goesBack_48 : decode cX8_goesBack 48 = .ok (.invokestatic 97, 3) := D_184 yB_cX8_goesBack rfl rfl rfl
theorem dX8_goesBack_51 : decode cX8_goesBack 51 = .ok (.return_, 1) := D_177 yB_cX8_goesBack rfl rfl
theorem dX8_goesBack_52 : decode cX8_goesBack 52 = .ok (.aload_n 1, 1) := D_43 yB_cX8_goesBack rfl rfl
theorem dX8_goesBack_53 : decode cX8_goesBack 53 = .ok (.iload_n 3, 1) := D_29 yB_cX8_goesBack rfl rfl
theorem dX8_goesBack_54 : decode cX8_goesBack 54 = .ok (.iload 4, 2) := D_21 yB_cX8_goesBack rfl rfl rfl
theorem dX8_goesBack_56 : decode cX8_goesBack 56 = .ok (.isub, 1) := D_100 yB_cX8_goesBack rfl rfl
theorem dX8_goesBack_57 : decode cX8_goesBack 57 = .ok (.invokestatic 174, 3) := D_184 yB_cX8_goesBack rfl rfl rfl
theorem dX8_goesBack_60 : decode cX8_goesBack 60 = .ok (.ifCond .eq 58, 3) := D_153 yB_cX8_goesBack rfl rfl (sg_p (m := 32768) (N := 58) rfl rfl rfl)
theorem dX8_goesBack_63 : decode cX8_goesBack 63 = .ok (.aload_n 1, 1) := D_43 yB_cX8_goesBack rfl rfl
theorem dX8_goesBack_64 : decode cX8_goesBack 64 = .ok (.iload_n 2, 1) := D_28 yB_cX8_goesBack rfl rfl
theorem dX8_goesBack_65 : decode cX8_goesBack 65 = .ok (.iconst 5, 1) := D_8 yB_cX8_goesBack rfl rfl
theorem dX8_goesBack_66 : decode cX8_goesBack 66 = .ok (.iload_n 3, 1) := D_29 yB_cX8_goesBack rfl rfl
theorem dX8_goesBack_67 : decode cX8_goesBack 67 = .ok (.iload 4, 2) := D_21 yB_cX8_goesBack rfl rfl rfl
theorem dX8_goesBack_69 : decode cX8_goesBack 69 = .ok (.isub, 1) := D_100 yB_cX8_goesBack rfl rfl
theorem dX8_goesBack_70 : decode cX8_goesBack 70 = .ok (.invokestatic 97, 3) := D_184 yB_cX8_goesBack rfl rfl rfl
theorem dX8_goesBack_73 : decode cX8_goesBack 73 = .ok (.aload_n 1, 1) := D_43 yB_cX8_goesBack rfl rfl
theorem dX8_goesBack_74 : decode cX8_goesBack 74 = .ok (.iload_n 2, 1) := D_28 yB_cX8_goesBack rfl rfl
theorem dX8_goesBack_75 : decode cX8_goesBack 75 = .ok (.bipush 7, 2) := D_16 yB_cX8_goesBack rfl rfl (sg_p (m := 128) (N := 7) rfl rfl rfl)
theorem dX8_goesBack_77 : decode cX8_goesBack 77 = .ok (.aload_n 1, 1) := D_43 yB_cX8_goesBack rfl rfl
theorem dX8_goesBack_78 : decode cX8_goesBack 78 = .ok (.iload_n 2, 1) := D_28 yB_cX8_goesBack rfl rfl
theorem dX8_goesBack_79 : decode cX8_goesBack 79 = .ok (.iconst 3, 1) := D_6 yB_cX8_goesBack rfl rfl
theorem dX8_goesBack_80 : decode cX8_goesBack 80 = .ok (.invokestatic 130, 3) := D_184 yB_cX8_goesBack rfl rfl rfl
theorem dX8_goesBack_83 : decode cX8_goesBack 83 = .ok (.iconst 1, 1) := D_4 yB_cX8_goesBack rfl rfl
theorem dX8_goesBack_84 : decode cX8_goesBack 84 = .ok (.isub, 1) := D_100 yB_cX8_goesBack rfl rfl
theorem dX8_goesBack_85 : decode cX8_goesBack 85 = .ok (.invokestatic 97, 3) := D_184 yB_cX8_goesBack rfl rfl rfl
theorem dX8_goesBack_88 : decode cX8_goesBack 88 = .ok (.aload_n 1, 1) := D_43 yB_cX8_goesBack rfl rfl
theorem dX8_goesBack_89 : decode cX8_goesBack 89 = .ok (.iload_n 2, 1) := D_28 yB_cX8_goesBack rfl rfl
theorem dX8_goesBack_90 : decode cX8_goesBack 90 = .ok (.bipush 8, 2) := D_16 yB_cX8_goesBack rfl rfl (sg_p (m := 128) (N := 8) rfl rfl rfl)
theorem dX8_goesBack_92 : decode cX8_goesBack 92 = .ok (.aload_n 1, 1) := D_43 yB_cX8_goesBack rfl rfl
theorem dX8_goesBack_93 : decode cX8_goesBack 93 = .ok (.iload_n 2, 1) := D_28 yB_cX8_goesBack rfl rfl
theorem dX8_goesBack_94 : decode cX8_goesBack 94 = .ok (.bipush 8, 2) := D_16 yB_cX8_goesBack rfl rfl (sg_p (m := 128) (N := 8) rfl rfl rfl)
theorem dX8_goesBack_96 : decode cX8_goesBack 96 = .ok (.invokestatic 130, 3) := D_184 yB_cX8_goesBack rfl rfl rfl
theorem dX8_goesBack_99 : decode cX8_goesBack 99 = .ok (.iconst 1, 1) := D_4 yB_cX8_goesBack rfl rfl
theorem dX8_goesBack_100 : decode cX8_goesBack 100 = .ok (.iadd, 1) := D_96 yB_cX8_goesBack rfl rfl
theorem dX8_goesBack_101 : decode cX8_goesBack 101 = .ok (.invokestatic 97, 3) := D_184 yB_cX8_goesBack rfl rfl rfl
theorem dX8_goesBack_104 : decode cX8_goesBack 104 = .ok (.aload_n 1, 1) := D_43 yB_cX8_goesBack rfl rfl
theorem dX8_goesBack_105 : decode cX8_goesBack 105 = .ok (.iload_n 2, 1) := D_28 yB_cX8_goesBack rfl rfl
theorem dX8_goesBack_106 : decode cX8_goesBack 106 = .ok (.bipush 6, 2) := D_16 yB_cX8_goesBack rfl rfl (sg_p (m := 128) (N := 6) rfl rfl rfl)
theorem dX8_goesBack_108 : decode cX8_goesBack 108 = .ok (.iconst 2, 1) := D_5 yB_cX8_goesBack rfl rfl
theorem dX8_goesBack_109 : decode cX8_goesBack 109 = .ok (.invokestatic 97, 3) := D_184 yB_cX8_goesBack rfl rfl rfl
theorem dX8_goesBack_112 : decode cX8_goesBack 112 = .ok (.aload_n 0, 1) := D_42 yB_cX8_goesBack rfl rfl
theorem dX8_goesBack_113 : decode cX8_goesBack 113 = .ok (.iconst 1, 1) := D_4 yB_cX8_goesBack rfl rfl
theorem dX8_goesBack_114 : decode cX8_goesBack 114 = .ok (.putfield 177, 3) := D_181 yB_cX8_goesBack rfl rfl rfl
theorem dX8_goesBack_117 : decode cX8_goesBack 117 = .ok (.return_, 1) := D_177 yB_cX8_goesBack rfl rfl
theorem dX8_goesBack_118 : decode cX8_goesBack 118 = .ok (.aload_n 1, 1) := D_43 yB_cX8_goesBack rfl rfl
theorem dX8_goesBack_119 : decode cX8_goesBack 119 = .ok (.iload_n 2, 1) := D_28 yB_cX8_goesBack rfl rfl
theorem dX8_goesBack_120 : decode cX8_goesBack 120 = .ok (.bipush 9, 2) := D_16 yB_cX8_goesBack rfl rfl (sg_p (m := 128) (N := 9) rfl rfl rfl)
theorem dX8_goesBack_122 : decode cX8_goesBack 122 = .ok (.aload_n 1, 1) := D_43 yB_cX8_goesBack rfl rfl
theorem dX8_goesBack_123 : decode cX8_goesBack 123 = .ok (.iload_n 2, 1) := D_28 yB_cX8_goesBack rfl rfl
theorem dX8_goesBack_124 : decode cX8_goesBack 124 = .ok (.bipush 9, 2) := D_16 yB_cX8_goesBack rfl rfl (sg_p (m := 128) (N := 9) rfl rfl rfl)
theorem dX8_goesBack_126 : decode cX8_goesBack 126 = .ok (.invokestatic 130, 3) := D_184 yB_cX8_goesBack rfl rfl rfl
theorem dX8_goesBack_129 : decode cX8_goesBack 129 = .ok (.iconst 1, 1) := D_4 yB_cX8_goesBack rfl rfl
theorem dX8_goesBack_130 : decode cX8_goesBack 130 = .ok (.iadd, 1) := D_96 yB_cX8_goesBack rfl rfl
theorem dX8_goesBack_131 : decode cX8_goesBack 131 = .ok (.invokestatic 97, 3) := D_184 yB_cX8_goesBack rfl rfl rfl
theorem dX8_goesBack_134 : decode cX8_goesBack 134 = .ok (.iconst 0, 1) := D_3 yB_cX8_goesBack rfl rfl
theorem dX8_goesBack_135 : decode cX8_goesBack 135 = .ok (.istore 5, 2) := D_54 yB_cX8_goesBack rfl rfl rfl
theorem dX8_goesBack_137 : decode cX8_goesBack 137 = .ok (.iload 5, 2) := D_21 yB_cX8_goesBack rfl rfl rfl
theorem dX8_goesBack_139 : decode cX8_goesBack 139 = .ok (.aload_n 1, 1) := D_43 yB_cX8_goesBack rfl rfl
theorem dX8_goesBack_140 : decode cX8_goesBack 140 = .ok (.iconst 1, 1) := D_4 yB_cX8_goesBack rfl rfl
theorem dX8_goesBack_141 : decode cX8_goesBack 141 = .ok (.iaload, 1) := D_46 yB_cX8_goesBack rfl rfl
theorem dX8_goesBack_142 : decode cX8_goesBack 142 = .ok (.if_icmp .ge 66, 3) := D_162 yB_cX8_goesBack rfl rfl (sg_p (m := 32768) (N := 66) rfl rfl rfl)
theorem dX8_goesBack_145 : decode cX8_goesBack 145 = .ok (.aload_n 1, 1) := D_43 yB_cX8_goesBack rfl rfl
theorem dX8_goesBack_146 : decode cX8_goesBack 146 = .ok (.iload 5, 2) := D_21 yB_cX8_goesBack rfl rfl rfl
theorem dX8_goesBack_148 : decode cX8_goesBack 148 = .ok (.iconst 5, 1) := D_8 yB_cX8_goesBack rfl rfl
theorem dX8_goesBack_149 : decode cX8_goesBack 149 = .ok (.invokestatic 130, 3) := D_184 yB_cX8_goesBack rfl rfl rfl
theorem dX8_goesBack_152 : decode cX8_goesBack 152 = .ok (.iload_n 3, 1) := D_29 yB_cX8_goesBack rfl rfl
theorem dX8_goesBack_153 : decode cX8_goesBack 153 = .ok (.iload 4, 2) := D_21 yB_cX8_goesBack rfl rfl rfl
theorem dX8_goesBack_155 : decode cX8_goesBack 155 = .ok (.isub, 1) := D_100 yB_cX8_goesBack rfl rfl
theorem dX8_goesBack_156 : decode cX8_goesBack 156 = .ok (.if_icmp .ne 46, 3) := D_160 yB_cX8_goesBack rfl rfl (sg_p (m := 32768) (N := 46) rfl rfl rfl)
theorem dX8_goesBack_159 : decode cX8_goesBack 159 = .ok (.aload_n 1, 1) := D_43 yB_cX8_goesBack rfl rfl
theorem dX8_goesBack_160 : decode cX8_goesBack 160 = .ok (.iload 5, 2) := D_21 yB_cX8_goesBack rfl rfl rfl
theorem dX8_goesBack_162 : decode cX8_goesBack 162 = .ok (.iconst 0, 1) := D_3 yB_cX8_goesBack rfl rfl
theorem dX8_goesBack_163 : decode cX8_goesBack 163 = .ok (.invokestatic 130, 3) := D_184 yB_cX8_goesBack rfl rfl rfl
theorem dX8_goesBack_166 : decode cX8_goesBack 166 = .ok (.iload 4, 2) := D_21 yB_cX8_goesBack rfl rfl rfl
theorem dX8_goesBack_168 : decode cX8_goesBack 168 = .ok (.if_icmp .ne 34, 3) := D_160 yB_cX8_goesBack rfl rfl (sg_p (m := 32768) (N := 34) rfl rfl rfl)
theorem dX8_goesBack_171 : decode cX8_goesBack 171 = .ok (.aload_n 1, 1) := D_43 yB_cX8_goesBack rfl rfl
theorem dX8_goesBack_172 : decode cX8_goesBack 172 = .ok (.iload 5, 2) := D_21 yB_cX8_goesBack rfl rfl rfl
theorem dX8_goesBack_174 : decode cX8_goesBack 174 = .ok (.iconst 3, 1) := D_6 yB_cX8_goesBack rfl rfl
theorem dX8_goesBack_175 : decode cX8_goesBack 175 = .ok (.invokestatic 130, 3) := D_184 yB_cX8_goesBack rfl rfl rfl
theorem dX8_goesBack_178 : decode cX8_goesBack 178 = .ok (.ifCond .eq 24, 3) := D_153 yB_cX8_goesBack rfl rfl (sg_p (m := 32768) (N := 24) rfl rfl rfl)
theorem dX8_goesBack_181 : decode cX8_goesBack 181 = .ok (.aload_n 1, 1) := D_43 yB_cX8_goesBack rfl rfl
theorem dX8_goesBack_182 : decode cX8_goesBack 182 = .ok (.iload 5, 2) := D_21 yB_cX8_goesBack rfl rfl rfl
theorem dX8_goesBack_184 : decode cX8_goesBack 184 = .ok (.bipush 6, 2) := D_16 yB_cX8_goesBack rfl rfl (sg_p (m := 128) (N := 6) rfl rfl rfl)
theorem dX8_goesBack_186 : decode cX8_goesBack 186 = .ok (.invokestatic 130, 3) := D_184 yB_cX8_goesBack rfl rfl rfl
theorem dX8_goesBack_189 : decode cX8_goesBack 189 = .ok (.ifCond .le 6, 3) := D_158 yB_cX8_goesBack rfl rfl (sg_p (m := 32768) (N := 6) rfl rfl rfl)
theorem dX8_goesBack_192 : decode cX8_goesBack 192 = .ok (.goto 10, 3) := D_167 yB_cX8_goesBack rfl rfl (sg_p (m := 32768) (N := 10) rfl rfl rfl)
theorem dX8_goesBack_195 : decode cX8_goesBack 195 = .ok (.aload_n 1, 1) := D_43 yB_cX8_goesBack rfl rfl
theorem dX8_goesBack_196 : decode cX8_goesBack 196 = .ok (.iload 5, 2) := D_21 yB_cX8_goesBack rfl rfl rfl
theorem dX8_goesBack_198 : decode cX8_goesBack 198 = .ok (.invokestatic 181, 3) := D_184 yB_cX8_goesBack rfl rfl rfl
theorem dX8_goesBack_201 : decode cX8_goesBack 201 = .ok (.return_, 1) := D_177 yB_cX8_goesBack rfl rfl
theorem dX8_goesBack_202 : decode cX8_goesBack 202 = .ok (.iinc 5 1, 3) := D_132 yB_cX8_goesBack rfl rfl rfl (sg_p (m := 128) (N := 1) rfl rfl rfl)
theorem dX8_goesBack_205 : decode cX8_goesBack 205 = .ok (.goto (-68), 3) := D_167 yB_cX8_goesBack rfl rfl (sg_n (m := 32768) (N := 68) rfl rfl rfl)
theorem dX8_goesBack_208 : decode cX8_goesBack 208 = .ok (.return_, 1) := D_177 yB_cX8_goesBack rfl rfl
def F_X8_goesBack_137 (a1 : Nat) (x2 : Int32)  : Nat → Mem → Int32 → Int32 → Int32 → Option (Mem)
  | 0, _, _, _, _ => none
  | nn + 1, σ, v5, v4, v3 => if (σ a1 1) ≤ v5 then (some σ) else ((F_X8_get σ a1 v5 5).bind fun r_13 => if r_13 = (v3 - v4) then ((F_X8_get σ a1 v5 0).bind fun r_15 => if r_15 = v4 then ((F_X8_get σ a1 v5 3).bind fun r_17 => if r_17 = 0 then (F_X8_goesBack_137 a1 x2 nn σ (v5 + 1) v4 v3) else ((F_X8_get σ a1 v5 6).bind fun r_19 => if r_19 ≤ 0 then ((F_X8_backs_ σ a1 v5).bind fun σ_21 => some σ_21) else (F_X8_goesBack_137 a1 x2 nn σ (v5 + 1) v4 v3))) else (F_X8_goesBack_137 a1 x2 nn σ (v5 + 1) v4 v3)) else (F_X8_goesBack_137 a1 x2 nn σ (v5 + 1) v4 v3))
def F_X8_goesBack_137b (a1 : Nat) (x2 : Int32)  : Nat → Mem → Int32 → Int32 → Int32 → Option (Mem)
  | 0, _, _, _, _ => none
  | nn + 1, σ, v5, v4, v3 => if (σ a1 1) ≤ v5 then (some σ) else ((F_X8_get σ a1 v5 5).bind fun r_40 => if r_40 = (v3 - v4) then ((F_X8_get σ a1 v5 0).bind fun r_42 => if r_42 = v4 then ((F_X8_get σ a1 v5 3).bind fun r_44 => if r_44 = 0 then (F_X8_goesBack_137b a1 x2 nn σ (v5 + 1) v4 v3) else ((F_X8_get σ a1 v5 6).bind fun r_46 => if r_46 ≤ 0 then ((F_X8_backs_ σ a1 v5).bind fun σ_48 => some σ_48) else (F_X8_goesBack_137b a1 x2 nn σ (v5 + 1) v4 v3))) else (F_X8_goesBack_137b a1 x2 nn σ (v5 + 1) v4 v3)) else (F_X8_goesBack_137b a1 x2 nn σ (v5 + 1) v4 v3))
def F_X8_goesBack (σ : Mem) (a1 : Nat) (x2 : Int32) : Option (Mem) := (F_X8_get σ a1 x2 5).bind fun r_1 => (F_X8_get σ a1 x2 0).bind fun r_2 => (F_X8_placeAt σ a1 r_1).bind fun r_3 => if r_3 < 0 then ((F_X8_origin σ a1 x2).bind fun r_5 => if r_1 = r_5 then ((F_X8_puts σ a1 x2 6 0).bind fun σ_28 => some σ_28) else ((F_X8_hasRoom σ a1 (r_1 - r_2)).bind fun r_7 => if r_7 = 0 then ((F_X8_get σ a1 x2 9).bind fun r_9 => (F_X8_puts σ a1 x2 9 (r_9 + 1)).bind fun σ_10 => F_X8_goesBack_137 a1 x2 FU σ_10 0 r_2 r_1) else ((F_X8_puts σ a1 x2 5 (r_1 - r_2)).bind fun σ_22 => (F_X8_get σ_22 a1 x2 3).bind fun r_23 => (F_X8_puts σ_22 a1 x2 7 (r_23 - 1)).bind fun σ_24 => (F_X8_get σ_24 a1 x2 8).bind fun r_25 => (F_X8_puts σ_24 a1 x2 8 (r_25 + 1)).bind fun σ_26 => (F_X8_puts σ_26 a1 x2 6 2).bind fun σ_27 => some (stm σ_27 91 20 1)))) else ((F_X8_get σ a1 x2 6).bind fun r_29 => if r_29 = 2 then ((F_X8_puts σ a1 x2 6 0).bind fun σ_31 => some σ_31) else ((F_X8_origin σ a1 x2).bind fun r_32 => if r_1 = r_32 then ((F_X8_puts σ a1 x2 6 0).bind fun σ_55 => some σ_55) else ((F_X8_hasRoom σ a1 (r_1 - r_2)).bind fun r_34 => if r_34 = 0 then ((F_X8_get σ a1 x2 9).bind fun r_36 => (F_X8_puts σ a1 x2 9 (r_36 + 1)).bind fun σ_37 => F_X8_goesBack_137b a1 x2 FU σ_37 0 r_2 r_1) else ((F_X8_puts σ a1 x2 5 (r_1 - r_2)).bind fun σ_49 => (F_X8_get σ_49 a1 x2 3).bind fun r_50 => (F_X8_puts σ_49 a1 x2 7 (r_50 - 1)).bind fun σ_51 => (F_X8_get σ_51 a1 x2 8).bind fun r_52 => (F_X8_puts σ_51 a1 x2 8 (r_52 + 1)).bind fun σ_53 => (F_X8_puts σ_53 a1 x2 6 2).bind fun σ_54 => some (stm σ_54 91 20 1)))))
set_option maxHeartbeats 4000000 in
set_option maxRecDepth 100000 in
theorem c_X8_goesBack (l : Launch) (D : va_G) (cA : Nat → ClassId) (ad : Nat → Nat) (o : Int64) (σ : Mem) (a1 : Nat) (x2 : Int32) (ha1 : a1 < 106 ∧ kd a1 = (9, 121)) (res : Mem) (h : F_X8_goesBack σ a1 x2 = some res) (sz : Nat) : Met l yX8_goesBack (WY yX8_goesBack cX8_goesBack 6 none) (RM 3) (va_Pc [.ref (ad 91), .ref (ad a1), .int x2] (PW D cA ad o σ sz)) (va_Qv (fun σ9 => σ9 = res) (QW D cA ad o) (FA ad sz)) 0 0 (FA ad sz) := by
  refine ct_of (own := RX8) (k := 3) (Qf := va_Qv (fun σ9 => σ9 = res) (QW D cA ad o)) rfl (by decide) (Nat.le_of_ble_eq_true rfl) (fun p e s m below meth c ls C0 X hr hlk hP hl => ?_) sz
  have hS : va_S (FA ad s.heap.size) s.heap s.heap [] := va_S.rf
  have hl : lv_has ls 6 [(0, .ref (ad 91)), (1, .ref (ad a1)), (2, .int x2)] := hl
  obtain ⟨hx, hb, hml, hown, hts⟩ := id C0
  unfold F_X8_goesBack at h
  refine lv_aload_n hx hb dX8_goesBack_0 rfl (lv_at hl 1 rfl) ?_
  refine lv_iload_n hx hb dX8_goesBack_1 rfl (lv_at hl 2 rfl) ?_
  refine lv_iconst (v := 5) hx hb dX8_goesBack_2 (by decide) ?_
  obtain ⟨r_1, er_1, h⟩ := bnd h
  refine r_ci X hS (r_runS (As := [.ref (ad a1), .int x2, .int 5]) (rest := []) C0 X hP L_X8_130 (fun sz => c_X8_get l D cA ad o σ a1 x2 5 ha1 r_1 er_1 sz) ⟨Nat.le_of_ble_eq_true rfl, Nat.le_of_ble_eq_true rfl⟩ rfl hl.1 rfl (Nat.le_of_ble_eq_true rfl) dX8_goesBack_3 ⟨Nat.zero_le _, Nat.zero_le _⟩) (fun r9 σ9 H locs hw hP hS => ?_)
  rw [hw.2] at hP
  rw [hw.1]
  refine lv_istore_n (lv' := [(3, .int r_1), (0, .ref (ad 91)), (1, .ref (ad a1)), (2, .int x2)]) hx hb dX8_goesBack_6 rfl hl (by decide) rfl (fun ls hl => ?_)
  refine lv_aload_n hx hb dX8_goesBack_7 rfl (lv_at hl 2 rfl) ?_
  refine lv_iload_n hx hb dX8_goesBack_8 rfl (lv_at hl 3 rfl) ?_
  refine lv_iconst (v := 0) hx hb dX8_goesBack_9 (by decide) ?_
  obtain ⟨r_2, er_2, h⟩ := bnd h
  refine r_ci X hS (r_runS (As := [.ref (ad a1), .int x2, .int 0]) (rest := []) C0 X hP L_X8_130 (fun sz => c_X8_get l D cA ad o σ a1 x2 0 ha1 r_2 er_2 sz) ⟨Nat.le_of_ble_eq_true rfl, Nat.le_of_ble_eq_true rfl⟩ rfl hl.1 rfl (Nat.le_of_ble_eq_true rfl) dX8_goesBack_10 ⟨Nat.zero_le _, Nat.zero_le _⟩) (fun r9 σ9 H locs hw hP hS => ?_)
  rw [hw.2] at hP
  rw [hw.1]
  refine lv_istore (lv' := [(4, .int r_2), (3, .int r_1), (0, .ref (ad 91)), (1, .ref (ad a1)), (2, .int x2)]) hx hb dX8_goesBack_13 hl (by decide) rfl (fun ls hl => ?_)
  refine lv_aload_n hx hb dX8_goesBack_15 rfl (lv_at hl 3 rfl) ?_
  refine lv_iload_n hx hb dX8_goesBack_16 rfl (lv_at hl 1 rfl) ?_
  obtain ⟨r_3, er_3, h⟩ := bnd h
  refine r_ci X hS (r_runS (As := [.ref (ad a1), .int r_1]) (rest := []) C0 X hP L_X8_145 (fun sz => c_X8_placeAt l D cA ad o σ a1 r_1 ha1 r_3 er_3 sz) ⟨Nat.le_of_ble_eq_true rfl, Nat.le_of_ble_eq_true rfl⟩ rfl hl.1 rfl (Nat.le_of_ble_eq_true rfl) dX8_goesBack_17 ⟨Nat.zero_le _, Nat.zero_le _⟩) (fun r9 σ9 H locs hw hP hS => ?_)
  rw [hw.2] at hP
  rw [hw.1]
  refine lv_if_lt (tgt := 34) hx hb dX8_goesBack_20 (by decide) (fun c_4 => ?_) (fun c_4 => ?_)
  · replace h := it_t h c_4
    refine lv_iload_n hx hb dX8_goesBack_34 rfl (lv_at hl 1 rfl) ?_
    refine lv_aload_n hx hb dX8_goesBack_35 rfl (lv_at hl 3 rfl) ?_
    refine lv_iload_n hx hb dX8_goesBack_36 rfl (lv_at hl 4 rfl) ?_
    obtain ⟨r_5, er_5, h⟩ := bnd h
    refine r_ci X hS (r_runS (As := [.ref (ad a1), .int x2]) (rest := [.int r_1]) C0 X hP L_X8_154 (fun sz => c_X8_origin l D cA ad o σ a1 x2 ha1 r_5 er_5 sz) ⟨Nat.le_of_ble_eq_true rfl, Nat.le_of_ble_eq_true rfl⟩ rfl hl.1 rfl (Nat.le_of_ble_eq_true rfl) dX8_goesBack_37 ⟨Nat.zero_le _, Nat.zero_le _⟩) (fun r9 σ9 H locs hw hP hS => ?_)
    rw [hw.2] at hP
    rw [hw.1]
    refine lv_icmp_ne (tgt := 52) hx hb dX8_goesBack_40 (by decide) (fun c_6 => ?_) (fun c_6 => ?_)
    · replace h := it_f h c_6
      refine lv_aload_n hx hb dX8_goesBack_52 rfl (lv_at hl 3 rfl) ?_
      refine lv_iload_n hx hb dX8_goesBack_53 rfl (lv_at hl 1 rfl) ?_
      refine lv_iload hx hb dX8_goesBack_54 (lv_at hl 0 rfl) ?_
      refine lv_isub hx hb dX8_goesBack_56 ?_
      obtain ⟨r_7, er_7, h⟩ := bnd h
      refine r_ci X hS (r_runS (As := [.ref (ad a1), .int (r_1 - r_2)]) (rest := []) C0 X hP L_X8_174 (fun sz => c_X8_hasRoom l D cA ad o σ a1 (r_1 - r_2) ha1 r_7 er_7 sz) ⟨Nat.le_of_ble_eq_true rfl, Nat.le_of_ble_eq_true rfl⟩ rfl hl.1 rfl (Nat.le_of_ble_eq_true rfl) dX8_goesBack_57 ⟨Nat.zero_le _, Nat.zero_le _⟩) (fun r9 σ9 H locs hw hP hS => ?_)
      rw [hw.2] at hP
      rw [hw.1]
      refine lv_if_eq (tgt := 118) hx hb dX8_goesBack_60 (by decide) (fun c_8 => ?_) (fun c_8 => ?_)
      · replace h := it_t h c_8
        refine lv_aload_n hx hb dX8_goesBack_118 rfl (lv_at hl 3 rfl) ?_
        refine lv_iload_n hx hb dX8_goesBack_119 rfl (lv_at hl 4 rfl) ?_
        refine lv_bipush (v := 9) hx hb dX8_goesBack_120 (by decide) ?_
        refine lv_aload_n hx hb dX8_goesBack_122 rfl (lv_at hl 3 rfl) ?_
        refine lv_iload_n hx hb dX8_goesBack_123 rfl (lv_at hl 4 rfl) ?_
        refine lv_bipush (v := 9) hx hb dX8_goesBack_124 (by decide) ?_
        obtain ⟨r_9, er_9, h⟩ := bnd h
        refine r_ci X hS (r_runS (As := [.ref (ad a1), .int x2, .int 9]) (rest := [.int 9, .int x2, .ref (ad a1)]) C0 X hP L_X8_130 (fun sz => c_X8_get l D cA ad o σ a1 x2 9 ha1 r_9 er_9 sz) ⟨Nat.le_of_ble_eq_true rfl, Nat.le_of_ble_eq_true rfl⟩ rfl hl.1 rfl (Nat.le_of_ble_eq_true rfl) dX8_goesBack_126 ⟨Nat.zero_le _, Nat.zero_le _⟩) (fun r9 σ9 H locs hw hP hS => ?_)
        rw [hw.2] at hP
        rw [hw.1]
        refine lv_iconst (v := 1) hx hb dX8_goesBack_129 (by decide) ?_
        refine lv_iadd hx hb dX8_goesBack_130 ?_
        obtain ⟨σ_10, eσ_10, h⟩ := bnd h
        refine r_cv X hS (r_runS (As := [.ref (ad a1), .int x2, .int 9, .int (r_9 + 1)]) (rest := []) C0 X hP L_X8_97 (fun sz => c_X8_puts l D cA ad o σ a1 x2 9 (r_9 + 1) ha1 σ_10 eσ_10 sz) ⟨Nat.le_of_ble_eq_true rfl, Nat.le_of_ble_eq_true rfl⟩ rfl hl.1 rfl (Nat.le_of_ble_eq_true rfl) dX8_goesBack_131 ⟨Nat.zero_le _, Nat.zero_le _⟩) (fun σ9 H locs hw hP hS => ?_)
        rw [show σ9 = σ_10 from hw] at hP
        refine lv_iconst (v := 0) hx hb dX8_goesBack_134 (by decide) ?_
        refine lv_istore (lv' := [(5, .int 0), (4, .int r_2), (3, .int r_1), (0, .ref (ad 91)), (1, .ref (ad a1)), (2, .int x2)]) hx hb dX8_goesBack_135 hl (by decide) rfl (fun ls hl => ?_)
        have lp_11 : ∀ (nn137 : Nat) (σ : Mem) (v5 : Int32) (v4 : Int32) (v3 : Int32) (H : Heap) (locs : List Loc) (ls : Array Slot), F_X8_goesBack_137 a1 x2 nn137 σ v5 v4 v3 = some res → WP D cA ad o σ H → va_S (FA ad s.heap.size) s.heap H locs → lv_has ls 6 [(5, .int v5), (4, .int v4), (3, .int v3), (0, .ref (ad 91)), (1, .ref (ad a1)), (2, .int x2)] → W p l e (RM 3) s m ([.ref (ad 91), .ref (ad a1), .int x2] : List Value).toArray below meth c H locs 0 0 (MQ below (va_Qv (fun σ9 => σ9 = res) (QW D cA ad o) (FA ad s.heap.size)) ([.ref (ad 91), .ref (ad a1), .int x2] : List Value).toArray s 0 0 (FA ad s.heap.size)) (F0 m 137 ls []) := by
          intro nn137
          induction nn137 with
          | zero => intro σ v5 v4 v3 H locs ls h hP hS hl; exact absurd (show none = some res from h) nofun
          | succ nn137 ih137 =>
            intro σ v5 v4 v3 H locs ls h hP hS hl
            replace h := (F_X8_goesBack_137.eq_2 _ _ _ _ _ _ _).symm.trans h
            refine lv_iload hx hb dX8_goesBack_137 (lv_at hl 0 rfl) ?_
            refine lv_aload_n hx hb dX8_goesBack_139 rfl (lv_at hl 4 rfl) ?_
            refine lv_iconst (v := 1) hx hb dX8_goesBack_140 (by decide) ?_
            refine r_ialdN C0 X hP a1 (k := 1) ha1 rfl (by decide) dX8_goesBack_141 ?_
            refine lv_icmp_ge (tgt := 208) hx hb dX8_goesBack_142 (by decide) (fun c_12 => ?_) (fun c_12 => ?_)
            · replace h := it_t h c_12
              exact r_vret C0 X hP hS hr hlk dX8_goesBack_208 (Option.some.inj h)
            · replace h := it_f h c_12
              refine lv_aload_n hx hb dX8_goesBack_145 rfl (lv_at hl 4 rfl) ?_
              refine lv_iload hx hb dX8_goesBack_146 (lv_at hl 0 rfl) ?_
              refine lv_iconst (v := 5) hx hb dX8_goesBack_148 (by decide) ?_
              obtain ⟨r_13, er_13, h⟩ := bnd h
              refine r_ci X hS (r_runS (As := [.ref (ad a1), .int v5, .int 5]) (rest := []) C0 X hP L_X8_130 (fun sz => c_X8_get l D cA ad o σ a1 v5 5 ha1 r_13 er_13 sz) ⟨Nat.le_of_ble_eq_true rfl, Nat.le_of_ble_eq_true rfl⟩ rfl hl.1 rfl (Nat.le_of_ble_eq_true rfl) dX8_goesBack_149 ⟨Nat.zero_le _, Nat.zero_le _⟩) (fun r9 σ9 H locs hw hP hS => ?_)
              rw [hw.2] at hP
              rw [hw.1]
              refine lv_iload_n hx hb dX8_goesBack_152 rfl (lv_at hl 2 rfl) ?_
              refine lv_iload hx hb dX8_goesBack_153 (lv_at hl 1 rfl) ?_
              refine lv_isub hx hb dX8_goesBack_155 ?_
              refine lv_icmp_ne (tgt := 202) hx hb dX8_goesBack_156 (by decide) (fun c_14 => ?_) (fun c_14 => ?_)
              · replace h := it_f h c_14
                refine lv_iinc (v := (v5 + 1)) (lv' := [(5, .int (v5 + 1)), (4, .int v4), (3, .int v3), (0, .ref (ad 91)), (1, .ref (ad a1)), (2, .int x2)]) hx hb dX8_goesBack_202 hl (k := 0) rfl rfl (by decide) rfl (fun ls hl => ?_)
                refine lv_goto (tgt := 137) hx hb dX8_goesBack_205 (by decide) ?_
                exact ih137 σ (v5 + 1) v4 v3 _ _ ls  h hP hS (lv_sub hl [0, 1, 2, 3, 4, 5] rfl)
              · replace h := it_t h c_14
                refine lv_aload_n hx hb dX8_goesBack_159 rfl (lv_at hl 4 rfl) ?_
                refine lv_iload hx hb dX8_goesBack_160 (lv_at hl 0 rfl) ?_
                refine lv_iconst (v := 0) hx hb dX8_goesBack_162 (by decide) ?_
                obtain ⟨r_15, er_15, h⟩ := bnd h
                refine r_ci X hS (r_runS (As := [.ref (ad a1), .int v5, .int 0]) (rest := []) C0 X hP L_X8_130 (fun sz => c_X8_get l D cA ad o σ a1 v5 0 ha1 r_15 er_15 sz) ⟨Nat.le_of_ble_eq_true rfl, Nat.le_of_ble_eq_true rfl⟩ rfl hl.1 rfl (Nat.le_of_ble_eq_true rfl) dX8_goesBack_163 ⟨Nat.zero_le _, Nat.zero_le _⟩) (fun r9 σ9 H locs hw hP hS => ?_)
                rw [hw.2] at hP
                rw [hw.1]
                refine lv_iload hx hb dX8_goesBack_166 (lv_at hl 1 rfl) ?_
                refine lv_icmp_ne (tgt := 202) hx hb dX8_goesBack_168 (by decide) (fun c_16 => ?_) (fun c_16 => ?_)
                · replace h := it_f h c_16
                  refine lv_iinc (v := (v5 + 1)) (lv' := [(5, .int (v5 + 1)), (4, .int v4), (3, .int v3), (0, .ref (ad 91)), (1, .ref (ad a1)), (2, .int x2)]) hx hb dX8_goesBack_202 hl (k := 0) rfl rfl (by decide) rfl (fun ls hl => ?_)
                  refine lv_goto (tgt := 137) hx hb dX8_goesBack_205 (by decide) ?_
                  exact ih137 σ (v5 + 1) v4 v3 _ _ ls  h hP hS (lv_sub hl [0, 1, 2, 3, 4, 5] rfl)
                · replace h := it_t h c_16
                  refine lv_aload_n hx hb dX8_goesBack_171 rfl (lv_at hl 4 rfl) ?_
                  refine lv_iload hx hb dX8_goesBack_172 (lv_at hl 0 rfl) ?_
                  refine lv_iconst (v := 3) hx hb dX8_goesBack_174 (by decide) ?_
                  obtain ⟨r_17, er_17, h⟩ := bnd h
                  refine r_ci X hS (r_runS (As := [.ref (ad a1), .int v5, .int 3]) (rest := []) C0 X hP L_X8_130 (fun sz => c_X8_get l D cA ad o σ a1 v5 3 ha1 r_17 er_17 sz) ⟨Nat.le_of_ble_eq_true rfl, Nat.le_of_ble_eq_true rfl⟩ rfl hl.1 rfl (Nat.le_of_ble_eq_true rfl) dX8_goesBack_175 ⟨Nat.zero_le _, Nat.zero_le _⟩) (fun r9 σ9 H locs hw hP hS => ?_)
                  rw [hw.2] at hP
                  rw [hw.1]
                  refine lv_if_eq (tgt := 202) hx hb dX8_goesBack_178 (by decide) (fun c_18 => ?_) (fun c_18 => ?_)
                  · replace h := it_t h c_18
                    refine lv_iinc (v := (v5 + 1)) (lv' := [(5, .int (v5 + 1)), (4, .int v4), (3, .int v3), (0, .ref (ad 91)), (1, .ref (ad a1)), (2, .int x2)]) hx hb dX8_goesBack_202 hl (k := 0) rfl rfl (by decide) rfl (fun ls hl => ?_)
                    refine lv_goto (tgt := 137) hx hb dX8_goesBack_205 (by decide) ?_
                    exact ih137 σ (v5 + 1) v4 v3 _ _ ls  h hP hS (lv_sub hl [0, 1, 2, 3, 4, 5] rfl)
                  · replace h := it_f h c_18
                    refine lv_aload_n hx hb dX8_goesBack_181 rfl (lv_at hl 4 rfl) ?_
                    refine lv_iload hx hb dX8_goesBack_182 (lv_at hl 0 rfl) ?_
                    refine lv_bipush (v := 6) hx hb dX8_goesBack_184 (by decide) ?_
                    obtain ⟨r_19, er_19, h⟩ := bnd h
                    refine r_ci X hS (r_runS (As := [.ref (ad a1), .int v5, .int 6]) (rest := []) C0 X hP L_X8_130 (fun sz => c_X8_get l D cA ad o σ a1 v5 6 ha1 r_19 er_19 sz) ⟨Nat.le_of_ble_eq_true rfl, Nat.le_of_ble_eq_true rfl⟩ rfl hl.1 rfl (Nat.le_of_ble_eq_true rfl) dX8_goesBack_186 ⟨Nat.zero_le _, Nat.zero_le _⟩) (fun r9 σ9 H locs hw hP hS => ?_)
                    rw [hw.2] at hP
                    rw [hw.1]
                    refine lv_if_le (tgt := 195) hx hb dX8_goesBack_189 (by decide) (fun c_20 => ?_) (fun c_20 => ?_)
                    · replace h := it_t h c_20
                      refine lv_aload_n hx hb dX8_goesBack_195 rfl (lv_at hl 4 rfl) ?_
                      refine lv_iload hx hb dX8_goesBack_196 (lv_at hl 0 rfl) ?_
                      obtain ⟨σ_21, eσ_21, h⟩ := bnd h
                      refine r_cv X hS (r_runS (As := [.ref (ad a1), .int v5]) (rest := []) C0 X hP L_X8_181 (fun sz => c_X8_backs_ l D cA ad o σ a1 v5 ha1 σ_21 eσ_21 sz) ⟨Nat.le_of_ble_eq_true rfl, Nat.le_of_ble_eq_true rfl⟩ rfl hl.1 rfl (Nat.le_of_ble_eq_true rfl) dX8_goesBack_198 ⟨Nat.zero_le _, Nat.zero_le _⟩) (fun σ9 H locs hw hP hS => ?_)
                      rw [show σ9 = σ_21 from hw] at hP
                      exact r_vret C0 X hP hS hr hlk dX8_goesBack_201 (Option.some.inj h)
                    · replace h := it_f h c_20
                      refine lv_goto (tgt := 202) hx hb dX8_goesBack_192 (by decide) ?_
                      refine lv_iinc (v := (v5 + 1)) (lv' := [(5, .int (v5 + 1)), (4, .int v4), (3, .int v3), (0, .ref (ad 91)), (1, .ref (ad a1)), (2, .int x2)]) hx hb dX8_goesBack_202 hl (k := 0) rfl rfl (by decide) rfl (fun ls hl => ?_)
                      refine lv_goto (tgt := 137) hx hb dX8_goesBack_205 (by decide) ?_
                      exact ih137 σ (v5 + 1) v4 v3 _ _ ls  h hP hS (lv_sub hl [0, 1, 2, 3, 4, 5] rfl)
        exact lp_11 FU σ_10 0 r_2 r_1 _ _ ls  h hP hS (lv_sub hl [0, 1, 2, 3, 4, 5] rfl)
      · replace h := it_f h c_8
        refine lv_aload_n hx hb dX8_goesBack_63 rfl (lv_at hl 3 rfl) ?_
        refine lv_iload_n hx hb dX8_goesBack_64 rfl (lv_at hl 4 rfl) ?_
        refine lv_iconst (v := 5) hx hb dX8_goesBack_65 (by decide) ?_
        refine lv_iload_n hx hb dX8_goesBack_66 rfl (lv_at hl 1 rfl) ?_
        refine lv_iload hx hb dX8_goesBack_67 (lv_at hl 0 rfl) ?_
        refine lv_isub hx hb dX8_goesBack_69 ?_
        obtain ⟨σ_22, eσ_22, h⟩ := bnd h
        refine r_cv X hS (r_runS (As := [.ref (ad a1), .int x2, .int 5, .int (r_1 - r_2)]) (rest := []) C0 X hP L_X8_97 (fun sz => c_X8_puts l D cA ad o σ a1 x2 5 (r_1 - r_2) ha1 σ_22 eσ_22 sz) ⟨Nat.le_of_ble_eq_true rfl, Nat.le_of_ble_eq_true rfl⟩ rfl hl.1 rfl (Nat.le_of_ble_eq_true rfl) dX8_goesBack_70 ⟨Nat.zero_le _, Nat.zero_le _⟩) (fun σ9 H locs hw hP hS => ?_)
        rw [show σ9 = σ_22 from hw] at hP
        refine lv_aload_n hx hb dX8_goesBack_73 rfl (lv_at hl 3 rfl) ?_
        refine lv_iload_n hx hb dX8_goesBack_74 rfl (lv_at hl 4 rfl) ?_
        refine lv_bipush (v := 7) hx hb dX8_goesBack_75 (by decide) ?_
        refine lv_aload_n hx hb dX8_goesBack_77 rfl (lv_at hl 3 rfl) ?_
        refine lv_iload_n hx hb dX8_goesBack_78 rfl (lv_at hl 4 rfl) ?_
        refine lv_iconst (v := 3) hx hb dX8_goesBack_79 (by decide) ?_
        obtain ⟨r_23, er_23, h⟩ := bnd h
        refine r_ci X hS (r_runS (As := [.ref (ad a1), .int x2, .int 3]) (rest := [.int 7, .int x2, .ref (ad a1)]) C0 X hP L_X8_130 (fun sz => c_X8_get l D cA ad o σ_22 a1 x2 3 ha1 r_23 er_23 sz) ⟨Nat.le_of_ble_eq_true rfl, Nat.le_of_ble_eq_true rfl⟩ rfl hl.1 rfl (Nat.le_of_ble_eq_true rfl) dX8_goesBack_80 ⟨Nat.zero_le _, Nat.zero_le _⟩) (fun r9 σ9 H locs hw hP hS => ?_)
        rw [hw.2] at hP
        rw [hw.1]
        refine lv_iconst (v := 1) hx hb dX8_goesBack_83 (by decide) ?_
        refine lv_isub hx hb dX8_goesBack_84 ?_
        obtain ⟨σ_24, eσ_24, h⟩ := bnd h
        refine r_cv X hS (r_runS (As := [.ref (ad a1), .int x2, .int 7, .int (r_23 - 1)]) (rest := []) C0 X hP L_X8_97 (fun sz => c_X8_puts l D cA ad o σ_22 a1 x2 7 (r_23 - 1) ha1 σ_24 eσ_24 sz) ⟨Nat.le_of_ble_eq_true rfl, Nat.le_of_ble_eq_true rfl⟩ rfl hl.1 rfl (Nat.le_of_ble_eq_true rfl) dX8_goesBack_85 ⟨Nat.zero_le _, Nat.zero_le _⟩) (fun σ9 H locs hw hP hS => ?_)
        rw [show σ9 = σ_24 from hw] at hP
        refine lv_aload_n hx hb dX8_goesBack_88 rfl (lv_at hl 3 rfl) ?_
        refine lv_iload_n hx hb dX8_goesBack_89 rfl (lv_at hl 4 rfl) ?_
        refine lv_bipush (v := 8) hx hb dX8_goesBack_90 (by decide) ?_
        refine lv_aload_n hx hb dX8_goesBack_92 rfl (lv_at hl 3 rfl) ?_
        refine lv_iload_n hx hb dX8_goesBack_93 rfl (lv_at hl 4 rfl) ?_
        refine lv_bipush (v := 8) hx hb dX8_goesBack_94 (by decide) ?_
        obtain ⟨r_25, er_25, h⟩ := bnd h
        refine r_ci X hS (r_runS (As := [.ref (ad a1), .int x2, .int 8]) (rest := [.int 8, .int x2, .ref (ad a1)]) C0 X hP L_X8_130 (fun sz => c_X8_get l D cA ad o σ_24 a1 x2 8 ha1 r_25 er_25 sz) ⟨Nat.le_of_ble_eq_true rfl, Nat.le_of_ble_eq_true rfl⟩ rfl hl.1 rfl (Nat.le_of_ble_eq_true rfl) dX8_goesBack_96 ⟨Nat.zero_le _, Nat.zero_le _⟩) (fun r9 σ9 H locs hw hP hS => ?_)
        rw [hw.2] at hP
        rw [hw.1]
        refine lv_iconst (v := 1) hx hb dX8_goesBack_99 (by decide) ?_
        refine lv_iadd hx hb dX8_goesBack_100 ?_
        obtain ⟨σ_26, eσ_26, h⟩ := bnd h
        refine r_cv X hS (r_runS (As := [.ref (ad a1), .int x2, .int 8, .int (r_25 + 1)]) (rest := []) C0 X hP L_X8_97 (fun sz => c_X8_puts l D cA ad o σ_24 a1 x2 8 (r_25 + 1) ha1 σ_26 eσ_26 sz) ⟨Nat.le_of_ble_eq_true rfl, Nat.le_of_ble_eq_true rfl⟩ rfl hl.1 rfl (Nat.le_of_ble_eq_true rfl) dX8_goesBack_101 ⟨Nat.zero_le _, Nat.zero_le _⟩) (fun σ9 H locs hw hP hS => ?_)
        rw [show σ9 = σ_26 from hw] at hP
        refine lv_aload_n hx hb dX8_goesBack_104 rfl (lv_at hl 3 rfl) ?_
        refine lv_iload_n hx hb dX8_goesBack_105 rfl (lv_at hl 4 rfl) ?_
        refine lv_bipush (v := 6) hx hb dX8_goesBack_106 (by decide) ?_
        refine lv_iconst (v := 2) hx hb dX8_goesBack_108 (by decide) ?_
        obtain ⟨σ_27, eσ_27, h⟩ := bnd h
        refine r_cv X hS (r_runS (As := [.ref (ad a1), .int x2, .int 6, .int 2]) (rest := []) C0 X hP L_X8_97 (fun sz => c_X8_puts l D cA ad o σ_26 a1 x2 6 2 ha1 σ_27 eσ_27 sz) ⟨Nat.le_of_ble_eq_true rfl, Nat.le_of_ble_eq_true rfl⟩ rfl hl.1 rfl (Nat.le_of_ble_eq_true rfl) dX8_goesBack_109 ⟨Nat.zero_le _, Nat.zero_le _⟩) (fun σ9 H locs hw hP hS => ?_)
        rw [show σ9 = σ_27 from hw] at hP
        refine lv_aload_n hx hb dX8_goesBack_112 rfl (lv_at hl 2 rfl) ?_
        refine lv_iconst (v := 1) hx hb dX8_goesBack_113 (by decide) ?_
        refine pf_X8_177 C0 X hP hS 91 (Or.inr rfl) ⟨by decide, rfl⟩ dX8_goesBack_114 (fun H locs hP hS => ?_)
        exact r_vret C0 X hP hS hr hlk dX8_goesBack_117 (Option.some.inj h)
    · replace h := it_t h c_6
      refine lv_aload_n hx hb dX8_goesBack_43 rfl (lv_at hl 3 rfl) ?_
      refine lv_iload_n hx hb dX8_goesBack_44 rfl (lv_at hl 4 rfl) ?_
      refine lv_bipush (v := 6) hx hb dX8_goesBack_45 (by decide) ?_
      refine lv_iconst (v := 0) hx hb dX8_goesBack_47 (by decide) ?_
      obtain ⟨σ_28, eσ_28, h⟩ := bnd h
      refine r_cv X hS (r_runS (As := [.ref (ad a1), .int x2, .int 6, .int 0]) (rest := []) C0 X hP L_X8_97 (fun sz => c_X8_puts l D cA ad o σ a1 x2 6 0 ha1 σ_28 eσ_28 sz) ⟨Nat.le_of_ble_eq_true rfl, Nat.le_of_ble_eq_true rfl⟩ rfl hl.1 rfl (Nat.le_of_ble_eq_true rfl) dX8_goesBack_48 ⟨Nat.zero_le _, Nat.zero_le _⟩) (fun σ9 H locs hw hP hS => ?_)
      rw [show σ9 = σ_28 from hw] at hP
      exact r_vret C0 X hP hS hr hlk dX8_goesBack_51 (Option.some.inj h)
  · replace h := it_f h c_4
    refine lv_aload_n hx hb dX8_goesBack_23 rfl (lv_at hl 3 rfl) ?_
    refine lv_iload_n hx hb dX8_goesBack_24 rfl (lv_at hl 4 rfl) ?_
    refine lv_bipush (v := 6) hx hb dX8_goesBack_25 (by decide) ?_
    obtain ⟨r_29, er_29, h⟩ := bnd h
    refine r_ci X hS (r_runS (As := [.ref (ad a1), .int x2, .int 6]) (rest := []) C0 X hP L_X8_130 (fun sz => c_X8_get l D cA ad o σ a1 x2 6 ha1 r_29 er_29 sz) ⟨Nat.le_of_ble_eq_true rfl, Nat.le_of_ble_eq_true rfl⟩ rfl hl.1 rfl (Nat.le_of_ble_eq_true rfl) dX8_goesBack_27 ⟨Nat.zero_le _, Nat.zero_le _⟩) (fun r9 σ9 H locs hw hP hS => ?_)
    rw [hw.2] at hP
    rw [hw.1]
    refine lv_iconst (v := 2) hx hb dX8_goesBack_30 (by decide) ?_
    refine lv_icmp_eq (tgt := 43) hx hb dX8_goesBack_31 (by decide) (fun c_30 => ?_) (fun c_30 => ?_)
    · replace h := it_t h c_30
      refine lv_aload_n hx hb dX8_goesBack_43 rfl (lv_at hl 3 rfl) ?_
      refine lv_iload_n hx hb dX8_goesBack_44 rfl (lv_at hl 4 rfl) ?_
      refine lv_bipush (v := 6) hx hb dX8_goesBack_45 (by decide) ?_
      refine lv_iconst (v := 0) hx hb dX8_goesBack_47 (by decide) ?_
      obtain ⟨σ_31, eσ_31, h⟩ := bnd h
      refine r_cv X hS (r_runS (As := [.ref (ad a1), .int x2, .int 6, .int 0]) (rest := []) C0 X hP L_X8_97 (fun sz => c_X8_puts l D cA ad o σ a1 x2 6 0 ha1 σ_31 eσ_31 sz) ⟨Nat.le_of_ble_eq_true rfl, Nat.le_of_ble_eq_true rfl⟩ rfl hl.1 rfl (Nat.le_of_ble_eq_true rfl) dX8_goesBack_48 ⟨Nat.zero_le _, Nat.zero_le _⟩) (fun σ9 H locs hw hP hS => ?_)
      rw [show σ9 = σ_31 from hw] at hP
      exact r_vret C0 X hP hS hr hlk dX8_goesBack_51 (Option.some.inj h)
    · replace h := it_f h c_30
      refine lv_iload_n hx hb dX8_goesBack_34 rfl (lv_at hl 1 rfl) ?_
      refine lv_aload_n hx hb dX8_goesBack_35 rfl (lv_at hl 3 rfl) ?_
      refine lv_iload_n hx hb dX8_goesBack_36 rfl (lv_at hl 4 rfl) ?_
      obtain ⟨r_32, er_32, h⟩ := bnd h
      refine r_ci X hS (r_runS (As := [.ref (ad a1), .int x2]) (rest := [.int r_1]) C0 X hP L_X8_154 (fun sz => c_X8_origin l D cA ad o σ a1 x2 ha1 r_32 er_32 sz) ⟨Nat.le_of_ble_eq_true rfl, Nat.le_of_ble_eq_true rfl⟩ rfl hl.1 rfl (Nat.le_of_ble_eq_true rfl) dX8_goesBack_37 ⟨Nat.zero_le _, Nat.zero_le _⟩) (fun r9 σ9 H locs hw hP hS => ?_)
      rw [hw.2] at hP
      rw [hw.1]
      refine lv_icmp_ne (tgt := 52) hx hb dX8_goesBack_40 (by decide) (fun c_33 => ?_) (fun c_33 => ?_)
      · replace h := it_f h c_33
        refine lv_aload_n hx hb dX8_goesBack_52 rfl (lv_at hl 3 rfl) ?_
        refine lv_iload_n hx hb dX8_goesBack_53 rfl (lv_at hl 1 rfl) ?_
        refine lv_iload hx hb dX8_goesBack_54 (lv_at hl 0 rfl) ?_
        refine lv_isub hx hb dX8_goesBack_56 ?_
        obtain ⟨r_34, er_34, h⟩ := bnd h
        refine r_ci X hS (r_runS (As := [.ref (ad a1), .int (r_1 - r_2)]) (rest := []) C0 X hP L_X8_174 (fun sz => c_X8_hasRoom l D cA ad o σ a1 (r_1 - r_2) ha1 r_34 er_34 sz) ⟨Nat.le_of_ble_eq_true rfl, Nat.le_of_ble_eq_true rfl⟩ rfl hl.1 rfl (Nat.le_of_ble_eq_true rfl) dX8_goesBack_57 ⟨Nat.zero_le _, Nat.zero_le _⟩) (fun r9 σ9 H locs hw hP hS => ?_)
        rw [hw.2] at hP
        rw [hw.1]
        refine lv_if_eq (tgt := 118) hx hb dX8_goesBack_60 (by decide) (fun c_35 => ?_) (fun c_35 => ?_)
        · replace h := it_t h c_35
          refine lv_aload_n hx hb dX8_goesBack_118 rfl (lv_at hl 3 rfl) ?_
          refine lv_iload_n hx hb dX8_goesBack_119 rfl (lv_at hl 4 rfl) ?_
          refine lv_bipush (v := 9) hx hb dX8_goesBack_120 (by decide) ?_
          refine lv_aload_n hx hb dX8_goesBack_122 rfl (lv_at hl 3 rfl) ?_
          refine lv_iload_n hx hb dX8_goesBack_123 rfl (lv_at hl 4 rfl) ?_
          refine lv_bipush (v := 9) hx hb dX8_goesBack_124 (by decide) ?_
          obtain ⟨r_36, er_36, h⟩ := bnd h
          refine r_ci X hS (r_runS (As := [.ref (ad a1), .int x2, .int 9]) (rest := [.int 9, .int x2, .ref (ad a1)]) C0 X hP L_X8_130 (fun sz => c_X8_get l D cA ad o σ a1 x2 9 ha1 r_36 er_36 sz) ⟨Nat.le_of_ble_eq_true rfl, Nat.le_of_ble_eq_true rfl⟩ rfl hl.1 rfl (Nat.le_of_ble_eq_true rfl) dX8_goesBack_126 ⟨Nat.zero_le _, Nat.zero_le _⟩) (fun r9 σ9 H locs hw hP hS => ?_)
          rw [hw.2] at hP
          rw [hw.1]
          refine lv_iconst (v := 1) hx hb dX8_goesBack_129 (by decide) ?_
          refine lv_iadd hx hb dX8_goesBack_130 ?_
          obtain ⟨σ_37, eσ_37, h⟩ := bnd h
          refine r_cv X hS (r_runS (As := [.ref (ad a1), .int x2, .int 9, .int (r_36 + 1)]) (rest := []) C0 X hP L_X8_97 (fun sz => c_X8_puts l D cA ad o σ a1 x2 9 (r_36 + 1) ha1 σ_37 eσ_37 sz) ⟨Nat.le_of_ble_eq_true rfl, Nat.le_of_ble_eq_true rfl⟩ rfl hl.1 rfl (Nat.le_of_ble_eq_true rfl) dX8_goesBack_131 ⟨Nat.zero_le _, Nat.zero_le _⟩) (fun σ9 H locs hw hP hS => ?_)
          rw [show σ9 = σ_37 from hw] at hP
          refine lv_iconst (v := 0) hx hb dX8_goesBack_134 (by decide) ?_
          refine lv_istore (lv' := [(5, .int 0), (4, .int r_2), (3, .int r_1), (0, .ref (ad 91)), (1, .ref (ad a1)), (2, .int x2)]) hx hb dX8_goesBack_135 hl (by decide) rfl (fun ls hl => ?_)
          have lp_38 : ∀ (nn137 : Nat) (σ : Mem) (v5 : Int32) (v4 : Int32) (v3 : Int32) (H : Heap) (locs : List Loc) (ls : Array Slot), F_X8_goesBack_137b a1 x2 nn137 σ v5 v4 v3 = some res → WP D cA ad o σ H → va_S (FA ad s.heap.size) s.heap H locs → lv_has ls 6 [(5, .int v5), (4, .int v4), (3, .int v3), (0, .ref (ad 91)), (1, .ref (ad a1)), (2, .int x2)] → W p l e (RM 3) s m ([.ref (ad 91), .ref (ad a1), .int x2] : List Value).toArray below meth c H locs 0 0 (MQ below (va_Qv (fun σ9 => σ9 = res) (QW D cA ad o) (FA ad s.heap.size)) ([.ref (ad 91), .ref (ad a1), .int x2] : List Value).toArray s 0 0 (FA ad s.heap.size)) (F0 m 137 ls []) := by
            intro nn137
            induction nn137 with
            | zero => intro σ v5 v4 v3 H locs ls h hP hS hl; exact absurd (show none = some res from h) nofun
            | succ nn137 ih137 =>
              intro σ v5 v4 v3 H locs ls h hP hS hl
              replace h := (F_X8_goesBack_137b.eq_2 _ _ _ _ _ _ _).symm.trans h
              refine lv_iload hx hb dX8_goesBack_137 (lv_at hl 0 rfl) ?_
              refine lv_aload_n hx hb dX8_goesBack_139 rfl (lv_at hl 4 rfl) ?_
              refine lv_iconst (v := 1) hx hb dX8_goesBack_140 (by decide) ?_
              refine r_ialdN C0 X hP a1 (k := 1) ha1 rfl (by decide) dX8_goesBack_141 ?_
              refine lv_icmp_ge (tgt := 208) hx hb dX8_goesBack_142 (by decide) (fun c_39 => ?_) (fun c_39 => ?_)
              · replace h := it_t h c_39
                exact r_vret C0 X hP hS hr hlk dX8_goesBack_208 (Option.some.inj h)
              · replace h := it_f h c_39
                refine lv_aload_n hx hb dX8_goesBack_145 rfl (lv_at hl 4 rfl) ?_
                refine lv_iload hx hb dX8_goesBack_146 (lv_at hl 0 rfl) ?_
                refine lv_iconst (v := 5) hx hb dX8_goesBack_148 (by decide) ?_
                obtain ⟨r_40, er_40, h⟩ := bnd h
                refine r_ci X hS (r_runS (As := [.ref (ad a1), .int v5, .int 5]) (rest := []) C0 X hP L_X8_130 (fun sz => c_X8_get l D cA ad o σ a1 v5 5 ha1 r_40 er_40 sz) ⟨Nat.le_of_ble_eq_true rfl, Nat.le_of_ble_eq_true rfl⟩ rfl hl.1 rfl (Nat.le_of_ble_eq_true rfl) dX8_goesBack_149 ⟨Nat.zero_le _, Nat.zero_le _⟩) (fun r9 σ9 H locs hw hP hS => ?_)
                rw [hw.2] at hP
                rw [hw.1]
                refine lv_iload_n hx hb dX8_goesBack_152 rfl (lv_at hl 2 rfl) ?_
                refine lv_iload hx hb dX8_goesBack_153 (lv_at hl 1 rfl) ?_
                refine lv_isub hx hb dX8_goesBack_155 ?_
                refine lv_icmp_ne (tgt := 202) hx hb dX8_goesBack_156 (by decide) (fun c_41 => ?_) (fun c_41 => ?_)
                · replace h := it_f h c_41
                  refine lv_iinc (v := (v5 + 1)) (lv' := [(5, .int (v5 + 1)), (4, .int v4), (3, .int v3), (0, .ref (ad 91)), (1, .ref (ad a1)), (2, .int x2)]) hx hb dX8_goesBack_202 hl (k := 0) rfl rfl (by decide) rfl (fun ls hl => ?_)
                  refine lv_goto (tgt := 137) hx hb dX8_goesBack_205 (by decide) ?_
                  exact ih137 σ (v5 + 1) v4 v3 _ _ ls  h hP hS (lv_sub hl [0, 1, 2, 3, 4, 5] rfl)
                · replace h := it_t h c_41
                  refine lv_aload_n hx hb dX8_goesBack_159 rfl (lv_at hl 4 rfl) ?_
                  refine lv_iload hx hb dX8_goesBack_160 (lv_at hl 0 rfl) ?_
                  refine lv_iconst (v := 0) hx hb dX8_goesBack_162 (by decide) ?_
                  obtain ⟨r_42, er_42, h⟩ := bnd h
                  refine r_ci X hS (r_runS (As := [.ref (ad a1), .int v5, .int 0]) (rest := []) C0 X hP L_X8_130 (fun sz => c_X8_get l D cA ad o σ a1 v5 0 ha1 r_42 er_42 sz) ⟨Nat.le_of_ble_eq_true rfl, Nat.le_of_ble_eq_true rfl⟩ rfl hl.1 rfl (Nat.le_of_ble_eq_true rfl) dX8_goesBack_163 ⟨Nat.zero_le _, Nat.zero_le _⟩) (fun r9 σ9 H locs hw hP hS => ?_)
                  rw [hw.2] at hP
                  rw [hw.1]
                  refine lv_iload hx hb dX8_goesBack_166 (lv_at hl 1 rfl) ?_
                  refine lv_icmp_ne (tgt := 202) hx hb dX8_goesBack_168 (by decide) (fun c_43 => ?_) (fun c_43 => ?_)
                  · replace h := it_f h c_43
                    refine lv_iinc (v := (v5 + 1)) (lv' := [(5, .int (v5 + 1)), (4, .int v4), (3, .int v3), (0, .ref (ad 91)), (1, .ref (ad a1)), (2, .int x2)]) hx hb dX8_goesBack_202 hl (k := 0) rfl rfl (by decide) rfl (fun ls hl => ?_)
                    refine lv_goto (tgt := 137) hx hb dX8_goesBack_205 (by decide) ?_
                    exact ih137 σ (v5 + 1) v4 v3 _ _ ls  h hP hS (lv_sub hl [0, 1, 2, 3, 4, 5] rfl)
                  · replace h := it_t h c_43
                    refine lv_aload_n hx hb dX8_goesBack_171 rfl (lv_at hl 4 rfl) ?_
                    refine lv_iload hx hb dX8_goesBack_172 (lv_at hl 0 rfl) ?_
                    refine lv_iconst (v := 3) hx hb dX8_goesBack_174 (by decide) ?_
                    obtain ⟨r_44, er_44, h⟩ := bnd h
                    refine r_ci X hS (r_runS (As := [.ref (ad a1), .int v5, .int 3]) (rest := []) C0 X hP L_X8_130 (fun sz => c_X8_get l D cA ad o σ a1 v5 3 ha1 r_44 er_44 sz) ⟨Nat.le_of_ble_eq_true rfl, Nat.le_of_ble_eq_true rfl⟩ rfl hl.1 rfl (Nat.le_of_ble_eq_true rfl) dX8_goesBack_175 ⟨Nat.zero_le _, Nat.zero_le _⟩) (fun r9 σ9 H locs hw hP hS => ?_)
                    rw [hw.2] at hP
                    rw [hw.1]
                    refine lv_if_eq (tgt := 202) hx hb dX8_goesBack_178 (by decide) (fun c_45 => ?_) (fun c_45 => ?_)
                    · replace h := it_t h c_45
                      refine lv_iinc (v := (v5 + 1)) (lv' := [(5, .int (v5 + 1)), (4, .int v4), (3, .int v3), (0, .ref (ad 91)), (1, .ref (ad a1)), (2, .int x2)]) hx hb dX8_goesBack_202 hl (k := 0) rfl rfl (by decide) rfl (fun ls hl => ?_)
                      refine lv_goto (tgt := 137) hx hb dX8_goesBack_205 (by decide) ?_
                      exact ih137 σ (v5 + 1) v4 v3 _ _ ls  h hP hS (lv_sub hl [0, 1, 2, 3, 4, 5] rfl)
                    · replace h := it_f h c_45
                      refine lv_aload_n hx hb dX8_goesBack_181 rfl (lv_at hl 4 rfl) ?_
                      refine lv_iload hx hb dX8_goesBack_182 (lv_at hl 0 rfl) ?_
                      refine lv_bipush (v := 6) hx hb dX8_goesBack_184 (by decide) ?_
                      obtain ⟨r_46, er_46, h⟩ := bnd h
                      refine r_ci X hS (r_runS (As := [.ref (ad a1), .int v5, .int 6]) (rest := []) C0 X hP L_X8_130 (fun sz => c_X8_get l D cA ad o σ a1 v5 6 ha1 r_46 er_46 sz) ⟨Nat.le_of_ble_eq_true rfl, Nat.le_of_ble_eq_true rfl⟩ rfl hl.1 rfl (Nat.le_of_ble_eq_true rfl) dX8_goesBack_186 ⟨Nat.zero_le _, Nat.zero_le _⟩) (fun r9 σ9 H locs hw hP hS => ?_)
                      rw [hw.2] at hP
                      rw [hw.1]
                      refine lv_if_le (tgt := 195) hx hb dX8_goesBack_189 (by decide) (fun c_47 => ?_) (fun c_47 => ?_)
                      · replace h := it_t h c_47
                        refine lv_aload_n hx hb dX8_goesBack_195 rfl (lv_at hl 4 rfl) ?_
                        refine lv_iload hx hb dX8_goesBack_196 (lv_at hl 0 rfl) ?_
                        obtain ⟨σ_48, eσ_48, h⟩ := bnd h
                        refine r_cv X hS (r_runS (As := [.ref (ad a1), .int v5]) (rest := []) C0 X hP L_X8_181 (fun sz => c_X8_backs_ l D cA ad o σ a1 v5 ha1 σ_48 eσ_48 sz) ⟨Nat.le_of_ble_eq_true rfl, Nat.le_of_ble_eq_true rfl⟩ rfl hl.1 rfl (Nat.le_of_ble_eq_true rfl) dX8_goesBack_198 ⟨Nat.zero_le _, Nat.zero_le _⟩) (fun σ9 H locs hw hP hS => ?_)
                        rw [show σ9 = σ_48 from hw] at hP
                        exact r_vret C0 X hP hS hr hlk dX8_goesBack_201 (Option.some.inj h)
                      · replace h := it_f h c_47
                        refine lv_goto (tgt := 202) hx hb dX8_goesBack_192 (by decide) ?_
                        refine lv_iinc (v := (v5 + 1)) (lv' := [(5, .int (v5 + 1)), (4, .int v4), (3, .int v3), (0, .ref (ad 91)), (1, .ref (ad a1)), (2, .int x2)]) hx hb dX8_goesBack_202 hl (k := 0) rfl rfl (by decide) rfl (fun ls hl => ?_)
                        refine lv_goto (tgt := 137) hx hb dX8_goesBack_205 (by decide) ?_
                        exact ih137 σ (v5 + 1) v4 v3 _ _ ls  h hP hS (lv_sub hl [0, 1, 2, 3, 4, 5] rfl)
          exact lp_38 FU σ_37 0 r_2 r_1 _ _ ls  h hP hS (lv_sub hl [0, 1, 2, 3, 4, 5] rfl)
        · replace h := it_f h c_35
          refine lv_aload_n hx hb dX8_goesBack_63 rfl (lv_at hl 3 rfl) ?_
          refine lv_iload_n hx hb dX8_goesBack_64 rfl (lv_at hl 4 rfl) ?_
          refine lv_iconst (v := 5) hx hb dX8_goesBack_65 (by decide) ?_
          refine lv_iload_n hx hb dX8_goesBack_66 rfl (lv_at hl 1 rfl) ?_
          refine lv_iload hx hb dX8_goesBack_67 (lv_at hl 0 rfl) ?_
          refine lv_isub hx hb dX8_goesBack_69 ?_
          obtain ⟨σ_49, eσ_49, h⟩ := bnd h
          refine r_cv X hS (r_runS (As := [.ref (ad a1), .int x2, .int 5, .int (r_1 - r_2)]) (rest := []) C0 X hP L_X8_97 (fun sz => c_X8_puts l D cA ad o σ a1 x2 5 (r_1 - r_2) ha1 σ_49 eσ_49 sz) ⟨Nat.le_of_ble_eq_true rfl, Nat.le_of_ble_eq_true rfl⟩ rfl hl.1 rfl (Nat.le_of_ble_eq_true rfl) dX8_goesBack_70 ⟨Nat.zero_le _, Nat.zero_le _⟩) (fun σ9 H locs hw hP hS => ?_)
          rw [show σ9 = σ_49 from hw] at hP
          refine lv_aload_n hx hb dX8_goesBack_73 rfl (lv_at hl 3 rfl) ?_
          refine lv_iload_n hx hb dX8_goesBack_74 rfl (lv_at hl 4 rfl) ?_
          refine lv_bipush (v := 7) hx hb dX8_goesBack_75 (by decide) ?_
          refine lv_aload_n hx hb dX8_goesBack_77 rfl (lv_at hl 3 rfl) ?_
          refine lv_iload_n hx hb dX8_goesBack_78 rfl (lv_at hl 4 rfl) ?_
          refine lv_iconst (v := 3) hx hb dX8_goesBack_79 (by decide) ?_
          obtain ⟨r_50, er_50, h⟩ := bnd h
          refine r_ci X hS (r_runS (As := [.ref (ad a1), .int x2, .int 3]) (rest := [.int 7, .int x2, .ref (ad a1)]) C0 X hP L_X8_130 (fun sz => c_X8_get l D cA ad o σ_49 a1 x2 3 ha1 r_50 er_50 sz) ⟨Nat.le_of_ble_eq_true rfl, Nat.le_of_ble_eq_true rfl⟩ rfl hl.1 rfl (Nat.le_of_ble_eq_true rfl) dX8_goesBack_80 ⟨Nat.zero_le _, Nat.zero_le _⟩) (fun r9 σ9 H locs hw hP hS => ?_)
          rw [hw.2] at hP
          rw [hw.1]
          refine lv_iconst (v := 1) hx hb dX8_goesBack_83 (by decide) ?_
          refine lv_isub hx hb dX8_goesBack_84 ?_
          obtain ⟨σ_51, eσ_51, h⟩ := bnd h
          refine r_cv X hS (r_runS (As := [.ref (ad a1), .int x2, .int 7, .int (r_50 - 1)]) (rest := []) C0 X hP L_X8_97 (fun sz => c_X8_puts l D cA ad o σ_49 a1 x2 7 (r_50 - 1) ha1 σ_51 eσ_51 sz) ⟨Nat.le_of_ble_eq_true rfl, Nat.le_of_ble_eq_true rfl⟩ rfl hl.1 rfl (Nat.le_of_ble_eq_true rfl) dX8_goesBack_85 ⟨Nat.zero_le _, Nat.zero_le _⟩) (fun σ9 H locs hw hP hS => ?_)
          rw [show σ9 = σ_51 from hw] at hP
          refine lv_aload_n hx hb dX8_goesBack_88 rfl (lv_at hl 3 rfl) ?_
          refine lv_iload_n hx hb dX8_goesBack_89 rfl (lv_at hl 4 rfl) ?_
          refine lv_bipush (v := 8) hx hb dX8_goesBack_90 (by decide) ?_
          refine lv_aload_n hx hb dX8_goesBack_92 rfl (lv_at hl 3 rfl) ?_
          refine lv_iload_n hx hb dX8_goesBack_93 rfl (lv_at hl 4 rfl) ?_
          refine lv_bipush (v := 8) hx hb dX8_goesBack_94 (by decide) ?_
          obtain ⟨r_52, er_52, h⟩ := bnd h
          refine r_ci X hS (r_runS (As := [.ref (ad a1), .int x2, .int 8]) (rest := [.int 8, .int x2, .ref (ad a1)]) C0 X hP L_X8_130 (fun sz => c_X8_get l D cA ad o σ_51 a1 x2 8 ha1 r_52 er_52 sz) ⟨Nat.le_of_ble_eq_true rfl, Nat.le_of_ble_eq_true rfl⟩ rfl hl.1 rfl (Nat.le_of_ble_eq_true rfl) dX8_goesBack_96 ⟨Nat.zero_le _, Nat.zero_le _⟩) (fun r9 σ9 H locs hw hP hS => ?_)
          rw [hw.2] at hP
          rw [hw.1]
          refine lv_iconst (v := 1) hx hb dX8_goesBack_99 (by decide) ?_
          refine lv_iadd hx hb dX8_goesBack_100 ?_
          obtain ⟨σ_53, eσ_53, h⟩ := bnd h
          refine r_cv X hS (r_runS (As := [.ref (ad a1), .int x2, .int 8, .int (r_52 + 1)]) (rest := []) C0 X hP L_X8_97 (fun sz => c_X8_puts l D cA ad o σ_51 a1 x2 8 (r_52 + 1) ha1 σ_53 eσ_53 sz) ⟨Nat.le_of_ble_eq_true rfl, Nat.le_of_ble_eq_true rfl⟩ rfl hl.1 rfl (Nat.le_of_ble_eq_true rfl) dX8_goesBack_101 ⟨Nat.zero_le _, Nat.zero_le _⟩) (fun σ9 H locs hw hP hS => ?_)
          rw [show σ9 = σ_53 from hw] at hP
          refine lv_aload_n hx hb dX8_goesBack_104 rfl (lv_at hl 3 rfl) ?_
          refine lv_iload_n hx hb dX8_goesBack_105 rfl (lv_at hl 4 rfl) ?_
          refine lv_bipush (v := 6) hx hb dX8_goesBack_106 (by decide) ?_
          refine lv_iconst (v := 2) hx hb dX8_goesBack_108 (by decide) ?_
          obtain ⟨σ_54, eσ_54, h⟩ := bnd h
          refine r_cv X hS (r_runS (As := [.ref (ad a1), .int x2, .int 6, .int 2]) (rest := []) C0 X hP L_X8_97 (fun sz => c_X8_puts l D cA ad o σ_53 a1 x2 6 2 ha1 σ_54 eσ_54 sz) ⟨Nat.le_of_ble_eq_true rfl, Nat.le_of_ble_eq_true rfl⟩ rfl hl.1 rfl (Nat.le_of_ble_eq_true rfl) dX8_goesBack_109 ⟨Nat.zero_le _, Nat.zero_le _⟩) (fun σ9 H locs hw hP hS => ?_)
          rw [show σ9 = σ_54 from hw] at hP
          refine lv_aload_n hx hb dX8_goesBack_112 rfl (lv_at hl 2 rfl) ?_
          refine lv_iconst (v := 1) hx hb dX8_goesBack_113 (by decide) ?_
          refine pf_X8_177 C0 X hP hS 91 (Or.inr rfl) ⟨by decide, rfl⟩ dX8_goesBack_114 (fun H locs hP hS => ?_)
          exact r_vret C0 X hP hS hr hlk dX8_goesBack_117 (Option.some.inj h)
      · replace h := it_t h c_33
        refine lv_aload_n hx hb dX8_goesBack_43 rfl (lv_at hl 3 rfl) ?_
        refine lv_iload_n hx hb dX8_goesBack_44 rfl (lv_at hl 4 rfl) ?_
        refine lv_bipush (v := 6) hx hb dX8_goesBack_45 (by decide) ?_
        refine lv_iconst (v := 0) hx hb dX8_goesBack_47 (by decide) ?_
        obtain ⟨σ_55, eσ_55, h⟩ := bnd h
        refine r_cv X hS (r_runS (As := [.ref (ad a1), .int x2, .int 6, .int 0]) (rest := []) C0 X hP L_X8_97 (fun sz => c_X8_puts l D cA ad o σ a1 x2 6 0 ha1 σ_55 eσ_55 sz) ⟨Nat.le_of_ble_eq_true rfl, Nat.le_of_ble_eq_true rfl⟩ rfl hl.1 rfl (Nat.le_of_ble_eq_true rfl) dX8_goesBack_48 ⟨Nat.zero_le _, Nat.zero_le _⟩) (fun σ9 H locs hw hP hS => ?_)
        rw [show σ9 = σ_55 from hw] at hP
        exact r_vret C0 X hP hS hr hlk dX8_goesBack_51 (Option.some.inj h)
def bB_cX8_goesOn : Nat := 0xb174ffa7010784b1b500b808152b09009b08150836c800b806152e600560680615060e102b07151c2bbf00b52e052b2a0a00a0c500b42a1c1200a0c200b42a071514009fc500b42a07150c00a0c200b42a1c2c009cbf00b42a4f60042e5c072b5c00a706009e8200b8061007152b6a009f04158200b80307152b7600a06004151d8200b80807152b8a00a22e042b0715073603b104009b05156100b860048200b809101c2b09101c2bb16100b80307101c2b6100b8fd10081c2b1300a0bc00b81c2b6004151db100b5042a6100b8071507101c2b6100b86004151d081c2b0736030400a7040700a0050400a70407009e04152e600460680615060e102b1f00a0048200b8051c2b610099ae00b86004151d2bb16100b860048200b809101c2b09101c2b14009ab800b82e600560680615060e102b1c2b27009b05150636a100b804151d2b05369100b81d2b04368200b8031c2b3e8200b8081c2b
set_option maxRecDepth 100000 in
theorem yB_cX8_goesOn : BYS cX8_goesOn 346 bB_cX8_goesOn := BYS_of (by decide +kernel)
theorem dX8_goesOn_0 : decode cX8_goesOn 0 = .ok (.aload_n 1, 1) := D_43 yB_cX8_goesOn rfl rfl
theorem dX8_goesOn_1 : decode cX8_goesOn 1 = .ok (.iload_n 2, 1) := D_28 yB_cX8_goesOn rfl rfl
theorem dX8_goesOn_2 : decode cX8_goesOn 2 = .ok (.iconst 5, 1) := D_8 yB_cX8_goesOn rfl rfl
theorem dX8_goesOn_3 : decode cX8_goesOn 3 = .ok (.invokestatic 130, 3) := D_184 yB_cX8_goesOn rfl rfl rfl
theorem dX8_goesOn_6 : decode cX8_goesOn 6 = .ok (.istore_n 3, 1) := D_62 yB_cX8_goesOn rfl rfl
theorem dX8_goesOn_7 : decode cX8_goesOn 7 = .ok (.aload_n 1, 1) := D_43 yB_cX8_goesOn rfl rfl
theorem dX8_goesOn_8 : decode cX8_goesOn 8 = .ok (.iload_n 2, 1) := D_28 yB_cX8_goesOn rfl rfl
theorem dX8_goesOn_9 : decode cX8_goesOn 9 = .ok (.iconst 0, 1) := D_3 yB_cX8_goesOn rfl rfl
theorem dX8_goesOn_10 : decode cX8_goesOn 10 = .ok (.invokestatic 130, 3) := D_184 yB_cX8_goesOn rfl rfl rfl
theorem dX8_goesOn_13 : decode cX8_goesOn 13 = .ok (.istore 4, 2) := D_54 yB_cX8_goesOn rfl rfl rfl
theorem dX8_goesOn_15 : decode cX8_goesOn 15 = .ok (.aload_n 1, 1) := D_43 yB_cX8_goesOn rfl rfl
theorem dX8_goesOn_16 : decode cX8_goesOn 16 = .ok (.iload_n 3, 1) := D_29 yB_cX8_goesOn rfl rfl
theorem dX8_goesOn_17 : decode cX8_goesOn 17 = .ok (.invokestatic 145, 3) := D_184 yB_cX8_goesOn rfl rfl rfl
theorem dX8_goesOn_20 : decode cX8_goesOn 20 = .ok (.istore 5, 2) := D_54 yB_cX8_goesOn rfl rfl rfl
theorem dX8_goesOn_22 : decode cX8_goesOn 22 = .ok (.aload_n 1, 1) := D_43 yB_cX8_goesOn rfl rfl
theorem dX8_goesOn_23 : decode cX8_goesOn 23 = .ok (.iload_n 3, 1) := D_29 yB_cX8_goesOn rfl rfl
theorem dX8_goesOn_24 : decode cX8_goesOn 24 = .ok (.iload 4, 2) := D_21 yB_cX8_goesOn rfl rfl rfl
theorem dX8_goesOn_26 : decode cX8_goesOn 26 = .ok (.invokestatic 161, 3) := D_184 yB_cX8_goesOn rfl rfl rfl
theorem dX8_goesOn_29 : decode cX8_goesOn 29 = .ok (.istore 6, 2) := D_54 yB_cX8_goesOn rfl rfl rfl
theorem dX8_goesOn_31 : decode cX8_goesOn 31 = .ok (.iload 5, 2) := D_21 yB_cX8_goesOn rfl rfl rfl
theorem dX8_goesOn_33 : decode cX8_goesOn 33 = .ok (.ifCond .lt 39, 3) := D_155 yB_cX8_goesOn rfl rfl (sg_p (m := 32768) (N := 39) rfl rfl rfl)
theorem dX8_goesOn_36 : decode cX8_goesOn 36 = .ok (.aload_n 1, 1) := D_43 yB_cX8_goesOn rfl rfl
theorem dX8_goesOn_37 : decode cX8_goesOn 37 = .ok (.iload_n 2, 1) := D_28 yB_cX8_goesOn rfl rfl
theorem dX8_goesOn_38 : decode cX8_goesOn 38 = .ok (.aload_n 1, 1) := D_43 yB_cX8_goesOn rfl rfl
theorem dX8_goesOn_39 : decode cX8_goesOn 39 = .ok (.bipush 14, 2) := D_16 yB_cX8_goesOn rfl rfl (sg_p (m := 128) (N := 14) rfl rfl rfl)
theorem dX8_goesOn_41 : decode cX8_goesOn 41 = .ok (.iconst 3, 1) := D_6 yB_cX8_goesOn rfl rfl
theorem dX8_goesOn_42 : decode cX8_goesOn 42 = .ok (.iload 6, 2) := D_21 yB_cX8_goesOn rfl rfl rfl
theorem dX8_goesOn_44 : decode cX8_goesOn 44 = .ok (.imul, 1) := D_104 yB_cX8_goesOn rfl rfl
theorem dX8_goesOn_45 : decode cX8_goesOn 45 = .ok (.iadd, 1) := D_96 yB_cX8_goesOn rfl rfl
theorem dX8_goesOn_46 : decode cX8_goesOn 46 = .ok (.iconst 2, 1) := D_5 yB_cX8_goesOn rfl rfl
theorem dX8_goesOn_47 : decode cX8_goesOn 47 = .ok (.iadd, 1) := D_96 yB_cX8_goesOn rfl rfl
theorem dX8_goesOn_48 : decode cX8_goesOn 48 = .ok (.iaload, 1) := D_46 yB_cX8_goesOn rfl rfl
theorem dX8_goesOn_49 : decode cX8_goesOn 49 = .ok (.invokestatic 184, 3) := D_184 yB_cX8_goesOn rfl rfl rfl
theorem dX8_goesOn_52 : decode cX8_goesOn 52 = .ok (.ifCond .ne 20, 3) := D_154 yB_cX8_goesOn rfl rfl (sg_p (m := 32768) (N := 20) rfl rfl rfl)
theorem dX8_goesOn_55 : decode cX8_goesOn 55 = .ok (.aload_n 1, 1) := D_43 yB_cX8_goesOn rfl rfl
theorem dX8_goesOn_56 : decode cX8_goesOn 56 = .ok (.iload_n 2, 1) := D_28 yB_cX8_goesOn rfl rfl
theorem dX8_goesOn_57 : decode cX8_goesOn 57 = .ok (.bipush 9, 2) := D_16 yB_cX8_goesOn rfl rfl (sg_p (m := 128) (N := 9) rfl rfl rfl)
theorem dX8_goesOn_59 : decode cX8_goesOn 59 = .ok (.aload_n 1, 1) := D_43 yB_cX8_goesOn rfl rfl
theorem dX8_goesOn_60 : decode cX8_goesOn 60 = .ok (.iload_n 2, 1) := D_28 yB_cX8_goesOn rfl rfl
theorem dX8_goesOn_61 : decode cX8_goesOn 61 = .ok (.bipush 9, 2) := D_16 yB_cX8_goesOn rfl rfl (sg_p (m := 128) (N := 9) rfl rfl rfl)
theorem dX8_goesOn_63 : decode cX8_goesOn 63 = .ok (.invokestatic 130, 3) := D_184 yB_cX8_goesOn rfl rfl rfl
theorem dX8_goesOn_66 : decode cX8_goesOn 66 = .ok (.iconst 1, 1) := D_4 yB_cX8_goesOn rfl rfl
theorem dX8_goesOn_67 : decode cX8_goesOn 67 = .ok (.iadd, 1) := D_96 yB_cX8_goesOn rfl rfl
theorem dX8_goesOn_68 : decode cX8_goesOn 68 = .ok (.invokestatic 97, 3) := D_184 yB_cX8_goesOn rfl rfl rfl
theorem dX8_goesOn_71 : decode cX8_goesOn 71 = .ok (.return_, 1) := D_177 yB_cX8_goesOn rfl rfl
theorem dX8_goesOn_72 : decode cX8_goesOn 72 = .ok (.aload_n 1, 1) := D_43 yB_cX8_goesOn rfl rfl
theorem dX8_goesOn_73 : decode cX8_goesOn 73 = .ok (.iload_n 3, 1) := D_29 yB_cX8_goesOn rfl rfl
theorem dX8_goesOn_74 : decode cX8_goesOn 74 = .ok (.iload 4, 2) := D_21 yB_cX8_goesOn rfl rfl rfl
theorem dX8_goesOn_76 : decode cX8_goesOn 76 = .ok (.iadd, 1) := D_96 yB_cX8_goesOn rfl rfl
theorem dX8_goesOn_77 : decode cX8_goesOn 77 = .ok (.invokestatic 174, 3) := D_184 yB_cX8_goesOn rfl rfl rfl
theorem dX8_goesOn_80 : decode cX8_goesOn 80 = .ok (.ifCond .eq 97, 3) := D_153 yB_cX8_goesOn rfl rfl (sg_p (m := 32768) (N := 97) rfl rfl rfl)
theorem dX8_goesOn_83 : decode cX8_goesOn 83 = .ok (.aload_n 1, 1) := D_43 yB_cX8_goesOn rfl rfl
theorem dX8_goesOn_84 : decode cX8_goesOn 84 = .ok (.iload_n 2, 1) := D_28 yB_cX8_goesOn rfl rfl
theorem dX8_goesOn_85 : decode cX8_goesOn 85 = .ok (.iconst 2, 1) := D_5 yB_cX8_goesOn rfl rfl
theorem dX8_goesOn_86 : decode cX8_goesOn 86 = .ok (.invokestatic 130, 3) := D_184 yB_cX8_goesOn rfl rfl rfl
theorem dX8_goesOn_89 : decode cX8_goesOn 89 = .ok (.iconst 1, 1) := D_4 yB_cX8_goesOn rfl rfl
theorem dX8_goesOn_90 : decode cX8_goesOn 90 = .ok (.if_icmp .ne 31, 3) := D_160 yB_cX8_goesOn rfl rfl (sg_p (m := 32768) (N := 31) rfl rfl rfl)
theorem dX8_goesOn_93 : decode cX8_goesOn 93 = .ok (.aload_n 1, 1) := D_43 yB_cX8_goesOn rfl rfl
theorem dX8_goesOn_94 : decode cX8_goesOn 94 = .ok (.bipush 14, 2) := D_16 yB_cX8_goesOn rfl rfl (sg_p (m := 128) (N := 14) rfl rfl rfl)
theorem dX8_goesOn_96 : decode cX8_goesOn 96 = .ok (.iconst 3, 1) := D_6 yB_cX8_goesOn rfl rfl
theorem dX8_goesOn_97 : decode cX8_goesOn 97 = .ok (.iload 6, 2) := D_21 yB_cX8_goesOn rfl rfl rfl
theorem dX8_goesOn_99 : decode cX8_goesOn 99 = .ok (.imul, 1) := D_104 yB_cX8_goesOn rfl rfl
theorem dX8_goesOn_100 : decode cX8_goesOn 100 = .ok (.iadd, 1) := D_96 yB_cX8_goesOn rfl rfl
theorem dX8_goesOn_101 : decode cX8_goesOn 101 = .ok (.iconst 1, 1) := D_4 yB_cX8_goesOn rfl rfl
theorem dX8_goesOn_102 : decode cX8_goesOn 102 = .ok (.iadd, 1) := D_96 yB_cX8_goesOn rfl rfl
theorem dX8_goesOn_103 : decode cX8_goesOn 103 = .ok (.iaload, 1) := D_46 yB_cX8_goesOn rfl rfl
theorem dX8_goesOn_104 : decode cX8_goesOn 104 = .ok (.iload 4, 2) := D_21 yB_cX8_goesOn rfl rfl rfl
theorem dX8_goesOn_106 : decode cX8_goesOn 106 = .ok (.ifCond .le 7, 3) := D_158 yB_cX8_goesOn rfl rfl (sg_p (m := 32768) (N := 7) rfl rfl rfl)
theorem dX8_goesOn_109 : decode cX8_goesOn 109 = .ok (.iconst 1, 1) := D_4 yB_cX8_goesOn rfl rfl
theorem dX8_goesOn_110 : decode cX8_goesOn 110 = .ok (.goto 4, 3) := D_167 yB_cX8_goesOn rfl rfl (sg_p (m := 32768) (N := 4) rfl rfl rfl)
theorem dX8_goesOn_113 : decode cX8_goesOn 113 = .ok (.iconst 2, 1) := D_5 yB_cX8_goesOn rfl rfl
theorem dX8_goesOn_114 : decode cX8_goesOn 114 = .ok (.if_icmp .ne 7, 3) := D_160 yB_cX8_goesOn rfl rfl (sg_p (m := 32768) (N := 7) rfl rfl rfl)
theorem dX8_goesOn_117 : decode cX8_goesOn 117 = .ok (.iconst 1, 1) := D_4 yB_cX8_goesOn rfl rfl
theorem dX8_goesOn_118 : decode cX8_goesOn 118 = .ok (.goto 4, 3) := D_167 yB_cX8_goesOn rfl rfl (sg_p (m := 32768) (N := 4) rfl rfl rfl)
theorem dX8_goesOn_121 : decode cX8_goesOn 121 = .ok (.iconst 0, 1) := D_3 yB_cX8_goesOn rfl rfl
theorem dX8_goesOn_122 : decode cX8_goesOn 122 = .ok (.istore 7, 2) := D_54 yB_cX8_goesOn rfl rfl rfl
theorem dX8_goesOn_124 : decode cX8_goesOn 124 = .ok (.aload_n 1, 1) := D_43 yB_cX8_goesOn rfl rfl
theorem dX8_goesOn_125 : decode cX8_goesOn 125 = .ok (.iload_n 2, 1) := D_28 yB_cX8_goesOn rfl rfl
theorem dX8_goesOn_126 : decode cX8_goesOn 126 = .ok (.iconst 5, 1) := D_8 yB_cX8_goesOn rfl rfl
theorem dX8_goesOn_127 : decode cX8_goesOn 127 = .ok (.iload_n 3, 1) := D_29 yB_cX8_goesOn rfl rfl
theorem dX8_goesOn_128 : decode cX8_goesOn 128 = .ok (.iload 4, 2) := D_21 yB_cX8_goesOn rfl rfl rfl
theorem dX8_goesOn_130 : decode cX8_goesOn 130 = .ok (.iadd, 1) := D_96 yB_cX8_goesOn rfl rfl
theorem dX8_goesOn_131 : decode cX8_goesOn 131 = .ok (.invokestatic 97, 3) := D_184 yB_cX8_goesOn rfl rfl rfl
theorem dX8_goesOn_134 : decode cX8_goesOn 134 = .ok (.aload_n 1, 1) := D_43 yB_cX8_goesOn rfl rfl
theorem dX8_goesOn_135 : decode cX8_goesOn 135 = .ok (.iload_n 2, 1) := D_28 yB_cX8_goesOn rfl rfl
theorem dX8_goesOn_136 : decode cX8_goesOn 136 = .ok (.bipush 7, 2) := D_16 yB_cX8_goesOn rfl rfl (sg_p (m := 128) (N := 7) rfl rfl rfl)
theorem dX8_goesOn_138 : decode cX8_goesOn 138 = .ok (.iload 7, 2) := D_21 yB_cX8_goesOn rfl rfl rfl
theorem dX8_goesOn_140 : decode cX8_goesOn 140 = .ok (.invokestatic 97, 3) := D_184 yB_cX8_goesOn rfl rfl rfl
theorem dX8_goesOn_143 : decode cX8_goesOn 143 = .ok (.aload_n 0, 1) := D_42 yB_cX8_goesOn rfl rfl
theorem dX8_goesOn_144 : decode cX8_goesOn 144 = .ok (.iconst 1, 1) := D_4 yB_cX8_goesOn rfl rfl
theorem dX8_goesOn_145 : decode cX8_goesOn 145 = .ok (.putfield 177, 3) := D_181 yB_cX8_goesOn rfl rfl rfl
theorem dX8_goesOn_148 : decode cX8_goesOn 148 = .ok (.iload_n 3, 1) := D_29 yB_cX8_goesOn rfl rfl
theorem dX8_goesOn_149 : decode cX8_goesOn 149 = .ok (.iload 4, 2) := D_21 yB_cX8_goesOn rfl rfl rfl
theorem dX8_goesOn_151 : decode cX8_goesOn 151 = .ok (.iadd, 1) := D_96 yB_cX8_goesOn rfl rfl
theorem dX8_goesOn_152 : decode cX8_goesOn 152 = .ok (.aload_n 1, 1) := D_43 yB_cX8_goesOn rfl rfl
theorem dX8_goesOn_153 : decode cX8_goesOn 153 = .ok (.iload_n 2, 1) := D_28 yB_cX8_goesOn rfl rfl
theorem dX8_goesOn_154 : decode cX8_goesOn 154 = .ok (.invokestatic 188, 3) := D_184 yB_cX8_goesOn rfl rfl rfl
theorem dX8_goesOn_157 : decode cX8_goesOn 157 = .ok (.if_icmp .ne 19, 3) := D_160 yB_cX8_goesOn rfl rfl (sg_p (m := 32768) (N := 19) rfl rfl rfl)
theorem dX8_goesOn_160 : decode cX8_goesOn 160 = .ok (.aload_n 1, 1) := D_43 yB_cX8_goesOn rfl rfl
theorem dX8_goesOn_161 : decode cX8_goesOn 161 = .ok (.iload_n 2, 1) := D_28 yB_cX8_goesOn rfl rfl
theorem dX8_goesOn_162 : decode cX8_goesOn 162 = .ok (.iconst 5, 1) := D_8 yB_cX8_goesOn rfl rfl
theorem dX8_goesOn_163 : decode cX8_goesOn 163 = .ok (.bipush (-3), 2) := D_16 yB_cX8_goesOn rfl rfl (sg_n (m := 128) (N := 3) rfl rfl rfl)
theorem dX8_goesOn_165 : decode cX8_goesOn 165 = .ok (.invokestatic 97, 3) := D_184 yB_cX8_goesOn rfl rfl rfl
theorem dX8_goesOn_168 : decode cX8_goesOn 168 = .ok (.aload_n 1, 1) := D_43 yB_cX8_goesOn rfl rfl
theorem dX8_goesOn_169 : decode cX8_goesOn 169 = .ok (.iload_n 2, 1) := D_28 yB_cX8_goesOn rfl rfl
theorem dX8_goesOn_170 : decode cX8_goesOn 170 = .ok (.bipush 7, 2) := D_16 yB_cX8_goesOn rfl rfl (sg_p (m := 128) (N := 7) rfl rfl rfl)
theorem dX8_goesOn_172 : decode cX8_goesOn 172 = .ok (.iconst 0, 1) := D_3 yB_cX8_goesOn rfl rfl
theorem dX8_goesOn_173 : decode cX8_goesOn 173 = .ok (.invokestatic 97, 3) := D_184 yB_cX8_goesOn rfl rfl rfl
theorem dX8_goesOn_176 : decode cX8_goesOn 176 = .ok (.return_, 1) := D_177 yB_cX8_goesOn rfl rfl
theorem dX8_goesOn_177 : decode cX8_goesOn 177 = .ok (.aload_n 1, 1) := D_43 yB_cX8_goesOn rfl rfl
theorem dX8_goesOn_178 : decode cX8_goesOn 178 = .ok (.iload_n 2, 1) := D_28 yB_cX8_goesOn rfl rfl
theorem dX8_goesOn_179 : decode cX8_goesOn 179 = .ok (.bipush 9, 2) := D_16 yB_cX8_goesOn rfl rfl (sg_p (m := 128) (N := 9) rfl rfl rfl)
theorem dX8_goesOn_181 : decode cX8_goesOn 181 = .ok (.aload_n 1, 1) := D_43 yB_cX8_goesOn rfl rfl
theorem dX8_goesOn_182 : decode cX8_goesOn 182 = .ok (.iload_n 2, 1) := D_28 yB_cX8_goesOn rfl rfl
theorem dX8_goesOn_183 : decode cX8_goesOn 183 = .ok (.bipush 9, 2) := D_16 yB_cX8_goesOn rfl rfl (sg_p (m := 128) (N := 9) rfl rfl rfl)
theorem dX8_goesOn_185 : decode cX8_goesOn 185 = .ok (.invokestatic 130, 3) := D_184 yB_cX8_goesOn rfl rfl rfl
theorem dX8_goesOn_188 : decode cX8_goesOn 188 = .ok (.iconst 1, 1) := D_4 yB_cX8_goesOn rfl rfl
theorem dX8_goesOn_189 : decode cX8_goesOn 189 = .ok (.iadd, 1) := D_96 yB_cX8_goesOn rfl rfl
theorem dX8_goesOn_190 : decode cX8_goesOn 190 = .ok (.invokestatic 97, 3) := D_184 yB_cX8_goesOn rfl rfl rfl
theorem dX8_goesOn_193 : decode cX8_goesOn 193 = .ok (.iload 5, 2) := D_21 yB_cX8_goesOn rfl rfl rfl
theorem dX8_goesOn_195 : decode cX8_goesOn 195 = .ok (.ifCond .lt 4, 3) := D_155 yB_cX8_goesOn rfl rfl (sg_p (m := 32768) (N := 4) rfl rfl rfl)
theorem dX8_goesOn_198 : decode cX8_goesOn 198 = .ok (.return_, 1) := D_177 yB_cX8_goesOn rfl rfl
theorem dX8_goesOn_199 : decode cX8_goesOn 199 = .ok (.iconst 0, 1) := D_3 yB_cX8_goesOn rfl rfl
theorem dX8_goesOn_200 : decode cX8_goesOn 200 = .ok (.istore 7, 2) := D_54 yB_cX8_goesOn rfl rfl rfl
theorem dX8_goesOn_202 : decode cX8_goesOn 202 = .ok (.iload 7, 2) := D_21 yB_cX8_goesOn rfl rfl rfl
theorem dX8_goesOn_204 : decode cX8_goesOn 204 = .ok (.aload_n 1, 1) := D_43 yB_cX8_goesOn rfl rfl
theorem dX8_goesOn_205 : decode cX8_goesOn 205 = .ok (.iconst 1, 1) := D_4 yB_cX8_goesOn rfl rfl
theorem dX8_goesOn_206 : decode cX8_goesOn 206 = .ok (.iaload, 1) := D_46 yB_cX8_goesOn rfl rfl
theorem dX8_goesOn_207 : decode cX8_goesOn 207 = .ok (.if_icmp .ge 138, 3) := D_162 yB_cX8_goesOn rfl rfl (sg_p (m := 32768) (N := 138) rfl rfl rfl)
theorem dX8_goesOn_210 : decode cX8_goesOn 210 = .ok (.aload_n 1, 1) := D_43 yB_cX8_goesOn rfl rfl
theorem dX8_goesOn_211 : decode cX8_goesOn 211 = .ok (.iload 7, 2) := D_21 yB_cX8_goesOn rfl rfl rfl
theorem dX8_goesOn_213 : decode cX8_goesOn 213 = .ok (.iconst 5, 1) := D_8 yB_cX8_goesOn rfl rfl
theorem dX8_goesOn_214 : decode cX8_goesOn 214 = .ok (.invokestatic 130, 3) := D_184 yB_cX8_goesOn rfl rfl rfl
theorem dX8_goesOn_217 : decode cX8_goesOn 217 = .ok (.iload_n 3, 1) := D_29 yB_cX8_goesOn rfl rfl
theorem dX8_goesOn_218 : decode cX8_goesOn 218 = .ok (.iload 4, 2) := D_21 yB_cX8_goesOn rfl rfl rfl
theorem dX8_goesOn_220 : decode cX8_goesOn 220 = .ok (.iadd, 1) := D_96 yB_cX8_goesOn rfl rfl
theorem dX8_goesOn_221 : decode cX8_goesOn 221 = .ok (.if_icmp .ne 118, 3) := D_160 yB_cX8_goesOn rfl rfl (sg_p (m := 32768) (N := 118) rfl rfl rfl)
theorem dX8_goesOn_224 : decode cX8_goesOn 224 = .ok (.aload_n 1, 1) := D_43 yB_cX8_goesOn rfl rfl
theorem dX8_goesOn_225 : decode cX8_goesOn 225 = .ok (.iload 7, 2) := D_21 yB_cX8_goesOn rfl rfl rfl
theorem dX8_goesOn_227 : decode cX8_goesOn 227 = .ok (.iconst 0, 1) := D_3 yB_cX8_goesOn rfl rfl
theorem dX8_goesOn_228 : decode cX8_goesOn 228 = .ok (.invokestatic 130, 3) := D_184 yB_cX8_goesOn rfl rfl rfl
theorem dX8_goesOn_231 : decode cX8_goesOn 231 = .ok (.iload 4, 2) := D_21 yB_cX8_goesOn rfl rfl rfl
theorem dX8_goesOn_233 : decode cX8_goesOn 233 = .ok (.if_icmp .eq 106, 3) := D_159 yB_cX8_goesOn rfl rfl (sg_p (m := 32768) (N := 106) rfl rfl rfl)
theorem dX8_goesOn_236 : decode cX8_goesOn 236 = .ok (.aload_n 1, 1) := D_43 yB_cX8_goesOn rfl rfl
theorem dX8_goesOn_237 : decode cX8_goesOn 237 = .ok (.iload 7, 2) := D_21 yB_cX8_goesOn rfl rfl rfl
theorem dX8_goesOn_239 : decode cX8_goesOn 239 = .ok (.bipush 6, 2) := D_16 yB_cX8_goesOn rfl rfl (sg_p (m := 128) (N := 6) rfl rfl rfl)
theorem dX8_goesOn_241 : decode cX8_goesOn 241 = .ok (.invokestatic 130, 3) := D_184 yB_cX8_goesOn rfl rfl rfl
theorem dX8_goesOn_244 : decode cX8_goesOn 244 = .ok (.ifCond .le 6, 3) := D_158 yB_cX8_goesOn rfl rfl (sg_p (m := 32768) (N := 6) rfl rfl rfl)
theorem dX8_goesOn_247 : decode cX8_goesOn 247 = .ok (.goto 92, 3) := D_167 yB_cX8_goesOn rfl rfl (sg_p (m := 32768) (N := 92) rfl rfl rfl)
theorem dX8_goesOn_250 : decode cX8_goesOn 250 = .ok (.aload_n 1, 1) := D_43 yB_cX8_goesOn rfl rfl
theorem dX8_goesOn_251 : decode cX8_goesOn 251 = .ok (.iconst 4, 1) := D_7 yB_cX8_goesOn rfl rfl
theorem dX8_goesOn_252 : decode cX8_goesOn 252 = .ok (.dup2, 1) := D_92 yB_cX8_goesOn rfl rfl
theorem dX8_goesOn_253 : decode cX8_goesOn 253 = .ok (.iaload, 1) := D_46 yB_cX8_goesOn rfl rfl
theorem dX8_goesOn_254 : decode cX8_goesOn 254 = .ok (.iconst 1, 1) := D_4 yB_cX8_goesOn rfl rfl
theorem dX8_goesOn_255 : decode cX8_goesOn 255 = .ok (.iadd, 1) := D_96 yB_cX8_goesOn rfl rfl
theorem dX8_goesOn_256 : decode cX8_goesOn 256 = .ok (.iastore, 1) := D_79 yB_cX8_goesOn rfl rfl
theorem dX8_goesOn_257 : decode cX8_goesOn 257 = .ok (.aload_n 0, 1) := D_42 yB_cX8_goesOn rfl rfl
theorem dX8_goesOn_258 : decode cX8_goesOn 258 = .ok (.getfield 191, 3) := D_180 yB_cX8_goesOn rfl rfl rfl
theorem dX8_goesOn_261 : decode cX8_goesOn 261 = .ok (.ifCond .ge 44, 3) := D_156 yB_cX8_goesOn rfl rfl (sg_p (m := 32768) (N := 44) rfl rfl rfl)
theorem dX8_goesOn_264 : decode cX8_goesOn 264 = .ok (.iload_n 2, 1) := D_28 yB_cX8_goesOn rfl rfl
theorem dX8_goesOn_265 : decode cX8_goesOn 265 = .ok (.aload_n 0, 1) := D_42 yB_cX8_goesOn rfl rfl
theorem dX8_goesOn_266 : decode cX8_goesOn 266 = .ok (.getfield 194, 3) := D_180 yB_cX8_goesOn rfl rfl rfl
theorem dX8_goesOn_269 : decode cX8_goesOn 269 = .ok (.if_icmp .ne 12, 3) := D_160 yB_cX8_goesOn rfl rfl (sg_p (m := 32768) (N := 12) rfl rfl rfl)
theorem dX8_goesOn_272 : decode cX8_goesOn 272 = .ok (.iload 7, 2) := D_21 yB_cX8_goesOn rfl rfl rfl
theorem dX8_goesOn_274 : decode cX8_goesOn 274 = .ok (.aload_n 0, 1) := D_42 yB_cX8_goesOn rfl rfl
theorem dX8_goesOn_275 : decode cX8_goesOn 275 = .ok (.getfield 197, 3) := D_180 yB_cX8_goesOn rfl rfl rfl
theorem dX8_goesOn_278 : decode cX8_goesOn 278 = .ok (.if_icmp .eq 20, 3) := D_159 yB_cX8_goesOn rfl rfl (sg_p (m := 32768) (N := 20) rfl rfl rfl)
theorem dX8_goesOn_281 : decode cX8_goesOn 281 = .ok (.iload 7, 2) := D_21 yB_cX8_goesOn rfl rfl rfl
theorem dX8_goesOn_283 : decode cX8_goesOn 283 = .ok (.aload_n 0, 1) := D_42 yB_cX8_goesOn rfl rfl
theorem dX8_goesOn_284 : decode cX8_goesOn 284 = .ok (.getfield 194, 3) := D_180 yB_cX8_goesOn rfl rfl rfl
theorem dX8_goesOn_287 : decode cX8_goesOn 287 = .ok (.if_icmp .ne 18, 3) := D_160 yB_cX8_goesOn rfl rfl (sg_p (m := 32768) (N := 18) rfl rfl rfl)
theorem dX8_goesOn_290 : decode cX8_goesOn 290 = .ok (.iload_n 2, 1) := D_28 yB_cX8_goesOn rfl rfl
theorem dX8_goesOn_291 : decode cX8_goesOn 291 = .ok (.aload_n 0, 1) := D_42 yB_cX8_goesOn rfl rfl
theorem dX8_goesOn_292 : decode cX8_goesOn 292 = .ok (.getfield 197, 3) := D_180 yB_cX8_goesOn rfl rfl rfl
theorem dX8_goesOn_295 : decode cX8_goesOn 295 = .ok (.if_icmp .ne 10, 3) := D_160 yB_cX8_goesOn rfl rfl (sg_p (m := 32768) (N := 10) rfl rfl rfl)
theorem dX8_goesOn_298 : decode cX8_goesOn 298 = .ok (.aload_n 0, 1) := D_42 yB_cX8_goesOn rfl rfl
theorem dX8_goesOn_299 : decode cX8_goesOn 299 = .ok (.aload_n 1, 1) := D_43 yB_cX8_goesOn rfl rfl
theorem dX8_goesOn_300 : decode cX8_goesOn 300 = .ok (.iconst 2, 1) := D_5 yB_cX8_goesOn rfl rfl
theorem dX8_goesOn_301 : decode cX8_goesOn 301 = .ok (.iaload, 1) := D_46 yB_cX8_goesOn rfl rfl
theorem dX8_goesOn_302 : decode cX8_goesOn 302 = .ok (.putfield 191, 3) := D_181 yB_cX8_goesOn rfl rfl rfl
theorem dX8_goesOn_305 : decode cX8_goesOn 305 = .ok (.aload_n 1, 1) := D_43 yB_cX8_goesOn rfl rfl
theorem dX8_goesOn_306 : decode cX8_goesOn 306 = .ok (.iload_n 2, 1) := D_28 yB_cX8_goesOn rfl rfl
theorem dX8_goesOn_307 : decode cX8_goesOn 307 = .ok (.iload 7, 2) := D_21 yB_cX8_goesOn rfl rfl rfl
theorem dX8_goesOn_309 : decode cX8_goesOn 309 = .ok (.aload_n 1, 1) := D_43 yB_cX8_goesOn rfl rfl
theorem dX8_goesOn_310 : decode cX8_goesOn 310 = .ok (.bipush 14, 2) := D_16 yB_cX8_goesOn rfl rfl (sg_p (m := 128) (N := 14) rfl rfl rfl)
theorem dX8_goesOn_312 : decode cX8_goesOn 312 = .ok (.iconst 3, 1) := D_6 yB_cX8_goesOn rfl rfl
theorem dX8_goesOn_313 : decode cX8_goesOn 313 = .ok (.iload 6, 2) := D_21 yB_cX8_goesOn rfl rfl rfl
theorem dX8_goesOn_315 : decode cX8_goesOn 315 = .ok (.imul, 1) := D_104 yB_cX8_goesOn rfl rfl
theorem dX8_goesOn_316 : decode cX8_goesOn 316 = .ok (.iadd, 1) := D_96 yB_cX8_goesOn rfl rfl
theorem dX8_goesOn_317 : decode cX8_goesOn 317 = .ok (.iconst 2, 1) := D_5 yB_cX8_goesOn rfl rfl
theorem dX8_goesOn_318 : decode cX8_goesOn 318 = .ok (.iadd, 1) := D_96 yB_cX8_goesOn rfl rfl
theorem dX8_goesOn_319 : decode cX8_goesOn 319 = .ok (.iaload, 1) := D_46 yB_cX8_goesOn rfl rfl
theorem dX8_goesOn_320 : decode cX8_goesOn 320 = .ok (.iload 6, 2) := D_21 yB_cX8_goesOn rfl rfl rfl
theorem dX8_goesOn_322 : decode cX8_goesOn 322 = .ok (.invokestatic 200, 3) := D_184 yB_cX8_goesOn rfl rfl rfl
theorem dX8_goesOn_325 : decode cX8_goesOn 325 = .ok (.istore 8, 2) := D_54 yB_cX8_goesOn rfl rfl rfl
theorem dX8_goesOn_327 : decode cX8_goesOn 327 = .ok (.iload 8, 2) := D_21 yB_cX8_goesOn rfl rfl rfl
theorem dX8_goesOn_329 : decode cX8_goesOn 329 = .ok (.ifCond .lt 9, 3) := D_155 yB_cX8_goesOn rfl rfl (sg_p (m := 32768) (N := 9) rfl rfl rfl)
theorem dX8_goesOn_332 : decode cX8_goesOn 332 = .ok (.aload_n 1, 1) := D_43 yB_cX8_goesOn rfl rfl
theorem dX8_goesOn_333 : decode cX8_goesOn 333 = .ok (.iload 8, 2) := D_21 yB_cX8_goesOn rfl rfl rfl
theorem dX8_goesOn_335 : decode cX8_goesOn 335 = .ok (.invokestatic 181, 3) := D_184 yB_cX8_goesOn rfl rfl rfl
theorem dX8_goesOn_338 : decode cX8_goesOn 338 = .ok (.return_, 1) := D_177 yB_cX8_goesOn rfl rfl
theorem dX8_goesOn_339 : decode cX8_goesOn 339 = .ok (.iinc 7 1, 3) := D_132 yB_cX8_goesOn rfl rfl rfl (sg_p (m := 128) (N := 1) rfl rfl rfl)
theorem dX8_goesOn_342 : decode cX8_goesOn 342 = .ok (.goto (-140), 3) := D_167 yB_cX8_goesOn rfl rfl (sg_n (m := 32768) (N := 140) rfl rfl rfl)
theorem dX8_goesOn_345 : decode cX8_goesOn 345 = .ok (.return_, 1) := D_177 yB_cX8_goesOn rfl rfl
def F_X8_goesOn_202 (a1 : Nat) (x2 : Int32)  : Nat → Mem → Int32 → Int32 → Int32 → Int32 → Int32 → Option (Mem)
  | 0, _, _, _, _, _, _ => none
  | nn + 1, σ, v7, v6, v5, v4, v3 => if (σ a1 1) ≤ v7 then (some σ) else ((F_X8_get σ a1 v7 5).bind fun r_13 => if r_13 = (v3 + v4) then ((F_X8_get σ a1 v7 0).bind fun r_15 => if r_15 = v4 then (F_X8_goesOn_202 a1 x2 nn σ (v7 + 1) v6 v5 v4 v3) else ((F_X8_get σ a1 v7 6).bind fun r_17 => if r_17 ≤ 0 then (if 0 ≤ ((stm σ a1 4 ((σ a1 4) + 1)) 91 19) then ((ix 121 ((14 + (3 * v6)) + 2)).bind fun k_20 => (F_X8_backsOf (stm σ a1 4 ((σ a1 4) + 1)) a1 x2 v7 ((stm σ a1 4 ((σ a1 4) + 1)) a1 k_20) v6).bind fun r_21 => if r_21 < 0 then (some (stm σ a1 4 ((σ a1 4) + 1))) else ((F_X8_backs_ (stm σ a1 4 ((σ a1 4) + 1)) a1 r_21).bind fun σ_23 => some σ_23)) else (if x2 = ((stm σ a1 4 ((σ a1 4) + 1)) 91 17) then (if v7 = ((stm σ a1 4 ((σ a1 4) + 1)) 91 18) then ((ix 121 ((14 + (3 * v6)) + 2)).bind fun k_40 => (F_X8_backsOf (stm (stm σ a1 4 ((σ a1 4) + 1)) 91 19 ((stm σ a1 4 ((σ a1 4) + 1)) a1 2)) a1 x2 v7 ((stm (stm σ a1 4 ((σ a1 4) + 1)) 91 19 ((stm σ a1 4 ((σ a1 4) + 1)) a1 2)) a1 k_40) v6).bind fun r_41 => if r_41 < 0 then (some (stm (stm σ a1 4 ((σ a1 4) + 1)) 91 19 ((stm σ a1 4 ((σ a1 4) + 1)) a1 2))) else ((F_X8_backs_ (stm (stm σ a1 4 ((σ a1 4) + 1)) 91 19 ((stm σ a1 4 ((σ a1 4) + 1)) a1 2)) a1 r_41).bind fun σ_43 => some σ_43)) else (if v7 = ((stm σ a1 4 ((σ a1 4) + 1)) 91 17) then (if x2 = ((stm σ a1 4 ((σ a1 4) + 1)) 91 18) then ((ix 121 ((14 + (3 * v6)) + 2)).bind fun k_54 => (F_X8_backsOf (stm (stm σ a1 4 ((σ a1 4) + 1)) 91 19 ((stm σ a1 4 ((σ a1 4) + 1)) a1 2)) a1 x2 v7 ((stm (stm σ a1 4 ((σ a1 4) + 1)) 91 19 ((stm σ a1 4 ((σ a1 4) + 1)) a1 2)) a1 k_54) v6).bind fun r_55 => if r_55 < 0 then (some (stm (stm σ a1 4 ((σ a1 4) + 1)) 91 19 ((stm σ a1 4 ((σ a1 4) + 1)) a1 2))) else ((F_X8_backs_ (stm (stm σ a1 4 ((σ a1 4) + 1)) 91 19 ((stm σ a1 4 ((σ a1 4) + 1)) a1 2)) a1 r_55).bind fun σ_57 => some σ_57)) else ((ix 121 ((14 + (3 * v6)) + 2)).bind fun k_50 => (F_X8_backsOf (stm σ a1 4 ((σ a1 4) + 1)) a1 x2 v7 ((stm σ a1 4 ((σ a1 4) + 1)) a1 k_50) v6).bind fun r_51 => if r_51 < 0 then (some (stm σ a1 4 ((σ a1 4) + 1))) else ((F_X8_backs_ (stm σ a1 4 ((σ a1 4) + 1)) a1 r_51).bind fun σ_53 => some σ_53))) else ((ix 121 ((14 + (3 * v6)) + 2)).bind fun k_45 => (F_X8_backsOf (stm σ a1 4 ((σ a1 4) + 1)) a1 x2 v7 ((stm σ a1 4 ((σ a1 4) + 1)) a1 k_45) v6).bind fun r_46 => if r_46 < 0 then (some (stm σ a1 4 ((σ a1 4) + 1))) else ((F_X8_backs_ (stm σ a1 4 ((σ a1 4) + 1)) a1 r_46).bind fun σ_48 => some σ_48)))) else (if v7 = ((stm σ a1 4 ((σ a1 4) + 1)) 91 17) then (if x2 = ((stm σ a1 4 ((σ a1 4) + 1)) 91 18) then ((ix 121 ((14 + (3 * v6)) + 2)).bind fun k_35 => (F_X8_backsOf (stm (stm σ a1 4 ((σ a1 4) + 1)) 91 19 ((stm σ a1 4 ((σ a1 4) + 1)) a1 2)) a1 x2 v7 ((stm (stm σ a1 4 ((σ a1 4) + 1)) 91 19 ((stm σ a1 4 ((σ a1 4) + 1)) a1 2)) a1 k_35) v6).bind fun r_36 => if r_36 < 0 then (some (stm (stm σ a1 4 ((σ a1 4) + 1)) 91 19 ((stm σ a1 4 ((σ a1 4) + 1)) a1 2))) else ((F_X8_backs_ (stm (stm σ a1 4 ((σ a1 4) + 1)) 91 19 ((stm σ a1 4 ((σ a1 4) + 1)) a1 2)) a1 r_36).bind fun σ_38 => some σ_38)) else ((ix 121 ((14 + (3 * v6)) + 2)).bind fun k_31 => (F_X8_backsOf (stm σ a1 4 ((σ a1 4) + 1)) a1 x2 v7 ((stm σ a1 4 ((σ a1 4) + 1)) a1 k_31) v6).bind fun r_32 => if r_32 < 0 then (some (stm σ a1 4 ((σ a1 4) + 1))) else ((F_X8_backs_ (stm σ a1 4 ((σ a1 4) + 1)) a1 r_32).bind fun σ_34 => some σ_34))) else ((ix 121 ((14 + (3 * v6)) + 2)).bind fun k_26 => (F_X8_backsOf (stm σ a1 4 ((σ a1 4) + 1)) a1 x2 v7 ((stm σ a1 4 ((σ a1 4) + 1)) a1 k_26) v6).bind fun r_27 => if r_27 < 0 then (some (stm σ a1 4 ((σ a1 4) + 1))) else ((F_X8_backs_ (stm σ a1 4 ((σ a1 4) + 1)) a1 r_27).bind fun σ_29 => some σ_29))))) else (F_X8_goesOn_202 a1 x2 nn σ (v7 + 1) v6 v5 v4 v3))) else (F_X8_goesOn_202 a1 x2 nn σ (v7 + 1) v6 v5 v4 v3))
def F_X8_goesOn_202b (a1 : Nat) (x2 : Int32)  : Nat → Mem → Int32 → Int32 → Int32 → Int32 → Int32 → Option (Mem)
  | 0, _, _, _, _, _, _ => none
  | nn + 1, σ, v7, v6, v5, v4, v3 => if (σ a1 1) ≤ v7 then (some σ) else ((F_X8_get σ a1 v7 5).bind fun r_104 => if r_104 = (v3 + v4) then ((F_X8_get σ a1 v7 0).bind fun r_106 => if r_106 = v4 then (F_X8_goesOn_202b a1 x2 nn σ (v7 + 1) v6 v5 v4 v3) else ((F_X8_get σ a1 v7 6).bind fun r_108 => if r_108 ≤ 0 then (if 0 ≤ ((stm σ a1 4 ((σ a1 4) + 1)) 91 19) then ((ix 121 ((14 + (3 * v6)) + 2)).bind fun k_111 => (F_X8_backsOf (stm σ a1 4 ((σ a1 4) + 1)) a1 x2 v7 ((stm σ a1 4 ((σ a1 4) + 1)) a1 k_111) v6).bind fun r_112 => if r_112 < 0 then (some (stm σ a1 4 ((σ a1 4) + 1))) else ((F_X8_backs_ (stm σ a1 4 ((σ a1 4) + 1)) a1 r_112).bind fun σ_114 => some σ_114)) else (if x2 = ((stm σ a1 4 ((σ a1 4) + 1)) 91 17) then (if v7 = ((stm σ a1 4 ((σ a1 4) + 1)) 91 18) then ((ix 121 ((14 + (3 * v6)) + 2)).bind fun k_131 => (F_X8_backsOf (stm (stm σ a1 4 ((σ a1 4) + 1)) 91 19 ((stm σ a1 4 ((σ a1 4) + 1)) a1 2)) a1 x2 v7 ((stm (stm σ a1 4 ((σ a1 4) + 1)) 91 19 ((stm σ a1 4 ((σ a1 4) + 1)) a1 2)) a1 k_131) v6).bind fun r_132 => if r_132 < 0 then (some (stm (stm σ a1 4 ((σ a1 4) + 1)) 91 19 ((stm σ a1 4 ((σ a1 4) + 1)) a1 2))) else ((F_X8_backs_ (stm (stm σ a1 4 ((σ a1 4) + 1)) 91 19 ((stm σ a1 4 ((σ a1 4) + 1)) a1 2)) a1 r_132).bind fun σ_134 => some σ_134)) else (if v7 = ((stm σ a1 4 ((σ a1 4) + 1)) 91 17) then (if x2 = ((stm σ a1 4 ((σ a1 4) + 1)) 91 18) then ((ix 121 ((14 + (3 * v6)) + 2)).bind fun k_145 => (F_X8_backsOf (stm (stm σ a1 4 ((σ a1 4) + 1)) 91 19 ((stm σ a1 4 ((σ a1 4) + 1)) a1 2)) a1 x2 v7 ((stm (stm σ a1 4 ((σ a1 4) + 1)) 91 19 ((stm σ a1 4 ((σ a1 4) + 1)) a1 2)) a1 k_145) v6).bind fun r_146 => if r_146 < 0 then (some (stm (stm σ a1 4 ((σ a1 4) + 1)) 91 19 ((stm σ a1 4 ((σ a1 4) + 1)) a1 2))) else ((F_X8_backs_ (stm (stm σ a1 4 ((σ a1 4) + 1)) 91 19 ((stm σ a1 4 ((σ a1 4) + 1)) a1 2)) a1 r_146).bind fun σ_148 => some σ_148)) else ((ix 121 ((14 + (3 * v6)) + 2)).bind fun k_141 => (F_X8_backsOf (stm σ a1 4 ((σ a1 4) + 1)) a1 x2 v7 ((stm σ a1 4 ((σ a1 4) + 1)) a1 k_141) v6).bind fun r_142 => if r_142 < 0 then (some (stm σ a1 4 ((σ a1 4) + 1))) else ((F_X8_backs_ (stm σ a1 4 ((σ a1 4) + 1)) a1 r_142).bind fun σ_144 => some σ_144))) else ((ix 121 ((14 + (3 * v6)) + 2)).bind fun k_136 => (F_X8_backsOf (stm σ a1 4 ((σ a1 4) + 1)) a1 x2 v7 ((stm σ a1 4 ((σ a1 4) + 1)) a1 k_136) v6).bind fun r_137 => if r_137 < 0 then (some (stm σ a1 4 ((σ a1 4) + 1))) else ((F_X8_backs_ (stm σ a1 4 ((σ a1 4) + 1)) a1 r_137).bind fun σ_139 => some σ_139)))) else (if v7 = ((stm σ a1 4 ((σ a1 4) + 1)) 91 17) then (if x2 = ((stm σ a1 4 ((σ a1 4) + 1)) 91 18) then ((ix 121 ((14 + (3 * v6)) + 2)).bind fun k_126 => (F_X8_backsOf (stm (stm σ a1 4 ((σ a1 4) + 1)) 91 19 ((stm σ a1 4 ((σ a1 4) + 1)) a1 2)) a1 x2 v7 ((stm (stm σ a1 4 ((σ a1 4) + 1)) 91 19 ((stm σ a1 4 ((σ a1 4) + 1)) a1 2)) a1 k_126) v6).bind fun r_127 => if r_127 < 0 then (some (stm (stm σ a1 4 ((σ a1 4) + 1)) 91 19 ((stm σ a1 4 ((σ a1 4) + 1)) a1 2))) else ((F_X8_backs_ (stm (stm σ a1 4 ((σ a1 4) + 1)) 91 19 ((stm σ a1 4 ((σ a1 4) + 1)) a1 2)) a1 r_127).bind fun σ_129 => some σ_129)) else ((ix 121 ((14 + (3 * v6)) + 2)).bind fun k_122 => (F_X8_backsOf (stm σ a1 4 ((σ a1 4) + 1)) a1 x2 v7 ((stm σ a1 4 ((σ a1 4) + 1)) a1 k_122) v6).bind fun r_123 => if r_123 < 0 then (some (stm σ a1 4 ((σ a1 4) + 1))) else ((F_X8_backs_ (stm σ a1 4 ((σ a1 4) + 1)) a1 r_123).bind fun σ_125 => some σ_125))) else ((ix 121 ((14 + (3 * v6)) + 2)).bind fun k_117 => (F_X8_backsOf (stm σ a1 4 ((σ a1 4) + 1)) a1 x2 v7 ((stm σ a1 4 ((σ a1 4) + 1)) a1 k_117) v6).bind fun r_118 => if r_118 < 0 then (some (stm σ a1 4 ((σ a1 4) + 1))) else ((F_X8_backs_ (stm σ a1 4 ((σ a1 4) + 1)) a1 r_118).bind fun σ_120 => some σ_120))))) else (F_X8_goesOn_202b a1 x2 nn σ (v7 + 1) v6 v5 v4 v3))) else (F_X8_goesOn_202b a1 x2 nn σ (v7 + 1) v6 v5 v4 v3))
def F_X8_goesOn (σ : Mem) (a1 : Nat) (x2 : Int32) : Option (Mem) := (F_X8_get σ a1 x2 5).bind fun r_1 => (F_X8_get σ a1 x2 0).bind fun r_2 => (F_X8_placeAt σ a1 r_1).bind fun r_3 => (F_X8_pieceFrom σ a1 r_1 r_2).bind fun r_4 => if r_3 < 0 then ((F_X8_hasRoom σ a1 (r_1 + r_2)).bind fun r_6 => if r_6 = 0 then ((F_X8_get σ a1 x2 9).bind fun r_8 => (F_X8_puts σ a1 x2 9 (r_8 + 1)).bind fun σ_9 => if r_3 < 0 then (F_X8_goesOn_202 a1 x2 FU σ_9 0 r_4 r_3 r_2 r_1) else (some σ_9)) else ((F_X8_get σ a1 x2 2).bind fun r_58 => if r_58 = 1 then ((ix 121 ((14 + (3 * r_4)) + 1)).bind fun k_66 => if r_2 ≤ 0 then (if (σ a1 k_66) = 2 then ((F_X8_puts σ a1 x2 5 (r_1 + r_2)).bind fun σ_75 => (F_X8_puts σ_75 a1 x2 7 1).bind fun σ_76 => (F_X8_goal (stm σ_76 91 20 1) a1 x2).bind fun r_77 => if (r_1 + r_2) = r_77 then ((F_X8_puts (stm σ_76 91 20 1) a1 x2 5 (-3)).bind fun σ_79 => (F_X8_puts σ_79 a1 x2 7 0).bind fun σ_80 => some σ_80) else (some (stm σ_76 91 20 1))) else ((F_X8_puts σ a1 x2 5 (r_1 + r_2)).bind fun σ_69 => (F_X8_puts σ_69 a1 x2 7 0).bind fun σ_70 => (F_X8_goal (stm σ_70 91 20 1) a1 x2).bind fun r_71 => if (r_1 + r_2) = r_71 then ((F_X8_puts (stm σ_70 91 20 1) a1 x2 5 (-3)).bind fun σ_73 => (F_X8_puts σ_73 a1 x2 7 0).bind fun σ_74 => some σ_74) else (some (stm σ_70 91 20 1)))) else (if (σ a1 k_66) = 1 then ((F_X8_puts σ a1 x2 5 (r_1 + r_2)).bind fun σ_88 => (F_X8_puts σ_88 a1 x2 7 1).bind fun σ_89 => (F_X8_goal (stm σ_89 91 20 1) a1 x2).bind fun r_90 => if (r_1 + r_2) = r_90 then ((F_X8_puts (stm σ_89 91 20 1) a1 x2 5 (-3)).bind fun σ_92 => (F_X8_puts σ_92 a1 x2 7 0).bind fun σ_93 => some σ_93) else (some (stm σ_89 91 20 1))) else ((F_X8_puts σ a1 x2 5 (r_1 + r_2)).bind fun σ_82 => (F_X8_puts σ_82 a1 x2 7 0).bind fun σ_83 => (F_X8_goal (stm σ_83 91 20 1) a1 x2).bind fun r_84 => if (r_1 + r_2) = r_84 then ((F_X8_puts (stm σ_83 91 20 1) a1 x2 5 (-3)).bind fun σ_86 => (F_X8_puts σ_86 a1 x2 7 0).bind fun σ_87 => some σ_87) else (some (stm σ_83 91 20 1))))) else ((F_X8_puts σ a1 x2 5 (r_1 + r_2)).bind fun σ_60 => (F_X8_puts σ_60 a1 x2 7 0).bind fun σ_61 => (F_X8_goal (stm σ_61 91 20 1) a1 x2).bind fun r_62 => if (r_1 + r_2) = r_62 then ((F_X8_puts (stm σ_61 91 20 1) a1 x2 5 (-3)).bind fun σ_64 => (F_X8_puts σ_64 a1 x2 7 0).bind fun σ_65 => some σ_65) else (some (stm σ_61 91 20 1))))) else ((ix 121 ((14 + (3 * r_4)) + 2)).bind fun k_94 => (F_X8_entersBy σ a1 x2 (σ a1 k_94)).bind fun r_95 => if r_95 = 0 then ((F_X8_get σ a1 x2 9).bind fun r_185 => (F_X8_puts σ a1 x2 9 (r_185 + 1)).bind fun σ_186 => some σ_186) else ((F_X8_hasRoom σ a1 (r_1 + r_2)).bind fun r_97 => if r_97 = 0 then ((F_X8_get σ a1 x2 9).bind fun r_99 => (F_X8_puts σ a1 x2 9 (r_99 + 1)).bind fun σ_100 => if r_3 < 0 then (F_X8_goesOn_202b a1 x2 FU σ_100 0 r_4 r_3 r_2 r_1) else (some σ_100)) else ((F_X8_get σ a1 x2 2).bind fun r_149 => if r_149 = 1 then ((ix 121 ((14 + (3 * r_4)) + 1)).bind fun k_157 => if r_2 ≤ 0 then (if (σ a1 k_157) = 2 then ((F_X8_puts σ a1 x2 5 (r_1 + r_2)).bind fun σ_166 => (F_X8_puts σ_166 a1 x2 7 1).bind fun σ_167 => (F_X8_goal (stm σ_167 91 20 1) a1 x2).bind fun r_168 => if (r_1 + r_2) = r_168 then ((F_X8_puts (stm σ_167 91 20 1) a1 x2 5 (-3)).bind fun σ_170 => (F_X8_puts σ_170 a1 x2 7 0).bind fun σ_171 => some σ_171) else (some (stm σ_167 91 20 1))) else ((F_X8_puts σ a1 x2 5 (r_1 + r_2)).bind fun σ_160 => (F_X8_puts σ_160 a1 x2 7 0).bind fun σ_161 => (F_X8_goal (stm σ_161 91 20 1) a1 x2).bind fun r_162 => if (r_1 + r_2) = r_162 then ((F_X8_puts (stm σ_161 91 20 1) a1 x2 5 (-3)).bind fun σ_164 => (F_X8_puts σ_164 a1 x2 7 0).bind fun σ_165 => some σ_165) else (some (stm σ_161 91 20 1)))) else (if (σ a1 k_157) = 1 then ((F_X8_puts σ a1 x2 5 (r_1 + r_2)).bind fun σ_179 => (F_X8_puts σ_179 a1 x2 7 1).bind fun σ_180 => (F_X8_goal (stm σ_180 91 20 1) a1 x2).bind fun r_181 => if (r_1 + r_2) = r_181 then ((F_X8_puts (stm σ_180 91 20 1) a1 x2 5 (-3)).bind fun σ_183 => (F_X8_puts σ_183 a1 x2 7 0).bind fun σ_184 => some σ_184) else (some (stm σ_180 91 20 1))) else ((F_X8_puts σ a1 x2 5 (r_1 + r_2)).bind fun σ_173 => (F_X8_puts σ_173 a1 x2 7 0).bind fun σ_174 => (F_X8_goal (stm σ_174 91 20 1) a1 x2).bind fun r_175 => if (r_1 + r_2) = r_175 then ((F_X8_puts (stm σ_174 91 20 1) a1 x2 5 (-3)).bind fun σ_177 => (F_X8_puts σ_177 a1 x2 7 0).bind fun σ_178 => some σ_178) else (some (stm σ_174 91 20 1))))) else ((F_X8_puts σ a1 x2 5 (r_1 + r_2)).bind fun σ_151 => (F_X8_puts σ_151 a1 x2 7 0).bind fun σ_152 => (F_X8_goal (stm σ_152 91 20 1) a1 x2).bind fun r_153 => if (r_1 + r_2) = r_153 then ((F_X8_puts (stm σ_152 91 20 1) a1 x2 5 (-3)).bind fun σ_155 => (F_X8_puts σ_155 a1 x2 7 0).bind fun σ_156 => some σ_156) else (some (stm σ_152 91 20 1))))))
set_option maxHeartbeats 4000000 in
set_option maxRecDepth 100000 in
theorem c_X8_goesOn (l : Launch) (D : va_G) (cA : Nat → ClassId) (ad : Nat → Nat) (o : Int64) (σ : Mem) (a1 : Nat) (x2 : Int32) (ha1 : a1 < 106 ∧ kd a1 = (9, 121)) (res : Mem) (h : F_X8_goesOn σ a1 x2 = some res) (sz : Nat) : Met l yX8_goesOn (WY yX8_goesOn cX8_goesOn 9 none) (RM 5) (va_Pc [.ref (ad 91), .ref (ad a1), .int x2] (PW D cA ad o σ sz)) (va_Qv (fun σ9 => σ9 = res) (QW D cA ad o) (FA ad sz)) 0 0 (FA ad sz) := by
  refine ct_of (own := RX8) (k := 5) (Qf := va_Qv (fun σ9 => σ9 = res) (QW D cA ad o)) rfl (by decide) (Nat.le_of_ble_eq_true rfl) (fun p e s m below meth c ls C0 X hr hlk hP hl => ?_) sz
  have hS : va_S (FA ad s.heap.size) s.heap s.heap [] := va_S.rf
  have hl : lv_has ls 9 [(0, .ref (ad 91)), (1, .ref (ad a1)), (2, .int x2)] := hl
  obtain ⟨hx, hb, hml, hown, hts⟩ := id C0
  unfold F_X8_goesOn at h
  refine lv_aload_n hx hb dX8_goesOn_0 rfl (lv_at hl 1 rfl) ?_
  refine lv_iload_n hx hb dX8_goesOn_1 rfl (lv_at hl 2 rfl) ?_
  refine lv_iconst (v := 5) hx hb dX8_goesOn_2 (by decide) ?_
  obtain ⟨r_1, er_1, h⟩ := bnd h
  refine r_ci X hS (r_runS (As := [.ref (ad a1), .int x2, .int 5]) (rest := []) C0 X hP L_X8_130 (fun sz => c_X8_get l D cA ad o σ a1 x2 5 ha1 r_1 er_1 sz) ⟨Nat.le_of_ble_eq_true rfl, Nat.le_of_ble_eq_true rfl⟩ rfl hl.1 rfl (Nat.le_of_ble_eq_true rfl) dX8_goesOn_3 ⟨Nat.zero_le _, Nat.zero_le _⟩) (fun r9 σ9 H locs hw hP hS => ?_)
  rw [hw.2] at hP
  rw [hw.1]
  refine lv_istore_n (lv' := [(3, .int r_1), (0, .ref (ad 91)), (1, .ref (ad a1)), (2, .int x2)]) hx hb dX8_goesOn_6 rfl hl (by decide) rfl (fun ls hl => ?_)
  refine lv_aload_n hx hb dX8_goesOn_7 rfl (lv_at hl 2 rfl) ?_
  refine lv_iload_n hx hb dX8_goesOn_8 rfl (lv_at hl 3 rfl) ?_
  refine lv_iconst (v := 0) hx hb dX8_goesOn_9 (by decide) ?_
  obtain ⟨r_2, er_2, h⟩ := bnd h
  refine r_ci X hS (r_runS (As := [.ref (ad a1), .int x2, .int 0]) (rest := []) C0 X hP L_X8_130 (fun sz => c_X8_get l D cA ad o σ a1 x2 0 ha1 r_2 er_2 sz) ⟨Nat.le_of_ble_eq_true rfl, Nat.le_of_ble_eq_true rfl⟩ rfl hl.1 rfl (Nat.le_of_ble_eq_true rfl) dX8_goesOn_10 ⟨Nat.zero_le _, Nat.zero_le _⟩) (fun r9 σ9 H locs hw hP hS => ?_)
  rw [hw.2] at hP
  rw [hw.1]
  refine lv_istore (lv' := [(4, .int r_2), (3, .int r_1), (0, .ref (ad 91)), (1, .ref (ad a1)), (2, .int x2)]) hx hb dX8_goesOn_13 hl (by decide) rfl (fun ls hl => ?_)
  refine lv_aload_n hx hb dX8_goesOn_15 rfl (lv_at hl 3 rfl) ?_
  refine lv_iload_n hx hb dX8_goesOn_16 rfl (lv_at hl 1 rfl) ?_
  obtain ⟨r_3, er_3, h⟩ := bnd h
  refine r_ci X hS (r_runS (As := [.ref (ad a1), .int r_1]) (rest := []) C0 X hP L_X8_145 (fun sz => c_X8_placeAt l D cA ad o σ a1 r_1 ha1 r_3 er_3 sz) ⟨Nat.le_of_ble_eq_true rfl, Nat.le_of_ble_eq_true rfl⟩ rfl hl.1 rfl (Nat.le_of_ble_eq_true rfl) dX8_goesOn_17 ⟨Nat.zero_le _, Nat.zero_le _⟩) (fun r9 σ9 H locs hw hP hS => ?_)
  rw [hw.2] at hP
  rw [hw.1]
  refine lv_istore (lv' := [(5, .int r_3), (4, .int r_2), (3, .int r_1), (0, .ref (ad 91)), (1, .ref (ad a1)), (2, .int x2)]) hx hb dX8_goesOn_20 hl (by decide) rfl (fun ls hl => ?_)
  refine lv_aload_n hx hb dX8_goesOn_22 rfl (lv_at hl 4 rfl) ?_
  refine lv_iload_n hx hb dX8_goesOn_23 rfl (lv_at hl 2 rfl) ?_
  refine lv_iload hx hb dX8_goesOn_24 (lv_at hl 1 rfl) ?_
  obtain ⟨r_4, er_4, h⟩ := bnd h
  refine r_ci X hS (r_runS (As := [.ref (ad a1), .int r_1, .int r_2]) (rest := []) C0 X hP L_X8_161 (fun sz => c_X8_pieceFrom l D cA ad o σ a1 r_1 r_2 ha1 r_4 er_4 sz) ⟨Nat.le_of_ble_eq_true rfl, Nat.le_of_ble_eq_true rfl⟩ rfl hl.1 rfl (Nat.le_of_ble_eq_true rfl) dX8_goesOn_26 ⟨Nat.zero_le _, Nat.zero_le _⟩) (fun r9 σ9 H locs hw hP hS => ?_)
  rw [hw.2] at hP
  rw [hw.1]
  refine lv_istore (lv' := [(6, .int r_4), (5, .int r_3), (4, .int r_2), (3, .int r_1), (0, .ref (ad 91)), (1, .ref (ad a1)), (2, .int x2)]) hx hb dX8_goesOn_29 hl (by decide) rfl (fun ls hl => ?_)
  refine lv_iload hx hb dX8_goesOn_31 (lv_at hl 1 rfl) ?_
  refine lv_if_lt (tgt := 72) hx hb dX8_goesOn_33 (by decide) (fun c_5 => ?_) (fun c_5 => ?_)
  · replace h := it_t h c_5
    refine lv_aload_n hx hb dX8_goesOn_72 rfl (lv_at hl 5 rfl) ?_
    refine lv_iload_n hx hb dX8_goesOn_73 rfl (lv_at hl 3 rfl) ?_
    refine lv_iload hx hb dX8_goesOn_74 (lv_at hl 2 rfl) ?_
    refine lv_iadd hx hb dX8_goesOn_76 ?_
    obtain ⟨r_6, er_6, h⟩ := bnd h
    refine r_ci X hS (r_runS (As := [.ref (ad a1), .int (r_1 + r_2)]) (rest := []) C0 X hP L_X8_174 (fun sz => c_X8_hasRoom l D cA ad o σ a1 (r_1 + r_2) ha1 r_6 er_6 sz) ⟨Nat.le_of_ble_eq_true rfl, Nat.le_of_ble_eq_true rfl⟩ rfl hl.1 rfl (Nat.le_of_ble_eq_true rfl) dX8_goesOn_77 ⟨Nat.zero_le _, Nat.zero_le _⟩) (fun r9 σ9 H locs hw hP hS => ?_)
    rw [hw.2] at hP
    rw [hw.1]
    refine lv_if_eq (tgt := 177) hx hb dX8_goesOn_80 (by decide) (fun c_7 => ?_) (fun c_7 => ?_)
    · replace h := it_t h c_7
      refine lv_aload_n hx hb dX8_goesOn_177 rfl (lv_at hl 5 rfl) ?_
      refine lv_iload_n hx hb dX8_goesOn_178 rfl (lv_at hl 6 rfl) ?_
      refine lv_bipush (v := 9) hx hb dX8_goesOn_179 (by decide) ?_
      refine lv_aload_n hx hb dX8_goesOn_181 rfl (lv_at hl 5 rfl) ?_
      refine lv_iload_n hx hb dX8_goesOn_182 rfl (lv_at hl 6 rfl) ?_
      refine lv_bipush (v := 9) hx hb dX8_goesOn_183 (by decide) ?_
      obtain ⟨r_8, er_8, h⟩ := bnd h
      refine r_ci X hS (r_runS (As := [.ref (ad a1), .int x2, .int 9]) (rest := [.int 9, .int x2, .ref (ad a1)]) C0 X hP L_X8_130 (fun sz => c_X8_get l D cA ad o σ a1 x2 9 ha1 r_8 er_8 sz) ⟨Nat.le_of_ble_eq_true rfl, Nat.le_of_ble_eq_true rfl⟩ rfl hl.1 rfl (Nat.le_of_ble_eq_true rfl) dX8_goesOn_185 ⟨Nat.zero_le _, Nat.zero_le _⟩) (fun r9 σ9 H locs hw hP hS => ?_)
      rw [hw.2] at hP
      rw [hw.1]
      refine lv_iconst (v := 1) hx hb dX8_goesOn_188 (by decide) ?_
      refine lv_iadd hx hb dX8_goesOn_189 ?_
      obtain ⟨σ_9, eσ_9, h⟩ := bnd h
      refine r_cv X hS (r_runS (As := [.ref (ad a1), .int x2, .int 9, .int (r_8 + 1)]) (rest := []) C0 X hP L_X8_97 (fun sz => c_X8_puts l D cA ad o σ a1 x2 9 (r_8 + 1) ha1 σ_9 eσ_9 sz) ⟨Nat.le_of_ble_eq_true rfl, Nat.le_of_ble_eq_true rfl⟩ rfl hl.1 rfl (Nat.le_of_ble_eq_true rfl) dX8_goesOn_190 ⟨Nat.zero_le _, Nat.zero_le _⟩) (fun σ9 H locs hw hP hS => ?_)
      rw [show σ9 = σ_9 from hw] at hP
      refine lv_iload hx hb dX8_goesOn_193 (lv_at hl 1 rfl) ?_
      refine lv_if_lt (tgt := 199) hx hb dX8_goesOn_195 (by decide) (fun c_10 => ?_) (fun c_10 => ?_)
      · replace h := it_t h c_10
        refine lv_iconst (v := 0) hx hb dX8_goesOn_199 (by decide) ?_
        refine lv_istore (lv' := [(7, .int 0), (6, .int r_4), (5, .int r_3), (4, .int r_2), (3, .int r_1), (0, .ref (ad 91)), (1, .ref (ad a1)), (2, .int x2)]) hx hb dX8_goesOn_200 hl (by decide) rfl (fun ls hl => ?_)
        have lp_11 : ∀ (nn202 : Nat) (σ : Mem) (v7 : Int32) (v6 : Int32) (v5 : Int32) (v4 : Int32) (v3 : Int32) (H : Heap) (locs : List Loc) (ls : Array Slot), F_X8_goesOn_202 a1 x2 nn202 σ v7 v6 v5 v4 v3 = some res → WP D cA ad o σ H → va_S (FA ad s.heap.size) s.heap H locs → lv_has ls 9 [(7, .int v7), (6, .int v6), (5, .int v5), (4, .int v4), (3, .int v3), (0, .ref (ad 91)), (1, .ref (ad a1)), (2, .int x2)] → W p l e (RM 5) s m ([.ref (ad 91), .ref (ad a1), .int x2] : List Value).toArray below meth c H locs 0 0 (MQ below (va_Qv (fun σ9 => σ9 = res) (QW D cA ad o) (FA ad s.heap.size)) ([.ref (ad 91), .ref (ad a1), .int x2] : List Value).toArray s 0 0 (FA ad s.heap.size)) (F0 m 202 ls []) := by
          intro nn202
          induction nn202 with
          | zero => intro σ v7 v6 v5 v4 v3 H locs ls h hP hS hl; exact absurd (show none = some res from h) nofun
          | succ nn202 ih202 =>
            intro σ v7 v6 v5 v4 v3 H locs ls h hP hS hl
            replace h := (F_X8_goesOn_202.eq_2 _ _ _ _ _ _ _ _ _).symm.trans h
            refine lv_iload hx hb dX8_goesOn_202 (lv_at hl 0 rfl) ?_
            refine lv_aload_n hx hb dX8_goesOn_204 rfl (lv_at hl 6 rfl) ?_
            refine lv_iconst (v := 1) hx hb dX8_goesOn_205 (by decide) ?_
            refine r_ialdN C0 X hP a1 (k := 1) ha1 rfl (by decide) dX8_goesOn_206 ?_
            refine lv_icmp_ge (tgt := 345) hx hb dX8_goesOn_207 (by decide) (fun c_12 => ?_) (fun c_12 => ?_)
            · replace h := it_t h c_12
              exact r_vret C0 X hP hS hr hlk dX8_goesOn_345 (Option.some.inj h)
            · replace h := it_f h c_12
              refine lv_aload_n hx hb dX8_goesOn_210 rfl (lv_at hl 6 rfl) ?_
              refine lv_iload hx hb dX8_goesOn_211 (lv_at hl 0 rfl) ?_
              refine lv_iconst (v := 5) hx hb dX8_goesOn_213 (by decide) ?_
              obtain ⟨r_13, er_13, h⟩ := bnd h
              refine r_ci X hS (r_runS (As := [.ref (ad a1), .int v7, .int 5]) (rest := []) C0 X hP L_X8_130 (fun sz => c_X8_get l D cA ad o σ a1 v7 5 ha1 r_13 er_13 sz) ⟨Nat.le_of_ble_eq_true rfl, Nat.le_of_ble_eq_true rfl⟩ rfl hl.1 rfl (Nat.le_of_ble_eq_true rfl) dX8_goesOn_214 ⟨Nat.zero_le _, Nat.zero_le _⟩) (fun r9 σ9 H locs hw hP hS => ?_)
              rw [hw.2] at hP
              rw [hw.1]
              refine lv_iload_n hx hb dX8_goesOn_217 rfl (lv_at hl 4 rfl) ?_
              refine lv_iload hx hb dX8_goesOn_218 (lv_at hl 3 rfl) ?_
              refine lv_iadd hx hb dX8_goesOn_220 ?_
              refine lv_icmp_ne (tgt := 339) hx hb dX8_goesOn_221 (by decide) (fun c_14 => ?_) (fun c_14 => ?_)
              · replace h := it_f h c_14
                refine lv_iinc (v := (v7 + 1)) (lv' := [(7, .int (v7 + 1)), (6, .int v6), (5, .int v5), (4, .int v4), (3, .int v3), (0, .ref (ad 91)), (1, .ref (ad a1)), (2, .int x2)]) hx hb dX8_goesOn_339 hl (k := 0) rfl rfl (by decide) rfl (fun ls hl => ?_)
                refine lv_goto (tgt := 202) hx hb dX8_goesOn_342 (by decide) ?_
                exact ih202 σ (v7 + 1) v6 v5 v4 v3 _ _ ls  h hP hS (lv_sub hl [0, 1, 2, 3, 4, 5, 6, 7] rfl)
              · replace h := it_t h c_14
                refine lv_aload_n hx hb dX8_goesOn_224 rfl (lv_at hl 6 rfl) ?_
                refine lv_iload hx hb dX8_goesOn_225 (lv_at hl 0 rfl) ?_
                refine lv_iconst (v := 0) hx hb dX8_goesOn_227 (by decide) ?_
                obtain ⟨r_15, er_15, h⟩ := bnd h
                refine r_ci X hS (r_runS (As := [.ref (ad a1), .int v7, .int 0]) (rest := []) C0 X hP L_X8_130 (fun sz => c_X8_get l D cA ad o σ a1 v7 0 ha1 r_15 er_15 sz) ⟨Nat.le_of_ble_eq_true rfl, Nat.le_of_ble_eq_true rfl⟩ rfl hl.1 rfl (Nat.le_of_ble_eq_true rfl) dX8_goesOn_228 ⟨Nat.zero_le _, Nat.zero_le _⟩) (fun r9 σ9 H locs hw hP hS => ?_)
                rw [hw.2] at hP
                rw [hw.1]
                refine lv_iload hx hb dX8_goesOn_231 (lv_at hl 3 rfl) ?_
                refine lv_icmp_eq (tgt := 339) hx hb dX8_goesOn_233 (by decide) (fun c_16 => ?_) (fun c_16 => ?_)
                · replace h := it_t h c_16
                  refine lv_iinc (v := (v7 + 1)) (lv' := [(7, .int (v7 + 1)), (6, .int v6), (5, .int v5), (4, .int v4), (3, .int v3), (0, .ref (ad 91)), (1, .ref (ad a1)), (2, .int x2)]) hx hb dX8_goesOn_339 hl (k := 0) rfl rfl (by decide) rfl (fun ls hl => ?_)
                  refine lv_goto (tgt := 202) hx hb dX8_goesOn_342 (by decide) ?_
                  exact ih202 σ (v7 + 1) v6 v5 v4 v3 _ _ ls  h hP hS (lv_sub hl [0, 1, 2, 3, 4, 5, 6, 7] rfl)
                · replace h := it_f h c_16
                  refine lv_aload_n hx hb dX8_goesOn_236 rfl (lv_at hl 6 rfl) ?_
                  refine lv_iload hx hb dX8_goesOn_237 (lv_at hl 0 rfl) ?_
                  refine lv_bipush (v := 6) hx hb dX8_goesOn_239 (by decide) ?_
                  obtain ⟨r_17, er_17, h⟩ := bnd h
                  refine r_ci X hS (r_runS (As := [.ref (ad a1), .int v7, .int 6]) (rest := []) C0 X hP L_X8_130 (fun sz => c_X8_get l D cA ad o σ a1 v7 6 ha1 r_17 er_17 sz) ⟨Nat.le_of_ble_eq_true rfl, Nat.le_of_ble_eq_true rfl⟩ rfl hl.1 rfl (Nat.le_of_ble_eq_true rfl) dX8_goesOn_241 ⟨Nat.zero_le _, Nat.zero_le _⟩) (fun r9 σ9 H locs hw hP hS => ?_)
                  rw [hw.2] at hP
                  rw [hw.1]
                  refine lv_if_le (tgt := 250) hx hb dX8_goesOn_244 (by decide) (fun c_18 => ?_) (fun c_18 => ?_)
                  · replace h := it_t h c_18
                    refine lv_aload_n hx hb dX8_goesOn_250 rfl (lv_at hl 6 rfl) ?_
                    refine lv_iconst (v := 4) hx hb dX8_goesOn_251 (by decide) ?_
                    refine lv_dup2_11 hx hb dX8_goesOn_252 rfl rfl ?_
                    refine r_ialdN C0 X hP a1 (k := 4) ha1 rfl (by decide) dX8_goesOn_253 ?_
                    refine lv_iconst (v := 1) hx hb dX8_goesOn_254 (by decide) ?_
                    refine lv_iadd hx hb dX8_goesOn_255 ?_
                    refine r_iastN C0 X hP hS a1 (k := 4) ha1 rfl (by decide) dX8_goesOn_256 (fun H locs hP hS => ?_)
                    refine lv_aload_n hx hb dX8_goesOn_257 rfl (lv_at hl 5 rfl) ?_
                    refine gf_X8_191 C0 X hP 91 ⟨by decide, rfl⟩ dX8_goesOn_258 ?_
                    refine lv_if_ge (tgt := 305) hx hb dX8_goesOn_261 (by decide) (fun c_19 => ?_) (fun c_19 => ?_)
                    · replace h := it_t h c_19
                      refine lv_aload_n hx hb dX8_goesOn_305 rfl (lv_at hl 6 rfl) ?_
                      refine lv_iload_n hx hb dX8_goesOn_306 rfl (lv_at hl 7 rfl) ?_
                      refine lv_iload hx hb dX8_goesOn_307 (lv_at hl 0 rfl) ?_
                      refine lv_aload_n hx hb dX8_goesOn_309 rfl (lv_at hl 6 rfl) ?_
                      refine lv_bipush (v := 14) hx hb dX8_goesOn_310 (by decide) ?_
                      refine lv_iconst (v := 3) hx hb dX8_goesOn_312 (by decide) ?_
                      refine lv_iload hx hb dX8_goesOn_313 (lv_at hl 1 rfl) ?_
                      refine lv_imul hx hb dX8_goesOn_315 ?_
                      refine lv_iadd hx hb dX8_goesOn_316 ?_
                      refine lv_iconst (v := 2) hx hb dX8_goesOn_317 (by decide) ?_
                      refine lv_iadd hx hb dX8_goesOn_318 ?_
                      obtain ⟨k_20, ek_20, h⟩ := bnd h
                      replace ek_20 := ix_s ek_20 (by decide)
                      refine r_ialdN C0 X hP a1 (k := k_20) ha1 ek_20.1 ek_20.2 dX8_goesOn_319 ?_
                      refine lv_iload hx hb dX8_goesOn_320 (lv_at hl 1 rfl) ?_
                      obtain ⟨r_21, er_21, h⟩ := bnd h
                      refine r_ci X hS (r_runS (As := [.ref (ad a1), .int x2, .int v7, .int ((stm σ a1 4 ((σ a1 4) + 1)) a1 k_20), .int v6]) (rest := []) C0 X hP L_X8_200 (fun sz => c_X8_backsOf l D cA ad o (stm σ a1 4 ((σ a1 4) + 1)) a1 x2 v7 ((stm σ a1 4 ((σ a1 4) + 1)) a1 k_20) v6 ha1 r_21 er_21 sz) ⟨Nat.le_of_ble_eq_true rfl, Nat.le_of_ble_eq_true rfl⟩ rfl hl.1 rfl (Nat.le_of_ble_eq_true rfl) dX8_goesOn_322 ⟨Nat.zero_le _, Nat.zero_le _⟩) (fun r9 σ9 H locs hw hP hS => ?_)
                      rw [hw.2] at hP
                      rw [hw.1]
                      refine lv_istore (lv' := [(8, .int r_21), (7, .int v7), (6, .int v6), (5, .int v5), (4, .int v4), (3, .int v3), (0, .ref (ad 91)), (1, .ref (ad a1)), (2, .int x2)]) hx hb dX8_goesOn_325 hl (by decide) rfl (fun ls hl => ?_)
                      refine lv_iload hx hb dX8_goesOn_327 (lv_at hl 0 rfl) ?_
                      refine lv_if_lt (tgt := 338) hx hb dX8_goesOn_329 (by decide) (fun c_22 => ?_) (fun c_22 => ?_)
                      · replace h := it_t h c_22
                        exact r_vret C0 X hP hS hr hlk dX8_goesOn_338 (Option.some.inj h)
                      · replace h := it_f h c_22
                        refine lv_aload_n hx hb dX8_goesOn_332 rfl (lv_at hl 7 rfl) ?_
                        refine lv_iload hx hb dX8_goesOn_333 (lv_at hl 0 rfl) ?_
                        obtain ⟨σ_23, eσ_23, h⟩ := bnd h
                        refine r_cv X hS (r_runS (As := [.ref (ad a1), .int r_21]) (rest := []) C0 X hP L_X8_181 (fun sz => c_X8_backs_ l D cA ad o (stm σ a1 4 ((σ a1 4) + 1)) a1 r_21 ha1 σ_23 eσ_23 sz) ⟨Nat.le_of_ble_eq_true rfl, Nat.le_of_ble_eq_true rfl⟩ rfl hl.1 rfl (Nat.le_of_ble_eq_true rfl) dX8_goesOn_335 ⟨Nat.zero_le _, Nat.zero_le _⟩) (fun σ9 H locs hw hP hS => ?_)
                        rw [show σ9 = σ_23 from hw] at hP
                        exact r_vret C0 X hP hS hr hlk dX8_goesOn_338 (Option.some.inj h)
                    · replace h := it_f h c_19
                      refine lv_iload_n hx hb dX8_goesOn_264 rfl (lv_at hl 7 rfl) ?_
                      refine lv_aload_n hx hb dX8_goesOn_265 rfl (lv_at hl 5 rfl) ?_
                      refine gf_X8_194 C0 X hP 91 ⟨by decide, rfl⟩ dX8_goesOn_266 ?_
                      refine lv_icmp_ne (tgt := 281) hx hb dX8_goesOn_269 (by decide) (fun c_24 => ?_) (fun c_24 => ?_)
                      · replace h := it_f h c_24
                        refine lv_iload hx hb dX8_goesOn_281 (lv_at hl 0 rfl) ?_
                        refine lv_aload_n hx hb dX8_goesOn_283 rfl (lv_at hl 5 rfl) ?_
                        refine gf_X8_194 C0 X hP 91 ⟨by decide, rfl⟩ dX8_goesOn_284 ?_
                        refine lv_icmp_ne (tgt := 305) hx hb dX8_goesOn_287 (by decide) (fun c_25 => ?_) (fun c_25 => ?_)
                        · replace h := it_f h c_25
                          refine lv_aload_n hx hb dX8_goesOn_305 rfl (lv_at hl 6 rfl) ?_
                          refine lv_iload_n hx hb dX8_goesOn_306 rfl (lv_at hl 7 rfl) ?_
                          refine lv_iload hx hb dX8_goesOn_307 (lv_at hl 0 rfl) ?_
                          refine lv_aload_n hx hb dX8_goesOn_309 rfl (lv_at hl 6 rfl) ?_
                          refine lv_bipush (v := 14) hx hb dX8_goesOn_310 (by decide) ?_
                          refine lv_iconst (v := 3) hx hb dX8_goesOn_312 (by decide) ?_
                          refine lv_iload hx hb dX8_goesOn_313 (lv_at hl 1 rfl) ?_
                          refine lv_imul hx hb dX8_goesOn_315 ?_
                          refine lv_iadd hx hb dX8_goesOn_316 ?_
                          refine lv_iconst (v := 2) hx hb dX8_goesOn_317 (by decide) ?_
                          refine lv_iadd hx hb dX8_goesOn_318 ?_
                          obtain ⟨k_26, ek_26, h⟩ := bnd h
                          replace ek_26 := ix_s ek_26 (by decide)
                          refine r_ialdN C0 X hP a1 (k := k_26) ha1 ek_26.1 ek_26.2 dX8_goesOn_319 ?_
                          refine lv_iload hx hb dX8_goesOn_320 (lv_at hl 1 rfl) ?_
                          obtain ⟨r_27, er_27, h⟩ := bnd h
                          refine r_ci X hS (r_runS (As := [.ref (ad a1), .int x2, .int v7, .int ((stm σ a1 4 ((σ a1 4) + 1)) a1 k_26), .int v6]) (rest := []) C0 X hP L_X8_200 (fun sz => c_X8_backsOf l D cA ad o (stm σ a1 4 ((σ a1 4) + 1)) a1 x2 v7 ((stm σ a1 4 ((σ a1 4) + 1)) a1 k_26) v6 ha1 r_27 er_27 sz) ⟨Nat.le_of_ble_eq_true rfl, Nat.le_of_ble_eq_true rfl⟩ rfl hl.1 rfl (Nat.le_of_ble_eq_true rfl) dX8_goesOn_322 ⟨Nat.zero_le _, Nat.zero_le _⟩) (fun r9 σ9 H locs hw hP hS => ?_)
                          rw [hw.2] at hP
                          rw [hw.1]
                          refine lv_istore (lv' := [(8, .int r_27), (7, .int v7), (6, .int v6), (5, .int v5), (4, .int v4), (3, .int v3), (0, .ref (ad 91)), (1, .ref (ad a1)), (2, .int x2)]) hx hb dX8_goesOn_325 hl (by decide) rfl (fun ls hl => ?_)
                          refine lv_iload hx hb dX8_goesOn_327 (lv_at hl 0 rfl) ?_
                          refine lv_if_lt (tgt := 338) hx hb dX8_goesOn_329 (by decide) (fun c_28 => ?_) (fun c_28 => ?_)
                          · replace h := it_t h c_28
                            exact r_vret C0 X hP hS hr hlk dX8_goesOn_338 (Option.some.inj h)
                          · replace h := it_f h c_28
                            refine lv_aload_n hx hb dX8_goesOn_332 rfl (lv_at hl 7 rfl) ?_
                            refine lv_iload hx hb dX8_goesOn_333 (lv_at hl 0 rfl) ?_
                            obtain ⟨σ_29, eσ_29, h⟩ := bnd h
                            refine r_cv X hS (r_runS (As := [.ref (ad a1), .int r_27]) (rest := []) C0 X hP L_X8_181 (fun sz => c_X8_backs_ l D cA ad o (stm σ a1 4 ((σ a1 4) + 1)) a1 r_27 ha1 σ_29 eσ_29 sz) ⟨Nat.le_of_ble_eq_true rfl, Nat.le_of_ble_eq_true rfl⟩ rfl hl.1 rfl (Nat.le_of_ble_eq_true rfl) dX8_goesOn_335 ⟨Nat.zero_le _, Nat.zero_le _⟩) (fun σ9 H locs hw hP hS => ?_)
                            rw [show σ9 = σ_29 from hw] at hP
                            exact r_vret C0 X hP hS hr hlk dX8_goesOn_338 (Option.some.inj h)
                        · replace h := it_t h c_25
                          refine lv_iload_n hx hb dX8_goesOn_290 rfl (lv_at hl 7 rfl) ?_
                          refine lv_aload_n hx hb dX8_goesOn_291 rfl (lv_at hl 5 rfl) ?_
                          refine gf_X8_197 C0 X hP 91 ⟨by decide, rfl⟩ dX8_goesOn_292 ?_
                          refine lv_icmp_ne (tgt := 305) hx hb dX8_goesOn_295 (by decide) (fun c_30 => ?_) (fun c_30 => ?_)
                          · replace h := it_f h c_30
                            refine lv_aload_n hx hb dX8_goesOn_305 rfl (lv_at hl 6 rfl) ?_
                            refine lv_iload_n hx hb dX8_goesOn_306 rfl (lv_at hl 7 rfl) ?_
                            refine lv_iload hx hb dX8_goesOn_307 (lv_at hl 0 rfl) ?_
                            refine lv_aload_n hx hb dX8_goesOn_309 rfl (lv_at hl 6 rfl) ?_
                            refine lv_bipush (v := 14) hx hb dX8_goesOn_310 (by decide) ?_
                            refine lv_iconst (v := 3) hx hb dX8_goesOn_312 (by decide) ?_
                            refine lv_iload hx hb dX8_goesOn_313 (lv_at hl 1 rfl) ?_
                            refine lv_imul hx hb dX8_goesOn_315 ?_
                            refine lv_iadd hx hb dX8_goesOn_316 ?_
                            refine lv_iconst (v := 2) hx hb dX8_goesOn_317 (by decide) ?_
                            refine lv_iadd hx hb dX8_goesOn_318 ?_
                            obtain ⟨k_31, ek_31, h⟩ := bnd h
                            replace ek_31 := ix_s ek_31 (by decide)
                            refine r_ialdN C0 X hP a1 (k := k_31) ha1 ek_31.1 ek_31.2 dX8_goesOn_319 ?_
                            refine lv_iload hx hb dX8_goesOn_320 (lv_at hl 1 rfl) ?_
                            obtain ⟨r_32, er_32, h⟩ := bnd h
                            refine r_ci X hS (r_runS (As := [.ref (ad a1), .int x2, .int v7, .int ((stm σ a1 4 ((σ a1 4) + 1)) a1 k_31), .int v6]) (rest := []) C0 X hP L_X8_200 (fun sz => c_X8_backsOf l D cA ad o (stm σ a1 4 ((σ a1 4) + 1)) a1 x2 v7 ((stm σ a1 4 ((σ a1 4) + 1)) a1 k_31) v6 ha1 r_32 er_32 sz) ⟨Nat.le_of_ble_eq_true rfl, Nat.le_of_ble_eq_true rfl⟩ rfl hl.1 rfl (Nat.le_of_ble_eq_true rfl) dX8_goesOn_322 ⟨Nat.zero_le _, Nat.zero_le _⟩) (fun r9 σ9 H locs hw hP hS => ?_)
                            rw [hw.2] at hP
                            rw [hw.1]
                            refine lv_istore (lv' := [(8, .int r_32), (7, .int v7), (6, .int v6), (5, .int v5), (4, .int v4), (3, .int v3), (0, .ref (ad 91)), (1, .ref (ad a1)), (2, .int x2)]) hx hb dX8_goesOn_325 hl (by decide) rfl (fun ls hl => ?_)
                            refine lv_iload hx hb dX8_goesOn_327 (lv_at hl 0 rfl) ?_
                            refine lv_if_lt (tgt := 338) hx hb dX8_goesOn_329 (by decide) (fun c_33 => ?_) (fun c_33 => ?_)
                            · replace h := it_t h c_33
                              exact r_vret C0 X hP hS hr hlk dX8_goesOn_338 (Option.some.inj h)
                            · replace h := it_f h c_33
                              refine lv_aload_n hx hb dX8_goesOn_332 rfl (lv_at hl 7 rfl) ?_
                              refine lv_iload hx hb dX8_goesOn_333 (lv_at hl 0 rfl) ?_
                              obtain ⟨σ_34, eσ_34, h⟩ := bnd h
                              refine r_cv X hS (r_runS (As := [.ref (ad a1), .int r_32]) (rest := []) C0 X hP L_X8_181 (fun sz => c_X8_backs_ l D cA ad o (stm σ a1 4 ((σ a1 4) + 1)) a1 r_32 ha1 σ_34 eσ_34 sz) ⟨Nat.le_of_ble_eq_true rfl, Nat.le_of_ble_eq_true rfl⟩ rfl hl.1 rfl (Nat.le_of_ble_eq_true rfl) dX8_goesOn_335 ⟨Nat.zero_le _, Nat.zero_le _⟩) (fun σ9 H locs hw hP hS => ?_)
                              rw [show σ9 = σ_34 from hw] at hP
                              exact r_vret C0 X hP hS hr hlk dX8_goesOn_338 (Option.some.inj h)
                          · replace h := it_t h c_30
                            refine lv_aload_n hx hb dX8_goesOn_298 rfl (lv_at hl 5 rfl) ?_
                            refine lv_aload_n hx hb dX8_goesOn_299 rfl (lv_at hl 6 rfl) ?_
                            refine lv_iconst (v := 2) hx hb dX8_goesOn_300 (by decide) ?_
                            refine r_ialdN C0 X hP a1 (k := 2) ha1 rfl (by decide) dX8_goesOn_301 ?_
                            refine pf_X8_191 C0 X hP hS 91 ⟨by decide, rfl⟩ dX8_goesOn_302 (fun H locs hP hS => ?_)
                            refine lv_aload_n hx hb dX8_goesOn_305 rfl (lv_at hl 6 rfl) ?_
                            refine lv_iload_n hx hb dX8_goesOn_306 rfl (lv_at hl 7 rfl) ?_
                            refine lv_iload hx hb dX8_goesOn_307 (lv_at hl 0 rfl) ?_
                            refine lv_aload_n hx hb dX8_goesOn_309 rfl (lv_at hl 6 rfl) ?_
                            refine lv_bipush (v := 14) hx hb dX8_goesOn_310 (by decide) ?_
                            refine lv_iconst (v := 3) hx hb dX8_goesOn_312 (by decide) ?_
                            refine lv_iload hx hb dX8_goesOn_313 (lv_at hl 1 rfl) ?_
                            refine lv_imul hx hb dX8_goesOn_315 ?_
                            refine lv_iadd hx hb dX8_goesOn_316 ?_
                            refine lv_iconst (v := 2) hx hb dX8_goesOn_317 (by decide) ?_
                            refine lv_iadd hx hb dX8_goesOn_318 ?_
                            obtain ⟨k_35, ek_35, h⟩ := bnd h
                            replace ek_35 := ix_s ek_35 (by decide)
                            refine r_ialdN C0 X hP a1 (k := k_35) ha1 ek_35.1 ek_35.2 dX8_goesOn_319 ?_
                            refine lv_iload hx hb dX8_goesOn_320 (lv_at hl 1 rfl) ?_
                            obtain ⟨r_36, er_36, h⟩ := bnd h
                            refine r_ci X hS (r_runS (As := [.ref (ad a1), .int x2, .int v7, .int ((stm (stm σ a1 4 ((σ a1 4) + 1)) 91 19 ((stm σ a1 4 ((σ a1 4) + 1)) a1 2)) a1 k_35), .int v6]) (rest := []) C0 X hP L_X8_200 (fun sz => c_X8_backsOf l D cA ad o (stm (stm σ a1 4 ((σ a1 4) + 1)) 91 19 ((stm σ a1 4 ((σ a1 4) + 1)) a1 2)) a1 x2 v7 ((stm (stm σ a1 4 ((σ a1 4) + 1)) 91 19 ((stm σ a1 4 ((σ a1 4) + 1)) a1 2)) a1 k_35) v6 ha1 r_36 er_36 sz) ⟨Nat.le_of_ble_eq_true rfl, Nat.le_of_ble_eq_true rfl⟩ rfl hl.1 rfl (Nat.le_of_ble_eq_true rfl) dX8_goesOn_322 ⟨Nat.zero_le _, Nat.zero_le _⟩) (fun r9 σ9 H locs hw hP hS => ?_)
                            rw [hw.2] at hP
                            rw [hw.1]
                            refine lv_istore (lv' := [(8, .int r_36), (7, .int v7), (6, .int v6), (5, .int v5), (4, .int v4), (3, .int v3), (0, .ref (ad 91)), (1, .ref (ad a1)), (2, .int x2)]) hx hb dX8_goesOn_325 hl (by decide) rfl (fun ls hl => ?_)
                            refine lv_iload hx hb dX8_goesOn_327 (lv_at hl 0 rfl) ?_
                            refine lv_if_lt (tgt := 338) hx hb dX8_goesOn_329 (by decide) (fun c_37 => ?_) (fun c_37 => ?_)
                            · replace h := it_t h c_37
                              exact r_vret C0 X hP hS hr hlk dX8_goesOn_338 (Option.some.inj h)
                            · replace h := it_f h c_37
                              refine lv_aload_n hx hb dX8_goesOn_332 rfl (lv_at hl 7 rfl) ?_
                              refine lv_iload hx hb dX8_goesOn_333 (lv_at hl 0 rfl) ?_
                              obtain ⟨σ_38, eσ_38, h⟩ := bnd h
                              refine r_cv X hS (r_runS (As := [.ref (ad a1), .int r_36]) (rest := []) C0 X hP L_X8_181 (fun sz => c_X8_backs_ l D cA ad o (stm (stm σ a1 4 ((σ a1 4) + 1)) 91 19 ((stm σ a1 4 ((σ a1 4) + 1)) a1 2)) a1 r_36 ha1 σ_38 eσ_38 sz) ⟨Nat.le_of_ble_eq_true rfl, Nat.le_of_ble_eq_true rfl⟩ rfl hl.1 rfl (Nat.le_of_ble_eq_true rfl) dX8_goesOn_335 ⟨Nat.zero_le _, Nat.zero_le _⟩) (fun σ9 H locs hw hP hS => ?_)
                              rw [show σ9 = σ_38 from hw] at hP
                              exact r_vret C0 X hP hS hr hlk dX8_goesOn_338 (Option.some.inj h)
                      · replace h := it_t h c_24
                        refine lv_iload hx hb dX8_goesOn_272 (lv_at hl 0 rfl) ?_
                        refine lv_aload_n hx hb dX8_goesOn_274 rfl (lv_at hl 5 rfl) ?_
                        refine gf_X8_197 C0 X hP 91 ⟨by decide, rfl⟩ dX8_goesOn_275 ?_
                        refine lv_icmp_eq (tgt := 298) hx hb dX8_goesOn_278 (by decide) (fun c_39 => ?_) (fun c_39 => ?_)
                        · replace h := it_t h c_39
                          refine lv_aload_n hx hb dX8_goesOn_298 rfl (lv_at hl 5 rfl) ?_
                          refine lv_aload_n hx hb dX8_goesOn_299 rfl (lv_at hl 6 rfl) ?_
                          refine lv_iconst (v := 2) hx hb dX8_goesOn_300 (by decide) ?_
                          refine r_ialdN C0 X hP a1 (k := 2) ha1 rfl (by decide) dX8_goesOn_301 ?_
                          refine pf_X8_191 C0 X hP hS 91 ⟨by decide, rfl⟩ dX8_goesOn_302 (fun H locs hP hS => ?_)
                          refine lv_aload_n hx hb dX8_goesOn_305 rfl (lv_at hl 6 rfl) ?_
                          refine lv_iload_n hx hb dX8_goesOn_306 rfl (lv_at hl 7 rfl) ?_
                          refine lv_iload hx hb dX8_goesOn_307 (lv_at hl 0 rfl) ?_
                          refine lv_aload_n hx hb dX8_goesOn_309 rfl (lv_at hl 6 rfl) ?_
                          refine lv_bipush (v := 14) hx hb dX8_goesOn_310 (by decide) ?_
                          refine lv_iconst (v := 3) hx hb dX8_goesOn_312 (by decide) ?_
                          refine lv_iload hx hb dX8_goesOn_313 (lv_at hl 1 rfl) ?_
                          refine lv_imul hx hb dX8_goesOn_315 ?_
                          refine lv_iadd hx hb dX8_goesOn_316 ?_
                          refine lv_iconst (v := 2) hx hb dX8_goesOn_317 (by decide) ?_
                          refine lv_iadd hx hb dX8_goesOn_318 ?_
                          obtain ⟨k_40, ek_40, h⟩ := bnd h
                          replace ek_40 := ix_s ek_40 (by decide)
                          refine r_ialdN C0 X hP a1 (k := k_40) ha1 ek_40.1 ek_40.2 dX8_goesOn_319 ?_
                          refine lv_iload hx hb dX8_goesOn_320 (lv_at hl 1 rfl) ?_
                          obtain ⟨r_41, er_41, h⟩ := bnd h
                          refine r_ci X hS (r_runS (As := [.ref (ad a1), .int x2, .int v7, .int ((stm (stm σ a1 4 ((σ a1 4) + 1)) 91 19 ((stm σ a1 4 ((σ a1 4) + 1)) a1 2)) a1 k_40), .int v6]) (rest := []) C0 X hP L_X8_200 (fun sz => c_X8_backsOf l D cA ad o (stm (stm σ a1 4 ((σ a1 4) + 1)) 91 19 ((stm σ a1 4 ((σ a1 4) + 1)) a1 2)) a1 x2 v7 ((stm (stm σ a1 4 ((σ a1 4) + 1)) 91 19 ((stm σ a1 4 ((σ a1 4) + 1)) a1 2)) a1 k_40) v6 ha1 r_41 er_41 sz) ⟨Nat.le_of_ble_eq_true rfl, Nat.le_of_ble_eq_true rfl⟩ rfl hl.1 rfl (Nat.le_of_ble_eq_true rfl) dX8_goesOn_322 ⟨Nat.zero_le _, Nat.zero_le _⟩) (fun r9 σ9 H locs hw hP hS => ?_)
                          rw [hw.2] at hP
                          rw [hw.1]
                          refine lv_istore (lv' := [(8, .int r_41), (7, .int v7), (6, .int v6), (5, .int v5), (4, .int v4), (3, .int v3), (0, .ref (ad 91)), (1, .ref (ad a1)), (2, .int x2)]) hx hb dX8_goesOn_325 hl (by decide) rfl (fun ls hl => ?_)
                          refine lv_iload hx hb dX8_goesOn_327 (lv_at hl 0 rfl) ?_
                          refine lv_if_lt (tgt := 338) hx hb dX8_goesOn_329 (by decide) (fun c_42 => ?_) (fun c_42 => ?_)
                          · replace h := it_t h c_42
                            exact r_vret C0 X hP hS hr hlk dX8_goesOn_338 (Option.some.inj h)
                          · replace h := it_f h c_42
                            refine lv_aload_n hx hb dX8_goesOn_332 rfl (lv_at hl 7 rfl) ?_
                            refine lv_iload hx hb dX8_goesOn_333 (lv_at hl 0 rfl) ?_
                            obtain ⟨σ_43, eσ_43, h⟩ := bnd h
                            refine r_cv X hS (r_runS (As := [.ref (ad a1), .int r_41]) (rest := []) C0 X hP L_X8_181 (fun sz => c_X8_backs_ l D cA ad o (stm (stm σ a1 4 ((σ a1 4) + 1)) 91 19 ((stm σ a1 4 ((σ a1 4) + 1)) a1 2)) a1 r_41 ha1 σ_43 eσ_43 sz) ⟨Nat.le_of_ble_eq_true rfl, Nat.le_of_ble_eq_true rfl⟩ rfl hl.1 rfl (Nat.le_of_ble_eq_true rfl) dX8_goesOn_335 ⟨Nat.zero_le _, Nat.zero_le _⟩) (fun σ9 H locs hw hP hS => ?_)
                            rw [show σ9 = σ_43 from hw] at hP
                            exact r_vret C0 X hP hS hr hlk dX8_goesOn_338 (Option.some.inj h)
                        · replace h := it_f h c_39
                          refine lv_iload hx hb dX8_goesOn_281 (lv_at hl 0 rfl) ?_
                          refine lv_aload_n hx hb dX8_goesOn_283 rfl (lv_at hl 5 rfl) ?_
                          refine gf_X8_194 C0 X hP 91 ⟨by decide, rfl⟩ dX8_goesOn_284 ?_
                          refine lv_icmp_ne (tgt := 305) hx hb dX8_goesOn_287 (by decide) (fun c_44 => ?_) (fun c_44 => ?_)
                          · replace h := it_f h c_44
                            refine lv_aload_n hx hb dX8_goesOn_305 rfl (lv_at hl 6 rfl) ?_
                            refine lv_iload_n hx hb dX8_goesOn_306 rfl (lv_at hl 7 rfl) ?_
                            refine lv_iload hx hb dX8_goesOn_307 (lv_at hl 0 rfl) ?_
                            refine lv_aload_n hx hb dX8_goesOn_309 rfl (lv_at hl 6 rfl) ?_
                            refine lv_bipush (v := 14) hx hb dX8_goesOn_310 (by decide) ?_
                            refine lv_iconst (v := 3) hx hb dX8_goesOn_312 (by decide) ?_
                            refine lv_iload hx hb dX8_goesOn_313 (lv_at hl 1 rfl) ?_
                            refine lv_imul hx hb dX8_goesOn_315 ?_
                            refine lv_iadd hx hb dX8_goesOn_316 ?_
                            refine lv_iconst (v := 2) hx hb dX8_goesOn_317 (by decide) ?_
                            refine lv_iadd hx hb dX8_goesOn_318 ?_
                            obtain ⟨k_45, ek_45, h⟩ := bnd h
                            replace ek_45 := ix_s ek_45 (by decide)
                            refine r_ialdN C0 X hP a1 (k := k_45) ha1 ek_45.1 ek_45.2 dX8_goesOn_319 ?_
                            refine lv_iload hx hb dX8_goesOn_320 (lv_at hl 1 rfl) ?_
                            obtain ⟨r_46, er_46, h⟩ := bnd h
                            refine r_ci X hS (r_runS (As := [.ref (ad a1), .int x2, .int v7, .int ((stm σ a1 4 ((σ a1 4) + 1)) a1 k_45), .int v6]) (rest := []) C0 X hP L_X8_200 (fun sz => c_X8_backsOf l D cA ad o (stm σ a1 4 ((σ a1 4) + 1)) a1 x2 v7 ((stm σ a1 4 ((σ a1 4) + 1)) a1 k_45) v6 ha1 r_46 er_46 sz) ⟨Nat.le_of_ble_eq_true rfl, Nat.le_of_ble_eq_true rfl⟩ rfl hl.1 rfl (Nat.le_of_ble_eq_true rfl) dX8_goesOn_322 ⟨Nat.zero_le _, Nat.zero_le _⟩) (fun r9 σ9 H locs hw hP hS => ?_)
                            rw [hw.2] at hP
                            rw [hw.1]
                            refine lv_istore (lv' := [(8, .int r_46), (7, .int v7), (6, .int v6), (5, .int v5), (4, .int v4), (3, .int v3), (0, .ref (ad 91)), (1, .ref (ad a1)), (2, .int x2)]) hx hb dX8_goesOn_325 hl (by decide) rfl (fun ls hl => ?_)
                            refine lv_iload hx hb dX8_goesOn_327 (lv_at hl 0 rfl) ?_
                            refine lv_if_lt (tgt := 338) hx hb dX8_goesOn_329 (by decide) (fun c_47 => ?_) (fun c_47 => ?_)
                            · replace h := it_t h c_47
                              exact r_vret C0 X hP hS hr hlk dX8_goesOn_338 (Option.some.inj h)
                            · replace h := it_f h c_47
                              refine lv_aload_n hx hb dX8_goesOn_332 rfl (lv_at hl 7 rfl) ?_
                              refine lv_iload hx hb dX8_goesOn_333 (lv_at hl 0 rfl) ?_
                              obtain ⟨σ_48, eσ_48, h⟩ := bnd h
                              refine r_cv X hS (r_runS (As := [.ref (ad a1), .int r_46]) (rest := []) C0 X hP L_X8_181 (fun sz => c_X8_backs_ l D cA ad o (stm σ a1 4 ((σ a1 4) + 1)) a1 r_46 ha1 σ_48 eσ_48 sz) ⟨Nat.le_of_ble_eq_true rfl, Nat.le_of_ble_eq_true rfl⟩ rfl hl.1 rfl (Nat.le_of_ble_eq_true rfl) dX8_goesOn_335 ⟨Nat.zero_le _, Nat.zero_le _⟩) (fun σ9 H locs hw hP hS => ?_)
                              rw [show σ9 = σ_48 from hw] at hP
                              exact r_vret C0 X hP hS hr hlk dX8_goesOn_338 (Option.some.inj h)
                          · replace h := it_t h c_44
                            refine lv_iload_n hx hb dX8_goesOn_290 rfl (lv_at hl 7 rfl) ?_
                            refine lv_aload_n hx hb dX8_goesOn_291 rfl (lv_at hl 5 rfl) ?_
                            refine gf_X8_197 C0 X hP 91 ⟨by decide, rfl⟩ dX8_goesOn_292 ?_
                            refine lv_icmp_ne (tgt := 305) hx hb dX8_goesOn_295 (by decide) (fun c_49 => ?_) (fun c_49 => ?_)
                            · replace h := it_f h c_49
                              refine lv_aload_n hx hb dX8_goesOn_305 rfl (lv_at hl 6 rfl) ?_
                              refine lv_iload_n hx hb dX8_goesOn_306 rfl (lv_at hl 7 rfl) ?_
                              refine lv_iload hx hb dX8_goesOn_307 (lv_at hl 0 rfl) ?_
                              refine lv_aload_n hx hb dX8_goesOn_309 rfl (lv_at hl 6 rfl) ?_
                              refine lv_bipush (v := 14) hx hb dX8_goesOn_310 (by decide) ?_
                              refine lv_iconst (v := 3) hx hb dX8_goesOn_312 (by decide) ?_
                              refine lv_iload hx hb dX8_goesOn_313 (lv_at hl 1 rfl) ?_
                              refine lv_imul hx hb dX8_goesOn_315 ?_
                              refine lv_iadd hx hb dX8_goesOn_316 ?_
                              refine lv_iconst (v := 2) hx hb dX8_goesOn_317 (by decide) ?_
                              refine lv_iadd hx hb dX8_goesOn_318 ?_
                              obtain ⟨k_50, ek_50, h⟩ := bnd h
                              replace ek_50 := ix_s ek_50 (by decide)
                              refine r_ialdN C0 X hP a1 (k := k_50) ha1 ek_50.1 ek_50.2 dX8_goesOn_319 ?_
                              refine lv_iload hx hb dX8_goesOn_320 (lv_at hl 1 rfl) ?_
                              obtain ⟨r_51, er_51, h⟩ := bnd h
                              refine r_ci X hS (r_runS (As := [.ref (ad a1), .int x2, .int v7, .int ((stm σ a1 4 ((σ a1 4) + 1)) a1 k_50), .int v6]) (rest := []) C0 X hP L_X8_200 (fun sz => c_X8_backsOf l D cA ad o (stm σ a1 4 ((σ a1 4) + 1)) a1 x2 v7 ((stm σ a1 4 ((σ a1 4) + 1)) a1 k_50) v6 ha1 r_51 er_51 sz) ⟨Nat.le_of_ble_eq_true rfl, Nat.le_of_ble_eq_true rfl⟩ rfl hl.1 rfl (Nat.le_of_ble_eq_true rfl) dX8_goesOn_322 ⟨Nat.zero_le _, Nat.zero_le _⟩) (fun r9 σ9 H locs hw hP hS => ?_)
                              rw [hw.2] at hP
                              rw [hw.1]
                              refine lv_istore (lv' := [(8, .int r_51), (7, .int v7), (6, .int v6), (5, .int v5), (4, .int v4), (3, .int v3), (0, .ref (ad 91)), (1, .ref (ad a1)), (2, .int x2)]) hx hb dX8_goesOn_325 hl (by decide) rfl (fun ls hl => ?_)
                              refine lv_iload hx hb dX8_goesOn_327 (lv_at hl 0 rfl) ?_
                              refine lv_if_lt (tgt := 338) hx hb dX8_goesOn_329 (by decide) (fun c_52 => ?_) (fun c_52 => ?_)
                              · replace h := it_t h c_52
                                exact r_vret C0 X hP hS hr hlk dX8_goesOn_338 (Option.some.inj h)
                              · replace h := it_f h c_52
                                refine lv_aload_n hx hb dX8_goesOn_332 rfl (lv_at hl 7 rfl) ?_
                                refine lv_iload hx hb dX8_goesOn_333 (lv_at hl 0 rfl) ?_
                                obtain ⟨σ_53, eσ_53, h⟩ := bnd h
                                refine r_cv X hS (r_runS (As := [.ref (ad a1), .int r_51]) (rest := []) C0 X hP L_X8_181 (fun sz => c_X8_backs_ l D cA ad o (stm σ a1 4 ((σ a1 4) + 1)) a1 r_51 ha1 σ_53 eσ_53 sz) ⟨Nat.le_of_ble_eq_true rfl, Nat.le_of_ble_eq_true rfl⟩ rfl hl.1 rfl (Nat.le_of_ble_eq_true rfl) dX8_goesOn_335 ⟨Nat.zero_le _, Nat.zero_le _⟩) (fun σ9 H locs hw hP hS => ?_)
                                rw [show σ9 = σ_53 from hw] at hP
                                exact r_vret C0 X hP hS hr hlk dX8_goesOn_338 (Option.some.inj h)
                            · replace h := it_t h c_49
                              refine lv_aload_n hx hb dX8_goesOn_298 rfl (lv_at hl 5 rfl) ?_
                              refine lv_aload_n hx hb dX8_goesOn_299 rfl (lv_at hl 6 rfl) ?_
                              refine lv_iconst (v := 2) hx hb dX8_goesOn_300 (by decide) ?_
                              refine r_ialdN C0 X hP a1 (k := 2) ha1 rfl (by decide) dX8_goesOn_301 ?_
                              refine pf_X8_191 C0 X hP hS 91 ⟨by decide, rfl⟩ dX8_goesOn_302 (fun H locs hP hS => ?_)
                              refine lv_aload_n hx hb dX8_goesOn_305 rfl (lv_at hl 6 rfl) ?_
                              refine lv_iload_n hx hb dX8_goesOn_306 rfl (lv_at hl 7 rfl) ?_
                              refine lv_iload hx hb dX8_goesOn_307 (lv_at hl 0 rfl) ?_
                              refine lv_aload_n hx hb dX8_goesOn_309 rfl (lv_at hl 6 rfl) ?_
                              refine lv_bipush (v := 14) hx hb dX8_goesOn_310 (by decide) ?_
                              refine lv_iconst (v := 3) hx hb dX8_goesOn_312 (by decide) ?_
                              refine lv_iload hx hb dX8_goesOn_313 (lv_at hl 1 rfl) ?_
                              refine lv_imul hx hb dX8_goesOn_315 ?_
                              refine lv_iadd hx hb dX8_goesOn_316 ?_
                              refine lv_iconst (v := 2) hx hb dX8_goesOn_317 (by decide) ?_
                              refine lv_iadd hx hb dX8_goesOn_318 ?_
                              obtain ⟨k_54, ek_54, h⟩ := bnd h
                              replace ek_54 := ix_s ek_54 (by decide)
                              refine r_ialdN C0 X hP a1 (k := k_54) ha1 ek_54.1 ek_54.2 dX8_goesOn_319 ?_
                              refine lv_iload hx hb dX8_goesOn_320 (lv_at hl 1 rfl) ?_
                              obtain ⟨r_55, er_55, h⟩ := bnd h
                              refine r_ci X hS (r_runS (As := [.ref (ad a1), .int x2, .int v7, .int ((stm (stm σ a1 4 ((σ a1 4) + 1)) 91 19 ((stm σ a1 4 ((σ a1 4) + 1)) a1 2)) a1 k_54), .int v6]) (rest := []) C0 X hP L_X8_200 (fun sz => c_X8_backsOf l D cA ad o (stm (stm σ a1 4 ((σ a1 4) + 1)) 91 19 ((stm σ a1 4 ((σ a1 4) + 1)) a1 2)) a1 x2 v7 ((stm (stm σ a1 4 ((σ a1 4) + 1)) 91 19 ((stm σ a1 4 ((σ a1 4) + 1)) a1 2)) a1 k_54) v6 ha1 r_55 er_55 sz) ⟨Nat.le_of_ble_eq_true rfl, Nat.le_of_ble_eq_true rfl⟩ rfl hl.1 rfl (Nat.le_of_ble_eq_true rfl) dX8_goesOn_322 ⟨Nat.zero_le _, Nat.zero_le _⟩) (fun r9 σ9 H locs hw hP hS => ?_)
                              rw [hw.2] at hP
                              rw [hw.1]
                              refine lv_istore (lv' := [(8, .int r_55), (7, .int v7), (6, .int v6), (5, .int v5), (4, .int v4), (3, .int v3), (0, .ref (ad 91)), (1, .ref (ad a1)), (2, .int x2)]) hx hb dX8_goesOn_325 hl (by decide) rfl (fun ls hl => ?_)
                              refine lv_iload hx hb dX8_goesOn_327 (lv_at hl 0 rfl) ?_
                              refine lv_if_lt (tgt := 338) hx hb dX8_goesOn_329 (by decide) (fun c_56 => ?_) (fun c_56 => ?_)
                              · replace h := it_t h c_56
                                exact r_vret C0 X hP hS hr hlk dX8_goesOn_338 (Option.some.inj h)
                              · replace h := it_f h c_56
                                refine lv_aload_n hx hb dX8_goesOn_332 rfl (lv_at hl 7 rfl) ?_
                                refine lv_iload hx hb dX8_goesOn_333 (lv_at hl 0 rfl) ?_
                                obtain ⟨σ_57, eσ_57, h⟩ := bnd h
                                refine r_cv X hS (r_runS (As := [.ref (ad a1), .int r_55]) (rest := []) C0 X hP L_X8_181 (fun sz => c_X8_backs_ l D cA ad o (stm (stm σ a1 4 ((σ a1 4) + 1)) 91 19 ((stm σ a1 4 ((σ a1 4) + 1)) a1 2)) a1 r_55 ha1 σ_57 eσ_57 sz) ⟨Nat.le_of_ble_eq_true rfl, Nat.le_of_ble_eq_true rfl⟩ rfl hl.1 rfl (Nat.le_of_ble_eq_true rfl) dX8_goesOn_335 ⟨Nat.zero_le _, Nat.zero_le _⟩) (fun σ9 H locs hw hP hS => ?_)
                                rw [show σ9 = σ_57 from hw] at hP
                                exact r_vret C0 X hP hS hr hlk dX8_goesOn_338 (Option.some.inj h)
                  · replace h := it_f h c_18
                    refine lv_goto (tgt := 339) hx hb dX8_goesOn_247 (by decide) ?_
                    refine lv_iinc (v := (v7 + 1)) (lv' := [(7, .int (v7 + 1)), (6, .int v6), (5, .int v5), (4, .int v4), (3, .int v3), (0, .ref (ad 91)), (1, .ref (ad a1)), (2, .int x2)]) hx hb dX8_goesOn_339 hl (k := 0) rfl rfl (by decide) rfl (fun ls hl => ?_)
                    refine lv_goto (tgt := 202) hx hb dX8_goesOn_342 (by decide) ?_
                    exact ih202 σ (v7 + 1) v6 v5 v4 v3 _ _ ls  h hP hS (lv_sub hl [0, 1, 2, 3, 4, 5, 6, 7] rfl)
        exact lp_11 FU σ_9 0 r_4 r_3 r_2 r_1 _ _ ls  h hP hS (lv_sub hl [0, 1, 2, 3, 4, 5, 6, 7] rfl)
      · replace h := it_f h c_10
        exact r_vret C0 X hP hS hr hlk dX8_goesOn_198 (Option.some.inj h)
    · replace h := it_f h c_7
      refine lv_aload_n hx hb dX8_goesOn_83 rfl (lv_at hl 5 rfl) ?_
      refine lv_iload_n hx hb dX8_goesOn_84 rfl (lv_at hl 6 rfl) ?_
      refine lv_iconst (v := 2) hx hb dX8_goesOn_85 (by decide) ?_
      obtain ⟨r_58, er_58, h⟩ := bnd h
      refine r_ci X hS (r_runS (As := [.ref (ad a1), .int x2, .int 2]) (rest := []) C0 X hP L_X8_130 (fun sz => c_X8_get l D cA ad o σ a1 x2 2 ha1 r_58 er_58 sz) ⟨Nat.le_of_ble_eq_true rfl, Nat.le_of_ble_eq_true rfl⟩ rfl hl.1 rfl (Nat.le_of_ble_eq_true rfl) dX8_goesOn_86 ⟨Nat.zero_le _, Nat.zero_le _⟩) (fun r9 σ9 H locs hw hP hS => ?_)
      rw [hw.2] at hP
      rw [hw.1]
      refine lv_iconst (v := 1) hx hb dX8_goesOn_89 (by decide) ?_
      refine lv_icmp_ne (tgt := 121) hx hb dX8_goesOn_90 (by decide) (fun c_59 => ?_) (fun c_59 => ?_)
      · replace h := it_f h c_59
        refine lv_iconst (v := 0) hx hb dX8_goesOn_121 (by decide) ?_
        refine lv_istore (lv' := [(7, .int 0), (6, .int r_4), (5, .int r_3), (4, .int r_2), (3, .int r_1), (0, .ref (ad 91)), (1, .ref (ad a1)), (2, .int x2)]) hx hb dX8_goesOn_122 hl (by decide) rfl (fun ls hl => ?_)
        refine lv_aload_n hx hb dX8_goesOn_124 rfl (lv_at hl 6 rfl) ?_
        refine lv_iload_n hx hb dX8_goesOn_125 rfl (lv_at hl 7 rfl) ?_
        refine lv_iconst (v := 5) hx hb dX8_goesOn_126 (by decide) ?_
        refine lv_iload_n hx hb dX8_goesOn_127 rfl (lv_at hl 4 rfl) ?_
        refine lv_iload hx hb dX8_goesOn_128 (lv_at hl 3 rfl) ?_
        refine lv_iadd hx hb dX8_goesOn_130 ?_
        obtain ⟨σ_60, eσ_60, h⟩ := bnd h
        refine r_cv X hS (r_runS (As := [.ref (ad a1), .int x2, .int 5, .int (r_1 + r_2)]) (rest := []) C0 X hP L_X8_97 (fun sz => c_X8_puts l D cA ad o σ a1 x2 5 (r_1 + r_2) ha1 σ_60 eσ_60 sz) ⟨Nat.le_of_ble_eq_true rfl, Nat.le_of_ble_eq_true rfl⟩ rfl hl.1 rfl (Nat.le_of_ble_eq_true rfl) dX8_goesOn_131 ⟨Nat.zero_le _, Nat.zero_le _⟩) (fun σ9 H locs hw hP hS => ?_)
        rw [show σ9 = σ_60 from hw] at hP
        refine lv_aload_n hx hb dX8_goesOn_134 rfl (lv_at hl 6 rfl) ?_
        refine lv_iload_n hx hb dX8_goesOn_135 rfl (lv_at hl 7 rfl) ?_
        refine lv_bipush (v := 7) hx hb dX8_goesOn_136 (by decide) ?_
        refine lv_iload hx hb dX8_goesOn_138 (lv_at hl 0 rfl) ?_
        obtain ⟨σ_61, eσ_61, h⟩ := bnd h
        refine r_cv X hS (r_runS (As := [.ref (ad a1), .int x2, .int 7, .int 0]) (rest := []) C0 X hP L_X8_97 (fun sz => c_X8_puts l D cA ad o σ_60 a1 x2 7 0 ha1 σ_61 eσ_61 sz) ⟨Nat.le_of_ble_eq_true rfl, Nat.le_of_ble_eq_true rfl⟩ rfl hl.1 rfl (Nat.le_of_ble_eq_true rfl) dX8_goesOn_140 ⟨Nat.zero_le _, Nat.zero_le _⟩) (fun σ9 H locs hw hP hS => ?_)
        rw [show σ9 = σ_61 from hw] at hP
        refine lv_aload_n hx hb dX8_goesOn_143 rfl (lv_at hl 5 rfl) ?_
        refine lv_iconst (v := 1) hx hb dX8_goesOn_144 (by decide) ?_
        refine pf_X8_177 C0 X hP hS 91 (Or.inr rfl) ⟨by decide, rfl⟩ dX8_goesOn_145 (fun H locs hP hS => ?_)
        refine lv_iload_n hx hb dX8_goesOn_148 rfl (lv_at hl 4 rfl) ?_
        refine lv_iload hx hb dX8_goesOn_149 (lv_at hl 3 rfl) ?_
        refine lv_iadd hx hb dX8_goesOn_151 ?_
        refine lv_aload_n hx hb dX8_goesOn_152 rfl (lv_at hl 6 rfl) ?_
        refine lv_iload_n hx hb dX8_goesOn_153 rfl (lv_at hl 7 rfl) ?_
        obtain ⟨r_62, er_62, h⟩ := bnd h
        refine r_ci X hS (r_runS (As := [.ref (ad a1), .int x2]) (rest := [.int (r_1 + r_2)]) C0 X hP L_X8_188 (fun sz => c_X8_goal l D cA ad o (stm σ_61 91 20 1) a1 x2 ha1 r_62 er_62 sz) ⟨Nat.le_of_ble_eq_true rfl, Nat.le_of_ble_eq_true rfl⟩ rfl hl.1 rfl (Nat.le_of_ble_eq_true rfl) dX8_goesOn_154 ⟨Nat.zero_le _, Nat.zero_le _⟩) (fun r9 σ9 H locs hw hP hS => ?_)
        rw [hw.2] at hP
        rw [hw.1]
        refine lv_icmp_ne (tgt := 176) hx hb dX8_goesOn_157 (by decide) (fun c_63 => ?_) (fun c_63 => ?_)
        · replace h := it_f h c_63
          exact r_vret C0 X hP hS hr hlk dX8_goesOn_176 (Option.some.inj h)
        · replace h := it_t h c_63
          refine lv_aload_n hx hb dX8_goesOn_160 rfl (lv_at hl 6 rfl) ?_
          refine lv_iload_n hx hb dX8_goesOn_161 rfl (lv_at hl 7 rfl) ?_
          refine lv_iconst (v := 5) hx hb dX8_goesOn_162 (by decide) ?_
          refine lv_bipush (v := (-3)) hx hb dX8_goesOn_163 (by decide) ?_
          obtain ⟨σ_64, eσ_64, h⟩ := bnd h
          refine r_cv X hS (r_runS (As := [.ref (ad a1), .int x2, .int 5, .int (-3)]) (rest := []) C0 X hP L_X8_97 (fun sz => c_X8_puts l D cA ad o (stm σ_61 91 20 1) a1 x2 5 (-3) ha1 σ_64 eσ_64 sz) ⟨Nat.le_of_ble_eq_true rfl, Nat.le_of_ble_eq_true rfl⟩ rfl hl.1 rfl (Nat.le_of_ble_eq_true rfl) dX8_goesOn_165 ⟨Nat.zero_le _, Nat.zero_le _⟩) (fun σ9 H locs hw hP hS => ?_)
          rw [show σ9 = σ_64 from hw] at hP
          refine lv_aload_n hx hb dX8_goesOn_168 rfl (lv_at hl 6 rfl) ?_
          refine lv_iload_n hx hb dX8_goesOn_169 rfl (lv_at hl 7 rfl) ?_
          refine lv_bipush (v := 7) hx hb dX8_goesOn_170 (by decide) ?_
          refine lv_iconst (v := 0) hx hb dX8_goesOn_172 (by decide) ?_
          obtain ⟨σ_65, eσ_65, h⟩ := bnd h
          refine r_cv X hS (r_runS (As := [.ref (ad a1), .int x2, .int 7, .int 0]) (rest := []) C0 X hP L_X8_97 (fun sz => c_X8_puts l D cA ad o σ_64 a1 x2 7 0 ha1 σ_65 eσ_65 sz) ⟨Nat.le_of_ble_eq_true rfl, Nat.le_of_ble_eq_true rfl⟩ rfl hl.1 rfl (Nat.le_of_ble_eq_true rfl) dX8_goesOn_173 ⟨Nat.zero_le _, Nat.zero_le _⟩) (fun σ9 H locs hw hP hS => ?_)
          rw [show σ9 = σ_65 from hw] at hP
          exact r_vret C0 X hP hS hr hlk dX8_goesOn_176 (Option.some.inj h)
      · replace h := it_t h c_59
        refine lv_aload_n hx hb dX8_goesOn_93 rfl (lv_at hl 5 rfl) ?_
        refine lv_bipush (v := 14) hx hb dX8_goesOn_94 (by decide) ?_
        refine lv_iconst (v := 3) hx hb dX8_goesOn_96 (by decide) ?_
        refine lv_iload hx hb dX8_goesOn_97 (lv_at hl 0 rfl) ?_
        refine lv_imul hx hb dX8_goesOn_99 ?_
        refine lv_iadd hx hb dX8_goesOn_100 ?_
        refine lv_iconst (v := 1) hx hb dX8_goesOn_101 (by decide) ?_
        refine lv_iadd hx hb dX8_goesOn_102 ?_
        obtain ⟨k_66, ek_66, h⟩ := bnd h
        replace ek_66 := ix_s ek_66 (by decide)
        refine r_ialdN C0 X hP a1 (k := k_66) ha1 ek_66.1 ek_66.2 dX8_goesOn_103 ?_
        refine lv_iload hx hb dX8_goesOn_104 (lv_at hl 2 rfl) ?_
        refine lv_if_le (tgt := 113) hx hb dX8_goesOn_106 (by decide) (fun c_67 => ?_) (fun c_67 => ?_)
        · replace h := it_t h c_67
          refine lv_iconst (v := 2) hx hb dX8_goesOn_113 (by decide) ?_
          refine lv_icmp_ne (tgt := 121) hx hb dX8_goesOn_114 (by decide) (fun c_68 => ?_) (fun c_68 => ?_)
          · replace h := it_f h c_68
            refine lv_iconst (v := 0) hx hb dX8_goesOn_121 (by decide) ?_
            refine lv_istore (lv' := [(7, .int 0), (6, .int r_4), (5, .int r_3), (4, .int r_2), (3, .int r_1), (0, .ref (ad 91)), (1, .ref (ad a1)), (2, .int x2)]) hx hb dX8_goesOn_122 hl (by decide) rfl (fun ls hl => ?_)
            refine lv_aload_n hx hb dX8_goesOn_124 rfl (lv_at hl 6 rfl) ?_
            refine lv_iload_n hx hb dX8_goesOn_125 rfl (lv_at hl 7 rfl) ?_
            refine lv_iconst (v := 5) hx hb dX8_goesOn_126 (by decide) ?_
            refine lv_iload_n hx hb dX8_goesOn_127 rfl (lv_at hl 4 rfl) ?_
            refine lv_iload hx hb dX8_goesOn_128 (lv_at hl 3 rfl) ?_
            refine lv_iadd hx hb dX8_goesOn_130 ?_
            obtain ⟨σ_69, eσ_69, h⟩ := bnd h
            refine r_cv X hS (r_runS (As := [.ref (ad a1), .int x2, .int 5, .int (r_1 + r_2)]) (rest := []) C0 X hP L_X8_97 (fun sz => c_X8_puts l D cA ad o σ a1 x2 5 (r_1 + r_2) ha1 σ_69 eσ_69 sz) ⟨Nat.le_of_ble_eq_true rfl, Nat.le_of_ble_eq_true rfl⟩ rfl hl.1 rfl (Nat.le_of_ble_eq_true rfl) dX8_goesOn_131 ⟨Nat.zero_le _, Nat.zero_le _⟩) (fun σ9 H locs hw hP hS => ?_)
            rw [show σ9 = σ_69 from hw] at hP
            refine lv_aload_n hx hb dX8_goesOn_134 rfl (lv_at hl 6 rfl) ?_
            refine lv_iload_n hx hb dX8_goesOn_135 rfl (lv_at hl 7 rfl) ?_
            refine lv_bipush (v := 7) hx hb dX8_goesOn_136 (by decide) ?_
            refine lv_iload hx hb dX8_goesOn_138 (lv_at hl 0 rfl) ?_
            obtain ⟨σ_70, eσ_70, h⟩ := bnd h
            refine r_cv X hS (r_runS (As := [.ref (ad a1), .int x2, .int 7, .int 0]) (rest := []) C0 X hP L_X8_97 (fun sz => c_X8_puts l D cA ad o σ_69 a1 x2 7 0 ha1 σ_70 eσ_70 sz) ⟨Nat.le_of_ble_eq_true rfl, Nat.le_of_ble_eq_true rfl⟩ rfl hl.1 rfl (Nat.le_of_ble_eq_true rfl) dX8_goesOn_140 ⟨Nat.zero_le _, Nat.zero_le _⟩) (fun σ9 H locs hw hP hS => ?_)
            rw [show σ9 = σ_70 from hw] at hP
            refine lv_aload_n hx hb dX8_goesOn_143 rfl (lv_at hl 5 rfl) ?_
            refine lv_iconst (v := 1) hx hb dX8_goesOn_144 (by decide) ?_
            refine pf_X8_177 C0 X hP hS 91 (Or.inr rfl) ⟨by decide, rfl⟩ dX8_goesOn_145 (fun H locs hP hS => ?_)
            refine lv_iload_n hx hb dX8_goesOn_148 rfl (lv_at hl 4 rfl) ?_
            refine lv_iload hx hb dX8_goesOn_149 (lv_at hl 3 rfl) ?_
            refine lv_iadd hx hb dX8_goesOn_151 ?_
            refine lv_aload_n hx hb dX8_goesOn_152 rfl (lv_at hl 6 rfl) ?_
            refine lv_iload_n hx hb dX8_goesOn_153 rfl (lv_at hl 7 rfl) ?_
            obtain ⟨r_71, er_71, h⟩ := bnd h
            refine r_ci X hS (r_runS (As := [.ref (ad a1), .int x2]) (rest := [.int (r_1 + r_2)]) C0 X hP L_X8_188 (fun sz => c_X8_goal l D cA ad o (stm σ_70 91 20 1) a1 x2 ha1 r_71 er_71 sz) ⟨Nat.le_of_ble_eq_true rfl, Nat.le_of_ble_eq_true rfl⟩ rfl hl.1 rfl (Nat.le_of_ble_eq_true rfl) dX8_goesOn_154 ⟨Nat.zero_le _, Nat.zero_le _⟩) (fun r9 σ9 H locs hw hP hS => ?_)
            rw [hw.2] at hP
            rw [hw.1]
            refine lv_icmp_ne (tgt := 176) hx hb dX8_goesOn_157 (by decide) (fun c_72 => ?_) (fun c_72 => ?_)
            · replace h := it_f h c_72
              exact r_vret C0 X hP hS hr hlk dX8_goesOn_176 (Option.some.inj h)
            · replace h := it_t h c_72
              refine lv_aload_n hx hb dX8_goesOn_160 rfl (lv_at hl 6 rfl) ?_
              refine lv_iload_n hx hb dX8_goesOn_161 rfl (lv_at hl 7 rfl) ?_
              refine lv_iconst (v := 5) hx hb dX8_goesOn_162 (by decide) ?_
              refine lv_bipush (v := (-3)) hx hb dX8_goesOn_163 (by decide) ?_
              obtain ⟨σ_73, eσ_73, h⟩ := bnd h
              refine r_cv X hS (r_runS (As := [.ref (ad a1), .int x2, .int 5, .int (-3)]) (rest := []) C0 X hP L_X8_97 (fun sz => c_X8_puts l D cA ad o (stm σ_70 91 20 1) a1 x2 5 (-3) ha1 σ_73 eσ_73 sz) ⟨Nat.le_of_ble_eq_true rfl, Nat.le_of_ble_eq_true rfl⟩ rfl hl.1 rfl (Nat.le_of_ble_eq_true rfl) dX8_goesOn_165 ⟨Nat.zero_le _, Nat.zero_le _⟩) (fun σ9 H locs hw hP hS => ?_)
              rw [show σ9 = σ_73 from hw] at hP
              refine lv_aload_n hx hb dX8_goesOn_168 rfl (lv_at hl 6 rfl) ?_
              refine lv_iload_n hx hb dX8_goesOn_169 rfl (lv_at hl 7 rfl) ?_
              refine lv_bipush (v := 7) hx hb dX8_goesOn_170 (by decide) ?_
              refine lv_iconst (v := 0) hx hb dX8_goesOn_172 (by decide) ?_
              obtain ⟨σ_74, eσ_74, h⟩ := bnd h
              refine r_cv X hS (r_runS (As := [.ref (ad a1), .int x2, .int 7, .int 0]) (rest := []) C0 X hP L_X8_97 (fun sz => c_X8_puts l D cA ad o σ_73 a1 x2 7 0 ha1 σ_74 eσ_74 sz) ⟨Nat.le_of_ble_eq_true rfl, Nat.le_of_ble_eq_true rfl⟩ rfl hl.1 rfl (Nat.le_of_ble_eq_true rfl) dX8_goesOn_173 ⟨Nat.zero_le _, Nat.zero_le _⟩) (fun σ9 H locs hw hP hS => ?_)
              rw [show σ9 = σ_74 from hw] at hP
              exact r_vret C0 X hP hS hr hlk dX8_goesOn_176 (Option.some.inj h)
          · replace h := it_t h c_68
            refine lv_iconst (v := 1) hx hb dX8_goesOn_117 (by decide) ?_
            refine lv_goto (tgt := 122) hx hb dX8_goesOn_118 (by decide) ?_
            refine lv_istore (lv' := [(7, .int 1), (6, .int r_4), (5, .int r_3), (4, .int r_2), (3, .int r_1), (0, .ref (ad 91)), (1, .ref (ad a1)), (2, .int x2)]) hx hb dX8_goesOn_122 hl (by decide) rfl (fun ls hl => ?_)
            refine lv_aload_n hx hb dX8_goesOn_124 rfl (lv_at hl 6 rfl) ?_
            refine lv_iload_n hx hb dX8_goesOn_125 rfl (lv_at hl 7 rfl) ?_
            refine lv_iconst (v := 5) hx hb dX8_goesOn_126 (by decide) ?_
            refine lv_iload_n hx hb dX8_goesOn_127 rfl (lv_at hl 4 rfl) ?_
            refine lv_iload hx hb dX8_goesOn_128 (lv_at hl 3 rfl) ?_
            refine lv_iadd hx hb dX8_goesOn_130 ?_
            obtain ⟨σ_75, eσ_75, h⟩ := bnd h
            refine r_cv X hS (r_runS (As := [.ref (ad a1), .int x2, .int 5, .int (r_1 + r_2)]) (rest := []) C0 X hP L_X8_97 (fun sz => c_X8_puts l D cA ad o σ a1 x2 5 (r_1 + r_2) ha1 σ_75 eσ_75 sz) ⟨Nat.le_of_ble_eq_true rfl, Nat.le_of_ble_eq_true rfl⟩ rfl hl.1 rfl (Nat.le_of_ble_eq_true rfl) dX8_goesOn_131 ⟨Nat.zero_le _, Nat.zero_le _⟩) (fun σ9 H locs hw hP hS => ?_)
            rw [show σ9 = σ_75 from hw] at hP
            refine lv_aload_n hx hb dX8_goesOn_134 rfl (lv_at hl 6 rfl) ?_
            refine lv_iload_n hx hb dX8_goesOn_135 rfl (lv_at hl 7 rfl) ?_
            refine lv_bipush (v := 7) hx hb dX8_goesOn_136 (by decide) ?_
            refine lv_iload hx hb dX8_goesOn_138 (lv_at hl 0 rfl) ?_
            obtain ⟨σ_76, eσ_76, h⟩ := bnd h
            refine r_cv X hS (r_runS (As := [.ref (ad a1), .int x2, .int 7, .int 1]) (rest := []) C0 X hP L_X8_97 (fun sz => c_X8_puts l D cA ad o σ_75 a1 x2 7 1 ha1 σ_76 eσ_76 sz) ⟨Nat.le_of_ble_eq_true rfl, Nat.le_of_ble_eq_true rfl⟩ rfl hl.1 rfl (Nat.le_of_ble_eq_true rfl) dX8_goesOn_140 ⟨Nat.zero_le _, Nat.zero_le _⟩) (fun σ9 H locs hw hP hS => ?_)
            rw [show σ9 = σ_76 from hw] at hP
            refine lv_aload_n hx hb dX8_goesOn_143 rfl (lv_at hl 5 rfl) ?_
            refine lv_iconst (v := 1) hx hb dX8_goesOn_144 (by decide) ?_
            refine pf_X8_177 C0 X hP hS 91 (Or.inr rfl) ⟨by decide, rfl⟩ dX8_goesOn_145 (fun H locs hP hS => ?_)
            refine lv_iload_n hx hb dX8_goesOn_148 rfl (lv_at hl 4 rfl) ?_
            refine lv_iload hx hb dX8_goesOn_149 (lv_at hl 3 rfl) ?_
            refine lv_iadd hx hb dX8_goesOn_151 ?_
            refine lv_aload_n hx hb dX8_goesOn_152 rfl (lv_at hl 6 rfl) ?_
            refine lv_iload_n hx hb dX8_goesOn_153 rfl (lv_at hl 7 rfl) ?_
            obtain ⟨r_77, er_77, h⟩ := bnd h
            refine r_ci X hS (r_runS (As := [.ref (ad a1), .int x2]) (rest := [.int (r_1 + r_2)]) C0 X hP L_X8_188 (fun sz => c_X8_goal l D cA ad o (stm σ_76 91 20 1) a1 x2 ha1 r_77 er_77 sz) ⟨Nat.le_of_ble_eq_true rfl, Nat.le_of_ble_eq_true rfl⟩ rfl hl.1 rfl (Nat.le_of_ble_eq_true rfl) dX8_goesOn_154 ⟨Nat.zero_le _, Nat.zero_le _⟩) (fun r9 σ9 H locs hw hP hS => ?_)
            rw [hw.2] at hP
            rw [hw.1]
            refine lv_icmp_ne (tgt := 176) hx hb dX8_goesOn_157 (by decide) (fun c_78 => ?_) (fun c_78 => ?_)
            · replace h := it_f h c_78
              exact r_vret C0 X hP hS hr hlk dX8_goesOn_176 (Option.some.inj h)
            · replace h := it_t h c_78
              refine lv_aload_n hx hb dX8_goesOn_160 rfl (lv_at hl 6 rfl) ?_
              refine lv_iload_n hx hb dX8_goesOn_161 rfl (lv_at hl 7 rfl) ?_
              refine lv_iconst (v := 5) hx hb dX8_goesOn_162 (by decide) ?_
              refine lv_bipush (v := (-3)) hx hb dX8_goesOn_163 (by decide) ?_
              obtain ⟨σ_79, eσ_79, h⟩ := bnd h
              refine r_cv X hS (r_runS (As := [.ref (ad a1), .int x2, .int 5, .int (-3)]) (rest := []) C0 X hP L_X8_97 (fun sz => c_X8_puts l D cA ad o (stm σ_76 91 20 1) a1 x2 5 (-3) ha1 σ_79 eσ_79 sz) ⟨Nat.le_of_ble_eq_true rfl, Nat.le_of_ble_eq_true rfl⟩ rfl hl.1 rfl (Nat.le_of_ble_eq_true rfl) dX8_goesOn_165 ⟨Nat.zero_le _, Nat.zero_le _⟩) (fun σ9 H locs hw hP hS => ?_)
              rw [show σ9 = σ_79 from hw] at hP
              refine lv_aload_n hx hb dX8_goesOn_168 rfl (lv_at hl 6 rfl) ?_
              refine lv_iload_n hx hb dX8_goesOn_169 rfl (lv_at hl 7 rfl) ?_
              refine lv_bipush (v := 7) hx hb dX8_goesOn_170 (by decide) ?_
              refine lv_iconst (v := 0) hx hb dX8_goesOn_172 (by decide) ?_
              obtain ⟨σ_80, eσ_80, h⟩ := bnd h
              refine r_cv X hS (r_runS (As := [.ref (ad a1), .int x2, .int 7, .int 0]) (rest := []) C0 X hP L_X8_97 (fun sz => c_X8_puts l D cA ad o σ_79 a1 x2 7 0 ha1 σ_80 eσ_80 sz) ⟨Nat.le_of_ble_eq_true rfl, Nat.le_of_ble_eq_true rfl⟩ rfl hl.1 rfl (Nat.le_of_ble_eq_true rfl) dX8_goesOn_173 ⟨Nat.zero_le _, Nat.zero_le _⟩) (fun σ9 H locs hw hP hS => ?_)
              rw [show σ9 = σ_80 from hw] at hP
              exact r_vret C0 X hP hS hr hlk dX8_goesOn_176 (Option.some.inj h)
        · replace h := it_f h c_67
          refine lv_iconst (v := 1) hx hb dX8_goesOn_109 (by decide) ?_
          refine lv_goto (tgt := 114) hx hb dX8_goesOn_110 (by decide) ?_
          refine lv_icmp_ne (tgt := 121) hx hb dX8_goesOn_114 (by decide) (fun c_81 => ?_) (fun c_81 => ?_)
          · replace h := it_f h c_81
            refine lv_iconst (v := 0) hx hb dX8_goesOn_121 (by decide) ?_
            refine lv_istore (lv' := [(7, .int 0), (6, .int r_4), (5, .int r_3), (4, .int r_2), (3, .int r_1), (0, .ref (ad 91)), (1, .ref (ad a1)), (2, .int x2)]) hx hb dX8_goesOn_122 hl (by decide) rfl (fun ls hl => ?_)
            refine lv_aload_n hx hb dX8_goesOn_124 rfl (lv_at hl 6 rfl) ?_
            refine lv_iload_n hx hb dX8_goesOn_125 rfl (lv_at hl 7 rfl) ?_
            refine lv_iconst (v := 5) hx hb dX8_goesOn_126 (by decide) ?_
            refine lv_iload_n hx hb dX8_goesOn_127 rfl (lv_at hl 4 rfl) ?_
            refine lv_iload hx hb dX8_goesOn_128 (lv_at hl 3 rfl) ?_
            refine lv_iadd hx hb dX8_goesOn_130 ?_
            obtain ⟨σ_82, eσ_82, h⟩ := bnd h
            refine r_cv X hS (r_runS (As := [.ref (ad a1), .int x2, .int 5, .int (r_1 + r_2)]) (rest := []) C0 X hP L_X8_97 (fun sz => c_X8_puts l D cA ad o σ a1 x2 5 (r_1 + r_2) ha1 σ_82 eσ_82 sz) ⟨Nat.le_of_ble_eq_true rfl, Nat.le_of_ble_eq_true rfl⟩ rfl hl.1 rfl (Nat.le_of_ble_eq_true rfl) dX8_goesOn_131 ⟨Nat.zero_le _, Nat.zero_le _⟩) (fun σ9 H locs hw hP hS => ?_)
            rw [show σ9 = σ_82 from hw] at hP
            refine lv_aload_n hx hb dX8_goesOn_134 rfl (lv_at hl 6 rfl) ?_
            refine lv_iload_n hx hb dX8_goesOn_135 rfl (lv_at hl 7 rfl) ?_
            refine lv_bipush (v := 7) hx hb dX8_goesOn_136 (by decide) ?_
            refine lv_iload hx hb dX8_goesOn_138 (lv_at hl 0 rfl) ?_
            obtain ⟨σ_83, eσ_83, h⟩ := bnd h
            refine r_cv X hS (r_runS (As := [.ref (ad a1), .int x2, .int 7, .int 0]) (rest := []) C0 X hP L_X8_97 (fun sz => c_X8_puts l D cA ad o σ_82 a1 x2 7 0 ha1 σ_83 eσ_83 sz) ⟨Nat.le_of_ble_eq_true rfl, Nat.le_of_ble_eq_true rfl⟩ rfl hl.1 rfl (Nat.le_of_ble_eq_true rfl) dX8_goesOn_140 ⟨Nat.zero_le _, Nat.zero_le _⟩) (fun σ9 H locs hw hP hS => ?_)
            rw [show σ9 = σ_83 from hw] at hP
            refine lv_aload_n hx hb dX8_goesOn_143 rfl (lv_at hl 5 rfl) ?_
            refine lv_iconst (v := 1) hx hb dX8_goesOn_144 (by decide) ?_
            refine pf_X8_177 C0 X hP hS 91 (Or.inr rfl) ⟨by decide, rfl⟩ dX8_goesOn_145 (fun H locs hP hS => ?_)
            refine lv_iload_n hx hb dX8_goesOn_148 rfl (lv_at hl 4 rfl) ?_
            refine lv_iload hx hb dX8_goesOn_149 (lv_at hl 3 rfl) ?_
            refine lv_iadd hx hb dX8_goesOn_151 ?_
            refine lv_aload_n hx hb dX8_goesOn_152 rfl (lv_at hl 6 rfl) ?_
            refine lv_iload_n hx hb dX8_goesOn_153 rfl (lv_at hl 7 rfl) ?_
            obtain ⟨r_84, er_84, h⟩ := bnd h
            refine r_ci X hS (r_runS (As := [.ref (ad a1), .int x2]) (rest := [.int (r_1 + r_2)]) C0 X hP L_X8_188 (fun sz => c_X8_goal l D cA ad o (stm σ_83 91 20 1) a1 x2 ha1 r_84 er_84 sz) ⟨Nat.le_of_ble_eq_true rfl, Nat.le_of_ble_eq_true rfl⟩ rfl hl.1 rfl (Nat.le_of_ble_eq_true rfl) dX8_goesOn_154 ⟨Nat.zero_le _, Nat.zero_le _⟩) (fun r9 σ9 H locs hw hP hS => ?_)
            rw [hw.2] at hP
            rw [hw.1]
            refine lv_icmp_ne (tgt := 176) hx hb dX8_goesOn_157 (by decide) (fun c_85 => ?_) (fun c_85 => ?_)
            · replace h := it_f h c_85
              exact r_vret C0 X hP hS hr hlk dX8_goesOn_176 (Option.some.inj h)
            · replace h := it_t h c_85
              refine lv_aload_n hx hb dX8_goesOn_160 rfl (lv_at hl 6 rfl) ?_
              refine lv_iload_n hx hb dX8_goesOn_161 rfl (lv_at hl 7 rfl) ?_
              refine lv_iconst (v := 5) hx hb dX8_goesOn_162 (by decide) ?_
              refine lv_bipush (v := (-3)) hx hb dX8_goesOn_163 (by decide) ?_
              obtain ⟨σ_86, eσ_86, h⟩ := bnd h
              refine r_cv X hS (r_runS (As := [.ref (ad a1), .int x2, .int 5, .int (-3)]) (rest := []) C0 X hP L_X8_97 (fun sz => c_X8_puts l D cA ad o (stm σ_83 91 20 1) a1 x2 5 (-3) ha1 σ_86 eσ_86 sz) ⟨Nat.le_of_ble_eq_true rfl, Nat.le_of_ble_eq_true rfl⟩ rfl hl.1 rfl (Nat.le_of_ble_eq_true rfl) dX8_goesOn_165 ⟨Nat.zero_le _, Nat.zero_le _⟩) (fun σ9 H locs hw hP hS => ?_)
              rw [show σ9 = σ_86 from hw] at hP
              refine lv_aload_n hx hb dX8_goesOn_168 rfl (lv_at hl 6 rfl) ?_
              refine lv_iload_n hx hb dX8_goesOn_169 rfl (lv_at hl 7 rfl) ?_
              refine lv_bipush (v := 7) hx hb dX8_goesOn_170 (by decide) ?_
              refine lv_iconst (v := 0) hx hb dX8_goesOn_172 (by decide) ?_
              obtain ⟨σ_87, eσ_87, h⟩ := bnd h
              refine r_cv X hS (r_runS (As := [.ref (ad a1), .int x2, .int 7, .int 0]) (rest := []) C0 X hP L_X8_97 (fun sz => c_X8_puts l D cA ad o σ_86 a1 x2 7 0 ha1 σ_87 eσ_87 sz) ⟨Nat.le_of_ble_eq_true rfl, Nat.le_of_ble_eq_true rfl⟩ rfl hl.1 rfl (Nat.le_of_ble_eq_true rfl) dX8_goesOn_173 ⟨Nat.zero_le _, Nat.zero_le _⟩) (fun σ9 H locs hw hP hS => ?_)
              rw [show σ9 = σ_87 from hw] at hP
              exact r_vret C0 X hP hS hr hlk dX8_goesOn_176 (Option.some.inj h)
          · replace h := it_t h c_81
            refine lv_iconst (v := 1) hx hb dX8_goesOn_117 (by decide) ?_
            refine lv_goto (tgt := 122) hx hb dX8_goesOn_118 (by decide) ?_
            refine lv_istore (lv' := [(7, .int 1), (6, .int r_4), (5, .int r_3), (4, .int r_2), (3, .int r_1), (0, .ref (ad 91)), (1, .ref (ad a1)), (2, .int x2)]) hx hb dX8_goesOn_122 hl (by decide) rfl (fun ls hl => ?_)
            refine lv_aload_n hx hb dX8_goesOn_124 rfl (lv_at hl 6 rfl) ?_
            refine lv_iload_n hx hb dX8_goesOn_125 rfl (lv_at hl 7 rfl) ?_
            refine lv_iconst (v := 5) hx hb dX8_goesOn_126 (by decide) ?_
            refine lv_iload_n hx hb dX8_goesOn_127 rfl (lv_at hl 4 rfl) ?_
            refine lv_iload hx hb dX8_goesOn_128 (lv_at hl 3 rfl) ?_
            refine lv_iadd hx hb dX8_goesOn_130 ?_
            obtain ⟨σ_88, eσ_88, h⟩ := bnd h
            refine r_cv X hS (r_runS (As := [.ref (ad a1), .int x2, .int 5, .int (r_1 + r_2)]) (rest := []) C0 X hP L_X8_97 (fun sz => c_X8_puts l D cA ad o σ a1 x2 5 (r_1 + r_2) ha1 σ_88 eσ_88 sz) ⟨Nat.le_of_ble_eq_true rfl, Nat.le_of_ble_eq_true rfl⟩ rfl hl.1 rfl (Nat.le_of_ble_eq_true rfl) dX8_goesOn_131 ⟨Nat.zero_le _, Nat.zero_le _⟩) (fun σ9 H locs hw hP hS => ?_)
            rw [show σ9 = σ_88 from hw] at hP
            refine lv_aload_n hx hb dX8_goesOn_134 rfl (lv_at hl 6 rfl) ?_
            refine lv_iload_n hx hb dX8_goesOn_135 rfl (lv_at hl 7 rfl) ?_
            refine lv_bipush (v := 7) hx hb dX8_goesOn_136 (by decide) ?_
            refine lv_iload hx hb dX8_goesOn_138 (lv_at hl 0 rfl) ?_
            obtain ⟨σ_89, eσ_89, h⟩ := bnd h
            refine r_cv X hS (r_runS (As := [.ref (ad a1), .int x2, .int 7, .int 1]) (rest := []) C0 X hP L_X8_97 (fun sz => c_X8_puts l D cA ad o σ_88 a1 x2 7 1 ha1 σ_89 eσ_89 sz) ⟨Nat.le_of_ble_eq_true rfl, Nat.le_of_ble_eq_true rfl⟩ rfl hl.1 rfl (Nat.le_of_ble_eq_true rfl) dX8_goesOn_140 ⟨Nat.zero_le _, Nat.zero_le _⟩) (fun σ9 H locs hw hP hS => ?_)
            rw [show σ9 = σ_89 from hw] at hP
            refine lv_aload_n hx hb dX8_goesOn_143 rfl (lv_at hl 5 rfl) ?_
            refine lv_iconst (v := 1) hx hb dX8_goesOn_144 (by decide) ?_
            refine pf_X8_177 C0 X hP hS 91 (Or.inr rfl) ⟨by decide, rfl⟩ dX8_goesOn_145 (fun H locs hP hS => ?_)
            refine lv_iload_n hx hb dX8_goesOn_148 rfl (lv_at hl 4 rfl) ?_
            refine lv_iload hx hb dX8_goesOn_149 (lv_at hl 3 rfl) ?_
            refine lv_iadd hx hb dX8_goesOn_151 ?_
            refine lv_aload_n hx hb dX8_goesOn_152 rfl (lv_at hl 6 rfl) ?_
            refine lv_iload_n hx hb dX8_goesOn_153 rfl (lv_at hl 7 rfl) ?_
            obtain ⟨r_90, er_90, h⟩ := bnd h
            refine r_ci X hS (r_runS (As := [.ref (ad a1), .int x2]) (rest := [.int (r_1 + r_2)]) C0 X hP L_X8_188 (fun sz => c_X8_goal l D cA ad o (stm σ_89 91 20 1) a1 x2 ha1 r_90 er_90 sz) ⟨Nat.le_of_ble_eq_true rfl, Nat.le_of_ble_eq_true rfl⟩ rfl hl.1 rfl (Nat.le_of_ble_eq_true rfl) dX8_goesOn_154 ⟨Nat.zero_le _, Nat.zero_le _⟩) (fun r9 σ9 H locs hw hP hS => ?_)
            rw [hw.2] at hP
            rw [hw.1]
            refine lv_icmp_ne (tgt := 176) hx hb dX8_goesOn_157 (by decide) (fun c_91 => ?_) (fun c_91 => ?_)
            · replace h := it_f h c_91
              exact r_vret C0 X hP hS hr hlk dX8_goesOn_176 (Option.some.inj h)
            · replace h := it_t h c_91
              refine lv_aload_n hx hb dX8_goesOn_160 rfl (lv_at hl 6 rfl) ?_
              refine lv_iload_n hx hb dX8_goesOn_161 rfl (lv_at hl 7 rfl) ?_
              refine lv_iconst (v := 5) hx hb dX8_goesOn_162 (by decide) ?_
              refine lv_bipush (v := (-3)) hx hb dX8_goesOn_163 (by decide) ?_
              obtain ⟨σ_92, eσ_92, h⟩ := bnd h
              refine r_cv X hS (r_runS (As := [.ref (ad a1), .int x2, .int 5, .int (-3)]) (rest := []) C0 X hP L_X8_97 (fun sz => c_X8_puts l D cA ad o (stm σ_89 91 20 1) a1 x2 5 (-3) ha1 σ_92 eσ_92 sz) ⟨Nat.le_of_ble_eq_true rfl, Nat.le_of_ble_eq_true rfl⟩ rfl hl.1 rfl (Nat.le_of_ble_eq_true rfl) dX8_goesOn_165 ⟨Nat.zero_le _, Nat.zero_le _⟩) (fun σ9 H locs hw hP hS => ?_)
              rw [show σ9 = σ_92 from hw] at hP
              refine lv_aload_n hx hb dX8_goesOn_168 rfl (lv_at hl 6 rfl) ?_
              refine lv_iload_n hx hb dX8_goesOn_169 rfl (lv_at hl 7 rfl) ?_
              refine lv_bipush (v := 7) hx hb dX8_goesOn_170 (by decide) ?_
              refine lv_iconst (v := 0) hx hb dX8_goesOn_172 (by decide) ?_
              obtain ⟨σ_93, eσ_93, h⟩ := bnd h
              refine r_cv X hS (r_runS (As := [.ref (ad a1), .int x2, .int 7, .int 0]) (rest := []) C0 X hP L_X8_97 (fun sz => c_X8_puts l D cA ad o σ_92 a1 x2 7 0 ha1 σ_93 eσ_93 sz) ⟨Nat.le_of_ble_eq_true rfl, Nat.le_of_ble_eq_true rfl⟩ rfl hl.1 rfl (Nat.le_of_ble_eq_true rfl) dX8_goesOn_173 ⟨Nat.zero_le _, Nat.zero_le _⟩) (fun σ9 H locs hw hP hS => ?_)
              rw [show σ9 = σ_93 from hw] at hP
              exact r_vret C0 X hP hS hr hlk dX8_goesOn_176 (Option.some.inj h)
  · replace h := it_f h c_5
    refine lv_aload_n hx hb dX8_goesOn_36 rfl (lv_at hl 5 rfl) ?_
    refine lv_iload_n hx hb dX8_goesOn_37 rfl (lv_at hl 6 rfl) ?_
    refine lv_aload_n hx hb dX8_goesOn_38 rfl (lv_at hl 5 rfl) ?_
    refine lv_bipush (v := 14) hx hb dX8_goesOn_39 (by decide) ?_
    refine lv_iconst (v := 3) hx hb dX8_goesOn_41 (by decide) ?_
    refine lv_iload hx hb dX8_goesOn_42 (lv_at hl 0 rfl) ?_
    refine lv_imul hx hb dX8_goesOn_44 ?_
    refine lv_iadd hx hb dX8_goesOn_45 ?_
    refine lv_iconst (v := 2) hx hb dX8_goesOn_46 (by decide) ?_
    refine lv_iadd hx hb dX8_goesOn_47 ?_
    obtain ⟨k_94, ek_94, h⟩ := bnd h
    replace ek_94 := ix_s ek_94 (by decide)
    refine r_ialdN C0 X hP a1 (k := k_94) ha1 ek_94.1 ek_94.2 dX8_goesOn_48 ?_
    obtain ⟨r_95, er_95, h⟩ := bnd h
    refine r_ci X hS (r_runS (As := [.ref (ad a1), .int x2, .int (σ a1 k_94)]) (rest := []) C0 X hP L_X8_184 (fun sz => c_X8_entersBy l D cA ad o σ a1 x2 (σ a1 k_94) ha1 r_95 er_95 sz) ⟨Nat.le_of_ble_eq_true rfl, Nat.le_of_ble_eq_true rfl⟩ rfl hl.1 rfl (Nat.le_of_ble_eq_true rfl) dX8_goesOn_49 ⟨Nat.zero_le _, Nat.zero_le _⟩) (fun r9 σ9 H locs hw hP hS => ?_)
    rw [hw.2] at hP
    rw [hw.1]
    refine lv_if_ne (tgt := 72) hx hb dX8_goesOn_52 (by decide) (fun c_96 => ?_) (fun c_96 => ?_)
    · replace h := it_f h c_96
      refine lv_aload_n hx hb dX8_goesOn_72 rfl (lv_at hl 5 rfl) ?_
      refine lv_iload_n hx hb dX8_goesOn_73 rfl (lv_at hl 3 rfl) ?_
      refine lv_iload hx hb dX8_goesOn_74 (lv_at hl 2 rfl) ?_
      refine lv_iadd hx hb dX8_goesOn_76 ?_
      obtain ⟨r_97, er_97, h⟩ := bnd h
      refine r_ci X hS (r_runS (As := [.ref (ad a1), .int (r_1 + r_2)]) (rest := []) C0 X hP L_X8_174 (fun sz => c_X8_hasRoom l D cA ad o σ a1 (r_1 + r_2) ha1 r_97 er_97 sz) ⟨Nat.le_of_ble_eq_true rfl, Nat.le_of_ble_eq_true rfl⟩ rfl hl.1 rfl (Nat.le_of_ble_eq_true rfl) dX8_goesOn_77 ⟨Nat.zero_le _, Nat.zero_le _⟩) (fun r9 σ9 H locs hw hP hS => ?_)
      rw [hw.2] at hP
      rw [hw.1]
      refine lv_if_eq (tgt := 177) hx hb dX8_goesOn_80 (by decide) (fun c_98 => ?_) (fun c_98 => ?_)
      · replace h := it_t h c_98
        refine lv_aload_n hx hb dX8_goesOn_177 rfl (lv_at hl 5 rfl) ?_
        refine lv_iload_n hx hb dX8_goesOn_178 rfl (lv_at hl 6 rfl) ?_
        refine lv_bipush (v := 9) hx hb dX8_goesOn_179 (by decide) ?_
        refine lv_aload_n hx hb dX8_goesOn_181 rfl (lv_at hl 5 rfl) ?_
        refine lv_iload_n hx hb dX8_goesOn_182 rfl (lv_at hl 6 rfl) ?_
        refine lv_bipush (v := 9) hx hb dX8_goesOn_183 (by decide) ?_
        obtain ⟨r_99, er_99, h⟩ := bnd h
        refine r_ci X hS (r_runS (As := [.ref (ad a1), .int x2, .int 9]) (rest := [.int 9, .int x2, .ref (ad a1)]) C0 X hP L_X8_130 (fun sz => c_X8_get l D cA ad o σ a1 x2 9 ha1 r_99 er_99 sz) ⟨Nat.le_of_ble_eq_true rfl, Nat.le_of_ble_eq_true rfl⟩ rfl hl.1 rfl (Nat.le_of_ble_eq_true rfl) dX8_goesOn_185 ⟨Nat.zero_le _, Nat.zero_le _⟩) (fun r9 σ9 H locs hw hP hS => ?_)
        rw [hw.2] at hP
        rw [hw.1]
        refine lv_iconst (v := 1) hx hb dX8_goesOn_188 (by decide) ?_
        refine lv_iadd hx hb dX8_goesOn_189 ?_
        obtain ⟨σ_100, eσ_100, h⟩ := bnd h
        refine r_cv X hS (r_runS (As := [.ref (ad a1), .int x2, .int 9, .int (r_99 + 1)]) (rest := []) C0 X hP L_X8_97 (fun sz => c_X8_puts l D cA ad o σ a1 x2 9 (r_99 + 1) ha1 σ_100 eσ_100 sz) ⟨Nat.le_of_ble_eq_true rfl, Nat.le_of_ble_eq_true rfl⟩ rfl hl.1 rfl (Nat.le_of_ble_eq_true rfl) dX8_goesOn_190 ⟨Nat.zero_le _, Nat.zero_le _⟩) (fun σ9 H locs hw hP hS => ?_)
        rw [show σ9 = σ_100 from hw] at hP
        refine lv_iload hx hb dX8_goesOn_193 (lv_at hl 1 rfl) ?_
        refine lv_if_lt (tgt := 199) hx hb dX8_goesOn_195 (by decide) (fun c_101 => ?_) (fun c_101 => ?_)
        · replace h := it_t h c_101
          refine lv_iconst (v := 0) hx hb dX8_goesOn_199 (by decide) ?_
          refine lv_istore (lv' := [(7, .int 0), (6, .int r_4), (5, .int r_3), (4, .int r_2), (3, .int r_1), (0, .ref (ad 91)), (1, .ref (ad a1)), (2, .int x2)]) hx hb dX8_goesOn_200 hl (by decide) rfl (fun ls hl => ?_)
          have lp_102 : ∀ (nn202 : Nat) (σ : Mem) (v7 : Int32) (v6 : Int32) (v5 : Int32) (v4 : Int32) (v3 : Int32) (H : Heap) (locs : List Loc) (ls : Array Slot), F_X8_goesOn_202b a1 x2 nn202 σ v7 v6 v5 v4 v3 = some res → WP D cA ad o σ H → va_S (FA ad s.heap.size) s.heap H locs → lv_has ls 9 [(7, .int v7), (6, .int v6), (5, .int v5), (4, .int v4), (3, .int v3), (0, .ref (ad 91)), (1, .ref (ad a1)), (2, .int x2)] → W p l e (RM 5) s m ([.ref (ad 91), .ref (ad a1), .int x2] : List Value).toArray below meth c H locs 0 0 (MQ below (va_Qv (fun σ9 => σ9 = res) (QW D cA ad o) (FA ad s.heap.size)) ([.ref (ad 91), .ref (ad a1), .int x2] : List Value).toArray s 0 0 (FA ad s.heap.size)) (F0 m 202 ls []) := by
            intro nn202
            induction nn202 with
            | zero => intro σ v7 v6 v5 v4 v3 H locs ls h hP hS hl; exact absurd (show none = some res from h) nofun
            | succ nn202 ih202 =>
              intro σ v7 v6 v5 v4 v3 H locs ls h hP hS hl
              replace h := (F_X8_goesOn_202b.eq_2 _ _ _ _ _ _ _ _ _).symm.trans h
              refine lv_iload hx hb dX8_goesOn_202 (lv_at hl 0 rfl) ?_
              refine lv_aload_n hx hb dX8_goesOn_204 rfl (lv_at hl 6 rfl) ?_
              refine lv_iconst (v := 1) hx hb dX8_goesOn_205 (by decide) ?_
              refine r_ialdN C0 X hP a1 (k := 1) ha1 rfl (by decide) dX8_goesOn_206 ?_
              refine lv_icmp_ge (tgt := 345) hx hb dX8_goesOn_207 (by decide) (fun c_103 => ?_) (fun c_103 => ?_)
              · replace h := it_t h c_103
                exact r_vret C0 X hP hS hr hlk dX8_goesOn_345 (Option.some.inj h)
              · replace h := it_f h c_103
                refine lv_aload_n hx hb dX8_goesOn_210 rfl (lv_at hl 6 rfl) ?_
                refine lv_iload hx hb dX8_goesOn_211 (lv_at hl 0 rfl) ?_
                refine lv_iconst (v := 5) hx hb dX8_goesOn_213 (by decide) ?_
                obtain ⟨r_104, er_104, h⟩ := bnd h
                refine r_ci X hS (r_runS (As := [.ref (ad a1), .int v7, .int 5]) (rest := []) C0 X hP L_X8_130 (fun sz => c_X8_get l D cA ad o σ a1 v7 5 ha1 r_104 er_104 sz) ⟨Nat.le_of_ble_eq_true rfl, Nat.le_of_ble_eq_true rfl⟩ rfl hl.1 rfl (Nat.le_of_ble_eq_true rfl) dX8_goesOn_214 ⟨Nat.zero_le _, Nat.zero_le _⟩) (fun r9 σ9 H locs hw hP hS => ?_)
                rw [hw.2] at hP
                rw [hw.1]
                refine lv_iload_n hx hb dX8_goesOn_217 rfl (lv_at hl 4 rfl) ?_
                refine lv_iload hx hb dX8_goesOn_218 (lv_at hl 3 rfl) ?_
                refine lv_iadd hx hb dX8_goesOn_220 ?_
                refine lv_icmp_ne (tgt := 339) hx hb dX8_goesOn_221 (by decide) (fun c_105 => ?_) (fun c_105 => ?_)
                · replace h := it_f h c_105
                  refine lv_iinc (v := (v7 + 1)) (lv' := [(7, .int (v7 + 1)), (6, .int v6), (5, .int v5), (4, .int v4), (3, .int v3), (0, .ref (ad 91)), (1, .ref (ad a1)), (2, .int x2)]) hx hb dX8_goesOn_339 hl (k := 0) rfl rfl (by decide) rfl (fun ls hl => ?_)
                  refine lv_goto (tgt := 202) hx hb dX8_goesOn_342 (by decide) ?_
                  exact ih202 σ (v7 + 1) v6 v5 v4 v3 _ _ ls  h hP hS (lv_sub hl [0, 1, 2, 3, 4, 5, 6, 7] rfl)
                · replace h := it_t h c_105
                  refine lv_aload_n hx hb dX8_goesOn_224 rfl (lv_at hl 6 rfl) ?_
                  refine lv_iload hx hb dX8_goesOn_225 (lv_at hl 0 rfl) ?_
                  refine lv_iconst (v := 0) hx hb dX8_goesOn_227 (by decide) ?_
                  obtain ⟨r_106, er_106, h⟩ := bnd h
                  refine r_ci X hS (r_runS (As := [.ref (ad a1), .int v7, .int 0]) (rest := []) C0 X hP L_X8_130 (fun sz => c_X8_get l D cA ad o σ a1 v7 0 ha1 r_106 er_106 sz) ⟨Nat.le_of_ble_eq_true rfl, Nat.le_of_ble_eq_true rfl⟩ rfl hl.1 rfl (Nat.le_of_ble_eq_true rfl) dX8_goesOn_228 ⟨Nat.zero_le _, Nat.zero_le _⟩) (fun r9 σ9 H locs hw hP hS => ?_)
                  rw [hw.2] at hP
                  rw [hw.1]
                  refine lv_iload hx hb dX8_goesOn_231 (lv_at hl 3 rfl) ?_
                  refine lv_icmp_eq (tgt := 339) hx hb dX8_goesOn_233 (by decide) (fun c_107 => ?_) (fun c_107 => ?_)
                  · replace h := it_t h c_107
                    refine lv_iinc (v := (v7 + 1)) (lv' := [(7, .int (v7 + 1)), (6, .int v6), (5, .int v5), (4, .int v4), (3, .int v3), (0, .ref (ad 91)), (1, .ref (ad a1)), (2, .int x2)]) hx hb dX8_goesOn_339 hl (k := 0) rfl rfl (by decide) rfl (fun ls hl => ?_)
                    refine lv_goto (tgt := 202) hx hb dX8_goesOn_342 (by decide) ?_
                    exact ih202 σ (v7 + 1) v6 v5 v4 v3 _ _ ls  h hP hS (lv_sub hl [0, 1, 2, 3, 4, 5, 6, 7] rfl)
                  · replace h := it_f h c_107
                    refine lv_aload_n hx hb dX8_goesOn_236 rfl (lv_at hl 6 rfl) ?_
                    refine lv_iload hx hb dX8_goesOn_237 (lv_at hl 0 rfl) ?_
                    refine lv_bipush (v := 6) hx hb dX8_goesOn_239 (by decide) ?_
                    obtain ⟨r_108, er_108, h⟩ := bnd h
                    refine r_ci X hS (r_runS (As := [.ref (ad a1), .int v7, .int 6]) (rest := []) C0 X hP L_X8_130 (fun sz => c_X8_get l D cA ad o σ a1 v7 6 ha1 r_108 er_108 sz) ⟨Nat.le_of_ble_eq_true rfl, Nat.le_of_ble_eq_true rfl⟩ rfl hl.1 rfl (Nat.le_of_ble_eq_true rfl) dX8_goesOn_241 ⟨Nat.zero_le _, Nat.zero_le _⟩) (fun r9 σ9 H locs hw hP hS => ?_)
                    rw [hw.2] at hP
                    rw [hw.1]
                    refine lv_if_le (tgt := 250) hx hb dX8_goesOn_244 (by decide) (fun c_109 => ?_) (fun c_109 => ?_)
                    · replace h := it_t h c_109
                      refine lv_aload_n hx hb dX8_goesOn_250 rfl (lv_at hl 6 rfl) ?_
                      refine lv_iconst (v := 4) hx hb dX8_goesOn_251 (by decide) ?_
                      refine lv_dup2_11 hx hb dX8_goesOn_252 rfl rfl ?_
                      refine r_ialdN C0 X hP a1 (k := 4) ha1 rfl (by decide) dX8_goesOn_253 ?_
                      refine lv_iconst (v := 1) hx hb dX8_goesOn_254 (by decide) ?_
                      refine lv_iadd hx hb dX8_goesOn_255 ?_
                      refine r_iastN C0 X hP hS a1 (k := 4) ha1 rfl (by decide) dX8_goesOn_256 (fun H locs hP hS => ?_)
                      refine lv_aload_n hx hb dX8_goesOn_257 rfl (lv_at hl 5 rfl) ?_
                      refine gf_X8_191 C0 X hP 91 ⟨by decide, rfl⟩ dX8_goesOn_258 ?_
                      refine lv_if_ge (tgt := 305) hx hb dX8_goesOn_261 (by decide) (fun c_110 => ?_) (fun c_110 => ?_)
                      · replace h := it_t h c_110
                        refine lv_aload_n hx hb dX8_goesOn_305 rfl (lv_at hl 6 rfl) ?_
                        refine lv_iload_n hx hb dX8_goesOn_306 rfl (lv_at hl 7 rfl) ?_
                        refine lv_iload hx hb dX8_goesOn_307 (lv_at hl 0 rfl) ?_
                        refine lv_aload_n hx hb dX8_goesOn_309 rfl (lv_at hl 6 rfl) ?_
                        refine lv_bipush (v := 14) hx hb dX8_goesOn_310 (by decide) ?_
                        refine lv_iconst (v := 3) hx hb dX8_goesOn_312 (by decide) ?_
                        refine lv_iload hx hb dX8_goesOn_313 (lv_at hl 1 rfl) ?_
                        refine lv_imul hx hb dX8_goesOn_315 ?_
                        refine lv_iadd hx hb dX8_goesOn_316 ?_
                        refine lv_iconst (v := 2) hx hb dX8_goesOn_317 (by decide) ?_
                        refine lv_iadd hx hb dX8_goesOn_318 ?_
                        obtain ⟨k_111, ek_111, h⟩ := bnd h
                        replace ek_111 := ix_s ek_111 (by decide)
                        refine r_ialdN C0 X hP a1 (k := k_111) ha1 ek_111.1 ek_111.2 dX8_goesOn_319 ?_
                        refine lv_iload hx hb dX8_goesOn_320 (lv_at hl 1 rfl) ?_
                        obtain ⟨r_112, er_112, h⟩ := bnd h
                        refine r_ci X hS (r_runS (As := [.ref (ad a1), .int x2, .int v7, .int ((stm σ a1 4 ((σ a1 4) + 1)) a1 k_111), .int v6]) (rest := []) C0 X hP L_X8_200 (fun sz => c_X8_backsOf l D cA ad o (stm σ a1 4 ((σ a1 4) + 1)) a1 x2 v7 ((stm σ a1 4 ((σ a1 4) + 1)) a1 k_111) v6 ha1 r_112 er_112 sz) ⟨Nat.le_of_ble_eq_true rfl, Nat.le_of_ble_eq_true rfl⟩ rfl hl.1 rfl (Nat.le_of_ble_eq_true rfl) dX8_goesOn_322 ⟨Nat.zero_le _, Nat.zero_le _⟩) (fun r9 σ9 H locs hw hP hS => ?_)
                        rw [hw.2] at hP
                        rw [hw.1]
                        refine lv_istore (lv' := [(8, .int r_112), (7, .int v7), (6, .int v6), (5, .int v5), (4, .int v4), (3, .int v3), (0, .ref (ad 91)), (1, .ref (ad a1)), (2, .int x2)]) hx hb dX8_goesOn_325 hl (by decide) rfl (fun ls hl => ?_)
                        refine lv_iload hx hb dX8_goesOn_327 (lv_at hl 0 rfl) ?_
                        refine lv_if_lt (tgt := 338) hx hb dX8_goesOn_329 (by decide) (fun c_113 => ?_) (fun c_113 => ?_)
                        · replace h := it_t h c_113
                          exact r_vret C0 X hP hS hr hlk dX8_goesOn_338 (Option.some.inj h)
                        · replace h := it_f h c_113
                          refine lv_aload_n hx hb dX8_goesOn_332 rfl (lv_at hl 7 rfl) ?_
                          refine lv_iload hx hb dX8_goesOn_333 (lv_at hl 0 rfl) ?_
                          obtain ⟨σ_114, eσ_114, h⟩ := bnd h
                          refine r_cv X hS (r_runS (As := [.ref (ad a1), .int r_112]) (rest := []) C0 X hP L_X8_181 (fun sz => c_X8_backs_ l D cA ad o (stm σ a1 4 ((σ a1 4) + 1)) a1 r_112 ha1 σ_114 eσ_114 sz) ⟨Nat.le_of_ble_eq_true rfl, Nat.le_of_ble_eq_true rfl⟩ rfl hl.1 rfl (Nat.le_of_ble_eq_true rfl) dX8_goesOn_335 ⟨Nat.zero_le _, Nat.zero_le _⟩) (fun σ9 H locs hw hP hS => ?_)
                          rw [show σ9 = σ_114 from hw] at hP
                          exact r_vret C0 X hP hS hr hlk dX8_goesOn_338 (Option.some.inj h)
                      · replace h := it_f h c_110
                        refine lv_iload_n hx hb dX8_goesOn_264 rfl (lv_at hl 7 rfl) ?_
                        refine lv_aload_n hx hb dX8_goesOn_265 rfl (lv_at hl 5 rfl) ?_
                        refine gf_X8_194 C0 X hP 91 ⟨by decide, rfl⟩ dX8_goesOn_266 ?_
                        refine lv_icmp_ne (tgt := 281) hx hb dX8_goesOn_269 (by decide) (fun c_115 => ?_) (fun c_115 => ?_)
                        · replace h := it_f h c_115
                          refine lv_iload hx hb dX8_goesOn_281 (lv_at hl 0 rfl) ?_
                          refine lv_aload_n hx hb dX8_goesOn_283 rfl (lv_at hl 5 rfl) ?_
                          refine gf_X8_194 C0 X hP 91 ⟨by decide, rfl⟩ dX8_goesOn_284 ?_
                          refine lv_icmp_ne (tgt := 305) hx hb dX8_goesOn_287 (by decide) (fun c_116 => ?_) (fun c_116 => ?_)
                          · replace h := it_f h c_116
                            refine lv_aload_n hx hb dX8_goesOn_305 rfl (lv_at hl 6 rfl) ?_
                            refine lv_iload_n hx hb dX8_goesOn_306 rfl (lv_at hl 7 rfl) ?_
                            refine lv_iload hx hb dX8_goesOn_307 (lv_at hl 0 rfl) ?_
                            refine lv_aload_n hx hb dX8_goesOn_309 rfl (lv_at hl 6 rfl) ?_
                            refine lv_bipush (v := 14) hx hb dX8_goesOn_310 (by decide) ?_
                            refine lv_iconst (v := 3) hx hb dX8_goesOn_312 (by decide) ?_
                            refine lv_iload hx hb dX8_goesOn_313 (lv_at hl 1 rfl) ?_
                            refine lv_imul hx hb dX8_goesOn_315 ?_
                            refine lv_iadd hx hb dX8_goesOn_316 ?_
                            refine lv_iconst (v := 2) hx hb dX8_goesOn_317 (by decide) ?_
                            refine lv_iadd hx hb dX8_goesOn_318 ?_
                            obtain ⟨k_117, ek_117, h⟩ := bnd h
                            replace ek_117 := ix_s ek_117 (by decide)
                            refine r_ialdN C0 X hP a1 (k := k_117) ha1 ek_117.1 ek_117.2 dX8_goesOn_319 ?_
                            refine lv_iload hx hb dX8_goesOn_320 (lv_at hl 1 rfl) ?_
                            obtain ⟨r_118, er_118, h⟩ := bnd h
                            refine r_ci X hS (r_runS (As := [.ref (ad a1), .int x2, .int v7, .int ((stm σ a1 4 ((σ a1 4) + 1)) a1 k_117), .int v6]) (rest := []) C0 X hP L_X8_200 (fun sz => c_X8_backsOf l D cA ad o (stm σ a1 4 ((σ a1 4) + 1)) a1 x2 v7 ((stm σ a1 4 ((σ a1 4) + 1)) a1 k_117) v6 ha1 r_118 er_118 sz) ⟨Nat.le_of_ble_eq_true rfl, Nat.le_of_ble_eq_true rfl⟩ rfl hl.1 rfl (Nat.le_of_ble_eq_true rfl) dX8_goesOn_322 ⟨Nat.zero_le _, Nat.zero_le _⟩) (fun r9 σ9 H locs hw hP hS => ?_)
                            rw [hw.2] at hP
                            rw [hw.1]
                            refine lv_istore (lv' := [(8, .int r_118), (7, .int v7), (6, .int v6), (5, .int v5), (4, .int v4), (3, .int v3), (0, .ref (ad 91)), (1, .ref (ad a1)), (2, .int x2)]) hx hb dX8_goesOn_325 hl (by decide) rfl (fun ls hl => ?_)
                            refine lv_iload hx hb dX8_goesOn_327 (lv_at hl 0 rfl) ?_
                            refine lv_if_lt (tgt := 338) hx hb dX8_goesOn_329 (by decide) (fun c_119 => ?_) (fun c_119 => ?_)
                            · replace h := it_t h c_119
                              exact r_vret C0 X hP hS hr hlk dX8_goesOn_338 (Option.some.inj h)
                            · replace h := it_f h c_119
                              refine lv_aload_n hx hb dX8_goesOn_332 rfl (lv_at hl 7 rfl) ?_
                              refine lv_iload hx hb dX8_goesOn_333 (lv_at hl 0 rfl) ?_
                              obtain ⟨σ_120, eσ_120, h⟩ := bnd h
                              refine r_cv X hS (r_runS (As := [.ref (ad a1), .int r_118]) (rest := []) C0 X hP L_X8_181 (fun sz => c_X8_backs_ l D cA ad o (stm σ a1 4 ((σ a1 4) + 1)) a1 r_118 ha1 σ_120 eσ_120 sz) ⟨Nat.le_of_ble_eq_true rfl, Nat.le_of_ble_eq_true rfl⟩ rfl hl.1 rfl (Nat.le_of_ble_eq_true rfl) dX8_goesOn_335 ⟨Nat.zero_le _, Nat.zero_le _⟩) (fun σ9 H locs hw hP hS => ?_)
                              rw [show σ9 = σ_120 from hw] at hP
                              exact r_vret C0 X hP hS hr hlk dX8_goesOn_338 (Option.some.inj h)
                          · replace h := it_t h c_116
                            refine lv_iload_n hx hb dX8_goesOn_290 rfl (lv_at hl 7 rfl) ?_
                            refine lv_aload_n hx hb dX8_goesOn_291 rfl (lv_at hl 5 rfl) ?_
                            refine gf_X8_197 C0 X hP 91 ⟨by decide, rfl⟩ dX8_goesOn_292 ?_
                            refine lv_icmp_ne (tgt := 305) hx hb dX8_goesOn_295 (by decide) (fun c_121 => ?_) (fun c_121 => ?_)
                            · replace h := it_f h c_121
                              refine lv_aload_n hx hb dX8_goesOn_305 rfl (lv_at hl 6 rfl) ?_
                              refine lv_iload_n hx hb dX8_goesOn_306 rfl (lv_at hl 7 rfl) ?_
                              refine lv_iload hx hb dX8_goesOn_307 (lv_at hl 0 rfl) ?_
                              refine lv_aload_n hx hb dX8_goesOn_309 rfl (lv_at hl 6 rfl) ?_
                              refine lv_bipush (v := 14) hx hb dX8_goesOn_310 (by decide) ?_
                              refine lv_iconst (v := 3) hx hb dX8_goesOn_312 (by decide) ?_
                              refine lv_iload hx hb dX8_goesOn_313 (lv_at hl 1 rfl) ?_
                              refine lv_imul hx hb dX8_goesOn_315 ?_
                              refine lv_iadd hx hb dX8_goesOn_316 ?_
                              refine lv_iconst (v := 2) hx hb dX8_goesOn_317 (by decide) ?_
                              refine lv_iadd hx hb dX8_goesOn_318 ?_
                              obtain ⟨k_122, ek_122, h⟩ := bnd h
                              replace ek_122 := ix_s ek_122 (by decide)
                              refine r_ialdN C0 X hP a1 (k := k_122) ha1 ek_122.1 ek_122.2 dX8_goesOn_319 ?_
                              refine lv_iload hx hb dX8_goesOn_320 (lv_at hl 1 rfl) ?_
                              obtain ⟨r_123, er_123, h⟩ := bnd h
                              refine r_ci X hS (r_runS (As := [.ref (ad a1), .int x2, .int v7, .int ((stm σ a1 4 ((σ a1 4) + 1)) a1 k_122), .int v6]) (rest := []) C0 X hP L_X8_200 (fun sz => c_X8_backsOf l D cA ad o (stm σ a1 4 ((σ a1 4) + 1)) a1 x2 v7 ((stm σ a1 4 ((σ a1 4) + 1)) a1 k_122) v6 ha1 r_123 er_123 sz) ⟨Nat.le_of_ble_eq_true rfl, Nat.le_of_ble_eq_true rfl⟩ rfl hl.1 rfl (Nat.le_of_ble_eq_true rfl) dX8_goesOn_322 ⟨Nat.zero_le _, Nat.zero_le _⟩) (fun r9 σ9 H locs hw hP hS => ?_)
                              rw [hw.2] at hP
                              rw [hw.1]
                              refine lv_istore (lv' := [(8, .int r_123), (7, .int v7), (6, .int v6), (5, .int v5), (4, .int v4), (3, .int v3), (0, .ref (ad 91)), (1, .ref (ad a1)), (2, .int x2)]) hx hb dX8_goesOn_325 hl (by decide) rfl (fun ls hl => ?_)
                              refine lv_iload hx hb dX8_goesOn_327 (lv_at hl 0 rfl) ?_
                              refine lv_if_lt (tgt := 338) hx hb dX8_goesOn_329 (by decide) (fun c_124 => ?_) (fun c_124 => ?_)
                              · replace h := it_t h c_124
                                exact r_vret C0 X hP hS hr hlk dX8_goesOn_338 (Option.some.inj h)
                              · replace h := it_f h c_124
                                refine lv_aload_n hx hb dX8_goesOn_332 rfl (lv_at hl 7 rfl) ?_
                                refine lv_iload hx hb dX8_goesOn_333 (lv_at hl 0 rfl) ?_
                                obtain ⟨σ_125, eσ_125, h⟩ := bnd h
                                refine r_cv X hS (r_runS (As := [.ref (ad a1), .int r_123]) (rest := []) C0 X hP L_X8_181 (fun sz => c_X8_backs_ l D cA ad o (stm σ a1 4 ((σ a1 4) + 1)) a1 r_123 ha1 σ_125 eσ_125 sz) ⟨Nat.le_of_ble_eq_true rfl, Nat.le_of_ble_eq_true rfl⟩ rfl hl.1 rfl (Nat.le_of_ble_eq_true rfl) dX8_goesOn_335 ⟨Nat.zero_le _, Nat.zero_le _⟩) (fun σ9 H locs hw hP hS => ?_)
                                rw [show σ9 = σ_125 from hw] at hP
                                exact r_vret C0 X hP hS hr hlk dX8_goesOn_338 (Option.some.inj h)
                            · replace h := it_t h c_121
                              refine lv_aload_n hx hb dX8_goesOn_298 rfl (lv_at hl 5 rfl) ?_
                              refine lv_aload_n hx hb dX8_goesOn_299 rfl (lv_at hl 6 rfl) ?_
                              refine lv_iconst (v := 2) hx hb dX8_goesOn_300 (by decide) ?_
                              refine r_ialdN C0 X hP a1 (k := 2) ha1 rfl (by decide) dX8_goesOn_301 ?_
                              refine pf_X8_191 C0 X hP hS 91 ⟨by decide, rfl⟩ dX8_goesOn_302 (fun H locs hP hS => ?_)
                              refine lv_aload_n hx hb dX8_goesOn_305 rfl (lv_at hl 6 rfl) ?_
                              refine lv_iload_n hx hb dX8_goesOn_306 rfl (lv_at hl 7 rfl) ?_
                              refine lv_iload hx hb dX8_goesOn_307 (lv_at hl 0 rfl) ?_
                              refine lv_aload_n hx hb dX8_goesOn_309 rfl (lv_at hl 6 rfl) ?_
                              refine lv_bipush (v := 14) hx hb dX8_goesOn_310 (by decide) ?_
                              refine lv_iconst (v := 3) hx hb dX8_goesOn_312 (by decide) ?_
                              refine lv_iload hx hb dX8_goesOn_313 (lv_at hl 1 rfl) ?_
                              refine lv_imul hx hb dX8_goesOn_315 ?_
                              refine lv_iadd hx hb dX8_goesOn_316 ?_
                              refine lv_iconst (v := 2) hx hb dX8_goesOn_317 (by decide) ?_
                              refine lv_iadd hx hb dX8_goesOn_318 ?_
                              obtain ⟨k_126, ek_126, h⟩ := bnd h
                              replace ek_126 := ix_s ek_126 (by decide)
                              refine r_ialdN C0 X hP a1 (k := k_126) ha1 ek_126.1 ek_126.2 dX8_goesOn_319 ?_
                              refine lv_iload hx hb dX8_goesOn_320 (lv_at hl 1 rfl) ?_
                              obtain ⟨r_127, er_127, h⟩ := bnd h
                              refine r_ci X hS (r_runS (As := [.ref (ad a1), .int x2, .int v7, .int ((stm (stm σ a1 4 ((σ a1 4) + 1)) 91 19 ((stm σ a1 4 ((σ a1 4) + 1)) a1 2)) a1 k_126), .int v6]) (rest := []) C0 X hP L_X8_200 (fun sz => c_X8_backsOf l D cA ad o (stm (stm σ a1 4 ((σ a1 4) + 1)) 91 19 ((stm σ a1 4 ((σ a1 4) + 1)) a1 2)) a1 x2 v7 ((stm (stm σ a1 4 ((σ a1 4) + 1)) 91 19 ((stm σ a1 4 ((σ a1 4) + 1)) a1 2)) a1 k_126) v6 ha1 r_127 er_127 sz) ⟨Nat.le_of_ble_eq_true rfl, Nat.le_of_ble_eq_true rfl⟩ rfl hl.1 rfl (Nat.le_of_ble_eq_true rfl) dX8_goesOn_322 ⟨Nat.zero_le _, Nat.zero_le _⟩) (fun r9 σ9 H locs hw hP hS => ?_)
                              rw [hw.2] at hP
                              rw [hw.1]
                              refine lv_istore (lv' := [(8, .int r_127), (7, .int v7), (6, .int v6), (5, .int v5), (4, .int v4), (3, .int v3), (0, .ref (ad 91)), (1, .ref (ad a1)), (2, .int x2)]) hx hb dX8_goesOn_325 hl (by decide) rfl (fun ls hl => ?_)
                              refine lv_iload hx hb dX8_goesOn_327 (lv_at hl 0 rfl) ?_
                              refine lv_if_lt (tgt := 338) hx hb dX8_goesOn_329 (by decide) (fun c_128 => ?_) (fun c_128 => ?_)
                              · replace h := it_t h c_128
                                exact r_vret C0 X hP hS hr hlk dX8_goesOn_338 (Option.some.inj h)
                              · replace h := it_f h c_128
                                refine lv_aload_n hx hb dX8_goesOn_332 rfl (lv_at hl 7 rfl) ?_
                                refine lv_iload hx hb dX8_goesOn_333 (lv_at hl 0 rfl) ?_
                                obtain ⟨σ_129, eσ_129, h⟩ := bnd h
                                refine r_cv X hS (r_runS (As := [.ref (ad a1), .int r_127]) (rest := []) C0 X hP L_X8_181 (fun sz => c_X8_backs_ l D cA ad o (stm (stm σ a1 4 ((σ a1 4) + 1)) 91 19 ((stm σ a1 4 ((σ a1 4) + 1)) a1 2)) a1 r_127 ha1 σ_129 eσ_129 sz) ⟨Nat.le_of_ble_eq_true rfl, Nat.le_of_ble_eq_true rfl⟩ rfl hl.1 rfl (Nat.le_of_ble_eq_true rfl) dX8_goesOn_335 ⟨Nat.zero_le _, Nat.zero_le _⟩) (fun σ9 H locs hw hP hS => ?_)
                                rw [show σ9 = σ_129 from hw] at hP
                                exact r_vret C0 X hP hS hr hlk dX8_goesOn_338 (Option.some.inj h)
                        · replace h := it_t h c_115
                          refine lv_iload hx hb dX8_goesOn_272 (lv_at hl 0 rfl) ?_
                          refine lv_aload_n hx hb dX8_goesOn_274 rfl (lv_at hl 5 rfl) ?_
                          refine gf_X8_197 C0 X hP 91 ⟨by decide, rfl⟩ dX8_goesOn_275 ?_
                          refine lv_icmp_eq (tgt := 298) hx hb dX8_goesOn_278 (by decide) (fun c_130 => ?_) (fun c_130 => ?_)
                          · replace h := it_t h c_130
                            refine lv_aload_n hx hb dX8_goesOn_298 rfl (lv_at hl 5 rfl) ?_
                            refine lv_aload_n hx hb dX8_goesOn_299 rfl (lv_at hl 6 rfl) ?_
                            refine lv_iconst (v := 2) hx hb dX8_goesOn_300 (by decide) ?_
                            refine r_ialdN C0 X hP a1 (k := 2) ha1 rfl (by decide) dX8_goesOn_301 ?_
                            refine pf_X8_191 C0 X hP hS 91 ⟨by decide, rfl⟩ dX8_goesOn_302 (fun H locs hP hS => ?_)
                            refine lv_aload_n hx hb dX8_goesOn_305 rfl (lv_at hl 6 rfl) ?_
                            refine lv_iload_n hx hb dX8_goesOn_306 rfl (lv_at hl 7 rfl) ?_
                            refine lv_iload hx hb dX8_goesOn_307 (lv_at hl 0 rfl) ?_
                            refine lv_aload_n hx hb dX8_goesOn_309 rfl (lv_at hl 6 rfl) ?_
                            refine lv_bipush (v := 14) hx hb dX8_goesOn_310 (by decide) ?_
                            refine lv_iconst (v := 3) hx hb dX8_goesOn_312 (by decide) ?_
                            refine lv_iload hx hb dX8_goesOn_313 (lv_at hl 1 rfl) ?_
                            refine lv_imul hx hb dX8_goesOn_315 ?_
                            refine lv_iadd hx hb dX8_goesOn_316 ?_
                            refine lv_iconst (v := 2) hx hb dX8_goesOn_317 (by decide) ?_
                            refine lv_iadd hx hb dX8_goesOn_318 ?_
                            obtain ⟨k_131, ek_131, h⟩ := bnd h
                            replace ek_131 := ix_s ek_131 (by decide)
                            refine r_ialdN C0 X hP a1 (k := k_131) ha1 ek_131.1 ek_131.2 dX8_goesOn_319 ?_
                            refine lv_iload hx hb dX8_goesOn_320 (lv_at hl 1 rfl) ?_
                            obtain ⟨r_132, er_132, h⟩ := bnd h
                            refine r_ci X hS (r_runS (As := [.ref (ad a1), .int x2, .int v7, .int ((stm (stm σ a1 4 ((σ a1 4) + 1)) 91 19 ((stm σ a1 4 ((σ a1 4) + 1)) a1 2)) a1 k_131), .int v6]) (rest := []) C0 X hP L_X8_200 (fun sz => c_X8_backsOf l D cA ad o (stm (stm σ a1 4 ((σ a1 4) + 1)) 91 19 ((stm σ a1 4 ((σ a1 4) + 1)) a1 2)) a1 x2 v7 ((stm (stm σ a1 4 ((σ a1 4) + 1)) 91 19 ((stm σ a1 4 ((σ a1 4) + 1)) a1 2)) a1 k_131) v6 ha1 r_132 er_132 sz) ⟨Nat.le_of_ble_eq_true rfl, Nat.le_of_ble_eq_true rfl⟩ rfl hl.1 rfl (Nat.le_of_ble_eq_true rfl) dX8_goesOn_322 ⟨Nat.zero_le _, Nat.zero_le _⟩) (fun r9 σ9 H locs hw hP hS => ?_)
                            rw [hw.2] at hP
                            rw [hw.1]
                            refine lv_istore (lv' := [(8, .int r_132), (7, .int v7), (6, .int v6), (5, .int v5), (4, .int v4), (3, .int v3), (0, .ref (ad 91)), (1, .ref (ad a1)), (2, .int x2)]) hx hb dX8_goesOn_325 hl (by decide) rfl (fun ls hl => ?_)
                            refine lv_iload hx hb dX8_goesOn_327 (lv_at hl 0 rfl) ?_
                            refine lv_if_lt (tgt := 338) hx hb dX8_goesOn_329 (by decide) (fun c_133 => ?_) (fun c_133 => ?_)
                            · replace h := it_t h c_133
                              exact r_vret C0 X hP hS hr hlk dX8_goesOn_338 (Option.some.inj h)
                            · replace h := it_f h c_133
                              refine lv_aload_n hx hb dX8_goesOn_332 rfl (lv_at hl 7 rfl) ?_
                              refine lv_iload hx hb dX8_goesOn_333 (lv_at hl 0 rfl) ?_
                              obtain ⟨σ_134, eσ_134, h⟩ := bnd h
                              refine r_cv X hS (r_runS (As := [.ref (ad a1), .int r_132]) (rest := []) C0 X hP L_X8_181 (fun sz => c_X8_backs_ l D cA ad o (stm (stm σ a1 4 ((σ a1 4) + 1)) 91 19 ((stm σ a1 4 ((σ a1 4) + 1)) a1 2)) a1 r_132 ha1 σ_134 eσ_134 sz) ⟨Nat.le_of_ble_eq_true rfl, Nat.le_of_ble_eq_true rfl⟩ rfl hl.1 rfl (Nat.le_of_ble_eq_true rfl) dX8_goesOn_335 ⟨Nat.zero_le _, Nat.zero_le _⟩) (fun σ9 H locs hw hP hS => ?_)
                              rw [show σ9 = σ_134 from hw] at hP
                              exact r_vret C0 X hP hS hr hlk dX8_goesOn_338 (Option.some.inj h)
                          · replace h := it_f h c_130
                            refine lv_iload hx hb dX8_goesOn_281 (lv_at hl 0 rfl) ?_
                            refine lv_aload_n hx hb dX8_goesOn_283 rfl (lv_at hl 5 rfl) ?_
                            refine gf_X8_194 C0 X hP 91 ⟨by decide, rfl⟩ dX8_goesOn_284 ?_
                            refine lv_icmp_ne (tgt := 305) hx hb dX8_goesOn_287 (by decide) (fun c_135 => ?_) (fun c_135 => ?_)
                            · replace h := it_f h c_135
                              refine lv_aload_n hx hb dX8_goesOn_305 rfl (lv_at hl 6 rfl) ?_
                              refine lv_iload_n hx hb dX8_goesOn_306 rfl (lv_at hl 7 rfl) ?_
                              refine lv_iload hx hb dX8_goesOn_307 (lv_at hl 0 rfl) ?_
                              refine lv_aload_n hx hb dX8_goesOn_309 rfl (lv_at hl 6 rfl) ?_
                              refine lv_bipush (v := 14) hx hb dX8_goesOn_310 (by decide) ?_
                              refine lv_iconst (v := 3) hx hb dX8_goesOn_312 (by decide) ?_
                              refine lv_iload hx hb dX8_goesOn_313 (lv_at hl 1 rfl) ?_
                              refine lv_imul hx hb dX8_goesOn_315 ?_
                              refine lv_iadd hx hb dX8_goesOn_316 ?_
                              refine lv_iconst (v := 2) hx hb dX8_goesOn_317 (by decide) ?_
                              refine lv_iadd hx hb dX8_goesOn_318 ?_
                              obtain ⟨k_136, ek_136, h⟩ := bnd h
                              replace ek_136 := ix_s ek_136 (by decide)
                              refine r_ialdN C0 X hP a1 (k := k_136) ha1 ek_136.1 ek_136.2 dX8_goesOn_319 ?_
                              refine lv_iload hx hb dX8_goesOn_320 (lv_at hl 1 rfl) ?_
                              obtain ⟨r_137, er_137, h⟩ := bnd h
                              refine r_ci X hS (r_runS (As := [.ref (ad a1), .int x2, .int v7, .int ((stm σ a1 4 ((σ a1 4) + 1)) a1 k_136), .int v6]) (rest := []) C0 X hP L_X8_200 (fun sz => c_X8_backsOf l D cA ad o (stm σ a1 4 ((σ a1 4) + 1)) a1 x2 v7 ((stm σ a1 4 ((σ a1 4) + 1)) a1 k_136) v6 ha1 r_137 er_137 sz) ⟨Nat.le_of_ble_eq_true rfl, Nat.le_of_ble_eq_true rfl⟩ rfl hl.1 rfl (Nat.le_of_ble_eq_true rfl) dX8_goesOn_322 ⟨Nat.zero_le _, Nat.zero_le _⟩) (fun r9 σ9 H locs hw hP hS => ?_)
                              rw [hw.2] at hP
                              rw [hw.1]
                              refine lv_istore (lv' := [(8, .int r_137), (7, .int v7), (6, .int v6), (5, .int v5), (4, .int v4), (3, .int v3), (0, .ref (ad 91)), (1, .ref (ad a1)), (2, .int x2)]) hx hb dX8_goesOn_325 hl (by decide) rfl (fun ls hl => ?_)
                              refine lv_iload hx hb dX8_goesOn_327 (lv_at hl 0 rfl) ?_
                              refine lv_if_lt (tgt := 338) hx hb dX8_goesOn_329 (by decide) (fun c_138 => ?_) (fun c_138 => ?_)
                              · replace h := it_t h c_138
                                exact r_vret C0 X hP hS hr hlk dX8_goesOn_338 (Option.some.inj h)
                              · replace h := it_f h c_138
                                refine lv_aload_n hx hb dX8_goesOn_332 rfl (lv_at hl 7 rfl) ?_
                                refine lv_iload hx hb dX8_goesOn_333 (lv_at hl 0 rfl) ?_
                                obtain ⟨σ_139, eσ_139, h⟩ := bnd h
                                refine r_cv X hS (r_runS (As := [.ref (ad a1), .int r_137]) (rest := []) C0 X hP L_X8_181 (fun sz => c_X8_backs_ l D cA ad o (stm σ a1 4 ((σ a1 4) + 1)) a1 r_137 ha1 σ_139 eσ_139 sz) ⟨Nat.le_of_ble_eq_true rfl, Nat.le_of_ble_eq_true rfl⟩ rfl hl.1 rfl (Nat.le_of_ble_eq_true rfl) dX8_goesOn_335 ⟨Nat.zero_le _, Nat.zero_le _⟩) (fun σ9 H locs hw hP hS => ?_)
                                rw [show σ9 = σ_139 from hw] at hP
                                exact r_vret C0 X hP hS hr hlk dX8_goesOn_338 (Option.some.inj h)
                            · replace h := it_t h c_135
                              refine lv_iload_n hx hb dX8_goesOn_290 rfl (lv_at hl 7 rfl) ?_
                              refine lv_aload_n hx hb dX8_goesOn_291 rfl (lv_at hl 5 rfl) ?_
                              refine gf_X8_197 C0 X hP 91 ⟨by decide, rfl⟩ dX8_goesOn_292 ?_
                              refine lv_icmp_ne (tgt := 305) hx hb dX8_goesOn_295 (by decide) (fun c_140 => ?_) (fun c_140 => ?_)
                              · replace h := it_f h c_140
                                refine lv_aload_n hx hb dX8_goesOn_305 rfl (lv_at hl 6 rfl) ?_
                                refine lv_iload_n hx hb dX8_goesOn_306 rfl (lv_at hl 7 rfl) ?_
                                refine lv_iload hx hb dX8_goesOn_307 (lv_at hl 0 rfl) ?_
                                refine lv_aload_n hx hb dX8_goesOn_309 rfl (lv_at hl 6 rfl) ?_
                                refine lv_bipush (v := 14) hx hb dX8_goesOn_310 (by decide) ?_
                                refine lv_iconst (v := 3) hx hb dX8_goesOn_312 (by decide) ?_
                                refine lv_iload hx hb dX8_goesOn_313 (lv_at hl 1 rfl) ?_
                                refine lv_imul hx hb dX8_goesOn_315 ?_
                                refine lv_iadd hx hb dX8_goesOn_316 ?_
                                refine lv_iconst (v := 2) hx hb dX8_goesOn_317 (by decide) ?_
                                refine lv_iadd hx hb dX8_goesOn_318 ?_
                                obtain ⟨k_141, ek_141, h⟩ := bnd h
                                replace ek_141 := ix_s ek_141 (by decide)
                                refine r_ialdN C0 X hP a1 (k := k_141) ha1 ek_141.1 ek_141.2 dX8_goesOn_319 ?_
                                refine lv_iload hx hb dX8_goesOn_320 (lv_at hl 1 rfl) ?_
                                obtain ⟨r_142, er_142, h⟩ := bnd h
                                refine r_ci X hS (r_runS (As := [.ref (ad a1), .int x2, .int v7, .int ((stm σ a1 4 ((σ a1 4) + 1)) a1 k_141), .int v6]) (rest := []) C0 X hP L_X8_200 (fun sz => c_X8_backsOf l D cA ad o (stm σ a1 4 ((σ a1 4) + 1)) a1 x2 v7 ((stm σ a1 4 ((σ a1 4) + 1)) a1 k_141) v6 ha1 r_142 er_142 sz) ⟨Nat.le_of_ble_eq_true rfl, Nat.le_of_ble_eq_true rfl⟩ rfl hl.1 rfl (Nat.le_of_ble_eq_true rfl) dX8_goesOn_322 ⟨Nat.zero_le _, Nat.zero_le _⟩) (fun r9 σ9 H locs hw hP hS => ?_)
                                rw [hw.2] at hP
                                rw [hw.1]
                                refine lv_istore (lv' := [(8, .int r_142), (7, .int v7), (6, .int v6), (5, .int v5), (4, .int v4), (3, .int v3), (0, .ref (ad 91)), (1, .ref (ad a1)), (2, .int x2)]) hx hb dX8_goesOn_325 hl (by decide) rfl (fun ls hl => ?_)
                                refine lv_iload hx hb dX8_goesOn_327 (lv_at hl 0 rfl) ?_
                                refine lv_if_lt (tgt := 338) hx hb dX8_goesOn_329 (by decide) (fun c_143 => ?_) (fun c_143 => ?_)
                                · replace h := it_t h c_143
                                  exact r_vret C0 X hP hS hr hlk dX8_goesOn_338 (Option.some.inj h)
                                · replace h := it_f h c_143
                                  refine lv_aload_n hx hb dX8_goesOn_332 rfl (lv_at hl 7 rfl) ?_
                                  refine lv_iload hx hb dX8_goesOn_333 (lv_at hl 0 rfl) ?_
                                  obtain ⟨σ_144, eσ_144, h⟩ := bnd h
                                  refine r_cv X hS (r_runS (As := [.ref (ad a1), .int r_142]) (rest := []) C0 X hP L_X8_181 (fun sz => c_X8_backs_ l D cA ad o (stm σ a1 4 ((σ a1 4) + 1)) a1 r_142 ha1 σ_144 eσ_144 sz) ⟨Nat.le_of_ble_eq_true rfl, Nat.le_of_ble_eq_true rfl⟩ rfl hl.1 rfl (Nat.le_of_ble_eq_true rfl) dX8_goesOn_335 ⟨Nat.zero_le _, Nat.zero_le _⟩) (fun σ9 H locs hw hP hS => ?_)
                                  rw [show σ9 = σ_144 from hw] at hP
                                  exact r_vret C0 X hP hS hr hlk dX8_goesOn_338 (Option.some.inj h)
                              · replace h := it_t h c_140
                                refine lv_aload_n hx hb dX8_goesOn_298 rfl (lv_at hl 5 rfl) ?_
                                refine lv_aload_n hx hb dX8_goesOn_299 rfl (lv_at hl 6 rfl) ?_
                                refine lv_iconst (v := 2) hx hb dX8_goesOn_300 (by decide) ?_
                                refine r_ialdN C0 X hP a1 (k := 2) ha1 rfl (by decide) dX8_goesOn_301 ?_
                                refine pf_X8_191 C0 X hP hS 91 ⟨by decide, rfl⟩ dX8_goesOn_302 (fun H locs hP hS => ?_)
                                refine lv_aload_n hx hb dX8_goesOn_305 rfl (lv_at hl 6 rfl) ?_
                                refine lv_iload_n hx hb dX8_goesOn_306 rfl (lv_at hl 7 rfl) ?_
                                refine lv_iload hx hb dX8_goesOn_307 (lv_at hl 0 rfl) ?_
                                refine lv_aload_n hx hb dX8_goesOn_309 rfl (lv_at hl 6 rfl) ?_
                                refine lv_bipush (v := 14) hx hb dX8_goesOn_310 (by decide) ?_
                                refine lv_iconst (v := 3) hx hb dX8_goesOn_312 (by decide) ?_
                                refine lv_iload hx hb dX8_goesOn_313 (lv_at hl 1 rfl) ?_
                                refine lv_imul hx hb dX8_goesOn_315 ?_
                                refine lv_iadd hx hb dX8_goesOn_316 ?_
                                refine lv_iconst (v := 2) hx hb dX8_goesOn_317 (by decide) ?_
                                refine lv_iadd hx hb dX8_goesOn_318 ?_
                                obtain ⟨k_145, ek_145, h⟩ := bnd h
                                replace ek_145 := ix_s ek_145 (by decide)
                                refine r_ialdN C0 X hP a1 (k := k_145) ha1 ek_145.1 ek_145.2 dX8_goesOn_319 ?_
                                refine lv_iload hx hb dX8_goesOn_320 (lv_at hl 1 rfl) ?_
                                obtain ⟨r_146, er_146, h⟩ := bnd h
                                refine r_ci X hS (r_runS (As := [.ref (ad a1), .int x2, .int v7, .int ((stm (stm σ a1 4 ((σ a1 4) + 1)) 91 19 ((stm σ a1 4 ((σ a1 4) + 1)) a1 2)) a1 k_145), .int v6]) (rest := []) C0 X hP L_X8_200 (fun sz => c_X8_backsOf l D cA ad o (stm (stm σ a1 4 ((σ a1 4) + 1)) 91 19 ((stm σ a1 4 ((σ a1 4) + 1)) a1 2)) a1 x2 v7 ((stm (stm σ a1 4 ((σ a1 4) + 1)) 91 19 ((stm σ a1 4 ((σ a1 4) + 1)) a1 2)) a1 k_145) v6 ha1 r_146 er_146 sz) ⟨Nat.le_of_ble_eq_true rfl, Nat.le_of_ble_eq_true rfl⟩ rfl hl.1 rfl (Nat.le_of_ble_eq_true rfl) dX8_goesOn_322 ⟨Nat.zero_le _, Nat.zero_le _⟩) (fun r9 σ9 H locs hw hP hS => ?_)
                                rw [hw.2] at hP
                                rw [hw.1]
                                refine lv_istore (lv' := [(8, .int r_146), (7, .int v7), (6, .int v6), (5, .int v5), (4, .int v4), (3, .int v3), (0, .ref (ad 91)), (1, .ref (ad a1)), (2, .int x2)]) hx hb dX8_goesOn_325 hl (by decide) rfl (fun ls hl => ?_)
                                refine lv_iload hx hb dX8_goesOn_327 (lv_at hl 0 rfl) ?_
                                refine lv_if_lt (tgt := 338) hx hb dX8_goesOn_329 (by decide) (fun c_147 => ?_) (fun c_147 => ?_)
                                · replace h := it_t h c_147
                                  exact r_vret C0 X hP hS hr hlk dX8_goesOn_338 (Option.some.inj h)
                                · replace h := it_f h c_147
                                  refine lv_aload_n hx hb dX8_goesOn_332 rfl (lv_at hl 7 rfl) ?_
                                  refine lv_iload hx hb dX8_goesOn_333 (lv_at hl 0 rfl) ?_
                                  obtain ⟨σ_148, eσ_148, h⟩ := bnd h
                                  refine r_cv X hS (r_runS (As := [.ref (ad a1), .int r_146]) (rest := []) C0 X hP L_X8_181 (fun sz => c_X8_backs_ l D cA ad o (stm (stm σ a1 4 ((σ a1 4) + 1)) 91 19 ((stm σ a1 4 ((σ a1 4) + 1)) a1 2)) a1 r_146 ha1 σ_148 eσ_148 sz) ⟨Nat.le_of_ble_eq_true rfl, Nat.le_of_ble_eq_true rfl⟩ rfl hl.1 rfl (Nat.le_of_ble_eq_true rfl) dX8_goesOn_335 ⟨Nat.zero_le _, Nat.zero_le _⟩) (fun σ9 H locs hw hP hS => ?_)
                                  rw [show σ9 = σ_148 from hw] at hP
                                  exact r_vret C0 X hP hS hr hlk dX8_goesOn_338 (Option.some.inj h)
                    · replace h := it_f h c_109
                      refine lv_goto (tgt := 339) hx hb dX8_goesOn_247 (by decide) ?_
                      refine lv_iinc (v := (v7 + 1)) (lv' := [(7, .int (v7 + 1)), (6, .int v6), (5, .int v5), (4, .int v4), (3, .int v3), (0, .ref (ad 91)), (1, .ref (ad a1)), (2, .int x2)]) hx hb dX8_goesOn_339 hl (k := 0) rfl rfl (by decide) rfl (fun ls hl => ?_)
                      refine lv_goto (tgt := 202) hx hb dX8_goesOn_342 (by decide) ?_
                      exact ih202 σ (v7 + 1) v6 v5 v4 v3 _ _ ls  h hP hS (lv_sub hl [0, 1, 2, 3, 4, 5, 6, 7] rfl)
          exact lp_102 FU σ_100 0 r_4 r_3 r_2 r_1 _ _ ls  h hP hS (lv_sub hl [0, 1, 2, 3, 4, 5, 6, 7] rfl)
        · replace h := it_f h c_101
          exact r_vret C0 X hP hS hr hlk dX8_goesOn_198 (Option.some.inj h)
      · replace h := it_f h c_98
        refine lv_aload_n hx hb dX8_goesOn_83 rfl (lv_at hl 5 rfl) ?_
        refine lv_iload_n hx hb dX8_goesOn_84 rfl (lv_at hl 6 rfl) ?_
        refine lv_iconst (v := 2) hx hb dX8_goesOn_85 (by decide) ?_
        obtain ⟨r_149, er_149, h⟩ := bnd h
        refine r_ci X hS (r_runS (As := [.ref (ad a1), .int x2, .int 2]) (rest := []) C0 X hP L_X8_130 (fun sz => c_X8_get l D cA ad o σ a1 x2 2 ha1 r_149 er_149 sz) ⟨Nat.le_of_ble_eq_true rfl, Nat.le_of_ble_eq_true rfl⟩ rfl hl.1 rfl (Nat.le_of_ble_eq_true rfl) dX8_goesOn_86 ⟨Nat.zero_le _, Nat.zero_le _⟩) (fun r9 σ9 H locs hw hP hS => ?_)
        rw [hw.2] at hP
        rw [hw.1]
        refine lv_iconst (v := 1) hx hb dX8_goesOn_89 (by decide) ?_
        refine lv_icmp_ne (tgt := 121) hx hb dX8_goesOn_90 (by decide) (fun c_150 => ?_) (fun c_150 => ?_)
        · replace h := it_f h c_150
          refine lv_iconst (v := 0) hx hb dX8_goesOn_121 (by decide) ?_
          refine lv_istore (lv' := [(7, .int 0), (6, .int r_4), (5, .int r_3), (4, .int r_2), (3, .int r_1), (0, .ref (ad 91)), (1, .ref (ad a1)), (2, .int x2)]) hx hb dX8_goesOn_122 hl (by decide) rfl (fun ls hl => ?_)
          refine lv_aload_n hx hb dX8_goesOn_124 rfl (lv_at hl 6 rfl) ?_
          refine lv_iload_n hx hb dX8_goesOn_125 rfl (lv_at hl 7 rfl) ?_
          refine lv_iconst (v := 5) hx hb dX8_goesOn_126 (by decide) ?_
          refine lv_iload_n hx hb dX8_goesOn_127 rfl (lv_at hl 4 rfl) ?_
          refine lv_iload hx hb dX8_goesOn_128 (lv_at hl 3 rfl) ?_
          refine lv_iadd hx hb dX8_goesOn_130 ?_
          obtain ⟨σ_151, eσ_151, h⟩ := bnd h
          refine r_cv X hS (r_runS (As := [.ref (ad a1), .int x2, .int 5, .int (r_1 + r_2)]) (rest := []) C0 X hP L_X8_97 (fun sz => c_X8_puts l D cA ad o σ a1 x2 5 (r_1 + r_2) ha1 σ_151 eσ_151 sz) ⟨Nat.le_of_ble_eq_true rfl, Nat.le_of_ble_eq_true rfl⟩ rfl hl.1 rfl (Nat.le_of_ble_eq_true rfl) dX8_goesOn_131 ⟨Nat.zero_le _, Nat.zero_le _⟩) (fun σ9 H locs hw hP hS => ?_)
          rw [show σ9 = σ_151 from hw] at hP
          refine lv_aload_n hx hb dX8_goesOn_134 rfl (lv_at hl 6 rfl) ?_
          refine lv_iload_n hx hb dX8_goesOn_135 rfl (lv_at hl 7 rfl) ?_
          refine lv_bipush (v := 7) hx hb dX8_goesOn_136 (by decide) ?_
          refine lv_iload hx hb dX8_goesOn_138 (lv_at hl 0 rfl) ?_
          obtain ⟨σ_152, eσ_152, h⟩ := bnd h
          refine r_cv X hS (r_runS (As := [.ref (ad a1), .int x2, .int 7, .int 0]) (rest := []) C0 X hP L_X8_97 (fun sz => c_X8_puts l D cA ad o σ_151 a1 x2 7 0 ha1 σ_152 eσ_152 sz) ⟨Nat.le_of_ble_eq_true rfl, Nat.le_of_ble_eq_true rfl⟩ rfl hl.1 rfl (Nat.le_of_ble_eq_true rfl) dX8_goesOn_140 ⟨Nat.zero_le _, Nat.zero_le _⟩) (fun σ9 H locs hw hP hS => ?_)
          rw [show σ9 = σ_152 from hw] at hP
          refine lv_aload_n hx hb dX8_goesOn_143 rfl (lv_at hl 5 rfl) ?_
          refine lv_iconst (v := 1) hx hb dX8_goesOn_144 (by decide) ?_
          refine pf_X8_177 C0 X hP hS 91 (Or.inr rfl) ⟨by decide, rfl⟩ dX8_goesOn_145 (fun H locs hP hS => ?_)
          refine lv_iload_n hx hb dX8_goesOn_148 rfl (lv_at hl 4 rfl) ?_
          refine lv_iload hx hb dX8_goesOn_149 (lv_at hl 3 rfl) ?_
          refine lv_iadd hx hb dX8_goesOn_151 ?_
          refine lv_aload_n hx hb dX8_goesOn_152 rfl (lv_at hl 6 rfl) ?_
          refine lv_iload_n hx hb dX8_goesOn_153 rfl (lv_at hl 7 rfl) ?_
          obtain ⟨r_153, er_153, h⟩ := bnd h
          refine r_ci X hS (r_runS (As := [.ref (ad a1), .int x2]) (rest := [.int (r_1 + r_2)]) C0 X hP L_X8_188 (fun sz => c_X8_goal l D cA ad o (stm σ_152 91 20 1) a1 x2 ha1 r_153 er_153 sz) ⟨Nat.le_of_ble_eq_true rfl, Nat.le_of_ble_eq_true rfl⟩ rfl hl.1 rfl (Nat.le_of_ble_eq_true rfl) dX8_goesOn_154 ⟨Nat.zero_le _, Nat.zero_le _⟩) (fun r9 σ9 H locs hw hP hS => ?_)
          rw [hw.2] at hP
          rw [hw.1]
          refine lv_icmp_ne (tgt := 176) hx hb dX8_goesOn_157 (by decide) (fun c_154 => ?_) (fun c_154 => ?_)
          · replace h := it_f h c_154
            exact r_vret C0 X hP hS hr hlk dX8_goesOn_176 (Option.some.inj h)
          · replace h := it_t h c_154
            refine lv_aload_n hx hb dX8_goesOn_160 rfl (lv_at hl 6 rfl) ?_
            refine lv_iload_n hx hb dX8_goesOn_161 rfl (lv_at hl 7 rfl) ?_
            refine lv_iconst (v := 5) hx hb dX8_goesOn_162 (by decide) ?_
            refine lv_bipush (v := (-3)) hx hb dX8_goesOn_163 (by decide) ?_
            obtain ⟨σ_155, eσ_155, h⟩ := bnd h
            refine r_cv X hS (r_runS (As := [.ref (ad a1), .int x2, .int 5, .int (-3)]) (rest := []) C0 X hP L_X8_97 (fun sz => c_X8_puts l D cA ad o (stm σ_152 91 20 1) a1 x2 5 (-3) ha1 σ_155 eσ_155 sz) ⟨Nat.le_of_ble_eq_true rfl, Nat.le_of_ble_eq_true rfl⟩ rfl hl.1 rfl (Nat.le_of_ble_eq_true rfl) dX8_goesOn_165 ⟨Nat.zero_le _, Nat.zero_le _⟩) (fun σ9 H locs hw hP hS => ?_)
            rw [show σ9 = σ_155 from hw] at hP
            refine lv_aload_n hx hb dX8_goesOn_168 rfl (lv_at hl 6 rfl) ?_
            refine lv_iload_n hx hb dX8_goesOn_169 rfl (lv_at hl 7 rfl) ?_
            refine lv_bipush (v := 7) hx hb dX8_goesOn_170 (by decide) ?_
            refine lv_iconst (v := 0) hx hb dX8_goesOn_172 (by decide) ?_
            obtain ⟨σ_156, eσ_156, h⟩ := bnd h
            refine r_cv X hS (r_runS (As := [.ref (ad a1), .int x2, .int 7, .int 0]) (rest := []) C0 X hP L_X8_97 (fun sz => c_X8_puts l D cA ad o σ_155 a1 x2 7 0 ha1 σ_156 eσ_156 sz) ⟨Nat.le_of_ble_eq_true rfl, Nat.le_of_ble_eq_true rfl⟩ rfl hl.1 rfl (Nat.le_of_ble_eq_true rfl) dX8_goesOn_173 ⟨Nat.zero_le _, Nat.zero_le _⟩) (fun σ9 H locs hw hP hS => ?_)
            rw [show σ9 = σ_156 from hw] at hP
            exact r_vret C0 X hP hS hr hlk dX8_goesOn_176 (Option.some.inj h)
        · replace h := it_t h c_150
          refine lv_aload_n hx hb dX8_goesOn_93 rfl (lv_at hl 5 rfl) ?_
          refine lv_bipush (v := 14) hx hb dX8_goesOn_94 (by decide) ?_
          refine lv_iconst (v := 3) hx hb dX8_goesOn_96 (by decide) ?_
          refine lv_iload hx hb dX8_goesOn_97 (lv_at hl 0 rfl) ?_
          refine lv_imul hx hb dX8_goesOn_99 ?_
          refine lv_iadd hx hb dX8_goesOn_100 ?_
          refine lv_iconst (v := 1) hx hb dX8_goesOn_101 (by decide) ?_
          refine lv_iadd hx hb dX8_goesOn_102 ?_
          obtain ⟨k_157, ek_157, h⟩ := bnd h
          replace ek_157 := ix_s ek_157 (by decide)
          refine r_ialdN C0 X hP a1 (k := k_157) ha1 ek_157.1 ek_157.2 dX8_goesOn_103 ?_
          refine lv_iload hx hb dX8_goesOn_104 (lv_at hl 2 rfl) ?_
          refine lv_if_le (tgt := 113) hx hb dX8_goesOn_106 (by decide) (fun c_158 => ?_) (fun c_158 => ?_)
          · replace h := it_t h c_158
            refine lv_iconst (v := 2) hx hb dX8_goesOn_113 (by decide) ?_
            refine lv_icmp_ne (tgt := 121) hx hb dX8_goesOn_114 (by decide) (fun c_159 => ?_) (fun c_159 => ?_)
            · replace h := it_f h c_159
              refine lv_iconst (v := 0) hx hb dX8_goesOn_121 (by decide) ?_
              refine lv_istore (lv' := [(7, .int 0), (6, .int r_4), (5, .int r_3), (4, .int r_2), (3, .int r_1), (0, .ref (ad 91)), (1, .ref (ad a1)), (2, .int x2)]) hx hb dX8_goesOn_122 hl (by decide) rfl (fun ls hl => ?_)
              refine lv_aload_n hx hb dX8_goesOn_124 rfl (lv_at hl 6 rfl) ?_
              refine lv_iload_n hx hb dX8_goesOn_125 rfl (lv_at hl 7 rfl) ?_
              refine lv_iconst (v := 5) hx hb dX8_goesOn_126 (by decide) ?_
              refine lv_iload_n hx hb dX8_goesOn_127 rfl (lv_at hl 4 rfl) ?_
              refine lv_iload hx hb dX8_goesOn_128 (lv_at hl 3 rfl) ?_
              refine lv_iadd hx hb dX8_goesOn_130 ?_
              obtain ⟨σ_160, eσ_160, h⟩ := bnd h
              refine r_cv X hS (r_runS (As := [.ref (ad a1), .int x2, .int 5, .int (r_1 + r_2)]) (rest := []) C0 X hP L_X8_97 (fun sz => c_X8_puts l D cA ad o σ a1 x2 5 (r_1 + r_2) ha1 σ_160 eσ_160 sz) ⟨Nat.le_of_ble_eq_true rfl, Nat.le_of_ble_eq_true rfl⟩ rfl hl.1 rfl (Nat.le_of_ble_eq_true rfl) dX8_goesOn_131 ⟨Nat.zero_le _, Nat.zero_le _⟩) (fun σ9 H locs hw hP hS => ?_)
              rw [show σ9 = σ_160 from hw] at hP
              refine lv_aload_n hx hb dX8_goesOn_134 rfl (lv_at hl 6 rfl) ?_
              refine lv_iload_n hx hb dX8_goesOn_135 rfl (lv_at hl 7 rfl) ?_
              refine lv_bipush (v := 7) hx hb dX8_goesOn_136 (by decide) ?_
              refine lv_iload hx hb dX8_goesOn_138 (lv_at hl 0 rfl) ?_
              obtain ⟨σ_161, eσ_161, h⟩ := bnd h
              refine r_cv X hS (r_runS (As := [.ref (ad a1), .int x2, .int 7, .int 0]) (rest := []) C0 X hP L_X8_97 (fun sz => c_X8_puts l D cA ad o σ_160 a1 x2 7 0 ha1 σ_161 eσ_161 sz) ⟨Nat.le_of_ble_eq_true rfl, Nat.le_of_ble_eq_true rfl⟩ rfl hl.1 rfl (Nat.le_of_ble_eq_true rfl) dX8_goesOn_140 ⟨Nat.zero_le _, Nat.zero_le _⟩) (fun σ9 H locs hw hP hS => ?_)
              rw [show σ9 = σ_161 from hw] at hP
              refine lv_aload_n hx hb dX8_goesOn_143 rfl (lv_at hl 5 rfl) ?_
              refine lv_iconst (v := 1) hx hb dX8_goesOn_144 (by decide) ?_
              refine pf_X8_177 C0 X hP hS 91 (Or.inr rfl) ⟨by decide, rfl⟩ dX8_goesOn_145 (fun H locs hP hS => ?_)
              refine lv_iload_n hx hb dX8_goesOn_148 rfl (lv_at hl 4 rfl) ?_
              refine lv_iload hx hb dX8_goesOn_149 (lv_at hl 3 rfl) ?_
              refine lv_iadd hx hb dX8_goesOn_151 ?_
              refine lv_aload_n hx hb dX8_goesOn_152 rfl (lv_at hl 6 rfl) ?_
              refine lv_iload_n hx hb dX8_goesOn_153 rfl (lv_at hl 7 rfl) ?_
              obtain ⟨r_162, er_162, h⟩ := bnd h
              refine r_ci X hS (r_runS (As := [.ref (ad a1), .int x2]) (rest := [.int (r_1 + r_2)]) C0 X hP L_X8_188 (fun sz => c_X8_goal l D cA ad o (stm σ_161 91 20 1) a1 x2 ha1 r_162 er_162 sz) ⟨Nat.le_of_ble_eq_true rfl, Nat.le_of_ble_eq_true rfl⟩ rfl hl.1 rfl (Nat.le_of_ble_eq_true rfl) dX8_goesOn_154 ⟨Nat.zero_le _, Nat.zero_le _⟩) (fun r9 σ9 H locs hw hP hS => ?_)
              rw [hw.2] at hP
              rw [hw.1]
              refine lv_icmp_ne (tgt := 176) hx hb dX8_goesOn_157 (by decide) (fun c_163 => ?_) (fun c_163 => ?_)
              · replace h := it_f h c_163
                exact r_vret C0 X hP hS hr hlk dX8_goesOn_176 (Option.some.inj h)
              · replace h := it_t h c_163
                refine lv_aload_n hx hb dX8_goesOn_160 rfl (lv_at hl 6 rfl) ?_
                refine lv_iload_n hx hb dX8_goesOn_161 rfl (lv_at hl 7 rfl) ?_
                refine lv_iconst (v := 5) hx hb dX8_goesOn_162 (by decide) ?_
                refine lv_bipush (v := (-3)) hx hb dX8_goesOn_163 (by decide) ?_
                obtain ⟨σ_164, eσ_164, h⟩ := bnd h
                refine r_cv X hS (r_runS (As := [.ref (ad a1), .int x2, .int 5, .int (-3)]) (rest := []) C0 X hP L_X8_97 (fun sz => c_X8_puts l D cA ad o (stm σ_161 91 20 1) a1 x2 5 (-3) ha1 σ_164 eσ_164 sz) ⟨Nat.le_of_ble_eq_true rfl, Nat.le_of_ble_eq_true rfl⟩ rfl hl.1 rfl (Nat.le_of_ble_eq_true rfl) dX8_goesOn_165 ⟨Nat.zero_le _, Nat.zero_le _⟩) (fun σ9 H locs hw hP hS => ?_)
                rw [show σ9 = σ_164 from hw] at hP
                refine lv_aload_n hx hb dX8_goesOn_168 rfl (lv_at hl 6 rfl) ?_
                refine lv_iload_n hx hb dX8_goesOn_169 rfl (lv_at hl 7 rfl) ?_
                refine lv_bipush (v := 7) hx hb dX8_goesOn_170 (by decide) ?_
                refine lv_iconst (v := 0) hx hb dX8_goesOn_172 (by decide) ?_
                obtain ⟨σ_165, eσ_165, h⟩ := bnd h
                refine r_cv X hS (r_runS (As := [.ref (ad a1), .int x2, .int 7, .int 0]) (rest := []) C0 X hP L_X8_97 (fun sz => c_X8_puts l D cA ad o σ_164 a1 x2 7 0 ha1 σ_165 eσ_165 sz) ⟨Nat.le_of_ble_eq_true rfl, Nat.le_of_ble_eq_true rfl⟩ rfl hl.1 rfl (Nat.le_of_ble_eq_true rfl) dX8_goesOn_173 ⟨Nat.zero_le _, Nat.zero_le _⟩) (fun σ9 H locs hw hP hS => ?_)
                rw [show σ9 = σ_165 from hw] at hP
                exact r_vret C0 X hP hS hr hlk dX8_goesOn_176 (Option.some.inj h)
            · replace h := it_t h c_159
              refine lv_iconst (v := 1) hx hb dX8_goesOn_117 (by decide) ?_
              refine lv_goto (tgt := 122) hx hb dX8_goesOn_118 (by decide) ?_
              refine lv_istore (lv' := [(7, .int 1), (6, .int r_4), (5, .int r_3), (4, .int r_2), (3, .int r_1), (0, .ref (ad 91)), (1, .ref (ad a1)), (2, .int x2)]) hx hb dX8_goesOn_122 hl (by decide) rfl (fun ls hl => ?_)
              refine lv_aload_n hx hb dX8_goesOn_124 rfl (lv_at hl 6 rfl) ?_
              refine lv_iload_n hx hb dX8_goesOn_125 rfl (lv_at hl 7 rfl) ?_
              refine lv_iconst (v := 5) hx hb dX8_goesOn_126 (by decide) ?_
              refine lv_iload_n hx hb dX8_goesOn_127 rfl (lv_at hl 4 rfl) ?_
              refine lv_iload hx hb dX8_goesOn_128 (lv_at hl 3 rfl) ?_
              refine lv_iadd hx hb dX8_goesOn_130 ?_
              obtain ⟨σ_166, eσ_166, h⟩ := bnd h
              refine r_cv X hS (r_runS (As := [.ref (ad a1), .int x2, .int 5, .int (r_1 + r_2)]) (rest := []) C0 X hP L_X8_97 (fun sz => c_X8_puts l D cA ad o σ a1 x2 5 (r_1 + r_2) ha1 σ_166 eσ_166 sz) ⟨Nat.le_of_ble_eq_true rfl, Nat.le_of_ble_eq_true rfl⟩ rfl hl.1 rfl (Nat.le_of_ble_eq_true rfl) dX8_goesOn_131 ⟨Nat.zero_le _, Nat.zero_le _⟩) (fun σ9 H locs hw hP hS => ?_)
              rw [show σ9 = σ_166 from hw] at hP
              refine lv_aload_n hx hb dX8_goesOn_134 rfl (lv_at hl 6 rfl) ?_
              refine lv_iload_n hx hb dX8_goesOn_135 rfl (lv_at hl 7 rfl) ?_
              refine lv_bipush (v := 7) hx hb dX8_goesOn_136 (by decide) ?_
              refine lv_iload hx hb dX8_goesOn_138 (lv_at hl 0 rfl) ?_
              obtain ⟨σ_167, eσ_167, h⟩ := bnd h
              refine r_cv X hS (r_runS (As := [.ref (ad a1), .int x2, .int 7, .int 1]) (rest := []) C0 X hP L_X8_97 (fun sz => c_X8_puts l D cA ad o σ_166 a1 x2 7 1 ha1 σ_167 eσ_167 sz) ⟨Nat.le_of_ble_eq_true rfl, Nat.le_of_ble_eq_true rfl⟩ rfl hl.1 rfl (Nat.le_of_ble_eq_true rfl) dX8_goesOn_140 ⟨Nat.zero_le _, Nat.zero_le _⟩) (fun σ9 H locs hw hP hS => ?_)
              rw [show σ9 = σ_167 from hw] at hP
              refine lv_aload_n hx hb dX8_goesOn_143 rfl (lv_at hl 5 rfl) ?_
              refine lv_iconst (v := 1) hx hb dX8_goesOn_144 (by decide) ?_
              refine pf_X8_177 C0 X hP hS 91 (Or.inr rfl) ⟨by decide, rfl⟩ dX8_goesOn_145 (fun H locs hP hS => ?_)
              refine lv_iload_n hx hb dX8_goesOn_148 rfl (lv_at hl 4 rfl) ?_
              refine lv_iload hx hb dX8_goesOn_149 (lv_at hl 3 rfl) ?_
              refine lv_iadd hx hb dX8_goesOn_151 ?_
              refine lv_aload_n hx hb dX8_goesOn_152 rfl (lv_at hl 6 rfl) ?_
              refine lv_iload_n hx hb dX8_goesOn_153 rfl (lv_at hl 7 rfl) ?_
              obtain ⟨r_168, er_168, h⟩ := bnd h
              refine r_ci X hS (r_runS (As := [.ref (ad a1), .int x2]) (rest := [.int (r_1 + r_2)]) C0 X hP L_X8_188 (fun sz => c_X8_goal l D cA ad o (stm σ_167 91 20 1) a1 x2 ha1 r_168 er_168 sz) ⟨Nat.le_of_ble_eq_true rfl, Nat.le_of_ble_eq_true rfl⟩ rfl hl.1 rfl (Nat.le_of_ble_eq_true rfl) dX8_goesOn_154 ⟨Nat.zero_le _, Nat.zero_le _⟩) (fun r9 σ9 H locs hw hP hS => ?_)
              rw [hw.2] at hP
              rw [hw.1]
              refine lv_icmp_ne (tgt := 176) hx hb dX8_goesOn_157 (by decide) (fun c_169 => ?_) (fun c_169 => ?_)
              · replace h := it_f h c_169
                exact r_vret C0 X hP hS hr hlk dX8_goesOn_176 (Option.some.inj h)
              · replace h := it_t h c_169
                refine lv_aload_n hx hb dX8_goesOn_160 rfl (lv_at hl 6 rfl) ?_
                refine lv_iload_n hx hb dX8_goesOn_161 rfl (lv_at hl 7 rfl) ?_
                refine lv_iconst (v := 5) hx hb dX8_goesOn_162 (by decide) ?_
                refine lv_bipush (v := (-3)) hx hb dX8_goesOn_163 (by decide) ?_
                obtain ⟨σ_170, eσ_170, h⟩ := bnd h
                refine r_cv X hS (r_runS (As := [.ref (ad a1), .int x2, .int 5, .int (-3)]) (rest := []) C0 X hP L_X8_97 (fun sz => c_X8_puts l D cA ad o (stm σ_167 91 20 1) a1 x2 5 (-3) ha1 σ_170 eσ_170 sz) ⟨Nat.le_of_ble_eq_true rfl, Nat.le_of_ble_eq_true rfl⟩ rfl hl.1 rfl (Nat.le_of_ble_eq_true rfl) dX8_goesOn_165 ⟨Nat.zero_le _, Nat.zero_le _⟩) (fun σ9 H locs hw hP hS => ?_)
                rw [show σ9 = σ_170 from hw] at hP
                refine lv_aload_n hx hb dX8_goesOn_168 rfl (lv_at hl 6 rfl) ?_
                refine lv_iload_n hx hb dX8_goesOn_169 rfl (lv_at hl 7 rfl) ?_
                refine lv_bipush (v := 7) hx hb dX8_goesOn_170 (by decide) ?_
                refine lv_iconst (v := 0) hx hb dX8_goesOn_172 (by decide) ?_
                obtain ⟨σ_171, eσ_171, h⟩ := bnd h
                refine r_cv X hS (r_runS (As := [.ref (ad a1), .int x2, .int 7, .int 0]) (rest := []) C0 X hP L_X8_97 (fun sz => c_X8_puts l D cA ad o σ_170 a1 x2 7 0 ha1 σ_171 eσ_171 sz) ⟨Nat.le_of_ble_eq_true rfl, Nat.le_of_ble_eq_true rfl⟩ rfl hl.1 rfl (Nat.le_of_ble_eq_true rfl) dX8_goesOn_173 ⟨Nat.zero_le _, Nat.zero_le _⟩) (fun σ9 H locs hw hP hS => ?_)
                rw [show σ9 = σ_171 from hw] at hP
                exact r_vret C0 X hP hS hr hlk dX8_goesOn_176 (Option.some.inj h)
          · replace h := it_f h c_158
            refine lv_iconst (v := 1) hx hb dX8_goesOn_109 (by decide) ?_
            refine lv_goto (tgt := 114) hx hb dX8_goesOn_110 (by decide) ?_
            refine lv_icmp_ne (tgt := 121) hx hb dX8_goesOn_114 (by decide) (fun c_172 => ?_) (fun c_172 => ?_)
            · replace h := it_f h c_172
              refine lv_iconst (v := 0) hx hb dX8_goesOn_121 (by decide) ?_
              refine lv_istore (lv' := [(7, .int 0), (6, .int r_4), (5, .int r_3), (4, .int r_2), (3, .int r_1), (0, .ref (ad 91)), (1, .ref (ad a1)), (2, .int x2)]) hx hb dX8_goesOn_122 hl (by decide) rfl (fun ls hl => ?_)
              refine lv_aload_n hx hb dX8_goesOn_124 rfl (lv_at hl 6 rfl) ?_
              refine lv_iload_n hx hb dX8_goesOn_125 rfl (lv_at hl 7 rfl) ?_
              refine lv_iconst (v := 5) hx hb dX8_goesOn_126 (by decide) ?_
              refine lv_iload_n hx hb dX8_goesOn_127 rfl (lv_at hl 4 rfl) ?_
              refine lv_iload hx hb dX8_goesOn_128 (lv_at hl 3 rfl) ?_
              refine lv_iadd hx hb dX8_goesOn_130 ?_
              obtain ⟨σ_173, eσ_173, h⟩ := bnd h
              refine r_cv X hS (r_runS (As := [.ref (ad a1), .int x2, .int 5, .int (r_1 + r_2)]) (rest := []) C0 X hP L_X8_97 (fun sz => c_X8_puts l D cA ad o σ a1 x2 5 (r_1 + r_2) ha1 σ_173 eσ_173 sz) ⟨Nat.le_of_ble_eq_true rfl, Nat.le_of_ble_eq_true rfl⟩ rfl hl.1 rfl (Nat.le_of_ble_eq_true rfl) dX8_goesOn_131 ⟨Nat.zero_le _, Nat.zero_le _⟩) (fun σ9 H locs hw hP hS => ?_)
              rw [show σ9 = σ_173 from hw] at hP
              refine lv_aload_n hx hb dX8_goesOn_134 rfl (lv_at hl 6 rfl) ?_
              refine lv_iload_n hx hb dX8_goesOn_135 rfl (lv_at hl 7 rfl) ?_
              refine lv_bipush (v := 7) hx hb dX8_goesOn_136 (by decide) ?_
              refine lv_iload hx hb dX8_goesOn_138 (lv_at hl 0 rfl) ?_
              obtain ⟨σ_174, eσ_174, h⟩ := bnd h
              refine r_cv X hS (r_runS (As := [.ref (ad a1), .int x2, .int 7, .int 0]) (rest := []) C0 X hP L_X8_97 (fun sz => c_X8_puts l D cA ad o σ_173 a1 x2 7 0 ha1 σ_174 eσ_174 sz) ⟨Nat.le_of_ble_eq_true rfl, Nat.le_of_ble_eq_true rfl⟩ rfl hl.1 rfl (Nat.le_of_ble_eq_true rfl) dX8_goesOn_140 ⟨Nat.zero_le _, Nat.zero_le _⟩) (fun σ9 H locs hw hP hS => ?_)
              rw [show σ9 = σ_174 from hw] at hP
              refine lv_aload_n hx hb dX8_goesOn_143 rfl (lv_at hl 5 rfl) ?_
              refine lv_iconst (v := 1) hx hb dX8_goesOn_144 (by decide) ?_
              refine pf_X8_177 C0 X hP hS 91 (Or.inr rfl) ⟨by decide, rfl⟩ dX8_goesOn_145 (fun H locs hP hS => ?_)
              refine lv_iload_n hx hb dX8_goesOn_148 rfl (lv_at hl 4 rfl) ?_
              refine lv_iload hx hb dX8_goesOn_149 (lv_at hl 3 rfl) ?_
              refine lv_iadd hx hb dX8_goesOn_151 ?_
              refine lv_aload_n hx hb dX8_goesOn_152 rfl (lv_at hl 6 rfl) ?_
              refine lv_iload_n hx hb dX8_goesOn_153 rfl (lv_at hl 7 rfl) ?_
              obtain ⟨r_175, er_175, h⟩ := bnd h
              refine r_ci X hS (r_runS (As := [.ref (ad a1), .int x2]) (rest := [.int (r_1 + r_2)]) C0 X hP L_X8_188 (fun sz => c_X8_goal l D cA ad o (stm σ_174 91 20 1) a1 x2 ha1 r_175 er_175 sz) ⟨Nat.le_of_ble_eq_true rfl, Nat.le_of_ble_eq_true rfl⟩ rfl hl.1 rfl (Nat.le_of_ble_eq_true rfl) dX8_goesOn_154 ⟨Nat.zero_le _, Nat.zero_le _⟩) (fun r9 σ9 H locs hw hP hS => ?_)
              rw [hw.2] at hP
              rw [hw.1]
              refine lv_icmp_ne (tgt := 176) hx hb dX8_goesOn_157 (by decide) (fun c_176 => ?_) (fun c_176 => ?_)
              · replace h := it_f h c_176
                exact r_vret C0 X hP hS hr hlk dX8_goesOn_176 (Option.some.inj h)
              · replace h := it_t h c_176
                refine lv_aload_n hx hb dX8_goesOn_160 rfl (lv_at hl 6 rfl) ?_
                refine lv_iload_n hx hb dX8_goesOn_161 rfl (lv_at hl 7 rfl) ?_
                refine lv_iconst (v := 5) hx hb dX8_goesOn_162 (by decide) ?_
                refine lv_bipush (v := (-3)) hx hb dX8_goesOn_163 (by decide) ?_
                obtain ⟨σ_177, eσ_177, h⟩ := bnd h
                refine r_cv X hS (r_runS (As := [.ref (ad a1), .int x2, .int 5, .int (-3)]) (rest := []) C0 X hP L_X8_97 (fun sz => c_X8_puts l D cA ad o (stm σ_174 91 20 1) a1 x2 5 (-3) ha1 σ_177 eσ_177 sz) ⟨Nat.le_of_ble_eq_true rfl, Nat.le_of_ble_eq_true rfl⟩ rfl hl.1 rfl (Nat.le_of_ble_eq_true rfl) dX8_goesOn_165 ⟨Nat.zero_le _, Nat.zero_le _⟩) (fun σ9 H locs hw hP hS => ?_)
                rw [show σ9 = σ_177 from hw] at hP
                refine lv_aload_n hx hb dX8_goesOn_168 rfl (lv_at hl 6 rfl) ?_
                refine lv_iload_n hx hb dX8_goesOn_169 rfl (lv_at hl 7 rfl) ?_
                refine lv_bipush (v := 7) hx hb dX8_goesOn_170 (by decide) ?_
                refine lv_iconst (v := 0) hx hb dX8_goesOn_172 (by decide) ?_
                obtain ⟨σ_178, eσ_178, h⟩ := bnd h
                refine r_cv X hS (r_runS (As := [.ref (ad a1), .int x2, .int 7, .int 0]) (rest := []) C0 X hP L_X8_97 (fun sz => c_X8_puts l D cA ad o σ_177 a1 x2 7 0 ha1 σ_178 eσ_178 sz) ⟨Nat.le_of_ble_eq_true rfl, Nat.le_of_ble_eq_true rfl⟩ rfl hl.1 rfl (Nat.le_of_ble_eq_true rfl) dX8_goesOn_173 ⟨Nat.zero_le _, Nat.zero_le _⟩) (fun σ9 H locs hw hP hS => ?_)
                rw [show σ9 = σ_178 from hw] at hP
                exact r_vret C0 X hP hS hr hlk dX8_goesOn_176 (Option.some.inj h)
            · replace h := it_t h c_172
              refine lv_iconst (v := 1) hx hb dX8_goesOn_117 (by decide) ?_
              refine lv_goto (tgt := 122) hx hb dX8_goesOn_118 (by decide) ?_
              refine lv_istore (lv' := [(7, .int 1), (6, .int r_4), (5, .int r_3), (4, .int r_2), (3, .int r_1), (0, .ref (ad 91)), (1, .ref (ad a1)), (2, .int x2)]) hx hb dX8_goesOn_122 hl (by decide) rfl (fun ls hl => ?_)
              refine lv_aload_n hx hb dX8_goesOn_124 rfl (lv_at hl 6 rfl) ?_
              refine lv_iload_n hx hb dX8_goesOn_125 rfl (lv_at hl 7 rfl) ?_
              refine lv_iconst (v := 5) hx hb dX8_goesOn_126 (by decide) ?_
              refine lv_iload_n hx hb dX8_goesOn_127 rfl (lv_at hl 4 rfl) ?_
              refine lv_iload hx hb dX8_goesOn_128 (lv_at hl 3 rfl) ?_
              refine lv_iadd hx hb dX8_goesOn_130 ?_
              obtain ⟨σ_179, eσ_179, h⟩ := bnd h
              refine r_cv X hS (r_runS (As := [.ref (ad a1), .int x2, .int 5, .int (r_1 + r_2)]) (rest := []) C0 X hP L_X8_97 (fun sz => c_X8_puts l D cA ad o σ a1 x2 5 (r_1 + r_2) ha1 σ_179 eσ_179 sz) ⟨Nat.le_of_ble_eq_true rfl, Nat.le_of_ble_eq_true rfl⟩ rfl hl.1 rfl (Nat.le_of_ble_eq_true rfl) dX8_goesOn_131 ⟨Nat.zero_le _, Nat.zero_le _⟩) (fun σ9 H locs hw hP hS => ?_)
              rw [show σ9 = σ_179 from hw] at hP
              refine lv_aload_n hx hb dX8_goesOn_134 rfl (lv_at hl 6 rfl) ?_
              refine lv_iload_n hx hb dX8_goesOn_135 rfl (lv_at hl 7 rfl) ?_
              refine lv_bipush (v := 7) hx hb dX8_goesOn_136 (by decide) ?_
              refine lv_iload hx hb dX8_goesOn_138 (lv_at hl 0 rfl) ?_
              obtain ⟨σ_180, eσ_180, h⟩ := bnd h
              refine r_cv X hS (r_runS (As := [.ref (ad a1), .int x2, .int 7, .int 1]) (rest := []) C0 X hP L_X8_97 (fun sz => c_X8_puts l D cA ad o σ_179 a1 x2 7 1 ha1 σ_180 eσ_180 sz) ⟨Nat.le_of_ble_eq_true rfl, Nat.le_of_ble_eq_true rfl⟩ rfl hl.1 rfl (Nat.le_of_ble_eq_true rfl) dX8_goesOn_140 ⟨Nat.zero_le _, Nat.zero_le _⟩) (fun σ9 H locs hw hP hS => ?_)
              rw [show σ9 = σ_180 from hw] at hP
              refine lv_aload_n hx hb dX8_goesOn_143 rfl (lv_at hl 5 rfl) ?_
              refine lv_iconst (v := 1) hx hb dX8_goesOn_144 (by decide) ?_
              refine pf_X8_177 C0 X hP hS 91 (Or.inr rfl) ⟨by decide, rfl⟩ dX8_goesOn_145 (fun H locs hP hS => ?_)
              refine lv_iload_n hx hb dX8_goesOn_148 rfl (lv_at hl 4 rfl) ?_
              refine lv_iload hx hb dX8_goesOn_149 (lv_at hl 3 rfl) ?_
              refine lv_iadd hx hb dX8_goesOn_151 ?_
              refine lv_aload_n hx hb dX8_goesOn_152 rfl (lv_at hl 6 rfl) ?_
              refine lv_iload_n hx hb dX8_goesOn_153 rfl (lv_at hl 7 rfl) ?_
              obtain ⟨r_181, er_181, h⟩ := bnd h
              refine r_ci X hS (r_runS (As := [.ref (ad a1), .int x2]) (rest := [.int (r_1 + r_2)]) C0 X hP L_X8_188 (fun sz => c_X8_goal l D cA ad o (stm σ_180 91 20 1) a1 x2 ha1 r_181 er_181 sz) ⟨Nat.le_of_ble_eq_true rfl, Nat.le_of_ble_eq_true rfl⟩ rfl hl.1 rfl (Nat.le_of_ble_eq_true rfl) dX8_goesOn_154 ⟨Nat.zero_le _, Nat.zero_le _⟩) (fun r9 σ9 H locs hw hP hS => ?_)
              rw [hw.2] at hP
              rw [hw.1]
              refine lv_icmp_ne (tgt := 176) hx hb dX8_goesOn_157 (by decide) (fun c_182 => ?_) (fun c_182 => ?_)
              · replace h := it_f h c_182
                exact r_vret C0 X hP hS hr hlk dX8_goesOn_176 (Option.some.inj h)
              · replace h := it_t h c_182
                refine lv_aload_n hx hb dX8_goesOn_160 rfl (lv_at hl 6 rfl) ?_
                refine lv_iload_n hx hb dX8_goesOn_161 rfl (lv_at hl 7 rfl) ?_
                refine lv_iconst (v := 5) hx hb dX8_goesOn_162 (by decide) ?_
                refine lv_bipush (v := (-3)) hx hb dX8_goesOn_163 (by decide) ?_
                obtain ⟨σ_183, eσ_183, h⟩ := bnd h
                refine r_cv X hS (r_runS (As := [.ref (ad a1), .int x2, .int 5, .int (-3)]) (rest := []) C0 X hP L_X8_97 (fun sz => c_X8_puts l D cA ad o (stm σ_180 91 20 1) a1 x2 5 (-3) ha1 σ_183 eσ_183 sz) ⟨Nat.le_of_ble_eq_true rfl, Nat.le_of_ble_eq_true rfl⟩ rfl hl.1 rfl (Nat.le_of_ble_eq_true rfl) dX8_goesOn_165 ⟨Nat.zero_le _, Nat.zero_le _⟩) (fun σ9 H locs hw hP hS => ?_)
                rw [show σ9 = σ_183 from hw] at hP
                refine lv_aload_n hx hb dX8_goesOn_168 rfl (lv_at hl 6 rfl) ?_
                refine lv_iload_n hx hb dX8_goesOn_169 rfl (lv_at hl 7 rfl) ?_
                refine lv_bipush (v := 7) hx hb dX8_goesOn_170 (by decide) ?_
                refine lv_iconst (v := 0) hx hb dX8_goesOn_172 (by decide) ?_
                obtain ⟨σ_184, eσ_184, h⟩ := bnd h
                refine r_cv X hS (r_runS (As := [.ref (ad a1), .int x2, .int 7, .int 0]) (rest := []) C0 X hP L_X8_97 (fun sz => c_X8_puts l D cA ad o σ_183 a1 x2 7 0 ha1 σ_184 eσ_184 sz) ⟨Nat.le_of_ble_eq_true rfl, Nat.le_of_ble_eq_true rfl⟩ rfl hl.1 rfl (Nat.le_of_ble_eq_true rfl) dX8_goesOn_173 ⟨Nat.zero_le _, Nat.zero_le _⟩) (fun σ9 H locs hw hP hS => ?_)
                rw [show σ9 = σ_184 from hw] at hP
                exact r_vret C0 X hP hS hr hlk dX8_goesOn_176 (Option.some.inj h)
    · replace h := it_t h c_96
      refine lv_aload_n hx hb dX8_goesOn_55 rfl (lv_at hl 5 rfl) ?_
      refine lv_iload_n hx hb dX8_goesOn_56 rfl (lv_at hl 6 rfl) ?_
      refine lv_bipush (v := 9) hx hb dX8_goesOn_57 (by decide) ?_
      refine lv_aload_n hx hb dX8_goesOn_59 rfl (lv_at hl 5 rfl) ?_
      refine lv_iload_n hx hb dX8_goesOn_60 rfl (lv_at hl 6 rfl) ?_
      refine lv_bipush (v := 9) hx hb dX8_goesOn_61 (by decide) ?_
      obtain ⟨r_185, er_185, h⟩ := bnd h
      refine r_ci X hS (r_runS (As := [.ref (ad a1), .int x2, .int 9]) (rest := [.int 9, .int x2, .ref (ad a1)]) C0 X hP L_X8_130 (fun sz => c_X8_get l D cA ad o σ a1 x2 9 ha1 r_185 er_185 sz) ⟨Nat.le_of_ble_eq_true rfl, Nat.le_of_ble_eq_true rfl⟩ rfl hl.1 rfl (Nat.le_of_ble_eq_true rfl) dX8_goesOn_63 ⟨Nat.zero_le _, Nat.zero_le _⟩) (fun r9 σ9 H locs hw hP hS => ?_)
      rw [hw.2] at hP
      rw [hw.1]
      refine lv_iconst (v := 1) hx hb dX8_goesOn_66 (by decide) ?_
      refine lv_iadd hx hb dX8_goesOn_67 ?_
      obtain ⟨σ_186, eσ_186, h⟩ := bnd h
      refine r_cv X hS (r_runS (As := [.ref (ad a1), .int x2, .int 9, .int (r_185 + 1)]) (rest := []) C0 X hP L_X8_97 (fun sz => c_X8_puts l D cA ad o σ a1 x2 9 (r_185 + 1) ha1 σ_186 eσ_186 sz) ⟨Nat.le_of_ble_eq_true rfl, Nat.le_of_ble_eq_true rfl⟩ rfl hl.1 rfl (Nat.le_of_ble_eq_true rfl) dX8_goesOn_68 ⟨Nat.zero_le _, Nat.zero_le _⟩) (fun σ9 H locs hw hP hS => ?_)
      rw [show σ9 = σ_186 from hw] at hP
      exact r_vret C0 X hP hS hr hlk dX8_goesOn_71 (Option.some.inj h)
def bB_cX8_acts : Nat := 0xb1ce00b61c2b2a0900a7cb00b61c2b2a0c009e8200b806101c2b1c00a76100b864048200b807101c2b07101c2b16009e8200b807101c2bb104009a9d00b81c2b6100b89a00b81c2b081c2b0e00a32e052b608200b80a101c2b8200b8041c2b2200a0fe108200b8081c2b
theorem yB_cX8_acts : BYS cX8_acts 106 bB_cX8_acts := BYS_of (by decide +kernel)
theorem dX8_acts_0 : decode cX8_acts 0 = .ok (.aload_n 1, 1) := D_43 yB_cX8_acts rfl rfl
theorem dX8_acts_1 : decode cX8_acts 1 = .ok (.iload_n 2, 1) := D_28 yB_cX8_acts rfl rfl
theorem dX8_acts_2 : decode cX8_acts 2 = .ok (.iconst 5, 1) := D_8 yB_cX8_acts rfl rfl
theorem dX8_acts_3 : decode cX8_acts 3 = .ok (.invokestatic 130, 3) := D_184 yB_cX8_acts rfl rfl rfl
theorem dX8_acts_6 : decode cX8_acts 6 = .ok (.bipush (-2), 2) := D_16 yB_cX8_acts rfl rfl (sg_n (m := 128) (N := 2) rfl rfl rfl)
theorem dX8_acts_8 : decode cX8_acts 8 = .ok (.if_icmp .ne 34, 3) := D_160 yB_cX8_acts rfl rfl (sg_p (m := 32768) (N := 34) rfl rfl rfl)
theorem dX8_acts_11 : decode cX8_acts 11 = .ok (.aload_n 1, 1) := D_43 yB_cX8_acts rfl rfl
theorem dX8_acts_12 : decode cX8_acts 12 = .ok (.iload_n 2, 1) := D_28 yB_cX8_acts rfl rfl
theorem dX8_acts_13 : decode cX8_acts 13 = .ok (.iconst 1, 1) := D_4 yB_cX8_acts rfl rfl
theorem dX8_acts_14 : decode cX8_acts 14 = .ok (.invokestatic 130, 3) := D_184 yB_cX8_acts rfl rfl rfl
theorem dX8_acts_17 : decode cX8_acts 17 = .ok (.aload_n 1, 1) := D_43 yB_cX8_acts rfl rfl
theorem dX8_acts_18 : decode cX8_acts 18 = .ok (.iload_n 2, 1) := D_28 yB_cX8_acts rfl rfl
theorem dX8_acts_19 : decode cX8_acts 19 = .ok (.bipush 10, 2) := D_16 yB_cX8_acts rfl rfl (sg_p (m := 128) (N := 10) rfl rfl rfl)
theorem dX8_acts_21 : decode cX8_acts 21 = .ok (.invokestatic 130, 3) := D_184 yB_cX8_acts rfl rfl rfl
theorem dX8_acts_24 : decode cX8_acts 24 = .ok (.iadd, 1) := D_96 yB_cX8_acts rfl rfl
theorem dX8_acts_25 : decode cX8_acts 25 = .ok (.aload_n 1, 1) := D_43 yB_cX8_acts rfl rfl
theorem dX8_acts_26 : decode cX8_acts 26 = .ok (.iconst 2, 1) := D_5 yB_cX8_acts rfl rfl
theorem dX8_acts_27 : decode cX8_acts 27 = .ok (.iaload, 1) := D_46 yB_cX8_acts rfl rfl
theorem dX8_acts_28 : decode cX8_acts 28 = .ok (.if_icmp .gt 14, 3) := D_163 yB_cX8_acts rfl rfl (sg_p (m := 32768) (N := 14) rfl rfl rfl)
theorem dX8_acts_31 : decode cX8_acts 31 = .ok (.aload_n 1, 1) := D_43 yB_cX8_acts rfl rfl
theorem dX8_acts_32 : decode cX8_acts 32 = .ok (.iload_n 2, 1) := D_28 yB_cX8_acts rfl rfl
theorem dX8_acts_33 : decode cX8_acts 33 = .ok (.iconst 5, 1) := D_8 yB_cX8_acts rfl rfl
theorem dX8_acts_34 : decode cX8_acts 34 = .ok (.aload_n 1, 1) := D_43 yB_cX8_acts rfl rfl
theorem dX8_acts_35 : decode cX8_acts 35 = .ok (.iload_n 2, 1) := D_28 yB_cX8_acts rfl rfl
theorem dX8_acts_36 : decode cX8_acts 36 = .ok (.invokestatic 154, 3) := D_184 yB_cX8_acts rfl rfl rfl
theorem dX8_acts_39 : decode cX8_acts 39 = .ok (.invokestatic 97, 3) := D_184 yB_cX8_acts rfl rfl rfl
theorem dX8_acts_42 : decode cX8_acts 42 = .ok (.aload_n 1, 1) := D_43 yB_cX8_acts rfl rfl
theorem dX8_acts_43 : decode cX8_acts 43 = .ok (.iload_n 2, 1) := D_28 yB_cX8_acts rfl rfl
theorem dX8_acts_44 : decode cX8_acts 44 = .ok (.invokestatic 157, 3) := D_184 yB_cX8_acts rfl rfl rfl
theorem dX8_acts_47 : decode cX8_acts 47 = .ok (.ifCond .ne 4, 3) := D_154 yB_cX8_acts rfl rfl (sg_p (m := 32768) (N := 4) rfl rfl rfl)
theorem dX8_acts_50 : decode cX8_acts 50 = .ok (.return_, 1) := D_177 yB_cX8_acts rfl rfl
theorem dX8_acts_51 : decode cX8_acts 51 = .ok (.aload_n 1, 1) := D_43 yB_cX8_acts rfl rfl
theorem dX8_acts_52 : decode cX8_acts 52 = .ok (.iload_n 2, 1) := D_28 yB_cX8_acts rfl rfl
theorem dX8_acts_53 : decode cX8_acts 53 = .ok (.bipush 7, 2) := D_16 yB_cX8_acts rfl rfl (sg_p (m := 128) (N := 7) rfl rfl rfl)
theorem dX8_acts_55 : decode cX8_acts 55 = .ok (.invokestatic 130, 3) := D_184 yB_cX8_acts rfl rfl rfl
theorem dX8_acts_58 : decode cX8_acts 58 = .ok (.ifCond .le 22, 3) := D_158 yB_cX8_acts rfl rfl (sg_p (m := 32768) (N := 22) rfl rfl rfl)
theorem dX8_acts_61 : decode cX8_acts 61 = .ok (.aload_n 1, 1) := D_43 yB_cX8_acts rfl rfl
theorem dX8_acts_62 : decode cX8_acts 62 = .ok (.iload_n 2, 1) := D_28 yB_cX8_acts rfl rfl
theorem dX8_acts_63 : decode cX8_acts 63 = .ok (.bipush 7, 2) := D_16 yB_cX8_acts rfl rfl (sg_p (m := 128) (N := 7) rfl rfl rfl)
theorem dX8_acts_65 : decode cX8_acts 65 = .ok (.aload_n 1, 1) := D_43 yB_cX8_acts rfl rfl
theorem dX8_acts_66 : decode cX8_acts 66 = .ok (.iload_n 2, 1) := D_28 yB_cX8_acts rfl rfl
theorem dX8_acts_67 : decode cX8_acts 67 = .ok (.bipush 7, 2) := D_16 yB_cX8_acts rfl rfl (sg_p (m := 128) (N := 7) rfl rfl rfl)
theorem dX8_acts_69 : decode cX8_acts 69 = .ok (.invokestatic 130, 3) := D_184 yB_cX8_acts rfl rfl rfl
theorem dX8_acts_72 : decode cX8_acts 72 = .ok (.iconst 1, 1) := D_4 yB_cX8_acts rfl rfl
theorem dX8_acts_73 : decode cX8_acts 73 = .ok (.isub, 1) := D_100 yB_cX8_acts rfl rfl
theorem dX8_acts_74 : decode cX8_acts 74 = .ok (.invokestatic 97, 3) := D_184 yB_cX8_acts rfl rfl rfl
theorem dX8_acts_77 : decode cX8_acts 77 = .ok (.goto 28, 3) := D_167 yB_cX8_acts rfl rfl (sg_p (m := 32768) (N := 28) rfl rfl rfl)
theorem dX8_acts_80 : decode cX8_acts 80 = .ok (.aload_n 1, 1) := D_43 yB_cX8_acts rfl rfl
theorem dX8_acts_81 : decode cX8_acts 81 = .ok (.iload_n 2, 1) := D_28 yB_cX8_acts rfl rfl
theorem dX8_acts_82 : decode cX8_acts 82 = .ok (.bipush 6, 2) := D_16 yB_cX8_acts rfl rfl (sg_p (m := 128) (N := 6) rfl rfl rfl)
theorem dX8_acts_84 : decode cX8_acts 84 = .ok (.invokestatic 130, 3) := D_184 yB_cX8_acts rfl rfl rfl
theorem dX8_acts_87 : decode cX8_acts 87 = .ok (.ifCond .le 12, 3) := D_158 yB_cX8_acts rfl rfl (sg_p (m := 32768) (N := 12) rfl rfl rfl)
theorem dX8_acts_90 : decode cX8_acts 90 = .ok (.aload_n 0, 1) := D_42 yB_cX8_acts rfl rfl
theorem dX8_acts_91 : decode cX8_acts 91 = .ok (.aload_n 1, 1) := D_43 yB_cX8_acts rfl rfl
theorem dX8_acts_92 : decode cX8_acts 92 = .ok (.iload_n 2, 1) := D_28 yB_cX8_acts rfl rfl
theorem dX8_acts_93 : decode cX8_acts 93 = .ok (.invokevirtual 203, 3) := D_182 yB_cX8_acts rfl rfl rfl
theorem dX8_acts_96 : decode cX8_acts 96 = .ok (.goto 9, 3) := D_167 yB_cX8_acts rfl rfl (sg_p (m := 32768) (N := 9) rfl rfl rfl)
theorem dX8_acts_99 : decode cX8_acts 99 = .ok (.aload_n 0, 1) := D_42 yB_cX8_acts rfl rfl
theorem dX8_acts_100 : decode cX8_acts 100 = .ok (.aload_n 1, 1) := D_43 yB_cX8_acts rfl rfl
theorem dX8_acts_101 : decode cX8_acts 101 = .ok (.iload_n 2, 1) := D_28 yB_cX8_acts rfl rfl
theorem dX8_acts_102 : decode cX8_acts 102 = .ok (.invokevirtual 206, 3) := D_182 yB_cX8_acts rfl rfl rfl
theorem dX8_acts_105 : decode cX8_acts 105 = .ok (.return_, 1) := D_177 yB_cX8_acts rfl rfl
def F_X8_acts (σ : Mem) (a1 : Nat) (x2 : Int32) : Option (Mem) := (F_X8_get σ a1 x2 5).bind fun r_1 => if r_1 = (-2) then ((F_X8_get σ a1 x2 1).bind fun r_13 => (F_X8_get σ a1 x2 10).bind fun r_14 => if (σ a1 2) < (r_13 + r_14) then ((F_X8_isOn σ a1 x2).bind fun r_16 => if r_16 = 0 then (some σ) else ((F_X8_get σ a1 x2 7).bind fun r_18 => if r_18 ≤ 0 then ((F_X8_get σ a1 x2 6).bind fun r_20 => if r_20 ≤ 0 then ((F_X8_goesOn σ a1 x2).bind fun σ_22 => some σ_22) else ((F_X8_goesBack σ a1 x2).bind fun σ_23 => some σ_23)) else ((F_X8_get σ a1 x2 7).bind fun r_24 => (F_X8_puts σ a1 x2 7 (r_24 - 1)).bind fun σ_25 => some σ_25))) else ((F_X8_origin σ a1 x2).bind fun r_26 => (F_X8_puts σ a1 x2 5 r_26).bind fun σ_27 => (F_X8_isOn σ_27 a1 x2).bind fun r_28 => if r_28 = 0 then (some σ_27) else ((F_X8_get σ_27 a1 x2 7).bind fun r_30 => if r_30 ≤ 0 then ((F_X8_get σ_27 a1 x2 6).bind fun r_32 => if r_32 ≤ 0 then ((F_X8_goesOn σ_27 a1 x2).bind fun σ_34 => some σ_34) else ((F_X8_goesBack σ_27 a1 x2).bind fun σ_35 => some σ_35)) else ((F_X8_get σ_27 a1 x2 7).bind fun r_36 => (F_X8_puts σ_27 a1 x2 7 (r_36 - 1)).bind fun σ_37 => some σ_37)))) else ((F_X8_isOn σ a1 x2).bind fun r_3 => if r_3 = 0 then (some σ) else ((F_X8_get σ a1 x2 7).bind fun r_5 => if r_5 ≤ 0 then ((F_X8_get σ a1 x2 6).bind fun r_7 => if r_7 ≤ 0 then ((F_X8_goesOn σ a1 x2).bind fun σ_9 => some σ_9) else ((F_X8_goesBack σ a1 x2).bind fun σ_10 => some σ_10)) else ((F_X8_get σ a1 x2 7).bind fun r_11 => (F_X8_puts σ a1 x2 7 (r_11 - 1)).bind fun σ_12 => some σ_12)))
set_option maxHeartbeats 4000000 in
set_option maxRecDepth 100000 in
theorem c_X8_acts (l : Launch) (D : va_G) (cA : Nat → ClassId) (ad : Nat → Nat) (o : Int64) (σ : Mem) (a1 : Nat) (x2 : Int32) (ha1 : a1 < 106 ∧ kd a1 = (9, 121)) (res : Mem) (h : F_X8_acts σ a1 x2 = some res) (sz : Nat) : Met l yX8_acts (WY yX8_acts cX8_acts 3 none) (RM 6) (va_Pc [.ref (ad 91), .ref (ad a1), .int x2] (PW D cA ad o σ sz)) (va_Qv (fun σ9 => σ9 = res) (QW D cA ad o) (FA ad sz)) 0 0 (FA ad sz) := by
  refine ct_of (own := RX8) (k := 6) (Qf := va_Qv (fun σ9 => σ9 = res) (QW D cA ad o)) rfl (by decide) (Nat.le_of_ble_eq_true rfl) (fun p e s m below meth c ls C0 X hr hlk hP hl => ?_) sz
  have hS : va_S (FA ad s.heap.size) s.heap s.heap [] := va_S.rf
  have hl : lv_has ls 3 [(0, .ref (ad 91)), (1, .ref (ad a1)), (2, .int x2)] := hl
  obtain ⟨hx, hb, hml, hown, hts⟩ := id C0
  unfold F_X8_acts at h
  refine lv_aload_n hx hb dX8_acts_0 rfl (lv_at hl 1 rfl) ?_
  refine lv_iload_n hx hb dX8_acts_1 rfl (lv_at hl 2 rfl) ?_
  refine lv_iconst (v := 5) hx hb dX8_acts_2 (by decide) ?_
  obtain ⟨r_1, er_1, h⟩ := bnd h
  refine r_ci X hS (r_runS (As := [.ref (ad a1), .int x2, .int 5]) (rest := []) C0 X hP L_X8_130 (fun sz => c_X8_get l D cA ad o σ a1 x2 5 ha1 r_1 er_1 sz) ⟨Nat.le_of_ble_eq_true rfl, Nat.le_of_ble_eq_true rfl⟩ rfl hl.1 rfl (Nat.le_of_ble_eq_true rfl) dX8_acts_3 ⟨Nat.zero_le _, Nat.zero_le _⟩) (fun r9 σ9 H locs hw hP hS => ?_)
  rw [hw.2] at hP
  rw [hw.1]
  refine lv_bipush (v := (-2)) hx hb dX8_acts_6 (by decide) ?_
  refine lv_icmp_ne (tgt := 42) hx hb dX8_acts_8 (by decide) (fun c_2 => ?_) (fun c_2 => ?_)
  · replace h := it_f h c_2
    refine lv_aload_n hx hb dX8_acts_42 rfl (lv_at hl 1 rfl) ?_
    refine lv_iload_n hx hb dX8_acts_43 rfl (lv_at hl 2 rfl) ?_
    obtain ⟨r_3, er_3, h⟩ := bnd h
    refine r_ci X hS (r_runS (As := [.ref (ad a1), .int x2]) (rest := []) C0 X hP L_X8_157 (fun sz => c_X8_isOn l D cA ad o σ a1 x2 ha1 r_3 er_3 sz) ⟨Nat.le_of_ble_eq_true rfl, Nat.le_of_ble_eq_true rfl⟩ rfl hl.1 rfl (Nat.le_of_ble_eq_true rfl) dX8_acts_44 ⟨Nat.zero_le _, Nat.zero_le _⟩) (fun r9 σ9 H locs hw hP hS => ?_)
    rw [hw.2] at hP
    rw [hw.1]
    refine lv_if_ne (tgt := 51) hx hb dX8_acts_47 (by decide) (fun c_4 => ?_) (fun c_4 => ?_)
    · replace h := it_f h c_4
      refine lv_aload_n hx hb dX8_acts_51 rfl (lv_at hl 1 rfl) ?_
      refine lv_iload_n hx hb dX8_acts_52 rfl (lv_at hl 2 rfl) ?_
      refine lv_bipush (v := 7) hx hb dX8_acts_53 (by decide) ?_
      obtain ⟨r_5, er_5, h⟩ := bnd h
      refine r_ci X hS (r_runS (As := [.ref (ad a1), .int x2, .int 7]) (rest := []) C0 X hP L_X8_130 (fun sz => c_X8_get l D cA ad o σ a1 x2 7 ha1 r_5 er_5 sz) ⟨Nat.le_of_ble_eq_true rfl, Nat.le_of_ble_eq_true rfl⟩ rfl hl.1 rfl (Nat.le_of_ble_eq_true rfl) dX8_acts_55 ⟨Nat.zero_le _, Nat.zero_le _⟩) (fun r9 σ9 H locs hw hP hS => ?_)
      rw [hw.2] at hP
      rw [hw.1]
      refine lv_if_le (tgt := 80) hx hb dX8_acts_58 (by decide) (fun c_6 => ?_) (fun c_6 => ?_)
      · replace h := it_t h c_6
        refine lv_aload_n hx hb dX8_acts_80 rfl (lv_at hl 1 rfl) ?_
        refine lv_iload_n hx hb dX8_acts_81 rfl (lv_at hl 2 rfl) ?_
        refine lv_bipush (v := 6) hx hb dX8_acts_82 (by decide) ?_
        obtain ⟨r_7, er_7, h⟩ := bnd h
        refine r_ci X hS (r_runS (As := [.ref (ad a1), .int x2, .int 6]) (rest := []) C0 X hP L_X8_130 (fun sz => c_X8_get l D cA ad o σ a1 x2 6 ha1 r_7 er_7 sz) ⟨Nat.le_of_ble_eq_true rfl, Nat.le_of_ble_eq_true rfl⟩ rfl hl.1 rfl (Nat.le_of_ble_eq_true rfl) dX8_acts_84 ⟨Nat.zero_le _, Nat.zero_le _⟩) (fun r9 σ9 H locs hw hP hS => ?_)
        rw [hw.2] at hP
        rw [hw.1]
        refine lv_if_le (tgt := 99) hx hb dX8_acts_87 (by decide) (fun c_8 => ?_) (fun c_8 => ?_)
        · replace h := it_t h c_8
          refine lv_aload_n hx hb dX8_acts_99 rfl (lv_at hl 0 rfl) ?_
          refine lv_aload_n hx hb dX8_acts_100 rfl (lv_at hl 1 rfl) ?_
          refine lv_iload_n hx hb dX8_acts_101 rfl (lv_at hl 2 rfl) ?_
          obtain ⟨σ_9, eσ_9, h⟩ := bnd h
          refine r_cv X hS (r_runV (As := [.ref (ad a1), .int x2]) (rest := []) C0 X hP L_X8_206 (fun sz => c_X8_goesOn l D cA ad o σ a1 x2 ha1 σ_9 eσ_9 sz) (show 91 < 106 ∧ kd 91 = (8, 24) from ⟨by decide, rfl⟩).1 (show 91 < 106 ∧ kd 91 = (8, 24) from ⟨by decide, rfl⟩).2 (by decide) rfl ⟨Nat.le_of_ble_eq_true rfl, Nat.le_of_ble_eq_true rfl⟩ rfl hl.1 rfl (Nat.le_of_ble_eq_true rfl) dX8_acts_102 ⟨Nat.zero_le _, Nat.zero_le _⟩) (fun σ9 H locs hw hP hS => ?_)
          rw [show σ9 = σ_9 from hw] at hP
          exact r_vret C0 X hP hS hr hlk dX8_acts_105 (Option.some.inj h)
        · replace h := it_f h c_8
          refine lv_aload_n hx hb dX8_acts_90 rfl (lv_at hl 0 rfl) ?_
          refine lv_aload_n hx hb dX8_acts_91 rfl (lv_at hl 1 rfl) ?_
          refine lv_iload_n hx hb dX8_acts_92 rfl (lv_at hl 2 rfl) ?_
          obtain ⟨σ_10, eσ_10, h⟩ := bnd h
          refine r_cv X hS (r_runV (As := [.ref (ad a1), .int x2]) (rest := []) C0 X hP L_X8_203 (fun sz => c_X8_goesBack l D cA ad o σ a1 x2 ha1 σ_10 eσ_10 sz) (show 91 < 106 ∧ kd 91 = (8, 24) from ⟨by decide, rfl⟩).1 (show 91 < 106 ∧ kd 91 = (8, 24) from ⟨by decide, rfl⟩).2 (by decide) rfl ⟨Nat.le_of_ble_eq_true rfl, Nat.le_of_ble_eq_true rfl⟩ rfl hl.1 rfl (Nat.le_of_ble_eq_true rfl) dX8_acts_93 ⟨Nat.zero_le _, Nat.zero_le _⟩) (fun σ9 H locs hw hP hS => ?_)
          rw [show σ9 = σ_10 from hw] at hP
          refine lv_goto (tgt := 105) hx hb dX8_acts_96 (by decide) ?_
          exact r_vret C0 X hP hS hr hlk dX8_acts_105 (Option.some.inj h)
      · replace h := it_f h c_6
        refine lv_aload_n hx hb dX8_acts_61 rfl (lv_at hl 1 rfl) ?_
        refine lv_iload_n hx hb dX8_acts_62 rfl (lv_at hl 2 rfl) ?_
        refine lv_bipush (v := 7) hx hb dX8_acts_63 (by decide) ?_
        refine lv_aload_n hx hb dX8_acts_65 rfl (lv_at hl 1 rfl) ?_
        refine lv_iload_n hx hb dX8_acts_66 rfl (lv_at hl 2 rfl) ?_
        refine lv_bipush (v := 7) hx hb dX8_acts_67 (by decide) ?_
        obtain ⟨r_11, er_11, h⟩ := bnd h
        refine r_ci X hS (r_runS (As := [.ref (ad a1), .int x2, .int 7]) (rest := [.int 7, .int x2, .ref (ad a1)]) C0 X hP L_X8_130 (fun sz => c_X8_get l D cA ad o σ a1 x2 7 ha1 r_11 er_11 sz) ⟨Nat.le_of_ble_eq_true rfl, Nat.le_of_ble_eq_true rfl⟩ rfl hl.1 rfl (Nat.le_of_ble_eq_true rfl) dX8_acts_69 ⟨Nat.zero_le _, Nat.zero_le _⟩) (fun r9 σ9 H locs hw hP hS => ?_)
        rw [hw.2] at hP
        rw [hw.1]
        refine lv_iconst (v := 1) hx hb dX8_acts_72 (by decide) ?_
        refine lv_isub hx hb dX8_acts_73 ?_
        obtain ⟨σ_12, eσ_12, h⟩ := bnd h
        refine r_cv X hS (r_runS (As := [.ref (ad a1), .int x2, .int 7, .int (r_11 - 1)]) (rest := []) C0 X hP L_X8_97 (fun sz => c_X8_puts l D cA ad o σ a1 x2 7 (r_11 - 1) ha1 σ_12 eσ_12 sz) ⟨Nat.le_of_ble_eq_true rfl, Nat.le_of_ble_eq_true rfl⟩ rfl hl.1 rfl (Nat.le_of_ble_eq_true rfl) dX8_acts_74 ⟨Nat.zero_le _, Nat.zero_le _⟩) (fun σ9 H locs hw hP hS => ?_)
        rw [show σ9 = σ_12 from hw] at hP
        refine lv_goto (tgt := 105) hx hb dX8_acts_77 (by decide) ?_
        exact r_vret C0 X hP hS hr hlk dX8_acts_105 (Option.some.inj h)
    · replace h := it_t h c_4
      exact r_vret C0 X hP hS hr hlk dX8_acts_50 (Option.some.inj h)
  · replace h := it_t h c_2
    refine lv_aload_n hx hb dX8_acts_11 rfl (lv_at hl 1 rfl) ?_
    refine lv_iload_n hx hb dX8_acts_12 rfl (lv_at hl 2 rfl) ?_
    refine lv_iconst (v := 1) hx hb dX8_acts_13 (by decide) ?_
    obtain ⟨r_13, er_13, h⟩ := bnd h
    refine r_ci X hS (r_runS (As := [.ref (ad a1), .int x2, .int 1]) (rest := []) C0 X hP L_X8_130 (fun sz => c_X8_get l D cA ad o σ a1 x2 1 ha1 r_13 er_13 sz) ⟨Nat.le_of_ble_eq_true rfl, Nat.le_of_ble_eq_true rfl⟩ rfl hl.1 rfl (Nat.le_of_ble_eq_true rfl) dX8_acts_14 ⟨Nat.zero_le _, Nat.zero_le _⟩) (fun r9 σ9 H locs hw hP hS => ?_)
    rw [hw.2] at hP
    rw [hw.1]
    refine lv_aload_n hx hb dX8_acts_17 rfl (lv_at hl 1 rfl) ?_
    refine lv_iload_n hx hb dX8_acts_18 rfl (lv_at hl 2 rfl) ?_
    refine lv_bipush (v := 10) hx hb dX8_acts_19 (by decide) ?_
    obtain ⟨r_14, er_14, h⟩ := bnd h
    refine r_ci X hS (r_runS (As := [.ref (ad a1), .int x2, .int 10]) (rest := [.int r_13]) C0 X hP L_X8_130 (fun sz => c_X8_get l D cA ad o σ a1 x2 10 ha1 r_14 er_14 sz) ⟨Nat.le_of_ble_eq_true rfl, Nat.le_of_ble_eq_true rfl⟩ rfl hl.1 rfl (Nat.le_of_ble_eq_true rfl) dX8_acts_21 ⟨Nat.zero_le _, Nat.zero_le _⟩) (fun r9 σ9 H locs hw hP hS => ?_)
    rw [hw.2] at hP
    rw [hw.1]
    refine lv_iadd hx hb dX8_acts_24 ?_
    refine lv_aload_n hx hb dX8_acts_25 rfl (lv_at hl 1 rfl) ?_
    refine lv_iconst (v := 2) hx hb dX8_acts_26 (by decide) ?_
    refine r_ialdN C0 X hP a1 (k := 2) ha1 rfl (by decide) dX8_acts_27 ?_
    refine lv_icmp_gt (tgt := 42) hx hb dX8_acts_28 (by decide) (fun c_15 => ?_) (fun c_15 => ?_)
    · replace h := it_t h c_15
      refine lv_aload_n hx hb dX8_acts_42 rfl (lv_at hl 1 rfl) ?_
      refine lv_iload_n hx hb dX8_acts_43 rfl (lv_at hl 2 rfl) ?_
      obtain ⟨r_16, er_16, h⟩ := bnd h
      refine r_ci X hS (r_runS (As := [.ref (ad a1), .int x2]) (rest := []) C0 X hP L_X8_157 (fun sz => c_X8_isOn l D cA ad o σ a1 x2 ha1 r_16 er_16 sz) ⟨Nat.le_of_ble_eq_true rfl, Nat.le_of_ble_eq_true rfl⟩ rfl hl.1 rfl (Nat.le_of_ble_eq_true rfl) dX8_acts_44 ⟨Nat.zero_le _, Nat.zero_le _⟩) (fun r9 σ9 H locs hw hP hS => ?_)
      rw [hw.2] at hP
      rw [hw.1]
      refine lv_if_ne (tgt := 51) hx hb dX8_acts_47 (by decide) (fun c_17 => ?_) (fun c_17 => ?_)
      · replace h := it_f h c_17
        refine lv_aload_n hx hb dX8_acts_51 rfl (lv_at hl 1 rfl) ?_
        refine lv_iload_n hx hb dX8_acts_52 rfl (lv_at hl 2 rfl) ?_
        refine lv_bipush (v := 7) hx hb dX8_acts_53 (by decide) ?_
        obtain ⟨r_18, er_18, h⟩ := bnd h
        refine r_ci X hS (r_runS (As := [.ref (ad a1), .int x2, .int 7]) (rest := []) C0 X hP L_X8_130 (fun sz => c_X8_get l D cA ad o σ a1 x2 7 ha1 r_18 er_18 sz) ⟨Nat.le_of_ble_eq_true rfl, Nat.le_of_ble_eq_true rfl⟩ rfl hl.1 rfl (Nat.le_of_ble_eq_true rfl) dX8_acts_55 ⟨Nat.zero_le _, Nat.zero_le _⟩) (fun r9 σ9 H locs hw hP hS => ?_)
        rw [hw.2] at hP
        rw [hw.1]
        refine lv_if_le (tgt := 80) hx hb dX8_acts_58 (by decide) (fun c_19 => ?_) (fun c_19 => ?_)
        · replace h := it_t h c_19
          refine lv_aload_n hx hb dX8_acts_80 rfl (lv_at hl 1 rfl) ?_
          refine lv_iload_n hx hb dX8_acts_81 rfl (lv_at hl 2 rfl) ?_
          refine lv_bipush (v := 6) hx hb dX8_acts_82 (by decide) ?_
          obtain ⟨r_20, er_20, h⟩ := bnd h
          refine r_ci X hS (r_runS (As := [.ref (ad a1), .int x2, .int 6]) (rest := []) C0 X hP L_X8_130 (fun sz => c_X8_get l D cA ad o σ a1 x2 6 ha1 r_20 er_20 sz) ⟨Nat.le_of_ble_eq_true rfl, Nat.le_of_ble_eq_true rfl⟩ rfl hl.1 rfl (Nat.le_of_ble_eq_true rfl) dX8_acts_84 ⟨Nat.zero_le _, Nat.zero_le _⟩) (fun r9 σ9 H locs hw hP hS => ?_)
          rw [hw.2] at hP
          rw [hw.1]
          refine lv_if_le (tgt := 99) hx hb dX8_acts_87 (by decide) (fun c_21 => ?_) (fun c_21 => ?_)
          · replace h := it_t h c_21
            refine lv_aload_n hx hb dX8_acts_99 rfl (lv_at hl 0 rfl) ?_
            refine lv_aload_n hx hb dX8_acts_100 rfl (lv_at hl 1 rfl) ?_
            refine lv_iload_n hx hb dX8_acts_101 rfl (lv_at hl 2 rfl) ?_
            obtain ⟨σ_22, eσ_22, h⟩ := bnd h
            refine r_cv X hS (r_runV (As := [.ref (ad a1), .int x2]) (rest := []) C0 X hP L_X8_206 (fun sz => c_X8_goesOn l D cA ad o σ a1 x2 ha1 σ_22 eσ_22 sz) (show 91 < 106 ∧ kd 91 = (8, 24) from ⟨by decide, rfl⟩).1 (show 91 < 106 ∧ kd 91 = (8, 24) from ⟨by decide, rfl⟩).2 (by decide) rfl ⟨Nat.le_of_ble_eq_true rfl, Nat.le_of_ble_eq_true rfl⟩ rfl hl.1 rfl (Nat.le_of_ble_eq_true rfl) dX8_acts_102 ⟨Nat.zero_le _, Nat.zero_le _⟩) (fun σ9 H locs hw hP hS => ?_)
            rw [show σ9 = σ_22 from hw] at hP
            exact r_vret C0 X hP hS hr hlk dX8_acts_105 (Option.some.inj h)
          · replace h := it_f h c_21
            refine lv_aload_n hx hb dX8_acts_90 rfl (lv_at hl 0 rfl) ?_
            refine lv_aload_n hx hb dX8_acts_91 rfl (lv_at hl 1 rfl) ?_
            refine lv_iload_n hx hb dX8_acts_92 rfl (lv_at hl 2 rfl) ?_
            obtain ⟨σ_23, eσ_23, h⟩ := bnd h
            refine r_cv X hS (r_runV (As := [.ref (ad a1), .int x2]) (rest := []) C0 X hP L_X8_203 (fun sz => c_X8_goesBack l D cA ad o σ a1 x2 ha1 σ_23 eσ_23 sz) (show 91 < 106 ∧ kd 91 = (8, 24) from ⟨by decide, rfl⟩).1 (show 91 < 106 ∧ kd 91 = (8, 24) from ⟨by decide, rfl⟩).2 (by decide) rfl ⟨Nat.le_of_ble_eq_true rfl, Nat.le_of_ble_eq_true rfl⟩ rfl hl.1 rfl (Nat.le_of_ble_eq_true rfl) dX8_acts_93 ⟨Nat.zero_le _, Nat.zero_le _⟩) (fun σ9 H locs hw hP hS => ?_)
            rw [show σ9 = σ_23 from hw] at hP
            refine lv_goto (tgt := 105) hx hb dX8_acts_96 (by decide) ?_
            exact r_vret C0 X hP hS hr hlk dX8_acts_105 (Option.some.inj h)
        · replace h := it_f h c_19
          refine lv_aload_n hx hb dX8_acts_61 rfl (lv_at hl 1 rfl) ?_
          refine lv_iload_n hx hb dX8_acts_62 rfl (lv_at hl 2 rfl) ?_
          refine lv_bipush (v := 7) hx hb dX8_acts_63 (by decide) ?_
          refine lv_aload_n hx hb dX8_acts_65 rfl (lv_at hl 1 rfl) ?_
          refine lv_iload_n hx hb dX8_acts_66 rfl (lv_at hl 2 rfl) ?_
          refine lv_bipush (v := 7) hx hb dX8_acts_67 (by decide) ?_
          obtain ⟨r_24, er_24, h⟩ := bnd h
          refine r_ci X hS (r_runS (As := [.ref (ad a1), .int x2, .int 7]) (rest := [.int 7, .int x2, .ref (ad a1)]) C0 X hP L_X8_130 (fun sz => c_X8_get l D cA ad o σ a1 x2 7 ha1 r_24 er_24 sz) ⟨Nat.le_of_ble_eq_true rfl, Nat.le_of_ble_eq_true rfl⟩ rfl hl.1 rfl (Nat.le_of_ble_eq_true rfl) dX8_acts_69 ⟨Nat.zero_le _, Nat.zero_le _⟩) (fun r9 σ9 H locs hw hP hS => ?_)
          rw [hw.2] at hP
          rw [hw.1]
          refine lv_iconst (v := 1) hx hb dX8_acts_72 (by decide) ?_
          refine lv_isub hx hb dX8_acts_73 ?_
          obtain ⟨σ_25, eσ_25, h⟩ := bnd h
          refine r_cv X hS (r_runS (As := [.ref (ad a1), .int x2, .int 7, .int (r_24 - 1)]) (rest := []) C0 X hP L_X8_97 (fun sz => c_X8_puts l D cA ad o σ a1 x2 7 (r_24 - 1) ha1 σ_25 eσ_25 sz) ⟨Nat.le_of_ble_eq_true rfl, Nat.le_of_ble_eq_true rfl⟩ rfl hl.1 rfl (Nat.le_of_ble_eq_true rfl) dX8_acts_74 ⟨Nat.zero_le _, Nat.zero_le _⟩) (fun σ9 H locs hw hP hS => ?_)
          rw [show σ9 = σ_25 from hw] at hP
          refine lv_goto (tgt := 105) hx hb dX8_acts_77 (by decide) ?_
          exact r_vret C0 X hP hS hr hlk dX8_acts_105 (Option.some.inj h)
      · replace h := it_t h c_17
        exact r_vret C0 X hP hS hr hlk dX8_acts_50 (Option.some.inj h)
    · replace h := it_f h c_15
      refine lv_aload_n hx hb dX8_acts_31 rfl (lv_at hl 1 rfl) ?_
      refine lv_iload_n hx hb dX8_acts_32 rfl (lv_at hl 2 rfl) ?_
      refine lv_iconst (v := 5) hx hb dX8_acts_33 (by decide) ?_
      refine lv_aload_n hx hb dX8_acts_34 rfl (lv_at hl 1 rfl) ?_
      refine lv_iload_n hx hb dX8_acts_35 rfl (lv_at hl 2 rfl) ?_
      obtain ⟨r_26, er_26, h⟩ := bnd h
      refine r_ci X hS (r_runS (As := [.ref (ad a1), .int x2]) (rest := [.int 5, .int x2, .ref (ad a1)]) C0 X hP L_X8_154 (fun sz => c_X8_origin l D cA ad o σ a1 x2 ha1 r_26 er_26 sz) ⟨Nat.le_of_ble_eq_true rfl, Nat.le_of_ble_eq_true rfl⟩ rfl hl.1 rfl (Nat.le_of_ble_eq_true rfl) dX8_acts_36 ⟨Nat.zero_le _, Nat.zero_le _⟩) (fun r9 σ9 H locs hw hP hS => ?_)
      rw [hw.2] at hP
      rw [hw.1]
      obtain ⟨σ_27, eσ_27, h⟩ := bnd h
      refine r_cv X hS (r_runS (As := [.ref (ad a1), .int x2, .int 5, .int r_26]) (rest := []) C0 X hP L_X8_97 (fun sz => c_X8_puts l D cA ad o σ a1 x2 5 r_26 ha1 σ_27 eσ_27 sz) ⟨Nat.le_of_ble_eq_true rfl, Nat.le_of_ble_eq_true rfl⟩ rfl hl.1 rfl (Nat.le_of_ble_eq_true rfl) dX8_acts_39 ⟨Nat.zero_le _, Nat.zero_le _⟩) (fun σ9 H locs hw hP hS => ?_)
      rw [show σ9 = σ_27 from hw] at hP
      refine lv_aload_n hx hb dX8_acts_42 rfl (lv_at hl 1 rfl) ?_
      refine lv_iload_n hx hb dX8_acts_43 rfl (lv_at hl 2 rfl) ?_
      obtain ⟨r_28, er_28, h⟩ := bnd h
      refine r_ci X hS (r_runS (As := [.ref (ad a1), .int x2]) (rest := []) C0 X hP L_X8_157 (fun sz => c_X8_isOn l D cA ad o σ_27 a1 x2 ha1 r_28 er_28 sz) ⟨Nat.le_of_ble_eq_true rfl, Nat.le_of_ble_eq_true rfl⟩ rfl hl.1 rfl (Nat.le_of_ble_eq_true rfl) dX8_acts_44 ⟨Nat.zero_le _, Nat.zero_le _⟩) (fun r9 σ9 H locs hw hP hS => ?_)
      rw [hw.2] at hP
      rw [hw.1]
      refine lv_if_ne (tgt := 51) hx hb dX8_acts_47 (by decide) (fun c_29 => ?_) (fun c_29 => ?_)
      · replace h := it_f h c_29
        refine lv_aload_n hx hb dX8_acts_51 rfl (lv_at hl 1 rfl) ?_
        refine lv_iload_n hx hb dX8_acts_52 rfl (lv_at hl 2 rfl) ?_
        refine lv_bipush (v := 7) hx hb dX8_acts_53 (by decide) ?_
        obtain ⟨r_30, er_30, h⟩ := bnd h
        refine r_ci X hS (r_runS (As := [.ref (ad a1), .int x2, .int 7]) (rest := []) C0 X hP L_X8_130 (fun sz => c_X8_get l D cA ad o σ_27 a1 x2 7 ha1 r_30 er_30 sz) ⟨Nat.le_of_ble_eq_true rfl, Nat.le_of_ble_eq_true rfl⟩ rfl hl.1 rfl (Nat.le_of_ble_eq_true rfl) dX8_acts_55 ⟨Nat.zero_le _, Nat.zero_le _⟩) (fun r9 σ9 H locs hw hP hS => ?_)
        rw [hw.2] at hP
        rw [hw.1]
        refine lv_if_le (tgt := 80) hx hb dX8_acts_58 (by decide) (fun c_31 => ?_) (fun c_31 => ?_)
        · replace h := it_t h c_31
          refine lv_aload_n hx hb dX8_acts_80 rfl (lv_at hl 1 rfl) ?_
          refine lv_iload_n hx hb dX8_acts_81 rfl (lv_at hl 2 rfl) ?_
          refine lv_bipush (v := 6) hx hb dX8_acts_82 (by decide) ?_
          obtain ⟨r_32, er_32, h⟩ := bnd h
          refine r_ci X hS (r_runS (As := [.ref (ad a1), .int x2, .int 6]) (rest := []) C0 X hP L_X8_130 (fun sz => c_X8_get l D cA ad o σ_27 a1 x2 6 ha1 r_32 er_32 sz) ⟨Nat.le_of_ble_eq_true rfl, Nat.le_of_ble_eq_true rfl⟩ rfl hl.1 rfl (Nat.le_of_ble_eq_true rfl) dX8_acts_84 ⟨Nat.zero_le _, Nat.zero_le _⟩) (fun r9 σ9 H locs hw hP hS => ?_)
          rw [hw.2] at hP
          rw [hw.1]
          refine lv_if_le (tgt := 99) hx hb dX8_acts_87 (by decide) (fun c_33 => ?_) (fun c_33 => ?_)
          · replace h := it_t h c_33
            refine lv_aload_n hx hb dX8_acts_99 rfl (lv_at hl 0 rfl) ?_
            refine lv_aload_n hx hb dX8_acts_100 rfl (lv_at hl 1 rfl) ?_
            refine lv_iload_n hx hb dX8_acts_101 rfl (lv_at hl 2 rfl) ?_
            obtain ⟨σ_34, eσ_34, h⟩ := bnd h
            refine r_cv X hS (r_runV (As := [.ref (ad a1), .int x2]) (rest := []) C0 X hP L_X8_206 (fun sz => c_X8_goesOn l D cA ad o σ_27 a1 x2 ha1 σ_34 eσ_34 sz) (show 91 < 106 ∧ kd 91 = (8, 24) from ⟨by decide, rfl⟩).1 (show 91 < 106 ∧ kd 91 = (8, 24) from ⟨by decide, rfl⟩).2 (by decide) rfl ⟨Nat.le_of_ble_eq_true rfl, Nat.le_of_ble_eq_true rfl⟩ rfl hl.1 rfl (Nat.le_of_ble_eq_true rfl) dX8_acts_102 ⟨Nat.zero_le _, Nat.zero_le _⟩) (fun σ9 H locs hw hP hS => ?_)
            rw [show σ9 = σ_34 from hw] at hP
            exact r_vret C0 X hP hS hr hlk dX8_acts_105 (Option.some.inj h)
          · replace h := it_f h c_33
            refine lv_aload_n hx hb dX8_acts_90 rfl (lv_at hl 0 rfl) ?_
            refine lv_aload_n hx hb dX8_acts_91 rfl (lv_at hl 1 rfl) ?_
            refine lv_iload_n hx hb dX8_acts_92 rfl (lv_at hl 2 rfl) ?_
            obtain ⟨σ_35, eσ_35, h⟩ := bnd h
            refine r_cv X hS (r_runV (As := [.ref (ad a1), .int x2]) (rest := []) C0 X hP L_X8_203 (fun sz => c_X8_goesBack l D cA ad o σ_27 a1 x2 ha1 σ_35 eσ_35 sz) (show 91 < 106 ∧ kd 91 = (8, 24) from ⟨by decide, rfl⟩).1 (show 91 < 106 ∧ kd 91 = (8, 24) from ⟨by decide, rfl⟩).2 (by decide) rfl ⟨Nat.le_of_ble_eq_true rfl, Nat.le_of_ble_eq_true rfl⟩ rfl hl.1 rfl (Nat.le_of_ble_eq_true rfl) dX8_acts_93 ⟨Nat.zero_le _, Nat.zero_le _⟩) (fun σ9 H locs hw hP hS => ?_)
            rw [show σ9 = σ_35 from hw] at hP
            refine lv_goto (tgt := 105) hx hb dX8_acts_96 (by decide) ?_
            exact r_vret C0 X hP hS hr hlk dX8_acts_105 (Option.some.inj h)
        · replace h := it_f h c_31
          refine lv_aload_n hx hb dX8_acts_61 rfl (lv_at hl 1 rfl) ?_
          refine lv_iload_n hx hb dX8_acts_62 rfl (lv_at hl 2 rfl) ?_
          refine lv_bipush (v := 7) hx hb dX8_acts_63 (by decide) ?_
          refine lv_aload_n hx hb dX8_acts_65 rfl (lv_at hl 1 rfl) ?_
          refine lv_iload_n hx hb dX8_acts_66 rfl (lv_at hl 2 rfl) ?_
          refine lv_bipush (v := 7) hx hb dX8_acts_67 (by decide) ?_
          obtain ⟨r_36, er_36, h⟩ := bnd h
          refine r_ci X hS (r_runS (As := [.ref (ad a1), .int x2, .int 7]) (rest := [.int 7, .int x2, .ref (ad a1)]) C0 X hP L_X8_130 (fun sz => c_X8_get l D cA ad o σ_27 a1 x2 7 ha1 r_36 er_36 sz) ⟨Nat.le_of_ble_eq_true rfl, Nat.le_of_ble_eq_true rfl⟩ rfl hl.1 rfl (Nat.le_of_ble_eq_true rfl) dX8_acts_69 ⟨Nat.zero_le _, Nat.zero_le _⟩) (fun r9 σ9 H locs hw hP hS => ?_)
          rw [hw.2] at hP
          rw [hw.1]
          refine lv_iconst (v := 1) hx hb dX8_acts_72 (by decide) ?_
          refine lv_isub hx hb dX8_acts_73 ?_
          obtain ⟨σ_37, eσ_37, h⟩ := bnd h
          refine r_cv X hS (r_runS (As := [.ref (ad a1), .int x2, .int 7, .int (r_36 - 1)]) (rest := []) C0 X hP L_X8_97 (fun sz => c_X8_puts l D cA ad o σ_27 a1 x2 7 (r_36 - 1) ha1 σ_37 eσ_37 sz) ⟨Nat.le_of_ble_eq_true rfl, Nat.le_of_ble_eq_true rfl⟩ rfl hl.1 rfl (Nat.le_of_ble_eq_true rfl) dX8_acts_74 ⟨Nat.zero_le _, Nat.zero_le _⟩) (fun σ9 H locs hw hP hS => ?_)
          rw [show σ9 = σ_37 from hw] at hP
          refine lv_goto (tgt := 105) hx hb dX8_acts_77 (by decide) ?_
          exact r_vret C0 X hP hS hr hlk dX8_acts_105 (Option.some.inj h)
      · replace h := it_t h c_29
        exact r_vret C0 X hP hS hr hlk dX8_acts_50 (Option.some.inj h)
def bB_cX8_minute : Nat := 0xb14f60042e5c052b4f60042e062b0800a703070099b100b42a062bf0ffa7010284d100b61c2b2a0f00a22e042b1c3d03b100b5032a
theorem yB_cX8_minute : BYS cX8_minute 53 bB_cX8_minute := BYS_of (by decide +kernel)
theorem dX8_minute_0 : decode cX8_minute 0 = .ok (.aload_n 0, 1) := D_42 yB_cX8_minute rfl rfl
theorem dX8_minute_1 : decode cX8_minute 1 = .ok (.iconst 0, 1) := D_3 yB_cX8_minute rfl rfl
theorem dX8_minute_2 : decode cX8_minute 2 = .ok (.putfield 177, 3) := D_181 yB_cX8_minute rfl rfl rfl
theorem dX8_minute_5 : decode cX8_minute 5 = .ok (.iconst 0, 1) := D_3 yB_cX8_minute rfl rfl
theorem dX8_minute_6 : decode cX8_minute 6 = .ok (.istore_n 2, 1) := D_61 yB_cX8_minute rfl rfl
theorem dX8_minute_7 : decode cX8_minute 7 = .ok (.iload_n 2, 1) := D_28 yB_cX8_minute rfl rfl
theorem dX8_minute_8 : decode cX8_minute 8 = .ok (.aload_n 1, 1) := D_43 yB_cX8_minute rfl rfl
theorem dX8_minute_9 : decode cX8_minute 9 = .ok (.iconst 1, 1) := D_4 yB_cX8_minute rfl rfl
theorem dX8_minute_10 : decode cX8_minute 10 = .ok (.iaload, 1) := D_46 yB_cX8_minute rfl rfl
theorem dX8_minute_11 : decode cX8_minute 11 = .ok (.if_icmp .ge 15, 3) := D_162 yB_cX8_minute rfl rfl (sg_p (m := 32768) (N := 15) rfl rfl rfl)
theorem dX8_minute_14 : decode cX8_minute 14 = .ok (.aload_n 0, 1) := D_42 yB_cX8_minute rfl rfl
theorem dX8_minute_15 : decode cX8_minute 15 = .ok (.aload_n 1, 1) := D_43 yB_cX8_minute rfl rfl
theorem dX8_minute_16 : decode cX8_minute 16 = .ok (.iload_n 2, 1) := D_28 yB_cX8_minute rfl rfl
theorem dX8_minute_17 : decode cX8_minute 17 = .ok (.invokevirtual 209, 3) := D_182 yB_cX8_minute rfl rfl rfl
theorem dX8_minute_20 : decode cX8_minute 20 = .ok (.iinc 2 1, 3) := D_132 yB_cX8_minute rfl rfl rfl (sg_p (m := 128) (N := 1) rfl rfl rfl)
theorem dX8_minute_23 : decode cX8_minute 23 = .ok (.goto (-16), 3) := D_167 yB_cX8_minute rfl rfl (sg_n (m := 32768) (N := 16) rfl rfl rfl)
theorem dX8_minute_26 : decode cX8_minute 26 = .ok (.aload_n 1, 1) := D_43 yB_cX8_minute rfl rfl
theorem dX8_minute_27 : decode cX8_minute 27 = .ok (.iconst 3, 1) := D_6 yB_cX8_minute rfl rfl
theorem dX8_minute_28 : decode cX8_minute 28 = .ok (.aload_n 0, 1) := D_42 yB_cX8_minute rfl rfl
theorem dX8_minute_29 : decode cX8_minute 29 = .ok (.getfield 177, 3) := D_180 yB_cX8_minute rfl rfl rfl
theorem dX8_minute_32 : decode cX8_minute 32 = .ok (.ifCond .eq 7, 3) := D_153 yB_cX8_minute rfl rfl (sg_p (m := 32768) (N := 7) rfl rfl rfl)
theorem dX8_minute_35 : decode cX8_minute 35 = .ok (.iconst 0, 1) := D_3 yB_cX8_minute rfl rfl
theorem dX8_minute_36 : decode cX8_minute 36 = .ok (.goto 8, 3) := D_167 yB_cX8_minute rfl rfl (sg_p (m := 32768) (N := 8) rfl rfl rfl)
theorem dX8_minute_39 : decode cX8_minute 39 = .ok (.aload_n 1, 1) := D_43 yB_cX8_minute rfl rfl
theorem dX8_minute_40 : decode cX8_minute 40 = .ok (.iconst 3, 1) := D_6 yB_cX8_minute rfl rfl
theorem dX8_minute_41 : decode cX8_minute 41 = .ok (.iaload, 1) := D_46 yB_cX8_minute rfl rfl
theorem dX8_minute_42 : decode cX8_minute 42 = .ok (.iconst 1, 1) := D_4 yB_cX8_minute rfl rfl
theorem dX8_minute_43 : decode cX8_minute 43 = .ok (.iadd, 1) := D_96 yB_cX8_minute rfl rfl
theorem dX8_minute_44 : decode cX8_minute 44 = .ok (.iastore, 1) := D_79 yB_cX8_minute rfl rfl
theorem dX8_minute_45 : decode cX8_minute 45 = .ok (.aload_n 1, 1) := D_43 yB_cX8_minute rfl rfl
theorem dX8_minute_46 : decode cX8_minute 46 = .ok (.iconst 2, 1) := D_5 yB_cX8_minute rfl rfl
theorem dX8_minute_47 : decode cX8_minute 47 = .ok (.dup2, 1) := D_92 yB_cX8_minute rfl rfl
theorem dX8_minute_48 : decode cX8_minute 48 = .ok (.iaload, 1) := D_46 yB_cX8_minute rfl rfl
theorem dX8_minute_49 : decode cX8_minute 49 = .ok (.iconst 1, 1) := D_4 yB_cX8_minute rfl rfl
theorem dX8_minute_50 : decode cX8_minute 50 = .ok (.iadd, 1) := D_96 yB_cX8_minute rfl rfl
theorem dX8_minute_51 : decode cX8_minute 51 = .ok (.iastore, 1) := D_79 yB_cX8_minute rfl rfl
theorem dX8_minute_52 : decode cX8_minute 52 = .ok (.return_, 1) := D_177 yB_cX8_minute rfl rfl
def F_X8_minute_7 (a1 : Nat)  : Nat → Mem → Int32 → Option (Mem)
  | 0, _, _ => none
  | nn + 1, σ, v2 => if (σ a1 1) ≤ v2 then (if (σ 91 20) = 0 then (some (stm (stm σ a1 3 ((σ a1 3) + 1)) a1 2 (((stm σ a1 3 ((σ a1 3) + 1)) a1 2) + 1))) else (some (stm (stm σ a1 3 0) a1 2 (((stm σ a1 3 0) a1 2) + 1)))) else ((F_X8_acts σ a1 v2).bind fun σ_4 => F_X8_minute_7 a1 nn σ_4 (v2 + 1))
def F_X8_minute (σ : Mem) (a1 : Nat) : Option (Mem) := F_X8_minute_7 a1 FU (stm σ 91 20 0) 0
set_option maxHeartbeats 4000000 in
set_option maxRecDepth 100000 in
theorem c_X8_minute (l : Launch) (D : va_G) (cA : Nat → ClassId) (ad : Nat → Nat) (o : Int64) (σ : Mem) (a1 : Nat) (ha1 : a1 < 106 ∧ kd a1 = (9, 121)) (res : Mem) (h : F_X8_minute σ a1 = some res) (sz : Nat) : Met l yX8_minute (WY yX8_minute cX8_minute 3 none) (RM 7) (va_Pc [.ref (ad 91), .ref (ad a1)] (PW D cA ad o σ sz)) (va_Qv (fun σ9 => σ9 = res) (QW D cA ad o) (FA ad sz)) 0 0 (FA ad sz) := by
  refine ct_of (own := RX8) (k := 7) (Qf := va_Qv (fun σ9 => σ9 = res) (QW D cA ad o)) rfl (by decide) (Nat.le_of_ble_eq_true rfl) (fun p e s m below meth c ls C0 X hr hlk hP hl => ?_) sz
  have hS : va_S (FA ad s.heap.size) s.heap s.heap [] := va_S.rf
  have hl : lv_has ls 3 [(0, .ref (ad 91)), (1, .ref (ad a1))] := hl
  obtain ⟨hx, hb, hml, hown, hts⟩ := id C0
  unfold F_X8_minute at h
  refine lv_aload_n hx hb dX8_minute_0 rfl (lv_at hl 0 rfl) ?_
  refine lv_iconst (v := 0) hx hb dX8_minute_1 (by decide) ?_
  refine pf_X8_177 C0 X hP hS 91 (Or.inl rfl) ⟨by decide, rfl⟩ dX8_minute_2 (fun H locs hP hS => ?_)
  refine lv_iconst (v := 0) hx hb dX8_minute_5 (by decide) ?_
  refine lv_istore_n (lv' := [(2, .int 0), (0, .ref (ad 91)), (1, .ref (ad a1))]) hx hb dX8_minute_6 rfl hl (by decide) rfl (fun ls hl => ?_)
  have lp_1 : ∀ (nn7 : Nat) (σ : Mem) (v2 : Int32) (H : Heap) (locs : List Loc) (ls : Array Slot), F_X8_minute_7 a1 nn7 σ v2 = some res → WP D cA ad o σ H → va_S (FA ad s.heap.size) s.heap H locs → lv_has ls 3 [(2, .int v2), (0, .ref (ad 91)), (1, .ref (ad a1))] → W p l e (RM 7) s m ([.ref (ad 91), .ref (ad a1)] : List Value).toArray below meth c H locs 0 0 (MQ below (va_Qv (fun σ9 => σ9 = res) (QW D cA ad o) (FA ad s.heap.size)) ([.ref (ad 91), .ref (ad a1)] : List Value).toArray s 0 0 (FA ad s.heap.size)) (F0 m 7 ls []) := by
    intro nn7
    induction nn7 with
    | zero => intro σ v2 H locs ls h hP hS hl; exact absurd (show none = some res from h) nofun
    | succ nn7 ih7 =>
      intro σ v2 H locs ls h hP hS hl
      replace h := (F_X8_minute_7.eq_2 _ _ _ _).symm.trans h
      refine lv_iload_n hx hb dX8_minute_7 rfl (lv_at hl 0 rfl) ?_
      refine lv_aload_n hx hb dX8_minute_8 rfl (lv_at hl 2 rfl) ?_
      refine lv_iconst (v := 1) hx hb dX8_minute_9 (by decide) ?_
      refine r_ialdN C0 X hP a1 (k := 1) ha1 rfl (by decide) dX8_minute_10 ?_
      refine lv_icmp_ge (tgt := 26) hx hb dX8_minute_11 (by decide) (fun c_2 => ?_) (fun c_2 => ?_)
      · replace h := it_t h c_2
        refine lv_aload_n hx hb dX8_minute_26 rfl (lv_at hl 2 rfl) ?_
        refine lv_iconst (v := 3) hx hb dX8_minute_27 (by decide) ?_
        refine lv_aload_n hx hb dX8_minute_28 rfl (lv_at hl 1 rfl) ?_
        refine gf_X8_177 C0 X hP 91 ⟨by decide, rfl⟩ dX8_minute_29 ?_
        refine lv_if_eq (tgt := 39) hx hb dX8_minute_32 (by decide) (fun c_3 => ?_) (fun c_3 => ?_)
        · replace h := it_t h c_3
          refine lv_aload_n hx hb dX8_minute_39 rfl (lv_at hl 2 rfl) ?_
          refine lv_iconst (v := 3) hx hb dX8_minute_40 (by decide) ?_
          refine r_ialdN C0 X hP a1 (k := 3) ha1 rfl (by decide) dX8_minute_41 ?_
          refine lv_iconst (v := 1) hx hb dX8_minute_42 (by decide) ?_
          refine lv_iadd hx hb dX8_minute_43 ?_
          refine r_iastN C0 X hP hS a1 (k := 3) ha1 rfl (by decide) dX8_minute_44 (fun H locs hP hS => ?_)
          refine lv_aload_n hx hb dX8_minute_45 rfl (lv_at hl 2 rfl) ?_
          refine lv_iconst (v := 2) hx hb dX8_minute_46 (by decide) ?_
          refine lv_dup2_11 hx hb dX8_minute_47 rfl rfl ?_
          refine r_ialdN C0 X hP a1 (k := 2) ha1 rfl (by decide) dX8_minute_48 ?_
          refine lv_iconst (v := 1) hx hb dX8_minute_49 (by decide) ?_
          refine lv_iadd hx hb dX8_minute_50 ?_
          refine r_iastN C0 X hP hS a1 (k := 2) ha1 rfl (by decide) dX8_minute_51 (fun H locs hP hS => ?_)
          exact r_vret C0 X hP hS hr hlk dX8_minute_52 (Option.some.inj h)
        · replace h := it_f h c_3
          refine lv_iconst (v := 0) hx hb dX8_minute_35 (by decide) ?_
          refine lv_goto (tgt := 44) hx hb dX8_minute_36 (by decide) ?_
          refine r_iastN C0 X hP hS a1 (k := 3) ha1 rfl (by decide) dX8_minute_44 (fun H locs hP hS => ?_)
          refine lv_aload_n hx hb dX8_minute_45 rfl (lv_at hl 2 rfl) ?_
          refine lv_iconst (v := 2) hx hb dX8_minute_46 (by decide) ?_
          refine lv_dup2_11 hx hb dX8_minute_47 rfl rfl ?_
          refine r_ialdN C0 X hP a1 (k := 2) ha1 rfl (by decide) dX8_minute_48 ?_
          refine lv_iconst (v := 1) hx hb dX8_minute_49 (by decide) ?_
          refine lv_iadd hx hb dX8_minute_50 ?_
          refine r_iastN C0 X hP hS a1 (k := 2) ha1 rfl (by decide) dX8_minute_51 (fun H locs hP hS => ?_)
          exact r_vret C0 X hP hS hr hlk dX8_minute_52 (Option.some.inj h)
      · replace h := it_f h c_2
        refine lv_aload_n hx hb dX8_minute_14 rfl (lv_at hl 1 rfl) ?_
        refine lv_aload_n hx hb dX8_minute_15 rfl (lv_at hl 2 rfl) ?_
        refine lv_iload_n hx hb dX8_minute_16 rfl (lv_at hl 0 rfl) ?_
        obtain ⟨σ_4, eσ_4, h⟩ := bnd h
        refine r_cv X hS (r_runV (As := [.ref (ad a1), .int v2]) (rest := []) C0 X hP L_X8_209 (fun sz => c_X8_acts l D cA ad o σ a1 v2 ha1 σ_4 eσ_4 sz) (show 91 < 106 ∧ kd 91 = (8, 24) from ⟨by decide, rfl⟩).1 (show 91 < 106 ∧ kd 91 = (8, 24) from ⟨by decide, rfl⟩).2 (by decide) rfl ⟨Nat.le_of_ble_eq_true rfl, Nat.le_of_ble_eq_true rfl⟩ rfl hl.1 rfl (Nat.le_of_ble_eq_true rfl) dX8_minute_17 ⟨Nat.zero_le _, Nat.zero_le _⟩) (fun σ9 H locs hw hP hS => ?_)
        rw [show σ9 = σ_4 from hw] at hP
        refine lv_iinc (v := (v2 + 1)) (lv' := [(2, .int (v2 + 1)), (0, .ref (ad 91)), (1, .ref (ad a1))]) hx hb dX8_minute_20 hl (k := 0) rfl rfl (by decide) rfl (fun ls hl => ?_)
        refine lv_goto (tgt := 7) hx hb dX8_minute_23 (by decide) ?_
        exact ih7 σ_4 (v2 + 1) _ _ ls  h hP hS (lv_sub hl [0, 1, 2] rfl)
  exact lp_1 FU (stm σ 91 20 0) 0 _ _ ls  h hP hS (lv_sub hl [0, 1, 2] rfl)
def bB_cX8_doneOf : Nat := 0xac1be3ffa70102843c60030400a7040700a0fd108200b8081c2a1b1c00a22e042a1c3d033c03
theorem yB_cX8_doneOf : BYS cX8_doneOf 38 bB_cX8_doneOf := BYS_of (by decide +kernel)
theorem dX8_doneOf_0 : decode cX8_doneOf 0 = .ok (.iconst 0, 1) := D_3 yB_cX8_doneOf rfl rfl
theorem dX8_doneOf_1 : decode cX8_doneOf 1 = .ok (.istore_n 1, 1) := D_60 yB_cX8_doneOf rfl rfl
theorem dX8_doneOf_2 : decode cX8_doneOf 2 = .ok (.iconst 0, 1) := D_3 yB_cX8_doneOf rfl rfl
theorem dX8_doneOf_3 : decode cX8_doneOf 3 = .ok (.istore_n 2, 1) := D_61 yB_cX8_doneOf rfl rfl
theorem dX8_doneOf_4 : decode cX8_doneOf 4 = .ok (.iload_n 2, 1) := D_28 yB_cX8_doneOf rfl rfl
theorem dX8_doneOf_5 : decode cX8_doneOf 5 = .ok (.aload_n 0, 1) := D_42 yB_cX8_doneOf rfl rfl
theorem dX8_doneOf_6 : decode cX8_doneOf 6 = .ok (.iconst 1, 1) := D_4 yB_cX8_doneOf rfl rfl
theorem dX8_doneOf_7 : decode cX8_doneOf 7 = .ok (.iaload, 1) := D_46 yB_cX8_doneOf rfl rfl
theorem dX8_doneOf_8 : decode cX8_doneOf 8 = .ok (.if_icmp .ge 28, 3) := D_162 yB_cX8_doneOf rfl rfl (sg_p (m := 32768) (N := 28) rfl rfl rfl)
theorem dX8_doneOf_11 : decode cX8_doneOf 11 = .ok (.iload_n 1, 1) := D_27 yB_cX8_doneOf rfl rfl
theorem dX8_doneOf_12 : decode cX8_doneOf 12 = .ok (.aload_n 0, 1) := D_42 yB_cX8_doneOf rfl rfl
theorem dX8_doneOf_13 : decode cX8_doneOf 13 = .ok (.iload_n 2, 1) := D_28 yB_cX8_doneOf rfl rfl
theorem dX8_doneOf_14 : decode cX8_doneOf 14 = .ok (.iconst 5, 1) := D_8 yB_cX8_doneOf rfl rfl
theorem dX8_doneOf_15 : decode cX8_doneOf 15 = .ok (.invokestatic 130, 3) := D_184 yB_cX8_doneOf rfl rfl rfl
theorem dX8_doneOf_18 : decode cX8_doneOf 18 = .ok (.bipush (-3), 2) := D_16 yB_cX8_doneOf rfl rfl (sg_n (m := 128) (N := 3) rfl rfl rfl)
theorem dX8_doneOf_20 : decode cX8_doneOf 20 = .ok (.if_icmp .ne 7, 3) := D_160 yB_cX8_doneOf rfl rfl (sg_p (m := 32768) (N := 7) rfl rfl rfl)
theorem dX8_doneOf_23 : decode cX8_doneOf 23 = .ok (.iconst 1, 1) := D_4 yB_cX8_doneOf rfl rfl
theorem dX8_doneOf_24 : decode cX8_doneOf 24 = .ok (.goto 4, 3) := D_167 yB_cX8_doneOf rfl rfl (sg_p (m := 32768) (N := 4) rfl rfl rfl)
theorem dX8_doneOf_27 : decode cX8_doneOf 27 = .ok (.iconst 0, 1) := D_3 yB_cX8_doneOf rfl rfl
theorem dX8_doneOf_28 : decode cX8_doneOf 28 = .ok (.iadd, 1) := D_96 yB_cX8_doneOf rfl rfl
theorem dX8_doneOf_29 : decode cX8_doneOf 29 = .ok (.istore_n 1, 1) := D_60 yB_cX8_doneOf rfl rfl
theorem dX8_doneOf_30 : decode cX8_doneOf 30 = .ok (.iinc 2 1, 3) := D_132 yB_cX8_doneOf rfl rfl rfl (sg_p (m := 128) (N := 1) rfl rfl rfl)
theorem dX8_doneOf_33 : decode cX8_doneOf 33 = .ok (.goto (-29), 3) := D_167 yB_cX8_doneOf rfl rfl (sg_n (m := 32768) (N := 29) rfl rfl rfl)
theorem dX8_doneOf_36 : decode cX8_doneOf 36 = .ok (.iload_n 1, 1) := D_27 yB_cX8_doneOf rfl rfl
theorem dX8_doneOf_37 : decode cX8_doneOf 37 = .ok (.ireturn, 1) := D_172 yB_cX8_doneOf rfl rfl
def F_X8_doneOf_4 (σ : Mem) (a1 : Nat)  : Nat → Int32 → Int32 → Option (Int32)
  | 0, _, _ => none
  | nn + 1, v2, v1 => if (σ a1 1) ≤ v2 then (some v1) else ((F_X8_get σ a1 v2 5).bind fun r_3 => if r_3 = (-3) then (F_X8_doneOf_4 σ a1 nn (v2 + 1) (v1 + 1)) else (F_X8_doneOf_4 σ a1 nn (v2 + 1) (v1 + 0)))
def F_X8_doneOf (σ : Mem) (a1 : Nat) : Option (Int32) := F_X8_doneOf_4 σ a1 FU 0 0
set_option maxHeartbeats 4000000 in
set_option maxRecDepth 100000 in
theorem c_X8_doneOf (l : Launch) (D : va_G) (cA : Nat → ClassId) (ad : Nat → Nat) (o : Int64) (σ : Mem) (a1 : Nat) (ha1 : a1 < 106 ∧ kd a1 = (9, 121)) (res : Int32) (h : F_X8_doneOf σ a1 = some res) (sz : Nat) : Met l yX8_doneOf (WY yX8_doneOf cX8_doneOf 3 (some .int)) (RM 1) (va_Pc [.ref (ad a1)] (PW D cA ad o σ sz)) (va_Qi (fun r σ9 => r = res ∧ σ9 = σ) (QW D cA ad o) (FA ad sz)) 0 0 (FA ad sz) := by
  refine ct_of (own := RX8) (k := 1) (Qf := va_Qi (fun r σ9 => r = res ∧ σ9 = σ) (QW D cA ad o)) rfl (by decide) (Nat.le_of_ble_eq_true rfl) (fun p e s m below meth c ls C0 X hr hlk hP hl => ?_) sz
  have hS : va_S (FA ad s.heap.size) s.heap s.heap [] := va_S.rf
  have hl : lv_has ls 3 [(0, .ref (ad a1))] := hl
  obtain ⟨hx, hb, hml, hown, hts⟩ := id C0
  unfold F_X8_doneOf at h
  refine lv_iconst (v := 0) hx hb dX8_doneOf_0 (by decide) ?_
  refine lv_istore_n (lv' := [(1, .int 0), (0, .ref (ad a1))]) hx hb dX8_doneOf_1 rfl hl (by decide) rfl (fun ls hl => ?_)
  refine lv_iconst (v := 0) hx hb dX8_doneOf_2 (by decide) ?_
  refine lv_istore_n (lv' := [(2, .int 0), (1, .int 0), (0, .ref (ad a1))]) hx hb dX8_doneOf_3 rfl hl (by decide) rfl (fun ls hl => ?_)
  have lp_1 : ∀ (nn4 : Nat) (v2 : Int32) (v1 : Int32) (H : Heap) (locs : List Loc) (ls : Array Slot), F_X8_doneOf_4 σ a1 nn4 v2 v1 = some res → WP D cA ad o σ H → va_S (FA ad s.heap.size) s.heap H locs → lv_has ls 3 [(2, .int v2), (1, .int v1), (0, .ref (ad a1))] → W p l e (RM 1) s m ([.ref (ad a1)] : List Value).toArray below meth c H locs 0 0 (MQ below (va_Qi (fun r σ9 => r = res ∧ σ9 = σ) (QW D cA ad o) (FA ad s.heap.size)) ([.ref (ad a1)] : List Value).toArray s 0 0 (FA ad s.heap.size)) (F0 m 4 ls []) := by
    intro nn4
    induction nn4 with
    | zero => intro v2 v1 H locs ls h hP hS hl; exact absurd (show none = some res from h) nofun
    | succ nn4 ih4 =>
      intro v2 v1 H locs ls h hP hS hl
      replace h := (F_X8_doneOf_4.eq_2 _ _ _ _ _).symm.trans h
      refine lv_iload_n hx hb dX8_doneOf_4 rfl (lv_at hl 0 rfl) ?_
      refine lv_aload_n hx hb dX8_doneOf_5 rfl (lv_at hl 2 rfl) ?_
      refine lv_iconst (v := 1) hx hb dX8_doneOf_6 (by decide) ?_
      refine r_ialdN C0 X hP a1 (k := 1) ha1 rfl (by decide) dX8_doneOf_7 ?_
      refine lv_icmp_ge (tgt := 36) hx hb dX8_doneOf_8 (by decide) (fun c_2 => ?_) (fun c_2 => ?_)
      · replace h := it_t h c_2
        refine lv_iload_n hx hb dX8_doneOf_36 rfl (lv_at hl 1 rfl) ?_
        exact r_iret C0 X hP hS hr hlk dX8_doneOf_37 ⟨Option.some.inj h, rfl⟩
      · replace h := it_f h c_2
        refine lv_iload_n hx hb dX8_doneOf_11 rfl (lv_at hl 1 rfl) ?_
        refine lv_aload_n hx hb dX8_doneOf_12 rfl (lv_at hl 2 rfl) ?_
        refine lv_iload_n hx hb dX8_doneOf_13 rfl (lv_at hl 0 rfl) ?_
        refine lv_iconst (v := 5) hx hb dX8_doneOf_14 (by decide) ?_
        obtain ⟨r_3, er_3, h⟩ := bnd h
        refine r_ci X hS (r_runS (As := [.ref (ad a1), .int v2, .int 5]) (rest := [.int v1]) C0 X hP L_X8_130 (fun sz => c_X8_get l D cA ad o σ a1 v2 5 ha1 r_3 er_3 sz) ⟨Nat.le_of_ble_eq_true rfl, Nat.le_of_ble_eq_true rfl⟩ rfl hl.1 rfl (Nat.le_of_ble_eq_true rfl) dX8_doneOf_15 ⟨Nat.zero_le _, Nat.zero_le _⟩) (fun r9 σ9 H locs hw hP hS => ?_)
        rw [hw.2] at hP
        rw [hw.1]
        refine lv_bipush (v := (-3)) hx hb dX8_doneOf_18 (by decide) ?_
        refine lv_icmp_ne (tgt := 27) hx hb dX8_doneOf_20 (by decide) (fun c_4 => ?_) (fun c_4 => ?_)
        · replace h := it_f h c_4
          refine lv_iconst (v := 0) hx hb dX8_doneOf_27 (by decide) ?_
          refine lv_iadd hx hb dX8_doneOf_28 ?_
          refine lv_istore_n (lv' := [(1, .int (v1 + 0)), (2, .int v2), (0, .ref (ad a1))]) hx hb dX8_doneOf_29 rfl hl (by decide) rfl (fun ls hl => ?_)
          refine lv_iinc (v := (v2 + 1)) (lv' := [(2, .int (v2 + 1)), (1, .int (v1 + 0)), (0, .ref (ad a1))]) hx hb dX8_doneOf_30 hl (k := 1) rfl rfl (by decide) rfl (fun ls hl => ?_)
          refine lv_goto (tgt := 4) hx hb dX8_doneOf_33 (by decide) ?_
          exact ih4 (v2 + 1) (v1 + 0) _ _ ls  h hP hS (lv_sub hl [0, 1, 2] rfl)
        · replace h := it_t h c_4
          refine lv_iconst (v := 1) hx hb dX8_doneOf_23 (by decide) ?_
          refine lv_goto (tgt := 28) hx hb dX8_doneOf_24 (by decide) ?_
          refine lv_iadd hx hb dX8_doneOf_28 ?_
          refine lv_istore_n (lv' := [(1, .int (v1 + 1)), (2, .int v2), (0, .ref (ad a1))]) hx hb dX8_doneOf_29 rfl hl (by decide) rfl (fun ls hl => ?_)
          refine lv_iinc (v := (v2 + 1)) (lv' := [(2, .int (v2 + 1)), (1, .int (v1 + 1)), (0, .ref (ad a1))]) hx hb dX8_doneOf_30 hl (k := 1) rfl rfl (by decide) rfl (fun ls hl => ?_)
          refine lv_goto (tgt := 4) hx hb dX8_doneOf_33 (by decide) ?_
          exact ih4 (v2 + 1) (v1 + 1) _ _ ls  h hP hS (lv_sub hl [0, 1, 2] rfl)
  exact lp_1 FU 0 0 _ _ ls  h hP hS (lv_sub hl [0, 1, 2] rfl)
def bB_cX8_stands : Nat := 0xac04e9ffa7010184ac030500a0fe108200b8081b2a1600a22e042a1b3c03ac030500a02e042ad400b82a0d00a13c102e062a
theorem yB_cX8_stands : BYS cX8_stands 50 bB_cX8_stands := BYS_of (by decide +kernel)
theorem dX8_stands_0 : decode cX8_stands 0 = .ok (.aload_n 0, 1) := D_42 yB_cX8_stands rfl rfl
theorem dX8_stands_1 : decode cX8_stands 1 = .ok (.iconst 3, 1) := D_6 yB_cX8_stands rfl rfl
theorem dX8_stands_2 : decode cX8_stands 2 = .ok (.iaload, 1) := D_46 yB_cX8_stands rfl rfl
theorem dX8_stands_3 : decode cX8_stands 3 = .ok (.bipush 60, 2) := D_16 yB_cX8_stands rfl rfl (sg_p (m := 128) (N := 60) rfl rfl rfl)
theorem dX8_stands_5 : decode cX8_stands 5 = .ok (.if_icmp .lt 13, 3) := D_161 yB_cX8_stands rfl rfl (sg_p (m := 32768) (N := 13) rfl rfl rfl)
theorem dX8_stands_8 : decode cX8_stands 8 = .ok (.aload_n 0, 1) := D_42 yB_cX8_stands rfl rfl
theorem dX8_stands_9 : decode cX8_stands 9 = .ok (.invokestatic 212, 3) := D_184 yB_cX8_stands rfl rfl rfl
theorem dX8_stands_12 : decode cX8_stands 12 = .ok (.aload_n 0, 1) := D_42 yB_cX8_stands rfl rfl
theorem dX8_stands_13 : decode cX8_stands 13 = .ok (.iconst 1, 1) := D_4 yB_cX8_stands rfl rfl
theorem dX8_stands_14 : decode cX8_stands 14 = .ok (.iaload, 1) := D_46 yB_cX8_stands rfl rfl
theorem dX8_stands_15 : decode cX8_stands 15 = .ok (.if_icmp .ne 5, 3) := D_160 yB_cX8_stands rfl rfl (sg_p (m := 32768) (N := 5) rfl rfl rfl)
theorem dX8_stands_18 : decode cX8_stands 18 = .ok (.iconst 0, 1) := D_3 yB_cX8_stands rfl rfl
theorem dX8_stands_19 : decode cX8_stands 19 = .ok (.ireturn, 1) := D_172 yB_cX8_stands rfl rfl
theorem dX8_stands_20 : decode cX8_stands 20 = .ok (.iconst 0, 1) := D_3 yB_cX8_stands rfl rfl
theorem dX8_stands_21 : decode cX8_stands 21 = .ok (.istore_n 1, 1) := D_60 yB_cX8_stands rfl rfl
theorem dX8_stands_22 : decode cX8_stands 22 = .ok (.iload_n 1, 1) := D_27 yB_cX8_stands rfl rfl
theorem dX8_stands_23 : decode cX8_stands 23 = .ok (.aload_n 0, 1) := D_42 yB_cX8_stands rfl rfl
theorem dX8_stands_24 : decode cX8_stands 24 = .ok (.iconst 1, 1) := D_4 yB_cX8_stands rfl rfl
theorem dX8_stands_25 : decode cX8_stands 25 = .ok (.iaload, 1) := D_46 yB_cX8_stands rfl rfl
theorem dX8_stands_26 : decode cX8_stands 26 = .ok (.if_icmp .ge 22, 3) := D_162 yB_cX8_stands rfl rfl (sg_p (m := 32768) (N := 22) rfl rfl rfl)
theorem dX8_stands_29 : decode cX8_stands 29 = .ok (.aload_n 0, 1) := D_42 yB_cX8_stands rfl rfl
theorem dX8_stands_30 : decode cX8_stands 30 = .ok (.iload_n 1, 1) := D_27 yB_cX8_stands rfl rfl
theorem dX8_stands_31 : decode cX8_stands 31 = .ok (.iconst 5, 1) := D_8 yB_cX8_stands rfl rfl
theorem dX8_stands_32 : decode cX8_stands 32 = .ok (.invokestatic 130, 3) := D_184 yB_cX8_stands rfl rfl rfl
theorem dX8_stands_35 : decode cX8_stands 35 = .ok (.bipush (-2), 2) := D_16 yB_cX8_stands rfl rfl (sg_n (m := 128) (N := 2) rfl rfl rfl)
theorem dX8_stands_37 : decode cX8_stands 37 = .ok (.if_icmp .ne 5, 3) := D_160 yB_cX8_stands rfl rfl (sg_p (m := 32768) (N := 5) rfl rfl rfl)
theorem dX8_stands_40 : decode cX8_stands 40 = .ok (.iconst 0, 1) := D_3 yB_cX8_stands rfl rfl
theorem dX8_stands_41 : decode cX8_stands 41 = .ok (.ireturn, 1) := D_172 yB_cX8_stands rfl rfl
theorem dX8_stands_42 : decode cX8_stands 42 = .ok (.iinc 1 1, 3) := D_132 yB_cX8_stands rfl rfl rfl (sg_p (m := 128) (N := 1) rfl rfl rfl)
theorem dX8_stands_45 : decode cX8_stands 45 = .ok (.goto (-23), 3) := D_167 yB_cX8_stands rfl rfl (sg_n (m := 32768) (N := 23) rfl rfl rfl)
theorem dX8_stands_48 : decode cX8_stands 48 = .ok (.iconst 1, 1) := D_4 yB_cX8_stands rfl rfl
theorem dX8_stands_49 : decode cX8_stands 49 = .ok (.ireturn, 1) := D_172 yB_cX8_stands rfl rfl
def F_X8_stands_22 (σ : Mem) (a1 : Nat)  : Nat → Int32 → Option (Int32)
  | 0, _ => none
  | nn + 1, v1 => if (σ a1 1) ≤ v1 then (some 1) else ((F_X8_get σ a1 v1 5).bind fun r_6 => if r_6 = (-2) then (some 0) else (F_X8_stands_22 σ a1 nn (v1 + 1)))
def F_X8_stands (σ : Mem) (a1 : Nat) : Option (Int32) := if (σ a1 3) < 60 then (some 0) else ((F_X8_doneOf σ a1).bind fun r_2 => if r_2 = (σ a1 1) then (some 0) else (F_X8_stands_22 σ a1 FU 0))
set_option maxHeartbeats 4000000 in
set_option maxRecDepth 100000 in
theorem c_X8_stands (l : Launch) (D : va_G) (cA : Nat → ClassId) (ad : Nat → Nat) (o : Int64) (σ : Mem) (a1 : Nat) (ha1 : a1 < 106 ∧ kd a1 = (9, 121)) (res : Int32) (h : F_X8_stands σ a1 = some res) (sz : Nat) : Met l yX8_stands (WY yX8_stands cX8_stands 2 (some .boolean)) (RM 2) (va_Pc [.ref (ad a1)] (PW D cA ad o σ sz)) (va_Qi (fun r σ9 => r = res ∧ σ9 = σ) (QW D cA ad o) (FA ad sz)) 0 0 (FA ad sz) := by
  refine ct_of (own := RX8) (k := 2) (Qf := va_Qi (fun r σ9 => r = res ∧ σ9 = σ) (QW D cA ad o)) rfl (by decide) (Nat.le_of_ble_eq_true rfl) (fun p e s m below meth c ls C0 X hr hlk hP hl => ?_) sz
  have hS : va_S (FA ad s.heap.size) s.heap s.heap [] := va_S.rf
  have hl : lv_has ls 2 [(0, .ref (ad a1))] := hl
  obtain ⟨hx, hb, hml, hown, hts⟩ := id C0
  unfold F_X8_stands at h
  refine lv_aload_n hx hb dX8_stands_0 rfl (lv_at hl 0 rfl) ?_
  refine lv_iconst (v := 3) hx hb dX8_stands_1 (by decide) ?_
  refine r_ialdN C0 X hP a1 (k := 3) ha1 rfl (by decide) dX8_stands_2 ?_
  refine lv_bipush (v := 60) hx hb dX8_stands_3 (by decide) ?_
  refine lv_icmp_lt (tgt := 18) hx hb dX8_stands_5 (by decide) (fun c_1 => ?_) (fun c_1 => ?_)
  · replace h := it_t h c_1
    refine lv_iconst (v := 0) hx hb dX8_stands_18 (by decide) ?_
    exact r_zret C0 X hP hS hr hlk dX8_stands_19 (Or.inl rfl) ⟨Option.some.inj h, rfl⟩
  · replace h := it_f h c_1
    refine lv_aload_n hx hb dX8_stands_8 rfl (lv_at hl 0 rfl) ?_
    obtain ⟨r_2, er_2, h⟩ := bnd h
    refine r_ci X hS (r_runS (As := [.ref (ad a1)]) (rest := []) C0 X hP L_X8_212 (fun sz => c_X8_doneOf l D cA ad o σ a1 ha1 r_2 er_2 sz) ⟨Nat.le_of_ble_eq_true rfl, Nat.le_of_ble_eq_true rfl⟩ rfl hl.1 rfl (Nat.le_of_ble_eq_true rfl) dX8_stands_9 ⟨Nat.zero_le _, Nat.zero_le _⟩) (fun r9 σ9 H locs hw hP hS => ?_)
    rw [hw.2] at hP
    rw [hw.1]
    refine lv_aload_n hx hb dX8_stands_12 rfl (lv_at hl 0 rfl) ?_
    refine lv_iconst (v := 1) hx hb dX8_stands_13 (by decide) ?_
    refine r_ialdN C0 X hP a1 (k := 1) ha1 rfl (by decide) dX8_stands_14 ?_
    refine lv_icmp_ne (tgt := 20) hx hb dX8_stands_15 (by decide) (fun c_3 => ?_) (fun c_3 => ?_)
    · replace h := it_f h c_3
      refine lv_iconst (v := 0) hx hb dX8_stands_20 (by decide) ?_
      refine lv_istore_n (lv' := [(1, .int 0), (0, .ref (ad a1))]) hx hb dX8_stands_21 rfl hl (by decide) rfl (fun ls hl => ?_)
      have lp_4 : ∀ (nn22 : Nat) (v1 : Int32) (H : Heap) (locs : List Loc) (ls : Array Slot), F_X8_stands_22 σ a1 nn22 v1 = some res → WP D cA ad o σ H → va_S (FA ad s.heap.size) s.heap H locs → lv_has ls 2 [(1, .int v1), (0, .ref (ad a1))] → W p l e (RM 2) s m ([.ref (ad a1)] : List Value).toArray below meth c H locs 0 0 (MQ below (va_Qi (fun r σ9 => r = res ∧ σ9 = σ) (QW D cA ad o) (FA ad s.heap.size)) ([.ref (ad a1)] : List Value).toArray s 0 0 (FA ad s.heap.size)) (F0 m 22 ls []) := by
        intro nn22
        induction nn22 with
        | zero => intro v1 H locs ls h hP hS hl; exact absurd (show none = some res from h) nofun
        | succ nn22 ih22 =>
          intro v1 H locs ls h hP hS hl
          replace h := (F_X8_stands_22.eq_2 _ _ _ _).symm.trans h
          refine lv_iload_n hx hb dX8_stands_22 rfl (lv_at hl 0 rfl) ?_
          refine lv_aload_n hx hb dX8_stands_23 rfl (lv_at hl 1 rfl) ?_
          refine lv_iconst (v := 1) hx hb dX8_stands_24 (by decide) ?_
          refine r_ialdN C0 X hP a1 (k := 1) ha1 rfl (by decide) dX8_stands_25 ?_
          refine lv_icmp_ge (tgt := 48) hx hb dX8_stands_26 (by decide) (fun c_5 => ?_) (fun c_5 => ?_)
          · replace h := it_t h c_5
            refine lv_iconst (v := 1) hx hb dX8_stands_48 (by decide) ?_
            exact r_zret C0 X hP hS hr hlk dX8_stands_49 (Or.inr rfl) ⟨Option.some.inj h, rfl⟩
          · replace h := it_f h c_5
            refine lv_aload_n hx hb dX8_stands_29 rfl (lv_at hl 1 rfl) ?_
            refine lv_iload_n hx hb dX8_stands_30 rfl (lv_at hl 0 rfl) ?_
            refine lv_iconst (v := 5) hx hb dX8_stands_31 (by decide) ?_
            obtain ⟨r_6, er_6, h⟩ := bnd h
            refine r_ci X hS (r_runS (As := [.ref (ad a1), .int v1, .int 5]) (rest := []) C0 X hP L_X8_130 (fun sz => c_X8_get l D cA ad o σ a1 v1 5 ha1 r_6 er_6 sz) ⟨Nat.le_of_ble_eq_true rfl, Nat.le_of_ble_eq_true rfl⟩ rfl hl.1 rfl (Nat.le_of_ble_eq_true rfl) dX8_stands_32 ⟨Nat.zero_le _, Nat.zero_le _⟩) (fun r9 σ9 H locs hw hP hS => ?_)
            rw [hw.2] at hP
            rw [hw.1]
            refine lv_bipush (v := (-2)) hx hb dX8_stands_35 (by decide) ?_
            refine lv_icmp_ne (tgt := 42) hx hb dX8_stands_37 (by decide) (fun c_7 => ?_) (fun c_7 => ?_)
            · replace h := it_f h c_7
              refine lv_iinc (v := (v1 + 1)) (lv' := [(1, .int (v1 + 1)), (0, .ref (ad a1))]) hx hb dX8_stands_42 hl (k := 0) rfl rfl (by decide) rfl (fun ls hl => ?_)
              refine lv_goto (tgt := 22) hx hb dX8_stands_45 (by decide) ?_
              exact ih22 (v1 + 1) _ _ ls  h hP hS (lv_sub hl [0, 1] rfl)
            · replace h := it_t h c_7
              refine lv_iconst (v := 0) hx hb dX8_stands_40 (by decide) ?_
              exact r_zret C0 X hP hS hr hlk dX8_stands_41 (Or.inl rfl) ⟨Option.some.inj h, rfl⟩
      exact lp_4 FU 0 _ _ ls  h hP hS (lv_sub hl [0, 1] rfl)
    · replace h := it_t h c_3
      refine lv_iconst (v := 0) hx hb dX8_stands_18 (by decide) ?_
      exact r_zret C0 X hP hS hr hlk dX8_stands_19 (Or.inl rfl) ⟨Option.some.inj h, rfl⟩
def bB_cX8_isEnded : Nat := 0xac030400a7040700a0e703112e052a0c009ad700b82a13009f2e042ad400b82a
theorem yB_cX8_isEnded : BYS cX8_isEnded 32 bB_cX8_isEnded := BYS_of (by decide +kernel)
theorem dX8_isEnded_0 : decode cX8_isEnded 0 = .ok (.aload_n 0, 1) := D_42 yB_cX8_isEnded rfl rfl
theorem dX8_isEnded_1 : decode cX8_isEnded 1 = .ok (.invokestatic 212, 3) := D_184 yB_cX8_isEnded rfl rfl rfl
theorem dX8_isEnded_4 : decode cX8_isEnded 4 = .ok (.aload_n 0, 1) := D_42 yB_cX8_isEnded rfl rfl
theorem dX8_isEnded_5 : decode cX8_isEnded 5 = .ok (.iconst 1, 1) := D_4 yB_cX8_isEnded rfl rfl
theorem dX8_isEnded_6 : decode cX8_isEnded 6 = .ok (.iaload, 1) := D_46 yB_cX8_isEnded rfl rfl
theorem dX8_isEnded_7 : decode cX8_isEnded 7 = .ok (.if_icmp .eq 19, 3) := D_159 yB_cX8_isEnded rfl rfl (sg_p (m := 32768) (N := 19) rfl rfl rfl)
theorem dX8_isEnded_10 : decode cX8_isEnded 10 = .ok (.aload_n 0, 1) := D_42 yB_cX8_isEnded rfl rfl
theorem dX8_isEnded_11 : decode cX8_isEnded 11 = .ok (.invokestatic 215, 3) := D_184 yB_cX8_isEnded rfl rfl rfl
theorem dX8_isEnded_14 : decode cX8_isEnded 14 = .ok (.ifCond .ne 12, 3) := D_154 yB_cX8_isEnded rfl rfl (sg_p (m := 32768) (N := 12) rfl rfl rfl)
theorem dX8_isEnded_17 : decode cX8_isEnded 17 = .ok (.aload_n 0, 1) := D_42 yB_cX8_isEnded rfl rfl
theorem dX8_isEnded_18 : decode cX8_isEnded 18 = .ok (.iconst 2, 1) := D_5 yB_cX8_isEnded rfl rfl
theorem dX8_isEnded_19 : decode cX8_isEnded 19 = .ok (.iaload, 1) := D_46 yB_cX8_isEnded rfl rfl
theorem dX8_isEnded_20 : decode cX8_isEnded 20 = .ok (.sipush 999, 3) := D_17 yB_cX8_isEnded rfl rfl (sg_p (m := 32768) (N := 999) rfl rfl rfl)
theorem dX8_isEnded_23 : decode cX8_isEnded 23 = .ok (.if_icmp .ne 7, 3) := D_160 yB_cX8_isEnded rfl rfl (sg_p (m := 32768) (N := 7) rfl rfl rfl)
theorem dX8_isEnded_26 : decode cX8_isEnded 26 = .ok (.iconst 1, 1) := D_4 yB_cX8_isEnded rfl rfl
theorem dX8_isEnded_27 : decode cX8_isEnded 27 = .ok (.goto 4, 3) := D_167 yB_cX8_isEnded rfl rfl (sg_p (m := 32768) (N := 4) rfl rfl rfl)
theorem dX8_isEnded_30 : decode cX8_isEnded 30 = .ok (.iconst 0, 1) := D_3 yB_cX8_isEnded rfl rfl
theorem dX8_isEnded_31 : decode cX8_isEnded 31 = .ok (.ireturn, 1) := D_172 yB_cX8_isEnded rfl rfl
def F_X8_isEnded (σ : Mem) (a1 : Nat) : Option (Int32) := (F_X8_doneOf σ a1).bind fun r_1 => if r_1 = (σ a1 1) then (some 1) else ((F_X8_stands σ a1).bind fun r_3 => if r_3 = 0 then (if (σ a1 2) = 999 then (some 1) else (some 0)) else (some 1))
set_option maxHeartbeats 4000000 in
set_option maxRecDepth 100000 in
theorem c_X8_isEnded (l : Launch) (D : va_G) (cA : Nat → ClassId) (ad : Nat → Nat) (o : Int64) (σ : Mem) (a1 : Nat) (ha1 : a1 < 106 ∧ kd a1 = (9, 121)) (res : Int32) (h : F_X8_isEnded σ a1 = some res) (sz : Nat) : Met l yX8_isEnded (WY yX8_isEnded cX8_isEnded 1 (some .boolean)) (RM 3) (va_Pc [.ref (ad a1)] (PW D cA ad o σ sz)) (va_Qi (fun r σ9 => r = res ∧ σ9 = σ) (QW D cA ad o) (FA ad sz)) 0 0 (FA ad sz) := by
  refine ct_of (own := RX8) (k := 3) (Qf := va_Qi (fun r σ9 => r = res ∧ σ9 = σ) (QW D cA ad o)) rfl (by decide) (Nat.le_of_ble_eq_true rfl) (fun p e s m below meth c ls C0 X hr hlk hP hl => ?_) sz
  have hS : va_S (FA ad s.heap.size) s.heap s.heap [] := va_S.rf
  have hl : lv_has ls 1 [(0, .ref (ad a1))] := hl
  obtain ⟨hx, hb, hml, hown, hts⟩ := id C0
  unfold F_X8_isEnded at h
  refine lv_aload_n hx hb dX8_isEnded_0 rfl (lv_at hl 0 rfl) ?_
  obtain ⟨r_1, er_1, h⟩ := bnd h
  refine r_ci X hS (r_runS (As := [.ref (ad a1)]) (rest := []) C0 X hP L_X8_212 (fun sz => c_X8_doneOf l D cA ad o σ a1 ha1 r_1 er_1 sz) ⟨Nat.le_of_ble_eq_true rfl, Nat.le_of_ble_eq_true rfl⟩ rfl hl.1 rfl (Nat.le_of_ble_eq_true rfl) dX8_isEnded_1 ⟨Nat.zero_le _, Nat.zero_le _⟩) (fun r9 σ9 H locs hw hP hS => ?_)
  rw [hw.2] at hP
  rw [hw.1]
  refine lv_aload_n hx hb dX8_isEnded_4 rfl (lv_at hl 0 rfl) ?_
  refine lv_iconst (v := 1) hx hb dX8_isEnded_5 (by decide) ?_
  refine r_ialdN C0 X hP a1 (k := 1) ha1 rfl (by decide) dX8_isEnded_6 ?_
  refine lv_icmp_eq (tgt := 26) hx hb dX8_isEnded_7 (by decide) (fun c_2 => ?_) (fun c_2 => ?_)
  · replace h := it_t h c_2
    refine lv_iconst (v := 1) hx hb dX8_isEnded_26 (by decide) ?_
    refine lv_goto (tgt := 31) hx hb dX8_isEnded_27 (by decide) ?_
    exact r_zret C0 X hP hS hr hlk dX8_isEnded_31 (Or.inr rfl) ⟨Option.some.inj h, rfl⟩
  · replace h := it_f h c_2
    refine lv_aload_n hx hb dX8_isEnded_10 rfl (lv_at hl 0 rfl) ?_
    obtain ⟨r_3, er_3, h⟩ := bnd h
    refine r_ci X hS (r_runS (As := [.ref (ad a1)]) (rest := []) C0 X hP L_X8_215 (fun sz => c_X8_stands l D cA ad o σ a1 ha1 r_3 er_3 sz) ⟨Nat.le_of_ble_eq_true rfl, Nat.le_of_ble_eq_true rfl⟩ rfl hl.1 rfl (Nat.le_of_ble_eq_true rfl) dX8_isEnded_11 ⟨Nat.zero_le _, Nat.zero_le _⟩) (fun r9 σ9 H locs hw hP hS => ?_)
    rw [hw.2] at hP
    rw [hw.1]
    refine lv_if_ne (tgt := 26) hx hb dX8_isEnded_14 (by decide) (fun c_4 => ?_) (fun c_4 => ?_)
    · replace h := it_f h c_4
      refine lv_iconst (v := 1) hx hb dX8_isEnded_26 (by decide) ?_
      refine lv_goto (tgt := 31) hx hb dX8_isEnded_27 (by decide) ?_
      exact r_zret C0 X hP hS hr hlk dX8_isEnded_31 (Or.inr rfl) ⟨Option.some.inj h, rfl⟩
    · replace h := it_t h c_4
      refine lv_aload_n hx hb dX8_isEnded_17 rfl (lv_at hl 0 rfl) ?_
      refine lv_iconst (v := 2) hx hb dX8_isEnded_18 (by decide) ?_
      refine r_ialdN C0 X hP a1 (k := 2) ha1 rfl (by decide) dX8_isEnded_19 ?_
      refine lv_sipush (v := 999) hx hb dX8_isEnded_20 (by decide) ?_
      refine lv_icmp_ne (tgt := 30) hx hb dX8_isEnded_23 (by decide) (fun c_5 => ?_) (fun c_5 => ?_)
      · replace h := it_f h c_5
        refine lv_iconst (v := 0) hx hb dX8_isEnded_30 (by decide) ?_
        exact r_zret C0 X hP hS hr hlk dX8_isEnded_31 (Or.inl rfl) ⟨Option.some.inj h, rfl⟩
      · replace h := it_t h c_5
        refine lv_iconst (v := 1) hx hb dX8_isEnded_26 (by decide) ?_
        refine lv_goto (tgt := 31) hx hb dX8_isEnded_27 (by decide) ?_
        exact r_zret C0 X hP hS hr hlk dX8_isEnded_31 (Or.inr rfl) ⟨Option.some.inj h, rfl⟩
def bB_cX8_isEmpty : Nat := 0xac030400a70407009a2e040900b42a0c00992e030900b42a
theorem yB_cX8_isEmpty : BYS cX8_isEmpty 24 bB_cX8_isEmpty := BYS_of (by decide +kernel)
theorem dX8_isEmpty_0 : decode cX8_isEmpty 0 = .ok (.aload_n 0, 1) := D_42 yB_cX8_isEmpty rfl rfl
theorem dX8_isEmpty_1 : decode cX8_isEmpty 1 = .ok (.getfield 9, 3) := D_180 yB_cX8_isEmpty rfl rfl rfl
theorem dX8_isEmpty_4 : decode cX8_isEmpty 4 = .ok (.iconst 0, 1) := D_3 yB_cX8_isEmpty rfl rfl
theorem dX8_isEmpty_5 : decode cX8_isEmpty 5 = .ok (.iaload, 1) := D_46 yB_cX8_isEmpty rfl rfl
theorem dX8_isEmpty_6 : decode cX8_isEmpty 6 = .ok (.ifCond .eq 12, 3) := D_153 yB_cX8_isEmpty rfl rfl (sg_p (m := 32768) (N := 12) rfl rfl rfl)
theorem dX8_isEmpty_9 : decode cX8_isEmpty 9 = .ok (.aload_n 0, 1) := D_42 yB_cX8_isEmpty rfl rfl
theorem dX8_isEmpty_10 : decode cX8_isEmpty 10 = .ok (.getfield 9, 3) := D_180 yB_cX8_isEmpty rfl rfl rfl
theorem dX8_isEmpty_13 : decode cX8_isEmpty 13 = .ok (.iconst 1, 1) := D_4 yB_cX8_isEmpty rfl rfl
theorem dX8_isEmpty_14 : decode cX8_isEmpty 14 = .ok (.iaload, 1) := D_46 yB_cX8_isEmpty rfl rfl
theorem dX8_isEmpty_15 : decode cX8_isEmpty 15 = .ok (.ifCond .ne 7, 3) := D_154 yB_cX8_isEmpty rfl rfl (sg_p (m := 32768) (N := 7) rfl rfl rfl)
theorem dX8_isEmpty_18 : decode cX8_isEmpty 18 = .ok (.iconst 1, 1) := D_4 yB_cX8_isEmpty rfl rfl
theorem dX8_isEmpty_19 : decode cX8_isEmpty 19 = .ok (.goto 4, 3) := D_167 yB_cX8_isEmpty rfl rfl (sg_p (m := 32768) (N := 4) rfl rfl rfl)
theorem dX8_isEmpty_22 : decode cX8_isEmpty 22 = .ok (.iconst 0, 1) := D_3 yB_cX8_isEmpty rfl rfl
theorem dX8_isEmpty_23 : decode cX8_isEmpty 23 = .ok (.ireturn, 1) := D_172 yB_cX8_isEmpty rfl rfl
def F_X8_isEmpty (σ : Mem)  : Option (Int32) := if (σ 92 0) = 0 then (some 1) else (if (σ 92 1) = 0 then (some 1) else (some 0))
set_option maxHeartbeats 4000000 in
set_option maxRecDepth 100000 in
theorem c_X8_isEmpty (l : Launch) (D : va_G) (cA : Nat → ClassId) (ad : Nat → Nat) (o : Int64) (σ : Mem)   (res : Int32) (h : F_X8_isEmpty σ  = some res) (sz : Nat) : Met l yX8_isEmpty (WY yX8_isEmpty cX8_isEmpty 1 (some .boolean)) (RM 0) (va_Pc [.ref (ad 91)] (PW D cA ad o σ sz)) (va_Qi (fun r σ9 => r = res ∧ σ9 = σ) (QW D cA ad o) (FA ad sz)) 0 0 (FA ad sz) := by
  refine ct_of (own := RX8) (k := 0) (Qf := va_Qi (fun r σ9 => r = res ∧ σ9 = σ) (QW D cA ad o)) rfl (by decide) (Nat.le_of_ble_eq_true rfl) (fun p e s m below meth c ls C0 X hr hlk hP hl => ?_) sz
  have hS : va_S (FA ad s.heap.size) s.heap s.heap [] := va_S.rf
  have hl : lv_has ls 1 [(0, .ref (ad 91))] := hl
  obtain ⟨hx, hb, hml, hown, hts⟩ := id C0
  unfold F_X8_isEmpty at h
  refine lv_aload_n hx hb dX8_isEmpty_0 rfl (lv_at hl 0 rfl) ?_
  refine gf_X8_9 C0 X hP 91 (q := 92) ⟨by decide, rfl⟩ (by omega) rfl dX8_isEmpty_1 ?_
  refine lv_iconst (v := 0) hx hb dX8_isEmpty_4 (by decide) ?_
  refine r_ialdN C0 X hP 92 (k := 0) ⟨by decide, rfl⟩ rfl (by decide) dX8_isEmpty_5 ?_
  refine lv_if_eq (tgt := 18) hx hb dX8_isEmpty_6 (by decide) (fun c_1 => ?_) (fun c_1 => ?_)
  · replace h := it_t h c_1
    refine lv_iconst (v := 1) hx hb dX8_isEmpty_18 (by decide) ?_
    refine lv_goto (tgt := 23) hx hb dX8_isEmpty_19 (by decide) ?_
    exact r_zret C0 X hP hS hr hlk dX8_isEmpty_23 (Or.inr rfl) ⟨Option.some.inj h, rfl⟩
  · replace h := it_f h c_1
    refine lv_aload_n hx hb dX8_isEmpty_9 rfl (lv_at hl 0 rfl) ?_
    refine gf_X8_9 C0 X hP 91 (q := 92) ⟨by decide, rfl⟩ (by omega) rfl dX8_isEmpty_10 ?_
    refine lv_iconst (v := 1) hx hb dX8_isEmpty_13 (by decide) ?_
    refine r_ialdN C0 X hP 92 (k := 1) ⟨by decide, rfl⟩ rfl (by decide) dX8_isEmpty_14 ?_
    refine lv_if_ne (tgt := 22) hx hb dX8_isEmpty_15 (by decide) (fun c_2 => ?_) (fun c_2 => ?_)
    · replace h := it_f h c_2
      refine lv_iconst (v := 0) hx hb dX8_isEmpty_22 (by decide) ?_
      exact r_zret C0 X hP hS hr hlk dX8_isEmpty_23 (Or.inl rfl) ⟨Option.some.inj h, rfl⟩
    · replace h := it_t h c_2
      refine lv_iconst (v := 1) hx hb dX8_isEmpty_18 (by decide) ?_
      refine lv_goto (tgt := 23) hx hb dX8_isEmpty_19 (by decide) ?_
      exact r_zret C0 X hP hS hr hlk dX8_isEmpty_23 (Or.inr rfl) ⟨Option.some.inj h, rfl⟩
def bB_cX8_go : Nat := 0xac2e050900b42ae6ffa7010284e300b60900b42a2a11009ae000b80900b42a1b00a21b1c3d03acfd10060099e000b80900b42a0d009add00b62aac0205009a3500b8db00140a851b
theorem yB_cX8_go : BYS cX8_go 72 bB_cX8_go := BYS_of (by decide +kernel)
theorem dX8_go_0 : decode cX8_go 0 = .ok (.iload_n 1, 1) := D_27 yB_cX8_go rfl rfl
theorem dX8_go_1 : decode cX8_go 1 = .ok (.i2l, 1) := D_133 yB_cX8_go rfl rfl
theorem dX8_go_2 : decode cX8_go 2 = .ok (.lconst 1, 1) := D_10 yB_cX8_go rfl rfl
theorem dX8_go_3 : decode cX8_go 3 = .ok (.ldc2_w 219, 3) := D_20 yB_cX8_go rfl rfl rfl
theorem dX8_go_6 : decode cX8_go 6 = .ok (.invokestatic 53, 3) := D_184 yB_cX8_go rfl rfl rfl
theorem dX8_go_9 : decode cX8_go 9 = .ok (.ifCond .ne 5, 3) := D_154 yB_cX8_go rfl rfl (sg_p (m := 32768) (N := 5) rfl rfl rfl)
theorem dX8_go_12 : decode cX8_go 12 = .ok (.iconst (-1), 1) := D_2 yB_cX8_go rfl rfl
theorem dX8_go_13 : decode cX8_go 13 = .ok (.ireturn, 1) := D_172 yB_cX8_go rfl rfl
theorem dX8_go_14 : decode cX8_go 14 = .ok (.aload_n 0, 1) := D_42 yB_cX8_go rfl rfl
theorem dX8_go_15 : decode cX8_go 15 = .ok (.invokevirtual 221, 3) := D_182 yB_cX8_go rfl rfl rfl
theorem dX8_go_18 : decode cX8_go 18 = .ok (.ifCond .ne 13, 3) := D_154 yB_cX8_go rfl rfl (sg_p (m := 32768) (N := 13) rfl rfl rfl)
theorem dX8_go_21 : decode cX8_go 21 = .ok (.aload_n 0, 1) := D_42 yB_cX8_go rfl rfl
theorem dX8_go_22 : decode cX8_go 22 = .ok (.getfield 9, 3) := D_180 yB_cX8_go rfl rfl rfl
theorem dX8_go_25 : decode cX8_go 25 = .ok (.invokestatic 224, 3) := D_184 yB_cX8_go rfl rfl rfl
theorem dX8_go_28 : decode cX8_go 28 = .ok (.ifCond .eq 6, 3) := D_153 yB_cX8_go rfl rfl (sg_p (m := 32768) (N := 6) rfl rfl rfl)
theorem dX8_go_31 : decode cX8_go 31 = .ok (.bipush (-3), 2) := D_16 yB_cX8_go rfl rfl (sg_n (m := 128) (N := 3) rfl rfl rfl)
theorem dX8_go_33 : decode cX8_go 33 = .ok (.ireturn, 1) := D_172 yB_cX8_go rfl rfl
theorem dX8_go_34 : decode cX8_go 34 = .ok (.iconst 0, 1) := D_3 yB_cX8_go rfl rfl
theorem dX8_go_35 : decode cX8_go 35 = .ok (.istore_n 2, 1) := D_61 yB_cX8_go rfl rfl
theorem dX8_go_36 : decode cX8_go 36 = .ok (.iload_n 2, 1) := D_28 yB_cX8_go rfl rfl
theorem dX8_go_37 : decode cX8_go 37 = .ok (.iload_n 1, 1) := D_27 yB_cX8_go rfl rfl
theorem dX8_go_38 : decode cX8_go 38 = .ok (.if_icmp .ge 27, 3) := D_162 yB_cX8_go rfl rfl (sg_p (m := 32768) (N := 27) rfl rfl rfl)
theorem dX8_go_41 : decode cX8_go 41 = .ok (.aload_n 0, 1) := D_42 yB_cX8_go rfl rfl
theorem dX8_go_42 : decode cX8_go 42 = .ok (.getfield 9, 3) := D_180 yB_cX8_go rfl rfl rfl
theorem dX8_go_45 : decode cX8_go 45 = .ok (.invokestatic 224, 3) := D_184 yB_cX8_go rfl rfl rfl
theorem dX8_go_48 : decode cX8_go 48 = .ok (.ifCond .ne 17, 3) := D_154 yB_cX8_go rfl rfl (sg_p (m := 32768) (N := 17) rfl rfl rfl)
theorem dX8_go_51 : decode cX8_go 51 = .ok (.aload_n 0, 1) := D_42 yB_cX8_go rfl rfl
theorem dX8_go_52 : decode cX8_go 52 = .ok (.aload_n 0, 1) := D_42 yB_cX8_go rfl rfl
theorem dX8_go_53 : decode cX8_go 53 = .ok (.getfield 9, 3) := D_180 yB_cX8_go rfl rfl rfl
theorem dX8_go_56 : decode cX8_go 56 = .ok (.invokevirtual 227, 3) := D_182 yB_cX8_go rfl rfl rfl
theorem dX8_go_59 : decode cX8_go 59 = .ok (.iinc 2 1, 3) := D_132 yB_cX8_go rfl rfl rfl (sg_p (m := 128) (N := 1) rfl rfl rfl)
theorem dX8_go_62 : decode cX8_go 62 = .ok (.goto (-26), 3) := D_167 yB_cX8_go rfl rfl (sg_n (m := 32768) (N := 26) rfl rfl rfl)
theorem dX8_go_65 : decode cX8_go 65 = .ok (.aload_n 0, 1) := D_42 yB_cX8_go rfl rfl
theorem dX8_go_66 : decode cX8_go 66 = .ok (.getfield 9, 3) := D_180 yB_cX8_go rfl rfl rfl
theorem dX8_go_69 : decode cX8_go 69 = .ok (.iconst 2, 1) := D_5 yB_cX8_go rfl rfl
theorem dX8_go_70 : decode cX8_go 70 = .ok (.iaload, 1) := D_46 yB_cX8_go rfl rfl
theorem dX8_go_71 : decode cX8_go 71 = .ok (.ireturn, 1) := D_172 yB_cX8_go rfl rfl
def F_X8_go_36 (x1 : Int32)  : Nat → Mem → Int32 → Option (Mem × Int32)
  | 0, _, _ => none
  | nn + 1, σ, v2 => if x1 ≤ v2 then (some (σ, (σ 92 2))) else ((F_X8_isEnded σ 92).bind fun r_9 => if r_9 = 0 then ((F_X8_minute σ 92).bind fun σ_11 => F_X8_go_36 x1 nn σ_11 (v2 + 1)) else (some (σ, (σ 92 2))))
def F_X8_go (σ : Mem) (x1 : Int32) : Option (Mem × Int32) := if x1 < 1 ∨ 200 < x1 then (some (σ, (-1))) else ((F_X8_isEmpty σ ).bind fun r_3 => if r_3 = 0 then ((F_X8_isEnded σ 92).bind fun r_5 => if r_5 = 0 then (F_X8_go_36 x1 FU σ 0) else (some (σ, (-3)))) else (some (σ, (-3))))
set_option maxHeartbeats 4000000 in
set_option maxRecDepth 100000 in
theorem c_X8_go (l : Launch) (D : va_G) (cA : Nat → ClassId) (ad : Nat → Nat) (o : Int64) (σ : Mem) (x1 : Int32)  (res : Mem × Int32) (h : F_X8_go σ x1 = some res) (sz : Nat) : Met l yX8_go (WY yX8_go cX8_go 3 (some .int)) (RM 8) (va_Pc [.ref (ad 91), .int x1] (PW D cA ad o σ sz)) (va_Qi (fun r σ9 => r = res.2 ∧ σ9 = res.1) (QW D cA ad o) (FA ad sz)) 0 0 (FA ad sz) := by
  refine ct_of (own := RX8) (k := 8) (Qf := va_Qi (fun r σ9 => r = res.2 ∧ σ9 = res.1) (QW D cA ad o)) rfl (by decide) (Nat.le_of_ble_eq_true rfl) (fun p e s m below meth c ls C0 X hr hlk hP hl => ?_) sz
  have hS : va_S (FA ad s.heap.size) s.heap s.heap [] := va_S.rf
  have hl : lv_has ls 3 [(0, .ref (ad 91)), (1, .int x1)] := hl
  obtain ⟨hx, hb, hml, hown, hts⟩ := id C0
  unfold F_X8_go at h
  refine lv_iload_n hx hb dX8_go_0 rfl (lv_at hl 1 rfl) ?_
  refine lv_i2l (v := (x1.toInt64)) hx hb dX8_go_1 rfl ?_
  refine lv_lconst (v := ((1 : Int32).toInt64)) hx hb dX8_go_2 (by decide) ?_
  refine lv_ldc2 (own := RX8) (index := 219) (v := 200) hx hb hown (hts _ (tmc sb5_11 3 rfl (by decide +kernel))) dX8_go_3 ?_
  refine lv_topEl (y := ((200 : Int32).toInt64)) (by decide) ?_
  refine r_ci X hS (r_runS (As := [.long (x1.toInt64), .long ((1 : Int32).toInt64), .long ((200 : Int32).toInt64)]) (rest := []) C0 X hP L_X8_53 (fun sz => c_X8_isIn l D cA ad o σ x1 1 200 sz) ⟨Nat.le_of_ble_eq_true rfl, Nat.le_of_ble_eq_true rfl⟩ rfl hl.1 rfl (Nat.le_of_ble_eq_true rfl) dX8_go_6 ⟨Nat.zero_le _, Nat.zero_le _⟩) (fun r9 σ9 H locs hw hP hS => ?_)
  rw [hw.2] at hP
  obtain ⟨⟨b_1, rfl⟩ | ⟨b_1, rfl⟩, -⟩ := hw
  · replace h := it_f h (inn b_1)
    refine lv_if_ne (tgt := 14) hx hb dX8_go_9 (by decide) (fun _ => ?_) (fun c_2 => absurd c_2 (by decide))
    refine lv_aload_n hx hb dX8_go_14 rfl (lv_at hl 0 rfl) ?_
    obtain ⟨r_3, er_3, h⟩ := bnd h
    refine r_ci X hS (r_runV (As := []) (rest := []) C0 X hP L_X8_221 (fun sz => c_X8_isEmpty l D cA ad o σ   r_3 er_3 sz) (show 91 < 106 ∧ kd 91 = (8, 24) from ⟨by decide, rfl⟩).1 (show 91 < 106 ∧ kd 91 = (8, 24) from ⟨by decide, rfl⟩).2 (by decide) rfl ⟨Nat.le_of_ble_eq_true rfl, Nat.le_of_ble_eq_true rfl⟩ rfl hl.1 rfl (Nat.le_of_ble_eq_true rfl) dX8_go_15 ⟨Nat.zero_le _, Nat.zero_le _⟩) (fun r9 σ9 H locs hw hP hS => ?_)
    rw [hw.2] at hP
    rw [hw.1]
    refine lv_if_ne (tgt := 31) hx hb dX8_go_18 (by decide) (fun c_4 => ?_) (fun c_4 => ?_)
    · replace h := it_f h c_4
      refine lv_bipush (v := (-3)) hx hb dX8_go_31 (by decide) ?_
      exact r_iret C0 X hP hS hr hlk dX8_go_33 (rt2 h)
    · replace h := it_t h c_4
      refine lv_aload_n hx hb dX8_go_21 rfl (lv_at hl 0 rfl) ?_
      refine gf_X8_9 C0 X hP 91 (q := 92) ⟨by decide, rfl⟩ (by omega) rfl dX8_go_22 ?_
      obtain ⟨r_5, er_5, h⟩ := bnd h
      refine r_ci X hS (r_runS (As := [.ref (ad 92)]) (rest := []) C0 X hP L_X8_224 (fun sz => c_X8_isEnded l D cA ad o σ 92 ⟨by decide, rfl⟩ r_5 er_5 sz) ⟨Nat.le_of_ble_eq_true rfl, Nat.le_of_ble_eq_true rfl⟩ rfl hl.1 rfl (Nat.le_of_ble_eq_true rfl) dX8_go_25 ⟨Nat.zero_le _, Nat.zero_le _⟩) (fun r9 σ9 H locs hw hP hS => ?_)
      rw [hw.2] at hP
      rw [hw.1]
      refine lv_if_eq (tgt := 34) hx hb dX8_go_28 (by decide) (fun c_6 => ?_) (fun c_6 => ?_)
      · replace h := it_t h c_6
        refine lv_iconst (v := 0) hx hb dX8_go_34 (by decide) ?_
        refine lv_istore_n (lv' := [(2, .int 0), (0, .ref (ad 91)), (1, .int x1)]) hx hb dX8_go_35 rfl hl (by decide) rfl (fun ls hl => ?_)
        have lp_7 : ∀ (nn36 : Nat) (σ : Mem) (v2 : Int32) (H : Heap) (locs : List Loc) (ls : Array Slot), F_X8_go_36 x1 nn36 σ v2 = some res → WP D cA ad o σ H → va_S (FA ad s.heap.size) s.heap H locs → lv_has ls 3 [(2, .int v2), (0, .ref (ad 91)), (1, .int x1)] → W p l e (RM 8) s m ([.ref (ad 91), .int x1] : List Value).toArray below meth c H locs 0 0 (MQ below (va_Qi (fun r σ9 => r = res.2 ∧ σ9 = res.1) (QW D cA ad o) (FA ad s.heap.size)) ([.ref (ad 91), .int x1] : List Value).toArray s 0 0 (FA ad s.heap.size)) (F0 m 36 ls []) := by
          intro nn36
          induction nn36 with
          | zero => intro σ v2 H locs ls h hP hS hl; exact absurd (show none = some res from h) nofun
          | succ nn36 ih36 =>
            intro σ v2 H locs ls h hP hS hl
            replace h := (F_X8_go_36.eq_2 _ _ _ _).symm.trans h
            refine lv_iload_n hx hb dX8_go_36 rfl (lv_at hl 0 rfl) ?_
            refine lv_iload_n hx hb dX8_go_37 rfl (lv_at hl 2 rfl) ?_
            refine lv_icmp_ge (tgt := 65) hx hb dX8_go_38 (by decide) (fun c_8 => ?_) (fun c_8 => ?_)
            · replace h := it_t h c_8
              refine lv_aload_n hx hb dX8_go_65 rfl (lv_at hl 1 rfl) ?_
              refine gf_X8_9 C0 X hP 91 (q := 92) ⟨by decide, rfl⟩ (by omega) rfl dX8_go_66 ?_
              refine lv_iconst (v := 2) hx hb dX8_go_69 (by decide) ?_
              refine r_ialdN C0 X hP 92 (k := 2) ⟨by decide, rfl⟩ rfl (by decide) dX8_go_70 ?_
              exact r_iret C0 X hP hS hr hlk dX8_go_71 (rt2 h)
            · replace h := it_f h c_8
              refine lv_aload_n hx hb dX8_go_41 rfl (lv_at hl 1 rfl) ?_
              refine gf_X8_9 C0 X hP 91 (q := 92) ⟨by decide, rfl⟩ (by omega) rfl dX8_go_42 ?_
              obtain ⟨r_9, er_9, h⟩ := bnd h
              refine r_ci X hS (r_runS (As := [.ref (ad 92)]) (rest := []) C0 X hP L_X8_224 (fun sz => c_X8_isEnded l D cA ad o σ 92 ⟨by decide, rfl⟩ r_9 er_9 sz) ⟨Nat.le_of_ble_eq_true rfl, Nat.le_of_ble_eq_true rfl⟩ rfl hl.1 rfl (Nat.le_of_ble_eq_true rfl) dX8_go_45 ⟨Nat.zero_le _, Nat.zero_le _⟩) (fun r9 σ9 H locs hw hP hS => ?_)
              rw [hw.2] at hP
              rw [hw.1]
              refine lv_if_ne (tgt := 65) hx hb dX8_go_48 (by decide) (fun c_10 => ?_) (fun c_10 => ?_)
              · replace h := it_f h c_10
                refine lv_aload_n hx hb dX8_go_65 rfl (lv_at hl 1 rfl) ?_
                refine gf_X8_9 C0 X hP 91 (q := 92) ⟨by decide, rfl⟩ (by omega) rfl dX8_go_66 ?_
                refine lv_iconst (v := 2) hx hb dX8_go_69 (by decide) ?_
                refine r_ialdN C0 X hP 92 (k := 2) ⟨by decide, rfl⟩ rfl (by decide) dX8_go_70 ?_
                exact r_iret C0 X hP hS hr hlk dX8_go_71 (rt2 h)
              · replace h := it_t h c_10
                refine lv_aload_n hx hb dX8_go_51 rfl (lv_at hl 1 rfl) ?_
                refine lv_aload_n hx hb dX8_go_52 rfl (lv_at hl 1 rfl) ?_
                refine gf_X8_9 C0 X hP 91 (q := 92) ⟨by decide, rfl⟩ (by omega) rfl dX8_go_53 ?_
                obtain ⟨σ_11, eσ_11, h⟩ := bnd h
                refine r_cv X hS (r_runV (As := [.ref (ad 92)]) (rest := []) C0 X hP L_X8_227 (fun sz => c_X8_minute l D cA ad o σ 92 ⟨by decide, rfl⟩ σ_11 eσ_11 sz) (show 91 < 106 ∧ kd 91 = (8, 24) from ⟨by decide, rfl⟩).1 (show 91 < 106 ∧ kd 91 = (8, 24) from ⟨by decide, rfl⟩).2 (by decide) rfl ⟨Nat.le_of_ble_eq_true rfl, Nat.le_of_ble_eq_true rfl⟩ rfl hl.1 rfl (Nat.le_of_ble_eq_true rfl) dX8_go_56 ⟨Nat.zero_le _, Nat.zero_le _⟩) (fun σ9 H locs hw hP hS => ?_)
                rw [show σ9 = σ_11 from hw] at hP
                refine lv_iinc (v := (v2 + 1)) (lv' := [(2, .int (v2 + 1)), (0, .ref (ad 91)), (1, .int x1)]) hx hb dX8_go_59 hl (k := 0) rfl rfl (by decide) rfl (fun ls hl => ?_)
                refine lv_goto (tgt := 36) hx hb dX8_go_62 (by decide) ?_
                exact ih36 σ_11 (v2 + 1) _ _ ls  h hP hS (lv_sub hl [0, 1, 2] rfl)
        exact lp_7 FU σ 0 _ _ ls  h hP hS (lv_sub hl [0, 1, 2] rfl)
      · replace h := it_f h c_6
        refine lv_bipush (v := (-3)) hx hb dX8_go_31 (by decide) ?_
        exact r_iret C0 X hP hS hr hlk dX8_go_33 (rt2 h)
  · replace h := it_t h b_1
    refine lv_if_ne (tgt := 14) hx hb dX8_go_9 (by decide) (fun c_12 => absurd c_12 (by decide)) (fun _ => ?_)
    refine lv_iconst (v := (-1)) hx hb dX8_go_12 (by decide) ?_
    exact r_iret C0 X hP hS hr hlk dX8_go_13 (rt2 h)
def bB_cX8_anews : Nat := 0xb1f1ffa70101846500b81b2a0e00a22e042a1b3c034f03072a4f03062a4f03052a
theorem yB_cX8_anews : BYS cX8_anews 33 bB_cX8_anews := BYS_of (by decide +kernel)
theorem dX8_anews_0 : decode cX8_anews 0 = .ok (.aload_n 0, 1) := D_42 yB_cX8_anews rfl rfl
theorem dX8_anews_1 : decode cX8_anews 1 = .ok (.iconst 2, 1) := D_5 yB_cX8_anews rfl rfl
theorem dX8_anews_2 : decode cX8_anews 2 = .ok (.iconst 0, 1) := D_3 yB_cX8_anews rfl rfl
theorem dX8_anews_3 : decode cX8_anews 3 = .ok (.iastore, 1) := D_79 yB_cX8_anews rfl rfl
theorem dX8_anews_4 : decode cX8_anews 4 = .ok (.aload_n 0, 1) := D_42 yB_cX8_anews rfl rfl
theorem dX8_anews_5 : decode cX8_anews 5 = .ok (.iconst 3, 1) := D_6 yB_cX8_anews rfl rfl
theorem dX8_anews_6 : decode cX8_anews 6 = .ok (.iconst 0, 1) := D_3 yB_cX8_anews rfl rfl
theorem dX8_anews_7 : decode cX8_anews 7 = .ok (.iastore, 1) := D_79 yB_cX8_anews rfl rfl
theorem dX8_anews_8 : decode cX8_anews 8 = .ok (.aload_n 0, 1) := D_42 yB_cX8_anews rfl rfl
theorem dX8_anews_9 : decode cX8_anews 9 = .ok (.iconst 4, 1) := D_7 yB_cX8_anews rfl rfl
theorem dX8_anews_10 : decode cX8_anews 10 = .ok (.iconst 0, 1) := D_3 yB_cX8_anews rfl rfl
theorem dX8_anews_11 : decode cX8_anews 11 = .ok (.iastore, 1) := D_79 yB_cX8_anews rfl rfl
theorem dX8_anews_12 : decode cX8_anews 12 = .ok (.iconst 0, 1) := D_3 yB_cX8_anews rfl rfl
theorem dX8_anews_13 : decode cX8_anews 13 = .ok (.istore_n 1, 1) := D_60 yB_cX8_anews rfl rfl
theorem dX8_anews_14 : decode cX8_anews 14 = .ok (.iload_n 1, 1) := D_27 yB_cX8_anews rfl rfl
theorem dX8_anews_15 : decode cX8_anews 15 = .ok (.aload_n 0, 1) := D_42 yB_cX8_anews rfl rfl
theorem dX8_anews_16 : decode cX8_anews 16 = .ok (.iconst 1, 1) := D_4 yB_cX8_anews rfl rfl
theorem dX8_anews_17 : decode cX8_anews 17 = .ok (.iaload, 1) := D_46 yB_cX8_anews rfl rfl
theorem dX8_anews_18 : decode cX8_anews 18 = .ok (.if_icmp .ge 14, 3) := D_162 yB_cX8_anews rfl rfl (sg_p (m := 32768) (N := 14) rfl rfl rfl)
theorem dX8_anews_21 : decode cX8_anews 21 = .ok (.aload_n 0, 1) := D_42 yB_cX8_anews rfl rfl
theorem dX8_anews_22 : decode cX8_anews 22 = .ok (.iload_n 1, 1) := D_27 yB_cX8_anews rfl rfl
theorem dX8_anews_23 : decode cX8_anews 23 = .ok (.invokestatic 101, 3) := D_184 yB_cX8_anews rfl rfl rfl
theorem dX8_anews_26 : decode cX8_anews 26 = .ok (.iinc 1 1, 3) := D_132 yB_cX8_anews rfl rfl rfl (sg_p (m := 128) (N := 1) rfl rfl rfl)
theorem dX8_anews_29 : decode cX8_anews 29 = .ok (.goto (-15), 3) := D_167 yB_cX8_anews rfl rfl (sg_n (m := 32768) (N := 15) rfl rfl rfl)
theorem dX8_anews_32 : decode cX8_anews 32 = .ok (.return_, 1) := D_177 yB_cX8_anews rfl rfl
def F_X8_anews_14 (a1 : Nat)  : Nat → Mem → Int32 → Option (Mem)
  | 0, _, _ => none
  | nn + 1, σ, v1 => if (σ a1 1) ≤ v1 then (some σ) else ((F_X8_begins σ a1 v1).bind fun σ_3 => F_X8_anews_14 a1 nn σ_3 (v1 + 1))
def F_X8_anews (σ : Mem) (a1 : Nat) : Option (Mem) := F_X8_anews_14 a1 FU (stm (stm (stm σ a1 2 0) a1 3 0) a1 4 0) 0
set_option maxHeartbeats 4000000 in
set_option maxRecDepth 100000 in
theorem c_X8_anews (l : Launch) (D : va_G) (cA : Nat → ClassId) (ad : Nat → Nat) (o : Int64) (σ : Mem) (a1 : Nat) (ha1 : a1 < 106 ∧ kd a1 = (9, 121)) (res : Mem) (h : F_X8_anews σ a1 = some res) (sz : Nat) : Met l yX8_anews (WY yX8_anews cX8_anews 2 none) (RM 2) (va_Pc [.ref (ad a1)] (PW D cA ad o σ sz)) (va_Qv (fun σ9 => σ9 = res) (QW D cA ad o) (FA ad sz)) 0 0 (FA ad sz) := by
  refine ct_of (own := RX8) (k := 2) (Qf := va_Qv (fun σ9 => σ9 = res) (QW D cA ad o)) rfl (by decide) (Nat.le_of_ble_eq_true rfl) (fun p e s m below meth c ls C0 X hr hlk hP hl => ?_) sz
  have hS : va_S (FA ad s.heap.size) s.heap s.heap [] := va_S.rf
  have hl : lv_has ls 2 [(0, .ref (ad a1))] := hl
  obtain ⟨hx, hb, hml, hown, hts⟩ := id C0
  unfold F_X8_anews at h
  refine lv_aload_n hx hb dX8_anews_0 rfl (lv_at hl 0 rfl) ?_
  refine lv_iconst (v := 2) hx hb dX8_anews_1 (by decide) ?_
  refine lv_iconst (v := 0) hx hb dX8_anews_2 (by decide) ?_
  refine r_iastN C0 X hP hS a1 (k := 2) ha1 rfl (by decide) dX8_anews_3 (fun H locs hP hS => ?_)
  refine lv_aload_n hx hb dX8_anews_4 rfl (lv_at hl 0 rfl) ?_
  refine lv_iconst (v := 3) hx hb dX8_anews_5 (by decide) ?_
  refine lv_iconst (v := 0) hx hb dX8_anews_6 (by decide) ?_
  refine r_iastN C0 X hP hS a1 (k := 3) ha1 rfl (by decide) dX8_anews_7 (fun H locs hP hS => ?_)
  refine lv_aload_n hx hb dX8_anews_8 rfl (lv_at hl 0 rfl) ?_
  refine lv_iconst (v := 4) hx hb dX8_anews_9 (by decide) ?_
  refine lv_iconst (v := 0) hx hb dX8_anews_10 (by decide) ?_
  refine r_iastN C0 X hP hS a1 (k := 4) ha1 rfl (by decide) dX8_anews_11 (fun H locs hP hS => ?_)
  refine lv_iconst (v := 0) hx hb dX8_anews_12 (by decide) ?_
  refine lv_istore_n (lv' := [(1, .int 0), (0, .ref (ad a1))]) hx hb dX8_anews_13 rfl hl (by decide) rfl (fun ls hl => ?_)
  have lp_1 : ∀ (nn14 : Nat) (σ : Mem) (v1 : Int32) (H : Heap) (locs : List Loc) (ls : Array Slot), F_X8_anews_14 a1 nn14 σ v1 = some res → WP D cA ad o σ H → va_S (FA ad s.heap.size) s.heap H locs → lv_has ls 2 [(1, .int v1), (0, .ref (ad a1))] → W p l e (RM 2) s m ([.ref (ad a1)] : List Value).toArray below meth c H locs 0 0 (MQ below (va_Qv (fun σ9 => σ9 = res) (QW D cA ad o) (FA ad s.heap.size)) ([.ref (ad a1)] : List Value).toArray s 0 0 (FA ad s.heap.size)) (F0 m 14 ls []) := by
    intro nn14
    induction nn14 with
    | zero => intro σ v1 H locs ls h hP hS hl; exact absurd (show none = some res from h) nofun
    | succ nn14 ih14 =>
      intro σ v1 H locs ls h hP hS hl
      replace h := (F_X8_anews_14.eq_2 _ _ _ _).symm.trans h
      refine lv_iload_n hx hb dX8_anews_14 rfl (lv_at hl 0 rfl) ?_
      refine lv_aload_n hx hb dX8_anews_15 rfl (lv_at hl 1 rfl) ?_
      refine lv_iconst (v := 1) hx hb dX8_anews_16 (by decide) ?_
      refine r_ialdN C0 X hP a1 (k := 1) ha1 rfl (by decide) dX8_anews_17 ?_
      refine lv_icmp_ge (tgt := 32) hx hb dX8_anews_18 (by decide) (fun c_2 => ?_) (fun c_2 => ?_)
      · replace h := it_t h c_2
        exact r_vret C0 X hP hS hr hlk dX8_anews_32 (Option.some.inj h)
      · replace h := it_f h c_2
        refine lv_aload_n hx hb dX8_anews_21 rfl (lv_at hl 1 rfl) ?_
        refine lv_iload_n hx hb dX8_anews_22 rfl (lv_at hl 0 rfl) ?_
        obtain ⟨σ_3, eσ_3, h⟩ := bnd h
        refine r_cv X hS (r_runS (As := [.ref (ad a1), .int v1]) (rest := []) C0 X hP L_X8_101 (fun sz => c_X8_begins l D cA ad o σ a1 v1 ha1 σ_3 eσ_3 sz) ⟨Nat.le_of_ble_eq_true rfl, Nat.le_of_ble_eq_true rfl⟩ rfl hl.1 rfl (Nat.le_of_ble_eq_true rfl) dX8_anews_23 ⟨Nat.zero_le _, Nat.zero_le _⟩) (fun σ9 H locs hw hP hS => ?_)
        rw [show σ9 = σ_3 from hw] at hP
        refine lv_iinc (v := (v1 + 1)) (lv' := [(1, .int (v1 + 1)), (0, .ref (ad a1))]) hx hb dX8_anews_26 hl (k := 0) rfl rfl (by decide) rfl (fun ls hl => ?_)
        refine lv_goto (tgt := 14) hx hb dX8_anews_29 (by decide) ?_
        exact ih14 σ_3 (v1 + 1) _ _ ls  h hP hS (lv_sub hl [0, 1] rfl)
  exact lp_1 FU (stm (stm (stm σ a1 2 0) a1 3 0) a1 4 0) 0 _ _ ls  h hP hS (lv_sub hl [0, 1] rfl)
def bB_cX8_anew : Nat := 0xac2e040900b42ae700b80900b42a
theorem yB_cX8_anew : BYS cX8_anew 14 bB_cX8_anew := BYS_of (by decide +kernel)
theorem dX8_anew_0 : decode cX8_anew 0 = .ok (.aload_n 0, 1) := D_42 yB_cX8_anew rfl rfl
theorem dX8_anew_1 : decode cX8_anew 1 = .ok (.getfield 9, 3) := D_180 yB_cX8_anew rfl rfl rfl
theorem dX8_anew_4 : decode cX8_anew 4 = .ok (.invokestatic 231, 3) := D_184 yB_cX8_anew rfl rfl rfl
theorem dX8_anew_7 : decode cX8_anew 7 = .ok (.aload_n 0, 1) := D_42 yB_cX8_anew rfl rfl
theorem dX8_anew_8 : decode cX8_anew 8 = .ok (.getfield 9, 3) := D_180 yB_cX8_anew rfl rfl rfl
theorem dX8_anew_11 : decode cX8_anew 11 = .ok (.iconst 1, 1) := D_4 yB_cX8_anew rfl rfl
theorem dX8_anew_12 : decode cX8_anew 12 = .ok (.iaload, 1) := D_46 yB_cX8_anew rfl rfl
theorem dX8_anew_13 : decode cX8_anew 13 = .ok (.ireturn, 1) := D_172 yB_cX8_anew rfl rfl
def F_X8_anew (σ : Mem)  : Option (Mem × Int32) := (F_X8_anews σ 92).bind fun σ_1 => some (σ_1, (σ_1 92 1))
set_option maxHeartbeats 4000000 in
set_option maxRecDepth 100000 in
theorem c_X8_anew (l : Launch) (D : va_G) (cA : Nat → ClassId) (ad : Nat → Nat) (o : Int64) (σ : Mem)   (res : Mem × Int32) (h : F_X8_anew σ  = some res) (sz : Nat) : Met l yX8_anew (WY yX8_anew cX8_anew 1 (some .int)) (RM 3) (va_Pc [.ref (ad 91)] (PW D cA ad o σ sz)) (va_Qi (fun r σ9 => r = res.2 ∧ σ9 = res.1) (QW D cA ad o) (FA ad sz)) 0 0 (FA ad sz) := by
  refine ct_of (own := RX8) (k := 3) (Qf := va_Qi (fun r σ9 => r = res.2 ∧ σ9 = res.1) (QW D cA ad o)) rfl (by decide) (Nat.le_of_ble_eq_true rfl) (fun p e s m below meth c ls C0 X hr hlk hP hl => ?_) sz
  have hS : va_S (FA ad s.heap.size) s.heap s.heap [] := va_S.rf
  have hl : lv_has ls 1 [(0, .ref (ad 91))] := hl
  obtain ⟨hx, hb, hml, hown, hts⟩ := id C0
  unfold F_X8_anew at h
  refine lv_aload_n hx hb dX8_anew_0 rfl (lv_at hl 0 rfl) ?_
  refine gf_X8_9 C0 X hP 91 (q := 92) ⟨by decide, rfl⟩ (by omega) rfl dX8_anew_1 ?_
  obtain ⟨σ_1, eσ_1, h⟩ := bnd h
  refine r_cv X hS (r_runS (As := [.ref (ad 92)]) (rest := []) C0 X hP L_X8_231 (fun sz => c_X8_anews l D cA ad o σ 92 ⟨by decide, rfl⟩ σ_1 eσ_1 sz) ⟨Nat.le_of_ble_eq_true rfl, Nat.le_of_ble_eq_true rfl⟩ rfl hl.1 rfl (Nat.le_of_ble_eq_true rfl) dX8_anew_4 ⟨Nat.zero_le _, Nat.zero_le _⟩) (fun σ9 H locs hw hP hS => ?_)
  rw [show σ9 = σ_1 from hw] at hP
  refine lv_aload_n hx hb dX8_anew_7 rfl (lv_at hl 0 rfl) ?_
  refine gf_X8_9 C0 X hP 91 (q := 92) ⟨by decide, rfl⟩ (by omega) rfl dX8_anew_8 ?_
  refine lv_iconst (v := 1) hx hb dX8_anew_11 (by decide) ?_
  refine r_ialdN C0 X hP 92 (k := 1) ⟨by decide, rfl⟩ rfl (by decide) dX8_anew_12 ?_
  exact r_iret C0 X hP hS hr hlk dX8_anew_13 (rt2 h)
def bB_cX8_where : Nat := 0xacea12ac8200b809101b0900b42aac8200b808101b0900b42aac8200b807101b0900b42aac030400a70407009e8200b806101b0900b42aac8200b8081b0900b42a570000004c000000410000002e00000024000000040000000000000062000000000000aa1cacea1206009a7f00b61b2a
theorem yB_cX8_where : BYS cX8_where 113 bB_cX8_where := BYS_of (by decide +kernel)
theorem dX8_where_0 : decode cX8_where 0 = .ok (.aload_n 0, 1) := D_42 yB_cX8_where rfl rfl
theorem dX8_where_1 : decode cX8_where 1 = .ok (.iload_n 1, 1) := D_27 yB_cX8_where rfl rfl
theorem dX8_where_2 : decode cX8_where 2 = .ok (.invokevirtual 127, 3) := D_182 yB_cX8_where rfl rfl rfl
theorem dX8_where_5 : decode cX8_where 5 = .ok (.ifCond .ne 6, 3) := D_154 yB_cX8_where rfl rfl (sg_p (m := 32768) (N := 6) rfl rfl rfl)
theorem dX8_where_8 : decode cX8_where 8 = .ok (.ldc 234, 2) := D_18 yB_cX8_where rfl rfl rfl
theorem dX8_where_10 : decode cX8_where 10 = .ok (.ireturn, 1) := D_172 yB_cX8_where rfl rfl
theorem dX8_where_11 : decode cX8_where 11 = .ok (.iload_n 2, 1) := D_28 yB_cX8_where rfl rfl
theorem dX8_where_12 : decode cX8_where 12 = .ok (.tableswitch 98 0 4 #[36, 46, 65, 76, 87], 36) := by decide +kernel
theorem dX8_where_48 : decode cX8_where 48 = .ok (.aload_n 0, 1) := D_42 yB_cX8_where rfl rfl
theorem dX8_where_49 : decode cX8_where 49 = .ok (.getfield 9, 3) := D_180 yB_cX8_where rfl rfl rfl
theorem dX8_where_52 : decode cX8_where 52 = .ok (.iload_n 1, 1) := D_27 yB_cX8_where rfl rfl
theorem dX8_where_53 : decode cX8_where 53 = .ok (.iconst 5, 1) := D_8 yB_cX8_where rfl rfl
theorem dX8_where_54 : decode cX8_where 54 = .ok (.invokestatic 130, 3) := D_184 yB_cX8_where rfl rfl rfl
theorem dX8_where_57 : decode cX8_where 57 = .ok (.ireturn, 1) := D_172 yB_cX8_where rfl rfl
theorem dX8_where_58 : decode cX8_where 58 = .ok (.aload_n 0, 1) := D_42 yB_cX8_where rfl rfl
theorem dX8_where_59 : decode cX8_where 59 = .ok (.getfield 9, 3) := D_180 yB_cX8_where rfl rfl rfl
theorem dX8_where_62 : decode cX8_where 62 = .ok (.iload_n 1, 1) := D_27 yB_cX8_where rfl rfl
theorem dX8_where_63 : decode cX8_where 63 = .ok (.bipush 6, 2) := D_16 yB_cX8_where rfl rfl (sg_p (m := 128) (N := 6) rfl rfl rfl)
theorem dX8_where_65 : decode cX8_where 65 = .ok (.invokestatic 130, 3) := D_184 yB_cX8_where rfl rfl rfl
theorem dX8_where_68 : decode cX8_where 68 = .ok (.ifCond .le 7, 3) := D_158 yB_cX8_where rfl rfl (sg_p (m := 32768) (N := 7) rfl rfl rfl)
theorem dX8_where_71 : decode cX8_where 71 = .ok (.iconst 1, 1) := D_4 yB_cX8_where rfl rfl
theorem dX8_where_72 : decode cX8_where 72 = .ok (.goto 4, 3) := D_167 yB_cX8_where rfl rfl (sg_p (m := 32768) (N := 4) rfl rfl rfl)
theorem dX8_where_75 : decode cX8_where 75 = .ok (.iconst 0, 1) := D_3 yB_cX8_where rfl rfl
theorem dX8_where_76 : decode cX8_where 76 = .ok (.ireturn, 1) := D_172 yB_cX8_where rfl rfl
theorem dX8_where_77 : decode cX8_where 77 = .ok (.aload_n 0, 1) := D_42 yB_cX8_where rfl rfl
theorem dX8_where_78 : decode cX8_where 78 = .ok (.getfield 9, 3) := D_180 yB_cX8_where rfl rfl rfl
theorem dX8_where_81 : decode cX8_where 81 = .ok (.iload_n 1, 1) := D_27 yB_cX8_where rfl rfl
theorem dX8_where_82 : decode cX8_where 82 = .ok (.bipush 7, 2) := D_16 yB_cX8_where rfl rfl (sg_p (m := 128) (N := 7) rfl rfl rfl)
theorem dX8_where_84 : decode cX8_where 84 = .ok (.invokestatic 130, 3) := D_184 yB_cX8_where rfl rfl rfl
theorem dX8_where_87 : decode cX8_where 87 = .ok (.ireturn, 1) := D_172 yB_cX8_where rfl rfl
theorem dX8_where_88 : decode cX8_where 88 = .ok (.aload_n 0, 1) := D_42 yB_cX8_where rfl rfl
theorem dX8_where_89 : decode cX8_where 89 = .ok (.getfield 9, 3) := D_180 yB_cX8_where rfl rfl rfl
theorem dX8_where_92 : decode cX8_where 92 = .ok (.iload_n 1, 1) := D_27 yB_cX8_where rfl rfl
theorem dX8_where_93 : decode cX8_where 93 = .ok (.bipush 8, 2) := D_16 yB_cX8_where rfl rfl (sg_p (m := 128) (N := 8) rfl rfl rfl)
theorem dX8_where_95 : decode cX8_where 95 = .ok (.invokestatic 130, 3) := D_184 yB_cX8_where rfl rfl rfl
theorem dX8_where_98 : decode cX8_where 98 = .ok (.ireturn, 1) := D_172 yB_cX8_where rfl rfl
theorem dX8_where_99 : decode cX8_where 99 = .ok (.aload_n 0, 1) := D_42 yB_cX8_where rfl rfl
theorem dX8_where_100 : decode cX8_where 100 = .ok (.getfield 9, 3) := D_180 yB_cX8_where rfl rfl rfl
theorem dX8_where_103 : decode cX8_where 103 = .ok (.iload_n 1, 1) := D_27 yB_cX8_where rfl rfl
theorem dX8_where_104 : decode cX8_where 104 = .ok (.bipush 9, 2) := D_16 yB_cX8_where rfl rfl (sg_p (m := 128) (N := 9) rfl rfl rfl)
theorem dX8_where_106 : decode cX8_where 106 = .ok (.invokestatic 130, 3) := D_184 yB_cX8_where rfl rfl rfl
theorem dX8_where_109 : decode cX8_where 109 = .ok (.ireturn, 1) := D_172 yB_cX8_where rfl rfl
theorem dX8_where_110 : decode cX8_where 110 = .ok (.ldc 234, 2) := D_18 yB_cX8_where rfl rfl rfl
theorem dX8_where_112 : decode cX8_where 112 = .ok (.ireturn, 1) := D_172 yB_cX8_where rfl rfl
def F_X8_where (σ : Mem) (x1 : Int32) (x2 : Int32) : Option (Int32) := (F_X8_isCart σ x1).bind fun r_1 => if r_1 = 0 then (some (-1000000001)) else (if x2 = 0 then ((F_X8_get σ 92 x1 5).bind fun r_5 => some r_5) else (if x2 = 1 then ((F_X8_get σ 92 x1 6).bind fun r_7 => if r_7 ≤ 0 then (some 0) else (some 1)) else (if x2 = 2 then ((F_X8_get σ 92 x1 7).bind fun r_10 => some r_10) else (if x2 = 3 then ((F_X8_get σ 92 x1 8).bind fun r_12 => some r_12) else (if x2 = 4 then ((F_X8_get σ 92 x1 9).bind fun r_14 => some r_14) else (some (-1000000001)))))))
set_option maxHeartbeats 4000000 in
set_option maxRecDepth 100000 in
theorem c_X8_where (l : Launch) (D : va_G) (cA : Nat → ClassId) (ad : Nat → Nat) (o : Int64) (σ : Mem) (x1 : Int32) (x2 : Int32)  (res : Int32) (h : F_X8_where σ x1 x2 = some res) (sz : Nat) : Met l yX8_where (WY yX8_where cX8_where 3 (some .int)) (RM 2) (va_Pc [.ref (ad 91), .int x1, .int x2] (PW D cA ad o σ sz)) (va_Qi (fun r σ9 => r = res ∧ σ9 = σ) (QW D cA ad o) (FA ad sz)) 0 0 (FA ad sz) := by
  refine ct_of (own := RX8) (k := 2) (Qf := va_Qi (fun r σ9 => r = res ∧ σ9 = σ) (QW D cA ad o)) rfl (by decide) (Nat.le_of_ble_eq_true rfl) (fun p e s m below meth c ls C0 X hr hlk hP hl => ?_) sz
  have hS : va_S (FA ad s.heap.size) s.heap s.heap [] := va_S.rf
  have hl : lv_has ls 3 [(0, .ref (ad 91)), (1, .int x1), (2, .int x2)] := hl
  obtain ⟨hx, hb, hml, hown, hts⟩ := id C0
  unfold F_X8_where at h
  refine lv_aload_n hx hb dX8_where_0 rfl (lv_at hl 0 rfl) ?_
  refine lv_iload_n hx hb dX8_where_1 rfl (lv_at hl 1 rfl) ?_
  obtain ⟨r_1, er_1, h⟩ := bnd h
  refine r_ci X hS (r_runV (As := [.int x1]) (rest := []) C0 X hP L_X8_127 (fun sz => c_X8_isCart l D cA ad o σ x1  r_1 er_1 sz) (show 91 < 106 ∧ kd 91 = (8, 24) from ⟨by decide, rfl⟩).1 (show 91 < 106 ∧ kd 91 = (8, 24) from ⟨by decide, rfl⟩).2 (by decide) rfl ⟨Nat.le_of_ble_eq_true rfl, Nat.le_of_ble_eq_true rfl⟩ rfl hl.1 rfl (Nat.le_of_ble_eq_true rfl) dX8_where_2 ⟨Nat.zero_le _, Nat.zero_le _⟩) (fun r9 σ9 H locs hw hP hS => ?_)
  rw [hw.2] at hP
  rw [hw.1]
  refine lv_if_ne (tgt := 11) hx hb dX8_where_5 (by decide) (fun c_2 => ?_) (fun c_2 => ?_)
  · replace h := it_f h c_2
    refine lv_iload_n hx hb dX8_where_11 rfl (lv_at hl 2 rfl) ?_
    rcases sw_in (x := x2) (lo := 0) (n := 5) with c_3 | ⟨j, hj, c_3⟩
    · replace h := it_f h (sw_ne (v := 0) c_3 (by decide))
      replace h := it_f h (sw_ne (v := 1) c_3 (by decide))
      replace h := it_f h (sw_ne (v := 2) c_3 (by decide))
      replace h := it_f h (sw_ne (v := 3) c_3 (by decide))
      replace h := it_f h (sw_ne (v := 4) c_3 (by decide))
      refine lv_tableOut (tgt := 110) hx hb dX8_where_12 (by omega) (by decide) ?_
      refine lv_ldc (own := RX8) (index := 234) (v := (-1000000001)) hx hb hown (hts _ (tmc sb6_1 9 rfl (by decide +kernel))) dX8_where_110 ?_
      exact r_iret C0 X hP hS hr hlk dX8_where_112 ⟨Option.some.inj h, rfl⟩
    · rcases (show j = 0 ∨ j = 1 ∨ j = 2 ∨ j = 3 ∨ j = 4 by omega) with rfl | rfl | rfl | rfl | rfl
      · have e_4 : x2 = 0 := sw_eq c_3 (by decide)
        replace h := it_t h e_4
        refine lv_tableIn (off := 36) (tgt := 48) hx hb dX8_where_12 (by rw [e_4]; decide) (by rw [e_4]; decide) (by rw [e_4]; rfl) (by decide) ?_
        refine lv_aload_n hx hb dX8_where_48 rfl (lv_at hl 0 rfl) ?_
        refine gf_X8_9 C0 X hP 91 (q := 92) ⟨by decide, rfl⟩ (by omega) rfl dX8_where_49 ?_
        refine lv_iload_n hx hb dX8_where_52 rfl (lv_at hl 1 rfl) ?_
        refine lv_iconst (v := 5) hx hb dX8_where_53 (by decide) ?_
        obtain ⟨r_5, er_5, h⟩ := bnd h
        refine r_ci X hS (r_runS (As := [.ref (ad 92), .int x1, .int 5]) (rest := []) C0 X hP L_X8_130 (fun sz => c_X8_get l D cA ad o σ 92 x1 5 ⟨by decide, rfl⟩ r_5 er_5 sz) ⟨Nat.le_of_ble_eq_true rfl, Nat.le_of_ble_eq_true rfl⟩ rfl hl.1 rfl (Nat.le_of_ble_eq_true rfl) dX8_where_54 ⟨Nat.zero_le _, Nat.zero_le _⟩) (fun r9 σ9 H locs hw hP hS => ?_)
        rw [hw.2] at hP
        rw [hw.1]
        exact r_iret C0 X hP hS hr hlk dX8_where_57 ⟨Option.some.inj h, rfl⟩
      · have e_6 : x2 = 1 := sw_eq c_3 (by decide)
        replace h := it_f h (show ¬ x2 = 0 by rw [e_6]; decide)
        replace h := it_t h e_6
        refine lv_tableIn (off := 46) (tgt := 58) hx hb dX8_where_12 (by rw [e_6]; decide) (by rw [e_6]; decide) (by rw [e_6]; rfl) (by decide) ?_
        refine lv_aload_n hx hb dX8_where_58 rfl (lv_at hl 0 rfl) ?_
        refine gf_X8_9 C0 X hP 91 (q := 92) ⟨by decide, rfl⟩ (by omega) rfl dX8_where_59 ?_
        refine lv_iload_n hx hb dX8_where_62 rfl (lv_at hl 1 rfl) ?_
        refine lv_bipush (v := 6) hx hb dX8_where_63 (by decide) ?_
        obtain ⟨r_7, er_7, h⟩ := bnd h
        refine r_ci X hS (r_runS (As := [.ref (ad 92), .int x1, .int 6]) (rest := []) C0 X hP L_X8_130 (fun sz => c_X8_get l D cA ad o σ 92 x1 6 ⟨by decide, rfl⟩ r_7 er_7 sz) ⟨Nat.le_of_ble_eq_true rfl, Nat.le_of_ble_eq_true rfl⟩ rfl hl.1 rfl (Nat.le_of_ble_eq_true rfl) dX8_where_65 ⟨Nat.zero_le _, Nat.zero_le _⟩) (fun r9 σ9 H locs hw hP hS => ?_)
        rw [hw.2] at hP
        rw [hw.1]
        refine lv_if_le (tgt := 75) hx hb dX8_where_68 (by decide) (fun c_8 => ?_) (fun c_8 => ?_)
        · replace h := it_t h c_8
          refine lv_iconst (v := 0) hx hb dX8_where_75 (by decide) ?_
          exact r_iret C0 X hP hS hr hlk dX8_where_76 ⟨Option.some.inj h, rfl⟩
        · replace h := it_f h c_8
          refine lv_iconst (v := 1) hx hb dX8_where_71 (by decide) ?_
          refine lv_goto (tgt := 76) hx hb dX8_where_72 (by decide) ?_
          exact r_iret C0 X hP hS hr hlk dX8_where_76 ⟨Option.some.inj h, rfl⟩
      · have e_9 : x2 = 2 := sw_eq c_3 (by decide)
        replace h := it_f h (show ¬ x2 = 0 by rw [e_9]; decide)
        replace h := it_f h (show ¬ x2 = 1 by rw [e_9]; decide)
        replace h := it_t h e_9
        refine lv_tableIn (off := 65) (tgt := 77) hx hb dX8_where_12 (by rw [e_9]; decide) (by rw [e_9]; decide) (by rw [e_9]; rfl) (by decide) ?_
        refine lv_aload_n hx hb dX8_where_77 rfl (lv_at hl 0 rfl) ?_
        refine gf_X8_9 C0 X hP 91 (q := 92) ⟨by decide, rfl⟩ (by omega) rfl dX8_where_78 ?_
        refine lv_iload_n hx hb dX8_where_81 rfl (lv_at hl 1 rfl) ?_
        refine lv_bipush (v := 7) hx hb dX8_where_82 (by decide) ?_
        obtain ⟨r_10, er_10, h⟩ := bnd h
        refine r_ci X hS (r_runS (As := [.ref (ad 92), .int x1, .int 7]) (rest := []) C0 X hP L_X8_130 (fun sz => c_X8_get l D cA ad o σ 92 x1 7 ⟨by decide, rfl⟩ r_10 er_10 sz) ⟨Nat.le_of_ble_eq_true rfl, Nat.le_of_ble_eq_true rfl⟩ rfl hl.1 rfl (Nat.le_of_ble_eq_true rfl) dX8_where_84 ⟨Nat.zero_le _, Nat.zero_le _⟩) (fun r9 σ9 H locs hw hP hS => ?_)
        rw [hw.2] at hP
        rw [hw.1]
        exact r_iret C0 X hP hS hr hlk dX8_where_87 ⟨Option.some.inj h, rfl⟩
      · have e_11 : x2 = 3 := sw_eq c_3 (by decide)
        replace h := it_f h (show ¬ x2 = 0 by rw [e_11]; decide)
        replace h := it_f h (show ¬ x2 = 1 by rw [e_11]; decide)
        replace h := it_f h (show ¬ x2 = 2 by rw [e_11]; decide)
        replace h := it_t h e_11
        refine lv_tableIn (off := 76) (tgt := 88) hx hb dX8_where_12 (by rw [e_11]; decide) (by rw [e_11]; decide) (by rw [e_11]; rfl) (by decide) ?_
        refine lv_aload_n hx hb dX8_where_88 rfl (lv_at hl 0 rfl) ?_
        refine gf_X8_9 C0 X hP 91 (q := 92) ⟨by decide, rfl⟩ (by omega) rfl dX8_where_89 ?_
        refine lv_iload_n hx hb dX8_where_92 rfl (lv_at hl 1 rfl) ?_
        refine lv_bipush (v := 8) hx hb dX8_where_93 (by decide) ?_
        obtain ⟨r_12, er_12, h⟩ := bnd h
        refine r_ci X hS (r_runS (As := [.ref (ad 92), .int x1, .int 8]) (rest := []) C0 X hP L_X8_130 (fun sz => c_X8_get l D cA ad o σ 92 x1 8 ⟨by decide, rfl⟩ r_12 er_12 sz) ⟨Nat.le_of_ble_eq_true rfl, Nat.le_of_ble_eq_true rfl⟩ rfl hl.1 rfl (Nat.le_of_ble_eq_true rfl) dX8_where_95 ⟨Nat.zero_le _, Nat.zero_le _⟩) (fun r9 σ9 H locs hw hP hS => ?_)
        rw [hw.2] at hP
        rw [hw.1]
        exact r_iret C0 X hP hS hr hlk dX8_where_98 ⟨Option.some.inj h, rfl⟩
      · have e_13 : x2 = 4 := sw_eq c_3 (by decide)
        replace h := it_f h (show ¬ x2 = 0 by rw [e_13]; decide)
        replace h := it_f h (show ¬ x2 = 1 by rw [e_13]; decide)
        replace h := it_f h (show ¬ x2 = 2 by rw [e_13]; decide)
        replace h := it_f h (show ¬ x2 = 3 by rw [e_13]; decide)
        replace h := it_t h e_13
        refine lv_tableIn (off := 87) (tgt := 99) hx hb dX8_where_12 (by rw [e_13]; decide) (by rw [e_13]; decide) (by rw [e_13]; rfl) (by decide) ?_
        refine lv_aload_n hx hb dX8_where_99 rfl (lv_at hl 0 rfl) ?_
        refine gf_X8_9 C0 X hP 91 (q := 92) ⟨by decide, rfl⟩ (by omega) rfl dX8_where_100 ?_
        refine lv_iload_n hx hb dX8_where_103 rfl (lv_at hl 1 rfl) ?_
        refine lv_bipush (v := 9) hx hb dX8_where_104 (by decide) ?_
        obtain ⟨r_14, er_14, h⟩ := bnd h
        refine r_ci X hS (r_runS (As := [.ref (ad 92), .int x1, .int 9]) (rest := []) C0 X hP L_X8_130 (fun sz => c_X8_get l D cA ad o σ 92 x1 9 ⟨by decide, rfl⟩ r_14 er_14 sz) ⟨Nat.le_of_ble_eq_true rfl, Nat.le_of_ble_eq_true rfl⟩ rfl hl.1 rfl (Nat.le_of_ble_eq_true rfl) dX8_where_106 ⟨Nat.zero_le _, Nat.zero_le _⟩) (fun r9 σ9 H locs hw hP hS => ?_)
        rw [hw.2] at hP
        rw [hw.1]
        exact r_iret C0 X hP hS hr hlk dX8_where_109 ⟨Option.some.inj h, rfl⟩
  · replace h := it_t h c_2
    refine lv_ldc (own := RX8) (index := 234) (v := (-1000000001)) hx hb hown (hts _ (tmc sb6_1 9 rfl (by decide +kernel))) dX8_where_8 ?_
    exact r_iret C0 X hP hS hr hlk dX8_where_10 ⟨Option.some.inj h, rfl⟩
def bB_cX8_allOf : Nat := 0xac1cedffa70103843d608200b81b1d2a1c1200a22e042a1d3e033d03
theorem yB_cX8_allOf : BYS cX8_allOf 28 bB_cX8_allOf := BYS_of (by decide +kernel)
theorem dX8_allOf_0 : decode cX8_allOf 0 = .ok (.iconst 0, 1) := D_3 yB_cX8_allOf rfl rfl
theorem dX8_allOf_1 : decode cX8_allOf 1 = .ok (.istore_n 2, 1) := D_61 yB_cX8_allOf rfl rfl
theorem dX8_allOf_2 : decode cX8_allOf 2 = .ok (.iconst 0, 1) := D_3 yB_cX8_allOf rfl rfl
theorem dX8_allOf_3 : decode cX8_allOf 3 = .ok (.istore_n 3, 1) := D_62 yB_cX8_allOf rfl rfl
theorem dX8_allOf_4 : decode cX8_allOf 4 = .ok (.iload_n 3, 1) := D_29 yB_cX8_allOf rfl rfl
theorem dX8_allOf_5 : decode cX8_allOf 5 = .ok (.aload_n 0, 1) := D_42 yB_cX8_allOf rfl rfl
theorem dX8_allOf_6 : decode cX8_allOf 6 = .ok (.iconst 1, 1) := D_4 yB_cX8_allOf rfl rfl
theorem dX8_allOf_7 : decode cX8_allOf 7 = .ok (.iaload, 1) := D_46 yB_cX8_allOf rfl rfl
theorem dX8_allOf_8 : decode cX8_allOf 8 = .ok (.if_icmp .ge 18, 3) := D_162 yB_cX8_allOf rfl rfl (sg_p (m := 32768) (N := 18) rfl rfl rfl)
theorem dX8_allOf_11 : decode cX8_allOf 11 = .ok (.iload_n 2, 1) := D_28 yB_cX8_allOf rfl rfl
theorem dX8_allOf_12 : decode cX8_allOf 12 = .ok (.aload_n 0, 1) := D_42 yB_cX8_allOf rfl rfl
theorem dX8_allOf_13 : decode cX8_allOf 13 = .ok (.iload_n 3, 1) := D_29 yB_cX8_allOf rfl rfl
theorem dX8_allOf_14 : decode cX8_allOf 14 = .ok (.iload_n 1, 1) := D_27 yB_cX8_allOf rfl rfl
theorem dX8_allOf_15 : decode cX8_allOf 15 = .ok (.invokestatic 130, 3) := D_184 yB_cX8_allOf rfl rfl rfl
theorem dX8_allOf_18 : decode cX8_allOf 18 = .ok (.iadd, 1) := D_96 yB_cX8_allOf rfl rfl
theorem dX8_allOf_19 : decode cX8_allOf 19 = .ok (.istore_n 2, 1) := D_61 yB_cX8_allOf rfl rfl
theorem dX8_allOf_20 : decode cX8_allOf 20 = .ok (.iinc 3 1, 3) := D_132 yB_cX8_allOf rfl rfl rfl (sg_p (m := 128) (N := 1) rfl rfl rfl)
theorem dX8_allOf_23 : decode cX8_allOf 23 = .ok (.goto (-19), 3) := D_167 yB_cX8_allOf rfl rfl (sg_n (m := 32768) (N := 19) rfl rfl rfl)
theorem dX8_allOf_26 : decode cX8_allOf 26 = .ok (.iload_n 2, 1) := D_28 yB_cX8_allOf rfl rfl
theorem dX8_allOf_27 : decode cX8_allOf 27 = .ok (.ireturn, 1) := D_172 yB_cX8_allOf rfl rfl
def F_X8_allOf_4 (σ : Mem) (a1 : Nat) (x2 : Int32)  : Nat → Int32 → Int32 → Option (Int32)
  | 0, _, _ => none
  | nn + 1, v3, v2 => if (σ a1 1) ≤ v3 then (some v2) else ((F_X8_get σ a1 v3 x2).bind fun r_3 => F_X8_allOf_4 σ a1 x2 nn (v3 + 1) (v2 + r_3))
def F_X8_allOf (σ : Mem) (a1 : Nat) (x2 : Int32) : Option (Int32) := F_X8_allOf_4 σ a1 x2 FU 0 0
set_option maxHeartbeats 4000000 in
set_option maxRecDepth 100000 in
theorem c_X8_allOf (l : Launch) (D : va_G) (cA : Nat → ClassId) (ad : Nat → Nat) (o : Int64) (σ : Mem) (a1 : Nat) (x2 : Int32) (ha1 : a1 < 106 ∧ kd a1 = (9, 121)) (res : Int32) (h : F_X8_allOf σ a1 x2 = some res) (sz : Nat) : Met l yX8_allOf (WY yX8_allOf cX8_allOf 4 (some .int)) (RM 1) (va_Pc [.ref (ad a1), .int x2] (PW D cA ad o σ sz)) (va_Qi (fun r σ9 => r = res ∧ σ9 = σ) (QW D cA ad o) (FA ad sz)) 0 0 (FA ad sz) := by
  refine ct_of (own := RX8) (k := 1) (Qf := va_Qi (fun r σ9 => r = res ∧ σ9 = σ) (QW D cA ad o)) rfl (by decide) (Nat.le_of_ble_eq_true rfl) (fun p e s m below meth c ls C0 X hr hlk hP hl => ?_) sz
  have hS : va_S (FA ad s.heap.size) s.heap s.heap [] := va_S.rf
  have hl : lv_has ls 4 [(0, .ref (ad a1)), (1, .int x2)] := hl
  obtain ⟨hx, hb, hml, hown, hts⟩ := id C0
  unfold F_X8_allOf at h
  refine lv_iconst (v := 0) hx hb dX8_allOf_0 (by decide) ?_
  refine lv_istore_n (lv' := [(2, .int 0), (0, .ref (ad a1)), (1, .int x2)]) hx hb dX8_allOf_1 rfl hl (by decide) rfl (fun ls hl => ?_)
  refine lv_iconst (v := 0) hx hb dX8_allOf_2 (by decide) ?_
  refine lv_istore_n (lv' := [(3, .int 0), (2, .int 0), (0, .ref (ad a1)), (1, .int x2)]) hx hb dX8_allOf_3 rfl hl (by decide) rfl (fun ls hl => ?_)
  have lp_1 : ∀ (nn4 : Nat) (v3 : Int32) (v2 : Int32) (H : Heap) (locs : List Loc) (ls : Array Slot), F_X8_allOf_4 σ a1 x2 nn4 v3 v2 = some res → WP D cA ad o σ H → va_S (FA ad s.heap.size) s.heap H locs → lv_has ls 4 [(3, .int v3), (2, .int v2), (0, .ref (ad a1)), (1, .int x2)] → W p l e (RM 1) s m ([.ref (ad a1), .int x2] : List Value).toArray below meth c H locs 0 0 (MQ below (va_Qi (fun r σ9 => r = res ∧ σ9 = σ) (QW D cA ad o) (FA ad s.heap.size)) ([.ref (ad a1), .int x2] : List Value).toArray s 0 0 (FA ad s.heap.size)) (F0 m 4 ls []) := by
    intro nn4
    induction nn4 with
    | zero => intro v3 v2 H locs ls h hP hS hl; exact absurd (show none = some res from h) nofun
    | succ nn4 ih4 =>
      intro v3 v2 H locs ls h hP hS hl
      replace h := (F_X8_allOf_4.eq_2 _ _ _ _ _ _).symm.trans h
      refine lv_iload_n hx hb dX8_allOf_4 rfl (lv_at hl 0 rfl) ?_
      refine lv_aload_n hx hb dX8_allOf_5 rfl (lv_at hl 2 rfl) ?_
      refine lv_iconst (v := 1) hx hb dX8_allOf_6 (by decide) ?_
      refine r_ialdN C0 X hP a1 (k := 1) ha1 rfl (by decide) dX8_allOf_7 ?_
      refine lv_icmp_ge (tgt := 26) hx hb dX8_allOf_8 (by decide) (fun c_2 => ?_) (fun c_2 => ?_)
      · replace h := it_t h c_2
        refine lv_iload_n hx hb dX8_allOf_26 rfl (lv_at hl 1 rfl) ?_
        exact r_iret C0 X hP hS hr hlk dX8_allOf_27 ⟨Option.some.inj h, rfl⟩
      · replace h := it_f h c_2
        refine lv_iload_n hx hb dX8_allOf_11 rfl (lv_at hl 1 rfl) ?_
        refine lv_aload_n hx hb dX8_allOf_12 rfl (lv_at hl 2 rfl) ?_
        refine lv_iload_n hx hb dX8_allOf_13 rfl (lv_at hl 0 rfl) ?_
        refine lv_iload_n hx hb dX8_allOf_14 rfl (lv_at hl 3 rfl) ?_
        obtain ⟨r_3, er_3, h⟩ := bnd h
        refine r_ci X hS (r_runS (As := [.ref (ad a1), .int v3, .int x2]) (rest := [.int v2]) C0 X hP L_X8_130 (fun sz => c_X8_get l D cA ad o σ a1 v3 x2 ha1 r_3 er_3 sz) ⟨Nat.le_of_ble_eq_true rfl, Nat.le_of_ble_eq_true rfl⟩ rfl hl.1 rfl (Nat.le_of_ble_eq_true rfl) dX8_allOf_15 ⟨Nat.zero_le _, Nat.zero_le _⟩) (fun r9 σ9 H locs hw hP hS => ?_)
        rw [hw.2] at hP
        rw [hw.1]
        refine lv_iadd hx hb dX8_allOf_18 ?_
        refine lv_istore_n (lv' := [(2, .int (v2 + r_3)), (3, .int v3), (0, .ref (ad a1)), (1, .int x2)]) hx hb dX8_allOf_19 rfl hl (by decide) rfl (fun ls hl => ?_)
        refine lv_iinc (v := (v3 + 1)) (lv' := [(3, .int (v3 + 1)), (2, .int (v2 + r_3)), (0, .ref (ad a1)), (1, .int x2)]) hx hb dX8_allOf_20 hl (k := 1) rfl rfl (by decide) rfl (fun ls hl => ?_)
        refine lv_goto (tgt := 4) hx hb dX8_allOf_23 (by decide) ?_
        exact ih4 (v3 + 1) (v2 + r_3) _ _ ls  h hP hS (lv_sub hl [0, 1, 2, 3] rfl)
  exact lp_1 FU 0 0 _ _ ls  h hP hS (lv_sub hl [0, 1, 2, 3] rfl)
def bB_cX8_state : Nat := 0xac02ac2e070900b42aac030400a704070099d700b80900b42aacd400b80900b42aaceb00b809100900b42aaceb00b808100900b42aac2e050900b42a5a0000004a00000042000000380000002e000000270000000500000000000000610000000000aa1b
theorem yB_cX8_state : BYS cX8_state 100 bB_cX8_state := BYS_of (by decide +kernel)
theorem dX8_state_0 : decode cX8_state 0 = .ok (.iload_n 1, 1) := D_27 yB_cX8_state rfl rfl
theorem dX8_state_1 : decode cX8_state 1 = .ok (.tableswitch 97 0 5 #[39, 46, 56, 66, 74, 90], 39) := by decide +kernel
theorem dX8_state_40 : decode cX8_state 40 = .ok (.aload_n 0, 1) := D_42 yB_cX8_state rfl rfl
theorem dX8_state_41 : decode cX8_state 41 = .ok (.getfield 9, 3) := D_180 yB_cX8_state rfl rfl rfl
theorem dX8_state_44 : decode cX8_state 44 = .ok (.iconst 2, 1) := D_5 yB_cX8_state rfl rfl
theorem dX8_state_45 : decode cX8_state 45 = .ok (.iaload, 1) := D_46 yB_cX8_state rfl rfl
theorem dX8_state_46 : decode cX8_state 46 = .ok (.ireturn, 1) := D_172 yB_cX8_state rfl rfl
theorem dX8_state_47 : decode cX8_state 47 = .ok (.aload_n 0, 1) := D_42 yB_cX8_state rfl rfl
theorem dX8_state_48 : decode cX8_state 48 = .ok (.getfield 9, 3) := D_180 yB_cX8_state rfl rfl rfl
theorem dX8_state_51 : decode cX8_state 51 = .ok (.bipush 8, 2) := D_16 yB_cX8_state rfl rfl (sg_p (m := 128) (N := 8) rfl rfl rfl)
theorem dX8_state_53 : decode cX8_state 53 = .ok (.invokestatic 235, 3) := D_184 yB_cX8_state rfl rfl rfl
theorem dX8_state_56 : decode cX8_state 56 = .ok (.ireturn, 1) := D_172 yB_cX8_state rfl rfl
theorem dX8_state_57 : decode cX8_state 57 = .ok (.aload_n 0, 1) := D_42 yB_cX8_state rfl rfl
theorem dX8_state_58 : decode cX8_state 58 = .ok (.getfield 9, 3) := D_180 yB_cX8_state rfl rfl rfl
theorem dX8_state_61 : decode cX8_state 61 = .ok (.bipush 9, 2) := D_16 yB_cX8_state rfl rfl (sg_p (m := 128) (N := 9) rfl rfl rfl)
theorem dX8_state_63 : decode cX8_state 63 = .ok (.invokestatic 235, 3) := D_184 yB_cX8_state rfl rfl rfl
theorem dX8_state_66 : decode cX8_state 66 = .ok (.ireturn, 1) := D_172 yB_cX8_state rfl rfl
theorem dX8_state_67 : decode cX8_state 67 = .ok (.aload_n 0, 1) := D_42 yB_cX8_state rfl rfl
theorem dX8_state_68 : decode cX8_state 68 = .ok (.getfield 9, 3) := D_180 yB_cX8_state rfl rfl rfl
theorem dX8_state_71 : decode cX8_state 71 = .ok (.invokestatic 212, 3) := D_184 yB_cX8_state rfl rfl rfl
theorem dX8_state_74 : decode cX8_state 74 = .ok (.ireturn, 1) := D_172 yB_cX8_state rfl rfl
theorem dX8_state_75 : decode cX8_state 75 = .ok (.aload_n 0, 1) := D_42 yB_cX8_state rfl rfl
theorem dX8_state_76 : decode cX8_state 76 = .ok (.getfield 9, 3) := D_180 yB_cX8_state rfl rfl rfl
theorem dX8_state_79 : decode cX8_state 79 = .ok (.invokestatic 215, 3) := D_184 yB_cX8_state rfl rfl rfl
theorem dX8_state_82 : decode cX8_state 82 = .ok (.ifCond .eq 7, 3) := D_153 yB_cX8_state rfl rfl (sg_p (m := 32768) (N := 7) rfl rfl rfl)
theorem dX8_state_85 : decode cX8_state 85 = .ok (.iconst 1, 1) := D_4 yB_cX8_state rfl rfl
theorem dX8_state_86 : decode cX8_state 86 = .ok (.goto 4, 3) := D_167 yB_cX8_state rfl rfl (sg_p (m := 32768) (N := 4) rfl rfl rfl)
theorem dX8_state_89 : decode cX8_state 89 = .ok (.iconst 0, 1) := D_3 yB_cX8_state rfl rfl
theorem dX8_state_90 : decode cX8_state 90 = .ok (.ireturn, 1) := D_172 yB_cX8_state rfl rfl
theorem dX8_state_91 : decode cX8_state 91 = .ok (.aload_n 0, 1) := D_42 yB_cX8_state rfl rfl
theorem dX8_state_92 : decode cX8_state 92 = .ok (.getfield 9, 3) := D_180 yB_cX8_state rfl rfl rfl
theorem dX8_state_95 : decode cX8_state 95 = .ok (.iconst 4, 1) := D_7 yB_cX8_state rfl rfl
theorem dX8_state_96 : decode cX8_state 96 = .ok (.iaload, 1) := D_46 yB_cX8_state rfl rfl
theorem dX8_state_97 : decode cX8_state 97 = .ok (.ireturn, 1) := D_172 yB_cX8_state rfl rfl
theorem dX8_state_98 : decode cX8_state 98 = .ok (.iconst (-1), 1) := D_2 yB_cX8_state rfl rfl
theorem dX8_state_99 : decode cX8_state 99 = .ok (.ireturn, 1) := D_172 yB_cX8_state rfl rfl
def F_X8_state (σ : Mem) (x1 : Int32) : Option (Int32) := if x1 = 0 then (some (σ 92 2)) else (if x1 = 1 then ((F_X8_allOf σ 92 8).bind fun r_4 => some r_4) else (if x1 = 2 then ((F_X8_allOf σ 92 9).bind fun r_6 => some r_6) else (if x1 = 3 then ((F_X8_doneOf σ 92).bind fun r_8 => some r_8) else (if x1 = 4 then ((F_X8_stands σ 92).bind fun r_10 => if r_10 = 0 then (some 0) else (some 1)) else (if x1 = 5 then (some (σ 92 4)) else (some (-1)))))))
set_option maxHeartbeats 4000000 in
set_option maxRecDepth 100000 in
theorem c_X8_state (l : Launch) (D : va_G) (cA : Nat → ClassId) (ad : Nat → Nat) (o : Int64) (σ : Mem) (x1 : Int32)  (res : Int32) (h : F_X8_state σ x1 = some res) (sz : Nat) : Met l yX8_state (WY yX8_state cX8_state 2 (some .int)) (RM 3) (va_Pc [.ref (ad 91), .int x1] (PW D cA ad o σ sz)) (va_Qi (fun r σ9 => r = res ∧ σ9 = σ) (QW D cA ad o) (FA ad sz)) 0 0 (FA ad sz) := by
  refine ct_of (own := RX8) (k := 3) (Qf := va_Qi (fun r σ9 => r = res ∧ σ9 = σ) (QW D cA ad o)) rfl (by decide) (Nat.le_of_ble_eq_true rfl) (fun p e s m below meth c ls C0 X hr hlk hP hl => ?_) sz
  have hS : va_S (FA ad s.heap.size) s.heap s.heap [] := va_S.rf
  have hl : lv_has ls 2 [(0, .ref (ad 91)), (1, .int x1)] := hl
  obtain ⟨hx, hb, hml, hown, hts⟩ := id C0
  unfold F_X8_state at h
  refine lv_iload_n hx hb dX8_state_0 rfl (lv_at hl 1 rfl) ?_
  rcases sw_in (x := x1) (lo := 0) (n := 6) with c_1 | ⟨j, hj, c_1⟩
  · replace h := it_f h (sw_ne (v := 0) c_1 (by decide))
    replace h := it_f h (sw_ne (v := 1) c_1 (by decide))
    replace h := it_f h (sw_ne (v := 2) c_1 (by decide))
    replace h := it_f h (sw_ne (v := 3) c_1 (by decide))
    replace h := it_f h (sw_ne (v := 4) c_1 (by decide))
    replace h := it_f h (sw_ne (v := 5) c_1 (by decide))
    refine lv_tableOut (tgt := 98) hx hb dX8_state_1 (by omega) (by decide) ?_
    refine lv_iconst (v := (-1)) hx hb dX8_state_98 (by decide) ?_
    exact r_iret C0 X hP hS hr hlk dX8_state_99 ⟨Option.some.inj h, rfl⟩
  · rcases (show j = 0 ∨ j = 1 ∨ j = 2 ∨ j = 3 ∨ j = 4 ∨ j = 5 by omega) with rfl | rfl | rfl | rfl | rfl | rfl
    · have e_2 : x1 = 0 := sw_eq c_1 (by decide)
      replace h := it_t h e_2
      refine lv_tableIn (off := 39) (tgt := 40) hx hb dX8_state_1 (by rw [e_2]; decide) (by rw [e_2]; decide) (by rw [e_2]; rfl) (by decide) ?_
      refine lv_aload_n hx hb dX8_state_40 rfl (lv_at hl 0 rfl) ?_
      refine gf_X8_9 C0 X hP 91 (q := 92) ⟨by decide, rfl⟩ (by omega) rfl dX8_state_41 ?_
      refine lv_iconst (v := 2) hx hb dX8_state_44 (by decide) ?_
      refine r_ialdN C0 X hP 92 (k := 2) ⟨by decide, rfl⟩ rfl (by decide) dX8_state_45 ?_
      exact r_iret C0 X hP hS hr hlk dX8_state_46 ⟨Option.some.inj h, rfl⟩
    · have e_3 : x1 = 1 := sw_eq c_1 (by decide)
      replace h := it_f h (show ¬ x1 = 0 by rw [e_3]; decide)
      replace h := it_t h e_3
      refine lv_tableIn (off := 46) (tgt := 47) hx hb dX8_state_1 (by rw [e_3]; decide) (by rw [e_3]; decide) (by rw [e_3]; rfl) (by decide) ?_
      refine lv_aload_n hx hb dX8_state_47 rfl (lv_at hl 0 rfl) ?_
      refine gf_X8_9 C0 X hP 91 (q := 92) ⟨by decide, rfl⟩ (by omega) rfl dX8_state_48 ?_
      refine lv_bipush (v := 8) hx hb dX8_state_51 (by decide) ?_
      obtain ⟨r_4, er_4, h⟩ := bnd h
      refine r_ci X hS (r_runS (As := [.ref (ad 92), .int 8]) (rest := []) C0 X hP L_X8_235 (fun sz => c_X8_allOf l D cA ad o σ 92 8 ⟨by decide, rfl⟩ r_4 er_4 sz) ⟨Nat.le_of_ble_eq_true rfl, Nat.le_of_ble_eq_true rfl⟩ rfl hl.1 rfl (Nat.le_of_ble_eq_true rfl) dX8_state_53 ⟨Nat.zero_le _, Nat.zero_le _⟩) (fun r9 σ9 H locs hw hP hS => ?_)
      rw [hw.2] at hP
      rw [hw.1]
      exact r_iret C0 X hP hS hr hlk dX8_state_56 ⟨Option.some.inj h, rfl⟩
    · have e_5 : x1 = 2 := sw_eq c_1 (by decide)
      replace h := it_f h (show ¬ x1 = 0 by rw [e_5]; decide)
      replace h := it_f h (show ¬ x1 = 1 by rw [e_5]; decide)
      replace h := it_t h e_5
      refine lv_tableIn (off := 56) (tgt := 57) hx hb dX8_state_1 (by rw [e_5]; decide) (by rw [e_5]; decide) (by rw [e_5]; rfl) (by decide) ?_
      refine lv_aload_n hx hb dX8_state_57 rfl (lv_at hl 0 rfl) ?_
      refine gf_X8_9 C0 X hP 91 (q := 92) ⟨by decide, rfl⟩ (by omega) rfl dX8_state_58 ?_
      refine lv_bipush (v := 9) hx hb dX8_state_61 (by decide) ?_
      obtain ⟨r_6, er_6, h⟩ := bnd h
      refine r_ci X hS (r_runS (As := [.ref (ad 92), .int 9]) (rest := []) C0 X hP L_X8_235 (fun sz => c_X8_allOf l D cA ad o σ 92 9 ⟨by decide, rfl⟩ r_6 er_6 sz) ⟨Nat.le_of_ble_eq_true rfl, Nat.le_of_ble_eq_true rfl⟩ rfl hl.1 rfl (Nat.le_of_ble_eq_true rfl) dX8_state_63 ⟨Nat.zero_le _, Nat.zero_le _⟩) (fun r9 σ9 H locs hw hP hS => ?_)
      rw [hw.2] at hP
      rw [hw.1]
      exact r_iret C0 X hP hS hr hlk dX8_state_66 ⟨Option.some.inj h, rfl⟩
    · have e_7 : x1 = 3 := sw_eq c_1 (by decide)
      replace h := it_f h (show ¬ x1 = 0 by rw [e_7]; decide)
      replace h := it_f h (show ¬ x1 = 1 by rw [e_7]; decide)
      replace h := it_f h (show ¬ x1 = 2 by rw [e_7]; decide)
      replace h := it_t h e_7
      refine lv_tableIn (off := 66) (tgt := 67) hx hb dX8_state_1 (by rw [e_7]; decide) (by rw [e_7]; decide) (by rw [e_7]; rfl) (by decide) ?_
      refine lv_aload_n hx hb dX8_state_67 rfl (lv_at hl 0 rfl) ?_
      refine gf_X8_9 C0 X hP 91 (q := 92) ⟨by decide, rfl⟩ (by omega) rfl dX8_state_68 ?_
      obtain ⟨r_8, er_8, h⟩ := bnd h
      refine r_ci X hS (r_runS (As := [.ref (ad 92)]) (rest := []) C0 X hP L_X8_212 (fun sz => c_X8_doneOf l D cA ad o σ 92 ⟨by decide, rfl⟩ r_8 er_8 sz) ⟨Nat.le_of_ble_eq_true rfl, Nat.le_of_ble_eq_true rfl⟩ rfl hl.1 rfl (Nat.le_of_ble_eq_true rfl) dX8_state_71 ⟨Nat.zero_le _, Nat.zero_le _⟩) (fun r9 σ9 H locs hw hP hS => ?_)
      rw [hw.2] at hP
      rw [hw.1]
      exact r_iret C0 X hP hS hr hlk dX8_state_74 ⟨Option.some.inj h, rfl⟩
    · have e_9 : x1 = 4 := sw_eq c_1 (by decide)
      replace h := it_f h (show ¬ x1 = 0 by rw [e_9]; decide)
      replace h := it_f h (show ¬ x1 = 1 by rw [e_9]; decide)
      replace h := it_f h (show ¬ x1 = 2 by rw [e_9]; decide)
      replace h := it_f h (show ¬ x1 = 3 by rw [e_9]; decide)
      replace h := it_t h e_9
      refine lv_tableIn (off := 74) (tgt := 75) hx hb dX8_state_1 (by rw [e_9]; decide) (by rw [e_9]; decide) (by rw [e_9]; rfl) (by decide) ?_
      refine lv_aload_n hx hb dX8_state_75 rfl (lv_at hl 0 rfl) ?_
      refine gf_X8_9 C0 X hP 91 (q := 92) ⟨by decide, rfl⟩ (by omega) rfl dX8_state_76 ?_
      obtain ⟨r_10, er_10, h⟩ := bnd h
      refine r_ci X hS (r_runS (As := [.ref (ad 92)]) (rest := []) C0 X hP L_X8_215 (fun sz => c_X8_stands l D cA ad o σ 92 ⟨by decide, rfl⟩ r_10 er_10 sz) ⟨Nat.le_of_ble_eq_true rfl, Nat.le_of_ble_eq_true rfl⟩ rfl hl.1 rfl (Nat.le_of_ble_eq_true rfl) dX8_state_79 ⟨Nat.zero_le _, Nat.zero_le _⟩) (fun r9 σ9 H locs hw hP hS => ?_)
      rw [hw.2] at hP
      rw [hw.1]
      refine lv_if_eq (tgt := 89) hx hb dX8_state_82 (by decide) (fun c_11 => ?_) (fun c_11 => ?_)
      · replace h := it_t h c_11
        refine lv_iconst (v := 0) hx hb dX8_state_89 (by decide) ?_
        exact r_iret C0 X hP hS hr hlk dX8_state_90 ⟨Option.some.inj h, rfl⟩
      · replace h := it_f h c_11
        refine lv_iconst (v := 1) hx hb dX8_state_85 (by decide) ?_
        refine lv_goto (tgt := 90) hx hb dX8_state_86 (by decide) ?_
        exact r_iret C0 X hP hS hr hlk dX8_state_90 ⟨Option.some.inj h, rfl⟩
    · have e_12 : x1 = 5 := sw_eq c_1 (by decide)
      replace h := it_f h (show ¬ x1 = 0 by rw [e_12]; decide)
      replace h := it_f h (show ¬ x1 = 1 by rw [e_12]; decide)
      replace h := it_f h (show ¬ x1 = 2 by rw [e_12]; decide)
      replace h := it_f h (show ¬ x1 = 3 by rw [e_12]; decide)
      replace h := it_f h (show ¬ x1 = 4 by rw [e_12]; decide)
      replace h := it_t h e_12
      refine lv_tableIn (off := 90) (tgt := 91) hx hb dX8_state_1 (by rw [e_12]; decide) (by rw [e_12]; decide) (by rw [e_12]; rfl) (by decide) ?_
      refine lv_aload_n hx hb dX8_state_91 rfl (lv_at hl 0 rfl) ?_
      refine gf_X8_9 C0 X hP 91 (q := 92) ⟨by decide, rfl⟩ (by omega) rfl dX8_state_92 ?_
      refine lv_iconst (v := 4) hx hb dX8_state_95 (by decide) ?_
      refine r_ialdN C0 X hP 92 (k := 4) ⟨by decide, rfl⟩ rfl (by decide) dX8_state_96 ?_
      exact r_iret C0 X hP hS hr hlk dX8_state_97 ⟨Option.some.inj h, rfl⟩
def bB_cX8_enters : Nat := 0xac030400a704070099b800b82e60056068a100b88200b8031b0900b42a8200b8081b0900b42a0900b42a060e100900b42a1b0900b42aacfd1006009c9100b88200b8081b0900b42a0900b42a1600999d00b81b0900b42aac0205009a7f00b61b2a
theorem yB_cX8_enters : BYS cX8_enters 97 bB_cX8_enters := BYS_of (by decide +kernel)
theorem dX8_enters_0 : decode cX8_enters 0 = .ok (.aload_n 0, 1) := D_42 yB_cX8_enters rfl rfl
theorem dX8_enters_1 : decode cX8_enters 1 = .ok (.iload_n 1, 1) := D_27 yB_cX8_enters rfl rfl
theorem dX8_enters_2 : decode cX8_enters 2 = .ok (.invokevirtual 127, 3) := D_182 yB_cX8_enters rfl rfl rfl
theorem dX8_enters_5 : decode cX8_enters 5 = .ok (.ifCond .ne 5, 3) := D_154 yB_cX8_enters rfl rfl (sg_p (m := 32768) (N := 5) rfl rfl rfl)
theorem dX8_enters_8 : decode cX8_enters 8 = .ok (.iconst (-1), 1) := D_2 yB_cX8_enters rfl rfl
theorem dX8_enters_9 : decode cX8_enters 9 = .ok (.ireturn, 1) := D_172 yB_cX8_enters rfl rfl
theorem dX8_enters_10 : decode cX8_enters 10 = .ok (.aload_n 0, 1) := D_42 yB_cX8_enters rfl rfl
theorem dX8_enters_11 : decode cX8_enters 11 = .ok (.getfield 9, 3) := D_180 yB_cX8_enters rfl rfl rfl
theorem dX8_enters_14 : decode cX8_enters 14 = .ok (.iload_n 1, 1) := D_27 yB_cX8_enters rfl rfl
theorem dX8_enters_15 : decode cX8_enters 15 = .ok (.invokestatic 157, 3) := D_184 yB_cX8_enters rfl rfl rfl
theorem dX8_enters_18 : decode cX8_enters 18 = .ok (.ifCond .eq 22, 3) := D_153 yB_cX8_enters rfl rfl (sg_p (m := 32768) (N := 22) rfl rfl rfl)
theorem dX8_enters_21 : decode cX8_enters 21 = .ok (.aload_n 0, 1) := D_42 yB_cX8_enters rfl rfl
theorem dX8_enters_22 : decode cX8_enters 22 = .ok (.getfield 9, 3) := D_180 yB_cX8_enters rfl rfl rfl
theorem dX8_enters_25 : decode cX8_enters 25 = .ok (.aload_n 0, 1) := D_42 yB_cX8_enters rfl rfl
theorem dX8_enters_26 : decode cX8_enters 26 = .ok (.getfield 9, 3) := D_180 yB_cX8_enters rfl rfl rfl
theorem dX8_enters_29 : decode cX8_enters 29 = .ok (.iload_n 1, 1) := D_27 yB_cX8_enters rfl rfl
theorem dX8_enters_30 : decode cX8_enters 30 = .ok (.iconst 5, 1) := D_8 yB_cX8_enters rfl rfl
theorem dX8_enters_31 : decode cX8_enters 31 = .ok (.invokestatic 130, 3) := D_184 yB_cX8_enters rfl rfl rfl
theorem dX8_enters_34 : decode cX8_enters 34 = .ok (.invokestatic 145, 3) := D_184 yB_cX8_enters rfl rfl rfl
theorem dX8_enters_37 : decode cX8_enters 37 = .ok (.ifCond .ge 6, 3) := D_156 yB_cX8_enters rfl rfl (sg_p (m := 32768) (N := 6) rfl rfl rfl)
theorem dX8_enters_40 : decode cX8_enters 40 = .ok (.bipush (-3), 2) := D_16 yB_cX8_enters rfl rfl (sg_n (m := 128) (N := 3) rfl rfl rfl)
theorem dX8_enters_42 : decode cX8_enters 42 = .ok (.ireturn, 1) := D_172 yB_cX8_enters rfl rfl
theorem dX8_enters_43 : decode cX8_enters 43 = .ok (.aload_n 0, 1) := D_42 yB_cX8_enters rfl rfl
theorem dX8_enters_44 : decode cX8_enters 44 = .ok (.getfield 9, 3) := D_180 yB_cX8_enters rfl rfl rfl
theorem dX8_enters_47 : decode cX8_enters 47 = .ok (.iload_n 1, 1) := D_27 yB_cX8_enters rfl rfl
theorem dX8_enters_48 : decode cX8_enters 48 = .ok (.aload_n 0, 1) := D_42 yB_cX8_enters rfl rfl
theorem dX8_enters_49 : decode cX8_enters 49 = .ok (.getfield 9, 3) := D_180 yB_cX8_enters rfl rfl rfl
theorem dX8_enters_52 : decode cX8_enters 52 = .ok (.bipush 14, 2) := D_16 yB_cX8_enters rfl rfl (sg_p (m := 128) (N := 14) rfl rfl rfl)
theorem dX8_enters_54 : decode cX8_enters 54 = .ok (.iconst 3, 1) := D_6 yB_cX8_enters rfl rfl
theorem dX8_enters_55 : decode cX8_enters 55 = .ok (.aload_n 0, 1) := D_42 yB_cX8_enters rfl rfl
theorem dX8_enters_56 : decode cX8_enters 56 = .ok (.getfield 9, 3) := D_180 yB_cX8_enters rfl rfl rfl
theorem dX8_enters_59 : decode cX8_enters 59 = .ok (.aload_n 0, 1) := D_42 yB_cX8_enters rfl rfl
theorem dX8_enters_60 : decode cX8_enters 60 = .ok (.getfield 9, 3) := D_180 yB_cX8_enters rfl rfl rfl
theorem dX8_enters_63 : decode cX8_enters 63 = .ok (.iload_n 1, 1) := D_27 yB_cX8_enters rfl rfl
theorem dX8_enters_64 : decode cX8_enters 64 = .ok (.iconst 5, 1) := D_8 yB_cX8_enters rfl rfl
theorem dX8_enters_65 : decode cX8_enters 65 = .ok (.invokestatic 130, 3) := D_184 yB_cX8_enters rfl rfl rfl
theorem dX8_enters_68 : decode cX8_enters 68 = .ok (.aload_n 0, 1) := D_42 yB_cX8_enters rfl rfl
theorem dX8_enters_69 : decode cX8_enters 69 = .ok (.getfield 9, 3) := D_180 yB_cX8_enters rfl rfl rfl
theorem dX8_enters_72 : decode cX8_enters 72 = .ok (.iload_n 1, 1) := D_27 yB_cX8_enters rfl rfl
theorem dX8_enters_73 : decode cX8_enters 73 = .ok (.iconst 0, 1) := D_3 yB_cX8_enters rfl rfl
theorem dX8_enters_74 : decode cX8_enters 74 = .ok (.invokestatic 130, 3) := D_184 yB_cX8_enters rfl rfl rfl
theorem dX8_enters_77 : decode cX8_enters 77 = .ok (.invokestatic 161, 3) := D_184 yB_cX8_enters rfl rfl rfl
theorem dX8_enters_80 : decode cX8_enters 80 = .ok (.imul, 1) := D_104 yB_cX8_enters rfl rfl
theorem dX8_enters_81 : decode cX8_enters 81 = .ok (.iadd, 1) := D_96 yB_cX8_enters rfl rfl
theorem dX8_enters_82 : decode cX8_enters 82 = .ok (.iconst 2, 1) := D_5 yB_cX8_enters rfl rfl
theorem dX8_enters_83 : decode cX8_enters 83 = .ok (.iadd, 1) := D_96 yB_cX8_enters rfl rfl
theorem dX8_enters_84 : decode cX8_enters 84 = .ok (.iaload, 1) := D_46 yB_cX8_enters rfl rfl
theorem dX8_enters_85 : decode cX8_enters 85 = .ok (.invokestatic 184, 3) := D_184 yB_cX8_enters rfl rfl rfl
theorem dX8_enters_88 : decode cX8_enters 88 = .ok (.ifCond .eq 7, 3) := D_153 yB_cX8_enters rfl rfl (sg_p (m := 32768) (N := 7) rfl rfl rfl)
theorem dX8_enters_91 : decode cX8_enters 91 = .ok (.iconst 1, 1) := D_4 yB_cX8_enters rfl rfl
theorem dX8_enters_92 : decode cX8_enters 92 = .ok (.goto 4, 3) := D_167 yB_cX8_enters rfl rfl (sg_p (m := 32768) (N := 4) rfl rfl rfl)
theorem dX8_enters_95 : decode cX8_enters 95 = .ok (.iconst 0, 1) := D_3 yB_cX8_enters rfl rfl
theorem dX8_enters_96 : decode cX8_enters 96 = .ok (.ireturn, 1) := D_172 yB_cX8_enters rfl rfl
def F_X8_enters (σ : Mem) (x1 : Int32) : Option (Int32) := (F_X8_isCart σ x1).bind fun r_1 => if r_1 = 0 then (some (-1)) else ((F_X8_isOn σ 92 x1).bind fun r_3 => if r_3 = 0 then (some (-3)) else ((F_X8_get σ 92 x1 5).bind fun r_5 => (F_X8_placeAt σ 92 r_5).bind fun r_6 => if 0 ≤ r_6 then ((F_X8_get σ 92 x1 5).bind fun r_8 => (F_X8_get σ 92 x1 0).bind fun r_9 => (F_X8_pieceFrom σ 92 r_8 r_9).bind fun r_10 => (ix 121 ((14 + (3 * r_10)) + 2)).bind fun k_11 => (F_X8_entersBy σ 92 x1 (σ 92 k_11)).bind fun r_12 => if r_12 = 0 then (some 0) else (some 1)) else (some (-3))))
set_option maxHeartbeats 4000000 in
set_option maxRecDepth 100000 in
theorem c_X8_enters (l : Launch) (D : va_G) (cA : Nat → ClassId) (ad : Nat → Nat) (o : Int64) (σ : Mem) (x1 : Int32)  (res : Int32) (h : F_X8_enters σ x1 = some res) (sz : Nat) : Met l yX8_enters (WY yX8_enters cX8_enters 2 (some .int)) (RM 4) (va_Pc [.ref (ad 91), .int x1] (PW D cA ad o σ sz)) (va_Qi (fun r σ9 => r = res ∧ σ9 = σ) (QW D cA ad o) (FA ad sz)) 0 0 (FA ad sz) := by
  refine ct_of (own := RX8) (k := 4) (Qf := va_Qi (fun r σ9 => r = res ∧ σ9 = σ) (QW D cA ad o)) rfl (by decide) (Nat.le_of_ble_eq_true rfl) (fun p e s m below meth c ls C0 X hr hlk hP hl => ?_) sz
  have hS : va_S (FA ad s.heap.size) s.heap s.heap [] := va_S.rf
  have hl : lv_has ls 2 [(0, .ref (ad 91)), (1, .int x1)] := hl
  obtain ⟨hx, hb, hml, hown, hts⟩ := id C0
  unfold F_X8_enters at h
  refine lv_aload_n hx hb dX8_enters_0 rfl (lv_at hl 0 rfl) ?_
  refine lv_iload_n hx hb dX8_enters_1 rfl (lv_at hl 1 rfl) ?_
  obtain ⟨r_1, er_1, h⟩ := bnd h
  refine r_ci X hS (r_runV (As := [.int x1]) (rest := []) C0 X hP L_X8_127 (fun sz => c_X8_isCart l D cA ad o σ x1  r_1 er_1 sz) (show 91 < 106 ∧ kd 91 = (8, 24) from ⟨by decide, rfl⟩).1 (show 91 < 106 ∧ kd 91 = (8, 24) from ⟨by decide, rfl⟩).2 (by decide) rfl ⟨Nat.le_of_ble_eq_true rfl, Nat.le_of_ble_eq_true rfl⟩ rfl hl.1 rfl (Nat.le_of_ble_eq_true rfl) dX8_enters_2 ⟨Nat.zero_le _, Nat.zero_le _⟩) (fun r9 σ9 H locs hw hP hS => ?_)
  rw [hw.2] at hP
  rw [hw.1]
  refine lv_if_ne (tgt := 10) hx hb dX8_enters_5 (by decide) (fun c_2 => ?_) (fun c_2 => ?_)
  · replace h := it_f h c_2
    refine lv_aload_n hx hb dX8_enters_10 rfl (lv_at hl 0 rfl) ?_
    refine gf_X8_9 C0 X hP 91 (q := 92) ⟨by decide, rfl⟩ (by omega) rfl dX8_enters_11 ?_
    refine lv_iload_n hx hb dX8_enters_14 rfl (lv_at hl 1 rfl) ?_
    obtain ⟨r_3, er_3, h⟩ := bnd h
    refine r_ci X hS (r_runS (As := [.ref (ad 92), .int x1]) (rest := []) C0 X hP L_X8_157 (fun sz => c_X8_isOn l D cA ad o σ 92 x1 ⟨by decide, rfl⟩ r_3 er_3 sz) ⟨Nat.le_of_ble_eq_true rfl, Nat.le_of_ble_eq_true rfl⟩ rfl hl.1 rfl (Nat.le_of_ble_eq_true rfl) dX8_enters_15 ⟨Nat.zero_le _, Nat.zero_le _⟩) (fun r9 σ9 H locs hw hP hS => ?_)
    rw [hw.2] at hP
    rw [hw.1]
    refine lv_if_eq (tgt := 40) hx hb dX8_enters_18 (by decide) (fun c_4 => ?_) (fun c_4 => ?_)
    · replace h := it_t h c_4
      refine lv_bipush (v := (-3)) hx hb dX8_enters_40 (by decide) ?_
      exact r_iret C0 X hP hS hr hlk dX8_enters_42 ⟨Option.some.inj h, rfl⟩
    · replace h := it_f h c_4
      refine lv_aload_n hx hb dX8_enters_21 rfl (lv_at hl 0 rfl) ?_
      refine gf_X8_9 C0 X hP 91 (q := 92) ⟨by decide, rfl⟩ (by omega) rfl dX8_enters_22 ?_
      refine lv_aload_n hx hb dX8_enters_25 rfl (lv_at hl 0 rfl) ?_
      refine gf_X8_9 C0 X hP 91 (q := 92) ⟨by decide, rfl⟩ (by omega) rfl dX8_enters_26 ?_
      refine lv_iload_n hx hb dX8_enters_29 rfl (lv_at hl 1 rfl) ?_
      refine lv_iconst (v := 5) hx hb dX8_enters_30 (by decide) ?_
      obtain ⟨r_5, er_5, h⟩ := bnd h
      refine r_ci X hS (r_runS (As := [.ref (ad 92), .int x1, .int 5]) (rest := [.ref (ad 92)]) C0 X hP L_X8_130 (fun sz => c_X8_get l D cA ad o σ 92 x1 5 ⟨by decide, rfl⟩ r_5 er_5 sz) ⟨Nat.le_of_ble_eq_true rfl, Nat.le_of_ble_eq_true rfl⟩ rfl hl.1 rfl (Nat.le_of_ble_eq_true rfl) dX8_enters_31 ⟨Nat.zero_le _, Nat.zero_le _⟩) (fun r9 σ9 H locs hw hP hS => ?_)
      rw [hw.2] at hP
      rw [hw.1]
      obtain ⟨r_6, er_6, h⟩ := bnd h
      refine r_ci X hS (r_runS (As := [.ref (ad 92), .int r_5]) (rest := []) C0 X hP L_X8_145 (fun sz => c_X8_placeAt l D cA ad o σ 92 r_5 ⟨by decide, rfl⟩ r_6 er_6 sz) ⟨Nat.le_of_ble_eq_true rfl, Nat.le_of_ble_eq_true rfl⟩ rfl hl.1 rfl (Nat.le_of_ble_eq_true rfl) dX8_enters_34 ⟨Nat.zero_le _, Nat.zero_le _⟩) (fun r9 σ9 H locs hw hP hS => ?_)
      rw [hw.2] at hP
      rw [hw.1]
      refine lv_if_ge (tgt := 43) hx hb dX8_enters_37 (by decide) (fun c_7 => ?_) (fun c_7 => ?_)
      · replace h := it_t h c_7
        refine lv_aload_n hx hb dX8_enters_43 rfl (lv_at hl 0 rfl) ?_
        refine gf_X8_9 C0 X hP 91 (q := 92) ⟨by decide, rfl⟩ (by omega) rfl dX8_enters_44 ?_
        refine lv_iload_n hx hb dX8_enters_47 rfl (lv_at hl 1 rfl) ?_
        refine lv_aload_n hx hb dX8_enters_48 rfl (lv_at hl 0 rfl) ?_
        refine gf_X8_9 C0 X hP 91 (q := 92) ⟨by decide, rfl⟩ (by omega) rfl dX8_enters_49 ?_
        refine lv_bipush (v := 14) hx hb dX8_enters_52 (by decide) ?_
        refine lv_iconst (v := 3) hx hb dX8_enters_54 (by decide) ?_
        refine lv_aload_n hx hb dX8_enters_55 rfl (lv_at hl 0 rfl) ?_
        refine gf_X8_9 C0 X hP 91 (q := 92) ⟨by decide, rfl⟩ (by omega) rfl dX8_enters_56 ?_
        refine lv_aload_n hx hb dX8_enters_59 rfl (lv_at hl 0 rfl) ?_
        refine gf_X8_9 C0 X hP 91 (q := 92) ⟨by decide, rfl⟩ (by omega) rfl dX8_enters_60 ?_
        refine lv_iload_n hx hb dX8_enters_63 rfl (lv_at hl 1 rfl) ?_
        refine lv_iconst (v := 5) hx hb dX8_enters_64 (by decide) ?_
        obtain ⟨r_8, er_8, h⟩ := bnd h
        refine r_ci X hS (r_runS (As := [.ref (ad 92), .int x1, .int 5]) (rest := [.ref (ad 92), .int 3, .int 14, .ref (ad 92), .int x1, .ref (ad 92)]) C0 X hP L_X8_130 (fun sz => c_X8_get l D cA ad o σ 92 x1 5 ⟨by decide, rfl⟩ r_8 er_8 sz) ⟨Nat.le_of_ble_eq_true rfl, Nat.le_of_ble_eq_true rfl⟩ rfl hl.1 rfl (Nat.le_of_ble_eq_true rfl) dX8_enters_65 ⟨Nat.zero_le _, Nat.zero_le _⟩) (fun r9 σ9 H locs hw hP hS => ?_)
        rw [hw.2] at hP
        rw [hw.1]
        refine lv_aload_n hx hb dX8_enters_68 rfl (lv_at hl 0 rfl) ?_
        refine gf_X8_9 C0 X hP 91 (q := 92) ⟨by decide, rfl⟩ (by omega) rfl dX8_enters_69 ?_
        refine lv_iload_n hx hb dX8_enters_72 rfl (lv_at hl 1 rfl) ?_
        refine lv_iconst (v := 0) hx hb dX8_enters_73 (by decide) ?_
        obtain ⟨r_9, er_9, h⟩ := bnd h
        refine r_ci X hS (r_runS (As := [.ref (ad 92), .int x1, .int 0]) (rest := [.int r_8, .ref (ad 92), .int 3, .int 14, .ref (ad 92), .int x1, .ref (ad 92)]) C0 X hP L_X8_130 (fun sz => c_X8_get l D cA ad o σ 92 x1 0 ⟨by decide, rfl⟩ r_9 er_9 sz) ⟨Nat.le_of_ble_eq_true rfl, Nat.le_of_ble_eq_true rfl⟩ rfl hl.1 rfl (Nat.le_of_ble_eq_true rfl) dX8_enters_74 ⟨Nat.zero_le _, Nat.zero_le _⟩) (fun r9 σ9 H locs hw hP hS => ?_)
        rw [hw.2] at hP
        rw [hw.1]
        obtain ⟨r_10, er_10, h⟩ := bnd h
        refine r_ci X hS (r_runS (As := [.ref (ad 92), .int r_8, .int r_9]) (rest := [.int 3, .int 14, .ref (ad 92), .int x1, .ref (ad 92)]) C0 X hP L_X8_161 (fun sz => c_X8_pieceFrom l D cA ad o σ 92 r_8 r_9 ⟨by decide, rfl⟩ r_10 er_10 sz) ⟨Nat.le_of_ble_eq_true rfl, Nat.le_of_ble_eq_true rfl⟩ rfl hl.1 rfl (Nat.le_of_ble_eq_true rfl) dX8_enters_77 ⟨Nat.zero_le _, Nat.zero_le _⟩) (fun r9 σ9 H locs hw hP hS => ?_)
        rw [hw.2] at hP
        rw [hw.1]
        refine lv_imul hx hb dX8_enters_80 ?_
        refine lv_iadd hx hb dX8_enters_81 ?_
        refine lv_iconst (v := 2) hx hb dX8_enters_82 (by decide) ?_
        refine lv_iadd hx hb dX8_enters_83 ?_
        obtain ⟨k_11, ek_11, h⟩ := bnd h
        replace ek_11 := ix_s ek_11 (by decide)
        refine r_ialdN C0 X hP 92 (k := k_11) ⟨by decide, rfl⟩ ek_11.1 ek_11.2 dX8_enters_84 ?_
        obtain ⟨r_12, er_12, h⟩ := bnd h
        refine r_ci X hS (r_runS (As := [.ref (ad 92), .int x1, .int (σ 92 k_11)]) (rest := []) C0 X hP L_X8_184 (fun sz => c_X8_entersBy l D cA ad o σ 92 x1 (σ 92 k_11) ⟨by decide, rfl⟩ r_12 er_12 sz) ⟨Nat.le_of_ble_eq_true rfl, Nat.le_of_ble_eq_true rfl⟩ rfl hl.1 rfl (Nat.le_of_ble_eq_true rfl) dX8_enters_85 ⟨Nat.zero_le _, Nat.zero_le _⟩) (fun r9 σ9 H locs hw hP hS => ?_)
        rw [hw.2] at hP
        rw [hw.1]
        refine lv_if_eq (tgt := 95) hx hb dX8_enters_88 (by decide) (fun c_13 => ?_) (fun c_13 => ?_)
        · replace h := it_t h c_13
          refine lv_iconst (v := 0) hx hb dX8_enters_95 (by decide) ?_
          exact r_iret C0 X hP hS hr hlk dX8_enters_96 ⟨Option.some.inj h, rfl⟩
        · replace h := it_f h c_13
          refine lv_iconst (v := 1) hx hb dX8_enters_91 (by decide) ?_
          refine lv_goto (tgt := 96) hx hb dX8_enters_92 (by decide) ?_
          exact r_iret C0 X hP hS hr hlk dX8_enters_96 ⟨Option.some.inj h, rfl⟩
      · replace h := it_f h c_7
        refine lv_bipush (v := (-3)) hx hb dX8_enters_40 (by decide) ?_
        exact r_iret C0 X hP hS hr hlk dX8_enters_42 ⟨Option.some.inj h, rfl⟩
  · replace h := it_t h c_2
    refine lv_iconst (v := (-1)) hx hb dX8_enters_8 (by decide) ?_
    exact r_iret C0 X hP hS hr hlk dX8_enters_9 ⟨Option.some.inj h, rfl⟩
def bB_cX8_yields : Nat := 0xacc800b8a100b80404150900b42a0d00a7fc1008009b9100b804150900b42a1d1c1b0900b42a04368200b8081b0900b42aacfd100600a08200b8031c0900b42a8200b8031b0900b42a1800999d00b81c0900b42a2300999d00b81b0900b42aac0205009a8600b81d0a009f1c1b0f00997f00b61c2a1700997f00b61b2a
theorem yB_cX8_yields : BYS cX8_yields 125 bB_cX8_yields := BYS_of (by decide +kernel)
theorem dX8_yields_0 : decode cX8_yields 0 = .ok (.aload_n 0, 1) := D_42 yB_cX8_yields rfl rfl
theorem dX8_yields_1 : decode cX8_yields 1 = .ok (.iload_n 1, 1) := D_27 yB_cX8_yields rfl rfl
theorem dX8_yields_2 : decode cX8_yields 2 = .ok (.invokevirtual 127, 3) := D_182 yB_cX8_yields rfl rfl rfl
theorem dX8_yields_5 : decode cX8_yields 5 = .ok (.ifCond .eq 23, 3) := D_153 yB_cX8_yields rfl rfl (sg_p (m := 32768) (N := 23) rfl rfl rfl)
theorem dX8_yields_8 : decode cX8_yields 8 = .ok (.aload_n 0, 1) := D_42 yB_cX8_yields rfl rfl
theorem dX8_yields_9 : decode cX8_yields 9 = .ok (.iload_n 2, 1) := D_28 yB_cX8_yields rfl rfl
theorem dX8_yields_10 : decode cX8_yields 10 = .ok (.invokevirtual 127, 3) := D_182 yB_cX8_yields rfl rfl rfl
theorem dX8_yields_13 : decode cX8_yields 13 = .ok (.ifCond .eq 15, 3) := D_153 yB_cX8_yields rfl rfl (sg_p (m := 32768) (N := 15) rfl rfl rfl)
theorem dX8_yields_16 : decode cX8_yields 16 = .ok (.iload_n 1, 1) := D_27 yB_cX8_yields rfl rfl
theorem dX8_yields_17 : decode cX8_yields 17 = .ok (.iload_n 2, 1) := D_28 yB_cX8_yields rfl rfl
theorem dX8_yields_18 : decode cX8_yields 18 = .ok (.if_icmp .eq 10, 3) := D_159 yB_cX8_yields rfl rfl (sg_p (m := 32768) (N := 10) rfl rfl rfl)
theorem dX8_yields_21 : decode cX8_yields 21 = .ok (.iload_n 3, 1) := D_29 yB_cX8_yields rfl rfl
theorem dX8_yields_22 : decode cX8_yields 22 = .ok (.invokestatic 134, 3) := D_184 yB_cX8_yields rfl rfl rfl
theorem dX8_yields_25 : decode cX8_yields 25 = .ok (.ifCond .ne 5, 3) := D_154 yB_cX8_yields rfl rfl (sg_p (m := 32768) (N := 5) rfl rfl rfl)
theorem dX8_yields_28 : decode cX8_yields 28 = .ok (.iconst (-1), 1) := D_2 yB_cX8_yields rfl rfl
theorem dX8_yields_29 : decode cX8_yields 29 = .ok (.ireturn, 1) := D_172 yB_cX8_yields rfl rfl
theorem dX8_yields_30 : decode cX8_yields 30 = .ok (.aload_n 0, 1) := D_42 yB_cX8_yields rfl rfl
theorem dX8_yields_31 : decode cX8_yields 31 = .ok (.getfield 9, 3) := D_180 yB_cX8_yields rfl rfl rfl
theorem dX8_yields_34 : decode cX8_yields 34 = .ok (.iload_n 1, 1) := D_27 yB_cX8_yields rfl rfl
theorem dX8_yields_35 : decode cX8_yields 35 = .ok (.invokestatic 157, 3) := D_184 yB_cX8_yields rfl rfl rfl
theorem dX8_yields_38 : decode cX8_yields 38 = .ok (.ifCond .eq 35, 3) := D_153 yB_cX8_yields rfl rfl (sg_p (m := 32768) (N := 35) rfl rfl rfl)
theorem dX8_yields_41 : decode cX8_yields 41 = .ok (.aload_n 0, 1) := D_42 yB_cX8_yields rfl rfl
theorem dX8_yields_42 : decode cX8_yields 42 = .ok (.getfield 9, 3) := D_180 yB_cX8_yields rfl rfl rfl
theorem dX8_yields_45 : decode cX8_yields 45 = .ok (.iload_n 2, 1) := D_28 yB_cX8_yields rfl rfl
theorem dX8_yields_46 : decode cX8_yields 46 = .ok (.invokestatic 157, 3) := D_184 yB_cX8_yields rfl rfl rfl
theorem dX8_yields_49 : decode cX8_yields 49 = .ok (.ifCond .eq 24, 3) := D_153 yB_cX8_yields rfl rfl (sg_p (m := 32768) (N := 24) rfl rfl rfl)
theorem dX8_yields_52 : decode cX8_yields 52 = .ok (.aload_n 0, 1) := D_42 yB_cX8_yields rfl rfl
theorem dX8_yields_53 : decode cX8_yields 53 = .ok (.getfield 9, 3) := D_180 yB_cX8_yields rfl rfl rfl
theorem dX8_yields_56 : decode cX8_yields 56 = .ok (.iload_n 1, 1) := D_27 yB_cX8_yields rfl rfl
theorem dX8_yields_57 : decode cX8_yields 57 = .ok (.iconst 0, 1) := D_3 yB_cX8_yields rfl rfl
theorem dX8_yields_58 : decode cX8_yields 58 = .ok (.invokestatic 130, 3) := D_184 yB_cX8_yields rfl rfl rfl
theorem dX8_yields_61 : decode cX8_yields 61 = .ok (.aload_n 0, 1) := D_42 yB_cX8_yields rfl rfl
theorem dX8_yields_62 : decode cX8_yields 62 = .ok (.getfield 9, 3) := D_180 yB_cX8_yields rfl rfl rfl
theorem dX8_yields_65 : decode cX8_yields 65 = .ok (.iload_n 2, 1) := D_28 yB_cX8_yields rfl rfl
theorem dX8_yields_66 : decode cX8_yields 66 = .ok (.iconst 0, 1) := D_3 yB_cX8_yields rfl rfl
theorem dX8_yields_67 : decode cX8_yields 67 = .ok (.invokestatic 130, 3) := D_184 yB_cX8_yields rfl rfl rfl
theorem dX8_yields_70 : decode cX8_yields 70 = .ok (.if_icmp .ne 6, 3) := D_160 yB_cX8_yields rfl rfl (sg_p (m := 32768) (N := 6) rfl rfl rfl)
theorem dX8_yields_73 : decode cX8_yields 73 = .ok (.bipush (-3), 2) := D_16 yB_cX8_yields rfl rfl (sg_n (m := 128) (N := 3) rfl rfl rfl)
theorem dX8_yields_75 : decode cX8_yields 75 = .ok (.ireturn, 1) := D_172 yB_cX8_yields rfl rfl
theorem dX8_yields_76 : decode cX8_yields 76 = .ok (.aload_n 0, 1) := D_42 yB_cX8_yields rfl rfl
theorem dX8_yields_77 : decode cX8_yields 77 = .ok (.getfield 9, 3) := D_180 yB_cX8_yields rfl rfl rfl
theorem dX8_yields_80 : decode cX8_yields 80 = .ok (.iload_n 1, 1) := D_27 yB_cX8_yields rfl rfl
theorem dX8_yields_81 : decode cX8_yields 81 = .ok (.iconst 5, 1) := D_8 yB_cX8_yields rfl rfl
theorem dX8_yields_82 : decode cX8_yields 82 = .ok (.invokestatic 130, 3) := D_184 yB_cX8_yields rfl rfl rfl
theorem dX8_yields_85 : decode cX8_yields 85 = .ok (.istore 4, 2) := D_54 yB_cX8_yields rfl rfl rfl
theorem dX8_yields_87 : decode cX8_yields 87 = .ok (.aload_n 0, 1) := D_42 yB_cX8_yields rfl rfl
theorem dX8_yields_88 : decode cX8_yields 88 = .ok (.getfield 9, 3) := D_180 yB_cX8_yields rfl rfl rfl
theorem dX8_yields_91 : decode cX8_yields 91 = .ok (.iload_n 1, 1) := D_27 yB_cX8_yields rfl rfl
theorem dX8_yields_92 : decode cX8_yields 92 = .ok (.iload_n 2, 1) := D_28 yB_cX8_yields rfl rfl
theorem dX8_yields_93 : decode cX8_yields 93 = .ok (.iload_n 3, 1) := D_29 yB_cX8_yields rfl rfl
theorem dX8_yields_94 : decode cX8_yields 94 = .ok (.aload_n 0, 1) := D_42 yB_cX8_yields rfl rfl
theorem dX8_yields_95 : decode cX8_yields 95 = .ok (.getfield 9, 3) := D_180 yB_cX8_yields rfl rfl rfl
theorem dX8_yields_98 : decode cX8_yields 98 = .ok (.iload 4, 2) := D_21 yB_cX8_yields rfl rfl rfl
theorem dX8_yields_100 : decode cX8_yields 100 = .ok (.invokestatic 145, 3) := D_184 yB_cX8_yields rfl rfl rfl
theorem dX8_yields_103 : decode cX8_yields 103 = .ok (.ifCond .lt 8, 3) := D_155 yB_cX8_yields rfl rfl (sg_p (m := 32768) (N := 8) rfl rfl rfl)
theorem dX8_yields_106 : decode cX8_yields 106 = .ok (.bipush (-4), 2) := D_16 yB_cX8_yields rfl rfl (sg_n (m := 128) (N := 4) rfl rfl rfl)
theorem dX8_yields_108 : decode cX8_yields 108 = .ok (.goto 13, 3) := D_167 yB_cX8_yields rfl rfl (sg_p (m := 32768) (N := 13) rfl rfl rfl)
theorem dX8_yields_111 : decode cX8_yields 111 = .ok (.aload_n 0, 1) := D_42 yB_cX8_yields rfl rfl
theorem dX8_yields_112 : decode cX8_yields 112 = .ok (.getfield 9, 3) := D_180 yB_cX8_yields rfl rfl rfl
theorem dX8_yields_115 : decode cX8_yields 115 = .ok (.iload 4, 2) := D_21 yB_cX8_yields rfl rfl rfl
theorem dX8_yields_117 : decode cX8_yields 117 = .ok (.iconst 1, 1) := D_4 yB_cX8_yields rfl rfl
theorem dX8_yields_118 : decode cX8_yields 118 = .ok (.invokestatic 161, 3) := D_184 yB_cX8_yields rfl rfl rfl
theorem dX8_yields_121 : decode cX8_yields 121 = .ok (.invokestatic 200, 3) := D_184 yB_cX8_yields rfl rfl rfl
theorem dX8_yields_124 : decode cX8_yields 124 = .ok (.ireturn, 1) := D_172 yB_cX8_yields rfl rfl
def F_X8_yields (σ : Mem) (x1 : Int32) (x2 : Int32) (x3 : Int32) : Option (Int32) := (F_X8_isCart σ x1).bind fun r_1 => if r_1 = 0 then (some (-1)) else ((F_X8_isCart σ x2).bind fun r_3 => if r_3 = 0 then (some (-1)) else (if x1 = x2 then (some (-1)) else ((F_X8_isVillage σ x3).bind fun r_6 => if r_6 = 0 then (some (-1)) else ((F_X8_isOn σ 92 x1).bind fun r_8 => if r_8 = 0 then (some (-3)) else ((F_X8_isOn σ 92 x2).bind fun r_10 => if r_10 = 0 then (some (-3)) else ((F_X8_get σ 92 x1 0).bind fun r_12 => (F_X8_get σ 92 x2 0).bind fun r_13 => if r_12 = r_13 then (some (-3)) else ((F_X8_get σ 92 x1 5).bind fun r_15 => (F_X8_placeAt σ 92 r_15).bind fun r_16 => if r_16 < 0 then ((F_X8_pieceFrom σ 92 r_15 1).bind fun r_18 => (F_X8_backsOf σ 92 x1 x2 x3 r_18).bind fun r_19 => some r_19) else ((F_X8_backsOf σ 92 x1 x2 x3 (-4)).bind fun r_20 => some r_20))))))))
set_option maxHeartbeats 4000000 in
set_option maxRecDepth 100000 in
theorem c_X8_yields (l : Launch) (D : va_G) (cA : Nat → ClassId) (ad : Nat → Nat) (o : Int64) (σ : Mem) (x1 : Int32) (x2 : Int32) (x3 : Int32)  (res : Int32) (h : F_X8_yields σ x1 x2 x3 = some res) (sz : Nat) : Met l yX8_yields (WY yX8_yields cX8_yields 5 (some .int)) (RM 5) (va_Pc [.ref (ad 91), .int x1, .int x2, .int x3] (PW D cA ad o σ sz)) (va_Qi (fun r σ9 => r = res ∧ σ9 = σ) (QW D cA ad o) (FA ad sz)) 0 0 (FA ad sz) := by
  refine ct_of (own := RX8) (k := 5) (Qf := va_Qi (fun r σ9 => r = res ∧ σ9 = σ) (QW D cA ad o)) rfl (by decide) (Nat.le_of_ble_eq_true rfl) (fun p e s m below meth c ls C0 X hr hlk hP hl => ?_) sz
  have hS : va_S (FA ad s.heap.size) s.heap s.heap [] := va_S.rf
  have hl : lv_has ls 5 [(0, .ref (ad 91)), (1, .int x1), (2, .int x2), (3, .int x3)] := hl
  obtain ⟨hx, hb, hml, hown, hts⟩ := id C0
  unfold F_X8_yields at h
  refine lv_aload_n hx hb dX8_yields_0 rfl (lv_at hl 0 rfl) ?_
  refine lv_iload_n hx hb dX8_yields_1 rfl (lv_at hl 1 rfl) ?_
  obtain ⟨r_1, er_1, h⟩ := bnd h
  refine r_ci X hS (r_runV (As := [.int x1]) (rest := []) C0 X hP L_X8_127 (fun sz => c_X8_isCart l D cA ad o σ x1  r_1 er_1 sz) (show 91 < 106 ∧ kd 91 = (8, 24) from ⟨by decide, rfl⟩).1 (show 91 < 106 ∧ kd 91 = (8, 24) from ⟨by decide, rfl⟩).2 (by decide) rfl ⟨Nat.le_of_ble_eq_true rfl, Nat.le_of_ble_eq_true rfl⟩ rfl hl.1 rfl (Nat.le_of_ble_eq_true rfl) dX8_yields_2 ⟨Nat.zero_le _, Nat.zero_le _⟩) (fun r9 σ9 H locs hw hP hS => ?_)
  rw [hw.2] at hP
  rw [hw.1]
  refine lv_if_eq (tgt := 28) hx hb dX8_yields_5 (by decide) (fun c_2 => ?_) (fun c_2 => ?_)
  · replace h := it_t h c_2
    refine lv_iconst (v := (-1)) hx hb dX8_yields_28 (by decide) ?_
    exact r_iret C0 X hP hS hr hlk dX8_yields_29 ⟨Option.some.inj h, rfl⟩
  · replace h := it_f h c_2
    refine lv_aload_n hx hb dX8_yields_8 rfl (lv_at hl 0 rfl) ?_
    refine lv_iload_n hx hb dX8_yields_9 rfl (lv_at hl 2 rfl) ?_
    obtain ⟨r_3, er_3, h⟩ := bnd h
    refine r_ci X hS (r_runV (As := [.int x2]) (rest := []) C0 X hP L_X8_127 (fun sz => c_X8_isCart l D cA ad o σ x2  r_3 er_3 sz) (show 91 < 106 ∧ kd 91 = (8, 24) from ⟨by decide, rfl⟩).1 (show 91 < 106 ∧ kd 91 = (8, 24) from ⟨by decide, rfl⟩).2 (by decide) rfl ⟨Nat.le_of_ble_eq_true rfl, Nat.le_of_ble_eq_true rfl⟩ rfl hl.1 rfl (Nat.le_of_ble_eq_true rfl) dX8_yields_10 ⟨Nat.zero_le _, Nat.zero_le _⟩) (fun r9 σ9 H locs hw hP hS => ?_)
    rw [hw.2] at hP
    rw [hw.1]
    refine lv_if_eq (tgt := 28) hx hb dX8_yields_13 (by decide) (fun c_4 => ?_) (fun c_4 => ?_)
    · replace h := it_t h c_4
      refine lv_iconst (v := (-1)) hx hb dX8_yields_28 (by decide) ?_
      exact r_iret C0 X hP hS hr hlk dX8_yields_29 ⟨Option.some.inj h, rfl⟩
    · replace h := it_f h c_4
      refine lv_iload_n hx hb dX8_yields_16 rfl (lv_at hl 1 rfl) ?_
      refine lv_iload_n hx hb dX8_yields_17 rfl (lv_at hl 2 rfl) ?_
      refine lv_icmp_eq (tgt := 28) hx hb dX8_yields_18 (by decide) (fun c_5 => ?_) (fun c_5 => ?_)
      · replace h := it_t h c_5
        refine lv_iconst (v := (-1)) hx hb dX8_yields_28 (by decide) ?_
        exact r_iret C0 X hP hS hr hlk dX8_yields_29 ⟨Option.some.inj h, rfl⟩
      · replace h := it_f h c_5
        refine lv_iload_n hx hb dX8_yields_21 rfl (lv_at hl 3 rfl) ?_
        obtain ⟨r_6, er_6, h⟩ := bnd h
        refine r_ci X hS (r_runS (As := [.int x3]) (rest := []) C0 X hP L_X8_134 (fun sz => c_X8_isVillage l D cA ad o σ x3  r_6 er_6 sz) ⟨Nat.le_of_ble_eq_true rfl, Nat.le_of_ble_eq_true rfl⟩ rfl hl.1 rfl (Nat.le_of_ble_eq_true rfl) dX8_yields_22 ⟨Nat.zero_le _, Nat.zero_le _⟩) (fun r9 σ9 H locs hw hP hS => ?_)
        rw [hw.2] at hP
        rw [hw.1]
        refine lv_if_ne (tgt := 30) hx hb dX8_yields_25 (by decide) (fun c_7 => ?_) (fun c_7 => ?_)
        · replace h := it_f h c_7
          refine lv_aload_n hx hb dX8_yields_30 rfl (lv_at hl 0 rfl) ?_
          refine gf_X8_9 C0 X hP 91 (q := 92) ⟨by decide, rfl⟩ (by omega) rfl dX8_yields_31 ?_
          refine lv_iload_n hx hb dX8_yields_34 rfl (lv_at hl 1 rfl) ?_
          obtain ⟨r_8, er_8, h⟩ := bnd h
          refine r_ci X hS (r_runS (As := [.ref (ad 92), .int x1]) (rest := []) C0 X hP L_X8_157 (fun sz => c_X8_isOn l D cA ad o σ 92 x1 ⟨by decide, rfl⟩ r_8 er_8 sz) ⟨Nat.le_of_ble_eq_true rfl, Nat.le_of_ble_eq_true rfl⟩ rfl hl.1 rfl (Nat.le_of_ble_eq_true rfl) dX8_yields_35 ⟨Nat.zero_le _, Nat.zero_le _⟩) (fun r9 σ9 H locs hw hP hS => ?_)
          rw [hw.2] at hP
          rw [hw.1]
          refine lv_if_eq (tgt := 73) hx hb dX8_yields_38 (by decide) (fun c_9 => ?_) (fun c_9 => ?_)
          · replace h := it_t h c_9
            refine lv_bipush (v := (-3)) hx hb dX8_yields_73 (by decide) ?_
            exact r_iret C0 X hP hS hr hlk dX8_yields_75 ⟨Option.some.inj h, rfl⟩
          · replace h := it_f h c_9
            refine lv_aload_n hx hb dX8_yields_41 rfl (lv_at hl 0 rfl) ?_
            refine gf_X8_9 C0 X hP 91 (q := 92) ⟨by decide, rfl⟩ (by omega) rfl dX8_yields_42 ?_
            refine lv_iload_n hx hb dX8_yields_45 rfl (lv_at hl 2 rfl) ?_
            obtain ⟨r_10, er_10, h⟩ := bnd h
            refine r_ci X hS (r_runS (As := [.ref (ad 92), .int x2]) (rest := []) C0 X hP L_X8_157 (fun sz => c_X8_isOn l D cA ad o σ 92 x2 ⟨by decide, rfl⟩ r_10 er_10 sz) ⟨Nat.le_of_ble_eq_true rfl, Nat.le_of_ble_eq_true rfl⟩ rfl hl.1 rfl (Nat.le_of_ble_eq_true rfl) dX8_yields_46 ⟨Nat.zero_le _, Nat.zero_le _⟩) (fun r9 σ9 H locs hw hP hS => ?_)
            rw [hw.2] at hP
            rw [hw.1]
            refine lv_if_eq (tgt := 73) hx hb dX8_yields_49 (by decide) (fun c_11 => ?_) (fun c_11 => ?_)
            · replace h := it_t h c_11
              refine lv_bipush (v := (-3)) hx hb dX8_yields_73 (by decide) ?_
              exact r_iret C0 X hP hS hr hlk dX8_yields_75 ⟨Option.some.inj h, rfl⟩
            · replace h := it_f h c_11
              refine lv_aload_n hx hb dX8_yields_52 rfl (lv_at hl 0 rfl) ?_
              refine gf_X8_9 C0 X hP 91 (q := 92) ⟨by decide, rfl⟩ (by omega) rfl dX8_yields_53 ?_
              refine lv_iload_n hx hb dX8_yields_56 rfl (lv_at hl 1 rfl) ?_
              refine lv_iconst (v := 0) hx hb dX8_yields_57 (by decide) ?_
              obtain ⟨r_12, er_12, h⟩ := bnd h
              refine r_ci X hS (r_runS (As := [.ref (ad 92), .int x1, .int 0]) (rest := []) C0 X hP L_X8_130 (fun sz => c_X8_get l D cA ad o σ 92 x1 0 ⟨by decide, rfl⟩ r_12 er_12 sz) ⟨Nat.le_of_ble_eq_true rfl, Nat.le_of_ble_eq_true rfl⟩ rfl hl.1 rfl (Nat.le_of_ble_eq_true rfl) dX8_yields_58 ⟨Nat.zero_le _, Nat.zero_le _⟩) (fun r9 σ9 H locs hw hP hS => ?_)
              rw [hw.2] at hP
              rw [hw.1]
              refine lv_aload_n hx hb dX8_yields_61 rfl (lv_at hl 0 rfl) ?_
              refine gf_X8_9 C0 X hP 91 (q := 92) ⟨by decide, rfl⟩ (by omega) rfl dX8_yields_62 ?_
              refine lv_iload_n hx hb dX8_yields_65 rfl (lv_at hl 2 rfl) ?_
              refine lv_iconst (v := 0) hx hb dX8_yields_66 (by decide) ?_
              obtain ⟨r_13, er_13, h⟩ := bnd h
              refine r_ci X hS (r_runS (As := [.ref (ad 92), .int x2, .int 0]) (rest := [.int r_12]) C0 X hP L_X8_130 (fun sz => c_X8_get l D cA ad o σ 92 x2 0 ⟨by decide, rfl⟩ r_13 er_13 sz) ⟨Nat.le_of_ble_eq_true rfl, Nat.le_of_ble_eq_true rfl⟩ rfl hl.1 rfl (Nat.le_of_ble_eq_true rfl) dX8_yields_67 ⟨Nat.zero_le _, Nat.zero_le _⟩) (fun r9 σ9 H locs hw hP hS => ?_)
              rw [hw.2] at hP
              rw [hw.1]
              refine lv_icmp_ne (tgt := 76) hx hb dX8_yields_70 (by decide) (fun c_14 => ?_) (fun c_14 => ?_)
              · replace h := it_f h c_14
                refine lv_aload_n hx hb dX8_yields_76 rfl (lv_at hl 0 rfl) ?_
                refine gf_X8_9 C0 X hP 91 (q := 92) ⟨by decide, rfl⟩ (by omega) rfl dX8_yields_77 ?_
                refine lv_iload_n hx hb dX8_yields_80 rfl (lv_at hl 1 rfl) ?_
                refine lv_iconst (v := 5) hx hb dX8_yields_81 (by decide) ?_
                obtain ⟨r_15, er_15, h⟩ := bnd h
                refine r_ci X hS (r_runS (As := [.ref (ad 92), .int x1, .int 5]) (rest := []) C0 X hP L_X8_130 (fun sz => c_X8_get l D cA ad o σ 92 x1 5 ⟨by decide, rfl⟩ r_15 er_15 sz) ⟨Nat.le_of_ble_eq_true rfl, Nat.le_of_ble_eq_true rfl⟩ rfl hl.1 rfl (Nat.le_of_ble_eq_true rfl) dX8_yields_82 ⟨Nat.zero_le _, Nat.zero_le _⟩) (fun r9 σ9 H locs hw hP hS => ?_)
                rw [hw.2] at hP
                rw [hw.1]
                refine lv_istore (lv' := [(4, .int r_15), (0, .ref (ad 91)), (1, .int x1), (2, .int x2), (3, .int x3)]) hx hb dX8_yields_85 hl (by decide) rfl (fun ls hl => ?_)
                refine lv_aload_n hx hb dX8_yields_87 rfl (lv_at hl 1 rfl) ?_
                refine gf_X8_9 C0 X hP 91 (q := 92) ⟨by decide, rfl⟩ (by omega) rfl dX8_yields_88 ?_
                refine lv_iload_n hx hb dX8_yields_91 rfl (lv_at hl 2 rfl) ?_
                refine lv_iload_n hx hb dX8_yields_92 rfl (lv_at hl 3 rfl) ?_
                refine lv_iload_n hx hb dX8_yields_93 rfl (lv_at hl 4 rfl) ?_
                refine lv_aload_n hx hb dX8_yields_94 rfl (lv_at hl 1 rfl) ?_
                refine gf_X8_9 C0 X hP 91 (q := 92) ⟨by decide, rfl⟩ (by omega) rfl dX8_yields_95 ?_
                refine lv_iload hx hb dX8_yields_98 (lv_at hl 0 rfl) ?_
                obtain ⟨r_16, er_16, h⟩ := bnd h
                refine r_ci X hS (r_runS (As := [.ref (ad 92), .int r_15]) (rest := [.int x3, .int x2, .int x1, .ref (ad 92)]) C0 X hP L_X8_145 (fun sz => c_X8_placeAt l D cA ad o σ 92 r_15 ⟨by decide, rfl⟩ r_16 er_16 sz) ⟨Nat.le_of_ble_eq_true rfl, Nat.le_of_ble_eq_true rfl⟩ rfl hl.1 rfl (Nat.le_of_ble_eq_true rfl) dX8_yields_100 ⟨Nat.zero_le _, Nat.zero_le _⟩) (fun r9 σ9 H locs hw hP hS => ?_)
                rw [hw.2] at hP
                rw [hw.1]
                refine lv_if_lt (tgt := 111) hx hb dX8_yields_103 (by decide) (fun c_17 => ?_) (fun c_17 => ?_)
                · replace h := it_t h c_17
                  refine lv_aload_n hx hb dX8_yields_111 rfl (lv_at hl 1 rfl) ?_
                  refine gf_X8_9 C0 X hP 91 (q := 92) ⟨by decide, rfl⟩ (by omega) rfl dX8_yields_112 ?_
                  refine lv_iload hx hb dX8_yields_115 (lv_at hl 0 rfl) ?_
                  refine lv_iconst (v := 1) hx hb dX8_yields_117 (by decide) ?_
                  obtain ⟨r_18, er_18, h⟩ := bnd h
                  refine r_ci X hS (r_runS (As := [.ref (ad 92), .int r_15, .int 1]) (rest := [.int x3, .int x2, .int x1, .ref (ad 92)]) C0 X hP L_X8_161 (fun sz => c_X8_pieceFrom l D cA ad o σ 92 r_15 1 ⟨by decide, rfl⟩ r_18 er_18 sz) ⟨Nat.le_of_ble_eq_true rfl, Nat.le_of_ble_eq_true rfl⟩ rfl hl.1 rfl (Nat.le_of_ble_eq_true rfl) dX8_yields_118 ⟨Nat.zero_le _, Nat.zero_le _⟩) (fun r9 σ9 H locs hw hP hS => ?_)
                  rw [hw.2] at hP
                  rw [hw.1]
                  obtain ⟨r_19, er_19, h⟩ := bnd h
                  refine r_ci X hS (r_runS (As := [.ref (ad 92), .int x1, .int x2, .int x3, .int r_18]) (rest := []) C0 X hP L_X8_200 (fun sz => c_X8_backsOf l D cA ad o σ 92 x1 x2 x3 r_18 ⟨by decide, rfl⟩ r_19 er_19 sz) ⟨Nat.le_of_ble_eq_true rfl, Nat.le_of_ble_eq_true rfl⟩ rfl hl.1 rfl (Nat.le_of_ble_eq_true rfl) dX8_yields_121 ⟨Nat.zero_le _, Nat.zero_le _⟩) (fun r9 σ9 H locs hw hP hS => ?_)
                  rw [hw.2] at hP
                  rw [hw.1]
                  exact r_iret C0 X hP hS hr hlk dX8_yields_124 ⟨Option.some.inj h, rfl⟩
                · replace h := it_f h c_17
                  refine lv_bipush (v := (-4)) hx hb dX8_yields_106 (by decide) ?_
                  refine lv_goto (tgt := 121) hx hb dX8_yields_108 (by decide) ?_
                  obtain ⟨r_20, er_20, h⟩ := bnd h
                  refine r_ci X hS (r_runS (As := [.ref (ad 92), .int x1, .int x2, .int x3, .int (-4)]) (rest := []) C0 X hP L_X8_200 (fun sz => c_X8_backsOf l D cA ad o σ 92 x1 x2 x3 (-4) ⟨by decide, rfl⟩ r_20 er_20 sz) ⟨Nat.le_of_ble_eq_true rfl, Nat.le_of_ble_eq_true rfl⟩ rfl hl.1 rfl (Nat.le_of_ble_eq_true rfl) dX8_yields_121 ⟨Nat.zero_le _, Nat.zero_le _⟩) (fun r9 σ9 H locs hw hP hS => ?_)
                  rw [hw.2] at hP
                  rw [hw.1]
                  exact r_iret C0 X hP hS hr hlk dX8_yields_124 ⟨Option.some.inj h, rfl⟩
              · replace h := it_t h c_14
                refine lv_bipush (v := (-3)) hx hb dX8_yields_73 (by decide) ?_
                exact r_iret C0 X hP hS hr hlk dX8_yields_75 ⟨Option.some.inj h, rfl⟩
        · replace h := it_t h c_7
          refine lv_iconst (v := (-1)) hx hb dX8_yields_28 (by decide) ?_
          exact r_iret C0 X hP hS hr hlk dX8_yields_29 ⟨Option.some.inj h, rfl⟩
