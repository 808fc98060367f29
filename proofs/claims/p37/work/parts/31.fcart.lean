def bB_cX8_isIn : Nat := 0xac030400a70407009d9404161e0e009b94201e
theorem yB_cX8_isIn : BYS cX8_isIn 19 bB_cX8_isIn := BYS_of (by decide +kernel)
theorem dX8_isIn_0 : decode cX8_isIn 0 = .ok (.lload_n 0, 1) := D_30 yB_cX8_isIn rfl rfl
theorem dX8_isIn_1 : decode cX8_isIn 1 = .ok (.lload_n 2, 1) := D_32 yB_cX8_isIn rfl rfl
theorem dX8_isIn_2 : decode cX8_isIn 2 = .ok (.lcmp, 1) := D_148 yB_cX8_isIn rfl rfl
theorem dX8_isIn_3 : decode cX8_isIn 3 = .ok (.ifCond .lt 14, 3) := D_155 yB_cX8_isIn rfl rfl (sg_p (m := 32768) (N := 14) rfl rfl rfl)
theorem dX8_isIn_6 : decode cX8_isIn 6 = .ok (.lload_n 0, 1) := D_30 yB_cX8_isIn rfl rfl
theorem dX8_isIn_7 : decode cX8_isIn 7 = .ok (.lload 4, 2) := D_22 yB_cX8_isIn rfl rfl rfl
theorem dX8_isIn_9 : decode cX8_isIn 9 = .ok (.lcmp, 1) := D_148 yB_cX8_isIn rfl rfl
theorem dX8_isIn_10 : decode cX8_isIn 10 = .ok (.ifCond .gt 7, 3) := D_157 yB_cX8_isIn rfl rfl (sg_p (m := 32768) (N := 7) rfl rfl rfl)
theorem dX8_isIn_13 : decode cX8_isIn 13 = .ok (.iconst 1, 1) := D_4 yB_cX8_isIn rfl rfl
theorem dX8_isIn_14 : decode cX8_isIn 14 = .ok (.goto 4, 3) := D_167 yB_cX8_isIn rfl rfl (sg_p (m := 32768) (N := 4) rfl rfl rfl)
theorem dX8_isIn_17 : decode cX8_isIn 17 = .ok (.iconst 0, 1) := D_3 yB_cX8_isIn rfl rfl
theorem dX8_isIn_18 : decode cX8_isIn 18 = .ok (.ireturn, 1) := D_172 yB_cX8_isIn rfl rfl
set_option maxHeartbeats 4000000 in
set_option maxRecDepth 100000 in
theorem c_X8_isIn (l : Launch) (D : va_G) (cA : Nat → ClassId) (ad : Nat → Nat) (o : Int64) (σ : Mem) (a : Int32) (b : Int32) (q : Int32)  (sz : Nat) : Met l yX8_isIn (WY yX8_isIn cX8_isIn 6 (some .boolean)) (RM 0) (va_Pc [.long (a.toInt64), .long (b.toInt64), .long (q.toInt64)] (PW D cA ad o σ sz)) (va_Qi (fun r σ9 => (((b ≤ a ∧ a ≤ q) ∧ r = 1) ∨ ((a < b ∨ q < a) ∧ r = 0)) ∧ σ9 = σ) (QW D cA ad o) (FA ad sz)) 0 0 (FA ad sz) := by
  refine ct_of (own := RX8) (k := 0) (Qf := va_Qi (fun r σ9 => (((b ≤ a ∧ a ≤ q) ∧ r = 1) ∨ ((a < b ∨ q < a) ∧ r = 0)) ∧ σ9 = σ) (QW D cA ad o)) rfl (by decide) (Nat.le_of_ble_eq_true rfl) (fun p e s m below meth c ls C0 X hr hlk hP hl => ?_) sz
  have hS : va_S (FA ad s.heap.size) s.heap s.heap [] := va_S.rf
  have hl : lv_has ls 6 [(0, .long (a.toInt64)), (2, .long (b.toInt64)), (4, .long (q.toInt64))] := hl
  obtain ⟨hx, hb, hml, hown, hts⟩ := id C0
  refine lv_lload_n hx hb dX8_isIn_0 rfl (lv_at hl 0 rfl) ?_
  refine lv_lload_n hx hb dX8_isIn_1 rfl (lv_at hl 1 rfl) ?_
  refine W.lcmp hx hb dX8_isIn_2 ?_
  refine lv_if_lt (tgt := 17) hx hb dX8_isIn_3 (by decide) (fun c_1 => ?_) (fun c_1 => ?_)
  · refine lv_iconst (v := 0) hx hb dX8_isIn_17 (by decide) ?_
    exact r_zret C0 X hP hS hr hlk dX8_isIn_18 (Or.inl rfl) ⟨Or.inr ⟨Or.inl (i2l_lt.mp ((lg_cmp_lt _ _).mp c_1)), rfl⟩, rfl⟩
  · refine lv_lload_n hx hb dX8_isIn_6 rfl (lv_at hl 0 rfl) ?_
    refine lv_lload hx hb dX8_isIn_7 (lv_at hl 2 rfl) ?_
    refine W.lcmp hx hb dX8_isIn_9 ?_
    refine lv_if_gt (tgt := 17) hx hb dX8_isIn_10 (by decide) (fun c_2 => ?_) (fun c_2 => ?_)
    · refine lv_iconst (v := 0) hx hb dX8_isIn_17 (by decide) ?_
      exact r_zret C0 X hP hS hr hlk dX8_isIn_18 (Or.inl rfl) ⟨Or.inr ⟨Or.inr (i2l_lt.mp ((lg_cmp_gt _ _).mp c_2)), rfl⟩, rfl⟩
    · refine lv_iconst (v := 1) hx hb dX8_isIn_13 (by decide) ?_
      refine lv_goto (tgt := 18) hx hb dX8_isIn_14 (by decide) ?_
      exact r_zret C0 X hP hS hr hlk dX8_isIn_18 (Or.inr rfl) ⟨Or.inl ⟨⟨i2l_le.mp ((lg_cmp_ge _ _).mp (Int32.not_lt.mp c_1)), i2l_le.mp ((lg_cmp_le _ _).mp (Int32.not_lt.mp c_2))⟩, rfl⟩, rfl⟩
def bB_cX0_beginBacking : Nat := 0xb12500b5032a2200b5042a
theorem yB_cX0_beginBacking : BYS cX0_beginBacking 11 bB_cX0_beginBacking := BYS_of (by decide +kernel)
theorem dX0_beginBacking_0 : decode cX0_beginBacking 0 = .ok (.aload_n 0, 1) := D_42 yB_cX0_beginBacking rfl rfl
theorem dX0_beginBacking_1 : decode cX0_beginBacking 1 = .ok (.iconst 1, 1) := D_4 yB_cX0_beginBacking rfl rfl
theorem dX0_beginBacking_2 : decode cX0_beginBacking 2 = .ok (.putfield 34, 3) := D_181 yB_cX0_beginBacking rfl rfl rfl
theorem dX0_beginBacking_5 : decode cX0_beginBacking 5 = .ok (.aload_n 0, 1) := D_42 yB_cX0_beginBacking rfl rfl
theorem dX0_beginBacking_6 : decode cX0_beginBacking 6 = .ok (.iconst 0, 1) := D_3 yB_cX0_beginBacking rfl rfl
theorem dX0_beginBacking_7 : decode cX0_beginBacking 7 = .ok (.putfield 37, 3) := D_181 yB_cX0_beginBacking rfl rfl rfl
theorem dX0_beginBacking_10 : decode cX0_beginBacking 10 = .ok (.return_, 1) := D_177 yB_cX0_beginBacking rfl rfl
def F_X0_beginBacking (σ : Mem) (i : Nat) : Option (Mem) := some (stm (stm σ i 7 1) i 8 0)
set_option maxHeartbeats 4000000 in
set_option maxRecDepth 100000 in
theorem c_X0_beginBacking (l : Launch) (D : va_G) (cA : Nat → ClassId) (ad : Nat → Nat) (o : Int64) (σ : Mem) (i : Nat) (hi : i < 106 ∧ kd i = (0, 12)) (res : Mem) (h : F_X0_beginBacking σ i = some res) (sz : Nat) : Met l yX0_beginBacking (WY yX0_beginBacking cX0_beginBacking 1 none) (RM 0) (va_Pc [.ref (ad i)] (PW D cA ad o σ sz)) (va_Qv (fun σ9 => σ9 = res) (QW D cA ad o) (FA ad sz)) 0 0 (FA ad sz) := by
  refine ct_of (own := RX0) (k := 0) (Qf := va_Qv (fun σ9 => σ9 = res) (QW D cA ad o)) rfl (by decide) (Nat.le_of_ble_eq_true rfl) (fun p e s m below meth c ls C0 X hr hlk hP hl => ?_) sz
  have hS : va_S (FA ad s.heap.size) s.heap s.heap [] := va_S.rf
  have hl : lv_has ls 1 [(0, .ref (ad i))] := hl
  obtain ⟨hx, hb, hml, hown, hts⟩ := id C0
  unfold F_X0_beginBacking at h
  refine lv_aload_n hx hb dX0_beginBacking_0 rfl (lv_at hl 0 rfl) ?_
  refine lv_iconst (v := 1) hx hb dX0_beginBacking_1 (by decide) ?_
  refine pf_X0_34 C0 X hP hS i (Or.inr rfl) hi dX0_beginBacking_2 (fun H locs hP hS => ?_)
  refine lv_aload_n hx hb dX0_beginBacking_5 rfl (lv_at hl 0 rfl) ?_
  refine lv_iconst (v := 0) hx hb dX0_beginBacking_6 (by decide) ?_
  refine pf_X0_37 C0 X hP hS i (Or.inl rfl) hi dX0_beginBacking_7 (fun H locs hP hS => ?_)
  exact r_vret C0 X hP hS hr hlk dX0_beginBacking_10 (Option.some.inj h)
def bB_cX0_spotAhead : Nat := 0xac64040900b42a0900a760040900b42a0c00990f00b42a
theorem yB_cX0_spotAhead : BYS cX0_spotAhead 23 bB_cX0_spotAhead := BYS_of (by decide +kernel)
theorem dX0_spotAhead_0 : decode cX0_spotAhead 0 = .ok (.aload_n 0, 1) := D_42 yB_cX0_spotAhead rfl rfl
theorem dX0_spotAhead_1 : decode cX0_spotAhead 1 = .ok (.getfield 15, 3) := D_180 yB_cX0_spotAhead rfl rfl rfl
theorem dX0_spotAhead_4 : decode cX0_spotAhead 4 = .ok (.ifCond .eq 12, 3) := D_153 yB_cX0_spotAhead rfl rfl (sg_p (m := 32768) (N := 12) rfl rfl rfl)
theorem dX0_spotAhead_7 : decode cX0_spotAhead 7 = .ok (.aload_n 0, 1) := D_42 yB_cX0_spotAhead rfl rfl
theorem dX0_spotAhead_8 : decode cX0_spotAhead 8 = .ok (.getfield 9, 3) := D_180 yB_cX0_spotAhead rfl rfl rfl
theorem dX0_spotAhead_11 : decode cX0_spotAhead 11 = .ok (.iconst 1, 1) := D_4 yB_cX0_spotAhead rfl rfl
theorem dX0_spotAhead_12 : decode cX0_spotAhead 12 = .ok (.iadd, 1) := D_96 yB_cX0_spotAhead rfl rfl
theorem dX0_spotAhead_13 : decode cX0_spotAhead 13 = .ok (.goto 9, 3) := D_167 yB_cX0_spotAhead rfl rfl (sg_p (m := 32768) (N := 9) rfl rfl rfl)
theorem dX0_spotAhead_16 : decode cX0_spotAhead 16 = .ok (.aload_n 0, 1) := D_42 yB_cX0_spotAhead rfl rfl
theorem dX0_spotAhead_17 : decode cX0_spotAhead 17 = .ok (.getfield 9, 3) := D_180 yB_cX0_spotAhead rfl rfl rfl
theorem dX0_spotAhead_20 : decode cX0_spotAhead 20 = .ok (.iconst 1, 1) := D_4 yB_cX0_spotAhead rfl rfl
theorem dX0_spotAhead_21 : decode cX0_spotAhead 21 = .ok (.isub, 1) := D_100 yB_cX0_spotAhead rfl rfl
theorem dX0_spotAhead_22 : decode cX0_spotAhead 22 = .ok (.ireturn, 1) := D_172 yB_cX0_spotAhead rfl rfl
def F_X0_spotAhead (σ : Mem) (i : Nat) : Option (Int32) := if (σ i 0) = 0 then (some ((σ i 6) - 1)) else (some ((σ i 6) + 1))
set_option maxHeartbeats 4000000 in
set_option maxRecDepth 100000 in
theorem c_X0_spotAhead (l : Launch) (D : va_G) (cA : Nat → ClassId) (ad : Nat → Nat) (o : Int64) (σ : Mem) (i : Nat) (hi : i < 106 ∧ kd i = (0, 12)) (res : Int32) (h : F_X0_spotAhead σ i = some res) (sz : Nat) : Met l yX0_spotAhead (WY yX0_spotAhead cX0_spotAhead 1 (some .int)) (RM 0) (va_Pc [.ref (ad i)] (PW D cA ad o σ sz)) (va_Qi (fun r σ9 => r = res ∧ σ9 = σ) (QW D cA ad o) (FA ad sz)) 0 0 (FA ad sz) := by
  refine ct_of (own := RX0) (k := 0) (Qf := va_Qi (fun r σ9 => r = res ∧ σ9 = σ) (QW D cA ad o)) rfl (by decide) (Nat.le_of_ble_eq_true rfl) (fun p e s m below meth c ls C0 X hr hlk hP hl => ?_) sz
  have hS : va_S (FA ad s.heap.size) s.heap s.heap [] := va_S.rf
  have hl : lv_has ls 1 [(0, .ref (ad i))] := hl
  obtain ⟨hx, hb, hml, hown, hts⟩ := id C0
  unfold F_X0_spotAhead at h
  refine lv_aload_n hx hb dX0_spotAhead_0 rfl (lv_at hl 0 rfl) ?_
  refine gf_X0_15 C0 X hP i hi dX0_spotAhead_1 ?_
  refine lv_if_eq (tgt := 16) hx hb dX0_spotAhead_4 (by decide) (fun c_1 => ?_) (fun c_1 => ?_)
  · replace h := it_t h c_1
    refine lv_aload_n hx hb dX0_spotAhead_16 rfl (lv_at hl 0 rfl) ?_
    refine gf_X0_9 C0 X hP i hi dX0_spotAhead_17 ?_
    refine lv_iconst (v := 1) hx hb dX0_spotAhead_20 (by decide) ?_
    refine lv_isub hx hb dX0_spotAhead_21 ?_
    exact r_iret C0 X hP hS hr hlk dX0_spotAhead_22 ⟨Option.some.inj h, rfl⟩
  · replace h := it_f h c_1
    refine lv_aload_n hx hb dX0_spotAhead_7 rfl (lv_at hl 0 rfl) ?_
    refine gf_X0_9 C0 X hP i hi dX0_spotAhead_8 ?_
    refine lv_iconst (v := 1) hx hb dX0_spotAhead_11 (by decide) ?_
    refine lv_iadd hx hb dX0_spotAhead_12 ?_
    refine lv_goto (tgt := 22) hx hb dX0_spotAhead_13 (by decide) ?_
    exact r_iret C0 X hP hS hr hlk dX0_spotAhead_22 ⟨Option.some.inj h, rfl⟩
def bB_cX0_spotBehind : Nat := 0xac60040900b42a0900a764040900b42a0c00990f00b42a
theorem yB_cX0_spotBehind : BYS cX0_spotBehind 23 bB_cX0_spotBehind := BYS_of (by decide +kernel)
theorem dX0_spotBehind_0 : decode cX0_spotBehind 0 = .ok (.aload_n 0, 1) := D_42 yB_cX0_spotBehind rfl rfl
theorem dX0_spotBehind_1 : decode cX0_spotBehind 1 = .ok (.getfield 15, 3) := D_180 yB_cX0_spotBehind rfl rfl rfl
theorem dX0_spotBehind_4 : decode cX0_spotBehind 4 = .ok (.ifCond .eq 12, 3) := D_153 yB_cX0_spotBehind rfl rfl (sg_p (m := 32768) (N := 12) rfl rfl rfl)
theorem dX0_spotBehind_7 : decode cX0_spotBehind 7 = .ok (.aload_n 0, 1) := D_42 yB_cX0_spotBehind rfl rfl
theorem dX0_spotBehind_8 : decode cX0_spotBehind 8 = .ok (.getfield 9, 3) := D_180 yB_cX0_spotBehind rfl rfl rfl
theorem dX0_spotBehind_11 : decode cX0_spotBehind 11 = .ok (.iconst 1, 1) := D_4 yB_cX0_spotBehind rfl rfl
theorem dX0_spotBehind_12 : decode cX0_spotBehind 12 = .ok (.isub, 1) := D_100 yB_cX0_spotBehind rfl rfl
theorem dX0_spotBehind_13 : decode cX0_spotBehind 13 = .ok (.goto 9, 3) := D_167 yB_cX0_spotBehind rfl rfl (sg_p (m := 32768) (N := 9) rfl rfl rfl)
theorem dX0_spotBehind_16 : decode cX0_spotBehind 16 = .ok (.aload_n 0, 1) := D_42 yB_cX0_spotBehind rfl rfl
theorem dX0_spotBehind_17 : decode cX0_spotBehind 17 = .ok (.getfield 9, 3) := D_180 yB_cX0_spotBehind rfl rfl rfl
theorem dX0_spotBehind_20 : decode cX0_spotBehind 20 = .ok (.iconst 1, 1) := D_4 yB_cX0_spotBehind rfl rfl
theorem dX0_spotBehind_21 : decode cX0_spotBehind 21 = .ok (.iadd, 1) := D_96 yB_cX0_spotBehind rfl rfl
theorem dX0_spotBehind_22 : decode cX0_spotBehind 22 = .ok (.ireturn, 1) := D_172 yB_cX0_spotBehind rfl rfl
def F_X0_spotBehind (σ : Mem) (i : Nat) : Option (Int32) := if (σ i 0) = 0 then (some ((σ i 6) + 1)) else (some ((σ i 6) - 1))
set_option maxHeartbeats 4000000 in
set_option maxRecDepth 100000 in
theorem c_X0_spotBehind (l : Launch) (D : va_G) (cA : Nat → ClassId) (ad : Nat → Nat) (o : Int64) (σ : Mem) (i : Nat) (hi : i < 106 ∧ kd i = (0, 12)) (res : Int32) (h : F_X0_spotBehind σ i = some res) (sz : Nat) : Met l yX0_spotBehind (WY yX0_spotBehind cX0_spotBehind 1 (some .int)) (RM 0) (va_Pc [.ref (ad i)] (PW D cA ad o σ sz)) (va_Qi (fun r σ9 => r = res ∧ σ9 = σ) (QW D cA ad o) (FA ad sz)) 0 0 (FA ad sz) := by
  refine ct_of (own := RX0) (k := 0) (Qf := va_Qi (fun r σ9 => r = res ∧ σ9 = σ) (QW D cA ad o)) rfl (by decide) (Nat.le_of_ble_eq_true rfl) (fun p e s m below meth c ls C0 X hr hlk hP hl => ?_) sz
  have hS : va_S (FA ad s.heap.size) s.heap s.heap [] := va_S.rf
  have hl : lv_has ls 1 [(0, .ref (ad i))] := hl
  obtain ⟨hx, hb, hml, hown, hts⟩ := id C0
  unfold F_X0_spotBehind at h
  refine lv_aload_n hx hb dX0_spotBehind_0 rfl (lv_at hl 0 rfl) ?_
  refine gf_X0_15 C0 X hP i hi dX0_spotBehind_1 ?_
  refine lv_if_eq (tgt := 16) hx hb dX0_spotBehind_4 (by decide) (fun c_1 => ?_) (fun c_1 => ?_)
  · replace h := it_t h c_1
    refine lv_aload_n hx hb dX0_spotBehind_16 rfl (lv_at hl 0 rfl) ?_
    refine gf_X0_9 C0 X hP i hi dX0_spotBehind_17 ?_
    refine lv_iconst (v := 1) hx hb dX0_spotBehind_20 (by decide) ?_
    refine lv_iadd hx hb dX0_spotBehind_21 ?_
    exact r_iret C0 X hP hS hr hlk dX0_spotBehind_22 ⟨Option.some.inj h, rfl⟩
  · replace h := it_f h c_1
    refine lv_aload_n hx hb dX0_spotBehind_7 rfl (lv_at hl 0 rfl) ?_
    refine gf_X0_9 C0 X hP i hi dX0_spotBehind_8 ?_
    refine lv_iconst (v := 1) hx hb dX0_spotBehind_11 (by decide) ?_
    refine lv_isub hx hb dX0_spotBehind_12 ?_
    refine lv_goto (tgt := 22) hx hb dX0_spotBehind_13 (by decide) ?_
    exact r_iret C0 X hP hS hr hlk dX0_spotBehind_22 ⟨Option.some.inj h, rfl⟩
def bB_cX0_isSlowOn : Nat := 0xac030400a7040700a0050400a7040700990f00b42a1b1700991300b42a
theorem yB_cX0_isSlowOn : BYS cX0_isSlowOn 29 bB_cX0_isSlowOn := BYS_of (by decide +kernel)
theorem dX0_isSlowOn_0 : decode cX0_isSlowOn 0 = .ok (.aload_n 0, 1) := D_42 yB_cX0_isSlowOn rfl rfl
theorem dX0_isSlowOn_1 : decode cX0_isSlowOn 1 = .ok (.getfield 19, 3) := D_180 yB_cX0_isSlowOn rfl rfl rfl
theorem dX0_isSlowOn_4 : decode cX0_isSlowOn 4 = .ok (.ifCond .eq 23, 3) := D_153 yB_cX0_isSlowOn rfl rfl (sg_p (m := 32768) (N := 23) rfl rfl rfl)
theorem dX0_isSlowOn_7 : decode cX0_isSlowOn 7 = .ok (.iload_n 1, 1) := D_27 yB_cX0_isSlowOn rfl rfl
theorem dX0_isSlowOn_8 : decode cX0_isSlowOn 8 = .ok (.aload_n 0, 1) := D_42 yB_cX0_isSlowOn rfl rfl
theorem dX0_isSlowOn_9 : decode cX0_isSlowOn 9 = .ok (.getfield 15, 3) := D_180 yB_cX0_isSlowOn rfl rfl rfl
theorem dX0_isSlowOn_12 : decode cX0_isSlowOn 12 = .ok (.ifCond .eq 7, 3) := D_153 yB_cX0_isSlowOn rfl rfl (sg_p (m := 32768) (N := 7) rfl rfl rfl)
theorem dX0_isSlowOn_15 : decode cX0_isSlowOn 15 = .ok (.iconst 1, 1) := D_4 yB_cX0_isSlowOn rfl rfl
theorem dX0_isSlowOn_16 : decode cX0_isSlowOn 16 = .ok (.goto 4, 3) := D_167 yB_cX0_isSlowOn rfl rfl (sg_p (m := 32768) (N := 4) rfl rfl rfl)
theorem dX0_isSlowOn_19 : decode cX0_isSlowOn 19 = .ok (.iconst 2, 1) := D_5 yB_cX0_isSlowOn rfl rfl
theorem dX0_isSlowOn_20 : decode cX0_isSlowOn 20 = .ok (.if_icmp .ne 7, 3) := D_160 yB_cX0_isSlowOn rfl rfl (sg_p (m := 32768) (N := 7) rfl rfl rfl)
theorem dX0_isSlowOn_23 : decode cX0_isSlowOn 23 = .ok (.iconst 1, 1) := D_4 yB_cX0_isSlowOn rfl rfl
theorem dX0_isSlowOn_24 : decode cX0_isSlowOn 24 = .ok (.goto 4, 3) := D_167 yB_cX0_isSlowOn rfl rfl (sg_p (m := 32768) (N := 4) rfl rfl rfl)
theorem dX0_isSlowOn_27 : decode cX0_isSlowOn 27 = .ok (.iconst 0, 1) := D_3 yB_cX0_isSlowOn rfl rfl
theorem dX0_isSlowOn_28 : decode cX0_isSlowOn 28 = .ok (.ireturn, 1) := D_172 yB_cX0_isSlowOn rfl rfl
def F_X0_isSlowOn (σ : Mem) (i : Nat) (x1 : Int32) : Option (Int32) := if (σ i 1) = 0 then (some 0) else (if (σ i 0) = 0 then (if x1 = 2 then (some 1) else (some 0)) else (if x1 = 1 then (some 1) else (some 0)))
set_option maxHeartbeats 4000000 in
set_option maxRecDepth 100000 in
theorem c_X0_isSlowOn (l : Launch) (D : va_G) (cA : Nat → ClassId) (ad : Nat → Nat) (o : Int64) (σ : Mem) (i : Nat) (x1 : Int32) (hi : i < 106 ∧ kd i = (0, 12)) (res : Int32) (h : F_X0_isSlowOn σ i x1 = some res) (sz : Nat) : Met l yX0_isSlowOn (WY yX0_isSlowOn cX0_isSlowOn 2 (some .boolean)) (RM 0) (va_Pc [.ref (ad i), .int x1] (PW D cA ad o σ sz)) (va_Qi (fun r σ9 => r = res ∧ σ9 = σ) (QW D cA ad o) (FA ad sz)) 0 0 (FA ad sz) := by
  refine ct_of (own := RX0) (k := 0) (Qf := va_Qi (fun r σ9 => r = res ∧ σ9 = σ) (QW D cA ad o)) rfl (by decide) (Nat.le_of_ble_eq_true rfl) (fun p e s m below meth c ls C0 X hr hlk hP hl => ?_) sz
  have hS : va_S (FA ad s.heap.size) s.heap s.heap [] := va_S.rf
  have hl : lv_has ls 2 [(0, .ref (ad i)), (1, .int x1)] := hl
  obtain ⟨hx, hb, hml, hown, hts⟩ := id C0
  unfold F_X0_isSlowOn at h
  refine lv_aload_n hx hb dX0_isSlowOn_0 rfl (lv_at hl 0 rfl) ?_
  refine gf_X0_19 C0 X hP i hi dX0_isSlowOn_1 ?_
  refine lv_if_eq (tgt := 27) hx hb dX0_isSlowOn_4 (by decide) (fun c_1 => ?_) (fun c_1 => ?_)
  · replace h := it_t h c_1
    refine lv_iconst (v := 0) hx hb dX0_isSlowOn_27 (by decide) ?_
    exact r_zret C0 X hP hS hr hlk dX0_isSlowOn_28 (Or.inl rfl) ⟨Option.some.inj h, rfl⟩
  · replace h := it_f h c_1
    refine lv_iload_n hx hb dX0_isSlowOn_7 rfl (lv_at hl 1 rfl) ?_
    refine lv_aload_n hx hb dX0_isSlowOn_8 rfl (lv_at hl 0 rfl) ?_
    refine gf_X0_15 C0 X hP i hi dX0_isSlowOn_9 ?_
    refine lv_if_eq (tgt := 19) hx hb dX0_isSlowOn_12 (by decide) (fun c_2 => ?_) (fun c_2 => ?_)
    · replace h := it_t h c_2
      refine lv_iconst (v := 2) hx hb dX0_isSlowOn_19 (by decide) ?_
      refine lv_icmp_ne (tgt := 27) hx hb dX0_isSlowOn_20 (by decide) (fun c_3 => ?_) (fun c_3 => ?_)
      · replace h := it_f h c_3
        refine lv_iconst (v := 0) hx hb dX0_isSlowOn_27 (by decide) ?_
        exact r_zret C0 X hP hS hr hlk dX0_isSlowOn_28 (Or.inl rfl) ⟨Option.some.inj h, rfl⟩
      · replace h := it_t h c_3
        refine lv_iconst (v := 1) hx hb dX0_isSlowOn_23 (by decide) ?_
        refine lv_goto (tgt := 28) hx hb dX0_isSlowOn_24 (by decide) ?_
        exact r_zret C0 X hP hS hr hlk dX0_isSlowOn_28 (Or.inr rfl) ⟨Option.some.inj h, rfl⟩
    · replace h := it_f h c_2
      refine lv_iconst (v := 1) hx hb dX0_isSlowOn_15 (by decide) ?_
      refine lv_goto (tgt := 20) hx hb dX0_isSlowOn_16 (by decide) ?_
      refine lv_icmp_ne (tgt := 27) hx hb dX0_isSlowOn_20 (by decide) (fun c_4 => ?_) (fun c_4 => ?_)
      · replace h := it_f h c_4
        refine lv_iconst (v := 0) hx hb dX0_isSlowOn_27 (by decide) ?_
        exact r_zret C0 X hP hS hr hlk dX0_isSlowOn_28 (Or.inl rfl) ⟨Option.some.inj h, rfl⟩
      · replace h := it_t h c_4
        refine lv_iconst (v := 1) hx hb dX0_isSlowOn_23 (by decide) ?_
        refine lv_goto (tgt := 28) hx hb dX0_isSlowOn_24 (by decide) ?_
        exact r_zret C0 X hP hS hr hlk dX0_isSlowOn_28 (Or.inr rfl) ⟨Option.some.inj h, rfl⟩
def bB_cX4_isBetween : Nat := 0xac030400a7040700a208101b0d00a22d00b42a1b15009e1b
theorem yB_cX4_isBetween : BYS cX4_isBetween 24 bB_cX4_isBetween := BYS_of (by decide +kernel)
theorem dX4_isBetween_0 : decode cX4_isBetween 0 = .ok (.iload_n 1, 1) := D_27 yB_cX4_isBetween rfl rfl
theorem dX4_isBetween_1 : decode cX4_isBetween 1 = .ok (.ifCond .le 21, 3) := D_158 yB_cX4_isBetween rfl rfl (sg_p (m := 32768) (N := 21) rfl rfl rfl)
theorem dX4_isBetween_4 : decode cX4_isBetween 4 = .ok (.iload_n 1, 1) := D_27 yB_cX4_isBetween rfl rfl
theorem dX4_isBetween_5 : decode cX4_isBetween 5 = .ok (.aload_n 0, 1) := D_42 yB_cX4_isBetween rfl rfl
theorem dX4_isBetween_6 : decode cX4_isBetween 6 = .ok (.getfield 45, 3) := D_180 yB_cX4_isBetween rfl rfl rfl
theorem dX4_isBetween_9 : decode cX4_isBetween 9 = .ok (.if_icmp .ge 13, 3) := D_162 yB_cX4_isBetween rfl rfl (sg_p (m := 32768) (N := 13) rfl rfl rfl)
theorem dX4_isBetween_12 : decode cX4_isBetween 12 = .ok (.iload_n 1, 1) := D_27 yB_cX4_isBetween rfl rfl
theorem dX4_isBetween_13 : decode cX4_isBetween 13 = .ok (.bipush 8, 2) := D_16 yB_cX4_isBetween rfl rfl (sg_p (m := 128) (N := 8) rfl rfl rfl)
theorem dX4_isBetween_15 : decode cX4_isBetween 15 = .ok (.if_icmp .ge 7, 3) := D_162 yB_cX4_isBetween rfl rfl (sg_p (m := 32768) (N := 7) rfl rfl rfl)
theorem dX4_isBetween_18 : decode cX4_isBetween 18 = .ok (.iconst 1, 1) := D_4 yB_cX4_isBetween rfl rfl
theorem dX4_isBetween_19 : decode cX4_isBetween 19 = .ok (.goto 4, 3) := D_167 yB_cX4_isBetween rfl rfl (sg_p (m := 32768) (N := 4) rfl rfl rfl)
theorem dX4_isBetween_22 : decode cX4_isBetween 22 = .ok (.iconst 0, 1) := D_3 yB_cX4_isBetween rfl rfl
theorem dX4_isBetween_23 : decode cX4_isBetween 23 = .ok (.ireturn, 1) := D_172 yB_cX4_isBetween rfl rfl
def F_X4_isBetween (σ : Mem) (t : Nat) (x1 : Int32) : Option (Int32) := if x1 ≤ 0 then (some 0) else (if (σ (22 * t + 1) 0) ≤ x1 then (some 0) else (if 8 ≤ x1 then (some 0) else (some 1)))
set_option maxHeartbeats 4000000 in
set_option maxRecDepth 100000 in
theorem c_X4_isBetween (l : Launch) (D : va_G) (cA : Nat → ClassId) (ad : Nat → Nat) (o : Int64) (σ : Mem) (t : Nat) (x1 : Int32) (ht : t < 3) (res : Int32) (h : F_X4_isBetween σ t x1 = some res) (sz : Nat) : Met l yX4_isBetween (WY yX4_isBetween cX4_isBetween 2 (some .boolean)) (RM 0) (va_Pc [.ref (ad (22 * t + 1)), .int x1] (PW D cA ad o σ sz)) (va_Qi (fun r σ9 => r = res ∧ σ9 = σ) (QW D cA ad o) (FA ad sz)) 0 0 (FA ad sz) := by
  refine ct_of (own := RX4) (k := 0) (Qf := va_Qi (fun r σ9 => r = res ∧ σ9 = σ) (QW D cA ad o)) rfl (by decide) (Nat.le_of_ble_eq_true rfl) (fun p e s m below meth c ls C0 X hr hlk hP hl => ?_) sz
  have hS : va_S (FA ad s.heap.size) s.heap s.heap [] := va_S.rf
  have hl : lv_has ls 2 [(0, .ref (ad (22 * t + 1))), (1, .int x1)] := hl
  obtain ⟨hx, hb, hml, hown, hts⟩ := id C0
  unfold F_X4_isBetween at h
  refine lv_iload_n hx hb dX4_isBetween_0 rfl (lv_at hl 1 rfl) ?_
  refine lv_if_le (tgt := 22) hx hb dX4_isBetween_1 (by decide) (fun c_1 => ?_) (fun c_1 => ?_)
  · replace h := it_t h c_1
    refine lv_iconst (v := 0) hx hb dX4_isBetween_22 (by decide) ?_
    exact r_zret C0 X hP hS hr hlk dX4_isBetween_23 (Or.inl rfl) ⟨Option.some.inj h, rfl⟩
  · replace h := it_f h c_1
    refine lv_iload_n hx hb dX4_isBetween_4 rfl (lv_at hl 1 rfl) ?_
    refine lv_aload_n hx hb dX4_isBetween_5 rfl (lv_at hl 0 rfl) ?_
    refine gf_X4_45 C0 X hP (22 * t + 1) (kdR t ht) dX4_isBetween_6 ?_
    refine lv_icmp_ge (tgt := 22) hx hb dX4_isBetween_9 (by decide) (fun c_2 => ?_) (fun c_2 => ?_)
    · replace h := it_t h c_2
      refine lv_iconst (v := 0) hx hb dX4_isBetween_22 (by decide) ?_
      exact r_zret C0 X hP hS hr hlk dX4_isBetween_23 (Or.inl rfl) ⟨Option.some.inj h, rfl⟩
    · replace h := it_f h c_2
      refine lv_iload_n hx hb dX4_isBetween_12 rfl (lv_at hl 1 rfl) ?_
      refine lv_bipush (v := 8) hx hb dX4_isBetween_13 (by decide) ?_
      refine lv_icmp_ge (tgt := 22) hx hb dX4_isBetween_15 (by decide) (fun c_3 => ?_) (fun c_3 => ?_)
      · replace h := it_t h c_3
        refine lv_iconst (v := 0) hx hb dX4_isBetween_22 (by decide) ?_
        exact r_zret C0 X hP hS hr hlk dX4_isBetween_23 (Or.inl rfl) ⟨Option.some.inj h, rfl⟩
      · replace h := it_f h c_3
        refine lv_iconst (v := 1) hx hb dX4_isBetween_18 (by decide) ?_
        refine lv_goto (tgt := 23) hx hb dX4_isBetween_19 (by decide) ?_
        exact r_zret C0 X hP hS hr hlk dX4_isBetween_23 (Or.inr rfl) ⟨Option.some.inj h, rfl⟩
def bB_cX4_isSpot : Nat := 0xac030400a7040700a249101b0d00a33100b42a1b15009b1b
theorem yB_cX4_isSpot : BYS cX4_isSpot 24 bB_cX4_isSpot := BYS_of (by decide +kernel)
theorem dX4_isSpot_0 : decode cX4_isSpot 0 = .ok (.iload_n 1, 1) := D_27 yB_cX4_isSpot rfl rfl
theorem dX4_isSpot_1 : decode cX4_isSpot 1 = .ok (.ifCond .lt 21, 3) := D_155 yB_cX4_isSpot rfl rfl (sg_p (m := 32768) (N := 21) rfl rfl rfl)
theorem dX4_isSpot_4 : decode cX4_isSpot 4 = .ok (.iload_n 1, 1) := D_27 yB_cX4_isSpot rfl rfl
theorem dX4_isSpot_5 : decode cX4_isSpot 5 = .ok (.aload_n 0, 1) := D_42 yB_cX4_isSpot rfl rfl
theorem dX4_isSpot_6 : decode cX4_isSpot 6 = .ok (.getfield 49, 3) := D_180 yB_cX4_isSpot rfl rfl rfl
theorem dX4_isSpot_9 : decode cX4_isSpot 9 = .ok (.if_icmp .gt 13, 3) := D_163 yB_cX4_isSpot rfl rfl (sg_p (m := 32768) (N := 13) rfl rfl rfl)
theorem dX4_isSpot_12 : decode cX4_isSpot 12 = .ok (.iload_n 1, 1) := D_27 yB_cX4_isSpot rfl rfl
theorem dX4_isSpot_13 : decode cX4_isSpot 13 = .ok (.bipush 73, 2) := D_16 yB_cX4_isSpot rfl rfl (sg_p (m := 128) (N := 73) rfl rfl rfl)
theorem dX4_isSpot_15 : decode cX4_isSpot 15 = .ok (.if_icmp .ge 7, 3) := D_162 yB_cX4_isSpot rfl rfl (sg_p (m := 32768) (N := 7) rfl rfl rfl)
theorem dX4_isSpot_18 : decode cX4_isSpot 18 = .ok (.iconst 1, 1) := D_4 yB_cX4_isSpot rfl rfl
theorem dX4_isSpot_19 : decode cX4_isSpot 19 = .ok (.goto 4, 3) := D_167 yB_cX4_isSpot rfl rfl (sg_p (m := 32768) (N := 4) rfl rfl rfl)
theorem dX4_isSpot_22 : decode cX4_isSpot 22 = .ok (.iconst 0, 1) := D_3 yB_cX4_isSpot rfl rfl
theorem dX4_isSpot_23 : decode cX4_isSpot 23 = .ok (.ireturn, 1) := D_172 yB_cX4_isSpot rfl rfl
def F_X4_isSpot (σ : Mem) (t : Nat) (x1 : Int32) : Option (Int32) := if x1 < 0 then (some 0) else (if (σ (22 * t + 1) 1) < x1 then (some 0) else (if 73 ≤ x1 then (some 0) else (some 1)))
set_option maxHeartbeats 4000000 in
set_option maxRecDepth 100000 in
theorem c_X4_isSpot (l : Launch) (D : va_G) (cA : Nat → ClassId) (ad : Nat → Nat) (o : Int64) (σ : Mem) (t : Nat) (x1 : Int32) (ht : t < 3) (res : Int32) (h : F_X4_isSpot σ t x1 = some res) (sz : Nat) : Met l yX4_isSpot (WY yX4_isSpot cX4_isSpot 2 (some .boolean)) (RM 0) (va_Pc [.ref (ad (22 * t + 1)), .int x1] (PW D cA ad o σ sz)) (va_Qi (fun r σ9 => r = res ∧ σ9 = σ) (QW D cA ad o) (FA ad sz)) 0 0 (FA ad sz) := by
  refine ct_of (own := RX4) (k := 0) (Qf := va_Qi (fun r σ9 => r = res ∧ σ9 = σ) (QW D cA ad o)) rfl (by decide) (Nat.le_of_ble_eq_true rfl) (fun p e s m below meth c ls C0 X hr hlk hP hl => ?_) sz
  have hS : va_S (FA ad s.heap.size) s.heap s.heap [] := va_S.rf
  have hl : lv_has ls 2 [(0, .ref (ad (22 * t + 1))), (1, .int x1)] := hl
  obtain ⟨hx, hb, hml, hown, hts⟩ := id C0
  unfold F_X4_isSpot at h
  refine lv_iload_n hx hb dX4_isSpot_0 rfl (lv_at hl 1 rfl) ?_
  refine lv_if_lt (tgt := 22) hx hb dX4_isSpot_1 (by decide) (fun c_1 => ?_) (fun c_1 => ?_)
  · replace h := it_t h c_1
    refine lv_iconst (v := 0) hx hb dX4_isSpot_22 (by decide) ?_
    exact r_zret C0 X hP hS hr hlk dX4_isSpot_23 (Or.inl rfl) ⟨Option.some.inj h, rfl⟩
  · replace h := it_f h c_1
    refine lv_iload_n hx hb dX4_isSpot_4 rfl (lv_at hl 1 rfl) ?_
    refine lv_aload_n hx hb dX4_isSpot_5 rfl (lv_at hl 0 rfl) ?_
    refine gf_X4_49 C0 X hP (22 * t + 1) (kdR t ht) dX4_isSpot_6 ?_
    refine lv_icmp_gt (tgt := 22) hx hb dX4_isSpot_9 (by decide) (fun c_2 => ?_) (fun c_2 => ?_)
    · replace h := it_t h c_2
      refine lv_iconst (v := 0) hx hb dX4_isSpot_22 (by decide) ?_
      exact r_zret C0 X hP hS hr hlk dX4_isSpot_23 (Or.inl rfl) ⟨Option.some.inj h, rfl⟩
    · replace h := it_f h c_2
      refine lv_iload_n hx hb dX4_isSpot_12 rfl (lv_at hl 1 rfl) ?_
      refine lv_bipush (v := 73) hx hb dX4_isSpot_13 (by decide) ?_
      refine lv_icmp_ge (tgt := 22) hx hb dX4_isSpot_15 (by decide) (fun c_3 => ?_) (fun c_3 => ?_)
      · replace h := it_t h c_3
        refine lv_iconst (v := 0) hx hb dX4_isSpot_22 (by decide) ?_
        exact r_zret C0 X hP hS hr hlk dX4_isSpot_23 (Or.inl rfl) ⟨Option.some.inj h, rfl⟩
      · replace h := it_f h c_3
        refine lv_iconst (v := 1) hx hb dX4_isSpot_18 (by decide) ?_
        refine lv_goto (tgt := 23) hx hb dX4_isSpot_19 (by decide) ?_
        exact r_zret C0 X hP hS hr hlk dX4_isSpot_23 (Or.inr rfl) ⟨Option.some.inj h, rfl⟩
def bB_cX4_tellRoom : Nat := 0xac044f1c1b1500b42aac030500a4071c08009b1c0c00994000b61b2a
theorem yB_cX4_tellRoom : BYS cX4_tellRoom 28 bB_cX4_tellRoom := BYS_of (by decide +kernel)
theorem dX4_tellRoom_0 : decode cX4_tellRoom 0 = .ok (.aload_n 0, 1) := D_42 yB_cX4_tellRoom rfl rfl
theorem dX4_tellRoom_1 : decode cX4_tellRoom 1 = .ok (.iload_n 1, 1) := D_27 yB_cX4_tellRoom rfl rfl
theorem dX4_tellRoom_2 : decode cX4_tellRoom 2 = .ok (.invokevirtual 64, 3) := D_182 yB_cX4_tellRoom rfl rfl rfl
theorem dX4_tellRoom_5 : decode cX4_tellRoom 5 = .ok (.ifCond .eq 12, 3) := D_153 yB_cX4_tellRoom rfl rfl (sg_p (m := 32768) (N := 12) rfl rfl rfl)
theorem dX4_tellRoom_8 : decode cX4_tellRoom 8 = .ok (.iload_n 2, 1) := D_28 yB_cX4_tellRoom rfl rfl
theorem dX4_tellRoom_9 : decode cX4_tellRoom 9 = .ok (.ifCond .lt 8, 3) := D_155 yB_cX4_tellRoom rfl rfl (sg_p (m := 32768) (N := 8) rfl rfl rfl)
theorem dX4_tellRoom_12 : decode cX4_tellRoom 12 = .ok (.iload_n 2, 1) := D_28 yB_cX4_tellRoom rfl rfl
theorem dX4_tellRoom_13 : decode cX4_tellRoom 13 = .ok (.iconst 4, 1) := D_7 yB_cX4_tellRoom rfl rfl
theorem dX4_tellRoom_14 : decode cX4_tellRoom 14 = .ok (.if_icmp .le 5, 3) := D_164 yB_cX4_tellRoom rfl rfl (sg_p (m := 32768) (N := 5) rfl rfl rfl)
theorem dX4_tellRoom_17 : decode cX4_tellRoom 17 = .ok (.iconst 0, 1) := D_3 yB_cX4_tellRoom rfl rfl
theorem dX4_tellRoom_18 : decode cX4_tellRoom 18 = .ok (.ireturn, 1) := D_172 yB_cX4_tellRoom rfl rfl
theorem dX4_tellRoom_19 : decode cX4_tellRoom 19 = .ok (.aload_n 0, 1) := D_42 yB_cX4_tellRoom rfl rfl
theorem dX4_tellRoom_20 : decode cX4_tellRoom 20 = .ok (.getfield 21, 3) := D_180 yB_cX4_tellRoom rfl rfl rfl
theorem dX4_tellRoom_23 : decode cX4_tellRoom 23 = .ok (.iload_n 1, 1) := D_27 yB_cX4_tellRoom rfl rfl
theorem dX4_tellRoom_24 : decode cX4_tellRoom 24 = .ok (.iload_n 2, 1) := D_28 yB_cX4_tellRoom rfl rfl
theorem dX4_tellRoom_25 : decode cX4_tellRoom 25 = .ok (.iastore, 1) := D_79 yB_cX4_tellRoom rfl rfl
theorem dX4_tellRoom_26 : decode cX4_tellRoom 26 = .ok (.iconst 1, 1) := D_4 yB_cX4_tellRoom rfl rfl
theorem dX4_tellRoom_27 : decode cX4_tellRoom 27 = .ok (.ireturn, 1) := D_172 yB_cX4_tellRoom rfl rfl
def F_X4_tellRoom (σ : Mem) (t : Nat) (x1 : Int32) (x2 : Int32) : Option (Mem × Int32) := (F_X4_isBetween σ t x1).bind fun r_1 => if r_1 = 0 then (some (σ, 0)) else (if x2 < 0 then (some (σ, 0)) else (if x2 ≤ 4 then ((ix 9 x1).bind fun k_5 => some ((stm σ (22 * t + 5) k_5 x2), 1)) else (some (σ, 0))))
set_option maxHeartbeats 4000000 in
set_option maxRecDepth 100000 in
theorem c_X4_tellRoom (l : Launch) (D : va_G) (cA : Nat → ClassId) (ad : Nat → Nat) (o : Int64) (σ : Mem) (t : Nat) (x1 : Int32) (x2 : Int32) (ht : t < 3) (res : Mem × Int32) (h : F_X4_tellRoom σ t x1 x2 = some res) (sz : Nat) : Met l yX4_tellRoom (WY yX4_tellRoom cX4_tellRoom 3 (some .boolean)) (RM 1) (va_Pc [.ref (ad (22 * t + 1)), .int x1, .int x2] (PW D cA ad o σ sz)) (va_Qi (fun r σ9 => r = res.2 ∧ σ9 = res.1) (QW D cA ad o) (FA ad sz)) 0 0 (FA ad sz) := by
  refine ct_of (own := RX4) (k := 1) (Qf := va_Qi (fun r σ9 => r = res.2 ∧ σ9 = res.1) (QW D cA ad o)) rfl (by decide) (Nat.le_of_ble_eq_true rfl) (fun p e s m below meth c ls C0 X hr hlk hP hl => ?_) sz
  have hS : va_S (FA ad s.heap.size) s.heap s.heap [] := va_S.rf
  have hl : lv_has ls 3 [(0, .ref (ad (22 * t + 1))), (1, .int x1), (2, .int x2)] := hl
  obtain ⟨hx, hb, hml, hown, hts⟩ := id C0
  unfold F_X4_tellRoom at h
  refine lv_aload_n hx hb dX4_tellRoom_0 rfl (lv_at hl 0 rfl) ?_
  refine lv_iload_n hx hb dX4_tellRoom_1 rfl (lv_at hl 1 rfl) ?_
  obtain ⟨r_1, er_1, h⟩ := bnd h
  refine r_ci X hS (r_runV (As := [.int x1]) (rest := []) C0 X hP L_X4_64 (fun sz => c_X4_isBetween l D cA ad o σ t x1 ht r_1 er_1 sz) (kdR t ht).1 (kdR t ht).2 (by decide) rfl ⟨Nat.le_of_ble_eq_true rfl, Nat.le_of_ble_eq_true rfl⟩ rfl hl.1 rfl (Nat.le_of_ble_eq_true rfl) dX4_tellRoom_2 ⟨Nat.zero_le _, Nat.zero_le _⟩) (fun r9 σ9 H locs hw hP hS => ?_)
  rw [hw.2] at hP
  rw [hw.1]
  refine lv_if_eq (tgt := 17) hx hb dX4_tellRoom_5 (by decide) (fun c_2 => ?_) (fun c_2 => ?_)
  · replace h := it_t h c_2
    refine lv_iconst (v := 0) hx hb dX4_tellRoom_17 (by decide) ?_
    exact r_zret C0 X hP hS hr hlk dX4_tellRoom_18 (Or.inl rfl) (rt2 h)
  · replace h := it_f h c_2
    refine lv_iload_n hx hb dX4_tellRoom_8 rfl (lv_at hl 2 rfl) ?_
    refine lv_if_lt (tgt := 17) hx hb dX4_tellRoom_9 (by decide) (fun c_3 => ?_) (fun c_3 => ?_)
    · replace h := it_t h c_3
      refine lv_iconst (v := 0) hx hb dX4_tellRoom_17 (by decide) ?_
      exact r_zret C0 X hP hS hr hlk dX4_tellRoom_18 (Or.inl rfl) (rt2 h)
    · replace h := it_f h c_3
      refine lv_iload_n hx hb dX4_tellRoom_12 rfl (lv_at hl 2 rfl) ?_
      refine lv_iconst (v := 4) hx hb dX4_tellRoom_13 (by decide) ?_
      refine lv_icmp_le (tgt := 19) hx hb dX4_tellRoom_14 (by decide) (fun c_4 => ?_) (fun c_4 => ?_)
      · replace h := it_t h c_4
        refine lv_aload_n hx hb dX4_tellRoom_19 rfl (lv_at hl 0 rfl) ?_
        refine gf_X4_21 C0 X hP (22 * t + 1) (q := (22 * t + 5)) (kdR t ht) (by omega) (lkR5 t ht) dX4_tellRoom_20 ?_
        refine lv_iload_n hx hb dX4_tellRoom_23 rfl (lv_at hl 1 rfl) ?_
        refine lv_iload_n hx hb dX4_tellRoom_24 rfl (lv_at hl 2 rfl) ?_
        obtain ⟨k_5, ek_5, h⟩ := bnd h
        replace ek_5 := ix_s ek_5 (by decide)
        refine r_iastN C0 X hP hS (22 * t + 5) (k := k_5) (kdA5 t ht) ek_5.1 ek_5.2 dX4_tellRoom_25 (fun H locs hP hS => ?_)
        refine lv_iconst (v := 1) hx hb dX4_tellRoom_26 (by decide) ?_
        exact r_zret C0 X hP hS hr hlk dX4_tellRoom_27 (Or.inr rfl) (rt2 h)
      · replace h := it_f h c_4
        refine lv_iconst (v := 0) hx hb dX4_tellRoom_17 (by decide) ?_
        exact r_zret C0 X hP hS hr hlk dX4_tellRoom_18 (Or.inl rfl) (rt2 h)
def bB_cX4_tellVillage : Nat := 0xac044f1c1b1200b42aac030500a1061c08009b1c0c00a22d00b42a1b14009b1b
theorem yB_cX4_tellVillage : BYS cX4_tellVillage 32 bB_cX4_tellVillage := BYS_of (by decide +kernel)
theorem dX4_tellVillage_0 : decode cX4_tellVillage 0 = .ok (.iload_n 1, 1) := D_27 yB_cX4_tellVillage rfl rfl
theorem dX4_tellVillage_1 : decode cX4_tellVillage 1 = .ok (.ifCond .lt 20, 3) := D_155 yB_cX4_tellVillage rfl rfl (sg_p (m := 32768) (N := 20) rfl rfl rfl)
theorem dX4_tellVillage_4 : decode cX4_tellVillage 4 = .ok (.iload_n 1, 1) := D_27 yB_cX4_tellVillage rfl rfl
theorem dX4_tellVillage_5 : decode cX4_tellVillage 5 = .ok (.aload_n 0, 1) := D_42 yB_cX4_tellVillage rfl rfl
theorem dX4_tellVillage_6 : decode cX4_tellVillage 6 = .ok (.getfield 45, 3) := D_180 yB_cX4_tellVillage rfl rfl rfl
theorem dX4_tellVillage_9 : decode cX4_tellVillage 9 = .ok (.if_icmp .ge 12, 3) := D_162 yB_cX4_tellVillage rfl rfl (sg_p (m := 32768) (N := 12) rfl rfl rfl)
theorem dX4_tellVillage_12 : decode cX4_tellVillage 12 = .ok (.iload_n 2, 1) := D_28 yB_cX4_tellVillage rfl rfl
theorem dX4_tellVillage_13 : decode cX4_tellVillage 13 = .ok (.ifCond .lt 8, 3) := D_155 yB_cX4_tellVillage rfl rfl (sg_p (m := 32768) (N := 8) rfl rfl rfl)
theorem dX4_tellVillage_16 : decode cX4_tellVillage 16 = .ok (.iload_n 2, 1) := D_28 yB_cX4_tellVillage rfl rfl
theorem dX4_tellVillage_17 : decode cX4_tellVillage 17 = .ok (.iconst 3, 1) := D_6 yB_cX4_tellVillage rfl rfl
theorem dX4_tellVillage_18 : decode cX4_tellVillage 18 = .ok (.if_icmp .lt 5, 3) := D_161 yB_cX4_tellVillage rfl rfl (sg_p (m := 32768) (N := 5) rfl rfl rfl)
theorem dX4_tellVillage_21 : decode cX4_tellVillage 21 = .ok (.iconst 0, 1) := D_3 yB_cX4_tellVillage rfl rfl
theorem dX4_tellVillage_22 : decode cX4_tellVillage 22 = .ok (.ireturn, 1) := D_172 yB_cX4_tellVillage rfl rfl
theorem dX4_tellVillage_23 : decode cX4_tellVillage 23 = .ok (.aload_n 0, 1) := D_42 yB_cX4_tellVillage rfl rfl
theorem dX4_tellVillage_24 : decode cX4_tellVillage 24 = .ok (.getfield 18, 3) := D_180 yB_cX4_tellVillage rfl rfl rfl
theorem dX4_tellVillage_27 : decode cX4_tellVillage 27 = .ok (.iload_n 1, 1) := D_27 yB_cX4_tellVillage rfl rfl
theorem dX4_tellVillage_28 : decode cX4_tellVillage 28 = .ok (.iload_n 2, 1) := D_28 yB_cX4_tellVillage rfl rfl
theorem dX4_tellVillage_29 : decode cX4_tellVillage 29 = .ok (.iastore, 1) := D_79 yB_cX4_tellVillage rfl rfl
theorem dX4_tellVillage_30 : decode cX4_tellVillage 30 = .ok (.iconst 1, 1) := D_4 yB_cX4_tellVillage rfl rfl
theorem dX4_tellVillage_31 : decode cX4_tellVillage 31 = .ok (.ireturn, 1) := D_172 yB_cX4_tellVillage rfl rfl
def F_X4_tellVillage (σ : Mem) (t : Nat) (x1 : Int32) (x2 : Int32) : Option (Mem × Int32) := if x1 < 0 then (some (σ, 0)) else (if (σ (22 * t + 1) 0) ≤ x1 then (some (σ, 0)) else (if x2 < 0 then (some (σ, 0)) else (if x2 < 3 then ((ix 8 x1).bind fun k_5 => some ((stm σ (22 * t + 4) k_5 x2), 1)) else (some (σ, 0)))))
set_option maxHeartbeats 4000000 in
set_option maxRecDepth 100000 in
theorem c_X4_tellVillage (l : Launch) (D : va_G) (cA : Nat → ClassId) (ad : Nat → Nat) (o : Int64) (σ : Mem) (t : Nat) (x1 : Int32) (x2 : Int32) (ht : t < 3) (res : Mem × Int32) (h : F_X4_tellVillage σ t x1 x2 = some res) (sz : Nat) : Met l yX4_tellVillage (WY yX4_tellVillage cX4_tellVillage 3 (some .boolean)) (RM 0) (va_Pc [.ref (ad (22 * t + 1)), .int x1, .int x2] (PW D cA ad o σ sz)) (va_Qi (fun r σ9 => r = res.2 ∧ σ9 = res.1) (QW D cA ad o) (FA ad sz)) 0 0 (FA ad sz) := by
  refine ct_of (own := RX4) (k := 0) (Qf := va_Qi (fun r σ9 => r = res.2 ∧ σ9 = res.1) (QW D cA ad o)) rfl (by decide) (Nat.le_of_ble_eq_true rfl) (fun p e s m below meth c ls C0 X hr hlk hP hl => ?_) sz
  have hS : va_S (FA ad s.heap.size) s.heap s.heap [] := va_S.rf
  have hl : lv_has ls 3 [(0, .ref (ad (22 * t + 1))), (1, .int x1), (2, .int x2)] := hl
  obtain ⟨hx, hb, hml, hown, hts⟩ := id C0
  unfold F_X4_tellVillage at h
  refine lv_iload_n hx hb dX4_tellVillage_0 rfl (lv_at hl 1 rfl) ?_
  refine lv_if_lt (tgt := 21) hx hb dX4_tellVillage_1 (by decide) (fun c_1 => ?_) (fun c_1 => ?_)
  · replace h := it_t h c_1
    refine lv_iconst (v := 0) hx hb dX4_tellVillage_21 (by decide) ?_
    exact r_zret C0 X hP hS hr hlk dX4_tellVillage_22 (Or.inl rfl) (rt2 h)
  · replace h := it_f h c_1
    refine lv_iload_n hx hb dX4_tellVillage_4 rfl (lv_at hl 1 rfl) ?_
    refine lv_aload_n hx hb dX4_tellVillage_5 rfl (lv_at hl 0 rfl) ?_
    refine gf_X4_45 C0 X hP (22 * t + 1) (kdR t ht) dX4_tellVillage_6 ?_
    refine lv_icmp_ge (tgt := 21) hx hb dX4_tellVillage_9 (by decide) (fun c_2 => ?_) (fun c_2 => ?_)
    · replace h := it_t h c_2
      refine lv_iconst (v := 0) hx hb dX4_tellVillage_21 (by decide) ?_
      exact r_zret C0 X hP hS hr hlk dX4_tellVillage_22 (Or.inl rfl) (rt2 h)
    · replace h := it_f h c_2
      refine lv_iload_n hx hb dX4_tellVillage_12 rfl (lv_at hl 2 rfl) ?_
      refine lv_if_lt (tgt := 21) hx hb dX4_tellVillage_13 (by decide) (fun c_3 => ?_) (fun c_3 => ?_)
      · replace h := it_t h c_3
        refine lv_iconst (v := 0) hx hb dX4_tellVillage_21 (by decide) ?_
        exact r_zret C0 X hP hS hr hlk dX4_tellVillage_22 (Or.inl rfl) (rt2 h)
      · replace h := it_f h c_3
        refine lv_iload_n hx hb dX4_tellVillage_16 rfl (lv_at hl 2 rfl) ?_
        refine lv_iconst (v := 3) hx hb dX4_tellVillage_17 (by decide) ?_
        refine lv_icmp_lt (tgt := 23) hx hb dX4_tellVillage_18 (by decide) (fun c_4 => ?_) (fun c_4 => ?_)
        · replace h := it_t h c_4
          refine lv_aload_n hx hb dX4_tellVillage_23 rfl (lv_at hl 0 rfl) ?_
          refine gf_X4_18 C0 X hP (22 * t + 1) (q := (22 * t + 4)) (kdR t ht) (by omega) (lkR4 t ht) dX4_tellVillage_24 ?_
          refine lv_iload_n hx hb dX4_tellVillage_27 rfl (lv_at hl 1 rfl) ?_
          refine lv_iload_n hx hb dX4_tellVillage_28 rfl (lv_at hl 2 rfl) ?_
          obtain ⟨k_5, ek_5, h⟩ := bnd h
          replace ek_5 := ix_s ek_5 (by decide)
          refine r_iastN C0 X hP hS (22 * t + 4) (k := k_5) (kdA4 t ht) ek_5.1 ek_5.2 dX4_tellVillage_29 (fun H locs hP hS => ?_)
          refine lv_iconst (v := 1) hx hb dX4_tellVillage_30 (by decide) ?_
          exact r_zret C0 X hP hS hr hlk dX4_tellVillage_31 (Or.inr rfl) (rt2 h)
        · replace h := it_f h c_4
          refine lv_iconst (v := 0) hx hb dX4_tellVillage_21 (by decide) ?_
          exact r_zret C0 X hP hS hr hlk dX4_tellVillage_22 (Or.inl rfl) (rt2 h)
def bB_cX4_tellRule : Nat := 0xac044f1d1b2a00b42a4f1c1b2700b42aac030500a409101d09009b1dac030500a108101c09009b1c0d00a2061b12009b1b
theorem yB_cX4_tellRule : BYS cX4_tellRule 49 bB_cX4_tellRule := BYS_of (by decide +kernel)
theorem dX4_tellRule_0 : decode cX4_tellRule 0 = .ok (.iload_n 1, 1) := D_27 yB_cX4_tellRule rfl rfl
theorem dX4_tellRule_1 : decode cX4_tellRule 1 = .ok (.ifCond .lt 18, 3) := D_155 yB_cX4_tellRule rfl rfl (sg_p (m := 32768) (N := 18) rfl rfl rfl)
theorem dX4_tellRule_4 : decode cX4_tellRule 4 = .ok (.iload_n 1, 1) := D_27 yB_cX4_tellRule rfl rfl
theorem dX4_tellRule_5 : decode cX4_tellRule 5 = .ok (.iconst 3, 1) := D_6 yB_cX4_tellRule rfl rfl
theorem dX4_tellRule_6 : decode cX4_tellRule 6 = .ok (.if_icmp .ge 13, 3) := D_162 yB_cX4_tellRule rfl rfl (sg_p (m := 32768) (N := 13) rfl rfl rfl)
theorem dX4_tellRule_9 : decode cX4_tellRule 9 = .ok (.iload_n 2, 1) := D_28 yB_cX4_tellRule rfl rfl
theorem dX4_tellRule_10 : decode cX4_tellRule 10 = .ok (.ifCond .lt 9, 3) := D_155 yB_cX4_tellRule rfl rfl (sg_p (m := 32768) (N := 9) rfl rfl rfl)
theorem dX4_tellRule_13 : decode cX4_tellRule 13 = .ok (.iload_n 2, 1) := D_28 yB_cX4_tellRule rfl rfl
theorem dX4_tellRule_14 : decode cX4_tellRule 14 = .ok (.bipush 8, 2) := D_16 yB_cX4_tellRule rfl rfl (sg_p (m := 128) (N := 8) rfl rfl rfl)
theorem dX4_tellRule_16 : decode cX4_tellRule 16 = .ok (.if_icmp .lt 5, 3) := D_161 yB_cX4_tellRule rfl rfl (sg_p (m := 32768) (N := 5) rfl rfl rfl)
theorem dX4_tellRule_19 : decode cX4_tellRule 19 = .ok (.iconst 0, 1) := D_3 yB_cX4_tellRule rfl rfl
theorem dX4_tellRule_20 : decode cX4_tellRule 20 = .ok (.ireturn, 1) := D_172 yB_cX4_tellRule rfl rfl
theorem dX4_tellRule_21 : decode cX4_tellRule 21 = .ok (.iload_n 3, 1) := D_29 yB_cX4_tellRule rfl rfl
theorem dX4_tellRule_22 : decode cX4_tellRule 22 = .ok (.ifCond .lt 9, 3) := D_155 yB_cX4_tellRule rfl rfl (sg_p (m := 32768) (N := 9) rfl rfl rfl)
theorem dX4_tellRule_25 : decode cX4_tellRule 25 = .ok (.iload_n 3, 1) := D_29 yB_cX4_tellRule rfl rfl
theorem dX4_tellRule_26 : decode cX4_tellRule 26 = .ok (.bipush 9, 2) := D_16 yB_cX4_tellRule rfl rfl (sg_p (m := 128) (N := 9) rfl rfl rfl)
theorem dX4_tellRule_28 : decode cX4_tellRule 28 = .ok (.if_icmp .le 5, 3) := D_164 yB_cX4_tellRule rfl rfl (sg_p (m := 32768) (N := 5) rfl rfl rfl)
theorem dX4_tellRule_31 : decode cX4_tellRule 31 = .ok (.iconst 0, 1) := D_3 yB_cX4_tellRule rfl rfl
theorem dX4_tellRule_32 : decode cX4_tellRule 32 = .ok (.ireturn, 1) := D_172 yB_cX4_tellRule rfl rfl
theorem dX4_tellRule_33 : decode cX4_tellRule 33 = .ok (.aload_n 0, 1) := D_42 yB_cX4_tellRule rfl rfl
theorem dX4_tellRule_34 : decode cX4_tellRule 34 = .ok (.getfield 39, 3) := D_180 yB_cX4_tellRule rfl rfl rfl
theorem dX4_tellRule_37 : decode cX4_tellRule 37 = .ok (.iload_n 1, 1) := D_27 yB_cX4_tellRule rfl rfl
theorem dX4_tellRule_38 : decode cX4_tellRule 38 = .ok (.iload_n 2, 1) := D_28 yB_cX4_tellRule rfl rfl
theorem dX4_tellRule_39 : decode cX4_tellRule 39 = .ok (.iastore, 1) := D_79 yB_cX4_tellRule rfl rfl
theorem dX4_tellRule_40 : decode cX4_tellRule 40 = .ok (.aload_n 0, 1) := D_42 yB_cX4_tellRule rfl rfl
theorem dX4_tellRule_41 : decode cX4_tellRule 41 = .ok (.getfield 42, 3) := D_180 yB_cX4_tellRule rfl rfl rfl
theorem dX4_tellRule_44 : decode cX4_tellRule 44 = .ok (.iload_n 1, 1) := D_27 yB_cX4_tellRule rfl rfl
theorem dX4_tellRule_45 : decode cX4_tellRule 45 = .ok (.iload_n 3, 1) := D_29 yB_cX4_tellRule rfl rfl
theorem dX4_tellRule_46 : decode cX4_tellRule 46 = .ok (.iastore, 1) := D_79 yB_cX4_tellRule rfl rfl
theorem dX4_tellRule_47 : decode cX4_tellRule 47 = .ok (.iconst 1, 1) := D_4 yB_cX4_tellRule rfl rfl
theorem dX4_tellRule_48 : decode cX4_tellRule 48 = .ok (.ireturn, 1) := D_172 yB_cX4_tellRule rfl rfl
def F_X4_tellRule (σ : Mem) (t : Nat) (x1 : Int32) (x2 : Int32) (x3 : Int32) : Option (Mem × Int32) := if x1 < 0 then (some (σ, 0)) else (if 3 ≤ x1 then (some (σ, 0)) else (if x2 < 0 then (some (σ, 0)) else (if x2 < 8 then (if x3 < 0 then (some (σ, 0)) else (if x3 ≤ 9 then ((ix 3 x1).bind fun k_7 => (ix 3 x1).bind fun k_8 => some ((stm (stm σ (22 * t + 11) k_7 x2) (22 * t + 12) k_8 x3), 1)) else (some (σ, 0)))) else (some (σ, 0)))))
set_option maxHeartbeats 4000000 in
set_option maxRecDepth 100000 in
theorem c_X4_tellRule (l : Launch) (D : va_G) (cA : Nat → ClassId) (ad : Nat → Nat) (o : Int64) (σ : Mem) (t : Nat) (x1 : Int32) (x2 : Int32) (x3 : Int32) (ht : t < 3) (res : Mem × Int32) (h : F_X4_tellRule σ t x1 x2 x3 = some res) (sz : Nat) : Met l yX4_tellRule (WY yX4_tellRule cX4_tellRule 4 (some .boolean)) (RM 0) (va_Pc [.ref (ad (22 * t + 1)), .int x1, .int x2, .int x3] (PW D cA ad o σ sz)) (va_Qi (fun r σ9 => r = res.2 ∧ σ9 = res.1) (QW D cA ad o) (FA ad sz)) 0 0 (FA ad sz) := by
  refine ct_of (own := RX4) (k := 0) (Qf := va_Qi (fun r σ9 => r = res.2 ∧ σ9 = res.1) (QW D cA ad o)) rfl (by decide) (Nat.le_of_ble_eq_true rfl) (fun p e s m below meth c ls C0 X hr hlk hP hl => ?_) sz
  have hS : va_S (FA ad s.heap.size) s.heap s.heap [] := va_S.rf
  have hl : lv_has ls 4 [(0, .ref (ad (22 * t + 1))), (1, .int x1), (2, .int x2), (3, .int x3)] := hl
  obtain ⟨hx, hb, hml, hown, hts⟩ := id C0
  unfold F_X4_tellRule at h
  refine lv_iload_n hx hb dX4_tellRule_0 rfl (lv_at hl 1 rfl) ?_
  refine lv_if_lt (tgt := 19) hx hb dX4_tellRule_1 (by decide) (fun c_1 => ?_) (fun c_1 => ?_)
  · replace h := it_t h c_1
    refine lv_iconst (v := 0) hx hb dX4_tellRule_19 (by decide) ?_
    exact r_zret C0 X hP hS hr hlk dX4_tellRule_20 (Or.inl rfl) (rt2 h)
  · replace h := it_f h c_1
    refine lv_iload_n hx hb dX4_tellRule_4 rfl (lv_at hl 1 rfl) ?_
    refine lv_iconst (v := 3) hx hb dX4_tellRule_5 (by decide) ?_
    refine lv_icmp_ge (tgt := 19) hx hb dX4_tellRule_6 (by decide) (fun c_2 => ?_) (fun c_2 => ?_)
    · replace h := it_t h c_2
      refine lv_iconst (v := 0) hx hb dX4_tellRule_19 (by decide) ?_
      exact r_zret C0 X hP hS hr hlk dX4_tellRule_20 (Or.inl rfl) (rt2 h)
    · replace h := it_f h c_2
      refine lv_iload_n hx hb dX4_tellRule_9 rfl (lv_at hl 2 rfl) ?_
      refine lv_if_lt (tgt := 19) hx hb dX4_tellRule_10 (by decide) (fun c_3 => ?_) (fun c_3 => ?_)
      · replace h := it_t h c_3
        refine lv_iconst (v := 0) hx hb dX4_tellRule_19 (by decide) ?_
        exact r_zret C0 X hP hS hr hlk dX4_tellRule_20 (Or.inl rfl) (rt2 h)
      · replace h := it_f h c_3
        refine lv_iload_n hx hb dX4_tellRule_13 rfl (lv_at hl 2 rfl) ?_
        refine lv_bipush (v := 8) hx hb dX4_tellRule_14 (by decide) ?_
        refine lv_icmp_lt (tgt := 21) hx hb dX4_tellRule_16 (by decide) (fun c_4 => ?_) (fun c_4 => ?_)
        · replace h := it_t h c_4
          refine lv_iload_n hx hb dX4_tellRule_21 rfl (lv_at hl 3 rfl) ?_
          refine lv_if_lt (tgt := 31) hx hb dX4_tellRule_22 (by decide) (fun c_5 => ?_) (fun c_5 => ?_)
          · replace h := it_t h c_5
            refine lv_iconst (v := 0) hx hb dX4_tellRule_31 (by decide) ?_
            exact r_zret C0 X hP hS hr hlk dX4_tellRule_32 (Or.inl rfl) (rt2 h)
          · replace h := it_f h c_5
            refine lv_iload_n hx hb dX4_tellRule_25 rfl (lv_at hl 3 rfl) ?_
            refine lv_bipush (v := 9) hx hb dX4_tellRule_26 (by decide) ?_
            refine lv_icmp_le (tgt := 33) hx hb dX4_tellRule_28 (by decide) (fun c_6 => ?_) (fun c_6 => ?_)
            · replace h := it_t h c_6
              refine lv_aload_n hx hb dX4_tellRule_33 rfl (lv_at hl 0 rfl) ?_
              refine gf_X4_39 C0 X hP (22 * t + 1) (q := (22 * t + 11)) (kdR t ht) (by omega) (lkR11 t ht) dX4_tellRule_34 ?_
              refine lv_iload_n hx hb dX4_tellRule_37 rfl (lv_at hl 1 rfl) ?_
              refine lv_iload_n hx hb dX4_tellRule_38 rfl (lv_at hl 2 rfl) ?_
              obtain ⟨k_7, ek_7, h⟩ := bnd h
              replace ek_7 := ix_s ek_7 (by decide)
              refine r_iastN C0 X hP hS (22 * t + 11) (k := k_7) (kdA11 t ht) ek_7.1 ek_7.2 dX4_tellRule_39 (fun H locs hP hS => ?_)
              refine lv_aload_n hx hb dX4_tellRule_40 rfl (lv_at hl 0 rfl) ?_
              refine gf_X4_42 C0 X hP (22 * t + 1) (q := (22 * t + 12)) (kdR t ht) (by omega) (lkR12 t ht) dX4_tellRule_41 ?_
              refine lv_iload_n hx hb dX4_tellRule_44 rfl (lv_at hl 1 rfl) ?_
              refine lv_iload_n hx hb dX4_tellRule_45 rfl (lv_at hl 3 rfl) ?_
              obtain ⟨k_8, ek_8, h⟩ := bnd h
              replace ek_8 := ix_s ek_8 (by decide)
              refine r_iastN C0 X hP hS (22 * t + 12) (k := k_8) (kdA12 t ht) ek_8.1 ek_8.2 dX4_tellRule_46 (fun H locs hP hS => ?_)
              refine lv_iconst (v := 1) hx hb dX4_tellRule_47 (by decide) ?_
              exact r_zret C0 X hP hS hr hlk dX4_tellRule_48 (Or.inr rfl) (rt2 h)
            · replace h := it_f h c_6
              refine lv_iconst (v := 0) hx hb dX4_tellRule_31 (by decide) ?_
              exact r_zret C0 X hP hS hr hlk dX4_tellRule_32 (Or.inl rfl) (rt2 h)
        · replace h := it_f h c_4
          refine lv_iconst (v := 0) hx hb dX4_tellRule_19 (by decide) ?_
          exact r_zret C0 X hP hS hr hlk dX4_tellRule_20 (Or.inl rfl) (rt2 h)
def bB_cX4_addPiece : Nat := 0xac044f033100b42a2400b42a4f033100b42a2100b42a4f2d00b42a3100b42a1b00b42a4f3100b42a2d00b42a1800b42a3100b53a00b84810601b3100b42a2a2d00b560042d00b4592aa5ffa70103844f641d1b0600a70307009a1d601d3100b42a2400b42a4f1d601d3100b42a2100b42a4f2d00b42a601d3100b42a1e00b42a4f020400a72d00b42a0a009a1d601d3100b42a1b00b42a5100a24910601d3100b42a5c00a21b1d3e034f0460042d00b42a1500b42a4f032d00b42a1200b42a4f1c2d00b42a0f00b42a4f1b2d00b42a0900b42aac030500a4051c08009b1cac030500a409101b0900a1051b0e00a208102d00b42a
theorem yB_cX4_addPiece : BYS cX4_addPiece 244 bB_cX4_addPiece := BYS_of (by decide +kernel)
theorem dX4_addPiece_0 : decode cX4_addPiece 0 = .ok (.aload_n 0, 1) := D_42 yB_cX4_addPiece rfl rfl
theorem dX4_addPiece_1 : decode cX4_addPiece 1 = .ok (.getfield 45, 3) := D_180 yB_cX4_addPiece rfl rfl rfl
theorem dX4_addPiece_4 : decode cX4_addPiece 4 = .ok (.bipush 8, 2) := D_16 yB_cX4_addPiece rfl rfl (sg_p (m := 128) (N := 8) rfl rfl rfl)
theorem dX4_addPiece_6 : decode cX4_addPiece 6 = .ok (.if_icmp .ge 14, 3) := D_162 yB_cX4_addPiece rfl rfl (sg_p (m := 32768) (N := 14) rfl rfl rfl)
theorem dX4_addPiece_9 : decode cX4_addPiece 9 = .ok (.iload_n 1, 1) := D_27 yB_cX4_addPiece rfl rfl
theorem dX4_addPiece_10 : decode cX4_addPiece 10 = .ok (.iconst 2, 1) := D_5 yB_cX4_addPiece rfl rfl
theorem dX4_addPiece_11 : decode cX4_addPiece 11 = .ok (.if_icmp .lt 9, 3) := D_161 yB_cX4_addPiece rfl rfl (sg_p (m := 32768) (N := 9) rfl rfl rfl)
theorem dX4_addPiece_14 : decode cX4_addPiece 14 = .ok (.iload_n 1, 1) := D_27 yB_cX4_addPiece rfl rfl
theorem dX4_addPiece_15 : decode cX4_addPiece 15 = .ok (.bipush 9, 2) := D_16 yB_cX4_addPiece rfl rfl (sg_p (m := 128) (N := 9) rfl rfl rfl)
theorem dX4_addPiece_17 : decode cX4_addPiece 17 = .ok (.if_icmp .le 5, 3) := D_164 yB_cX4_addPiece rfl rfl (sg_p (m := 32768) (N := 5) rfl rfl rfl)
theorem dX4_addPiece_20 : decode cX4_addPiece 20 = .ok (.iconst 0, 1) := D_3 yB_cX4_addPiece rfl rfl
theorem dX4_addPiece_21 : decode cX4_addPiece 21 = .ok (.ireturn, 1) := D_172 yB_cX4_addPiece rfl rfl
theorem dX4_addPiece_22 : decode cX4_addPiece 22 = .ok (.iload_n 2, 1) := D_28 yB_cX4_addPiece rfl rfl
theorem dX4_addPiece_23 : decode cX4_addPiece 23 = .ok (.ifCond .lt 8, 3) := D_155 yB_cX4_addPiece rfl rfl (sg_p (m := 32768) (N := 8) rfl rfl rfl)
theorem dX4_addPiece_26 : decode cX4_addPiece 26 = .ok (.iload_n 2, 1) := D_28 yB_cX4_addPiece rfl rfl
theorem dX4_addPiece_27 : decode cX4_addPiece 27 = .ok (.iconst 2, 1) := D_5 yB_cX4_addPiece rfl rfl
theorem dX4_addPiece_28 : decode cX4_addPiece 28 = .ok (.if_icmp .le 5, 3) := D_164 yB_cX4_addPiece rfl rfl (sg_p (m := 32768) (N := 5) rfl rfl rfl)
theorem dX4_addPiece_31 : decode cX4_addPiece 31 = .ok (.iconst 0, 1) := D_3 yB_cX4_addPiece rfl rfl
theorem dX4_addPiece_32 : decode cX4_addPiece 32 = .ok (.ireturn, 1) := D_172 yB_cX4_addPiece rfl rfl
theorem dX4_addPiece_33 : decode cX4_addPiece 33 = .ok (.aload_n 0, 1) := D_42 yB_cX4_addPiece rfl rfl
theorem dX4_addPiece_34 : decode cX4_addPiece 34 = .ok (.getfield 9, 3) := D_180 yB_cX4_addPiece rfl rfl rfl
theorem dX4_addPiece_37 : decode cX4_addPiece 37 = .ok (.aload_n 0, 1) := D_42 yB_cX4_addPiece rfl rfl
theorem dX4_addPiece_38 : decode cX4_addPiece 38 = .ok (.getfield 45, 3) := D_180 yB_cX4_addPiece rfl rfl rfl
theorem dX4_addPiece_41 : decode cX4_addPiece 41 = .ok (.iload_n 1, 1) := D_27 yB_cX4_addPiece rfl rfl
theorem dX4_addPiece_42 : decode cX4_addPiece 42 = .ok (.iastore, 1) := D_79 yB_cX4_addPiece rfl rfl
theorem dX4_addPiece_43 : decode cX4_addPiece 43 = .ok (.aload_n 0, 1) := D_42 yB_cX4_addPiece rfl rfl
theorem dX4_addPiece_44 : decode cX4_addPiece 44 = .ok (.getfield 15, 3) := D_180 yB_cX4_addPiece rfl rfl rfl
theorem dX4_addPiece_47 : decode cX4_addPiece 47 = .ok (.aload_n 0, 1) := D_42 yB_cX4_addPiece rfl rfl
theorem dX4_addPiece_48 : decode cX4_addPiece 48 = .ok (.getfield 45, 3) := D_180 yB_cX4_addPiece rfl rfl rfl
theorem dX4_addPiece_51 : decode cX4_addPiece 51 = .ok (.iload_n 2, 1) := D_28 yB_cX4_addPiece rfl rfl
theorem dX4_addPiece_52 : decode cX4_addPiece 52 = .ok (.iastore, 1) := D_79 yB_cX4_addPiece rfl rfl
theorem dX4_addPiece_53 : decode cX4_addPiece 53 = .ok (.aload_n 0, 1) := D_42 yB_cX4_addPiece rfl rfl
theorem dX4_addPiece_54 : decode cX4_addPiece 54 = .ok (.getfield 18, 3) := D_180 yB_cX4_addPiece rfl rfl rfl
theorem dX4_addPiece_57 : decode cX4_addPiece 57 = .ok (.aload_n 0, 1) := D_42 yB_cX4_addPiece rfl rfl
theorem dX4_addPiece_58 : decode cX4_addPiece 58 = .ok (.getfield 45, 3) := D_180 yB_cX4_addPiece rfl rfl rfl
theorem dX4_addPiece_61 : decode cX4_addPiece 61 = .ok (.iconst 0, 1) := D_3 yB_cX4_addPiece rfl rfl
theorem dX4_addPiece_62 : decode cX4_addPiece 62 = .ok (.iastore, 1) := D_79 yB_cX4_addPiece rfl rfl
theorem dX4_addPiece_63 : decode cX4_addPiece 63 = .ok (.aload_n 0, 1) := D_42 yB_cX4_addPiece rfl rfl
theorem dX4_addPiece_64 : decode cX4_addPiece 64 = .ok (.getfield 21, 3) := D_180 yB_cX4_addPiece rfl rfl rfl
theorem dX4_addPiece_67 : decode cX4_addPiece 67 = .ok (.aload_n 0, 1) := D_42 yB_cX4_addPiece rfl rfl
theorem dX4_addPiece_68 : decode cX4_addPiece 68 = .ok (.getfield 45, 3) := D_180 yB_cX4_addPiece rfl rfl rfl
theorem dX4_addPiece_71 : decode cX4_addPiece 71 = .ok (.iconst 1, 1) := D_4 yB_cX4_addPiece rfl rfl
theorem dX4_addPiece_72 : decode cX4_addPiece 72 = .ok (.iadd, 1) := D_96 yB_cX4_addPiece rfl rfl
theorem dX4_addPiece_73 : decode cX4_addPiece 73 = .ok (.iconst 1, 1) := D_4 yB_cX4_addPiece rfl rfl
theorem dX4_addPiece_74 : decode cX4_addPiece 74 = .ok (.iastore, 1) := D_79 yB_cX4_addPiece rfl rfl
theorem dX4_addPiece_75 : decode cX4_addPiece 75 = .ok (.iconst 0, 1) := D_3 yB_cX4_addPiece rfl rfl
theorem dX4_addPiece_76 : decode cX4_addPiece 76 = .ok (.istore_n 3, 1) := D_62 yB_cX4_addPiece rfl rfl
theorem dX4_addPiece_77 : decode cX4_addPiece 77 = .ok (.iload_n 3, 1) := D_29 yB_cX4_addPiece rfl rfl
theorem dX4_addPiece_78 : decode cX4_addPiece 78 = .ok (.iload_n 1, 1) := D_27 yB_cX4_addPiece rfl rfl
theorem dX4_addPiece_79 : decode cX4_addPiece 79 = .ok (.if_icmp .ge 92, 3) := D_162 yB_cX4_addPiece rfl rfl (sg_p (m := 32768) (N := 92) rfl rfl rfl)
theorem dX4_addPiece_82 : decode cX4_addPiece 82 = .ok (.aload_n 0, 1) := D_42 yB_cX4_addPiece rfl rfl
theorem dX4_addPiece_83 : decode cX4_addPiece 83 = .ok (.getfield 49, 3) := D_180 yB_cX4_addPiece rfl rfl rfl
theorem dX4_addPiece_86 : decode cX4_addPiece 86 = .ok (.iload_n 3, 1) := D_29 yB_cX4_addPiece rfl rfl
theorem dX4_addPiece_87 : decode cX4_addPiece 87 = .ok (.iadd, 1) := D_96 yB_cX4_addPiece rfl rfl
theorem dX4_addPiece_88 : decode cX4_addPiece 88 = .ok (.bipush 73, 2) := D_16 yB_cX4_addPiece rfl rfl (sg_p (m := 128) (N := 73) rfl rfl rfl)
theorem dX4_addPiece_90 : decode cX4_addPiece 90 = .ok (.if_icmp .ge 81, 3) := D_162 yB_cX4_addPiece rfl rfl (sg_p (m := 32768) (N := 81) rfl rfl rfl)
theorem dX4_addPiece_93 : decode cX4_addPiece 93 = .ok (.aload_n 0, 1) := D_42 yB_cX4_addPiece rfl rfl
theorem dX4_addPiece_94 : decode cX4_addPiece 94 = .ok (.getfield 27, 3) := D_180 yB_cX4_addPiece rfl rfl rfl
theorem dX4_addPiece_97 : decode cX4_addPiece 97 = .ok (.aload_n 0, 1) := D_42 yB_cX4_addPiece rfl rfl
theorem dX4_addPiece_98 : decode cX4_addPiece 98 = .ok (.getfield 49, 3) := D_180 yB_cX4_addPiece rfl rfl rfl
theorem dX4_addPiece_101 : decode cX4_addPiece 101 = .ok (.iload_n 3, 1) := D_29 yB_cX4_addPiece rfl rfl
theorem dX4_addPiece_102 : decode cX4_addPiece 102 = .ok (.iadd, 1) := D_96 yB_cX4_addPiece rfl rfl
theorem dX4_addPiece_103 : decode cX4_addPiece 103 = .ok (.iload_n 3, 1) := D_29 yB_cX4_addPiece rfl rfl
theorem dX4_addPiece_104 : decode cX4_addPiece 104 = .ok (.ifCond .ne 10, 3) := D_154 yB_cX4_addPiece rfl rfl (sg_p (m := 32768) (N := 10) rfl rfl rfl)
theorem dX4_addPiece_107 : decode cX4_addPiece 107 = .ok (.aload_n 0, 1) := D_42 yB_cX4_addPiece rfl rfl
theorem dX4_addPiece_108 : decode cX4_addPiece 108 = .ok (.getfield 45, 3) := D_180 yB_cX4_addPiece rfl rfl rfl
theorem dX4_addPiece_111 : decode cX4_addPiece 111 = .ok (.goto 4, 3) := D_167 yB_cX4_addPiece rfl rfl (sg_p (m := 32768) (N := 4) rfl rfl rfl)
theorem dX4_addPiece_114 : decode cX4_addPiece 114 = .ok (.iconst (-1), 1) := D_2 yB_cX4_addPiece rfl rfl
theorem dX4_addPiece_115 : decode cX4_addPiece 115 = .ok (.iastore, 1) := D_79 yB_cX4_addPiece rfl rfl
theorem dX4_addPiece_116 : decode cX4_addPiece 116 = .ok (.aload_n 0, 1) := D_42 yB_cX4_addPiece rfl rfl
theorem dX4_addPiece_117 : decode cX4_addPiece 117 = .ok (.getfield 30, 3) := D_180 yB_cX4_addPiece rfl rfl rfl
theorem dX4_addPiece_120 : decode cX4_addPiece 120 = .ok (.aload_n 0, 1) := D_42 yB_cX4_addPiece rfl rfl
theorem dX4_addPiece_121 : decode cX4_addPiece 121 = .ok (.getfield 49, 3) := D_180 yB_cX4_addPiece rfl rfl rfl
theorem dX4_addPiece_124 : decode cX4_addPiece 124 = .ok (.iload_n 3, 1) := D_29 yB_cX4_addPiece rfl rfl
theorem dX4_addPiece_125 : decode cX4_addPiece 125 = .ok (.iadd, 1) := D_96 yB_cX4_addPiece rfl rfl
theorem dX4_addPiece_126 : decode cX4_addPiece 126 = .ok (.aload_n 0, 1) := D_42 yB_cX4_addPiece rfl rfl
theorem dX4_addPiece_127 : decode cX4_addPiece 127 = .ok (.getfield 45, 3) := D_180 yB_cX4_addPiece rfl rfl rfl
theorem dX4_addPiece_130 : decode cX4_addPiece 130 = .ok (.iastore, 1) := D_79 yB_cX4_addPiece rfl rfl
theorem dX4_addPiece_131 : decode cX4_addPiece 131 = .ok (.aload_n 0, 1) := D_42 yB_cX4_addPiece rfl rfl
theorem dX4_addPiece_132 : decode cX4_addPiece 132 = .ok (.getfield 33, 3) := D_180 yB_cX4_addPiece rfl rfl rfl
theorem dX4_addPiece_135 : decode cX4_addPiece 135 = .ok (.aload_n 0, 1) := D_42 yB_cX4_addPiece rfl rfl
theorem dX4_addPiece_136 : decode cX4_addPiece 136 = .ok (.getfield 49, 3) := D_180 yB_cX4_addPiece rfl rfl rfl
theorem dX4_addPiece_139 : decode cX4_addPiece 139 = .ok (.iload_n 3, 1) := D_29 yB_cX4_addPiece rfl rfl
theorem dX4_addPiece_140 : decode cX4_addPiece 140 = .ok (.iadd, 1) := D_96 yB_cX4_addPiece rfl rfl
theorem dX4_addPiece_141 : decode cX4_addPiece 141 = .ok (.iload_n 3, 1) := D_29 yB_cX4_addPiece rfl rfl
theorem dX4_addPiece_142 : decode cX4_addPiece 142 = .ok (.iastore, 1) := D_79 yB_cX4_addPiece rfl rfl
theorem dX4_addPiece_143 : decode cX4_addPiece 143 = .ok (.aload_n 0, 1) := D_42 yB_cX4_addPiece rfl rfl
theorem dX4_addPiece_144 : decode cX4_addPiece 144 = .ok (.getfield 36, 3) := D_180 yB_cX4_addPiece rfl rfl rfl
theorem dX4_addPiece_147 : decode cX4_addPiece 147 = .ok (.aload_n 0, 1) := D_42 yB_cX4_addPiece rfl rfl
theorem dX4_addPiece_148 : decode cX4_addPiece 148 = .ok (.getfield 49, 3) := D_180 yB_cX4_addPiece rfl rfl rfl
theorem dX4_addPiece_151 : decode cX4_addPiece 151 = .ok (.iload_n 3, 1) := D_29 yB_cX4_addPiece rfl rfl
theorem dX4_addPiece_152 : decode cX4_addPiece 152 = .ok (.iadd, 1) := D_96 yB_cX4_addPiece rfl rfl
theorem dX4_addPiece_153 : decode cX4_addPiece 153 = .ok (.iload_n 3, 1) := D_29 yB_cX4_addPiece rfl rfl
theorem dX4_addPiece_154 : decode cX4_addPiece 154 = .ok (.ifCond .ne 7, 3) := D_154 yB_cX4_addPiece rfl rfl (sg_p (m := 32768) (N := 7) rfl rfl rfl)
theorem dX4_addPiece_157 : decode cX4_addPiece 157 = .ok (.iconst 0, 1) := D_3 yB_cX4_addPiece rfl rfl
theorem dX4_addPiece_158 : decode cX4_addPiece 158 = .ok (.goto 6, 3) := D_167 yB_cX4_addPiece rfl rfl (sg_p (m := 32768) (N := 6) rfl rfl rfl)
theorem dX4_addPiece_161 : decode cX4_addPiece 161 = .ok (.iload_n 1, 1) := D_27 yB_cX4_addPiece rfl rfl
theorem dX4_addPiece_162 : decode cX4_addPiece 162 = .ok (.iload_n 3, 1) := D_29 yB_cX4_addPiece rfl rfl
theorem dX4_addPiece_163 : decode cX4_addPiece 163 = .ok (.isub, 1) := D_100 yB_cX4_addPiece rfl rfl
theorem dX4_addPiece_164 : decode cX4_addPiece 164 = .ok (.iastore, 1) := D_79 yB_cX4_addPiece rfl rfl
theorem dX4_addPiece_165 : decode cX4_addPiece 165 = .ok (.iinc 3 1, 3) := D_132 yB_cX4_addPiece rfl rfl rfl (sg_p (m := 128) (N := 1) rfl rfl rfl)
theorem dX4_addPiece_168 : decode cX4_addPiece 168 = .ok (.goto (-91), 3) := D_167 yB_cX4_addPiece rfl rfl (sg_n (m := 32768) (N := 91) rfl rfl rfl)
theorem dX4_addPiece_171 : decode cX4_addPiece 171 = .ok (.aload_n 0, 1) := D_42 yB_cX4_addPiece rfl rfl
theorem dX4_addPiece_172 : decode cX4_addPiece 172 = .ok (.dup, 1) := D_89 yB_cX4_addPiece rfl rfl
theorem dX4_addPiece_173 : decode cX4_addPiece 173 = .ok (.getfield 45, 3) := D_180 yB_cX4_addPiece rfl rfl rfl
theorem dX4_addPiece_176 : decode cX4_addPiece 176 = .ok (.iconst 1, 1) := D_4 yB_cX4_addPiece rfl rfl
theorem dX4_addPiece_177 : decode cX4_addPiece 177 = .ok (.iadd, 1) := D_96 yB_cX4_addPiece rfl rfl
theorem dX4_addPiece_178 : decode cX4_addPiece 178 = .ok (.putfield 45, 3) := D_181 yB_cX4_addPiece rfl rfl rfl
theorem dX4_addPiece_181 : decode cX4_addPiece 181 = .ok (.aload_n 0, 1) := D_42 yB_cX4_addPiece rfl rfl
theorem dX4_addPiece_182 : decode cX4_addPiece 182 = .ok (.aload_n 0, 1) := D_42 yB_cX4_addPiece rfl rfl
theorem dX4_addPiece_183 : decode cX4_addPiece 183 = .ok (.getfield 49, 3) := D_180 yB_cX4_addPiece rfl rfl rfl
theorem dX4_addPiece_186 : decode cX4_addPiece 186 = .ok (.iload_n 1, 1) := D_27 yB_cX4_addPiece rfl rfl
theorem dX4_addPiece_187 : decode cX4_addPiece 187 = .ok (.iadd, 1) := D_96 yB_cX4_addPiece rfl rfl
theorem dX4_addPiece_188 : decode cX4_addPiece 188 = .ok (.bipush 72, 2) := D_16 yB_cX4_addPiece rfl rfl (sg_p (m := 128) (N := 72) rfl rfl rfl)
theorem dX4_addPiece_190 : decode cX4_addPiece 190 = .ok (.invokestatic 58, 3) := D_184 yB_cX4_addPiece rfl rfl rfl
theorem dX4_addPiece_193 : decode cX4_addPiece 193 = .ok (.putfield 49, 3) := D_181 yB_cX4_addPiece rfl rfl rfl
theorem dX4_addPiece_196 : decode cX4_addPiece 196 = .ok (.aload_n 0, 1) := D_42 yB_cX4_addPiece rfl rfl
theorem dX4_addPiece_197 : decode cX4_addPiece 197 = .ok (.getfield 24, 3) := D_180 yB_cX4_addPiece rfl rfl rfl
theorem dX4_addPiece_200 : decode cX4_addPiece 200 = .ok (.aload_n 0, 1) := D_42 yB_cX4_addPiece rfl rfl
theorem dX4_addPiece_201 : decode cX4_addPiece 201 = .ok (.getfield 45, 3) := D_180 yB_cX4_addPiece rfl rfl rfl
theorem dX4_addPiece_204 : decode cX4_addPiece 204 = .ok (.aload_n 0, 1) := D_42 yB_cX4_addPiece rfl rfl
theorem dX4_addPiece_205 : decode cX4_addPiece 205 = .ok (.getfield 49, 3) := D_180 yB_cX4_addPiece rfl rfl rfl
theorem dX4_addPiece_208 : decode cX4_addPiece 208 = .ok (.iastore, 1) := D_79 yB_cX4_addPiece rfl rfl
theorem dX4_addPiece_209 : decode cX4_addPiece 209 = .ok (.aload_n 0, 1) := D_42 yB_cX4_addPiece rfl rfl
theorem dX4_addPiece_210 : decode cX4_addPiece 210 = .ok (.getfield 27, 3) := D_180 yB_cX4_addPiece rfl rfl rfl
theorem dX4_addPiece_213 : decode cX4_addPiece 213 = .ok (.aload_n 0, 1) := D_42 yB_cX4_addPiece rfl rfl
theorem dX4_addPiece_214 : decode cX4_addPiece 214 = .ok (.getfield 49, 3) := D_180 yB_cX4_addPiece rfl rfl rfl
theorem dX4_addPiece_217 : decode cX4_addPiece 217 = .ok (.aload_n 0, 1) := D_42 yB_cX4_addPiece rfl rfl
theorem dX4_addPiece_218 : decode cX4_addPiece 218 = .ok (.getfield 45, 3) := D_180 yB_cX4_addPiece rfl rfl rfl
theorem dX4_addPiece_221 : decode cX4_addPiece 221 = .ok (.iastore, 1) := D_79 yB_cX4_addPiece rfl rfl
theorem dX4_addPiece_222 : decode cX4_addPiece 222 = .ok (.aload_n 0, 1) := D_42 yB_cX4_addPiece rfl rfl
theorem dX4_addPiece_223 : decode cX4_addPiece 223 = .ok (.getfield 33, 3) := D_180 yB_cX4_addPiece rfl rfl rfl
theorem dX4_addPiece_226 : decode cX4_addPiece 226 = .ok (.aload_n 0, 1) := D_42 yB_cX4_addPiece rfl rfl
theorem dX4_addPiece_227 : decode cX4_addPiece 227 = .ok (.getfield 49, 3) := D_180 yB_cX4_addPiece rfl rfl rfl
theorem dX4_addPiece_230 : decode cX4_addPiece 230 = .ok (.iconst 0, 1) := D_3 yB_cX4_addPiece rfl rfl
theorem dX4_addPiece_231 : decode cX4_addPiece 231 = .ok (.iastore, 1) := D_79 yB_cX4_addPiece rfl rfl
theorem dX4_addPiece_232 : decode cX4_addPiece 232 = .ok (.aload_n 0, 1) := D_42 yB_cX4_addPiece rfl rfl
theorem dX4_addPiece_233 : decode cX4_addPiece 233 = .ok (.getfield 36, 3) := D_180 yB_cX4_addPiece rfl rfl rfl
theorem dX4_addPiece_236 : decode cX4_addPiece 236 = .ok (.aload_n 0, 1) := D_42 yB_cX4_addPiece rfl rfl
theorem dX4_addPiece_237 : decode cX4_addPiece 237 = .ok (.getfield 49, 3) := D_180 yB_cX4_addPiece rfl rfl rfl
theorem dX4_addPiece_240 : decode cX4_addPiece 240 = .ok (.iconst 0, 1) := D_3 yB_cX4_addPiece rfl rfl
theorem dX4_addPiece_241 : decode cX4_addPiece 241 = .ok (.iastore, 1) := D_79 yB_cX4_addPiece rfl rfl
theorem dX4_addPiece_242 : decode cX4_addPiece 242 = .ok (.iconst 1, 1) := D_4 yB_cX4_addPiece rfl rfl
theorem dX4_addPiece_243 : decode cX4_addPiece 243 = .ok (.ireturn, 1) := D_172 yB_cX4_addPiece rfl rfl
def F_X4_addPiece_77 (t : Nat) (x1 : Int32) (x2 : Int32)  : Nat → Mem → Int32 → Option (Mem × Int32)
  | 0, _, _ => none
  | nn + 1, σ, v3 => if x1 ≤ v3 then (lm (stm σ (22 * t + 1) 0 ((σ (22 * t + 1) 0) + 1)) fun σ_16 => lm (stm σ_16 (22 * t + 1) 1 (if 72 < ((σ_16 (22 * t + 1) 1) + x1) then 72 else ((σ_16 (22 * t + 1) 1) + x1))) fun σ_17 => (ix 9 (σ_17 (22 * t + 1) 0)).bind fun k_18 => lm (stm σ_17 (22 * t + 6) k_18 (σ_17 (22 * t + 1) 1)) fun σ_19 => (ix 73 (σ_19 (22 * t + 1) 1)).bind fun k_20 => lm (stm σ_19 (22 * t + 7) k_20 (σ_19 (22 * t + 1) 0)) fun σ_21 => (ix 73 (σ_21 (22 * t + 1) 1)).bind fun k_22 => lm (stm σ_21 (22 * t + 9) k_22 0) fun σ_23 => (ix 73 (σ_23 (22 * t + 1) 1)).bind fun k_24 => lm (stm σ_23 (22 * t + 10) k_24 0) fun σ_25 => some (σ_25, 1)) else (if 73 ≤ ((σ (22 * t + 1) 1) + v3) then (lm (stm σ (22 * t + 1) 0 ((σ (22 * t + 1) 0) + 1)) fun σ_27 => lm (stm σ_27 (22 * t + 1) 1 (if 72 < ((σ_27 (22 * t + 1) 1) + x1) then 72 else ((σ_27 (22 * t + 1) 1) + x1))) fun σ_28 => (ix 9 (σ_28 (22 * t + 1) 0)).bind fun k_29 => lm (stm σ_28 (22 * t + 6) k_29 (σ_28 (22 * t + 1) 1)) fun σ_30 => (ix 73 (σ_30 (22 * t + 1) 1)).bind fun k_31 => lm (stm σ_30 (22 * t + 7) k_31 (σ_30 (22 * t + 1) 0)) fun σ_32 => (ix 73 (σ_32 (22 * t + 1) 1)).bind fun k_33 => lm (stm σ_32 (22 * t + 9) k_33 0) fun σ_34 => (ix 73 (σ_34 (22 * t + 1) 1)).bind fun k_35 => lm (stm σ_34 (22 * t + 10) k_35 0) fun σ_36 => some (σ_36, 1)) else (if v3 = 0 then ((ix 73 ((σ (22 * t + 1) 1) + v3)).bind fun k_49 => lm (stm σ (22 * t + 7) k_49 (σ (22 * t + 1) 0)) fun σ_50 => (ix 73 ((σ_50 (22 * t + 1) 1) + v3)).bind fun k_51 => lm (stm σ_50 (22 * t + 8) k_51 (σ_50 (22 * t + 1) 0)) fun σ_52 => (ix 73 ((σ_52 (22 * t + 1) 1) + v3)).bind fun k_53 => lm (stm σ_52 (22 * t + 9) k_53 v3) fun σ_54 => if v3 = 0 then ((ix 73 ((σ_54 (22 * t + 1) 1) + v3)).bind fun k_58 => lm (stm σ_54 (22 * t + 10) k_58 0) fun σ_59 => F_X4_addPiece_77 t x1 x2 nn σ_59 (v3 + 1)) else ((ix 73 ((σ_54 (22 * t + 1) 1) + v3)).bind fun k_56 => lm (stm σ_54 (22 * t + 10) k_56 (x1 - v3)) fun σ_57 => F_X4_addPiece_77 t x1 x2 nn σ_57 (v3 + 1))) else ((ix 73 ((σ (22 * t + 1) 1) + v3)).bind fun k_38 => lm (stm σ (22 * t + 7) k_38 (-1)) fun σ_39 => (ix 73 ((σ_39 (22 * t + 1) 1) + v3)).bind fun k_40 => lm (stm σ_39 (22 * t + 8) k_40 (σ_39 (22 * t + 1) 0)) fun σ_41 => (ix 73 ((σ_41 (22 * t + 1) 1) + v3)).bind fun k_42 => lm (stm σ_41 (22 * t + 9) k_42 v3) fun σ_43 => if v3 = 0 then ((ix 73 ((σ_43 (22 * t + 1) 1) + v3)).bind fun k_47 => lm (stm σ_43 (22 * t + 10) k_47 0) fun σ_48 => F_X4_addPiece_77 t x1 x2 nn σ_48 (v3 + 1)) else ((ix 73 ((σ_43 (22 * t + 1) 1) + v3)).bind fun k_45 => lm (stm σ_43 (22 * t + 10) k_45 (x1 - v3)) fun σ_46 => F_X4_addPiece_77 t x1 x2 nn σ_46 (v3 + 1)))))
def F_X4_addPiece (σ : Mem) (t : Nat) (x1 : Int32) (x2 : Int32) : Option (Mem × Int32) := if 8 ≤ (σ (22 * t + 1) 0) then (some (σ, 0)) else (if x1 < 2 then (some (σ, 0)) else (if x1 ≤ 9 then (if x2 < 0 then (some (σ, 0)) else (if x2 ≤ 2 then ((ix 8 (σ (22 * t + 1) 0)).bind fun k_6 => lm (stm σ (22 * t + 2) k_6 x1) fun σ_7 => (ix 8 (σ_7 (22 * t + 1) 0)).bind fun k_8 => lm (stm σ_7 (22 * t + 3) k_8 x2) fun σ_9 => (ix 8 (σ_9 (22 * t + 1) 0)).bind fun k_10 => lm (stm σ_9 (22 * t + 4) k_10 0) fun σ_11 => (ix 9 ((σ_11 (22 * t + 1) 0) + 1)).bind fun k_12 => lm (stm σ_11 (22 * t + 5) k_12 1) fun σ_13 => F_X4_addPiece_77 t x1 x2 FU σ_13 0) else (some (σ, 0)))) else (some (σ, 0))))
set_option maxHeartbeats 4000000 in
set_option maxRecDepth 100000 in
theorem c_X4_addPiece (l : Launch) (D : va_G) (cA : Nat → ClassId) (ad : Nat → Nat) (o : Int64) (σ : Mem) (t : Nat) (x1 : Int32) (x2 : Int32) (ht : t < 3) (res : Mem × Int32) (h : F_X4_addPiece σ t x1 x2 = some res) (sz : Nat) : Met l yX4_addPiece (WY yX4_addPiece cX4_addPiece 4 (some .boolean)) (RM 1) (va_Pc [.ref (ad (22 * t + 1)), .int x1, .int x2] (PW D cA ad o σ sz)) (va_Qi (fun r σ9 => r = res.2 ∧ σ9 = res.1) (QW D cA ad o) (FA ad sz)) 0 0 (FA ad sz) := by
  refine ct_of (own := RX4) (k := 1) (Qf := va_Qi (fun r σ9 => r = res.2 ∧ σ9 = res.1) (QW D cA ad o)) rfl (by decide) (Nat.le_of_ble_eq_true rfl) (fun p e s m below meth c ls C0 X hr hlk hP hl => ?_) sz
  have hS : va_S (FA ad s.heap.size) s.heap s.heap [] := va_S.rf
  have hl : lv_has ls 4 [(0, .ref (ad (22 * t + 1))), (1, .int x1), (2, .int x2)] := hl
  obtain ⟨hx, hb, hml, hown, hts⟩ := id C0
  unfold F_X4_addPiece at h
  refine lv_aload_n hx hb dX4_addPiece_0 rfl (lv_at hl 0 rfl) ?_
  refine gf_X4_45 C0 X hP (22 * t + 1) (kdR t ht) dX4_addPiece_1 ?_
  refine lv_bipush (v := 8) hx hb dX4_addPiece_4 (by decide) ?_
  refine lv_icmp_ge (tgt := 20) hx hb dX4_addPiece_6 (by decide) (fun c_1 => ?_) (fun c_1 => ?_)
  · replace h := it_t h c_1
    refine lv_iconst (v := 0) hx hb dX4_addPiece_20 (by decide) ?_
    exact r_zret C0 X hP hS hr hlk dX4_addPiece_21 (Or.inl rfl) (rt2 h)
  · replace h := it_f h c_1
    refine lv_iload_n hx hb dX4_addPiece_9 rfl (lv_at hl 1 rfl) ?_
    refine lv_iconst (v := 2) hx hb dX4_addPiece_10 (by decide) ?_
    refine lv_icmp_lt (tgt := 20) hx hb dX4_addPiece_11 (by decide) (fun c_2 => ?_) (fun c_2 => ?_)
    · replace h := it_t h c_2
      refine lv_iconst (v := 0) hx hb dX4_addPiece_20 (by decide) ?_
      exact r_zret C0 X hP hS hr hlk dX4_addPiece_21 (Or.inl rfl) (rt2 h)
    · replace h := it_f h c_2
      refine lv_iload_n hx hb dX4_addPiece_14 rfl (lv_at hl 1 rfl) ?_
      refine lv_bipush (v := 9) hx hb dX4_addPiece_15 (by decide) ?_
      refine lv_icmp_le (tgt := 22) hx hb dX4_addPiece_17 (by decide) (fun c_3 => ?_) (fun c_3 => ?_)
      · replace h := it_t h c_3
        refine lv_iload_n hx hb dX4_addPiece_22 rfl (lv_at hl 2 rfl) ?_
        refine lv_if_lt (tgt := 31) hx hb dX4_addPiece_23 (by decide) (fun c_4 => ?_) (fun c_4 => ?_)
        · replace h := it_t h c_4
          refine lv_iconst (v := 0) hx hb dX4_addPiece_31 (by decide) ?_
          exact r_zret C0 X hP hS hr hlk dX4_addPiece_32 (Or.inl rfl) (rt2 h)
        · replace h := it_f h c_4
          refine lv_iload_n hx hb dX4_addPiece_26 rfl (lv_at hl 2 rfl) ?_
          refine lv_iconst (v := 2) hx hb dX4_addPiece_27 (by decide) ?_
          refine lv_icmp_le (tgt := 33) hx hb dX4_addPiece_28 (by decide) (fun c_5 => ?_) (fun c_5 => ?_)
          · replace h := it_t h c_5
            refine lv_aload_n hx hb dX4_addPiece_33 rfl (lv_at hl 0 rfl) ?_
            refine gf_X4_9 C0 X hP (22 * t + 1) (q := (22 * t + 2)) (kdR t ht) (by omega) (lkR2 t ht) dX4_addPiece_34 ?_
            refine lv_aload_n hx hb dX4_addPiece_37 rfl (lv_at hl 0 rfl) ?_
            refine gf_X4_45 C0 X hP (22 * t + 1) (kdR t ht) dX4_addPiece_38 ?_
            refine lv_iload_n hx hb dX4_addPiece_41 rfl (lv_at hl 1 rfl) ?_
            obtain ⟨k_6, ek_6, h⟩ := bnd h
            replace ek_6 := ix_s ek_6 (by decide)
            refine r_iastN C0 X hP hS (22 * t + 2) (k := k_6) (kdA2 t ht) ek_6.1 ek_6.2 dX4_addPiece_42 (fun H locs hP hS => ?_)
            obtain ⟨σ_7, eσ_7, h⟩ := lmp h
            replace hP := mem_cast eσ_7.symm hP
            refine lv_aload_n hx hb dX4_addPiece_43 rfl (lv_at hl 0 rfl) ?_
            refine gf_X4_15 C0 X hP (22 * t + 1) (q := (22 * t + 3)) (kdR t ht) (by omega) (lkR3 t ht) dX4_addPiece_44 ?_
            refine lv_aload_n hx hb dX4_addPiece_47 rfl (lv_at hl 0 rfl) ?_
            refine gf_X4_45 C0 X hP (22 * t + 1) (kdR t ht) dX4_addPiece_48 ?_
            refine lv_iload_n hx hb dX4_addPiece_51 rfl (lv_at hl 2 rfl) ?_
            obtain ⟨k_8, ek_8, h⟩ := bnd h
            replace ek_8 := ix_s ek_8 (by decide)
            refine r_iastN C0 X hP hS (22 * t + 3) (k := k_8) (kdA3 t ht) ek_8.1 ek_8.2 dX4_addPiece_52 (fun H locs hP hS => ?_)
            obtain ⟨σ_9, eσ_9, h⟩ := lmp h
            replace hP := mem_cast eσ_9.symm hP
            refine lv_aload_n hx hb dX4_addPiece_53 rfl (lv_at hl 0 rfl) ?_
            refine gf_X4_18 C0 X hP (22 * t + 1) (q := (22 * t + 4)) (kdR t ht) (by omega) (lkR4 t ht) dX4_addPiece_54 ?_
            refine lv_aload_n hx hb dX4_addPiece_57 rfl (lv_at hl 0 rfl) ?_
            refine gf_X4_45 C0 X hP (22 * t + 1) (kdR t ht) dX4_addPiece_58 ?_
            refine lv_iconst (v := 0) hx hb dX4_addPiece_61 (by decide) ?_
            obtain ⟨k_10, ek_10, h⟩ := bnd h
            replace ek_10 := ix_s ek_10 (by decide)
            refine r_iastN C0 X hP hS (22 * t + 4) (k := k_10) (kdA4 t ht) ek_10.1 ek_10.2 dX4_addPiece_62 (fun H locs hP hS => ?_)
            obtain ⟨σ_11, eσ_11, h⟩ := lmp h
            replace hP := mem_cast eσ_11.symm hP
            refine lv_aload_n hx hb dX4_addPiece_63 rfl (lv_at hl 0 rfl) ?_
            refine gf_X4_21 C0 X hP (22 * t + 1) (q := (22 * t + 5)) (kdR t ht) (by omega) (lkR5 t ht) dX4_addPiece_64 ?_
            refine lv_aload_n hx hb dX4_addPiece_67 rfl (lv_at hl 0 rfl) ?_
            refine gf_X4_45 C0 X hP (22 * t + 1) (kdR t ht) dX4_addPiece_68 ?_
            refine lv_iconst (v := 1) hx hb dX4_addPiece_71 (by decide) ?_
            refine lv_iadd hx hb dX4_addPiece_72 ?_
            refine lv_iconst (v := 1) hx hb dX4_addPiece_73 (by decide) ?_
            obtain ⟨k_12, ek_12, h⟩ := bnd h
            replace ek_12 := ix_s ek_12 (by decide)
            refine r_iastN C0 X hP hS (22 * t + 5) (k := k_12) (kdA5 t ht) ek_12.1 ek_12.2 dX4_addPiece_74 (fun H locs hP hS => ?_)
            obtain ⟨σ_13, eσ_13, h⟩ := lmp h
            replace hP := mem_cast eσ_13.symm hP
            refine lv_iconst (v := 0) hx hb dX4_addPiece_75 (by decide) ?_
            refine lv_istore_n (lv' := [(3, .int 0), (0, .ref (ad (22 * t + 1))), (1, .int x1), (2, .int x2)]) hx hb dX4_addPiece_76 rfl hl (by decide) rfl (fun ls hl => ?_)
            have lp_14 : ∀ (nn77 : Nat) (σ : Mem) (v3 : Int32) (H : Heap) (locs : List Loc) (ls : Array Slot), F_X4_addPiece_77 t x1 x2 nn77 σ v3 = some res → WP D cA ad o σ H → va_S (FA ad s.heap.size) s.heap H locs → lv_has ls 4 [(3, .int v3), (0, .ref (ad (22 * t + 1))), (1, .int x1), (2, .int x2)] → W p l e (RM 1) s m ([.ref (ad (22 * t + 1)), .int x1, .int x2] : List Value).toArray below meth c H locs 0 0 (MQ below (va_Qi (fun r σ9 => r = res.2 ∧ σ9 = res.1) (QW D cA ad o) (FA ad s.heap.size)) ([.ref (ad (22 * t + 1)), .int x1, .int x2] : List Value).toArray s 0 0 (FA ad s.heap.size)) (F0 m 77 ls []) := by
              intro nn77
              induction nn77 with
              | zero => intro σ v3 H locs ls h hP hS hl; exact absurd (show none = some res from h) nofun
              | succ nn77 ih77 =>
                intro σ v3 H locs ls h hP hS hl
                replace h := (F_X4_addPiece_77.eq_2 _ _ _ _ _ _).symm.trans h
                refine lv_iload_n hx hb dX4_addPiece_77 rfl (lv_at hl 0 rfl) ?_
                refine lv_iload_n hx hb dX4_addPiece_78 rfl (lv_at hl 2 rfl) ?_
                refine lv_icmp_ge (tgt := 171) hx hb dX4_addPiece_79 (by decide) (fun c_15 => ?_) (fun c_15 => ?_)
                · replace h := it_t h c_15
                  refine lv_aload_n hx hb dX4_addPiece_171 rfl (lv_at hl 1 rfl) ?_
                  refine lv_dup hx hb dX4_addPiece_172 rfl ?_
                  refine gf_X4_45 C0 X hP (22 * t + 1) (kdR t ht) dX4_addPiece_173 ?_
                  refine lv_iconst (v := 1) hx hb dX4_addPiece_176 (by decide) ?_
                  refine lv_iadd hx hb dX4_addPiece_177 ?_
                  refine pf_X4_45 C0 X hP hS (22 * t + 1) (kdR t ht) dX4_addPiece_178 (fun H locs hP hS => ?_)
                  obtain ⟨σ_16, eσ_16, h⟩ := lmp h
                  replace hP := mem_cast eσ_16.symm hP
                  refine lv_aload_n hx hb dX4_addPiece_181 rfl (lv_at hl 1 rfl) ?_
                  refine lv_aload_n hx hb dX4_addPiece_182 rfl (lv_at hl 1 rfl) ?_
                  refine gf_X4_49 C0 X hP (22 * t + 1) (kdR t ht) dX4_addPiece_183 ?_
                  refine lv_iload_n hx hb dX4_addPiece_186 rfl (lv_at hl 2 rfl) ?_
                  refine lv_iadd hx hb dX4_addPiece_187 ?_
                  refine lv_bipush (v := 72) hx hb dX4_addPiece_188 (by decide) ?_
                  refine va_mmin (own := RX4) (index := 58) (rest := [.ref (ad (22 * t + 1))]) (x := ((σ_16 (22 * t + 1) 1) + x1)) (y := 72) hx hb (by rw [hml]; exact hl.1.symm) hown (hts _ (tmc sb2_11 6 rfl (by decide +kernel))) (hts _ (tmc sb2_11 7 rfl (by decide +kernel))) (hts _ (tmc sb1_0 11 rfl (by decide +kernel))) (hts _ (tmc sb2_11 8 rfl (by decide +kernel))) (by decide) (Nat.le_of_ble_eq_true rfl) (Nat.zero_le _) (Nat.zero_le _) dX4_addPiece_190 ?_
                  refine pf_X4_49 C0 X hP hS (22 * t + 1) (kdR t ht) dX4_addPiece_193 (fun H locs hP hS => ?_)
                  obtain ⟨σ_17, eσ_17, h⟩ := lmp h
                  replace hP := mem_cast eσ_17.symm hP
                  refine lv_aload_n hx hb dX4_addPiece_196 rfl (lv_at hl 1 rfl) ?_
                  refine gf_X4_24 C0 X hP (22 * t + 1) (q := (22 * t + 6)) (kdR t ht) (by omega) (lkR6 t ht) dX4_addPiece_197 ?_
                  refine lv_aload_n hx hb dX4_addPiece_200 rfl (lv_at hl 1 rfl) ?_
                  refine gf_X4_45 C0 X hP (22 * t + 1) (kdR t ht) dX4_addPiece_201 ?_
                  refine lv_aload_n hx hb dX4_addPiece_204 rfl (lv_at hl 1 rfl) ?_
                  refine gf_X4_49 C0 X hP (22 * t + 1) (kdR t ht) dX4_addPiece_205 ?_
                  obtain ⟨k_18, ek_18, h⟩ := bnd h
                  replace ek_18 := ix_s ek_18 (by decide)
                  refine r_iastN C0 X hP hS (22 * t + 6) (k := k_18) (kdA6 t ht) ek_18.1 ek_18.2 dX4_addPiece_208 (fun H locs hP hS => ?_)
                  obtain ⟨σ_19, eσ_19, h⟩ := lmp h
                  replace hP := mem_cast eσ_19.symm hP
                  refine lv_aload_n hx hb dX4_addPiece_209 rfl (lv_at hl 1 rfl) ?_
                  refine gf_X4_27 C0 X hP (22 * t + 1) (q := (22 * t + 7)) (kdR t ht) (by omega) (lkR7 t ht) dX4_addPiece_210 ?_
                  refine lv_aload_n hx hb dX4_addPiece_213 rfl (lv_at hl 1 rfl) ?_
                  refine gf_X4_49 C0 X hP (22 * t + 1) (kdR t ht) dX4_addPiece_214 ?_
                  refine lv_aload_n hx hb dX4_addPiece_217 rfl (lv_at hl 1 rfl) ?_
                  refine gf_X4_45 C0 X hP (22 * t + 1) (kdR t ht) dX4_addPiece_218 ?_
                  obtain ⟨k_20, ek_20, h⟩ := bnd h
                  replace ek_20 := ix_s ek_20 (by decide)
                  refine r_iastN C0 X hP hS (22 * t + 7) (k := k_20) (kdA7 t ht) ek_20.1 ek_20.2 dX4_addPiece_221 (fun H locs hP hS => ?_)
                  obtain ⟨σ_21, eσ_21, h⟩ := lmp h
                  replace hP := mem_cast eσ_21.symm hP
                  refine lv_aload_n hx hb dX4_addPiece_222 rfl (lv_at hl 1 rfl) ?_
                  refine gf_X4_33 C0 X hP (22 * t + 1) (q := (22 * t + 9)) (kdR t ht) (by omega) (lkR9 t ht) dX4_addPiece_223 ?_
                  refine lv_aload_n hx hb dX4_addPiece_226 rfl (lv_at hl 1 rfl) ?_
                  refine gf_X4_49 C0 X hP (22 * t + 1) (kdR t ht) dX4_addPiece_227 ?_
                  refine lv_iconst (v := 0) hx hb dX4_addPiece_230 (by decide) ?_
                  obtain ⟨k_22, ek_22, h⟩ := bnd h
                  replace ek_22 := ix_s ek_22 (by decide)
                  refine r_iastN C0 X hP hS (22 * t + 9) (k := k_22) (kdA9 t ht) ek_22.1 ek_22.2 dX4_addPiece_231 (fun H locs hP hS => ?_)
                  obtain ⟨σ_23, eσ_23, h⟩ := lmp h
                  replace hP := mem_cast eσ_23.symm hP
                  refine lv_aload_n hx hb dX4_addPiece_232 rfl (lv_at hl 1 rfl) ?_
                  refine gf_X4_36 C0 X hP (22 * t + 1) (q := (22 * t + 10)) (kdR t ht) (by omega) (lkR10 t ht) dX4_addPiece_233 ?_
                  refine lv_aload_n hx hb dX4_addPiece_236 rfl (lv_at hl 1 rfl) ?_
                  refine gf_X4_49 C0 X hP (22 * t + 1) (kdR t ht) dX4_addPiece_237 ?_
                  refine lv_iconst (v := 0) hx hb dX4_addPiece_240 (by decide) ?_
                  obtain ⟨k_24, ek_24, h⟩ := bnd h
                  replace ek_24 := ix_s ek_24 (by decide)
                  refine r_iastN C0 X hP hS (22 * t + 10) (k := k_24) (kdA10 t ht) ek_24.1 ek_24.2 dX4_addPiece_241 (fun H locs hP hS => ?_)
                  obtain ⟨σ_25, eσ_25, h⟩ := lmp h
                  replace hP := mem_cast eσ_25.symm hP
                  refine lv_iconst (v := 1) hx hb dX4_addPiece_242 (by decide) ?_
                  exact r_zret C0 X hP hS hr hlk dX4_addPiece_243 (Or.inr rfl) (rt2 h)
                · replace h := it_f h c_15
                  refine lv_aload_n hx hb dX4_addPiece_82 rfl (lv_at hl 1 rfl) ?_
                  refine gf_X4_49 C0 X hP (22 * t + 1) (kdR t ht) dX4_addPiece_83 ?_
                  refine lv_iload_n hx hb dX4_addPiece_86 rfl (lv_at hl 0 rfl) ?_
                  refine lv_iadd hx hb dX4_addPiece_87 ?_
                  refine lv_bipush (v := 73) hx hb dX4_addPiece_88 (by decide) ?_
                  refine lv_icmp_ge (tgt := 171) hx hb dX4_addPiece_90 (by decide) (fun c_26 => ?_) (fun c_26 => ?_)
                  · replace h := it_t h c_26
                    refine lv_aload_n hx hb dX4_addPiece_171 rfl (lv_at hl 1 rfl) ?_
                    refine lv_dup hx hb dX4_addPiece_172 rfl ?_
                    refine gf_X4_45 C0 X hP (22 * t + 1) (kdR t ht) dX4_addPiece_173 ?_
                    refine lv_iconst (v := 1) hx hb dX4_addPiece_176 (by decide) ?_
                    refine lv_iadd hx hb dX4_addPiece_177 ?_
                    refine pf_X4_45 C0 X hP hS (22 * t + 1) (kdR t ht) dX4_addPiece_178 (fun H locs hP hS => ?_)
                    obtain ⟨σ_27, eσ_27, h⟩ := lmp h
                    replace hP := mem_cast eσ_27.symm hP
                    refine lv_aload_n hx hb dX4_addPiece_181 rfl (lv_at hl 1 rfl) ?_
                    refine lv_aload_n hx hb dX4_addPiece_182 rfl (lv_at hl 1 rfl) ?_
                    refine gf_X4_49 C0 X hP (22 * t + 1) (kdR t ht) dX4_addPiece_183 ?_
                    refine lv_iload_n hx hb dX4_addPiece_186 rfl (lv_at hl 2 rfl) ?_
                    refine lv_iadd hx hb dX4_addPiece_187 ?_
                    refine lv_bipush (v := 72) hx hb dX4_addPiece_188 (by decide) ?_
                    refine va_mmin (own := RX4) (index := 58) (rest := [.ref (ad (22 * t + 1))]) (x := ((σ_27 (22 * t + 1) 1) + x1)) (y := 72) hx hb (by rw [hml]; exact hl.1.symm) hown (hts _ (tmc sb2_11 6 rfl (by decide +kernel))) (hts _ (tmc sb2_11 7 rfl (by decide +kernel))) (hts _ (tmc sb1_0 11 rfl (by decide +kernel))) (hts _ (tmc sb2_11 8 rfl (by decide +kernel))) (by decide) (Nat.le_of_ble_eq_true rfl) (Nat.zero_le _) (Nat.zero_le _) dX4_addPiece_190 ?_
                    refine pf_X4_49 C0 X hP hS (22 * t + 1) (kdR t ht) dX4_addPiece_193 (fun H locs hP hS => ?_)
                    obtain ⟨σ_28, eσ_28, h⟩ := lmp h
                    replace hP := mem_cast eσ_28.symm hP
                    refine lv_aload_n hx hb dX4_addPiece_196 rfl (lv_at hl 1 rfl) ?_
                    refine gf_X4_24 C0 X hP (22 * t + 1) (q := (22 * t + 6)) (kdR t ht) (by omega) (lkR6 t ht) dX4_addPiece_197 ?_
                    refine lv_aload_n hx hb dX4_addPiece_200 rfl (lv_at hl 1 rfl) ?_
                    refine gf_X4_45 C0 X hP (22 * t + 1) (kdR t ht) dX4_addPiece_201 ?_
                    refine lv_aload_n hx hb dX4_addPiece_204 rfl (lv_at hl 1 rfl) ?_
                    refine gf_X4_49 C0 X hP (22 * t + 1) (kdR t ht) dX4_addPiece_205 ?_
                    obtain ⟨k_29, ek_29, h⟩ := bnd h
                    replace ek_29 := ix_s ek_29 (by decide)
                    refine r_iastN C0 X hP hS (22 * t + 6) (k := k_29) (kdA6 t ht) ek_29.1 ek_29.2 dX4_addPiece_208 (fun H locs hP hS => ?_)
                    obtain ⟨σ_30, eσ_30, h⟩ := lmp h
                    replace hP := mem_cast eσ_30.symm hP
                    refine lv_aload_n hx hb dX4_addPiece_209 rfl (lv_at hl 1 rfl) ?_
                    refine gf_X4_27 C0 X hP (22 * t + 1) (q := (22 * t + 7)) (kdR t ht) (by omega) (lkR7 t ht) dX4_addPiece_210 ?_
                    refine lv_aload_n hx hb dX4_addPiece_213 rfl (lv_at hl 1 rfl) ?_
                    refine gf_X4_49 C0 X hP (22 * t + 1) (kdR t ht) dX4_addPiece_214 ?_
                    refine lv_aload_n hx hb dX4_addPiece_217 rfl (lv_at hl 1 rfl) ?_
                    refine gf_X4_45 C0 X hP (22 * t + 1) (kdR t ht) dX4_addPiece_218 ?_
                    obtain ⟨k_31, ek_31, h⟩ := bnd h
                    replace ek_31 := ix_s ek_31 (by decide)
                    refine r_iastN C0 X hP hS (22 * t + 7) (k := k_31) (kdA7 t ht) ek_31.1 ek_31.2 dX4_addPiece_221 (fun H locs hP hS => ?_)
                    obtain ⟨σ_32, eσ_32, h⟩ := lmp h
                    replace hP := mem_cast eσ_32.symm hP
                    refine lv_aload_n hx hb dX4_addPiece_222 rfl (lv_at hl 1 rfl) ?_
                    refine gf_X4_33 C0 X hP (22 * t + 1) (q := (22 * t + 9)) (kdR t ht) (by omega) (lkR9 t ht) dX4_addPiece_223 ?_
                    refine lv_aload_n hx hb dX4_addPiece_226 rfl (lv_at hl 1 rfl) ?_
                    refine gf_X4_49 C0 X hP (22 * t + 1) (kdR t ht) dX4_addPiece_227 ?_
                    refine lv_iconst (v := 0) hx hb dX4_addPiece_230 (by decide) ?_
                    obtain ⟨k_33, ek_33, h⟩ := bnd h
                    replace ek_33 := ix_s ek_33 (by decide)
                    refine r_iastN C0 X hP hS (22 * t + 9) (k := k_33) (kdA9 t ht) ek_33.1 ek_33.2 dX4_addPiece_231 (fun H locs hP hS => ?_)
                    obtain ⟨σ_34, eσ_34, h⟩ := lmp h
                    replace hP := mem_cast eσ_34.symm hP
                    refine lv_aload_n hx hb dX4_addPiece_232 rfl (lv_at hl 1 rfl) ?_
                    refine gf_X4_36 C0 X hP (22 * t + 1) (q := (22 * t + 10)) (kdR t ht) (by omega) (lkR10 t ht) dX4_addPiece_233 ?_
                    refine lv_aload_n hx hb dX4_addPiece_236 rfl (lv_at hl 1 rfl) ?_
                    refine gf_X4_49 C0 X hP (22 * t + 1) (kdR t ht) dX4_addPiece_237 ?_
                    refine lv_iconst (v := 0) hx hb dX4_addPiece_240 (by decide) ?_
                    obtain ⟨k_35, ek_35, h⟩ := bnd h
                    replace ek_35 := ix_s ek_35 (by decide)
                    refine r_iastN C0 X hP hS (22 * t + 10) (k := k_35) (kdA10 t ht) ek_35.1 ek_35.2 dX4_addPiece_241 (fun H locs hP hS => ?_)
                    obtain ⟨σ_36, eσ_36, h⟩ := lmp h
                    replace hP := mem_cast eσ_36.symm hP
                    refine lv_iconst (v := 1) hx hb dX4_addPiece_242 (by decide) ?_
                    exact r_zret C0 X hP hS hr hlk dX4_addPiece_243 (Or.inr rfl) (rt2 h)
                  · replace h := it_f h c_26
                    refine lv_aload_n hx hb dX4_addPiece_93 rfl (lv_at hl 1 rfl) ?_
                    refine gf_X4_27 C0 X hP (22 * t + 1) (q := (22 * t + 7)) (kdR t ht) (by omega) (lkR7 t ht) dX4_addPiece_94 ?_
                    refine lv_aload_n hx hb dX4_addPiece_97 rfl (lv_at hl 1 rfl) ?_
                    refine gf_X4_49 C0 X hP (22 * t + 1) (kdR t ht) dX4_addPiece_98 ?_
                    refine lv_iload_n hx hb dX4_addPiece_101 rfl (lv_at hl 0 rfl) ?_
                    refine lv_iadd hx hb dX4_addPiece_102 ?_
                    refine lv_iload_n hx hb dX4_addPiece_103 rfl (lv_at hl 0 rfl) ?_
                    refine lv_if_ne (tgt := 114) hx hb dX4_addPiece_104 (by decide) (fun c_37 => ?_) (fun c_37 => ?_)
                    · replace h := it_f h c_37
                      refine lv_iconst (v := (-1)) hx hb dX4_addPiece_114 (by decide) ?_
                      obtain ⟨k_38, ek_38, h⟩ := bnd h
                      replace ek_38 := ix_s ek_38 (by decide)
                      refine r_iastN C0 X hP hS (22 * t + 7) (k := k_38) (kdA7 t ht) ek_38.1 ek_38.2 dX4_addPiece_115 (fun H locs hP hS => ?_)
                      obtain ⟨σ_39, eσ_39, h⟩ := lmp h
                      replace hP := mem_cast eσ_39.symm hP
                      refine lv_aload_n hx hb dX4_addPiece_116 rfl (lv_at hl 1 rfl) ?_
                      refine gf_X4_30 C0 X hP (22 * t + 1) (q := (22 * t + 8)) (kdR t ht) (by omega) (lkR8 t ht) dX4_addPiece_117 ?_
                      refine lv_aload_n hx hb dX4_addPiece_120 rfl (lv_at hl 1 rfl) ?_
                      refine gf_X4_49 C0 X hP (22 * t + 1) (kdR t ht) dX4_addPiece_121 ?_
                      refine lv_iload_n hx hb dX4_addPiece_124 rfl (lv_at hl 0 rfl) ?_
                      refine lv_iadd hx hb dX4_addPiece_125 ?_
                      refine lv_aload_n hx hb dX4_addPiece_126 rfl (lv_at hl 1 rfl) ?_
                      refine gf_X4_45 C0 X hP (22 * t + 1) (kdR t ht) dX4_addPiece_127 ?_
                      obtain ⟨k_40, ek_40, h⟩ := bnd h
                      replace ek_40 := ix_s ek_40 (by decide)
                      refine r_iastN C0 X hP hS (22 * t + 8) (k := k_40) (kdA8 t ht) ek_40.1 ek_40.2 dX4_addPiece_130 (fun H locs hP hS => ?_)
                      obtain ⟨σ_41, eσ_41, h⟩ := lmp h
                      replace hP := mem_cast eσ_41.symm hP
                      refine lv_aload_n hx hb dX4_addPiece_131 rfl (lv_at hl 1 rfl) ?_
                      refine gf_X4_33 C0 X hP (22 * t + 1) (q := (22 * t + 9)) (kdR t ht) (by omega) (lkR9 t ht) dX4_addPiece_132 ?_
                      refine lv_aload_n hx hb dX4_addPiece_135 rfl (lv_at hl 1 rfl) ?_
                      refine gf_X4_49 C0 X hP (22 * t + 1) (kdR t ht) dX4_addPiece_136 ?_
                      refine lv_iload_n hx hb dX4_addPiece_139 rfl (lv_at hl 0 rfl) ?_
                      refine lv_iadd hx hb dX4_addPiece_140 ?_
                      refine lv_iload_n hx hb dX4_addPiece_141 rfl (lv_at hl 0 rfl) ?_
                      obtain ⟨k_42, ek_42, h⟩ := bnd h
                      replace ek_42 := ix_s ek_42 (by decide)
                      refine r_iastN C0 X hP hS (22 * t + 9) (k := k_42) (kdA9 t ht) ek_42.1 ek_42.2 dX4_addPiece_142 (fun H locs hP hS => ?_)
                      obtain ⟨σ_43, eσ_43, h⟩ := lmp h
                      replace hP := mem_cast eσ_43.symm hP
                      refine lv_aload_n hx hb dX4_addPiece_143 rfl (lv_at hl 1 rfl) ?_
                      refine gf_X4_36 C0 X hP (22 * t + 1) (q := (22 * t + 10)) (kdR t ht) (by omega) (lkR10 t ht) dX4_addPiece_144 ?_
                      refine lv_aload_n hx hb dX4_addPiece_147 rfl (lv_at hl 1 rfl) ?_
                      refine gf_X4_49 C0 X hP (22 * t + 1) (kdR t ht) dX4_addPiece_148 ?_
                      refine lv_iload_n hx hb dX4_addPiece_151 rfl (lv_at hl 0 rfl) ?_
                      refine lv_iadd hx hb dX4_addPiece_152 ?_
                      refine lv_iload_n hx hb dX4_addPiece_153 rfl (lv_at hl 0 rfl) ?_
                      refine lv_if_ne (tgt := 161) hx hb dX4_addPiece_154 (by decide) (fun c_44 => ?_) (fun c_44 => ?_)
                      · replace h := it_f h c_44
                        refine lv_iload_n hx hb dX4_addPiece_161 rfl (lv_at hl 2 rfl) ?_
                        refine lv_iload_n hx hb dX4_addPiece_162 rfl (lv_at hl 0 rfl) ?_
                        refine lv_isub hx hb dX4_addPiece_163 ?_
                        obtain ⟨k_45, ek_45, h⟩ := bnd h
                        replace ek_45 := ix_s ek_45 (by decide)
                        refine r_iastN C0 X hP hS (22 * t + 10) (k := k_45) (kdA10 t ht) ek_45.1 ek_45.2 dX4_addPiece_164 (fun H locs hP hS => ?_)
                        obtain ⟨σ_46, eσ_46, h⟩ := lmp h
                        replace hP := mem_cast eσ_46.symm hP
                        refine lv_iinc (v := (v3 + 1)) (lv' := [(3, .int (v3 + 1)), (0, .ref (ad (22 * t + 1))), (1, .int x1), (2, .int x2)]) hx hb dX4_addPiece_165 hl (k := 0) rfl rfl (by decide) rfl (fun ls hl => ?_)
                        refine lv_goto (tgt := 77) hx hb dX4_addPiece_168 (by decide) ?_
                        exact ih77 σ_46 (v3 + 1) _ _ ls  h hP hS (lv_sub hl [0, 1, 2, 3] rfl)
                      · replace h := it_t h c_44
                        refine lv_iconst (v := 0) hx hb dX4_addPiece_157 (by decide) ?_
                        refine lv_goto (tgt := 164) hx hb dX4_addPiece_158 (by decide) ?_
                        obtain ⟨k_47, ek_47, h⟩ := bnd h
                        replace ek_47 := ix_s ek_47 (by decide)
                        refine r_iastN C0 X hP hS (22 * t + 10) (k := k_47) (kdA10 t ht) ek_47.1 ek_47.2 dX4_addPiece_164 (fun H locs hP hS => ?_)
                        obtain ⟨σ_48, eσ_48, h⟩ := lmp h
                        replace hP := mem_cast eσ_48.symm hP
                        refine lv_iinc (v := (v3 + 1)) (lv' := [(3, .int (v3 + 1)), (0, .ref (ad (22 * t + 1))), (1, .int x1), (2, .int x2)]) hx hb dX4_addPiece_165 hl (k := 0) rfl rfl (by decide) rfl (fun ls hl => ?_)
                        refine lv_goto (tgt := 77) hx hb dX4_addPiece_168 (by decide) ?_
                        exact ih77 σ_48 (v3 + 1) _ _ ls  h hP hS (lv_sub hl [0, 1, 2, 3] rfl)
                    · replace h := it_t h c_37
                      refine lv_aload_n hx hb dX4_addPiece_107 rfl (lv_at hl 1 rfl) ?_
                      refine gf_X4_45 C0 X hP (22 * t + 1) (kdR t ht) dX4_addPiece_108 ?_
                      refine lv_goto (tgt := 115) hx hb dX4_addPiece_111 (by decide) ?_
                      obtain ⟨k_49, ek_49, h⟩ := bnd h
                      replace ek_49 := ix_s ek_49 (by decide)
                      refine r_iastN C0 X hP hS (22 * t + 7) (k := k_49) (kdA7 t ht) ek_49.1 ek_49.2 dX4_addPiece_115 (fun H locs hP hS => ?_)
                      obtain ⟨σ_50, eσ_50, h⟩ := lmp h
                      replace hP := mem_cast eσ_50.symm hP
                      refine lv_aload_n hx hb dX4_addPiece_116 rfl (lv_at hl 1 rfl) ?_
                      refine gf_X4_30 C0 X hP (22 * t + 1) (q := (22 * t + 8)) (kdR t ht) (by omega) (lkR8 t ht) dX4_addPiece_117 ?_
                      refine lv_aload_n hx hb dX4_addPiece_120 rfl (lv_at hl 1 rfl) ?_
                      refine gf_X4_49 C0 X hP (22 * t + 1) (kdR t ht) dX4_addPiece_121 ?_
                      refine lv_iload_n hx hb dX4_addPiece_124 rfl (lv_at hl 0 rfl) ?_
                      refine lv_iadd hx hb dX4_addPiece_125 ?_
                      refine lv_aload_n hx hb dX4_addPiece_126 rfl (lv_at hl 1 rfl) ?_
                      refine gf_X4_45 C0 X hP (22 * t + 1) (kdR t ht) dX4_addPiece_127 ?_
                      obtain ⟨k_51, ek_51, h⟩ := bnd h
                      replace ek_51 := ix_s ek_51 (by decide)
                      refine r_iastN C0 X hP hS (22 * t + 8) (k := k_51) (kdA8 t ht) ek_51.1 ek_51.2 dX4_addPiece_130 (fun H locs hP hS => ?_)
                      obtain ⟨σ_52, eσ_52, h⟩ := lmp h
                      replace hP := mem_cast eσ_52.symm hP
                      refine lv_aload_n hx hb dX4_addPiece_131 rfl (lv_at hl 1 rfl) ?_
                      refine gf_X4_33 C0 X hP (22 * t + 1) (q := (22 * t + 9)) (kdR t ht) (by omega) (lkR9 t ht) dX4_addPiece_132 ?_
                      refine lv_aload_n hx hb dX4_addPiece_135 rfl (lv_at hl 1 rfl) ?_
                      refine gf_X4_49 C0 X hP (22 * t + 1) (kdR t ht) dX4_addPiece_136 ?_
                      refine lv_iload_n hx hb dX4_addPiece_139 rfl (lv_at hl 0 rfl) ?_
                      refine lv_iadd hx hb dX4_addPiece_140 ?_
                      refine lv_iload_n hx hb dX4_addPiece_141 rfl (lv_at hl 0 rfl) ?_
                      obtain ⟨k_53, ek_53, h⟩ := bnd h
                      replace ek_53 := ix_s ek_53 (by decide)
                      refine r_iastN C0 X hP hS (22 * t + 9) (k := k_53) (kdA9 t ht) ek_53.1 ek_53.2 dX4_addPiece_142 (fun H locs hP hS => ?_)
                      obtain ⟨σ_54, eσ_54, h⟩ := lmp h
                      replace hP := mem_cast eσ_54.symm hP
                      refine lv_aload_n hx hb dX4_addPiece_143 rfl (lv_at hl 1 rfl) ?_
                      refine gf_X4_36 C0 X hP (22 * t + 1) (q := (22 * t + 10)) (kdR t ht) (by omega) (lkR10 t ht) dX4_addPiece_144 ?_
                      refine lv_aload_n hx hb dX4_addPiece_147 rfl (lv_at hl 1 rfl) ?_
                      refine gf_X4_49 C0 X hP (22 * t + 1) (kdR t ht) dX4_addPiece_148 ?_
                      refine lv_iload_n hx hb dX4_addPiece_151 rfl (lv_at hl 0 rfl) ?_
                      refine lv_iadd hx hb dX4_addPiece_152 ?_
                      refine lv_iload_n hx hb dX4_addPiece_153 rfl (lv_at hl 0 rfl) ?_
                      refine lv_if_ne (tgt := 161) hx hb dX4_addPiece_154 (by decide) (fun c_55 => ?_) (fun c_55 => ?_)
                      · replace h := it_f h c_55
                        refine lv_iload_n hx hb dX4_addPiece_161 rfl (lv_at hl 2 rfl) ?_
                        refine lv_iload_n hx hb dX4_addPiece_162 rfl (lv_at hl 0 rfl) ?_
                        refine lv_isub hx hb dX4_addPiece_163 ?_
                        obtain ⟨k_56, ek_56, h⟩ := bnd h
                        replace ek_56 := ix_s ek_56 (by decide)
                        refine r_iastN C0 X hP hS (22 * t + 10) (k := k_56) (kdA10 t ht) ek_56.1 ek_56.2 dX4_addPiece_164 (fun H locs hP hS => ?_)
                        obtain ⟨σ_57, eσ_57, h⟩ := lmp h
                        replace hP := mem_cast eσ_57.symm hP
                        refine lv_iinc (v := (v3 + 1)) (lv' := [(3, .int (v3 + 1)), (0, .ref (ad (22 * t + 1))), (1, .int x1), (2, .int x2)]) hx hb dX4_addPiece_165 hl (k := 0) rfl rfl (by decide) rfl (fun ls hl => ?_)
                        refine lv_goto (tgt := 77) hx hb dX4_addPiece_168 (by decide) ?_
                        exact ih77 σ_57 (v3 + 1) _ _ ls  h hP hS (lv_sub hl [0, 1, 2, 3] rfl)
                      · replace h := it_t h c_55
                        refine lv_iconst (v := 0) hx hb dX4_addPiece_157 (by decide) ?_
                        refine lv_goto (tgt := 164) hx hb dX4_addPiece_158 (by decide) ?_
                        obtain ⟨k_58, ek_58, h⟩ := bnd h
                        replace ek_58 := ix_s ek_58 (by decide)
                        refine r_iastN C0 X hP hS (22 * t + 10) (k := k_58) (kdA10 t ht) ek_58.1 ek_58.2 dX4_addPiece_164 (fun H locs hP hS => ?_)
                        obtain ⟨σ_59, eσ_59, h⟩ := lmp h
                        replace hP := mem_cast eσ_59.symm hP
                        refine lv_iinc (v := (v3 + 1)) (lv' := [(3, .int (v3 + 1)), (0, .ref (ad (22 * t + 1))), (1, .int x1), (2, .int x2)]) hx hb dX4_addPiece_165 hl (k := 0) rfl rfl (by decide) rfl (fun ls hl => ?_)
                        refine lv_goto (tgt := 77) hx hb dX4_addPiece_168 (by decide) ?_
                        exact ih77 σ_59 (v3 + 1) _ _ ls  h hP hS (lv_sub hl [0, 1, 2, 3] rfl)
            exact lp_14 FU σ_13 0 _ _ ls  h hP hS (lv_sub hl [0, 1, 2, 3] rfl)
          · replace h := it_f h c_5
            refine lv_iconst (v := 0) hx hb dX4_addPiece_31 (by decide) ?_
            exact r_zret C0 X hP hS hr hlk dX4_addPiece_32 (Or.inl rfl) (rt2 h)
      · replace h := it_f h c_3
        refine lv_iconst (v := 0) hx hb dX4_addPiece_20 (by decide) ?_
        exact r_zret C0 X hP hS hr hlk dX4_addPiece_21 (Or.inl rfl) (rt2 h)
def bB_cX4_allRoom : Nat := 0xac1becffa70102843c602e1c1500b42a1b1200a22d00b42a1c3d043c03
theorem yB_cX4_allRoom : BYS cX4_allRoom 29 bB_cX4_allRoom := BYS_of (by decide +kernel)
theorem dX4_allRoom_0 : decode cX4_allRoom 0 = .ok (.iconst 0, 1) := D_3 yB_cX4_allRoom rfl rfl
theorem dX4_allRoom_1 : decode cX4_allRoom 1 = .ok (.istore_n 1, 1) := D_60 yB_cX4_allRoom rfl rfl
theorem dX4_allRoom_2 : decode cX4_allRoom 2 = .ok (.iconst 1, 1) := D_4 yB_cX4_allRoom rfl rfl
theorem dX4_allRoom_3 : decode cX4_allRoom 3 = .ok (.istore_n 2, 1) := D_61 yB_cX4_allRoom rfl rfl
theorem dX4_allRoom_4 : decode cX4_allRoom 4 = .ok (.iload_n 2, 1) := D_28 yB_cX4_allRoom rfl rfl
theorem dX4_allRoom_5 : decode cX4_allRoom 5 = .ok (.aload_n 0, 1) := D_42 yB_cX4_allRoom rfl rfl
theorem dX4_allRoom_6 : decode cX4_allRoom 6 = .ok (.getfield 45, 3) := D_180 yB_cX4_allRoom rfl rfl rfl
theorem dX4_allRoom_9 : decode cX4_allRoom 9 = .ok (.if_icmp .ge 18, 3) := D_162 yB_cX4_allRoom rfl rfl (sg_p (m := 32768) (N := 18) rfl rfl rfl)
theorem dX4_allRoom_12 : decode cX4_allRoom 12 = .ok (.iload_n 1, 1) := D_27 yB_cX4_allRoom rfl rfl
theorem dX4_allRoom_13 : decode cX4_allRoom 13 = .ok (.aload_n 0, 1) := D_42 yB_cX4_allRoom rfl rfl
theorem dX4_allRoom_14 : decode cX4_allRoom 14 = .ok (.getfield 21, 3) := D_180 yB_cX4_allRoom rfl rfl rfl
theorem dX4_allRoom_17 : decode cX4_allRoom 17 = .ok (.iload_n 2, 1) := D_28 yB_cX4_allRoom rfl rfl
theorem dX4_allRoom_18 : decode cX4_allRoom 18 = .ok (.iaload, 1) := D_46 yB_cX4_allRoom rfl rfl
theorem dX4_allRoom_19 : decode cX4_allRoom 19 = .ok (.iadd, 1) := D_96 yB_cX4_allRoom rfl rfl
theorem dX4_allRoom_20 : decode cX4_allRoom 20 = .ok (.istore_n 1, 1) := D_60 yB_cX4_allRoom rfl rfl
theorem dX4_allRoom_21 : decode cX4_allRoom 21 = .ok (.iinc 2 1, 3) := D_132 yB_cX4_allRoom rfl rfl rfl (sg_p (m := 128) (N := 1) rfl rfl rfl)
theorem dX4_allRoom_24 : decode cX4_allRoom 24 = .ok (.goto (-20), 3) := D_167 yB_cX4_allRoom rfl rfl (sg_n (m := 32768) (N := 20) rfl rfl rfl)
theorem dX4_allRoom_27 : decode cX4_allRoom 27 = .ok (.iload_n 1, 1) := D_27 yB_cX4_allRoom rfl rfl
theorem dX4_allRoom_28 : decode cX4_allRoom 28 = .ok (.ireturn, 1) := D_172 yB_cX4_allRoom rfl rfl
def F_X4_allRoom_4 (σ : Mem) (t : Nat)  : Nat → Int32 → Int32 → Option (Int32)
  | 0, _, _ => none
  | nn + 1, v2, v1 => if (σ (22 * t + 1) 0) ≤ v2 then (some v1) else ((ix 9 v2).bind fun k_3 => F_X4_allRoom_4 σ t nn (v2 + 1) (v1 + (σ (22 * t + 5) k_3)))
def F_X4_allRoom (σ : Mem) (t : Nat) : Option (Int32) := F_X4_allRoom_4 σ t FU 1 0
set_option maxHeartbeats 4000000 in
set_option maxRecDepth 100000 in
theorem c_X4_allRoom (l : Launch) (D : va_G) (cA : Nat → ClassId) (ad : Nat → Nat) (o : Int64) (σ : Mem) (t : Nat) (ht : t < 3) (res : Int32) (h : F_X4_allRoom σ t = some res) (sz : Nat) : Met l yX4_allRoom (WY yX4_allRoom cX4_allRoom 3 (some .int)) (RM 0) (va_Pc [.ref (ad (22 * t + 1))] (PW D cA ad o σ sz)) (va_Qi (fun r σ9 => r = res ∧ σ9 = σ) (QW D cA ad o) (FA ad sz)) 0 0 (FA ad sz) := by
  refine ct_of (own := RX4) (k := 0) (Qf := va_Qi (fun r σ9 => r = res ∧ σ9 = σ) (QW D cA ad o)) rfl (by decide) (Nat.le_of_ble_eq_true rfl) (fun p e s m below meth c ls C0 X hr hlk hP hl => ?_) sz
  have hS : va_S (FA ad s.heap.size) s.heap s.heap [] := va_S.rf
  have hl : lv_has ls 3 [(0, .ref (ad (22 * t + 1)))] := hl
  obtain ⟨hx, hb, hml, hown, hts⟩ := id C0
  unfold F_X4_allRoom at h
  refine lv_iconst (v := 0) hx hb dX4_allRoom_0 (by decide) ?_
  refine lv_istore_n (lv' := [(1, .int 0), (0, .ref (ad (22 * t + 1)))]) hx hb dX4_allRoom_1 rfl hl (by decide) rfl (fun ls hl => ?_)
  refine lv_iconst (v := 1) hx hb dX4_allRoom_2 (by decide) ?_
  refine lv_istore_n (lv' := [(2, .int 1), (1, .int 0), (0, .ref (ad (22 * t + 1)))]) hx hb dX4_allRoom_3 rfl hl (by decide) rfl (fun ls hl => ?_)
  have lp_1 : ∀ (nn4 : Nat) (v2 : Int32) (v1 : Int32) (H : Heap) (locs : List Loc) (ls : Array Slot), F_X4_allRoom_4 σ t nn4 v2 v1 = some res → WP D cA ad o σ H → va_S (FA ad s.heap.size) s.heap H locs → lv_has ls 3 [(2, .int v2), (1, .int v1), (0, .ref (ad (22 * t + 1)))] → W p l e (RM 0) s m ([.ref (ad (22 * t + 1))] : List Value).toArray below meth c H locs 0 0 (MQ below (va_Qi (fun r σ9 => r = res ∧ σ9 = σ) (QW D cA ad o) (FA ad s.heap.size)) ([.ref (ad (22 * t + 1))] : List Value).toArray s 0 0 (FA ad s.heap.size)) (F0 m 4 ls []) := by
    intro nn4
    induction nn4 with
    | zero => intro v2 v1 H locs ls h hP hS hl; exact absurd (show none = some res from h) nofun
    | succ nn4 ih4 =>
      intro v2 v1 H locs ls h hP hS hl
      replace h := (F_X4_allRoom_4.eq_2 _ _ _ _ _).symm.trans h
      refine lv_iload_n hx hb dX4_allRoom_4 rfl (lv_at hl 0 rfl) ?_
      refine lv_aload_n hx hb dX4_allRoom_5 rfl (lv_at hl 2 rfl) ?_
      refine gf_X4_45 C0 X hP (22 * t + 1) (kdR t ht) dX4_allRoom_6 ?_
      refine lv_icmp_ge (tgt := 27) hx hb dX4_allRoom_9 (by decide) (fun c_2 => ?_) (fun c_2 => ?_)
      · replace h := it_t h c_2
        refine lv_iload_n hx hb dX4_allRoom_27 rfl (lv_at hl 1 rfl) ?_
        exact r_iret C0 X hP hS hr hlk dX4_allRoom_28 ⟨Option.some.inj h, rfl⟩
      · replace h := it_f h c_2
        refine lv_iload_n hx hb dX4_allRoom_12 rfl (lv_at hl 1 rfl) ?_
        refine lv_aload_n hx hb dX4_allRoom_13 rfl (lv_at hl 2 rfl) ?_
        refine gf_X4_21 C0 X hP (22 * t + 1) (q := (22 * t + 5)) (kdR t ht) (by omega) (lkR5 t ht) dX4_allRoom_14 ?_
        refine lv_iload_n hx hb dX4_allRoom_17 rfl (lv_at hl 0 rfl) ?_
        obtain ⟨k_3, ek_3, h⟩ := bnd h
        replace ek_3 := ix_s ek_3 (by decide)
        refine r_ialdN C0 X hP (22 * t + 5) (k := k_3) (kdA5 t ht) ek_3.1 ek_3.2 dX4_allRoom_18 ?_
        refine lv_iadd hx hb dX4_allRoom_19 ?_
        refine lv_istore_n (lv' := [(1, .int (v1 + (σ (22 * t + 5) k_3))), (2, .int v2), (0, .ref (ad (22 * t + 1)))]) hx hb dX4_allRoom_20 rfl hl (by decide) rfl (fun ls hl => ?_)
        refine lv_iinc (v := (v2 + 1)) (lv' := [(2, .int (v2 + 1)), (1, .int (v1 + (σ (22 * t + 5) k_3))), (0, .ref (ad (22 * t + 1)))]) hx hb dX4_allRoom_21 hl (k := 1) rfl rfl (by decide) rfl (fun ls hl => ?_)
        refine lv_goto (tgt := 4) hx hb dX4_allRoom_24 (by decide) ?_
        exact ih4 (v2 + 1) (v1 + (σ (22 * t + 5) k_3)) _ _ ls  h hP hS (lv_sub hl [0, 1, 2] rfl)
  exact lp_1 FU 1 0 _ _ ls  h hP hS (lv_sub hl [0, 1, 2] rfl)
def bB_cX4_placeOf : Nat := 0xac020400a72e1b1b00b42a0c00994400b61b2a
theorem yB_cX4_placeOf : BYS cX4_placeOf 19 bB_cX4_placeOf := BYS_of (by decide +kernel)
theorem dX4_placeOf_0 : decode cX4_placeOf 0 = .ok (.aload_n 0, 1) := D_42 yB_cX4_placeOf rfl rfl
theorem dX4_placeOf_1 : decode cX4_placeOf 1 = .ok (.iload_n 1, 1) := D_27 yB_cX4_placeOf rfl rfl
theorem dX4_placeOf_2 : decode cX4_placeOf 2 = .ok (.invokevirtual 68, 3) := D_182 yB_cX4_placeOf rfl rfl rfl
theorem dX4_placeOf_5 : decode cX4_placeOf 5 = .ok (.ifCond .eq 12, 3) := D_153 yB_cX4_placeOf rfl rfl (sg_p (m := 32768) (N := 12) rfl rfl rfl)
theorem dX4_placeOf_8 : decode cX4_placeOf 8 = .ok (.aload_n 0, 1) := D_42 yB_cX4_placeOf rfl rfl
theorem dX4_placeOf_9 : decode cX4_placeOf 9 = .ok (.getfield 27, 3) := D_180 yB_cX4_placeOf rfl rfl rfl
theorem dX4_placeOf_12 : decode cX4_placeOf 12 = .ok (.iload_n 1, 1) := D_27 yB_cX4_placeOf rfl rfl
theorem dX4_placeOf_13 : decode cX4_placeOf 13 = .ok (.iaload, 1) := D_46 yB_cX4_placeOf rfl rfl
theorem dX4_placeOf_14 : decode cX4_placeOf 14 = .ok (.goto 4, 3) := D_167 yB_cX4_placeOf rfl rfl (sg_p (m := 32768) (N := 4) rfl rfl rfl)
theorem dX4_placeOf_17 : decode cX4_placeOf 17 = .ok (.iconst (-1), 1) := D_2 yB_cX4_placeOf rfl rfl
theorem dX4_placeOf_18 : decode cX4_placeOf 18 = .ok (.ireturn, 1) := D_172 yB_cX4_placeOf rfl rfl
def F_X4_placeOf (σ : Mem) (t : Nat) (x1 : Int32) : Option (Int32) := (F_X4_isSpot σ t x1).bind fun r_1 => if r_1 = 0 then (some (-1)) else ((ix 73 x1).bind fun k_3 => some (σ (22 * t + 7) k_3))
set_option maxHeartbeats 4000000 in
set_option maxRecDepth 100000 in
theorem c_X4_placeOf (l : Launch) (D : va_G) (cA : Nat → ClassId) (ad : Nat → Nat) (o : Int64) (σ : Mem) (t : Nat) (x1 : Int32) (ht : t < 3) (res : Int32) (h : F_X4_placeOf σ t x1 = some res) (sz : Nat) : Met l yX4_placeOf (WY yX4_placeOf cX4_placeOf 2 (some .int)) (RM 1) (va_Pc [.ref (ad (22 * t + 1)), .int x1] (PW D cA ad o σ sz)) (va_Qi (fun r σ9 => r = res ∧ σ9 = σ) (QW D cA ad o) (FA ad sz)) 0 0 (FA ad sz) := by
  refine ct_of (own := RX4) (k := 1) (Qf := va_Qi (fun r σ9 => r = res ∧ σ9 = σ) (QW D cA ad o)) rfl (by decide) (Nat.le_of_ble_eq_true rfl) (fun p e s m below meth c ls C0 X hr hlk hP hl => ?_) sz
  have hS : va_S (FA ad s.heap.size) s.heap s.heap [] := va_S.rf
  have hl : lv_has ls 2 [(0, .ref (ad (22 * t + 1))), (1, .int x1)] := hl
  obtain ⟨hx, hb, hml, hown, hts⟩ := id C0
  unfold F_X4_placeOf at h
  refine lv_aload_n hx hb dX4_placeOf_0 rfl (lv_at hl 0 rfl) ?_
  refine lv_iload_n hx hb dX4_placeOf_1 rfl (lv_at hl 1 rfl) ?_
  obtain ⟨r_1, er_1, h⟩ := bnd h
  refine r_ci X hS (r_runV (As := [.int x1]) (rest := []) C0 X hP L_X4_68 (fun sz => c_X4_isSpot l D cA ad o σ t x1 ht r_1 er_1 sz) (kdR t ht).1 (kdR t ht).2 (by decide) rfl ⟨Nat.le_of_ble_eq_true rfl, Nat.le_of_ble_eq_true rfl⟩ rfl hl.1 rfl (Nat.le_of_ble_eq_true rfl) dX4_placeOf_2 ⟨Nat.zero_le _, Nat.zero_le _⟩) (fun r9 σ9 H locs hw hP hS => ?_)
  rw [hw.2] at hP
  rw [hw.1]
  refine lv_if_eq (tgt := 17) hx hb dX4_placeOf_5 (by decide) (fun c_2 => ?_) (fun c_2 => ?_)
  · replace h := it_t h c_2
    refine lv_iconst (v := (-1)) hx hb dX4_placeOf_17 (by decide) ?_
    exact r_iret C0 X hP hS hr hlk dX4_placeOf_18 ⟨Option.some.inj h, rfl⟩
  · replace h := it_f h c_2
    refine lv_aload_n hx hb dX4_placeOf_8 rfl (lv_at hl 0 rfl) ?_
    refine gf_X4_27 C0 X hP (22 * t + 1) (q := (22 * t + 7)) (kdR t ht) (by omega) (lkR7 t ht) dX4_placeOf_9 ?_
    refine lv_iload_n hx hb dX4_placeOf_12 rfl (lv_at hl 1 rfl) ?_
    obtain ⟨k_3, ek_3, h⟩ := bnd h
    replace ek_3 := ix_s ek_3 (by decide)
    refine r_ialdN C0 X hP (22 * t + 7) (k := k_3) (kdA7 t ht) ek_3.1 ek_3.2 dX4_placeOf_13 ?_
    refine lv_goto (tgt := 18) hx hb dX4_placeOf_14 (by decide) ?_
    exact r_iret C0 X hP hS hr hlk dX4_placeOf_18 ⟨Option.some.inj h, rfl⟩
def bB_cX4_hillOf : Nat := 0xac2e1b0f00b42a0900a7030700a12d00b42a1b0b009b1b
theorem yB_cX4_hillOf : BYS cX4_hillOf 23 bB_cX4_hillOf := BYS_of (by decide +kernel)
theorem dX4_hillOf_0 : decode cX4_hillOf 0 = .ok (.iload_n 1, 1) := D_27 yB_cX4_hillOf rfl rfl
theorem dX4_hillOf_1 : decode cX4_hillOf 1 = .ok (.ifCond .lt 11, 3) := D_155 yB_cX4_hillOf rfl rfl (sg_p (m := 32768) (N := 11) rfl rfl rfl)
theorem dX4_hillOf_4 : decode cX4_hillOf 4 = .ok (.iload_n 1, 1) := D_27 yB_cX4_hillOf rfl rfl
theorem dX4_hillOf_5 : decode cX4_hillOf 5 = .ok (.aload_n 0, 1) := D_42 yB_cX4_hillOf rfl rfl
theorem dX4_hillOf_6 : decode cX4_hillOf 6 = .ok (.getfield 45, 3) := D_180 yB_cX4_hillOf rfl rfl rfl
theorem dX4_hillOf_9 : decode cX4_hillOf 9 = .ok (.if_icmp .lt 7, 3) := D_161 yB_cX4_hillOf rfl rfl (sg_p (m := 32768) (N := 7) rfl rfl rfl)
theorem dX4_hillOf_12 : decode cX4_hillOf 12 = .ok (.iconst 0, 1) := D_3 yB_cX4_hillOf rfl rfl
theorem dX4_hillOf_13 : decode cX4_hillOf 13 = .ok (.goto 9, 3) := D_167 yB_cX4_hillOf rfl rfl (sg_p (m := 32768) (N := 9) rfl rfl rfl)
theorem dX4_hillOf_16 : decode cX4_hillOf 16 = .ok (.aload_n 0, 1) := D_42 yB_cX4_hillOf rfl rfl
theorem dX4_hillOf_17 : decode cX4_hillOf 17 = .ok (.getfield 15, 3) := D_180 yB_cX4_hillOf rfl rfl rfl
theorem dX4_hillOf_20 : decode cX4_hillOf 20 = .ok (.iload_n 1, 1) := D_27 yB_cX4_hillOf rfl rfl
theorem dX4_hillOf_21 : decode cX4_hillOf 21 = .ok (.iaload, 1) := D_46 yB_cX4_hillOf rfl rfl
theorem dX4_hillOf_22 : decode cX4_hillOf 22 = .ok (.ireturn, 1) := D_172 yB_cX4_hillOf rfl rfl
def F_X4_hillOf (σ : Mem) (t : Nat) (x1 : Int32) : Option (Int32) := if x1 < 0 then (some 0) else (if x1 < (σ (22 * t + 1) 0) then ((ix 8 x1).bind fun k_3 => some (σ (22 * t + 3) k_3)) else (some 0))
set_option maxHeartbeats 4000000 in
set_option maxRecDepth 100000 in
theorem c_X4_hillOf (l : Launch) (D : va_G) (cA : Nat → ClassId) (ad : Nat → Nat) (o : Int64) (σ : Mem) (t : Nat) (x1 : Int32) (ht : t < 3) (res : Int32) (h : F_X4_hillOf σ t x1 = some res) (sz : Nat) : Met l yX4_hillOf (WY yX4_hillOf cX4_hillOf 2 (some .int)) (RM 0) (va_Pc [.ref (ad (22 * t + 1)), .int x1] (PW D cA ad o σ sz)) (va_Qi (fun r σ9 => r = res ∧ σ9 = σ) (QW D cA ad o) (FA ad sz)) 0 0 (FA ad sz) := by
  refine ct_of (own := RX4) (k := 0) (Qf := va_Qi (fun r σ9 => r = res ∧ σ9 = σ) (QW D cA ad o)) rfl (by decide) (Nat.le_of_ble_eq_true rfl) (fun p e s m below meth c ls C0 X hr hlk hP hl => ?_) sz
  have hS : va_S (FA ad s.heap.size) s.heap s.heap [] := va_S.rf
  have hl : lv_has ls 2 [(0, .ref (ad (22 * t + 1))), (1, .int x1)] := hl
  obtain ⟨hx, hb, hml, hown, hts⟩ := id C0
  unfold F_X4_hillOf at h
  refine lv_iload_n hx hb dX4_hillOf_0 rfl (lv_at hl 1 rfl) ?_
  refine lv_if_lt (tgt := 12) hx hb dX4_hillOf_1 (by decide) (fun c_1 => ?_) (fun c_1 => ?_)
  · replace h := it_t h c_1
    refine lv_iconst (v := 0) hx hb dX4_hillOf_12 (by decide) ?_
    refine lv_goto (tgt := 22) hx hb dX4_hillOf_13 (by decide) ?_
    exact r_iret C0 X hP hS hr hlk dX4_hillOf_22 ⟨Option.some.inj h, rfl⟩
  · replace h := it_f h c_1
    refine lv_iload_n hx hb dX4_hillOf_4 rfl (lv_at hl 1 rfl) ?_
    refine lv_aload_n hx hb dX4_hillOf_5 rfl (lv_at hl 0 rfl) ?_
    refine gf_X4_45 C0 X hP (22 * t + 1) (kdR t ht) dX4_hillOf_6 ?_
    refine lv_icmp_lt (tgt := 16) hx hb dX4_hillOf_9 (by decide) (fun c_2 => ?_) (fun c_2 => ?_)
    · replace h := it_t h c_2
      refine lv_aload_n hx hb dX4_hillOf_16 rfl (lv_at hl 0 rfl) ?_
      refine gf_X4_15 C0 X hP (22 * t + 1) (q := (22 * t + 3)) (kdR t ht) (by omega) (lkR3 t ht) dX4_hillOf_17 ?_
      refine lv_iload_n hx hb dX4_hillOf_20 rfl (lv_at hl 1 rfl) ?_
      obtain ⟨k_3, ek_3, h⟩ := bnd h
      replace ek_3 := ix_s ek_3 (by decide)
      refine r_ialdN C0 X hP (22 * t + 3) (k := k_3) (kdA3 t ht) ek_3.1 ek_3.2 dX4_hillOf_21 ?_
      exact r_iret C0 X hP hS hr hlk dX4_hillOf_22 ⟨Option.some.inj h, rfl⟩
    · replace h := it_f h c_2
      refine lv_iconst (v := 0) hx hb dX4_hillOf_12 (by decide) ?_
      refine lv_goto (tgt := 22) hx hb dX4_hillOf_13 (by decide) ?_
      exact r_iret C0 X hP hS hr hlk dX4_hillOf_22 ⟨Option.some.inj h, rfl⟩
def bB_cX4_villageBy : Nat := 0xac2e1b1200b42a0900a7030700a12d00b42a1b0b009b1b
theorem yB_cX4_villageBy : BYS cX4_villageBy 23 bB_cX4_villageBy := BYS_of (by decide +kernel)
theorem dX4_villageBy_0 : decode cX4_villageBy 0 = .ok (.iload_n 1, 1) := D_27 yB_cX4_villageBy rfl rfl
theorem dX4_villageBy_1 : decode cX4_villageBy 1 = .ok (.ifCond .lt 11, 3) := D_155 yB_cX4_villageBy rfl rfl (sg_p (m := 32768) (N := 11) rfl rfl rfl)
theorem dX4_villageBy_4 : decode cX4_villageBy 4 = .ok (.iload_n 1, 1) := D_27 yB_cX4_villageBy rfl rfl
theorem dX4_villageBy_5 : decode cX4_villageBy 5 = .ok (.aload_n 0, 1) := D_42 yB_cX4_villageBy rfl rfl
theorem dX4_villageBy_6 : decode cX4_villageBy 6 = .ok (.getfield 45, 3) := D_180 yB_cX4_villageBy rfl rfl rfl
theorem dX4_villageBy_9 : decode cX4_villageBy 9 = .ok (.if_icmp .lt 7, 3) := D_161 yB_cX4_villageBy rfl rfl (sg_p (m := 32768) (N := 7) rfl rfl rfl)
theorem dX4_villageBy_12 : decode cX4_villageBy 12 = .ok (.iconst 0, 1) := D_3 yB_cX4_villageBy rfl rfl
theorem dX4_villageBy_13 : decode cX4_villageBy 13 = .ok (.goto 9, 3) := D_167 yB_cX4_villageBy rfl rfl (sg_p (m := 32768) (N := 9) rfl rfl rfl)
theorem dX4_villageBy_16 : decode cX4_villageBy 16 = .ok (.aload_n 0, 1) := D_42 yB_cX4_villageBy rfl rfl
theorem dX4_villageBy_17 : decode cX4_villageBy 17 = .ok (.getfield 18, 3) := D_180 yB_cX4_villageBy rfl rfl rfl
theorem dX4_villageBy_20 : decode cX4_villageBy 20 = .ok (.iload_n 1, 1) := D_27 yB_cX4_villageBy rfl rfl
theorem dX4_villageBy_21 : decode cX4_villageBy 21 = .ok (.iaload, 1) := D_46 yB_cX4_villageBy rfl rfl
theorem dX4_villageBy_22 : decode cX4_villageBy 22 = .ok (.ireturn, 1) := D_172 yB_cX4_villageBy rfl rfl
def F_X4_villageBy (σ : Mem) (t : Nat) (x1 : Int32) : Option (Int32) := if x1 < 0 then (some 0) else (if x1 < (σ (22 * t + 1) 0) then ((ix 8 x1).bind fun k_3 => some (σ (22 * t + 4) k_3)) else (some 0))
set_option maxHeartbeats 4000000 in
set_option maxRecDepth 100000 in
theorem c_X4_villageBy (l : Launch) (D : va_G) (cA : Nat → ClassId) (ad : Nat → Nat) (o : Int64) (σ : Mem) (t : Nat) (x1 : Int32) (ht : t < 3) (res : Int32) (h : F_X4_villageBy σ t x1 = some res) (sz : Nat) : Met l yX4_villageBy (WY yX4_villageBy cX4_villageBy 2 (some .int)) (RM 0) (va_Pc [.ref (ad (22 * t + 1)), .int x1] (PW D cA ad o σ sz)) (va_Qi (fun r σ9 => r = res ∧ σ9 = σ) (QW D cA ad o) (FA ad sz)) 0 0 (FA ad sz) := by
  refine ct_of (own := RX4) (k := 0) (Qf := va_Qi (fun r σ9 => r = res ∧ σ9 = σ) (QW D cA ad o)) rfl (by decide) (Nat.le_of_ble_eq_true rfl) (fun p e s m below meth c ls C0 X hr hlk hP hl => ?_) sz
  have hS : va_S (FA ad s.heap.size) s.heap s.heap [] := va_S.rf
  have hl : lv_has ls 2 [(0, .ref (ad (22 * t + 1))), (1, .int x1)] := hl
  obtain ⟨hx, hb, hml, hown, hts⟩ := id C0
  unfold F_X4_villageBy at h
  refine lv_iload_n hx hb dX4_villageBy_0 rfl (lv_at hl 1 rfl) ?_
  refine lv_if_lt (tgt := 12) hx hb dX4_villageBy_1 (by decide) (fun c_1 => ?_) (fun c_1 => ?_)
  · replace h := it_t h c_1
    refine lv_iconst (v := 0) hx hb dX4_villageBy_12 (by decide) ?_
    refine lv_goto (tgt := 22) hx hb dX4_villageBy_13 (by decide) ?_
    exact r_iret C0 X hP hS hr hlk dX4_villageBy_22 ⟨Option.some.inj h, rfl⟩
  · replace h := it_f h c_1
    refine lv_iload_n hx hb dX4_villageBy_4 rfl (lv_at hl 1 rfl) ?_
    refine lv_aload_n hx hb dX4_villageBy_5 rfl (lv_at hl 0 rfl) ?_
    refine gf_X4_45 C0 X hP (22 * t + 1) (kdR t ht) dX4_villageBy_6 ?_
    refine lv_icmp_lt (tgt := 16) hx hb dX4_villageBy_9 (by decide) (fun c_2 => ?_) (fun c_2 => ?_)
    · replace h := it_t h c_2
      refine lv_aload_n hx hb dX4_villageBy_16 rfl (lv_at hl 0 rfl) ?_
      refine gf_X4_18 C0 X hP (22 * t + 1) (q := (22 * t + 4)) (kdR t ht) (by omega) (lkR4 t ht) dX4_villageBy_17 ?_
      refine lv_iload_n hx hb dX4_villageBy_20 rfl (lv_at hl 1 rfl) ?_
      obtain ⟨k_3, ek_3, h⟩ := bnd h
      replace ek_3 := ix_s ek_3 (by decide)
      refine r_ialdN C0 X hP (22 * t + 4) (k := k_3) (kdA4 t ht) ek_3.1 ek_3.2 dX4_villageBy_21 ?_
      exact r_iret C0 X hP hS hr hlk dX4_villageBy_22 ⟨Option.some.inj h, rfl⟩
    · replace h := it_f h c_2
      refine lv_iconst (v := 0) hx hb dX4_villageBy_12 (by decide) ?_
      refine lv_goto (tgt := 22) hx hb dX4_villageBy_13 (by decide) ?_
      exact r_iret C0 X hP hS hr hlk dX4_villageBy_22 ⟨Option.some.inj h, rfl⟩
def bB_cX4_spotOfPlace : Nat := 0xac2e1b1800b42a0900a7030700a42d00b42a1b0b009b1b
theorem yB_cX4_spotOfPlace : BYS cX4_spotOfPlace 23 bB_cX4_spotOfPlace := BYS_of (by decide +kernel)
theorem dX4_spotOfPlace_0 : decode cX4_spotOfPlace 0 = .ok (.iload_n 1, 1) := D_27 yB_cX4_spotOfPlace rfl rfl
theorem dX4_spotOfPlace_1 : decode cX4_spotOfPlace 1 = .ok (.ifCond .lt 11, 3) := D_155 yB_cX4_spotOfPlace rfl rfl (sg_p (m := 32768) (N := 11) rfl rfl rfl)
theorem dX4_spotOfPlace_4 : decode cX4_spotOfPlace 4 = .ok (.iload_n 1, 1) := D_27 yB_cX4_spotOfPlace rfl rfl
theorem dX4_spotOfPlace_5 : decode cX4_spotOfPlace 5 = .ok (.aload_n 0, 1) := D_42 yB_cX4_spotOfPlace rfl rfl
theorem dX4_spotOfPlace_6 : decode cX4_spotOfPlace 6 = .ok (.getfield 45, 3) := D_180 yB_cX4_spotOfPlace rfl rfl rfl
theorem dX4_spotOfPlace_9 : decode cX4_spotOfPlace 9 = .ok (.if_icmp .le 7, 3) := D_164 yB_cX4_spotOfPlace rfl rfl (sg_p (m := 32768) (N := 7) rfl rfl rfl)
theorem dX4_spotOfPlace_12 : decode cX4_spotOfPlace 12 = .ok (.iconst 0, 1) := D_3 yB_cX4_spotOfPlace rfl rfl
theorem dX4_spotOfPlace_13 : decode cX4_spotOfPlace 13 = .ok (.goto 9, 3) := D_167 yB_cX4_spotOfPlace rfl rfl (sg_p (m := 32768) (N := 9) rfl rfl rfl)
theorem dX4_spotOfPlace_16 : decode cX4_spotOfPlace 16 = .ok (.aload_n 0, 1) := D_42 yB_cX4_spotOfPlace rfl rfl
theorem dX4_spotOfPlace_17 : decode cX4_spotOfPlace 17 = .ok (.getfield 24, 3) := D_180 yB_cX4_spotOfPlace rfl rfl rfl
theorem dX4_spotOfPlace_20 : decode cX4_spotOfPlace 20 = .ok (.iload_n 1, 1) := D_27 yB_cX4_spotOfPlace rfl rfl
theorem dX4_spotOfPlace_21 : decode cX4_spotOfPlace 21 = .ok (.iaload, 1) := D_46 yB_cX4_spotOfPlace rfl rfl
theorem dX4_spotOfPlace_22 : decode cX4_spotOfPlace 22 = .ok (.ireturn, 1) := D_172 yB_cX4_spotOfPlace rfl rfl
def F_X4_spotOfPlace (σ : Mem) (t : Nat) (x1 : Int32) : Option (Int32) := if x1 < 0 then (some 0) else (if x1 ≤ (σ (22 * t + 1) 0) then ((ix 9 x1).bind fun k_3 => some (σ (22 * t + 6) k_3)) else (some 0))
set_option maxHeartbeats 4000000 in
set_option maxRecDepth 100000 in
theorem c_X4_spotOfPlace (l : Launch) (D : va_G) (cA : Nat → ClassId) (ad : Nat → Nat) (o : Int64) (σ : Mem) (t : Nat) (x1 : Int32) (ht : t < 3) (res : Int32) (h : F_X4_spotOfPlace σ t x1 = some res) (sz : Nat) : Met l yX4_spotOfPlace (WY yX4_spotOfPlace cX4_spotOfPlace 2 (some .int)) (RM 0) (va_Pc [.ref (ad (22 * t + 1)), .int x1] (PW D cA ad o σ sz)) (va_Qi (fun r σ9 => r = res ∧ σ9 = σ) (QW D cA ad o) (FA ad sz)) 0 0 (FA ad sz) := by
  refine ct_of (own := RX4) (k := 0) (Qf := va_Qi (fun r σ9 => r = res ∧ σ9 = σ) (QW D cA ad o)) rfl (by decide) (Nat.le_of_ble_eq_true rfl) (fun p e s m below meth c ls C0 X hr hlk hP hl => ?_) sz
  have hS : va_S (FA ad s.heap.size) s.heap s.heap [] := va_S.rf
  have hl : lv_has ls 2 [(0, .ref (ad (22 * t + 1))), (1, .int x1)] := hl
  obtain ⟨hx, hb, hml, hown, hts⟩ := id C0
  unfold F_X4_spotOfPlace at h
  refine lv_iload_n hx hb dX4_spotOfPlace_0 rfl (lv_at hl 1 rfl) ?_
  refine lv_if_lt (tgt := 12) hx hb dX4_spotOfPlace_1 (by decide) (fun c_1 => ?_) (fun c_1 => ?_)
  · replace h := it_t h c_1
    refine lv_iconst (v := 0) hx hb dX4_spotOfPlace_12 (by decide) ?_
    refine lv_goto (tgt := 22) hx hb dX4_spotOfPlace_13 (by decide) ?_
    exact r_iret C0 X hP hS hr hlk dX4_spotOfPlace_22 ⟨Option.some.inj h, rfl⟩
  · replace h := it_f h c_1
    refine lv_iload_n hx hb dX4_spotOfPlace_4 rfl (lv_at hl 1 rfl) ?_
    refine lv_aload_n hx hb dX4_spotOfPlace_5 rfl (lv_at hl 0 rfl) ?_
    refine gf_X4_45 C0 X hP (22 * t + 1) (kdR t ht) dX4_spotOfPlace_6 ?_
    refine lv_icmp_le (tgt := 16) hx hb dX4_spotOfPlace_9 (by decide) (fun c_2 => ?_) (fun c_2 => ?_)
    · replace h := it_t h c_2
      refine lv_aload_n hx hb dX4_spotOfPlace_16 rfl (lv_at hl 0 rfl) ?_
      refine gf_X4_24 C0 X hP (22 * t + 1) (q := (22 * t + 6)) (kdR t ht) (by omega) (lkR6 t ht) dX4_spotOfPlace_17 ?_
      refine lv_iload_n hx hb dX4_spotOfPlace_20 rfl (lv_at hl 1 rfl) ?_
      obtain ⟨k_3, ek_3, h⟩ := bnd h
      replace ek_3 := ix_s ek_3 (by decide)
      refine r_ialdN C0 X hP (22 * t + 6) (k := k_3) (kdA6 t ht) ek_3.1 ek_3.2 dX4_spotOfPlace_21 ?_
      exact r_iret C0 X hP hS hr hlk dX4_spotOfPlace_22 ⟨Option.some.inj h, rfl⟩
    · replace h := it_f h c_2
      refine lv_iconst (v := 0) hx hb dX4_spotOfPlace_12 (by decide) ?_
      refine lv_goto (tgt := 22) hx hb dX4_spotOfPlace_13 (by decide) ?_
      exact r_iret C0 X hP hS hr hlk dX4_spotOfPlace_22 ⟨Option.some.inj h, rfl⟩
