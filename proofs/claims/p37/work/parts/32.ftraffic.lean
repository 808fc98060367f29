def bB_cX6_addCart : Nat := 0xac042e00b560042e00b4592a5000b5051506194d00b5041506194a00b51d06194700b51c06194300b51b06194000b60619063a322e00b42a1400b42aac030500a4631005150a00a3061d0f00a3c700111c1600a207102e00b42a
theorem yB_cX6_addCart : BYS cX6_addCart 90 bB_cX6_addCart := BYS_of (by decide +kernel)
theorem dX6_addCart_0 : decode cX6_addCart 0 = .ok (.aload_n 0, 1) := D_42 yB_cX6_addCart rfl rfl
theorem dX6_addCart_1 : decode cX6_addCart 1 = .ok (.getfield 46, 3) := D_180 yB_cX6_addCart rfl rfl rfl
theorem dX6_addCart_4 : decode cX6_addCart 4 = .ok (.bipush 7, 2) := D_16 yB_cX6_addCart rfl rfl (sg_p (m := 128) (N := 7) rfl rfl rfl)
theorem dX6_addCart_6 : decode cX6_addCart 6 = .ok (.if_icmp .ge 22, 3) := D_162 yB_cX6_addCart rfl rfl (sg_p (m := 32768) (N := 22) rfl rfl rfl)
theorem dX6_addCart_9 : decode cX6_addCart 9 = .ok (.iload_n 2, 1) := D_28 yB_cX6_addCart rfl rfl
theorem dX6_addCart_10 : decode cX6_addCart 10 = .ok (.sipush 199, 3) := D_17 yB_cX6_addCart rfl rfl (sg_p (m := 32768) (N := 199) rfl rfl rfl)
theorem dX6_addCart_13 : decode cX6_addCart 13 = .ok (.if_icmp .gt 15, 3) := D_163 yB_cX6_addCart rfl rfl (sg_p (m := 32768) (N := 15) rfl rfl rfl)
theorem dX6_addCart_16 : decode cX6_addCart 16 = .ok (.iload_n 3, 1) := D_29 yB_cX6_addCart rfl rfl
theorem dX6_addCart_17 : decode cX6_addCart 17 = .ok (.iconst 3, 1) := D_6 yB_cX6_addCart rfl rfl
theorem dX6_addCart_18 : decode cX6_addCart 18 = .ok (.if_icmp .gt 10, 3) := D_163 yB_cX6_addCart rfl rfl (sg_p (m := 32768) (N := 10) rfl rfl rfl)
theorem dX6_addCart_21 : decode cX6_addCart 21 = .ok (.iload 5, 2) := D_21 yB_cX6_addCart rfl rfl rfl
theorem dX6_addCart_23 : decode cX6_addCart 23 = .ok (.bipush 99, 2) := D_16 yB_cX6_addCart rfl rfl (sg_p (m := 128) (N := 99) rfl rfl rfl)
theorem dX6_addCart_25 : decode cX6_addCart 25 = .ok (.if_icmp .le 5, 3) := D_164 yB_cX6_addCart rfl rfl (sg_p (m := 32768) (N := 5) rfl rfl rfl)
theorem dX6_addCart_28 : decode cX6_addCart 28 = .ok (.iconst 0, 1) := D_3 yB_cX6_addCart rfl rfl
theorem dX6_addCart_29 : decode cX6_addCart 29 = .ok (.ireturn, 1) := D_172 yB_cX6_addCart rfl rfl
theorem dX6_addCart_30 : decode cX6_addCart 30 = .ok (.aload_n 0, 1) := D_42 yB_cX6_addCart rfl rfl
theorem dX6_addCart_31 : decode cX6_addCart 31 = .ok (.getfield 20, 3) := D_180 yB_cX6_addCart rfl rfl rfl
theorem dX6_addCart_34 : decode cX6_addCart 34 = .ok (.aload_n 0, 1) := D_42 yB_cX6_addCart rfl rfl
theorem dX6_addCart_35 : decode cX6_addCart 35 = .ok (.getfield 46, 3) := D_180 yB_cX6_addCart rfl rfl rfl
theorem dX6_addCart_38 : decode cX6_addCart 38 = .ok (.aaload, 1) := D_50 yB_cX6_addCart rfl rfl
theorem dX6_addCart_39 : decode cX6_addCart 39 = .ok (.astore 6, 2) := D_58 yB_cX6_addCart rfl rfl rfl
theorem dX6_addCart_41 : decode cX6_addCart 41 = .ok (.aload 6, 2) := D_25 yB_cX6_addCart rfl rfl rfl
theorem dX6_addCart_43 : decode cX6_addCart 43 = .ok (.invokevirtual 64, 3) := D_182 yB_cX6_addCart rfl rfl rfl
theorem dX6_addCart_46 : decode cX6_addCart 46 = .ok (.aload 6, 2) := D_25 yB_cX6_addCart rfl rfl rfl
theorem dX6_addCart_48 : decode cX6_addCart 48 = .ok (.iload_n 1, 1) := D_27 yB_cX6_addCart rfl rfl
theorem dX6_addCart_49 : decode cX6_addCart 49 = .ok (.putfield 67, 3) := D_181 yB_cX6_addCart rfl rfl rfl
theorem dX6_addCart_52 : decode cX6_addCart 52 = .ok (.aload 6, 2) := D_25 yB_cX6_addCart rfl rfl rfl
theorem dX6_addCart_54 : decode cX6_addCart 54 = .ok (.iload_n 2, 1) := D_28 yB_cX6_addCart rfl rfl
theorem dX6_addCart_55 : decode cX6_addCart 55 = .ok (.putfield 71, 3) := D_181 yB_cX6_addCart rfl rfl rfl
theorem dX6_addCart_58 : decode cX6_addCart 58 = .ok (.aload 6, 2) := D_25 yB_cX6_addCart rfl rfl rfl
theorem dX6_addCart_60 : decode cX6_addCart 60 = .ok (.iload_n 3, 1) := D_29 yB_cX6_addCart rfl rfl
theorem dX6_addCart_61 : decode cX6_addCart 61 = .ok (.putfield 74, 3) := D_181 yB_cX6_addCart rfl rfl rfl
theorem dX6_addCart_64 : decode cX6_addCart 64 = .ok (.aload 6, 2) := D_25 yB_cX6_addCart rfl rfl rfl
theorem dX6_addCart_66 : decode cX6_addCart 66 = .ok (.iload 4, 2) := D_21 yB_cX6_addCart rfl rfl rfl
theorem dX6_addCart_68 : decode cX6_addCart 68 = .ok (.putfield 77, 3) := D_181 yB_cX6_addCart rfl rfl rfl
theorem dX6_addCart_71 : decode cX6_addCart 71 = .ok (.aload 6, 2) := D_25 yB_cX6_addCart rfl rfl rfl
theorem dX6_addCart_73 : decode cX6_addCart 73 = .ok (.iload 5, 2) := D_21 yB_cX6_addCart rfl rfl rfl
theorem dX6_addCart_75 : decode cX6_addCart 75 = .ok (.putfield 80, 3) := D_181 yB_cX6_addCart rfl rfl rfl
theorem dX6_addCart_78 : decode cX6_addCart 78 = .ok (.aload_n 0, 1) := D_42 yB_cX6_addCart rfl rfl
theorem dX6_addCart_79 : decode cX6_addCart 79 = .ok (.dup, 1) := D_89 yB_cX6_addCart rfl rfl
theorem dX6_addCart_80 : decode cX6_addCart 80 = .ok (.getfield 46, 3) := D_180 yB_cX6_addCart rfl rfl rfl
theorem dX6_addCart_83 : decode cX6_addCart 83 = .ok (.iconst 1, 1) := D_4 yB_cX6_addCart rfl rfl
theorem dX6_addCart_84 : decode cX6_addCart 84 = .ok (.iadd, 1) := D_96 yB_cX6_addCart rfl rfl
theorem dX6_addCart_85 : decode cX6_addCart 85 = .ok (.putfield 46, 3) := D_181 yB_cX6_addCart rfl rfl rfl
theorem dX6_addCart_88 : decode cX6_addCart 88 = .ok (.iconst 1, 1) := D_4 yB_cX6_addCart rfl rfl
theorem dX6_addCart_89 : decode cX6_addCart 89 = .ok (.ireturn, 1) := D_172 yB_cX6_addCart rfl rfl
def F_X6_addCart (σ : Mem) (t : Nat) (x1 : Int32) (x2 : Int32) (x3 : Int32) (x4 : Int32) (x5 : Int32) : Option (Mem × Int32) := if 7 ≤ (σ (22 * t) 2) then (some (σ, 0)) else (if 199 < x2 then (some (σ, 0)) else (if 3 < x3 then (some (σ, 0)) else (if x5 ≤ 99 then ((ix 7 (σ (22 * t) 2)).bind fun k_5 => ck (x1 = 0 ∨ x1 = 1) <| ck (x4 = 0 ∨ x4 = 1) <| some ((stm (stm (stm (stm (stm (stm (cbeg σ (22 * t + 15 + k_5)) (22 * t + 15 + k_5) 0 x1) (22 * t + 15 + k_5) 2 x2) (22 * t + 15 + k_5) 3 x3) (22 * t + 15 + k_5) 1 x4) (22 * t + 15 + k_5) 4 x5) (22 * t) 2 (((stm (stm (stm (stm (stm (cbeg σ (22 * t + 15 + k_5)) (22 * t + 15 + k_5) 0 x1) (22 * t + 15 + k_5) 2 x2) (22 * t + 15 + k_5) 3 x3) (22 * t + 15 + k_5) 1 x4) (22 * t + 15 + k_5) 4 x5) (22 * t) 2) + 1)), 1)) else (some (σ, 0)))))
set_option maxHeartbeats 4000000 in
set_option maxRecDepth 100000 in
theorem c_X6_addCart (l : Launch) (D : va_G) (cA : Nat → ClassId) (ad : Nat → Nat) (o : Int64) (σ : Mem) (t : Nat) (x1 : Int32) (x2 : Int32) (x3 : Int32) (x4 : Int32) (x5 : Int32) (ht : t < 3) (res : Mem × Int32) (h : F_X6_addCart σ t x1 x2 x3 x4 x5 = some res) (sz : Nat) : Met l yX6_addCart (WY yX6_addCart cX6_addCart 7 (some .boolean)) (RM 1) (va_Pc [.ref (ad (22 * t)), .int x1, .int x2, .int x3, .int x4, .int x5] (PW D cA ad o σ sz)) (va_Qi (fun r σ9 => r = res.2 ∧ σ9 = res.1) (QW D cA ad o) (FA ad sz)) 0 0 (FA ad sz) := by
  refine ct_of (own := RX6) (k := 1) (Qf := va_Qi (fun r σ9 => r = res.2 ∧ σ9 = res.1) (QW D cA ad o)) rfl (by decide) (Nat.le_of_ble_eq_true rfl) (fun p e s m below meth c ls C0 X hr hlk hP hl => ?_) sz
  have hS : va_S (FA ad s.heap.size) s.heap s.heap [] := va_S.rf
  have hl : lv_has ls 7 [(0, .ref (ad (22 * t))), (1, .int x1), (2, .int x2), (3, .int x3), (4, .int x4), (5, .int x5)] := hl
  obtain ⟨hx, hb, hml, hown, hts⟩ := id C0
  unfold F_X6_addCart at h
  refine lv_aload_n hx hb dX6_addCart_0 rfl (lv_at hl 0 rfl) ?_
  refine gf_X6_46 C0 X hP (22 * t) (kdT t ht) dX6_addCart_1 ?_
  refine lv_bipush (v := 7) hx hb dX6_addCart_4 (by decide) ?_
  refine lv_icmp_ge (tgt := 28) hx hb dX6_addCart_6 (by decide) (fun c_1 => ?_) (fun c_1 => ?_)
  · replace h := it_t h c_1
    refine lv_iconst (v := 0) hx hb dX6_addCart_28 (by decide) ?_
    exact r_zret C0 X hP hS hr hlk dX6_addCart_29 (Or.inl rfl) (rt2 h)
  · replace h := it_f h c_1
    refine lv_iload_n hx hb dX6_addCart_9 rfl (lv_at hl 2 rfl) ?_
    refine lv_sipush (v := 199) hx hb dX6_addCart_10 (by decide) ?_
    refine lv_icmp_gt (tgt := 28) hx hb dX6_addCart_13 (by decide) (fun c_2 => ?_) (fun c_2 => ?_)
    · replace h := it_t h c_2
      refine lv_iconst (v := 0) hx hb dX6_addCart_28 (by decide) ?_
      exact r_zret C0 X hP hS hr hlk dX6_addCart_29 (Or.inl rfl) (rt2 h)
    · replace h := it_f h c_2
      refine lv_iload_n hx hb dX6_addCart_16 rfl (lv_at hl 3 rfl) ?_
      refine lv_iconst (v := 3) hx hb dX6_addCart_17 (by decide) ?_
      refine lv_icmp_gt (tgt := 28) hx hb dX6_addCart_18 (by decide) (fun c_3 => ?_) (fun c_3 => ?_)
      · replace h := it_t h c_3
        refine lv_iconst (v := 0) hx hb dX6_addCart_28 (by decide) ?_
        exact r_zret C0 X hP hS hr hlk dX6_addCart_29 (Or.inl rfl) (rt2 h)
      · replace h := it_f h c_3
        refine lv_iload hx hb dX6_addCart_21 (lv_at hl 5 rfl) ?_
        refine lv_bipush (v := 99) hx hb dX6_addCart_23 (by decide) ?_
        refine lv_icmp_le (tgt := 30) hx hb dX6_addCart_25 (by decide) (fun c_4 => ?_) (fun c_4 => ?_)
        · replace h := it_t h c_4
          refine lv_aload_n hx hb dX6_addCart_30 rfl (lv_at hl 0 rfl) ?_
          refine gf_X6_20 C0 X hP (22 * t) (q := (22 * t + 13)) (kdT t ht) (by omega) (lkT1 t ht) dX6_addCart_31 ?_
          refine lv_aload_n hx hb dX6_addCart_34 rfl (lv_at hl 0 rfl) ?_
          refine gf_X6_46 C0 X hP (22 * t) (kdT t ht) dX6_addCart_35 ?_
          obtain ⟨k_5, ek_5, h⟩ := bnd h
          replace ek_5 := ix_s ek_5 (by decide)
          refine r_aaldCN C0 X hP (22 * t + 13) (k := k_5) (q := (22 * t + 15 + k_5)) (kdCA t ht) ek_5.1 ek_5.2 (lkCA t ht k_5 ek_5.2) dX6_addCart_38 ?_
          refine lv_astore (lv' := [(6, .ref (ad (22 * t + 15 + k_5))), (0, .ref (ad (22 * t))), (1, .int x1), (2, .int x2), (3, .int x3), (4, .int x4), (5, .int x5)]) hx hb dX6_addCart_39 hl (by decide) rfl (fun ls hl => ?_)
          refine lv_aload hx hb dX6_addCart_41 (lv_at hl 0 rfl) ?_
          refine r_cv X hS (r_runV (As := []) (rest := []) C0 X hP L_X6_64 (fun sz => c_X0_beginAnew l D cA ad o σ (22 * t + 15 + k_5) (kdC t ht k_5 ek_5.2) sz) (kdC t ht k_5 ek_5.2).1 (kdC t ht k_5 ek_5.2).2 (by decide) rfl ⟨Nat.le_of_ble_eq_true rfl, Nat.le_of_ble_eq_true rfl⟩ rfl hl.1 rfl (Nat.le_of_ble_eq_true rfl) dX6_addCart_43 ⟨Nat.zero_le _, Nat.zero_le _⟩) (fun σ9 H locs hw hP hS => ?_)
          rw [show σ9 = (cbeg σ (22 * t + 15 + k_5)) from hw] at hP
          refine lv_aload hx hb dX6_addCart_46 (lv_at hl 0 rfl) ?_
          refine lv_iload_n hx hb dX6_addCart_48 rfl (lv_at hl 2 rfl) ?_
          obtain ⟨q_6, h⟩ := ckp h
          refine pf_X6_67 C0 X hP hS (22 * t + 15 + k_5) q_6 (kdC t ht k_5 ek_5.2) dX6_addCart_49 (fun H locs hP hS => ?_)
          refine lv_aload hx hb dX6_addCart_52 (lv_at hl 0 rfl) ?_
          refine lv_iload_n hx hb dX6_addCart_54 rfl (lv_at hl 3 rfl) ?_
          refine pf_X6_71 C0 X hP hS (22 * t + 15 + k_5) (kdC t ht k_5 ek_5.2) dX6_addCart_55 (fun H locs hP hS => ?_)
          refine lv_aload hx hb dX6_addCart_58 (lv_at hl 0 rfl) ?_
          refine lv_iload_n hx hb dX6_addCart_60 rfl (lv_at hl 4 rfl) ?_
          refine pf_X6_74 C0 X hP hS (22 * t + 15 + k_5) (kdC t ht k_5 ek_5.2) dX6_addCart_61 (fun H locs hP hS => ?_)
          refine lv_aload hx hb dX6_addCart_64 (lv_at hl 0 rfl) ?_
          refine lv_iload hx hb dX6_addCart_66 (lv_at hl 5 rfl) ?_
          obtain ⟨q_7, h⟩ := ckp h
          refine pf_X6_77 C0 X hP hS (22 * t + 15 + k_5) q_7 (kdC t ht k_5 ek_5.2) dX6_addCart_68 (fun H locs hP hS => ?_)
          refine lv_aload hx hb dX6_addCart_71 (lv_at hl 0 rfl) ?_
          refine lv_iload hx hb dX6_addCart_73 (lv_at hl 6 rfl) ?_
          refine pf_X6_80 C0 X hP hS (22 * t + 15 + k_5) (kdC t ht k_5 ek_5.2) dX6_addCart_75 (fun H locs hP hS => ?_)
          refine lv_aload_n hx hb dX6_addCart_78 rfl (lv_at hl 1 rfl) ?_
          refine lv_dup hx hb dX6_addCart_79 rfl ?_
          refine gf_X6_46 C0 X hP (22 * t) (kdT t ht) dX6_addCart_80 ?_
          refine lv_iconst (v := 1) hx hb dX6_addCart_83 (by decide) ?_
          refine lv_iadd hx hb dX6_addCart_84 ?_
          refine pf_X6_46 C0 X hP hS (22 * t) (kdT t ht) dX6_addCart_85 (fun H locs hP hS => ?_)
          refine lv_iconst (v := 1) hx hb dX6_addCart_88 (by decide) ?_
          exact r_zret C0 X hP hS hr hlk dX6_addCart_89 (Or.inr rfl) (rt2 h)
        · replace h := it_f h c_4
          refine lv_iconst (v := 0) hx hb dX6_addCart_28 (by decide) ?_
          exact r_zret C0 X hP hS hr hlk dX6_addCart_29 (Or.inl rfl) (rt2 h)
def bB_cX6_watch : Nat := 0xb12300b5fc102a2000b51c2a1c00b51b2a
theorem yB_cX6_watch : BYS cX6_watch 17 bB_cX6_watch := BYS_of (by decide +kernel)
theorem dX6_watch_0 : decode cX6_watch 0 = .ok (.aload_n 0, 1) := D_42 yB_cX6_watch rfl rfl
theorem dX6_watch_1 : decode cX6_watch 1 = .ok (.iload_n 1, 1) := D_27 yB_cX6_watch rfl rfl
theorem dX6_watch_2 : decode cX6_watch 2 = .ok (.putfield 28, 3) := D_181 yB_cX6_watch rfl rfl rfl
theorem dX6_watch_5 : decode cX6_watch 5 = .ok (.aload_n 0, 1) := D_42 yB_cX6_watch rfl rfl
theorem dX6_watch_6 : decode cX6_watch 6 = .ok (.iload_n 2, 1) := D_28 yB_cX6_watch rfl rfl
theorem dX6_watch_7 : decode cX6_watch 7 = .ok (.putfield 32, 3) := D_181 yB_cX6_watch rfl rfl rfl
theorem dX6_watch_10 : decode cX6_watch 10 = .ok (.aload_n 0, 1) := D_42 yB_cX6_watch rfl rfl
theorem dX6_watch_11 : decode cX6_watch 11 = .ok (.bipush (-4), 2) := D_16 yB_cX6_watch rfl rfl (sg_n (m := 128) (N := 4) rfl rfl rfl)
theorem dX6_watch_13 : decode cX6_watch 13 = .ok (.putfield 35, 3) := D_181 yB_cX6_watch rfl rfl rfl
theorem dX6_watch_16 : decode cX6_watch 16 = .ok (.return_, 1) := D_177 yB_cX6_watch rfl rfl
def F_X6_watch (σ : Mem) (t : Nat) (x1 : Int32) (x2 : Int32) : Option (Mem) := some (stm (stm (stm σ (22 * t) 8 x1) (22 * t) 9 x2) (22 * t) 10 (-4))
set_option maxHeartbeats 4000000 in
set_option maxRecDepth 100000 in
theorem c_X6_watch (l : Launch) (D : va_G) (cA : Nat → ClassId) (ad : Nat → Nat) (o : Int64) (σ : Mem) (t : Nat) (x1 : Int32) (x2 : Int32) (ht : t < 3) (res : Mem) (h : F_X6_watch σ t x1 x2 = some res) (sz : Nat) : Met l yX6_watch (WY yX6_watch cX6_watch 3 none) (RM 0) (va_Pc [.ref (ad (22 * t)), .int x1, .int x2] (PW D cA ad o σ sz)) (va_Qv (fun σ9 => σ9 = res) (QW D cA ad o) (FA ad sz)) 0 0 (FA ad sz) := by
  refine ct_of (own := RX6) (k := 0) (Qf := va_Qv (fun σ9 => σ9 = res) (QW D cA ad o)) rfl (by decide) (Nat.le_of_ble_eq_true rfl) (fun p e s m below meth c ls C0 X hr hlk hP hl => ?_) sz
  have hS : va_S (FA ad s.heap.size) s.heap s.heap [] := va_S.rf
  have hl : lv_has ls 3 [(0, .ref (ad (22 * t))), (1, .int x1), (2, .int x2)] := hl
  obtain ⟨hx, hb, hml, hown, hts⟩ := id C0
  unfold F_X6_watch at h
  refine lv_aload_n hx hb dX6_watch_0 rfl (lv_at hl 0 rfl) ?_
  refine lv_iload_n hx hb dX6_watch_1 rfl (lv_at hl 1 rfl) ?_
  refine pf_X6_28 C0 X hP hS (22 * t) (kdT t ht) dX6_watch_2 (fun H locs hP hS => ?_)
  refine lv_aload_n hx hb dX6_watch_5 rfl (lv_at hl 0 rfl) ?_
  refine lv_iload_n hx hb dX6_watch_6 rfl (lv_at hl 2 rfl) ?_
  refine pf_X6_32 C0 X hP hS (22 * t) (kdT t ht) dX6_watch_7 (fun H locs hP hS => ?_)
  refine lv_aload_n hx hb dX6_watch_10 rfl (lv_at hl 0 rfl) ?_
  refine lv_bipush (v := (-4)) hx hb dX6_watch_11 (by decide) ?_
  refine pf_X6_35 C0 X hP hS (22 * t) (kdT t ht) dX6_watch_13 (fun H locs hP hS => ?_)
  exact r_vret C0 X hP hS hr hlk dX6_watch_16 (Option.some.inj h)
def bB_cX6_howMany : Nat := 0xac1ce5ffa70103840102840600a01b5300b4321d1400b42a1900a22e00b42a1d3e033d03
theorem yB_cX6_howMany : BYS cX6_howMany 36 bB_cX6_howMany := BYS_of (by decide +kernel)
theorem dX6_howMany_0 : decode cX6_howMany 0 = .ok (.iconst 0, 1) := D_3 yB_cX6_howMany rfl rfl
theorem dX6_howMany_1 : decode cX6_howMany 1 = .ok (.istore_n 2, 1) := D_61 yB_cX6_howMany rfl rfl
theorem dX6_howMany_2 : decode cX6_howMany 2 = .ok (.iconst 0, 1) := D_3 yB_cX6_howMany rfl rfl
theorem dX6_howMany_3 : decode cX6_howMany 3 = .ok (.istore_n 3, 1) := D_62 yB_cX6_howMany rfl rfl
theorem dX6_howMany_4 : decode cX6_howMany 4 = .ok (.iload_n 3, 1) := D_29 yB_cX6_howMany rfl rfl
theorem dX6_howMany_5 : decode cX6_howMany 5 = .ok (.aload_n 0, 1) := D_42 yB_cX6_howMany rfl rfl
theorem dX6_howMany_6 : decode cX6_howMany 6 = .ok (.getfield 46, 3) := D_180 yB_cX6_howMany rfl rfl rfl
theorem dX6_howMany_9 : decode cX6_howMany 9 = .ok (.if_icmp .ge 25, 3) := D_162 yB_cX6_howMany rfl rfl (sg_p (m := 32768) (N := 25) rfl rfl rfl)
theorem dX6_howMany_12 : decode cX6_howMany 12 = .ok (.aload_n 0, 1) := D_42 yB_cX6_howMany rfl rfl
theorem dX6_howMany_13 : decode cX6_howMany 13 = .ok (.getfield 20, 3) := D_180 yB_cX6_howMany rfl rfl rfl
theorem dX6_howMany_16 : decode cX6_howMany 16 = .ok (.iload_n 3, 1) := D_29 yB_cX6_howMany rfl rfl
theorem dX6_howMany_17 : decode cX6_howMany 17 = .ok (.aaload, 1) := D_50 yB_cX6_howMany rfl rfl
theorem dX6_howMany_18 : decode cX6_howMany 18 = .ok (.getfield 83, 3) := D_180 yB_cX6_howMany rfl rfl rfl
theorem dX6_howMany_21 : decode cX6_howMany 21 = .ok (.iload_n 1, 1) := D_27 yB_cX6_howMany rfl rfl
theorem dX6_howMany_22 : decode cX6_howMany 22 = .ok (.if_icmp .ne 6, 3) := D_160 yB_cX6_howMany rfl rfl (sg_p (m := 32768) (N := 6) rfl rfl rfl)
theorem dX6_howMany_25 : decode cX6_howMany 25 = .ok (.iinc 2 1, 3) := D_132 yB_cX6_howMany rfl rfl rfl (sg_p (m := 128) (N := 1) rfl rfl rfl)
theorem dX6_howMany_28 : decode cX6_howMany 28 = .ok (.iinc 3 1, 3) := D_132 yB_cX6_howMany rfl rfl rfl (sg_p (m := 128) (N := 1) rfl rfl rfl)
theorem dX6_howMany_31 : decode cX6_howMany 31 = .ok (.goto (-27), 3) := D_167 yB_cX6_howMany rfl rfl (sg_n (m := 32768) (N := 27) rfl rfl rfl)
theorem dX6_howMany_34 : decode cX6_howMany 34 = .ok (.iload_n 2, 1) := D_28 yB_cX6_howMany rfl rfl
theorem dX6_howMany_35 : decode cX6_howMany 35 = .ok (.ireturn, 1) := D_172 yB_cX6_howMany rfl rfl
def F_X6_howMany_4 (σ : Mem) (t : Nat) (x1 : Int32)  : Nat → Int32 → Int32 → Option (Int32)
  | 0, _, _ => none
  | nn + 1, v3, v2 => if (σ (22 * t) 2) ≤ v3 then (some v2) else ((ix 7 v3).bind fun k_3 => if (σ (22 * t + 15 + k_3) 6) = x1 then (F_X6_howMany_4 σ t x1 nn (v3 + 1) (v2 + 1)) else (F_X6_howMany_4 σ t x1 nn (v3 + 1) v2))
def F_X6_howMany (σ : Mem) (t : Nat) (x1 : Int32) : Option (Int32) := F_X6_howMany_4 σ t x1 FU 0 0
set_option maxHeartbeats 4000000 in
set_option maxRecDepth 100000 in
theorem c_X6_howMany (l : Launch) (D : va_G) (cA : Nat → ClassId) (ad : Nat → Nat) (o : Int64) (σ : Mem) (t : Nat) (x1 : Int32) (ht : t < 3) (res : Int32) (h : F_X6_howMany σ t x1 = some res) (sz : Nat) : Met l yX6_howMany (WY yX6_howMany cX6_howMany 4 (some .int)) (RM 0) (va_Pc [.ref (ad (22 * t)), .int x1] (PW D cA ad o σ sz)) (va_Qi (fun r σ9 => r = res ∧ σ9 = σ) (QW D cA ad o) (FA ad sz)) 0 0 (FA ad sz) := by
  refine ct_of (own := RX6) (k := 0) (Qf := va_Qi (fun r σ9 => r = res ∧ σ9 = σ) (QW D cA ad o)) rfl (by decide) (Nat.le_of_ble_eq_true rfl) (fun p e s m below meth c ls C0 X hr hlk hP hl => ?_) sz
  have hS : va_S (FA ad s.heap.size) s.heap s.heap [] := va_S.rf
  have hl : lv_has ls 4 [(0, .ref (ad (22 * t))), (1, .int x1)] := hl
  obtain ⟨hx, hb, hml, hown, hts⟩ := id C0
  unfold F_X6_howMany at h
  refine lv_iconst (v := 0) hx hb dX6_howMany_0 (by decide) ?_
  refine lv_istore_n (lv' := [(2, .int 0), (0, .ref (ad (22 * t))), (1, .int x1)]) hx hb dX6_howMany_1 rfl hl (by decide) rfl (fun ls hl => ?_)
  refine lv_iconst (v := 0) hx hb dX6_howMany_2 (by decide) ?_
  refine lv_istore_n (lv' := [(3, .int 0), (2, .int 0), (0, .ref (ad (22 * t))), (1, .int x1)]) hx hb dX6_howMany_3 rfl hl (by decide) rfl (fun ls hl => ?_)
  have lp_1 : ∀ (nn4 : Nat) (v3 : Int32) (v2 : Int32) (H : Heap) (locs : List Loc) (ls : Array Slot), F_X6_howMany_4 σ t x1 nn4 v3 v2 = some res → WP D cA ad o σ H → va_S (FA ad s.heap.size) s.heap H locs → lv_has ls 4 [(3, .int v3), (2, .int v2), (0, .ref (ad (22 * t))), (1, .int x1)] → W p l e (RM 0) s m ([.ref (ad (22 * t)), .int x1] : List Value).toArray below meth c H locs 0 0 (MQ below (va_Qi (fun r σ9 => r = res ∧ σ9 = σ) (QW D cA ad o) (FA ad s.heap.size)) ([.ref (ad (22 * t)), .int x1] : List Value).toArray s 0 0 (FA ad s.heap.size)) (F0 m 4 ls []) := by
    intro nn4
    induction nn4 with
    | zero => intro v3 v2 H locs ls h hP hS hl; exact absurd (show none = some res from h) nofun
    | succ nn4 ih4 =>
      intro v3 v2 H locs ls h hP hS hl
      replace h := (F_X6_howMany_4.eq_2 _ _ _ _ _ _).symm.trans h
      refine lv_iload_n hx hb dX6_howMany_4 rfl (lv_at hl 0 rfl) ?_
      refine lv_aload_n hx hb dX6_howMany_5 rfl (lv_at hl 2 rfl) ?_
      refine gf_X6_46 C0 X hP (22 * t) (kdT t ht) dX6_howMany_6 ?_
      refine lv_icmp_ge (tgt := 34) hx hb dX6_howMany_9 (by decide) (fun c_2 => ?_) (fun c_2 => ?_)
      · replace h := it_t h c_2
        refine lv_iload_n hx hb dX6_howMany_34 rfl (lv_at hl 1 rfl) ?_
        exact r_iret C0 X hP hS hr hlk dX6_howMany_35 ⟨Option.some.inj h, rfl⟩
      · replace h := it_f h c_2
        refine lv_aload_n hx hb dX6_howMany_12 rfl (lv_at hl 2 rfl) ?_
        refine gf_X6_20 C0 X hP (22 * t) (q := (22 * t + 13)) (kdT t ht) (by omega) (lkT1 t ht) dX6_howMany_13 ?_
        refine lv_iload_n hx hb dX6_howMany_16 rfl (lv_at hl 0 rfl) ?_
        obtain ⟨k_3, ek_3, h⟩ := bnd h
        replace ek_3 := ix_s ek_3 (by decide)
        refine r_aaldCN C0 X hP (22 * t + 13) (k := k_3) (q := (22 * t + 15 + k_3)) (kdCA t ht) ek_3.1 ek_3.2 (lkCA t ht k_3 ek_3.2) dX6_howMany_17 ?_
        refine gf_X6_83 C0 X hP (22 * t + 15 + k_3) (kdC t ht k_3 ek_3.2) dX6_howMany_18 ?_
        refine lv_iload_n hx hb dX6_howMany_21 rfl (lv_at hl 3 rfl) ?_
        refine lv_icmp_ne (tgt := 28) hx hb dX6_howMany_22 (by decide) (fun c_4 => ?_) (fun c_4 => ?_)
        · replace h := it_f h c_4
          refine lv_iinc (v := (v3 + 1)) (lv' := [(3, .int (v3 + 1)), (2, .int v2), (0, .ref (ad (22 * t))), (1, .int x1)]) hx hb dX6_howMany_28 hl (k := 0) rfl rfl (by decide) rfl (fun ls hl => ?_)
          refine lv_goto (tgt := 4) hx hb dX6_howMany_31 (by decide) ?_
          exact ih4 (v3 + 1) v2 _ _ ls  h hP hS (lv_sub hl [0, 1, 2, 3] rfl)
        · replace h := it_t h c_4
          refine lv_iinc (v := (v2 + 1)) (lv' := [(2, .int (v2 + 1)), (3, .int v3), (0, .ref (ad (22 * t))), (1, .int x1)]) hx hb dX6_howMany_25 hl (k := 1) rfl rfl (by decide) rfl (fun ls hl => ?_)
          refine lv_iinc (v := (v3 + 1)) (lv' := [(3, .int (v3 + 1)), (2, .int (v2 + 1)), (0, .ref (ad (22 * t))), (1, .int x1)]) hx hb dX6_howMany_28 hl (k := 1) rfl rfl (by decide) rfl (fun ls hl => ?_)
          refine lv_goto (tgt := 4) hx hb dX6_howMany_31 (by decide) ?_
          exact ih4 (v3 + 1) (v2 + 1) _ _ ls  h hP hS (lv_sub hl [0, 1, 2, 3] rfl)
  exact lp_1 FU 0 0 _ _ ls  h hP hS (lv_sub hl [0, 1, 2, 3] rfl)
def bB_cX6_allBacked : Nat := 0xac1be9ffa70102843c605600b4321c1400b42a1b1500a22e00b42a1c3d033c03
theorem yB_cX6_allBacked : BYS cX6_allBacked 32 bB_cX6_allBacked := BYS_of (by decide +kernel)
theorem dX6_allBacked_0 : decode cX6_allBacked 0 = .ok (.iconst 0, 1) := D_3 yB_cX6_allBacked rfl rfl
theorem dX6_allBacked_1 : decode cX6_allBacked 1 = .ok (.istore_n 1, 1) := D_60 yB_cX6_allBacked rfl rfl
theorem dX6_allBacked_2 : decode cX6_allBacked 2 = .ok (.iconst 0, 1) := D_3 yB_cX6_allBacked rfl rfl
theorem dX6_allBacked_3 : decode cX6_allBacked 3 = .ok (.istore_n 2, 1) := D_61 yB_cX6_allBacked rfl rfl
theorem dX6_allBacked_4 : decode cX6_allBacked 4 = .ok (.iload_n 2, 1) := D_28 yB_cX6_allBacked rfl rfl
theorem dX6_allBacked_5 : decode cX6_allBacked 5 = .ok (.aload_n 0, 1) := D_42 yB_cX6_allBacked rfl rfl
theorem dX6_allBacked_6 : decode cX6_allBacked 6 = .ok (.getfield 46, 3) := D_180 yB_cX6_allBacked rfl rfl rfl
theorem dX6_allBacked_9 : decode cX6_allBacked 9 = .ok (.if_icmp .ge 21, 3) := D_162 yB_cX6_allBacked rfl rfl (sg_p (m := 32768) (N := 21) rfl rfl rfl)
theorem dX6_allBacked_12 : decode cX6_allBacked 12 = .ok (.iload_n 1, 1) := D_27 yB_cX6_allBacked rfl rfl
theorem dX6_allBacked_13 : decode cX6_allBacked 13 = .ok (.aload_n 0, 1) := D_42 yB_cX6_allBacked rfl rfl
theorem dX6_allBacked_14 : decode cX6_allBacked 14 = .ok (.getfield 20, 3) := D_180 yB_cX6_allBacked rfl rfl rfl
theorem dX6_allBacked_17 : decode cX6_allBacked 17 = .ok (.iload_n 2, 1) := D_28 yB_cX6_allBacked rfl rfl
theorem dX6_allBacked_18 : decode cX6_allBacked 18 = .ok (.aaload, 1) := D_50 yB_cX6_allBacked rfl rfl
theorem dX6_allBacked_19 : decode cX6_allBacked 19 = .ok (.getfield 86, 3) := D_180 yB_cX6_allBacked rfl rfl rfl
theorem dX6_allBacked_22 : decode cX6_allBacked 22 = .ok (.iadd, 1) := D_96 yB_cX6_allBacked rfl rfl
theorem dX6_allBacked_23 : decode cX6_allBacked 23 = .ok (.istore_n 1, 1) := D_60 yB_cX6_allBacked rfl rfl
theorem dX6_allBacked_24 : decode cX6_allBacked 24 = .ok (.iinc 2 1, 3) := D_132 yB_cX6_allBacked rfl rfl rfl (sg_p (m := 128) (N := 1) rfl rfl rfl)
theorem dX6_allBacked_27 : decode cX6_allBacked 27 = .ok (.goto (-23), 3) := D_167 yB_cX6_allBacked rfl rfl (sg_n (m := 32768) (N := 23) rfl rfl rfl)
theorem dX6_allBacked_30 : decode cX6_allBacked 30 = .ok (.iload_n 1, 1) := D_27 yB_cX6_allBacked rfl rfl
theorem dX6_allBacked_31 : decode cX6_allBacked 31 = .ok (.ireturn, 1) := D_172 yB_cX6_allBacked rfl rfl
def F_X6_allBacked_4 (σ : Mem) (t : Nat)  : Nat → Int32 → Int32 → Option (Int32)
  | 0, _, _ => none
  | nn + 1, v2, v1 => if (σ (22 * t) 2) ≤ v2 then (some v1) else ((ix 7 v2).bind fun k_3 => F_X6_allBacked_4 σ t nn (v2 + 1) (v1 + (σ (22 * t + 15 + k_3) 10)))
def F_X6_allBacked (σ : Mem) (t : Nat) : Option (Int32) := F_X6_allBacked_4 σ t FU 0 0
set_option maxHeartbeats 4000000 in
set_option maxRecDepth 100000 in
theorem c_X6_allBacked (l : Launch) (D : va_G) (cA : Nat → ClassId) (ad : Nat → Nat) (o : Int64) (σ : Mem) (t : Nat) (ht : t < 3) (res : Int32) (h : F_X6_allBacked σ t = some res) (sz : Nat) : Met l yX6_allBacked (WY yX6_allBacked cX6_allBacked 3 (some .int)) (RM 0) (va_Pc [.ref (ad (22 * t))] (PW D cA ad o σ sz)) (va_Qi (fun r σ9 => r = res ∧ σ9 = σ) (QW D cA ad o) (FA ad sz)) 0 0 (FA ad sz) := by
  refine ct_of (own := RX6) (k := 0) (Qf := va_Qi (fun r σ9 => r = res ∧ σ9 = σ) (QW D cA ad o)) rfl (by decide) (Nat.le_of_ble_eq_true rfl) (fun p e s m below meth c ls C0 X hr hlk hP hl => ?_) sz
  have hS : va_S (FA ad s.heap.size) s.heap s.heap [] := va_S.rf
  have hl : lv_has ls 3 [(0, .ref (ad (22 * t)))] := hl
  obtain ⟨hx, hb, hml, hown, hts⟩ := id C0
  unfold F_X6_allBacked at h
  refine lv_iconst (v := 0) hx hb dX6_allBacked_0 (by decide) ?_
  refine lv_istore_n (lv' := [(1, .int 0), (0, .ref (ad (22 * t)))]) hx hb dX6_allBacked_1 rfl hl (by decide) rfl (fun ls hl => ?_)
  refine lv_iconst (v := 0) hx hb dX6_allBacked_2 (by decide) ?_
  refine lv_istore_n (lv' := [(2, .int 0), (1, .int 0), (0, .ref (ad (22 * t)))]) hx hb dX6_allBacked_3 rfl hl (by decide) rfl (fun ls hl => ?_)
  have lp_1 : ∀ (nn4 : Nat) (v2 : Int32) (v1 : Int32) (H : Heap) (locs : List Loc) (ls : Array Slot), F_X6_allBacked_4 σ t nn4 v2 v1 = some res → WP D cA ad o σ H → va_S (FA ad s.heap.size) s.heap H locs → lv_has ls 3 [(2, .int v2), (1, .int v1), (0, .ref (ad (22 * t)))] → W p l e (RM 0) s m ([.ref (ad (22 * t))] : List Value).toArray below meth c H locs 0 0 (MQ below (va_Qi (fun r σ9 => r = res ∧ σ9 = σ) (QW D cA ad o) (FA ad s.heap.size)) ([.ref (ad (22 * t))] : List Value).toArray s 0 0 (FA ad s.heap.size)) (F0 m 4 ls []) := by
    intro nn4
    induction nn4 with
    | zero => intro v2 v1 H locs ls h hP hS hl; exact absurd (show none = some res from h) nofun
    | succ nn4 ih4 =>
      intro v2 v1 H locs ls h hP hS hl
      replace h := (F_X6_allBacked_4.eq_2 _ _ _ _ _).symm.trans h
      refine lv_iload_n hx hb dX6_allBacked_4 rfl (lv_at hl 0 rfl) ?_
      refine lv_aload_n hx hb dX6_allBacked_5 rfl (lv_at hl 2 rfl) ?_
      refine gf_X6_46 C0 X hP (22 * t) (kdT t ht) dX6_allBacked_6 ?_
      refine lv_icmp_ge (tgt := 30) hx hb dX6_allBacked_9 (by decide) (fun c_2 => ?_) (fun c_2 => ?_)
      · replace h := it_t h c_2
        refine lv_iload_n hx hb dX6_allBacked_30 rfl (lv_at hl 1 rfl) ?_
        exact r_iret C0 X hP hS hr hlk dX6_allBacked_31 ⟨Option.some.inj h, rfl⟩
      · replace h := it_f h c_2
        refine lv_iload_n hx hb dX6_allBacked_12 rfl (lv_at hl 1 rfl) ?_
        refine lv_aload_n hx hb dX6_allBacked_13 rfl (lv_at hl 2 rfl) ?_
        refine gf_X6_20 C0 X hP (22 * t) (q := (22 * t + 13)) (kdT t ht) (by omega) (lkT1 t ht) dX6_allBacked_14 ?_
        refine lv_iload_n hx hb dX6_allBacked_17 rfl (lv_at hl 0 rfl) ?_
        obtain ⟨k_3, ek_3, h⟩ := bnd h
        replace ek_3 := ix_s ek_3 (by decide)
        refine r_aaldCN C0 X hP (22 * t + 13) (k := k_3) (q := (22 * t + 15 + k_3)) (kdCA t ht) ek_3.1 ek_3.2 (lkCA t ht k_3 ek_3.2) dX6_allBacked_18 ?_
        refine gf_X6_86 C0 X hP (22 * t + 15 + k_3) (kdC t ht k_3 ek_3.2) dX6_allBacked_19 ?_
        refine lv_iadd hx hb dX6_allBacked_22 ?_
        refine lv_istore_n (lv' := [(1, .int (v1 + (σ (22 * t + 15 + k_3) 10))), (2, .int v2), (0, .ref (ad (22 * t)))]) hx hb dX6_allBacked_23 rfl hl (by decide) rfl (fun ls hl => ?_)
        refine lv_iinc (v := (v2 + 1)) (lv' := [(2, .int (v2 + 1)), (1, .int (v1 + (σ (22 * t + 15 + k_3) 10))), (0, .ref (ad (22 * t)))]) hx hb dX6_allBacked_24 hl (k := 1) rfl rfl (by decide) rfl (fun ls hl => ?_)
        refine lv_goto (tgt := 4) hx hb dX6_allBacked_27 (by decide) ?_
        exact ih4 (v2 + 1) (v1 + (σ (22 * t + 15 + k_3) 10)) _ _ ls  h hP hS (lv_sub hl [0, 1, 2] rfl)
  exact lp_1 FU 0 0 _ _ ls  h hP hS (lv_sub hl [0, 1, 2] rfl)
def bB_cX6_allWaited : Nat := 0xac1be9ffa70102843c605900b4321c1400b42a1b1500a22e00b42a1c3d033c03
theorem yB_cX6_allWaited : BYS cX6_allWaited 32 bB_cX6_allWaited := BYS_of (by decide +kernel)
theorem dX6_allWaited_0 : decode cX6_allWaited 0 = .ok (.iconst 0, 1) := D_3 yB_cX6_allWaited rfl rfl
theorem dX6_allWaited_1 : decode cX6_allWaited 1 = .ok (.istore_n 1, 1) := D_60 yB_cX6_allWaited rfl rfl
theorem dX6_allWaited_2 : decode cX6_allWaited 2 = .ok (.iconst 0, 1) := D_3 yB_cX6_allWaited rfl rfl
theorem dX6_allWaited_3 : decode cX6_allWaited 3 = .ok (.istore_n 2, 1) := D_61 yB_cX6_allWaited rfl rfl
theorem dX6_allWaited_4 : decode cX6_allWaited 4 = .ok (.iload_n 2, 1) := D_28 yB_cX6_allWaited rfl rfl
theorem dX6_allWaited_5 : decode cX6_allWaited 5 = .ok (.aload_n 0, 1) := D_42 yB_cX6_allWaited rfl rfl
theorem dX6_allWaited_6 : decode cX6_allWaited 6 = .ok (.getfield 46, 3) := D_180 yB_cX6_allWaited rfl rfl rfl
theorem dX6_allWaited_9 : decode cX6_allWaited 9 = .ok (.if_icmp .ge 21, 3) := D_162 yB_cX6_allWaited rfl rfl (sg_p (m := 32768) (N := 21) rfl rfl rfl)
theorem dX6_allWaited_12 : decode cX6_allWaited 12 = .ok (.iload_n 1, 1) := D_27 yB_cX6_allWaited rfl rfl
theorem dX6_allWaited_13 : decode cX6_allWaited 13 = .ok (.aload_n 0, 1) := D_42 yB_cX6_allWaited rfl rfl
theorem dX6_allWaited_14 : decode cX6_allWaited 14 = .ok (.getfield 20, 3) := D_180 yB_cX6_allWaited rfl rfl rfl
theorem dX6_allWaited_17 : decode cX6_allWaited 17 = .ok (.iload_n 2, 1) := D_28 yB_cX6_allWaited rfl rfl
theorem dX6_allWaited_18 : decode cX6_allWaited 18 = .ok (.aaload, 1) := D_50 yB_cX6_allWaited rfl rfl
theorem dX6_allWaited_19 : decode cX6_allWaited 19 = .ok (.getfield 89, 3) := D_180 yB_cX6_allWaited rfl rfl rfl
theorem dX6_allWaited_22 : decode cX6_allWaited 22 = .ok (.iadd, 1) := D_96 yB_cX6_allWaited rfl rfl
theorem dX6_allWaited_23 : decode cX6_allWaited 23 = .ok (.istore_n 1, 1) := D_60 yB_cX6_allWaited rfl rfl
theorem dX6_allWaited_24 : decode cX6_allWaited 24 = .ok (.iinc 2 1, 3) := D_132 yB_cX6_allWaited rfl rfl rfl (sg_p (m := 128) (N := 1) rfl rfl rfl)
theorem dX6_allWaited_27 : decode cX6_allWaited 27 = .ok (.goto (-23), 3) := D_167 yB_cX6_allWaited rfl rfl (sg_n (m := 32768) (N := 23) rfl rfl rfl)
theorem dX6_allWaited_30 : decode cX6_allWaited 30 = .ok (.iload_n 1, 1) := D_27 yB_cX6_allWaited rfl rfl
theorem dX6_allWaited_31 : decode cX6_allWaited 31 = .ok (.ireturn, 1) := D_172 yB_cX6_allWaited rfl rfl
def F_X6_allWaited_4 (σ : Mem) (t : Nat)  : Nat → Int32 → Int32 → Option (Int32)
  | 0, _, _ => none
  | nn + 1, v2, v1 => if (σ (22 * t) 2) ≤ v2 then (some v1) else ((ix 7 v2).bind fun k_3 => F_X6_allWaited_4 σ t nn (v2 + 1) (v1 + (σ (22 * t + 15 + k_3) 11)))
def F_X6_allWaited (σ : Mem) (t : Nat) : Option (Int32) := F_X6_allWaited_4 σ t FU 0 0
set_option maxHeartbeats 4000000 in
set_option maxRecDepth 100000 in
theorem c_X6_allWaited (l : Launch) (D : va_G) (cA : Nat → ClassId) (ad : Nat → Nat) (o : Int64) (σ : Mem) (t : Nat) (ht : t < 3) (res : Int32) (h : F_X6_allWaited σ t = some res) (sz : Nat) : Met l yX6_allWaited (WY yX6_allWaited cX6_allWaited 3 (some .int)) (RM 0) (va_Pc [.ref (ad (22 * t))] (PW D cA ad o σ sz)) (va_Qi (fun r σ9 => r = res ∧ σ9 = σ) (QW D cA ad o) (FA ad sz)) 0 0 (FA ad sz) := by
  refine ct_of (own := RX6) (k := 0) (Qf := va_Qi (fun r σ9 => r = res ∧ σ9 = σ) (QW D cA ad o)) rfl (by decide) (Nat.le_of_ble_eq_true rfl) (fun p e s m below meth c ls C0 X hr hlk hP hl => ?_) sz
  have hS : va_S (FA ad s.heap.size) s.heap s.heap [] := va_S.rf
  have hl : lv_has ls 3 [(0, .ref (ad (22 * t)))] := hl
  obtain ⟨hx, hb, hml, hown, hts⟩ := id C0
  unfold F_X6_allWaited at h
  refine lv_iconst (v := 0) hx hb dX6_allWaited_0 (by decide) ?_
  refine lv_istore_n (lv' := [(1, .int 0), (0, .ref (ad (22 * t)))]) hx hb dX6_allWaited_1 rfl hl (by decide) rfl (fun ls hl => ?_)
  refine lv_iconst (v := 0) hx hb dX6_allWaited_2 (by decide) ?_
  refine lv_istore_n (lv' := [(2, .int 0), (1, .int 0), (0, .ref (ad (22 * t)))]) hx hb dX6_allWaited_3 rfl hl (by decide) rfl (fun ls hl => ?_)
  have lp_1 : ∀ (nn4 : Nat) (v2 : Int32) (v1 : Int32) (H : Heap) (locs : List Loc) (ls : Array Slot), F_X6_allWaited_4 σ t nn4 v2 v1 = some res → WP D cA ad o σ H → va_S (FA ad s.heap.size) s.heap H locs → lv_has ls 3 [(2, .int v2), (1, .int v1), (0, .ref (ad (22 * t)))] → W p l e (RM 0) s m ([.ref (ad (22 * t))] : List Value).toArray below meth c H locs 0 0 (MQ below (va_Qi (fun r σ9 => r = res ∧ σ9 = σ) (QW D cA ad o) (FA ad s.heap.size)) ([.ref (ad (22 * t))] : List Value).toArray s 0 0 (FA ad s.heap.size)) (F0 m 4 ls []) := by
    intro nn4
    induction nn4 with
    | zero => intro v2 v1 H locs ls h hP hS hl; exact absurd (show none = some res from h) nofun
    | succ nn4 ih4 =>
      intro v2 v1 H locs ls h hP hS hl
      replace h := (F_X6_allWaited_4.eq_2 _ _ _ _ _).symm.trans h
      refine lv_iload_n hx hb dX6_allWaited_4 rfl (lv_at hl 0 rfl) ?_
      refine lv_aload_n hx hb dX6_allWaited_5 rfl (lv_at hl 2 rfl) ?_
      refine gf_X6_46 C0 X hP (22 * t) (kdT t ht) dX6_allWaited_6 ?_
      refine lv_icmp_ge (tgt := 30) hx hb dX6_allWaited_9 (by decide) (fun c_2 => ?_) (fun c_2 => ?_)
      · replace h := it_t h c_2
        refine lv_iload_n hx hb dX6_allWaited_30 rfl (lv_at hl 1 rfl) ?_
        exact r_iret C0 X hP hS hr hlk dX6_allWaited_31 ⟨Option.some.inj h, rfl⟩
      · replace h := it_f h c_2
        refine lv_iload_n hx hb dX6_allWaited_12 rfl (lv_at hl 1 rfl) ?_
        refine lv_aload_n hx hb dX6_allWaited_13 rfl (lv_at hl 2 rfl) ?_
        refine gf_X6_20 C0 X hP (22 * t) (q := (22 * t + 13)) (kdT t ht) (by omega) (lkT1 t ht) dX6_allWaited_14 ?_
        refine lv_iload_n hx hb dX6_allWaited_17 rfl (lv_at hl 0 rfl) ?_
        obtain ⟨k_3, ek_3, h⟩ := bnd h
        replace ek_3 := ix_s ek_3 (by decide)
        refine r_aaldCN C0 X hP (22 * t + 13) (k := k_3) (q := (22 * t + 15 + k_3)) (kdCA t ht) ek_3.1 ek_3.2 (lkCA t ht k_3 ek_3.2) dX6_allWaited_18 ?_
        refine gf_X6_89 C0 X hP (22 * t + 15 + k_3) (kdC t ht k_3 ek_3.2) dX6_allWaited_19 ?_
        refine lv_iadd hx hb dX6_allWaited_22 ?_
        refine lv_istore_n (lv' := [(1, .int (v1 + (σ (22 * t + 15 + k_3) 11))), (2, .int v2), (0, .ref (ad (22 * t)))]) hx hb dX6_allWaited_23 rfl hl (by decide) rfl (fun ls hl => ?_)
        refine lv_iinc (v := (v2 + 1)) (lv' := [(2, .int (v2 + 1)), (1, .int (v1 + (σ (22 * t + 15 + k_3) 11))), (0, .ref (ad (22 * t)))]) hx hb dX6_allWaited_24 hl (k := 1) rfl rfl (by decide) rfl (fun ls hl => ?_)
        refine lv_goto (tgt := 4) hx hb dX6_allWaited_27 (by decide) ?_
        exact ih4 (v2 + 1) (v1 + (σ (22 * t + 15 + k_3) 11)) _ _ ls  h hP hS (lv_sub hl [0, 1, 2] rfl)
  exact lp_1 FU 0 0 _ _ ls  h hP hS (lv_sub hl [0, 1, 2] rfl)
def bB_cX6_allWorth : Nat := 0xac1be9ffa70102843c605000b4321c1400b42a1b1500a22e00b42a1c3d033c03
theorem yB_cX6_allWorth : BYS cX6_allWorth 32 bB_cX6_allWorth := BYS_of (by decide +kernel)
theorem dX6_allWorth_0 : decode cX6_allWorth 0 = .ok (.iconst 0, 1) := D_3 yB_cX6_allWorth rfl rfl
theorem dX6_allWorth_1 : decode cX6_allWorth 1 = .ok (.istore_n 1, 1) := D_60 yB_cX6_allWorth rfl rfl
theorem dX6_allWorth_2 : decode cX6_allWorth 2 = .ok (.iconst 0, 1) := D_3 yB_cX6_allWorth rfl rfl
theorem dX6_allWorth_3 : decode cX6_allWorth 3 = .ok (.istore_n 2, 1) := D_61 yB_cX6_allWorth rfl rfl
theorem dX6_allWorth_4 : decode cX6_allWorth 4 = .ok (.iload_n 2, 1) := D_28 yB_cX6_allWorth rfl rfl
theorem dX6_allWorth_5 : decode cX6_allWorth 5 = .ok (.aload_n 0, 1) := D_42 yB_cX6_allWorth rfl rfl
theorem dX6_allWorth_6 : decode cX6_allWorth 6 = .ok (.getfield 46, 3) := D_180 yB_cX6_allWorth rfl rfl rfl
theorem dX6_allWorth_9 : decode cX6_allWorth 9 = .ok (.if_icmp .ge 21, 3) := D_162 yB_cX6_allWorth rfl rfl (sg_p (m := 32768) (N := 21) rfl rfl rfl)
theorem dX6_allWorth_12 : decode cX6_allWorth 12 = .ok (.iload_n 1, 1) := D_27 yB_cX6_allWorth rfl rfl
theorem dX6_allWorth_13 : decode cX6_allWorth 13 = .ok (.aload_n 0, 1) := D_42 yB_cX6_allWorth rfl rfl
theorem dX6_allWorth_14 : decode cX6_allWorth 14 = .ok (.getfield 20, 3) := D_180 yB_cX6_allWorth rfl rfl rfl
theorem dX6_allWorth_17 : decode cX6_allWorth 17 = .ok (.iload_n 2, 1) := D_28 yB_cX6_allWorth rfl rfl
theorem dX6_allWorth_18 : decode cX6_allWorth 18 = .ok (.aaload, 1) := D_50 yB_cX6_allWorth rfl rfl
theorem dX6_allWorth_19 : decode cX6_allWorth 19 = .ok (.getfield 80, 3) := D_180 yB_cX6_allWorth rfl rfl rfl
theorem dX6_allWorth_22 : decode cX6_allWorth 22 = .ok (.iadd, 1) := D_96 yB_cX6_allWorth rfl rfl
theorem dX6_allWorth_23 : decode cX6_allWorth 23 = .ok (.istore_n 1, 1) := D_60 yB_cX6_allWorth rfl rfl
theorem dX6_allWorth_24 : decode cX6_allWorth 24 = .ok (.iinc 2 1, 3) := D_132 yB_cX6_allWorth rfl rfl rfl (sg_p (m := 128) (N := 1) rfl rfl rfl)
theorem dX6_allWorth_27 : decode cX6_allWorth 27 = .ok (.goto (-23), 3) := D_167 yB_cX6_allWorth rfl rfl (sg_n (m := 32768) (N := 23) rfl rfl rfl)
theorem dX6_allWorth_30 : decode cX6_allWorth 30 = .ok (.iload_n 1, 1) := D_27 yB_cX6_allWorth rfl rfl
theorem dX6_allWorth_31 : decode cX6_allWorth 31 = .ok (.ireturn, 1) := D_172 yB_cX6_allWorth rfl rfl
def F_X6_allWorth_4 (σ : Mem) (t : Nat)  : Nat → Int32 → Int32 → Option (Int32)
  | 0, _, _ => none
  | nn + 1, v2, v1 => if (σ (22 * t) 2) ≤ v2 then (some v1) else ((ix 7 v2).bind fun k_3 => F_X6_allWorth_4 σ t nn (v2 + 1) (v1 + (σ (22 * t + 15 + k_3) 4)))
def F_X6_allWorth (σ : Mem) (t : Nat) : Option (Int32) := F_X6_allWorth_4 σ t FU 0 0
set_option maxHeartbeats 4000000 in
set_option maxRecDepth 100000 in
theorem c_X6_allWorth (l : Launch) (D : va_G) (cA : Nat → ClassId) (ad : Nat → Nat) (o : Int64) (σ : Mem) (t : Nat) (ht : t < 3) (res : Int32) (h : F_X6_allWorth σ t = some res) (sz : Nat) : Met l yX6_allWorth (WY yX6_allWorth cX6_allWorth 3 (some .int)) (RM 0) (va_Pc [.ref (ad (22 * t))] (PW D cA ad o σ sz)) (va_Qi (fun r σ9 => r = res ∧ σ9 = σ) (QW D cA ad o) (FA ad sz)) 0 0 (FA ad sz) := by
  refine ct_of (own := RX6) (k := 0) (Qf := va_Qi (fun r σ9 => r = res ∧ σ9 = σ) (QW D cA ad o)) rfl (by decide) (Nat.le_of_ble_eq_true rfl) (fun p e s m below meth c ls C0 X hr hlk hP hl => ?_) sz
  have hS : va_S (FA ad s.heap.size) s.heap s.heap [] := va_S.rf
  have hl : lv_has ls 3 [(0, .ref (ad (22 * t)))] := hl
  obtain ⟨hx, hb, hml, hown, hts⟩ := id C0
  unfold F_X6_allWorth at h
  refine lv_iconst (v := 0) hx hb dX6_allWorth_0 (by decide) ?_
  refine lv_istore_n (lv' := [(1, .int 0), (0, .ref (ad (22 * t)))]) hx hb dX6_allWorth_1 rfl hl (by decide) rfl (fun ls hl => ?_)
  refine lv_iconst (v := 0) hx hb dX6_allWorth_2 (by decide) ?_
  refine lv_istore_n (lv' := [(2, .int 0), (1, .int 0), (0, .ref (ad (22 * t)))]) hx hb dX6_allWorth_3 rfl hl (by decide) rfl (fun ls hl => ?_)
  have lp_1 : ∀ (nn4 : Nat) (v2 : Int32) (v1 : Int32) (H : Heap) (locs : List Loc) (ls : Array Slot), F_X6_allWorth_4 σ t nn4 v2 v1 = some res → WP D cA ad o σ H → va_S (FA ad s.heap.size) s.heap H locs → lv_has ls 3 [(2, .int v2), (1, .int v1), (0, .ref (ad (22 * t)))] → W p l e (RM 0) s m ([.ref (ad (22 * t))] : List Value).toArray below meth c H locs 0 0 (MQ below (va_Qi (fun r σ9 => r = res ∧ σ9 = σ) (QW D cA ad o) (FA ad s.heap.size)) ([.ref (ad (22 * t))] : List Value).toArray s 0 0 (FA ad s.heap.size)) (F0 m 4 ls []) := by
    intro nn4
    induction nn4 with
    | zero => intro v2 v1 H locs ls h hP hS hl; exact absurd (show none = some res from h) nofun
    | succ nn4 ih4 =>
      intro v2 v1 H locs ls h hP hS hl
      replace h := (F_X6_allWorth_4.eq_2 _ _ _ _ _).symm.trans h
      refine lv_iload_n hx hb dX6_allWorth_4 rfl (lv_at hl 0 rfl) ?_
      refine lv_aload_n hx hb dX6_allWorth_5 rfl (lv_at hl 2 rfl) ?_
      refine gf_X6_46 C0 X hP (22 * t) (kdT t ht) dX6_allWorth_6 ?_
      refine lv_icmp_ge (tgt := 30) hx hb dX6_allWorth_9 (by decide) (fun c_2 => ?_) (fun c_2 => ?_)
      · replace h := it_t h c_2
        refine lv_iload_n hx hb dX6_allWorth_30 rfl (lv_at hl 1 rfl) ?_
        exact r_iret C0 X hP hS hr hlk dX6_allWorth_31 ⟨Option.some.inj h, rfl⟩
      · replace h := it_f h c_2
        refine lv_iload_n hx hb dX6_allWorth_12 rfl (lv_at hl 1 rfl) ?_
        refine lv_aload_n hx hb dX6_allWorth_13 rfl (lv_at hl 2 rfl) ?_
        refine gf_X6_20 C0 X hP (22 * t) (q := (22 * t + 13)) (kdT t ht) (by omega) (lkT1 t ht) dX6_allWorth_14 ?_
        refine lv_iload_n hx hb dX6_allWorth_17 rfl (lv_at hl 0 rfl) ?_
        obtain ⟨k_3, ek_3, h⟩ := bnd h
        replace ek_3 := ix_s ek_3 (by decide)
        refine r_aaldCN C0 X hP (22 * t + 13) (k := k_3) (q := (22 * t + 15 + k_3)) (kdCA t ht) ek_3.1 ek_3.2 (lkCA t ht k_3 ek_3.2) dX6_allWorth_18 ?_
        refine gf_X6_80 C0 X hP (22 * t + 15 + k_3) (kdC t ht k_3 ek_3.2) dX6_allWorth_19 ?_
        refine lv_iadd hx hb dX6_allWorth_22 ?_
        refine lv_istore_n (lv' := [(1, .int (v1 + (σ (22 * t + 15 + k_3) 4))), (2, .int v2), (0, .ref (ad (22 * t)))]) hx hb dX6_allWorth_23 rfl hl (by decide) rfl (fun ls hl => ?_)
        refine lv_iinc (v := (v2 + 1)) (lv' := [(2, .int (v2 + 1)), (1, .int (v1 + (σ (22 * t + 15 + k_3) 4))), (0, .ref (ad (22 * t)))]) hx hb dX6_allWorth_24 hl (k := 1) rfl rfl (by decide) rfl (fun ls hl => ?_)
        refine lv_goto (tgt := 4) hx hb dX6_allWorth_27 (by decide) ?_
        exact ih4 (v2 + 1) (v1 + (σ (22 * t + 15 + k_3) 4)) _ _ ls  h hP hS (lv_sub hl [0, 1, 2] rfl)
  exact lp_1 FU 0 0 _ _ ls  h hP hS (lv_sub hl [0, 1, 2] rfl)
def bB_cX6_stands : Nat := 0xac030400a7040700a22e00b42a5c00b6fd102a14009a5c00b6fe102a1d00a13c103400b42a
theorem yB_cX6_stands : BYS cX6_stands 37 bB_cX6_stands := BYS_of (by decide +kernel)
theorem dX6_stands_0 : decode cX6_stands 0 = .ok (.aload_n 0, 1) := D_42 yB_cX6_stands rfl rfl
theorem dX6_stands_1 : decode cX6_stands 1 = .ok (.getfield 52, 3) := D_180 yB_cX6_stands rfl rfl rfl
theorem dX6_stands_4 : decode cX6_stands 4 = .ok (.bipush 60, 2) := D_16 yB_cX6_stands rfl rfl (sg_p (m := 128) (N := 60) rfl rfl rfl)
theorem dX6_stands_6 : decode cX6_stands 6 = .ok (.if_icmp .lt 29, 3) := D_161 yB_cX6_stands rfl rfl (sg_p (m := 32768) (N := 29) rfl rfl rfl)
theorem dX6_stands_9 : decode cX6_stands 9 = .ok (.aload_n 0, 1) := D_42 yB_cX6_stands rfl rfl
theorem dX6_stands_10 : decode cX6_stands 10 = .ok (.bipush (-2), 2) := D_16 yB_cX6_stands rfl rfl (sg_n (m := 128) (N := 2) rfl rfl rfl)
theorem dX6_stands_12 : decode cX6_stands 12 = .ok (.invokevirtual 92, 3) := D_182 yB_cX6_stands rfl rfl rfl
theorem dX6_stands_15 : decode cX6_stands 15 = .ok (.ifCond .ne 20, 3) := D_154 yB_cX6_stands rfl rfl (sg_p (m := 32768) (N := 20) rfl rfl rfl)
theorem dX6_stands_18 : decode cX6_stands 18 = .ok (.aload_n 0, 1) := D_42 yB_cX6_stands rfl rfl
theorem dX6_stands_19 : decode cX6_stands 19 = .ok (.bipush (-3), 2) := D_16 yB_cX6_stands rfl rfl (sg_n (m := 128) (N := 3) rfl rfl rfl)
theorem dX6_stands_21 : decode cX6_stands 21 = .ok (.invokevirtual 92, 3) := D_182 yB_cX6_stands rfl rfl rfl
theorem dX6_stands_24 : decode cX6_stands 24 = .ok (.aload_n 0, 1) := D_42 yB_cX6_stands rfl rfl
theorem dX6_stands_25 : decode cX6_stands 25 = .ok (.getfield 46, 3) := D_180 yB_cX6_stands rfl rfl rfl
theorem dX6_stands_28 : decode cX6_stands 28 = .ok (.if_icmp .ge 7, 3) := D_162 yB_cX6_stands rfl rfl (sg_p (m := 32768) (N := 7) rfl rfl rfl)
theorem dX6_stands_31 : decode cX6_stands 31 = .ok (.iconst 1, 1) := D_4 yB_cX6_stands rfl rfl
theorem dX6_stands_32 : decode cX6_stands 32 = .ok (.goto 4, 3) := D_167 yB_cX6_stands rfl rfl (sg_p (m := 32768) (N := 4) rfl rfl rfl)
theorem dX6_stands_35 : decode cX6_stands 35 = .ok (.iconst 0, 1) := D_3 yB_cX6_stands rfl rfl
theorem dX6_stands_36 : decode cX6_stands 36 = .ok (.ireturn, 1) := D_172 yB_cX6_stands rfl rfl
def F_X6_stands (σ : Mem) (t : Nat) : Option (Int32) := if (σ (22 * t) 4) < 60 then (some 0) else ((F_X6_howMany σ t (-2)).bind fun r_2 => if r_2 = 0 then ((F_X6_howMany σ t (-3)).bind fun r_4 => if (σ (22 * t) 2) ≤ r_4 then (some 0) else (some 1)) else (some 0))
set_option maxHeartbeats 4000000 in
set_option maxRecDepth 100000 in
theorem c_X6_stands (l : Launch) (D : va_G) (cA : Nat → ClassId) (ad : Nat → Nat) (o : Int64) (σ : Mem) (t : Nat) (ht : t < 3) (res : Int32) (h : F_X6_stands σ t = some res) (sz : Nat) : Met l yX6_stands (WY yX6_stands cX6_stands 1 (some .boolean)) (RM 1) (va_Pc [.ref (ad (22 * t))] (PW D cA ad o σ sz)) (va_Qi (fun r σ9 => r = res ∧ σ9 = σ) (QW D cA ad o) (FA ad sz)) 0 0 (FA ad sz) := by
  refine ct_of (own := RX6) (k := 1) (Qf := va_Qi (fun r σ9 => r = res ∧ σ9 = σ) (QW D cA ad o)) rfl (by decide) (Nat.le_of_ble_eq_true rfl) (fun p e s m below meth c ls C0 X hr hlk hP hl => ?_) sz
  have hS : va_S (FA ad s.heap.size) s.heap s.heap [] := va_S.rf
  have hl : lv_has ls 1 [(0, .ref (ad (22 * t)))] := hl
  obtain ⟨hx, hb, hml, hown, hts⟩ := id C0
  unfold F_X6_stands at h
  refine lv_aload_n hx hb dX6_stands_0 rfl (lv_at hl 0 rfl) ?_
  refine gf_X6_52 C0 X hP (22 * t) (kdT t ht) dX6_stands_1 ?_
  refine lv_bipush (v := 60) hx hb dX6_stands_4 (by decide) ?_
  refine lv_icmp_lt (tgt := 35) hx hb dX6_stands_6 (by decide) (fun c_1 => ?_) (fun c_1 => ?_)
  · replace h := it_t h c_1
    refine lv_iconst (v := 0) hx hb dX6_stands_35 (by decide) ?_
    exact r_zret C0 X hP hS hr hlk dX6_stands_36 (Or.inl rfl) ⟨Option.some.inj h, rfl⟩
  · replace h := it_f h c_1
    refine lv_aload_n hx hb dX6_stands_9 rfl (lv_at hl 0 rfl) ?_
    refine lv_bipush (v := (-2)) hx hb dX6_stands_10 (by decide) ?_
    obtain ⟨r_2, er_2, h⟩ := bnd h
    refine r_ci X hS (r_runV (As := [.int (-2)]) (rest := []) C0 X hP L_X6_92 (fun sz => c_X6_howMany l D cA ad o σ t (-2) ht r_2 er_2 sz) (kdT t ht).1 (kdT t ht).2 (by decide) rfl ⟨Nat.le_of_ble_eq_true rfl, Nat.le_of_ble_eq_true rfl⟩ rfl hl.1 rfl (Nat.le_of_ble_eq_true rfl) dX6_stands_12 ⟨Nat.zero_le _, Nat.zero_le _⟩) (fun r9 σ9 H locs hw hP hS => ?_)
    rw [hw.2] at hP
    rw [hw.1]
    refine lv_if_ne (tgt := 35) hx hb dX6_stands_15 (by decide) (fun c_3 => ?_) (fun c_3 => ?_)
    · replace h := it_f h c_3
      refine lv_iconst (v := 0) hx hb dX6_stands_35 (by decide) ?_
      exact r_zret C0 X hP hS hr hlk dX6_stands_36 (Or.inl rfl) ⟨Option.some.inj h, rfl⟩
    · replace h := it_t h c_3
      refine lv_aload_n hx hb dX6_stands_18 rfl (lv_at hl 0 rfl) ?_
      refine lv_bipush (v := (-3)) hx hb dX6_stands_19 (by decide) ?_
      obtain ⟨r_4, er_4, h⟩ := bnd h
      refine r_ci X hS (r_runV (As := [.int (-3)]) (rest := []) C0 X hP L_X6_92 (fun sz => c_X6_howMany l D cA ad o σ t (-3) ht r_4 er_4 sz) (kdT t ht).1 (kdT t ht).2 (by decide) rfl ⟨Nat.le_of_ble_eq_true rfl, Nat.le_of_ble_eq_true rfl⟩ rfl hl.1 rfl (Nat.le_of_ble_eq_true rfl) dX6_stands_21 ⟨Nat.zero_le _, Nat.zero_le _⟩) (fun r9 σ9 H locs hw hP hS => ?_)
      rw [hw.2] at hP
      rw [hw.1]
      refine lv_aload_n hx hb dX6_stands_24 rfl (lv_at hl 0 rfl) ?_
      refine gf_X6_46 C0 X hP (22 * t) (kdT t ht) dX6_stands_25 ?_
      refine lv_icmp_ge (tgt := 35) hx hb dX6_stands_28 (by decide) (fun c_5 => ?_) (fun c_5 => ?_)
      · replace h := it_t h c_5
        refine lv_iconst (v := 0) hx hb dX6_stands_35 (by decide) ?_
        exact r_zret C0 X hP hS hr hlk dX6_stands_36 (Or.inl rfl) ⟨Option.some.inj h, rfl⟩
      · replace h := it_f h c_5
        refine lv_iconst (v := 1) hx hb dX6_stands_31 (by decide) ?_
        refine lv_goto (tgt := 36) hx hb dX6_stands_32 (by decide) ?_
        exact r_zret C0 X hP hS hr hlk dX6_stands_36 (Or.inr rfl) ⟨Option.some.inj h, rfl⟩
def bB_cX6_isEnded : Nat := 0xac030400a7040700996000b62a0a009f2e00b42a5c00b6fd102a1700a2e703113100b42a
theorem yB_cX6_isEnded : BYS cX6_isEnded 36 bB_cX6_isEnded := BYS_of (by decide +kernel)
theorem dX6_isEnded_0 : decode cX6_isEnded 0 = .ok (.aload_n 0, 1) := D_42 yB_cX6_isEnded rfl rfl
theorem dX6_isEnded_1 : decode cX6_isEnded 1 = .ok (.getfield 49, 3) := D_180 yB_cX6_isEnded rfl rfl rfl
theorem dX6_isEnded_4 : decode cX6_isEnded 4 = .ok (.sipush 999, 3) := D_17 yB_cX6_isEnded rfl rfl (sg_p (m := 32768) (N := 999) rfl rfl rfl)
theorem dX6_isEnded_7 : decode cX6_isEnded 7 = .ok (.if_icmp .ge 23, 3) := D_162 yB_cX6_isEnded rfl rfl (sg_p (m := 32768) (N := 23) rfl rfl rfl)
theorem dX6_isEnded_10 : decode cX6_isEnded 10 = .ok (.aload_n 0, 1) := D_42 yB_cX6_isEnded rfl rfl
theorem dX6_isEnded_11 : decode cX6_isEnded 11 = .ok (.bipush (-3), 2) := D_16 yB_cX6_isEnded rfl rfl (sg_n (m := 128) (N := 3) rfl rfl rfl)
theorem dX6_isEnded_13 : decode cX6_isEnded 13 = .ok (.invokevirtual 92, 3) := D_182 yB_cX6_isEnded rfl rfl rfl
theorem dX6_isEnded_16 : decode cX6_isEnded 16 = .ok (.aload_n 0, 1) := D_42 yB_cX6_isEnded rfl rfl
theorem dX6_isEnded_17 : decode cX6_isEnded 17 = .ok (.getfield 46, 3) := D_180 yB_cX6_isEnded rfl rfl rfl
theorem dX6_isEnded_20 : decode cX6_isEnded 20 = .ok (.if_icmp .eq 10, 3) := D_159 yB_cX6_isEnded rfl rfl (sg_p (m := 32768) (N := 10) rfl rfl rfl)
theorem dX6_isEnded_23 : decode cX6_isEnded 23 = .ok (.aload_n 0, 1) := D_42 yB_cX6_isEnded rfl rfl
theorem dX6_isEnded_24 : decode cX6_isEnded 24 = .ok (.invokevirtual 96, 3) := D_182 yB_cX6_isEnded rfl rfl rfl
theorem dX6_isEnded_27 : decode cX6_isEnded 27 = .ok (.ifCond .eq 7, 3) := D_153 yB_cX6_isEnded rfl rfl (sg_p (m := 32768) (N := 7) rfl rfl rfl)
theorem dX6_isEnded_30 : decode cX6_isEnded 30 = .ok (.iconst 1, 1) := D_4 yB_cX6_isEnded rfl rfl
theorem dX6_isEnded_31 : decode cX6_isEnded 31 = .ok (.goto 4, 3) := D_167 yB_cX6_isEnded rfl rfl (sg_p (m := 32768) (N := 4) rfl rfl rfl)
theorem dX6_isEnded_34 : decode cX6_isEnded 34 = .ok (.iconst 0, 1) := D_3 yB_cX6_isEnded rfl rfl
theorem dX6_isEnded_35 : decode cX6_isEnded 35 = .ok (.ireturn, 1) := D_172 yB_cX6_isEnded rfl rfl
def F_X6_isEnded (σ : Mem) (t : Nat) : Option (Int32) := if 999 ≤ (σ (22 * t) 3) then (some 1) else ((F_X6_howMany σ t (-3)).bind fun r_2 => if r_2 = (σ (22 * t) 2) then (some 1) else ((F_X6_stands σ t).bind fun r_4 => if r_4 = 0 then (some 0) else (some 1)))
set_option maxHeartbeats 4000000 in
set_option maxRecDepth 100000 in
theorem c_X6_isEnded (l : Launch) (D : va_G) (cA : Nat → ClassId) (ad : Nat → Nat) (o : Int64) (σ : Mem) (t : Nat) (ht : t < 3) (res : Int32) (h : F_X6_isEnded σ t = some res) (sz : Nat) : Met l yX6_isEnded (WY yX6_isEnded cX6_isEnded 1 (some .boolean)) (RM 2) (va_Pc [.ref (ad (22 * t))] (PW D cA ad o σ sz)) (va_Qi (fun r σ9 => r = res ∧ σ9 = σ) (QW D cA ad o) (FA ad sz)) 0 0 (FA ad sz) := by
  refine ct_of (own := RX6) (k := 2) (Qf := va_Qi (fun r σ9 => r = res ∧ σ9 = σ) (QW D cA ad o)) rfl (by decide) (Nat.le_of_ble_eq_true rfl) (fun p e s m below meth c ls C0 X hr hlk hP hl => ?_) sz
  have hS : va_S (FA ad s.heap.size) s.heap s.heap [] := va_S.rf
  have hl : lv_has ls 1 [(0, .ref (ad (22 * t)))] := hl
  obtain ⟨hx, hb, hml, hown, hts⟩ := id C0
  unfold F_X6_isEnded at h
  refine lv_aload_n hx hb dX6_isEnded_0 rfl (lv_at hl 0 rfl) ?_
  refine gf_X6_49 C0 X hP (22 * t) (kdT t ht) dX6_isEnded_1 ?_
  refine lv_sipush (v := 999) hx hb dX6_isEnded_4 (by decide) ?_
  refine lv_icmp_ge (tgt := 30) hx hb dX6_isEnded_7 (by decide) (fun c_1 => ?_) (fun c_1 => ?_)
  · replace h := it_t h c_1
    refine lv_iconst (v := 1) hx hb dX6_isEnded_30 (by decide) ?_
    refine lv_goto (tgt := 35) hx hb dX6_isEnded_31 (by decide) ?_
    exact r_zret C0 X hP hS hr hlk dX6_isEnded_35 (Or.inr rfl) ⟨Option.some.inj h, rfl⟩
  · replace h := it_f h c_1
    refine lv_aload_n hx hb dX6_isEnded_10 rfl (lv_at hl 0 rfl) ?_
    refine lv_bipush (v := (-3)) hx hb dX6_isEnded_11 (by decide) ?_
    obtain ⟨r_2, er_2, h⟩ := bnd h
    refine r_ci X hS (r_runV (As := [.int (-3)]) (rest := []) C0 X hP L_X6_92 (fun sz => c_X6_howMany l D cA ad o σ t (-3) ht r_2 er_2 sz) (kdT t ht).1 (kdT t ht).2 (by decide) rfl ⟨Nat.le_of_ble_eq_true rfl, Nat.le_of_ble_eq_true rfl⟩ rfl hl.1 rfl (Nat.le_of_ble_eq_true rfl) dX6_isEnded_13 ⟨Nat.zero_le _, Nat.zero_le _⟩) (fun r9 σ9 H locs hw hP hS => ?_)
    rw [hw.2] at hP
    rw [hw.1]
    refine lv_aload_n hx hb dX6_isEnded_16 rfl (lv_at hl 0 rfl) ?_
    refine gf_X6_46 C0 X hP (22 * t) (kdT t ht) dX6_isEnded_17 ?_
    refine lv_icmp_eq (tgt := 30) hx hb dX6_isEnded_20 (by decide) (fun c_3 => ?_) (fun c_3 => ?_)
    · replace h := it_t h c_3
      refine lv_iconst (v := 1) hx hb dX6_isEnded_30 (by decide) ?_
      refine lv_goto (tgt := 35) hx hb dX6_isEnded_31 (by decide) ?_
      exact r_zret C0 X hP hS hr hlk dX6_isEnded_35 (Or.inr rfl) ⟨Option.some.inj h, rfl⟩
    · replace h := it_f h c_3
      refine lv_aload_n hx hb dX6_isEnded_23 rfl (lv_at hl 0 rfl) ?_
      obtain ⟨r_4, er_4, h⟩ := bnd h
      refine r_ci X hS (r_runV (As := []) (rest := []) C0 X hP L_X6_96 (fun sz => c_X6_stands l D cA ad o σ t ht r_4 er_4 sz) (kdT t ht).1 (kdT t ht).2 (by decide) rfl ⟨Nat.le_of_ble_eq_true rfl, Nat.le_of_ble_eq_true rfl⟩ rfl hl.1 rfl (Nat.le_of_ble_eq_true rfl) dX6_isEnded_24 ⟨Nat.zero_le _, Nat.zero_le _⟩) (fun r9 σ9 H locs hw hP hS => ?_)
      rw [hw.2] at hP
      rw [hw.1]
      refine lv_if_eq (tgt := 34) hx hb dX6_isEnded_27 (by decide) (fun c_5 => ?_) (fun c_5 => ?_)
      · replace h := it_t h c_5
        refine lv_iconst (v := 0) hx hb dX6_isEnded_34 (by decide) ?_
        exact r_zret C0 X hP hS hr hlk dX6_isEnded_35 (Or.inl rfl) ⟨Option.some.inj h, rfl⟩
      · replace h := it_f h c_5
        refine lv_iconst (v := 1) hx hb dX6_isEnded_30 (by decide) ?_
        refine lv_goto (tgt := 35) hx hb dX6_isEnded_31 (by decide) ?_
        exact r_zret C0 X hP hS hr hlk dX6_isEnded_35 (Or.inr rfl) ⟨Option.some.inj h, rfl⟩
def bB_cX6_cost : Nat := 0xac60030400a7e803110900996000b62a606800b62a6400b62a
theorem yB_cX6_cost : BYS cX6_cost 25 bB_cX6_cost := BYS_of (by decide +kernel)
theorem dX6_cost_0 : decode cX6_cost 0 = .ok (.aload_n 0, 1) := D_42 yB_cX6_cost rfl rfl
theorem dX6_cost_1 : decode cX6_cost 1 = .ok (.invokevirtual 100, 3) := D_182 yB_cX6_cost rfl rfl rfl
theorem dX6_cost_4 : decode cX6_cost 4 = .ok (.aload_n 0, 1) := D_42 yB_cX6_cost rfl rfl
theorem dX6_cost_5 : decode cX6_cost 5 = .ok (.invokevirtual 104, 3) := D_182 yB_cX6_cost rfl rfl rfl
theorem dX6_cost_8 : decode cX6_cost 8 = .ok (.iadd, 1) := D_96 yB_cX6_cost rfl rfl
theorem dX6_cost_9 : decode cX6_cost 9 = .ok (.aload_n 0, 1) := D_42 yB_cX6_cost rfl rfl
theorem dX6_cost_10 : decode cX6_cost 10 = .ok (.invokevirtual 96, 3) := D_182 yB_cX6_cost rfl rfl rfl
theorem dX6_cost_13 : decode cX6_cost 13 = .ok (.ifCond .eq 9, 3) := D_153 yB_cX6_cost rfl rfl (sg_p (m := 32768) (N := 9) rfl rfl rfl)
theorem dX6_cost_16 : decode cX6_cost 16 = .ok (.sipush 1000, 3) := D_17 yB_cX6_cost rfl rfl (sg_p (m := 32768) (N := 1000) rfl rfl rfl)
theorem dX6_cost_19 : decode cX6_cost 19 = .ok (.goto 4, 3) := D_167 yB_cX6_cost rfl rfl (sg_p (m := 32768) (N := 4) rfl rfl rfl)
theorem dX6_cost_22 : decode cX6_cost 22 = .ok (.iconst 0, 1) := D_3 yB_cX6_cost rfl rfl
theorem dX6_cost_23 : decode cX6_cost 23 = .ok (.iadd, 1) := D_96 yB_cX6_cost rfl rfl
theorem dX6_cost_24 : decode cX6_cost 24 = .ok (.ireturn, 1) := D_172 yB_cX6_cost rfl rfl
def F_X6_cost (σ : Mem) (t : Nat) : Option (Int32) := (F_X6_allBacked σ t).bind fun r_1 => (F_X6_allWaited σ t).bind fun r_2 => (F_X6_stands σ t).bind fun r_3 => if r_3 = 0 then (some ((r_1 + r_2) + 0)) else (some ((r_1 + r_2) + 1000))
set_option maxHeartbeats 4000000 in
set_option maxRecDepth 100000 in
theorem c_X6_cost (l : Launch) (D : va_G) (cA : Nat → ClassId) (ad : Nat → Nat) (o : Int64) (σ : Mem) (t : Nat) (ht : t < 3) (res : Int32) (h : F_X6_cost σ t = some res) (sz : Nat) : Met l yX6_cost (WY yX6_cost cX6_cost 1 (some .int)) (RM 2) (va_Pc [.ref (ad (22 * t))] (PW D cA ad o σ sz)) (va_Qi (fun r σ9 => r = res ∧ σ9 = σ) (QW D cA ad o) (FA ad sz)) 0 0 (FA ad sz) := by
  refine ct_of (own := RX6) (k := 2) (Qf := va_Qi (fun r σ9 => r = res ∧ σ9 = σ) (QW D cA ad o)) rfl (by decide) (Nat.le_of_ble_eq_true rfl) (fun p e s m below meth c ls C0 X hr hlk hP hl => ?_) sz
  have hS : va_S (FA ad s.heap.size) s.heap s.heap [] := va_S.rf
  have hl : lv_has ls 1 [(0, .ref (ad (22 * t)))] := hl
  obtain ⟨hx, hb, hml, hown, hts⟩ := id C0
  unfold F_X6_cost at h
  refine lv_aload_n hx hb dX6_cost_0 rfl (lv_at hl 0 rfl) ?_
  obtain ⟨r_1, er_1, h⟩ := bnd h
  refine r_ci X hS (r_runV (As := []) (rest := []) C0 X hP L_X6_100 (fun sz => c_X6_allBacked l D cA ad o σ t ht r_1 er_1 sz) (kdT t ht).1 (kdT t ht).2 (by decide) rfl ⟨Nat.le_of_ble_eq_true rfl, Nat.le_of_ble_eq_true rfl⟩ rfl hl.1 rfl (Nat.le_of_ble_eq_true rfl) dX6_cost_1 ⟨Nat.zero_le _, Nat.zero_le _⟩) (fun r9 σ9 H locs hw hP hS => ?_)
  rw [hw.2] at hP
  rw [hw.1]
  refine lv_aload_n hx hb dX6_cost_4 rfl (lv_at hl 0 rfl) ?_
  obtain ⟨r_2, er_2, h⟩ := bnd h
  refine r_ci X hS (r_runV (As := []) (rest := [.int r_1]) C0 X hP L_X6_104 (fun sz => c_X6_allWaited l D cA ad o σ t ht r_2 er_2 sz) (kdT t ht).1 (kdT t ht).2 (by decide) rfl ⟨Nat.le_of_ble_eq_true rfl, Nat.le_of_ble_eq_true rfl⟩ rfl hl.1 rfl (Nat.le_of_ble_eq_true rfl) dX6_cost_5 ⟨Nat.zero_le _, Nat.zero_le _⟩) (fun r9 σ9 H locs hw hP hS => ?_)
  rw [hw.2] at hP
  rw [hw.1]
  refine lv_iadd hx hb dX6_cost_8 ?_
  refine lv_aload_n hx hb dX6_cost_9 rfl (lv_at hl 0 rfl) ?_
  obtain ⟨r_3, er_3, h⟩ := bnd h
  refine r_ci X hS (r_runV (As := []) (rest := [.int (r_1 + r_2)]) C0 X hP L_X6_96 (fun sz => c_X6_stands l D cA ad o σ t ht r_3 er_3 sz) (kdT t ht).1 (kdT t ht).2 (by decide) rfl ⟨Nat.le_of_ble_eq_true rfl, Nat.le_of_ble_eq_true rfl⟩ rfl hl.1 rfl (Nat.le_of_ble_eq_true rfl) dX6_cost_10 ⟨Nat.zero_le _, Nat.zero_le _⟩) (fun r9 σ9 H locs hw hP hS => ?_)
  rw [hw.2] at hP
  rw [hw.1]
  refine lv_if_eq (tgt := 22) hx hb dX6_cost_13 (by decide) (fun c_4 => ?_) (fun c_4 => ?_)
  · replace h := it_t h c_4
    refine lv_iconst (v := 0) hx hb dX6_cost_22 (by decide) ?_
    refine lv_iadd hx hb dX6_cost_23 ?_
    exact r_iret C0 X hP hS hr hlk dX6_cost_24 ⟨Option.some.inj h, rfl⟩
  · replace h := it_f h c_4
    refine lv_sipush (v := 1000) hx hb dX6_cost_16 (by decide) ?_
    refine lv_goto (tgt := 23) hx hb dX6_cost_19 (by decide) ?_
    refine lv_iadd hx hb dX6_cost_23 ?_
    exact r_iret C0 X hP hS hr hlk dX6_cost_24 ⟨Option.some.inj h, rfl⟩
def bB_cX6_ownEnd : Nat := 0xac8900b40c00b42a0a00a7030700994300b42b
theorem yB_cX6_ownEnd : BYS cX6_ownEnd 19 bB_cX6_ownEnd := BYS_of (by decide +kernel)
theorem dX6_ownEnd_0 : decode cX6_ownEnd 0 = .ok (.aload_n 1, 1) := D_43 yB_cX6_ownEnd rfl rfl
theorem dX6_ownEnd_1 : decode cX6_ownEnd 1 = .ok (.getfield 67, 3) := D_180 yB_cX6_ownEnd rfl rfl rfl
theorem dX6_ownEnd_4 : decode cX6_ownEnd 4 = .ok (.ifCond .eq 7, 3) := D_153 yB_cX6_ownEnd rfl rfl (sg_p (m := 32768) (N := 7) rfl rfl rfl)
theorem dX6_ownEnd_7 : decode cX6_ownEnd 7 = .ok (.iconst 0, 1) := D_3 yB_cX6_ownEnd rfl rfl
theorem dX6_ownEnd_8 : decode cX6_ownEnd 8 = .ok (.goto 10, 3) := D_167 yB_cX6_ownEnd rfl rfl (sg_p (m := 32768) (N := 10) rfl rfl rfl)
theorem dX6_ownEnd_11 : decode cX6_ownEnd 11 = .ok (.aload_n 0, 1) := D_42 yB_cX6_ownEnd rfl rfl
theorem dX6_ownEnd_12 : decode cX6_ownEnd 12 = .ok (.getfield 12, 3) := D_180 yB_cX6_ownEnd rfl rfl rfl
theorem dX6_ownEnd_15 : decode cX6_ownEnd 15 = .ok (.getfield 137, 3) := D_180 yB_cX6_ownEnd rfl rfl rfl
theorem dX6_ownEnd_18 : decode cX6_ownEnd 18 = .ok (.ireturn, 1) := D_172 yB_cX6_ownEnd rfl rfl
def F_X6_ownEnd (σ : Mem) (t : Nat) (i1 : Nat) : Option (Int32) := if (σ i1 0) = 0 then (some (σ (22 * t + 1) 1)) else (some 0)
set_option maxHeartbeats 4000000 in
set_option maxRecDepth 100000 in
theorem c_X6_ownEnd (l : Launch) (D : va_G) (cA : Nat → ClassId) (ad : Nat → Nat) (o : Int64) (σ : Mem) (t : Nat) (i1 : Nat) (ht : t < 3) (hi1 : i1 < 106 ∧ kd i1 = (0, 12)) (res : Int32) (h : F_X6_ownEnd σ t i1 = some res) (sz : Nat) : Met l yX6_ownEnd (WY yX6_ownEnd cX6_ownEnd 2 (some .int)) (RM 0) (va_Pc [.ref (ad (22 * t)), .ref (ad i1)] (PW D cA ad o σ sz)) (va_Qi (fun r σ9 => r = res ∧ σ9 = σ) (QW D cA ad o) (FA ad sz)) 0 0 (FA ad sz) := by
  refine ct_of (own := RX6) (k := 0) (Qf := va_Qi (fun r σ9 => r = res ∧ σ9 = σ) (QW D cA ad o)) rfl (by decide) (Nat.le_of_ble_eq_true rfl) (fun p e s m below meth c ls C0 X hr hlk hP hl => ?_) sz
  have hS : va_S (FA ad s.heap.size) s.heap s.heap [] := va_S.rf
  have hl : lv_has ls 2 [(0, .ref (ad (22 * t))), (1, .ref (ad i1))] := hl
  obtain ⟨hx, hb, hml, hown, hts⟩ := id C0
  unfold F_X6_ownEnd at h
  refine lv_aload_n hx hb dX6_ownEnd_0 rfl (lv_at hl 1 rfl) ?_
  refine gf_X6_67 C0 X hP i1 hi1 dX6_ownEnd_1 ?_
  refine lv_if_eq (tgt := 11) hx hb dX6_ownEnd_4 (by decide) (fun c_1 => ?_) (fun c_1 => ?_)
  · replace h := it_t h c_1
    refine lv_aload_n hx hb dX6_ownEnd_11 rfl (lv_at hl 0 rfl) ?_
    refine gf_X6_12 C0 X hP (22 * t) (q := (22 * t + 1)) (kdT t ht) (by omega) (lkT0 t ht) dX6_ownEnd_12 ?_
    refine gf_X6_137 C0 X hP (22 * t + 1) (kdR t ht) dX6_ownEnd_15 ?_
    exact r_iret C0 X hP hS hr hlk dX6_ownEnd_18 ⟨Option.some.inj h, rfl⟩
  · replace h := it_f h c_1
    refine lv_iconst (v := 0) hx hb dX6_ownEnd_7 (by decide) ?_
    refine lv_goto (tgt := 18) hx hb dX6_ownEnd_8 (by decide) ?_
    exact r_iret C0 X hP hS hr hlk dX6_ownEnd_18 ⟨Option.some.inj h, rfl⟩
def bB_cX6_goal : Nat := 0xac030400a78900b40c00b42a0d00994300b42b
theorem yB_cX6_goal : BYS cX6_goal 19 bB_cX6_goal := BYS_of (by decide +kernel)
theorem dX6_goal_0 : decode cX6_goal 0 = .ok (.aload_n 1, 1) := D_43 yB_cX6_goal rfl rfl
theorem dX6_goal_1 : decode cX6_goal 1 = .ok (.getfield 67, 3) := D_180 yB_cX6_goal rfl rfl rfl
theorem dX6_goal_4 : decode cX6_goal 4 = .ok (.ifCond .eq 13, 3) := D_153 yB_cX6_goal rfl rfl (sg_p (m := 32768) (N := 13) rfl rfl rfl)
theorem dX6_goal_7 : decode cX6_goal 7 = .ok (.aload_n 0, 1) := D_42 yB_cX6_goal rfl rfl
theorem dX6_goal_8 : decode cX6_goal 8 = .ok (.getfield 12, 3) := D_180 yB_cX6_goal rfl rfl rfl
theorem dX6_goal_11 : decode cX6_goal 11 = .ok (.getfield 137, 3) := D_180 yB_cX6_goal rfl rfl rfl
theorem dX6_goal_14 : decode cX6_goal 14 = .ok (.goto 4, 3) := D_167 yB_cX6_goal rfl rfl (sg_p (m := 32768) (N := 4) rfl rfl rfl)
theorem dX6_goal_17 : decode cX6_goal 17 = .ok (.iconst 0, 1) := D_3 yB_cX6_goal rfl rfl
theorem dX6_goal_18 : decode cX6_goal 18 = .ok (.ireturn, 1) := D_172 yB_cX6_goal rfl rfl
def F_X6_goal (σ : Mem) (t : Nat) (i1 : Nat) : Option (Int32) := if (σ i1 0) = 0 then (some 0) else (some (σ (22 * t + 1) 1))
set_option maxHeartbeats 4000000 in
set_option maxRecDepth 100000 in
theorem c_X6_goal (l : Launch) (D : va_G) (cA : Nat → ClassId) (ad : Nat → Nat) (o : Int64) (σ : Mem) (t : Nat) (i1 : Nat) (ht : t < 3) (hi1 : i1 < 106 ∧ kd i1 = (0, 12)) (res : Int32) (h : F_X6_goal σ t i1 = some res) (sz : Nat) : Met l yX6_goal (WY yX6_goal cX6_goal 2 (some .int)) (RM 0) (va_Pc [.ref (ad (22 * t)), .ref (ad i1)] (PW D cA ad o σ sz)) (va_Qi (fun r σ9 => r = res ∧ σ9 = σ) (QW D cA ad o) (FA ad sz)) 0 0 (FA ad sz) := by
  refine ct_of (own := RX6) (k := 0) (Qf := va_Qi (fun r σ9 => r = res ∧ σ9 = σ) (QW D cA ad o)) rfl (by decide) (Nat.le_of_ble_eq_true rfl) (fun p e s m below meth c ls C0 X hr hlk hP hl => ?_) sz
  have hS : va_S (FA ad s.heap.size) s.heap s.heap [] := va_S.rf
  have hl : lv_has ls 2 [(0, .ref (ad (22 * t))), (1, .ref (ad i1))] := hl
  obtain ⟨hx, hb, hml, hown, hts⟩ := id C0
  unfold F_X6_goal at h
  refine lv_aload_n hx hb dX6_goal_0 rfl (lv_at hl 1 rfl) ?_
  refine gf_X6_67 C0 X hP i1 hi1 dX6_goal_1 ?_
  refine lv_if_eq (tgt := 17) hx hb dX6_goal_4 (by decide) (fun c_1 => ?_) (fun c_1 => ?_)
  · replace h := it_t h c_1
    refine lv_iconst (v := 0) hx hb dX6_goal_17 (by decide) ?_
    exact r_iret C0 X hP hS hr hlk dX6_goal_18 ⟨Option.some.inj h, rfl⟩
  · replace h := it_f h c_1
    refine lv_aload_n hx hb dX6_goal_7 rfl (lv_at hl 0 rfl) ?_
    refine gf_X6_12 C0 X hP (22 * t) (q := (22 * t + 1)) (kdT t ht) (by omega) (lkT0 t ht) dX6_goal_8 ?_
    refine gf_X6_137 C0 X hP (22 * t + 1) (kdR t ht) dX6_goal_11 ?_
    refine lv_goto (tgt := 18) hx hb dX6_goal_14 (by decide) ?_
    exact r_iret C0 X hP hS hr hlk dX6_goal_18 ⟨Option.some.inj h, rfl⟩
def bB_cX6_comeOn : Nat := 0xb14f60042e5c1c1800b42a5300b51c2bb104009a8500b61c0c00b42a3d8100b62b2a
theorem yB_cX6_comeOn : BYS cX6_comeOn 34 bB_cX6_comeOn := BYS_of (by decide +kernel)
theorem dX6_comeOn_0 : decode cX6_comeOn 0 = .ok (.aload_n 0, 1) := D_42 yB_cX6_comeOn rfl rfl
theorem dX6_comeOn_1 : decode cX6_comeOn 1 = .ok (.aload_n 1, 1) := D_43 yB_cX6_comeOn rfl rfl
theorem dX6_comeOn_2 : decode cX6_comeOn 2 = .ok (.invokevirtual 129, 3) := D_182 yB_cX6_comeOn rfl rfl rfl
theorem dX6_comeOn_5 : decode cX6_comeOn 5 = .ok (.istore_n 2, 1) := D_61 yB_cX6_comeOn rfl rfl
theorem dX6_comeOn_6 : decode cX6_comeOn 6 = .ok (.aload_n 0, 1) := D_42 yB_cX6_comeOn rfl rfl
theorem dX6_comeOn_7 : decode cX6_comeOn 7 = .ok (.getfield 12, 3) := D_180 yB_cX6_comeOn rfl rfl rfl
theorem dX6_comeOn_10 : decode cX6_comeOn 10 = .ok (.iload_n 2, 1) := D_28 yB_cX6_comeOn rfl rfl
theorem dX6_comeOn_11 : decode cX6_comeOn 11 = .ok (.invokevirtual 133, 3) := D_182 yB_cX6_comeOn rfl rfl rfl
theorem dX6_comeOn_14 : decode cX6_comeOn 14 = .ok (.ifCond .ne 4, 3) := D_154 yB_cX6_comeOn rfl rfl (sg_p (m := 32768) (N := 4) rfl rfl rfl)
theorem dX6_comeOn_17 : decode cX6_comeOn 17 = .ok (.return_, 1) := D_177 yB_cX6_comeOn rfl rfl
theorem dX6_comeOn_18 : decode cX6_comeOn 18 = .ok (.aload_n 1, 1) := D_43 yB_cX6_comeOn rfl rfl
theorem dX6_comeOn_19 : decode cX6_comeOn 19 = .ok (.iload_n 2, 1) := D_28 yB_cX6_comeOn rfl rfl
theorem dX6_comeOn_20 : decode cX6_comeOn 20 = .ok (.putfield 83, 3) := D_181 yB_cX6_comeOn rfl rfl rfl
theorem dX6_comeOn_23 : decode cX6_comeOn 23 = .ok (.aload_n 0, 1) := D_42 yB_cX6_comeOn rfl rfl
theorem dX6_comeOn_24 : decode cX6_comeOn 24 = .ok (.getfield 24, 3) := D_180 yB_cX6_comeOn rfl rfl rfl
theorem dX6_comeOn_27 : decode cX6_comeOn 27 = .ok (.iload_n 2, 1) := D_28 yB_cX6_comeOn rfl rfl
theorem dX6_comeOn_28 : decode cX6_comeOn 28 = .ok (.dup2, 1) := D_92 yB_cX6_comeOn rfl rfl
theorem dX6_comeOn_29 : decode cX6_comeOn 29 = .ok (.iaload, 1) := D_46 yB_cX6_comeOn rfl rfl
theorem dX6_comeOn_30 : decode cX6_comeOn 30 = .ok (.iconst 1, 1) := D_4 yB_cX6_comeOn rfl rfl
theorem dX6_comeOn_31 : decode cX6_comeOn 31 = .ok (.iadd, 1) := D_96 yB_cX6_comeOn rfl rfl
theorem dX6_comeOn_32 : decode cX6_comeOn 32 = .ok (.iastore, 1) := D_79 yB_cX6_comeOn rfl rfl
theorem dX6_comeOn_33 : decode cX6_comeOn 33 = .ok (.return_, 1) := D_177 yB_cX6_comeOn rfl rfl
def F_X6_comeOn (σ : Mem) (t : Nat) (i1 : Nat) : Option (Mem) := (F_X6_ownEnd σ t i1).bind fun r_1 => (F_X4_isSpot σ t r_1).bind fun r_2 => if r_2 = 0 then (some σ) else ((ix 73 r_1).bind fun k_4 => (ix 73 r_1).bind fun k_5 => some (stm (stm σ i1 6 r_1) (22 * t + 14) k_5 (((stm σ i1 6 r_1) (22 * t + 14) k_4) + 1)))
set_option maxHeartbeats 4000000 in
set_option maxRecDepth 100000 in
theorem c_X6_comeOn (l : Launch) (D : va_G) (cA : Nat → ClassId) (ad : Nat → Nat) (o : Int64) (σ : Mem) (t : Nat) (i1 : Nat) (ht : t < 3) (hi1 : i1 < 106 ∧ kd i1 = (0, 12)) (res : Mem) (h : F_X6_comeOn σ t i1 = some res) (sz : Nat) : Met l yX6_comeOn (WY yX6_comeOn cX6_comeOn 3 none) (RM 1) (va_Pc [.ref (ad (22 * t)), .ref (ad i1)] (PW D cA ad o σ sz)) (va_Qv (fun σ9 => σ9 = res) (QW D cA ad o) (FA ad sz)) 0 0 (FA ad sz) := by
  refine ct_of (own := RX6) (k := 1) (Qf := va_Qv (fun σ9 => σ9 = res) (QW D cA ad o)) rfl (by decide) (Nat.le_of_ble_eq_true rfl) (fun p e s m below meth c ls C0 X hr hlk hP hl => ?_) sz
  have hS : va_S (FA ad s.heap.size) s.heap s.heap [] := va_S.rf
  have hl : lv_has ls 3 [(0, .ref (ad (22 * t))), (1, .ref (ad i1))] := hl
  obtain ⟨hx, hb, hml, hown, hts⟩ := id C0
  unfold F_X6_comeOn at h
  refine lv_aload_n hx hb dX6_comeOn_0 rfl (lv_at hl 0 rfl) ?_
  refine lv_aload_n hx hb dX6_comeOn_1 rfl (lv_at hl 1 rfl) ?_
  obtain ⟨r_1, er_1, h⟩ := bnd h
  refine r_ci X hS (r_runV (As := [.ref (ad i1)]) (rest := []) C0 X hP L_X6_129 (fun sz => c_X6_ownEnd l D cA ad o σ t i1 ht hi1 r_1 er_1 sz) (kdT t ht).1 (kdT t ht).2 (by decide) rfl ⟨Nat.le_of_ble_eq_true rfl, Nat.le_of_ble_eq_true rfl⟩ rfl hl.1 rfl (Nat.le_of_ble_eq_true rfl) dX6_comeOn_2 ⟨Nat.zero_le _, Nat.zero_le _⟩) (fun r9 σ9 H locs hw hP hS => ?_)
  rw [hw.2] at hP
  rw [hw.1]
  refine lv_istore_n (lv' := [(2, .int r_1), (0, .ref (ad (22 * t))), (1, .ref (ad i1))]) hx hb dX6_comeOn_5 rfl hl (by decide) rfl (fun ls hl => ?_)
  refine lv_aload_n hx hb dX6_comeOn_6 rfl (lv_at hl 1 rfl) ?_
  refine gf_X6_12 C0 X hP (22 * t) (q := (22 * t + 1)) (kdT t ht) (by omega) (lkT0 t ht) dX6_comeOn_7 ?_
  refine lv_iload_n hx hb dX6_comeOn_10 rfl (lv_at hl 0 rfl) ?_
  obtain ⟨r_2, er_2, h⟩ := bnd h
  refine r_ci X hS (r_runV (As := [.int r_1]) (rest := []) C0 X hP L_X6_133 (fun sz => c_X4_isSpot l D cA ad o σ t r_1 ht r_2 er_2 sz) (kdR t ht).1 (kdR t ht).2 (by decide) rfl ⟨Nat.le_of_ble_eq_true rfl, Nat.le_of_ble_eq_true rfl⟩ rfl hl.1 rfl (Nat.le_of_ble_eq_true rfl) dX6_comeOn_11 ⟨Nat.zero_le _, Nat.zero_le _⟩) (fun r9 σ9 H locs hw hP hS => ?_)
  rw [hw.2] at hP
  rw [hw.1]
  refine lv_if_ne (tgt := 18) hx hb dX6_comeOn_14 (by decide) (fun c_3 => ?_) (fun c_3 => ?_)
  · replace h := it_f h c_3
    refine lv_aload_n hx hb dX6_comeOn_18 rfl (lv_at hl 2 rfl) ?_
    refine lv_iload_n hx hb dX6_comeOn_19 rfl (lv_at hl 0 rfl) ?_
    refine pf_X6_83 C0 X hP hS i1 hi1 dX6_comeOn_20 (fun H locs hP hS => ?_)
    refine lv_aload_n hx hb dX6_comeOn_23 rfl (lv_at hl 1 rfl) ?_
    refine gf_X6_24 C0 X hP (22 * t) (q := (22 * t + 14)) (kdT t ht) (by omega) (lkT7 t ht) dX6_comeOn_24 ?_
    refine lv_iload_n hx hb dX6_comeOn_27 rfl (lv_at hl 0 rfl) ?_
    refine lv_dup2_11 hx hb dX6_comeOn_28 rfl rfl ?_
    obtain ⟨k_4, ek_4, h⟩ := bnd h
    replace ek_4 := ix_s ek_4 (by decide)
    refine r_ialdN C0 X hP (22 * t + 14) (k := k_4) (kdA14 t ht) ek_4.1 ek_4.2 dX6_comeOn_29 ?_
    refine lv_iconst (v := 1) hx hb dX6_comeOn_30 (by decide) ?_
    refine lv_iadd hx hb dX6_comeOn_31 ?_
    obtain ⟨k_5, ek_5, h⟩ := bnd h
    replace ek_5 := ix_s ek_5 (by decide)
    refine r_iastN C0 X hP hS (22 * t + 14) (k := k_5) (kdA14 t ht) ek_5.1 ek_5.2 dX6_comeOn_32 (fun H locs hP hS => ?_)
    exact r_vret C0 X hP hS hr hlk dX6_comeOn_33 (Option.some.inj h)
  · replace h := it_t h c_3
    exact r_vret C0 X hP hS hr hlk dX6_comeOn_17 (Option.some.inj h)
def bB_cX6_hasRoom : Nat := 0xac030400a7040700a22e1cbf00b40c00b42a2e1b1800b42a150099bc00b61c0c00b42aac030400a70407009a2e1b1800b42a12009c1c3d2e1bb900b40c00b42aac0305009a8500b61b0c00b42a
theorem yB_cX6_hasRoom : BYS cX6_hasRoom 77 bB_cX6_hasRoom := BYS_of (by decide +kernel)
theorem dX6_hasRoom_0 : decode cX6_hasRoom 0 = .ok (.aload_n 0, 1) := D_42 yB_cX6_hasRoom rfl rfl
theorem dX6_hasRoom_1 : decode cX6_hasRoom 1 = .ok (.getfield 12, 3) := D_180 yB_cX6_hasRoom rfl rfl rfl
theorem dX6_hasRoom_4 : decode cX6_hasRoom 4 = .ok (.iload_n 1, 1) := D_27 yB_cX6_hasRoom rfl rfl
theorem dX6_hasRoom_5 : decode cX6_hasRoom 5 = .ok (.invokevirtual 133, 3) := D_182 yB_cX6_hasRoom rfl rfl rfl
theorem dX6_hasRoom_8 : decode cX6_hasRoom 8 = .ok (.ifCond .ne 5, 3) := D_154 yB_cX6_hasRoom rfl rfl (sg_p (m := 32768) (N := 5) rfl rfl rfl)
theorem dX6_hasRoom_11 : decode cX6_hasRoom 11 = .ok (.iconst 0, 1) := D_3 yB_cX6_hasRoom rfl rfl
theorem dX6_hasRoom_12 : decode cX6_hasRoom 12 = .ok (.ireturn, 1) := D_172 yB_cX6_hasRoom rfl rfl
theorem dX6_hasRoom_13 : decode cX6_hasRoom 13 = .ok (.aload_n 0, 1) := D_42 yB_cX6_hasRoom rfl rfl
theorem dX6_hasRoom_14 : decode cX6_hasRoom 14 = .ok (.getfield 12, 3) := D_180 yB_cX6_hasRoom rfl rfl rfl
theorem dX6_hasRoom_17 : decode cX6_hasRoom 17 = .ok (.getfield 185, 3) := D_180 yB_cX6_hasRoom rfl rfl rfl
theorem dX6_hasRoom_20 : decode cX6_hasRoom 20 = .ok (.iload_n 1, 1) := D_27 yB_cX6_hasRoom rfl rfl
theorem dX6_hasRoom_21 : decode cX6_hasRoom 21 = .ok (.iaload, 1) := D_46 yB_cX6_hasRoom rfl rfl
theorem dX6_hasRoom_22 : decode cX6_hasRoom 22 = .ok (.istore_n 2, 1) := D_61 yB_cX6_hasRoom rfl rfl
theorem dX6_hasRoom_23 : decode cX6_hasRoom 23 = .ok (.iload_n 2, 1) := D_28 yB_cX6_hasRoom rfl rfl
theorem dX6_hasRoom_24 : decode cX6_hasRoom 24 = .ok (.ifCond .ge 18, 3) := D_156 yB_cX6_hasRoom rfl rfl (sg_p (m := 32768) (N := 18) rfl rfl rfl)
theorem dX6_hasRoom_27 : decode cX6_hasRoom 27 = .ok (.aload_n 0, 1) := D_42 yB_cX6_hasRoom rfl rfl
theorem dX6_hasRoom_28 : decode cX6_hasRoom 28 = .ok (.getfield 24, 3) := D_180 yB_cX6_hasRoom rfl rfl rfl
theorem dX6_hasRoom_31 : decode cX6_hasRoom 31 = .ok (.iload_n 1, 1) := D_27 yB_cX6_hasRoom rfl rfl
theorem dX6_hasRoom_32 : decode cX6_hasRoom 32 = .ok (.iaload, 1) := D_46 yB_cX6_hasRoom rfl rfl
theorem dX6_hasRoom_33 : decode cX6_hasRoom 33 = .ok (.ifCond .ne 7, 3) := D_154 yB_cX6_hasRoom rfl rfl (sg_p (m := 32768) (N := 7) rfl rfl rfl)
theorem dX6_hasRoom_36 : decode cX6_hasRoom 36 = .ok (.iconst 1, 1) := D_4 yB_cX6_hasRoom rfl rfl
theorem dX6_hasRoom_37 : decode cX6_hasRoom 37 = .ok (.goto 4, 3) := D_167 yB_cX6_hasRoom rfl rfl (sg_p (m := 32768) (N := 4) rfl rfl rfl)
theorem dX6_hasRoom_40 : decode cX6_hasRoom 40 = .ok (.iconst 0, 1) := D_3 yB_cX6_hasRoom rfl rfl
theorem dX6_hasRoom_41 : decode cX6_hasRoom 41 = .ok (.ireturn, 1) := D_172 yB_cX6_hasRoom rfl rfl
theorem dX6_hasRoom_42 : decode cX6_hasRoom 42 = .ok (.aload_n 0, 1) := D_42 yB_cX6_hasRoom rfl rfl
theorem dX6_hasRoom_43 : decode cX6_hasRoom 43 = .ok (.getfield 12, 3) := D_180 yB_cX6_hasRoom rfl rfl rfl
theorem dX6_hasRoom_46 : decode cX6_hasRoom 46 = .ok (.iload_n 2, 1) := D_28 yB_cX6_hasRoom rfl rfl
theorem dX6_hasRoom_47 : decode cX6_hasRoom 47 = .ok (.invokevirtual 188, 3) := D_182 yB_cX6_hasRoom rfl rfl rfl
theorem dX6_hasRoom_50 : decode cX6_hasRoom 50 = .ok (.ifCond .eq 21, 3) := D_153 yB_cX6_hasRoom rfl rfl (sg_p (m := 32768) (N := 21) rfl rfl rfl)
theorem dX6_hasRoom_53 : decode cX6_hasRoom 53 = .ok (.aload_n 0, 1) := D_42 yB_cX6_hasRoom rfl rfl
theorem dX6_hasRoom_54 : decode cX6_hasRoom 54 = .ok (.getfield 24, 3) := D_180 yB_cX6_hasRoom rfl rfl rfl
theorem dX6_hasRoom_57 : decode cX6_hasRoom 57 = .ok (.iload_n 1, 1) := D_27 yB_cX6_hasRoom rfl rfl
theorem dX6_hasRoom_58 : decode cX6_hasRoom 58 = .ok (.iaload, 1) := D_46 yB_cX6_hasRoom rfl rfl
theorem dX6_hasRoom_59 : decode cX6_hasRoom 59 = .ok (.aload_n 0, 1) := D_42 yB_cX6_hasRoom rfl rfl
theorem dX6_hasRoom_60 : decode cX6_hasRoom 60 = .ok (.getfield 12, 3) := D_180 yB_cX6_hasRoom rfl rfl rfl
theorem dX6_hasRoom_63 : decode cX6_hasRoom 63 = .ok (.getfield 191, 3) := D_180 yB_cX6_hasRoom rfl rfl rfl
theorem dX6_hasRoom_66 : decode cX6_hasRoom 66 = .ok (.iload_n 2, 1) := D_28 yB_cX6_hasRoom rfl rfl
theorem dX6_hasRoom_67 : decode cX6_hasRoom 67 = .ok (.iaload, 1) := D_46 yB_cX6_hasRoom rfl rfl
theorem dX6_hasRoom_68 : decode cX6_hasRoom 68 = .ok (.if_icmp .ge 7, 3) := D_162 yB_cX6_hasRoom rfl rfl (sg_p (m := 32768) (N := 7) rfl rfl rfl)
theorem dX6_hasRoom_71 : decode cX6_hasRoom 71 = .ok (.iconst 1, 1) := D_4 yB_cX6_hasRoom rfl rfl
theorem dX6_hasRoom_72 : decode cX6_hasRoom 72 = .ok (.goto 4, 3) := D_167 yB_cX6_hasRoom rfl rfl (sg_p (m := 32768) (N := 4) rfl rfl rfl)
theorem dX6_hasRoom_75 : decode cX6_hasRoom 75 = .ok (.iconst 0, 1) := D_3 yB_cX6_hasRoom rfl rfl
theorem dX6_hasRoom_76 : decode cX6_hasRoom 76 = .ok (.ireturn, 1) := D_172 yB_cX6_hasRoom rfl rfl
def F_X6_hasRoom (σ : Mem) (t : Nat) (x1 : Int32) : Option (Int32) := (F_X4_isSpot σ t x1).bind fun r_1 => if r_1 = 0 then (some 0) else ((ix 73 x1).bind fun k_3 => if 0 ≤ (σ (22 * t + 7) k_3) then ((F_X4_isBetween σ t (σ (22 * t + 7) k_3)).bind fun r_5 => if r_5 = 0 then (some 1) else ((ix 73 x1).bind fun k_7 => (ix 9 (σ (22 * t + 7) k_3)).bind fun k_8 => if (σ (22 * t + 5) k_8) ≤ (σ (22 * t + 14) k_7) then (some 0) else (some 1))) else ((ix 73 x1).bind fun k_10 => if (σ (22 * t + 14) k_10) = 0 then (some 1) else (some 0)))
set_option maxHeartbeats 4000000 in
set_option maxRecDepth 100000 in
theorem c_X6_hasRoom (l : Launch) (D : va_G) (cA : Nat → ClassId) (ad : Nat → Nat) (o : Int64) (σ : Mem) (t : Nat) (x1 : Int32) (ht : t < 3) (res : Int32) (h : F_X6_hasRoom σ t x1 = some res) (sz : Nat) : Met l yX6_hasRoom (WY yX6_hasRoom cX6_hasRoom 3 (some .boolean)) (RM 1) (va_Pc [.ref (ad (22 * t)), .int x1] (PW D cA ad o σ sz)) (va_Qi (fun r σ9 => r = res ∧ σ9 = σ) (QW D cA ad o) (FA ad sz)) 0 0 (FA ad sz) := by
  refine ct_of (own := RX6) (k := 1) (Qf := va_Qi (fun r σ9 => r = res ∧ σ9 = σ) (QW D cA ad o)) rfl (by decide) (Nat.le_of_ble_eq_true rfl) (fun p e s m below meth c ls C0 X hr hlk hP hl => ?_) sz
  have hS : va_S (FA ad s.heap.size) s.heap s.heap [] := va_S.rf
  have hl : lv_has ls 3 [(0, .ref (ad (22 * t))), (1, .int x1)] := hl
  obtain ⟨hx, hb, hml, hown, hts⟩ := id C0
  unfold F_X6_hasRoom at h
  refine lv_aload_n hx hb dX6_hasRoom_0 rfl (lv_at hl 0 rfl) ?_
  refine gf_X6_12 C0 X hP (22 * t) (q := (22 * t + 1)) (kdT t ht) (by omega) (lkT0 t ht) dX6_hasRoom_1 ?_
  refine lv_iload_n hx hb dX6_hasRoom_4 rfl (lv_at hl 1 rfl) ?_
  obtain ⟨r_1, er_1, h⟩ := bnd h
  refine r_ci X hS (r_runV (As := [.int x1]) (rest := []) C0 X hP L_X6_133 (fun sz => c_X4_isSpot l D cA ad o σ t x1 ht r_1 er_1 sz) (kdR t ht).1 (kdR t ht).2 (by decide) rfl ⟨Nat.le_of_ble_eq_true rfl, Nat.le_of_ble_eq_true rfl⟩ rfl hl.1 rfl (Nat.le_of_ble_eq_true rfl) dX6_hasRoom_5 ⟨Nat.zero_le _, Nat.zero_le _⟩) (fun r9 σ9 H locs hw hP hS => ?_)
  rw [hw.2] at hP
  rw [hw.1]
  refine lv_if_ne (tgt := 13) hx hb dX6_hasRoom_8 (by decide) (fun c_2 => ?_) (fun c_2 => ?_)
  · replace h := it_f h c_2
    refine lv_aload_n hx hb dX6_hasRoom_13 rfl (lv_at hl 0 rfl) ?_
    refine gf_X6_12 C0 X hP (22 * t) (q := (22 * t + 1)) (kdT t ht) (by omega) (lkT0 t ht) dX6_hasRoom_14 ?_
    refine gf_X6_185 C0 X hP (22 * t + 1) (q := (22 * t + 7)) (kdR t ht) (by omega) (lkR7 t ht) dX6_hasRoom_17 ?_
    refine lv_iload_n hx hb dX6_hasRoom_20 rfl (lv_at hl 1 rfl) ?_
    obtain ⟨k_3, ek_3, h⟩ := bnd h
    replace ek_3 := ix_s ek_3 (by decide)
    refine r_ialdN C0 X hP (22 * t + 7) (k := k_3) (kdA7 t ht) ek_3.1 ek_3.2 dX6_hasRoom_21 ?_
    refine lv_istore_n (lv' := [(2, .int (σ (22 * t + 7) k_3)), (0, .ref (ad (22 * t))), (1, .int x1)]) hx hb dX6_hasRoom_22 rfl hl (by decide) rfl (fun ls hl => ?_)
    refine lv_iload_n hx hb dX6_hasRoom_23 rfl (lv_at hl 0 rfl) ?_
    refine lv_if_ge (tgt := 42) hx hb dX6_hasRoom_24 (by decide) (fun c_4 => ?_) (fun c_4 => ?_)
    · replace h := it_t h c_4
      refine lv_aload_n hx hb dX6_hasRoom_42 rfl (lv_at hl 1 rfl) ?_
      refine gf_X6_12 C0 X hP (22 * t) (q := (22 * t + 1)) (kdT t ht) (by omega) (lkT0 t ht) dX6_hasRoom_43 ?_
      refine lv_iload_n hx hb dX6_hasRoom_46 rfl (lv_at hl 0 rfl) ?_
      obtain ⟨r_5, er_5, h⟩ := bnd h
      refine r_ci X hS (r_runV (As := [.int (σ (22 * t + 7) k_3)]) (rest := []) C0 X hP L_X6_188 (fun sz => c_X4_isBetween l D cA ad o σ t (σ (22 * t + 7) k_3) ht r_5 er_5 sz) (kdR t ht).1 (kdR t ht).2 (by decide) rfl ⟨Nat.le_of_ble_eq_true rfl, Nat.le_of_ble_eq_true rfl⟩ rfl hl.1 rfl (Nat.le_of_ble_eq_true rfl) dX6_hasRoom_47 ⟨Nat.zero_le _, Nat.zero_le _⟩) (fun r9 σ9 H locs hw hP hS => ?_)
      rw [hw.2] at hP
      rw [hw.1]
      refine lv_if_eq (tgt := 71) hx hb dX6_hasRoom_50 (by decide) (fun c_6 => ?_) (fun c_6 => ?_)
      · replace h := it_t h c_6
        refine lv_iconst (v := 1) hx hb dX6_hasRoom_71 (by decide) ?_
        refine lv_goto (tgt := 76) hx hb dX6_hasRoom_72 (by decide) ?_
        exact r_zret C0 X hP hS hr hlk dX6_hasRoom_76 (Or.inr rfl) ⟨Option.some.inj h, rfl⟩
      · replace h := it_f h c_6
        refine lv_aload_n hx hb dX6_hasRoom_53 rfl (lv_at hl 1 rfl) ?_
        refine gf_X6_24 C0 X hP (22 * t) (q := (22 * t + 14)) (kdT t ht) (by omega) (lkT7 t ht) dX6_hasRoom_54 ?_
        refine lv_iload_n hx hb dX6_hasRoom_57 rfl (lv_at hl 2 rfl) ?_
        obtain ⟨k_7, ek_7, h⟩ := bnd h
        replace ek_7 := ix_s ek_7 (by decide)
        refine r_ialdN C0 X hP (22 * t + 14) (k := k_7) (kdA14 t ht) ek_7.1 ek_7.2 dX6_hasRoom_58 ?_
        refine lv_aload_n hx hb dX6_hasRoom_59 rfl (lv_at hl 1 rfl) ?_
        refine gf_X6_12 C0 X hP (22 * t) (q := (22 * t + 1)) (kdT t ht) (by omega) (lkT0 t ht) dX6_hasRoom_60 ?_
        refine gf_X6_191 C0 X hP (22 * t + 1) (q := (22 * t + 5)) (kdR t ht) (by omega) (lkR5 t ht) dX6_hasRoom_63 ?_
        refine lv_iload_n hx hb dX6_hasRoom_66 rfl (lv_at hl 0 rfl) ?_
        obtain ⟨k_8, ek_8, h⟩ := bnd h
        replace ek_8 := ix_s ek_8 (by decide)
        refine r_ialdN C0 X hP (22 * t + 5) (k := k_8) (kdA5 t ht) ek_8.1 ek_8.2 dX6_hasRoom_67 ?_
        refine lv_icmp_ge (tgt := 75) hx hb dX6_hasRoom_68 (by decide) (fun c_9 => ?_) (fun c_9 => ?_)
        · replace h := it_t h c_9
          refine lv_iconst (v := 0) hx hb dX6_hasRoom_75 (by decide) ?_
          exact r_zret C0 X hP hS hr hlk dX6_hasRoom_76 (Or.inl rfl) ⟨Option.some.inj h, rfl⟩
        · replace h := it_f h c_9
          refine lv_iconst (v := 1) hx hb dX6_hasRoom_71 (by decide) ?_
          refine lv_goto (tgt := 76) hx hb dX6_hasRoom_72 (by decide) ?_
          exact r_zret C0 X hP hS hr hlk dX6_hasRoom_76 (Or.inr rfl) ⟨Option.some.inj h, rfl⟩
    · replace h := it_f h c_4
      refine lv_aload_n hx hb dX6_hasRoom_27 rfl (lv_at hl 1 rfl) ?_
      refine gf_X6_24 C0 X hP (22 * t) (q := (22 * t + 14)) (kdT t ht) (by omega) (lkT7 t ht) dX6_hasRoom_28 ?_
      refine lv_iload_n hx hb dX6_hasRoom_31 rfl (lv_at hl 2 rfl) ?_
      obtain ⟨k_10, ek_10, h⟩ := bnd h
      replace ek_10 := ix_s ek_10 (by decide)
      refine r_ialdN C0 X hP (22 * t + 14) (k := k_10) (kdA14 t ht) ek_10.1 ek_10.2 dX6_hasRoom_32 ?_
      refine lv_if_ne (tgt := 40) hx hb dX6_hasRoom_33 (by decide) (fun c_11 => ?_) (fun c_11 => ?_)
      · replace h := it_f h c_11
        refine lv_iconst (v := 0) hx hb dX6_hasRoom_40 (by decide) ?_
        exact r_zret C0 X hP hS hr hlk dX6_hasRoom_41 (Or.inl rfl) ⟨Option.some.inj h, rfl⟩
      · replace h := it_t h c_11
        refine lv_iconst (v := 1) hx hb dX6_hasRoom_36 (by decide) ?_
        refine lv_goto (tgt := 41) hx hb dX6_hasRoom_37 (by decide) ?_
        exact r_zret C0 X hP hS hr hlk dX6_hasRoom_41 (Or.inr rfl) ⟨Option.some.inj h, rfl⟩
  · replace h := it_t h c_2
    refine lv_iconst (v := 0) hx hb dX6_hasRoom_11 (by decide) ?_
    exact r_zret C0 X hP hS hr hlk dX6_hasRoom_12 (Or.inl rfl) ⟨Option.some.inj h, rfl⟩
def bB_cX6_step : Nat := 0xb16b00b5042a5300b51c2b4f60042e5c1c1800b42a4f64042e5c5300b42b1800b42ab104009a8500b61c0c00b42a0e00998500b65300b42b0c00b42a
theorem yB_cX6_step : BYS cX6_step 60 bB_cX6_step := BYS_of (by decide +kernel)
theorem dX6_step_0 : decode cX6_step 0 = .ok (.aload_n 0, 1) := D_42 yB_cX6_step rfl rfl
theorem dX6_step_1 : decode cX6_step 1 = .ok (.getfield 12, 3) := D_180 yB_cX6_step rfl rfl rfl
theorem dX6_step_4 : decode cX6_step 4 = .ok (.aload_n 1, 1) := D_43 yB_cX6_step rfl rfl
theorem dX6_step_5 : decode cX6_step 5 = .ok (.getfield 83, 3) := D_180 yB_cX6_step rfl rfl rfl
theorem dX6_step_8 : decode cX6_step 8 = .ok (.invokevirtual 133, 3) := D_182 yB_cX6_step rfl rfl rfl
theorem dX6_step_11 : decode cX6_step 11 = .ok (.ifCond .eq 14, 3) := D_153 yB_cX6_step rfl rfl (sg_p (m := 32768) (N := 14) rfl rfl rfl)
theorem dX6_step_14 : decode cX6_step 14 = .ok (.aload_n 0, 1) := D_42 yB_cX6_step rfl rfl
theorem dX6_step_15 : decode cX6_step 15 = .ok (.getfield 12, 3) := D_180 yB_cX6_step rfl rfl rfl
theorem dX6_step_18 : decode cX6_step 18 = .ok (.iload_n 2, 1) := D_28 yB_cX6_step rfl rfl
theorem dX6_step_19 : decode cX6_step 19 = .ok (.invokevirtual 133, 3) := D_182 yB_cX6_step rfl rfl rfl
theorem dX6_step_22 : decode cX6_step 22 = .ok (.ifCond .ne 4, 3) := D_154 yB_cX6_step rfl rfl (sg_p (m := 32768) (N := 4) rfl rfl rfl)
theorem dX6_step_25 : decode cX6_step 25 = .ok (.return_, 1) := D_177 yB_cX6_step rfl rfl
theorem dX6_step_26 : decode cX6_step 26 = .ok (.aload_n 0, 1) := D_42 yB_cX6_step rfl rfl
theorem dX6_step_27 : decode cX6_step 27 = .ok (.getfield 24, 3) := D_180 yB_cX6_step rfl rfl rfl
theorem dX6_step_30 : decode cX6_step 30 = .ok (.aload_n 1, 1) := D_43 yB_cX6_step rfl rfl
theorem dX6_step_31 : decode cX6_step 31 = .ok (.getfield 83, 3) := D_180 yB_cX6_step rfl rfl rfl
theorem dX6_step_34 : decode cX6_step 34 = .ok (.dup2, 1) := D_92 yB_cX6_step rfl rfl
theorem dX6_step_35 : decode cX6_step 35 = .ok (.iaload, 1) := D_46 yB_cX6_step rfl rfl
theorem dX6_step_36 : decode cX6_step 36 = .ok (.iconst 1, 1) := D_4 yB_cX6_step rfl rfl
theorem dX6_step_37 : decode cX6_step 37 = .ok (.isub, 1) := D_100 yB_cX6_step rfl rfl
theorem dX6_step_38 : decode cX6_step 38 = .ok (.iastore, 1) := D_79 yB_cX6_step rfl rfl
theorem dX6_step_39 : decode cX6_step 39 = .ok (.aload_n 0, 1) := D_42 yB_cX6_step rfl rfl
theorem dX6_step_40 : decode cX6_step 40 = .ok (.getfield 24, 3) := D_180 yB_cX6_step rfl rfl rfl
theorem dX6_step_43 : decode cX6_step 43 = .ok (.iload_n 2, 1) := D_28 yB_cX6_step rfl rfl
theorem dX6_step_44 : decode cX6_step 44 = .ok (.dup2, 1) := D_92 yB_cX6_step rfl rfl
theorem dX6_step_45 : decode cX6_step 45 = .ok (.iaload, 1) := D_46 yB_cX6_step rfl rfl
theorem dX6_step_46 : decode cX6_step 46 = .ok (.iconst 1, 1) := D_4 yB_cX6_step rfl rfl
theorem dX6_step_47 : decode cX6_step 47 = .ok (.iadd, 1) := D_96 yB_cX6_step rfl rfl
theorem dX6_step_48 : decode cX6_step 48 = .ok (.iastore, 1) := D_79 yB_cX6_step rfl rfl
theorem dX6_step_49 : decode cX6_step 49 = .ok (.aload_n 1, 1) := D_43 yB_cX6_step rfl rfl
theorem dX6_step_50 : decode cX6_step 50 = .ok (.iload_n 2, 1) := D_28 yB_cX6_step rfl rfl
theorem dX6_step_51 : decode cX6_step 51 = .ok (.putfield 83, 3) := D_181 yB_cX6_step rfl rfl rfl
theorem dX6_step_54 : decode cX6_step 54 = .ok (.aload_n 0, 1) := D_42 yB_cX6_step rfl rfl
theorem dX6_step_55 : decode cX6_step 55 = .ok (.iconst 1, 1) := D_4 yB_cX6_step rfl rfl
theorem dX6_step_56 : decode cX6_step 56 = .ok (.putfield 107, 3) := D_181 yB_cX6_step rfl rfl rfl
theorem dX6_step_59 : decode cX6_step 59 = .ok (.return_, 1) := D_177 yB_cX6_step rfl rfl
def F_X6_step (σ : Mem) (t : Nat) (i1 : Nat) (x2 : Int32) : Option (Mem) := (F_X4_isSpot σ t (σ i1 6)).bind fun r_1 => if r_1 = 0 then (some σ) else ((F_X4_isSpot σ t x2).bind fun r_3 => if r_3 = 0 then (some σ) else ((ix 73 (σ i1 6)).bind fun k_5 => (ix 73 (σ i1 6)).bind fun k_6 => (ix 73 x2).bind fun k_7 => (ix 73 x2).bind fun k_8 => some (stm (stm (stm (stm σ (22 * t + 14) k_6 ((σ (22 * t + 14) k_5) - 1)) (22 * t + 14) k_8 (((stm σ (22 * t + 14) k_6 ((σ (22 * t + 14) k_5) - 1)) (22 * t + 14) k_7) + 1)) i1 6 x2) (22 * t) 6 1)))
set_option maxHeartbeats 4000000 in
set_option maxRecDepth 100000 in
theorem c_X6_step (l : Launch) (D : va_G) (cA : Nat → ClassId) (ad : Nat → Nat) (o : Int64) (σ : Mem) (t : Nat) (i1 : Nat) (x2 : Int32) (ht : t < 3) (hi1 : i1 < 106 ∧ kd i1 = (0, 12)) (res : Mem) (h : F_X6_step σ t i1 x2 = some res) (sz : Nat) : Met l yX6_step (WY yX6_step cX6_step 3 none) (RM 1) (va_Pc [.ref (ad (22 * t)), .ref (ad i1), .int x2] (PW D cA ad o σ sz)) (va_Qv (fun σ9 => σ9 = res) (QW D cA ad o) (FA ad sz)) 0 0 (FA ad sz) := by
  refine ct_of (own := RX6) (k := 1) (Qf := va_Qv (fun σ9 => σ9 = res) (QW D cA ad o)) rfl (by decide) (Nat.le_of_ble_eq_true rfl) (fun p e s m below meth c ls C0 X hr hlk hP hl => ?_) sz
  have hS : va_S (FA ad s.heap.size) s.heap s.heap [] := va_S.rf
  have hl : lv_has ls 3 [(0, .ref (ad (22 * t))), (1, .ref (ad i1)), (2, .int x2)] := hl
  obtain ⟨hx, hb, hml, hown, hts⟩ := id C0
  unfold F_X6_step at h
  refine lv_aload_n hx hb dX6_step_0 rfl (lv_at hl 0 rfl) ?_
  refine gf_X6_12 C0 X hP (22 * t) (q := (22 * t + 1)) (kdT t ht) (by omega) (lkT0 t ht) dX6_step_1 ?_
  refine lv_aload_n hx hb dX6_step_4 rfl (lv_at hl 1 rfl) ?_
  refine gf_X6_83 C0 X hP i1 hi1 dX6_step_5 ?_
  obtain ⟨r_1, er_1, h⟩ := bnd h
  refine r_ci X hS (r_runV (As := [.int (σ i1 6)]) (rest := []) C0 X hP L_X6_133 (fun sz => c_X4_isSpot l D cA ad o σ t (σ i1 6) ht r_1 er_1 sz) (kdR t ht).1 (kdR t ht).2 (by decide) rfl ⟨Nat.le_of_ble_eq_true rfl, Nat.le_of_ble_eq_true rfl⟩ rfl hl.1 rfl (Nat.le_of_ble_eq_true rfl) dX6_step_8 ⟨Nat.zero_le _, Nat.zero_le _⟩) (fun r9 σ9 H locs hw hP hS => ?_)
  rw [hw.2] at hP
  rw [hw.1]
  refine lv_if_eq (tgt := 25) hx hb dX6_step_11 (by decide) (fun c_2 => ?_) (fun c_2 => ?_)
  · replace h := it_t h c_2
    exact r_vret C0 X hP hS hr hlk dX6_step_25 (Option.some.inj h)
  · replace h := it_f h c_2
    refine lv_aload_n hx hb dX6_step_14 rfl (lv_at hl 0 rfl) ?_
    refine gf_X6_12 C0 X hP (22 * t) (q := (22 * t + 1)) (kdT t ht) (by omega) (lkT0 t ht) dX6_step_15 ?_
    refine lv_iload_n hx hb dX6_step_18 rfl (lv_at hl 2 rfl) ?_
    obtain ⟨r_3, er_3, h⟩ := bnd h
    refine r_ci X hS (r_runV (As := [.int x2]) (rest := []) C0 X hP L_X6_133 (fun sz => c_X4_isSpot l D cA ad o σ t x2 ht r_3 er_3 sz) (kdR t ht).1 (kdR t ht).2 (by decide) rfl ⟨Nat.le_of_ble_eq_true rfl, Nat.le_of_ble_eq_true rfl⟩ rfl hl.1 rfl (Nat.le_of_ble_eq_true rfl) dX6_step_19 ⟨Nat.zero_le _, Nat.zero_le _⟩) (fun r9 σ9 H locs hw hP hS => ?_)
    rw [hw.2] at hP
    rw [hw.1]
    refine lv_if_ne (tgt := 26) hx hb dX6_step_22 (by decide) (fun c_4 => ?_) (fun c_4 => ?_)
    · replace h := it_f h c_4
      refine lv_aload_n hx hb dX6_step_26 rfl (lv_at hl 0 rfl) ?_
      refine gf_X6_24 C0 X hP (22 * t) (q := (22 * t + 14)) (kdT t ht) (by omega) (lkT7 t ht) dX6_step_27 ?_
      refine lv_aload_n hx hb dX6_step_30 rfl (lv_at hl 1 rfl) ?_
      refine gf_X6_83 C0 X hP i1 hi1 dX6_step_31 ?_
      refine lv_dup2_11 hx hb dX6_step_34 rfl rfl ?_
      obtain ⟨k_5, ek_5, h⟩ := bnd h
      replace ek_5 := ix_s ek_5 (by decide)
      refine r_ialdN C0 X hP (22 * t + 14) (k := k_5) (kdA14 t ht) ek_5.1 ek_5.2 dX6_step_35 ?_
      refine lv_iconst (v := 1) hx hb dX6_step_36 (by decide) ?_
      refine lv_isub hx hb dX6_step_37 ?_
      obtain ⟨k_6, ek_6, h⟩ := bnd h
      replace ek_6 := ix_s ek_6 (by decide)
      refine r_iastN C0 X hP hS (22 * t + 14) (k := k_6) (kdA14 t ht) ek_6.1 ek_6.2 dX6_step_38 (fun H locs hP hS => ?_)
      refine lv_aload_n hx hb dX6_step_39 rfl (lv_at hl 0 rfl) ?_
      refine gf_X6_24 C0 X hP (22 * t) (q := (22 * t + 14)) (kdT t ht) (by omega) (lkT7 t ht) dX6_step_40 ?_
      refine lv_iload_n hx hb dX6_step_43 rfl (lv_at hl 2 rfl) ?_
      refine lv_dup2_11 hx hb dX6_step_44 rfl rfl ?_
      obtain ⟨k_7, ek_7, h⟩ := bnd h
      replace ek_7 := ix_s ek_7 (by decide)
      refine r_ialdN C0 X hP (22 * t + 14) (k := k_7) (kdA14 t ht) ek_7.1 ek_7.2 dX6_step_45 ?_
      refine lv_iconst (v := 1) hx hb dX6_step_46 (by decide) ?_
      refine lv_iadd hx hb dX6_step_47 ?_
      obtain ⟨k_8, ek_8, h⟩ := bnd h
      replace ek_8 := ix_s ek_8 (by decide)
      refine r_iastN C0 X hP hS (22 * t + 14) (k := k_8) (kdA14 t ht) ek_8.1 ek_8.2 dX6_step_48 (fun H locs hP hS => ?_)
      refine lv_aload_n hx hb dX6_step_49 rfl (lv_at hl 1 rfl) ?_
      refine lv_iload_n hx hb dX6_step_50 rfl (lv_at hl 2 rfl) ?_
      refine pf_X6_83 C0 X hP hS i1 hi1 dX6_step_51 (fun H locs hP hS => ?_)
      refine lv_aload_n hx hb dX6_step_54 rfl (lv_at hl 0 rfl) ?_
      refine lv_iconst (v := 1) hx hb dX6_step_55 (by decide) ?_
      refine pf_X6_107 C0 X hP hS (22 * t) (Or.inr rfl) (kdT t ht) dX6_step_56 (fun H locs hP hS => ?_)
      exact r_vret C0 X hP hS hr hlk dX6_step_59 (Option.some.inj h)
    · replace h := it_t h c_4
      exact r_vret C0 X hP hS hr hlk dX6_step_25 (Option.some.inj h)
def bB_cX6_letOneBehindBack : Nat := 0xb1bcffa7010384b19f00b604190900a70600997700b404191400994a00b404191c00a706009f4300b42b4300b404192b00a01c5300b40419043a321d1400b42a4200a22e00b42a1d3e03
theorem yB_cX6_letOneBehindBack : BYS cX6_letOneBehindBack 74 bB_cX6_letOneBehindBack := BYS_of (by decide +kernel)
theorem dX6_letOneBehindBack_0 : decode cX6_letOneBehindBack 0 = .ok (.iconst 0, 1) := D_3 yB_cX6_letOneBehindBack rfl rfl
theorem dX6_letOneBehindBack_1 : decode cX6_letOneBehindBack 1 = .ok (.istore_n 3, 1) := D_62 yB_cX6_letOneBehindBack rfl rfl
theorem dX6_letOneBehindBack_2 : decode cX6_letOneBehindBack 2 = .ok (.iload_n 3, 1) := D_29 yB_cX6_letOneBehindBack rfl rfl
theorem dX6_letOneBehindBack_3 : decode cX6_letOneBehindBack 3 = .ok (.aload_n 0, 1) := D_42 yB_cX6_letOneBehindBack rfl rfl
theorem dX6_letOneBehindBack_4 : decode cX6_letOneBehindBack 4 = .ok (.getfield 46, 3) := D_180 yB_cX6_letOneBehindBack rfl rfl rfl
theorem dX6_letOneBehindBack_7 : decode cX6_letOneBehindBack 7 = .ok (.if_icmp .ge 66, 3) := D_162 yB_cX6_letOneBehindBack rfl rfl (sg_p (m := 32768) (N := 66) rfl rfl rfl)
theorem dX6_letOneBehindBack_10 : decode cX6_letOneBehindBack 10 = .ok (.aload_n 0, 1) := D_42 yB_cX6_letOneBehindBack rfl rfl
theorem dX6_letOneBehindBack_11 : decode cX6_letOneBehindBack 11 = .ok (.getfield 20, 3) := D_180 yB_cX6_letOneBehindBack rfl rfl rfl
theorem dX6_letOneBehindBack_14 : decode cX6_letOneBehindBack 14 = .ok (.iload_n 3, 1) := D_29 yB_cX6_letOneBehindBack rfl rfl
theorem dX6_letOneBehindBack_15 : decode cX6_letOneBehindBack 15 = .ok (.aaload, 1) := D_50 yB_cX6_letOneBehindBack rfl rfl
theorem dX6_letOneBehindBack_16 : decode cX6_letOneBehindBack 16 = .ok (.astore 4, 2) := D_58 yB_cX6_letOneBehindBack rfl rfl rfl
theorem dX6_letOneBehindBack_18 : decode cX6_letOneBehindBack 18 = .ok (.aload 4, 2) := D_25 yB_cX6_letOneBehindBack rfl rfl rfl
theorem dX6_letOneBehindBack_20 : decode cX6_letOneBehindBack 20 = .ok (.getfield 83, 3) := D_180 yB_cX6_letOneBehindBack rfl rfl rfl
theorem dX6_letOneBehindBack_23 : decode cX6_letOneBehindBack 23 = .ok (.iload_n 2, 1) := D_28 yB_cX6_letOneBehindBack rfl rfl
theorem dX6_letOneBehindBack_24 : decode cX6_letOneBehindBack 24 = .ok (.if_icmp .ne 43, 3) := D_160 yB_cX6_letOneBehindBack rfl rfl (sg_p (m := 32768) (N := 43) rfl rfl rfl)
theorem dX6_letOneBehindBack_27 : decode cX6_letOneBehindBack 27 = .ok (.aload 4, 2) := D_25 yB_cX6_letOneBehindBack rfl rfl rfl
theorem dX6_letOneBehindBack_29 : decode cX6_letOneBehindBack 29 = .ok (.getfield 67, 3) := D_180 yB_cX6_letOneBehindBack rfl rfl rfl
theorem dX6_letOneBehindBack_32 : decode cX6_letOneBehindBack 32 = .ok (.aload_n 1, 1) := D_43 yB_cX6_letOneBehindBack rfl rfl
theorem dX6_letOneBehindBack_33 : decode cX6_letOneBehindBack 33 = .ok (.getfield 67, 3) := D_180 yB_cX6_letOneBehindBack rfl rfl rfl
theorem dX6_letOneBehindBack_36 : decode cX6_letOneBehindBack 36 = .ok (.if_icmp .eq 6, 3) := D_159 yB_cX6_letOneBehindBack rfl rfl (sg_p (m := 32768) (N := 6) rfl rfl rfl)
theorem dX6_letOneBehindBack_39 : decode cX6_letOneBehindBack 39 = .ok (.goto 28, 3) := D_167 yB_cX6_letOneBehindBack rfl rfl (sg_p (m := 32768) (N := 28) rfl rfl rfl)
theorem dX6_letOneBehindBack_42 : decode cX6_letOneBehindBack 42 = .ok (.aload 4, 2) := D_25 yB_cX6_letOneBehindBack rfl rfl rfl
theorem dX6_letOneBehindBack_44 : decode cX6_letOneBehindBack 44 = .ok (.getfield 74, 3) := D_180 yB_cX6_letOneBehindBack rfl rfl rfl
theorem dX6_letOneBehindBack_47 : decode cX6_letOneBehindBack 47 = .ok (.ifCond .eq 20, 3) := D_153 yB_cX6_letOneBehindBack rfl rfl (sg_p (m := 32768) (N := 20) rfl rfl rfl)
theorem dX6_letOneBehindBack_50 : decode cX6_letOneBehindBack 50 = .ok (.aload 4, 2) := D_25 yB_cX6_letOneBehindBack rfl rfl rfl
theorem dX6_letOneBehindBack_52 : decode cX6_letOneBehindBack 52 = .ok (.getfield 119, 3) := D_180 yB_cX6_letOneBehindBack rfl rfl rfl
theorem dX6_letOneBehindBack_55 : decode cX6_letOneBehindBack 55 = .ok (.ifCond .eq 6, 3) := D_153 yB_cX6_letOneBehindBack rfl rfl (sg_p (m := 32768) (N := 6) rfl rfl rfl)
theorem dX6_letOneBehindBack_58 : decode cX6_letOneBehindBack 58 = .ok (.goto 9, 3) := D_167 yB_cX6_letOneBehindBack rfl rfl (sg_p (m := 32768) (N := 9) rfl rfl rfl)
theorem dX6_letOneBehindBack_61 : decode cX6_letOneBehindBack 61 = .ok (.aload 4, 2) := D_25 yB_cX6_letOneBehindBack rfl rfl rfl
theorem dX6_letOneBehindBack_63 : decode cX6_letOneBehindBack 63 = .ok (.invokevirtual 159, 3) := D_182 yB_cX6_letOneBehindBack rfl rfl rfl
theorem dX6_letOneBehindBack_66 : decode cX6_letOneBehindBack 66 = .ok (.return_, 1) := D_177 yB_cX6_letOneBehindBack rfl rfl
theorem dX6_letOneBehindBack_67 : decode cX6_letOneBehindBack 67 = .ok (.iinc 3 1, 3) := D_132 yB_cX6_letOneBehindBack rfl rfl rfl (sg_p (m := 128) (N := 1) rfl rfl rfl)
theorem dX6_letOneBehindBack_70 : decode cX6_letOneBehindBack 70 = .ok (.goto (-68), 3) := D_167 yB_cX6_letOneBehindBack rfl rfl (sg_n (m := 32768) (N := 68) rfl rfl rfl)
theorem dX6_letOneBehindBack_73 : decode cX6_letOneBehindBack 73 = .ok (.return_, 1) := D_177 yB_cX6_letOneBehindBack rfl rfl
def F_X6_letOneBehindBack_2 (t : Nat) (i1 : Nat) (x2 : Int32)  : Nat → Mem → Int32 → Option (Mem)
  | 0, _, _ => none
  | nn + 1, σ, v3 => if (σ (22 * t) 2) ≤ v3 then (some σ) else ((ix 7 v3).bind fun k_3 => if (σ (22 * t + 15 + k_3) 6) = x2 then (if (σ (22 * t + 15 + k_3) 0) = (σ i1 0) then (if (σ (22 * t + 15 + k_3) 3) = 0 then (F_X6_letOneBehindBack_2 t i1 x2 nn σ (v3 + 1)) else (if (σ (22 * t + 15 + k_3) 7) = 0 then ((F_X0_beginBacking σ (22 * t + 15 + k_3)).bind fun σ_8 => some σ_8) else (F_X6_letOneBehindBack_2 t i1 x2 nn σ (v3 + 1)))) else (F_X6_letOneBehindBack_2 t i1 x2 nn σ (v3 + 1))) else (F_X6_letOneBehindBack_2 t i1 x2 nn σ (v3 + 1)))
def F_X6_letOneBehindBack (σ : Mem) (t : Nat) (i1 : Nat) (x2 : Int32) : Option (Mem) := F_X6_letOneBehindBack_2 t i1 x2 FU σ 0
set_option maxHeartbeats 4000000 in
set_option maxRecDepth 100000 in
theorem c_X6_letOneBehindBack (l : Launch) (D : va_G) (cA : Nat → ClassId) (ad : Nat → Nat) (o : Int64) (σ : Mem) (t : Nat) (i1 : Nat) (x2 : Int32) (ht : t < 3) (hi1 : i1 < 106 ∧ kd i1 = (0, 12)) (res : Mem) (h : F_X6_letOneBehindBack σ t i1 x2 = some res) (sz : Nat) : Met l yX6_letOneBehindBack (WY yX6_letOneBehindBack cX6_letOneBehindBack 5 none) (RM 1) (va_Pc [.ref (ad (22 * t)), .ref (ad i1), .int x2] (PW D cA ad o σ sz)) (va_Qv (fun σ9 => σ9 = res) (QW D cA ad o) (FA ad sz)) 0 0 (FA ad sz) := by
  refine ct_of (own := RX6) (k := 1) (Qf := va_Qv (fun σ9 => σ9 = res) (QW D cA ad o)) rfl (by decide) (Nat.le_of_ble_eq_true rfl) (fun p e s m below meth c ls C0 X hr hlk hP hl => ?_) sz
  have hS : va_S (FA ad s.heap.size) s.heap s.heap [] := va_S.rf
  have hl : lv_has ls 5 [(0, .ref (ad (22 * t))), (1, .ref (ad i1)), (2, .int x2)] := hl
  obtain ⟨hx, hb, hml, hown, hts⟩ := id C0
  unfold F_X6_letOneBehindBack at h
  refine lv_iconst (v := 0) hx hb dX6_letOneBehindBack_0 (by decide) ?_
  refine lv_istore_n (lv' := [(3, .int 0), (0, .ref (ad (22 * t))), (1, .ref (ad i1)), (2, .int x2)]) hx hb dX6_letOneBehindBack_1 rfl hl (by decide) rfl (fun ls hl => ?_)
  have lp_1 : ∀ (nn2 : Nat) (σ : Mem) (v3 : Int32) (H : Heap) (locs : List Loc) (ls : Array Slot), F_X6_letOneBehindBack_2 t i1 x2 nn2 σ v3 = some res → WP D cA ad o σ H → va_S (FA ad s.heap.size) s.heap H locs → lv_has ls 5 [(3, .int v3), (0, .ref (ad (22 * t))), (1, .ref (ad i1)), (2, .int x2)] → W p l e (RM 1) s m ([.ref (ad (22 * t)), .ref (ad i1), .int x2] : List Value).toArray below meth c H locs 0 0 (MQ below (va_Qv (fun σ9 => σ9 = res) (QW D cA ad o) (FA ad s.heap.size)) ([.ref (ad (22 * t)), .ref (ad i1), .int x2] : List Value).toArray s 0 0 (FA ad s.heap.size)) (F0 m 2 ls []) := by
    intro nn2
    induction nn2 with
    | zero => intro σ v3 H locs ls h hP hS hl; exact absurd (show none = some res from h) nofun
    | succ nn2 ih2 =>
      intro σ v3 H locs ls h hP hS hl
      replace h := (F_X6_letOneBehindBack_2.eq_2 _ _ _ _ _ _).symm.trans h
      refine lv_iload_n hx hb dX6_letOneBehindBack_2 rfl (lv_at hl 0 rfl) ?_
      refine lv_aload_n hx hb dX6_letOneBehindBack_3 rfl (lv_at hl 1 rfl) ?_
      refine gf_X6_46 C0 X hP (22 * t) (kdT t ht) dX6_letOneBehindBack_4 ?_
      refine lv_icmp_ge (tgt := 73) hx hb dX6_letOneBehindBack_7 (by decide) (fun c_2 => ?_) (fun c_2 => ?_)
      · replace h := it_t h c_2
        exact r_vret C0 X hP hS hr hlk dX6_letOneBehindBack_73 (Option.some.inj h)
      · replace h := it_f h c_2
        refine lv_aload_n hx hb dX6_letOneBehindBack_10 rfl (lv_at hl 1 rfl) ?_
        refine gf_X6_20 C0 X hP (22 * t) (q := (22 * t + 13)) (kdT t ht) (by omega) (lkT1 t ht) dX6_letOneBehindBack_11 ?_
        refine lv_iload_n hx hb dX6_letOneBehindBack_14 rfl (lv_at hl 0 rfl) ?_
        obtain ⟨k_3, ek_3, h⟩ := bnd h
        replace ek_3 := ix_s ek_3 (by decide)
        refine r_aaldCN C0 X hP (22 * t + 13) (k := k_3) (q := (22 * t + 15 + k_3)) (kdCA t ht) ek_3.1 ek_3.2 (lkCA t ht k_3 ek_3.2) dX6_letOneBehindBack_15 ?_
        refine lv_astore (lv' := [(4, .ref (ad (22 * t + 15 + k_3))), (3, .int v3), (0, .ref (ad (22 * t))), (1, .ref (ad i1)), (2, .int x2)]) hx hb dX6_letOneBehindBack_16 hl (by decide) rfl (fun ls hl => ?_)
        refine lv_aload hx hb dX6_letOneBehindBack_18 (lv_at hl 0 rfl) ?_
        refine gf_X6_83 C0 X hP (22 * t + 15 + k_3) (kdC t ht k_3 ek_3.2) dX6_letOneBehindBack_20 ?_
        refine lv_iload_n hx hb dX6_letOneBehindBack_23 rfl (lv_at hl 4 rfl) ?_
        refine lv_icmp_ne (tgt := 67) hx hb dX6_letOneBehindBack_24 (by decide) (fun c_4 => ?_) (fun c_4 => ?_)
        · replace h := it_f h c_4
          refine lv_iinc (v := (v3 + 1)) (lv' := [(3, .int (v3 + 1)), (4, .ref (ad (22 * t + 15 + k_3))), (0, .ref (ad (22 * t))), (1, .ref (ad i1)), (2, .int x2)]) hx hb dX6_letOneBehindBack_67 hl (k := 1) rfl rfl (by decide) rfl (fun ls hl => ?_)
          refine lv_goto (tgt := 2) hx hb dX6_letOneBehindBack_70 (by decide) ?_
          exact ih2 σ (v3 + 1) _ _ ls  h hP hS (lv_sub hl [0, 2, 3, 4] rfl)
        · replace h := it_t h c_4
          refine lv_aload hx hb dX6_letOneBehindBack_27 (lv_at hl 0 rfl) ?_
          refine gf_X6_67 C0 X hP (22 * t + 15 + k_3) (kdC t ht k_3 ek_3.2) dX6_letOneBehindBack_29 ?_
          refine lv_aload_n hx hb dX6_letOneBehindBack_32 rfl (lv_at hl 3 rfl) ?_
          refine gf_X6_67 C0 X hP i1 hi1 dX6_letOneBehindBack_33 ?_
          refine lv_icmp_eq (tgt := 42) hx hb dX6_letOneBehindBack_36 (by decide) (fun c_5 => ?_) (fun c_5 => ?_)
          · replace h := it_t h c_5
            refine lv_aload hx hb dX6_letOneBehindBack_42 (lv_at hl 0 rfl) ?_
            refine gf_X6_74 C0 X hP (22 * t + 15 + k_3) (kdC t ht k_3 ek_3.2) dX6_letOneBehindBack_44 ?_
            refine lv_if_eq (tgt := 67) hx hb dX6_letOneBehindBack_47 (by decide) (fun c_6 => ?_) (fun c_6 => ?_)
            · replace h := it_t h c_6
              refine lv_iinc (v := (v3 + 1)) (lv' := [(3, .int (v3 + 1)), (4, .ref (ad (22 * t + 15 + k_3))), (0, .ref (ad (22 * t))), (1, .ref (ad i1)), (2, .int x2)]) hx hb dX6_letOneBehindBack_67 hl (k := 1) rfl rfl (by decide) rfl (fun ls hl => ?_)
              refine lv_goto (tgt := 2) hx hb dX6_letOneBehindBack_70 (by decide) ?_
              exact ih2 σ (v3 + 1) _ _ ls  h hP hS (lv_sub hl [0, 2, 3, 4] rfl)
            · replace h := it_f h c_6
              refine lv_aload hx hb dX6_letOneBehindBack_50 (lv_at hl 0 rfl) ?_
              refine gf_X6_119 C0 X hP (22 * t + 15 + k_3) (kdC t ht k_3 ek_3.2) dX6_letOneBehindBack_52 ?_
              refine lv_if_eq (tgt := 61) hx hb dX6_letOneBehindBack_55 (by decide) (fun c_7 => ?_) (fun c_7 => ?_)
              · replace h := it_t h c_7
                refine lv_aload hx hb dX6_letOneBehindBack_61 (lv_at hl 0 rfl) ?_
                obtain ⟨σ_8, eσ_8, h⟩ := bnd h
                refine r_cv X hS (r_runV (As := []) (rest := []) C0 X hP L_X6_159 (fun sz => c_X0_beginBacking l D cA ad o σ (22 * t + 15 + k_3) (kdC t ht k_3 ek_3.2) σ_8 eσ_8 sz) (kdC t ht k_3 ek_3.2).1 (kdC t ht k_3 ek_3.2).2 (by decide) rfl ⟨Nat.le_of_ble_eq_true rfl, Nat.le_of_ble_eq_true rfl⟩ rfl hl.1 rfl (Nat.le_of_ble_eq_true rfl) dX6_letOneBehindBack_63 ⟨Nat.zero_le _, Nat.zero_le _⟩) (fun σ9 H locs hw hP hS => ?_)
                rw [show σ9 = σ_8 from hw] at hP
                exact r_vret C0 X hP hS hr hlk dX6_letOneBehindBack_66 (Option.some.inj h)
              · replace h := it_f h c_7
                refine lv_goto (tgt := 67) hx hb dX6_letOneBehindBack_58 (by decide) ?_
                refine lv_iinc (v := (v3 + 1)) (lv' := [(3, .int (v3 + 1)), (4, .ref (ad (22 * t + 15 + k_3))), (0, .ref (ad (22 * t))), (1, .ref (ad i1)), (2, .int x2)]) hx hb dX6_letOneBehindBack_67 hl (k := 1) rfl rfl (by decide) rfl (fun ls hl => ?_)
                refine lv_goto (tgt := 2) hx hb dX6_letOneBehindBack_70 (by decide) ?_
                exact ih2 σ (v3 + 1) _ _ ls  h hP hS (lv_sub hl [0, 2, 3, 4] rfl)
          · replace h := it_f h c_5
            refine lv_goto (tgt := 67) hx hb dX6_letOneBehindBack_39 (by decide) ?_
            refine lv_iinc (v := (v3 + 1)) (lv' := [(3, .int (v3 + 1)), (4, .ref (ad (22 * t + 15 + k_3))), (0, .ref (ad (22 * t))), (1, .ref (ad i1)), (2, .int x2)]) hx hb dX6_letOneBehindBack_67 hl (k := 1) rfl rfl (by decide) rfl (fun ls hl => ?_)
            refine lv_goto (tgt := 2) hx hb dX6_letOneBehindBack_70 (by decide) ?_
            exact ih2 σ (v3 + 1) _ _ ls  h hP hS (lv_sub hl [0, 2, 3, 4] rfl)
  exact lp_1 FU σ 0 _ _ ls  h hP hS (lv_sub hl [0, 1, 2, 3] rfl)
def bB_cX6_backUp : Nat := 0xb15900b560045900b4592b9c00b61c2b2ab18c00b5042b5600b560045600b4592b7400b564044a00b42b2b9800b61c2b2a2300999500b61c2a3d9200b62bb17700b5032b09009b8f00b65300b42b0c00b42a1700998c00b42b18009f8100b62b2a5300b42b
theorem yB_cX6_backUp : BYS cX6_backUp 101 bB_cX6_backUp := BYS_of (by decide +kernel)
theorem dX6_backUp_0 : decode cX6_backUp 0 = .ok (.aload_n 1, 1) := D_43 yB_cX6_backUp rfl rfl
theorem dX6_backUp_1 : decode cX6_backUp 1 = .ok (.getfield 83, 3) := D_180 yB_cX6_backUp rfl rfl rfl
theorem dX6_backUp_4 : decode cX6_backUp 4 = .ok (.aload_n 0, 1) := D_42 yB_cX6_backUp rfl rfl
theorem dX6_backUp_5 : decode cX6_backUp 5 = .ok (.aload_n 1, 1) := D_43 yB_cX6_backUp rfl rfl
theorem dX6_backUp_6 : decode cX6_backUp 6 = .ok (.invokevirtual 129, 3) := D_182 yB_cX6_backUp rfl rfl rfl
theorem dX6_backUp_9 : decode cX6_backUp 9 = .ok (.if_icmp .eq 24, 3) := D_159 yB_cX6_backUp rfl rfl (sg_p (m := 32768) (N := 24) rfl rfl rfl)
theorem dX6_backUp_12 : decode cX6_backUp 12 = .ok (.aload_n 1, 1) := D_43 yB_cX6_backUp rfl rfl
theorem dX6_backUp_13 : decode cX6_backUp 13 = .ok (.getfield 140, 3) := D_180 yB_cX6_backUp rfl rfl rfl
theorem dX6_backUp_16 : decode cX6_backUp 16 = .ok (.ifCond .eq 23, 3) := D_153 yB_cX6_backUp rfl rfl (sg_p (m := 32768) (N := 23) rfl rfl rfl)
theorem dX6_backUp_19 : decode cX6_backUp 19 = .ok (.aload_n 0, 1) := D_42 yB_cX6_backUp rfl rfl
theorem dX6_backUp_20 : decode cX6_backUp 20 = .ok (.getfield 12, 3) := D_180 yB_cX6_backUp rfl rfl rfl
theorem dX6_backUp_23 : decode cX6_backUp 23 = .ok (.aload_n 1, 1) := D_43 yB_cX6_backUp rfl rfl
theorem dX6_backUp_24 : decode cX6_backUp 24 = .ok (.getfield 83, 3) := D_180 yB_cX6_backUp rfl rfl rfl
theorem dX6_backUp_27 : decode cX6_backUp 27 = .ok (.invokevirtual 143, 3) := D_182 yB_cX6_backUp rfl rfl rfl
theorem dX6_backUp_30 : decode cX6_backUp 30 = .ok (.ifCond .lt 9, 3) := D_155 yB_cX6_backUp rfl rfl (sg_p (m := 32768) (N := 9) rfl rfl rfl)
theorem dX6_backUp_33 : decode cX6_backUp 33 = .ok (.aload_n 1, 1) := D_43 yB_cX6_backUp rfl rfl
theorem dX6_backUp_34 : decode cX6_backUp 34 = .ok (.iconst 0, 1) := D_3 yB_cX6_backUp rfl rfl
theorem dX6_backUp_35 : decode cX6_backUp 35 = .ok (.putfield 119, 3) := D_181 yB_cX6_backUp rfl rfl rfl
theorem dX6_backUp_38 : decode cX6_backUp 38 = .ok (.return_, 1) := D_177 yB_cX6_backUp rfl rfl
theorem dX6_backUp_39 : decode cX6_backUp 39 = .ok (.aload_n 1, 1) := D_43 yB_cX6_backUp rfl rfl
theorem dX6_backUp_40 : decode cX6_backUp 40 = .ok (.invokevirtual 146, 3) := D_182 yB_cX6_backUp rfl rfl rfl
theorem dX6_backUp_43 : decode cX6_backUp 43 = .ok (.istore_n 2, 1) := D_61 yB_cX6_backUp rfl rfl
theorem dX6_backUp_44 : decode cX6_backUp 44 = .ok (.aload_n 0, 1) := D_42 yB_cX6_backUp rfl rfl
theorem dX6_backUp_45 : decode cX6_backUp 45 = .ok (.iload_n 2, 1) := D_28 yB_cX6_backUp rfl rfl
theorem dX6_backUp_46 : decode cX6_backUp 46 = .ok (.invokevirtual 149, 3) := D_182 yB_cX6_backUp rfl rfl rfl
theorem dX6_backUp_49 : decode cX6_backUp 49 = .ok (.ifCond .eq 35, 3) := D_153 yB_cX6_backUp rfl rfl (sg_p (m := 32768) (N := 35) rfl rfl rfl)
theorem dX6_backUp_52 : decode cX6_backUp 52 = .ok (.aload_n 0, 1) := D_42 yB_cX6_backUp rfl rfl
theorem dX6_backUp_53 : decode cX6_backUp 53 = .ok (.aload_n 1, 1) := D_43 yB_cX6_backUp rfl rfl
theorem dX6_backUp_54 : decode cX6_backUp 54 = .ok (.iload_n 2, 1) := D_28 yB_cX6_backUp rfl rfl
theorem dX6_backUp_55 : decode cX6_backUp 55 = .ok (.invokevirtual 152, 3) := D_182 yB_cX6_backUp rfl rfl rfl
theorem dX6_backUp_58 : decode cX6_backUp 58 = .ok (.aload_n 1, 1) := D_43 yB_cX6_backUp rfl rfl
theorem dX6_backUp_59 : decode cX6_backUp 59 = .ok (.aload_n 1, 1) := D_43 yB_cX6_backUp rfl rfl
theorem dX6_backUp_60 : decode cX6_backUp 60 = .ok (.getfield 74, 3) := D_180 yB_cX6_backUp rfl rfl rfl
theorem dX6_backUp_63 : decode cX6_backUp 63 = .ok (.iconst 1, 1) := D_4 yB_cX6_backUp rfl rfl
theorem dX6_backUp_64 : decode cX6_backUp 64 = .ok (.isub, 1) := D_100 yB_cX6_backUp rfl rfl
theorem dX6_backUp_65 : decode cX6_backUp 65 = .ok (.putfield 116, 3) := D_181 yB_cX6_backUp rfl rfl rfl
theorem dX6_backUp_68 : decode cX6_backUp 68 = .ok (.aload_n 1, 1) := D_43 yB_cX6_backUp rfl rfl
theorem dX6_backUp_69 : decode cX6_backUp 69 = .ok (.dup, 1) := D_89 yB_cX6_backUp rfl rfl
theorem dX6_backUp_70 : decode cX6_backUp 70 = .ok (.getfield 86, 3) := D_180 yB_cX6_backUp rfl rfl rfl
theorem dX6_backUp_73 : decode cX6_backUp 73 = .ok (.iconst 1, 1) := D_4 yB_cX6_backUp rfl rfl
theorem dX6_backUp_74 : decode cX6_backUp 74 = .ok (.iadd, 1) := D_96 yB_cX6_backUp rfl rfl
theorem dX6_backUp_75 : decode cX6_backUp 75 = .ok (.putfield 86, 3) := D_181 yB_cX6_backUp rfl rfl rfl
theorem dX6_backUp_78 : decode cX6_backUp 78 = .ok (.aload_n 1, 1) := D_43 yB_cX6_backUp rfl rfl
theorem dX6_backUp_79 : decode cX6_backUp 79 = .ok (.iconst 1, 1) := D_4 yB_cX6_backUp rfl rfl
theorem dX6_backUp_80 : decode cX6_backUp 80 = .ok (.putfield 140, 3) := D_181 yB_cX6_backUp rfl rfl rfl
theorem dX6_backUp_83 : decode cX6_backUp 83 = .ok (.return_, 1) := D_177 yB_cX6_backUp rfl rfl
theorem dX6_backUp_84 : decode cX6_backUp 84 = .ok (.aload_n 0, 1) := D_42 yB_cX6_backUp rfl rfl
theorem dX6_backUp_85 : decode cX6_backUp 85 = .ok (.aload_n 1, 1) := D_43 yB_cX6_backUp rfl rfl
theorem dX6_backUp_86 : decode cX6_backUp 86 = .ok (.iload_n 2, 1) := D_28 yB_cX6_backUp rfl rfl
theorem dX6_backUp_87 : decode cX6_backUp 87 = .ok (.invokevirtual 156, 3) := D_182 yB_cX6_backUp rfl rfl rfl
theorem dX6_backUp_90 : decode cX6_backUp 90 = .ok (.aload_n 1, 1) := D_43 yB_cX6_backUp rfl rfl
theorem dX6_backUp_91 : decode cX6_backUp 91 = .ok (.dup, 1) := D_89 yB_cX6_backUp rfl rfl
theorem dX6_backUp_92 : decode cX6_backUp 92 = .ok (.getfield 89, 3) := D_180 yB_cX6_backUp rfl rfl rfl
theorem dX6_backUp_95 : decode cX6_backUp 95 = .ok (.iconst 1, 1) := D_4 yB_cX6_backUp rfl rfl
theorem dX6_backUp_96 : decode cX6_backUp 96 = .ok (.iadd, 1) := D_96 yB_cX6_backUp rfl rfl
theorem dX6_backUp_97 : decode cX6_backUp 97 = .ok (.putfield 89, 3) := D_181 yB_cX6_backUp rfl rfl rfl
theorem dX6_backUp_100 : decode cX6_backUp 100 = .ok (.return_, 1) := D_177 yB_cX6_backUp rfl rfl
def F_X6_backUp (σ : Mem) (t : Nat) (i1 : Nat) : Option (Mem) := (F_X6_ownEnd σ t i1).bind fun r_1 => if (σ i1 6) = r_1 then (some (stm σ i1 7 0)) else (if (σ i1 8) = 0 then ((F_X0_spotBehind σ i1).bind fun r_4 => (F_X6_hasRoom σ t r_4).bind fun r_5 => if r_5 = 0 then ((F_X6_letOneBehindBack σ t i1 r_4).bind fun σ_7 => some (stm σ_7 i1 11 ((σ_7 i1 11) + 1))) else ((F_X6_step σ t i1 r_4).bind fun σ_8 => some (stm (stm (stm σ_8 i1 9 ((σ_8 i1 3) - 1)) i1 10 (((stm σ_8 i1 9 ((σ_8 i1 3) - 1)) i1 10) + 1)) i1 8 1))) else ((F_X4_placeOf σ t (σ i1 6)).bind fun r_9 => if r_9 < 0 then ((F_X0_spotBehind σ i1).bind fun r_11 => (F_X6_hasRoom σ t r_11).bind fun r_12 => if r_12 = 0 then ((F_X6_letOneBehindBack σ t i1 r_11).bind fun σ_14 => some (stm σ_14 i1 11 ((σ_14 i1 11) + 1))) else ((F_X6_step σ t i1 r_11).bind fun σ_15 => some (stm (stm (stm σ_15 i1 9 ((σ_15 i1 3) - 1)) i1 10 (((stm σ_15 i1 9 ((σ_15 i1 3) - 1)) i1 10) + 1)) i1 8 1))) else (some (stm σ i1 7 0))))
set_option maxHeartbeats 4000000 in
set_option maxRecDepth 100000 in
theorem c_X6_backUp (l : Launch) (D : va_G) (cA : Nat → ClassId) (ad : Nat → Nat) (o : Int64) (σ : Mem) (t : Nat) (i1 : Nat) (ht : t < 3) (hi1 : i1 < 106 ∧ kd i1 = (0, 12)) (res : Mem) (h : F_X6_backUp σ t i1 = some res) (sz : Nat) : Met l yX6_backUp (WY yX6_backUp cX6_backUp 3 none) (RM 2) (va_Pc [.ref (ad (22 * t)), .ref (ad i1)] (PW D cA ad o σ sz)) (va_Qv (fun σ9 => σ9 = res) (QW D cA ad o) (FA ad sz)) 0 0 (FA ad sz) := by
  refine ct_of (own := RX6) (k := 2) (Qf := va_Qv (fun σ9 => σ9 = res) (QW D cA ad o)) rfl (by decide) (Nat.le_of_ble_eq_true rfl) (fun p e s m below meth c ls C0 X hr hlk hP hl => ?_) sz
  have hS : va_S (FA ad s.heap.size) s.heap s.heap [] := va_S.rf
  have hl : lv_has ls 3 [(0, .ref (ad (22 * t))), (1, .ref (ad i1))] := hl
  obtain ⟨hx, hb, hml, hown, hts⟩ := id C0
  unfold F_X6_backUp at h
  refine lv_aload_n hx hb dX6_backUp_0 rfl (lv_at hl 1 rfl) ?_
  refine gf_X6_83 C0 X hP i1 hi1 dX6_backUp_1 ?_
  refine lv_aload_n hx hb dX6_backUp_4 rfl (lv_at hl 0 rfl) ?_
  refine lv_aload_n hx hb dX6_backUp_5 rfl (lv_at hl 1 rfl) ?_
  obtain ⟨r_1, er_1, h⟩ := bnd h
  refine r_ci X hS (r_runV (As := [.ref (ad i1)]) (rest := [.int (σ i1 6)]) C0 X hP L_X6_129 (fun sz => c_X6_ownEnd l D cA ad o σ t i1 ht hi1 r_1 er_1 sz) (kdT t ht).1 (kdT t ht).2 (by decide) rfl ⟨Nat.le_of_ble_eq_true rfl, Nat.le_of_ble_eq_true rfl⟩ rfl hl.1 rfl (Nat.le_of_ble_eq_true rfl) dX6_backUp_6 ⟨Nat.zero_le _, Nat.zero_le _⟩) (fun r9 σ9 H locs hw hP hS => ?_)
  rw [hw.2] at hP
  rw [hw.1]
  refine lv_icmp_eq (tgt := 33) hx hb dX6_backUp_9 (by decide) (fun c_2 => ?_) (fun c_2 => ?_)
  · replace h := it_t h c_2
    refine lv_aload_n hx hb dX6_backUp_33 rfl (lv_at hl 1 rfl) ?_
    refine lv_iconst (v := 0) hx hb dX6_backUp_34 (by decide) ?_
    refine pf_X6_119 C0 X hP hS i1 (Or.inl rfl) hi1 dX6_backUp_35 (fun H locs hP hS => ?_)
    exact r_vret C0 X hP hS hr hlk dX6_backUp_38 (Option.some.inj h)
  · replace h := it_f h c_2
    refine lv_aload_n hx hb dX6_backUp_12 rfl (lv_at hl 1 rfl) ?_
    refine gf_X6_140 C0 X hP i1 hi1 dX6_backUp_13 ?_
    refine lv_if_eq (tgt := 39) hx hb dX6_backUp_16 (by decide) (fun c_3 => ?_) (fun c_3 => ?_)
    · replace h := it_t h c_3
      refine lv_aload_n hx hb dX6_backUp_39 rfl (lv_at hl 1 rfl) ?_
      obtain ⟨r_4, er_4, h⟩ := bnd h
      refine r_ci X hS (r_runV (As := []) (rest := []) C0 X hP L_X6_146 (fun sz => c_X0_spotBehind l D cA ad o σ i1 hi1 r_4 er_4 sz) hi1.1 hi1.2 (by decide) rfl ⟨Nat.le_of_ble_eq_true rfl, Nat.le_of_ble_eq_true rfl⟩ rfl hl.1 rfl (Nat.le_of_ble_eq_true rfl) dX6_backUp_40 ⟨Nat.zero_le _, Nat.zero_le _⟩) (fun r9 σ9 H locs hw hP hS => ?_)
      rw [hw.2] at hP
      rw [hw.1]
      refine lv_istore_n (lv' := [(2, .int r_4), (0, .ref (ad (22 * t))), (1, .ref (ad i1))]) hx hb dX6_backUp_43 rfl hl (by decide) rfl (fun ls hl => ?_)
      refine lv_aload_n hx hb dX6_backUp_44 rfl (lv_at hl 1 rfl) ?_
      refine lv_iload_n hx hb dX6_backUp_45 rfl (lv_at hl 0 rfl) ?_
      obtain ⟨r_5, er_5, h⟩ := bnd h
      refine r_ci X hS (r_runV (As := [.int r_4]) (rest := []) C0 X hP L_X6_149 (fun sz => c_X6_hasRoom l D cA ad o σ t r_4 ht r_5 er_5 sz) (kdT t ht).1 (kdT t ht).2 (by decide) rfl ⟨Nat.le_of_ble_eq_true rfl, Nat.le_of_ble_eq_true rfl⟩ rfl hl.1 rfl (Nat.le_of_ble_eq_true rfl) dX6_backUp_46 ⟨Nat.zero_le _, Nat.zero_le _⟩) (fun r9 σ9 H locs hw hP hS => ?_)
      rw [hw.2] at hP
      rw [hw.1]
      refine lv_if_eq (tgt := 84) hx hb dX6_backUp_49 (by decide) (fun c_6 => ?_) (fun c_6 => ?_)
      · replace h := it_t h c_6
        refine lv_aload_n hx hb dX6_backUp_84 rfl (lv_at hl 1 rfl) ?_
        refine lv_aload_n hx hb dX6_backUp_85 rfl (lv_at hl 2 rfl) ?_
        refine lv_iload_n hx hb dX6_backUp_86 rfl (lv_at hl 0 rfl) ?_
        obtain ⟨σ_7, eσ_7, h⟩ := bnd h
        refine r_cv X hS (r_runV (As := [.ref (ad i1), .int r_4]) (rest := []) C0 X hP L_X6_156 (fun sz => c_X6_letOneBehindBack l D cA ad o σ t i1 r_4 ht hi1 σ_7 eσ_7 sz) (kdT t ht).1 (kdT t ht).2 (by decide) rfl ⟨Nat.le_of_ble_eq_true rfl, Nat.le_of_ble_eq_true rfl⟩ rfl hl.1 rfl (Nat.le_of_ble_eq_true rfl) dX6_backUp_87 ⟨Nat.zero_le _, Nat.zero_le _⟩) (fun σ9 H locs hw hP hS => ?_)
        rw [show σ9 = σ_7 from hw] at hP
        refine lv_aload_n hx hb dX6_backUp_90 rfl (lv_at hl 2 rfl) ?_
        refine lv_dup hx hb dX6_backUp_91 rfl ?_
        refine gf_X6_89 C0 X hP i1 hi1 dX6_backUp_92 ?_
        refine lv_iconst (v := 1) hx hb dX6_backUp_95 (by decide) ?_
        refine lv_iadd hx hb dX6_backUp_96 ?_
        refine pf_X6_89 C0 X hP hS i1 hi1 dX6_backUp_97 (fun H locs hP hS => ?_)
        exact r_vret C0 X hP hS hr hlk dX6_backUp_100 (Option.some.inj h)
      · replace h := it_f h c_6
        refine lv_aload_n hx hb dX6_backUp_52 rfl (lv_at hl 1 rfl) ?_
        refine lv_aload_n hx hb dX6_backUp_53 rfl (lv_at hl 2 rfl) ?_
        refine lv_iload_n hx hb dX6_backUp_54 rfl (lv_at hl 0 rfl) ?_
        obtain ⟨σ_8, eσ_8, h⟩ := bnd h
        refine r_cv X hS (r_runV (As := [.ref (ad i1), .int r_4]) (rest := []) C0 X hP L_X6_152 (fun sz => c_X6_step l D cA ad o σ t i1 r_4 ht hi1 σ_8 eσ_8 sz) (kdT t ht).1 (kdT t ht).2 (by decide) rfl ⟨Nat.le_of_ble_eq_true rfl, Nat.le_of_ble_eq_true rfl⟩ rfl hl.1 rfl (Nat.le_of_ble_eq_true rfl) dX6_backUp_55 ⟨Nat.zero_le _, Nat.zero_le _⟩) (fun σ9 H locs hw hP hS => ?_)
        rw [show σ9 = σ_8 from hw] at hP
        refine lv_aload_n hx hb dX6_backUp_58 rfl (lv_at hl 2 rfl) ?_
        refine lv_aload_n hx hb dX6_backUp_59 rfl (lv_at hl 2 rfl) ?_
        refine gf_X6_74 C0 X hP i1 hi1 dX6_backUp_60 ?_
        refine lv_iconst (v := 1) hx hb dX6_backUp_63 (by decide) ?_
        refine lv_isub hx hb dX6_backUp_64 ?_
        refine pf_X6_116 C0 X hP hS i1 hi1 dX6_backUp_65 (fun H locs hP hS => ?_)
        refine lv_aload_n hx hb dX6_backUp_68 rfl (lv_at hl 2 rfl) ?_
        refine lv_dup hx hb dX6_backUp_69 rfl ?_
        refine gf_X6_86 C0 X hP i1 hi1 dX6_backUp_70 ?_
        refine lv_iconst (v := 1) hx hb dX6_backUp_73 (by decide) ?_
        refine lv_iadd hx hb dX6_backUp_74 ?_
        refine pf_X6_86 C0 X hP hS i1 hi1 dX6_backUp_75 (fun H locs hP hS => ?_)
        refine lv_aload_n hx hb dX6_backUp_78 rfl (lv_at hl 2 rfl) ?_
        refine lv_iconst (v := 1) hx hb dX6_backUp_79 (by decide) ?_
        refine pf_X6_140 C0 X hP hS i1 (Or.inr rfl) hi1 dX6_backUp_80 (fun H locs hP hS => ?_)
        exact r_vret C0 X hP hS hr hlk dX6_backUp_83 (Option.some.inj h)
    · replace h := it_f h c_3
      refine lv_aload_n hx hb dX6_backUp_19 rfl (lv_at hl 0 rfl) ?_
      refine gf_X6_12 C0 X hP (22 * t) (q := (22 * t + 1)) (kdT t ht) (by omega) (lkT0 t ht) dX6_backUp_20 ?_
      refine lv_aload_n hx hb dX6_backUp_23 rfl (lv_at hl 1 rfl) ?_
      refine gf_X6_83 C0 X hP i1 hi1 dX6_backUp_24 ?_
      obtain ⟨r_9, er_9, h⟩ := bnd h
      refine r_ci X hS (r_runV (As := [.int (σ i1 6)]) (rest := []) C0 X hP L_X6_143 (fun sz => c_X4_placeOf l D cA ad o σ t (σ i1 6) ht r_9 er_9 sz) (kdR t ht).1 (kdR t ht).2 (by decide) rfl ⟨Nat.le_of_ble_eq_true rfl, Nat.le_of_ble_eq_true rfl⟩ rfl hl.1 rfl (Nat.le_of_ble_eq_true rfl) dX6_backUp_27 ⟨Nat.zero_le _, Nat.zero_le _⟩) (fun r9 σ9 H locs hw hP hS => ?_)
      rw [hw.2] at hP
      rw [hw.1]
      refine lv_if_lt (tgt := 39) hx hb dX6_backUp_30 (by decide) (fun c_10 => ?_) (fun c_10 => ?_)
      · replace h := it_t h c_10
        refine lv_aload_n hx hb dX6_backUp_39 rfl (lv_at hl 1 rfl) ?_
        obtain ⟨r_11, er_11, h⟩ := bnd h
        refine r_ci X hS (r_runV (As := []) (rest := []) C0 X hP L_X6_146 (fun sz => c_X0_spotBehind l D cA ad o σ i1 hi1 r_11 er_11 sz) hi1.1 hi1.2 (by decide) rfl ⟨Nat.le_of_ble_eq_true rfl, Nat.le_of_ble_eq_true rfl⟩ rfl hl.1 rfl (Nat.le_of_ble_eq_true rfl) dX6_backUp_40 ⟨Nat.zero_le _, Nat.zero_le _⟩) (fun r9 σ9 H locs hw hP hS => ?_)
        rw [hw.2] at hP
        rw [hw.1]
        refine lv_istore_n (lv' := [(2, .int r_11), (0, .ref (ad (22 * t))), (1, .ref (ad i1))]) hx hb dX6_backUp_43 rfl hl (by decide) rfl (fun ls hl => ?_)
        refine lv_aload_n hx hb dX6_backUp_44 rfl (lv_at hl 1 rfl) ?_
        refine lv_iload_n hx hb dX6_backUp_45 rfl (lv_at hl 0 rfl) ?_
        obtain ⟨r_12, er_12, h⟩ := bnd h
        refine r_ci X hS (r_runV (As := [.int r_11]) (rest := []) C0 X hP L_X6_149 (fun sz => c_X6_hasRoom l D cA ad o σ t r_11 ht r_12 er_12 sz) (kdT t ht).1 (kdT t ht).2 (by decide) rfl ⟨Nat.le_of_ble_eq_true rfl, Nat.le_of_ble_eq_true rfl⟩ rfl hl.1 rfl (Nat.le_of_ble_eq_true rfl) dX6_backUp_46 ⟨Nat.zero_le _, Nat.zero_le _⟩) (fun r9 σ9 H locs hw hP hS => ?_)
        rw [hw.2] at hP
        rw [hw.1]
        refine lv_if_eq (tgt := 84) hx hb dX6_backUp_49 (by decide) (fun c_13 => ?_) (fun c_13 => ?_)
        · replace h := it_t h c_13
          refine lv_aload_n hx hb dX6_backUp_84 rfl (lv_at hl 1 rfl) ?_
          refine lv_aload_n hx hb dX6_backUp_85 rfl (lv_at hl 2 rfl) ?_
          refine lv_iload_n hx hb dX6_backUp_86 rfl (lv_at hl 0 rfl) ?_
          obtain ⟨σ_14, eσ_14, h⟩ := bnd h
          refine r_cv X hS (r_runV (As := [.ref (ad i1), .int r_11]) (rest := []) C0 X hP L_X6_156 (fun sz => c_X6_letOneBehindBack l D cA ad o σ t i1 r_11 ht hi1 σ_14 eσ_14 sz) (kdT t ht).1 (kdT t ht).2 (by decide) rfl ⟨Nat.le_of_ble_eq_true rfl, Nat.le_of_ble_eq_true rfl⟩ rfl hl.1 rfl (Nat.le_of_ble_eq_true rfl) dX6_backUp_87 ⟨Nat.zero_le _, Nat.zero_le _⟩) (fun σ9 H locs hw hP hS => ?_)
          rw [show σ9 = σ_14 from hw] at hP
          refine lv_aload_n hx hb dX6_backUp_90 rfl (lv_at hl 2 rfl) ?_
          refine lv_dup hx hb dX6_backUp_91 rfl ?_
          refine gf_X6_89 C0 X hP i1 hi1 dX6_backUp_92 ?_
          refine lv_iconst (v := 1) hx hb dX6_backUp_95 (by decide) ?_
          refine lv_iadd hx hb dX6_backUp_96 ?_
          refine pf_X6_89 C0 X hP hS i1 hi1 dX6_backUp_97 (fun H locs hP hS => ?_)
          exact r_vret C0 X hP hS hr hlk dX6_backUp_100 (Option.some.inj h)
        · replace h := it_f h c_13
          refine lv_aload_n hx hb dX6_backUp_52 rfl (lv_at hl 1 rfl) ?_
          refine lv_aload_n hx hb dX6_backUp_53 rfl (lv_at hl 2 rfl) ?_
          refine lv_iload_n hx hb dX6_backUp_54 rfl (lv_at hl 0 rfl) ?_
          obtain ⟨σ_15, eσ_15, h⟩ := bnd h
          refine r_cv X hS (r_runV (As := [.ref (ad i1), .int r_11]) (rest := []) C0 X hP L_X6_152 (fun sz => c_X6_step l D cA ad o σ t i1 r_11 ht hi1 σ_15 eσ_15 sz) (kdT t ht).1 (kdT t ht).2 (by decide) rfl ⟨Nat.le_of_ble_eq_true rfl, Nat.le_of_ble_eq_true rfl⟩ rfl hl.1 rfl (Nat.le_of_ble_eq_true rfl) dX6_backUp_55 ⟨Nat.zero_le _, Nat.zero_le _⟩) (fun σ9 H locs hw hP hS => ?_)
          rw [show σ9 = σ_15 from hw] at hP
          refine lv_aload_n hx hb dX6_backUp_58 rfl (lv_at hl 2 rfl) ?_
          refine lv_aload_n hx hb dX6_backUp_59 rfl (lv_at hl 2 rfl) ?_
          refine gf_X6_74 C0 X hP i1 hi1 dX6_backUp_60 ?_
          refine lv_iconst (v := 1) hx hb dX6_backUp_63 (by decide) ?_
          refine lv_isub hx hb dX6_backUp_64 ?_
          refine pf_X6_116 C0 X hP hS i1 hi1 dX6_backUp_65 (fun H locs hP hS => ?_)
          refine lv_aload_n hx hb dX6_backUp_68 rfl (lv_at hl 2 rfl) ?_
          refine lv_dup hx hb dX6_backUp_69 rfl ?_
          refine gf_X6_86 C0 X hP i1 hi1 dX6_backUp_70 ?_
          refine lv_iconst (v := 1) hx hb dX6_backUp_73 (by decide) ?_
          refine lv_iadd hx hb dX6_backUp_74 ?_
          refine pf_X6_86 C0 X hP hS i1 hi1 dX6_backUp_75 (fun H locs hP hS => ?_)
          refine lv_aload_n hx hb dX6_backUp_78 rfl (lv_at hl 2 rfl) ?_
          refine lv_iconst (v := 1) hx hb dX6_backUp_79 (by decide) ?_
          refine pf_X6_140 C0 X hP hS i1 (Or.inr rfl) hi1 dX6_backUp_80 (fun H locs hP hS => ?_)
          exact r_vret C0 X hP hS hr hlk dX6_backUp_83 (Option.some.inj h)
      · replace h := it_f h c_10
        refine lv_aload_n hx hb dX6_backUp_33 rfl (lv_at hl 1 rfl) ?_
        refine lv_iconst (v := 0) hx hb dX6_backUp_34 (by decide) ?_
        refine pf_X6_119 C0 X hP hS i1 (Or.inl rfl) hi1 dX6_backUp_35 (fun H locs hP hS => ?_)
        exact r_vret C0 X hP hS hr hlk dX6_backUp_38 (Option.some.inj h)
def bB_cX6_pieceAhead : Nat := 0xac030400a72e1cc200b40c00b42a0f00998500b61c0c00b42a3d64045300b42b0900a75300b42b0a00994300b42b
theorem yB_cX6_pieceAhead : BYS cX6_pieceAhead 46 bB_cX6_pieceAhead := BYS_of (by decide +kernel)
theorem dX6_pieceAhead_0 : decode cX6_pieceAhead 0 = .ok (.aload_n 1, 1) := D_43 yB_cX6_pieceAhead rfl rfl
theorem dX6_pieceAhead_1 : decode cX6_pieceAhead 1 = .ok (.getfield 67, 3) := D_180 yB_cX6_pieceAhead rfl rfl rfl
theorem dX6_pieceAhead_4 : decode cX6_pieceAhead 4 = .ok (.ifCond .eq 10, 3) := D_153 yB_cX6_pieceAhead rfl rfl (sg_p (m := 32768) (N := 10) rfl rfl rfl)
theorem dX6_pieceAhead_7 : decode cX6_pieceAhead 7 = .ok (.aload_n 1, 1) := D_43 yB_cX6_pieceAhead rfl rfl
theorem dX6_pieceAhead_8 : decode cX6_pieceAhead 8 = .ok (.getfield 83, 3) := D_180 yB_cX6_pieceAhead rfl rfl rfl
theorem dX6_pieceAhead_11 : decode cX6_pieceAhead 11 = .ok (.goto 9, 3) := D_167 yB_cX6_pieceAhead rfl rfl (sg_p (m := 32768) (N := 9) rfl rfl rfl)
theorem dX6_pieceAhead_14 : decode cX6_pieceAhead 14 = .ok (.aload_n 1, 1) := D_43 yB_cX6_pieceAhead rfl rfl
theorem dX6_pieceAhead_15 : decode cX6_pieceAhead 15 = .ok (.getfield 83, 3) := D_180 yB_cX6_pieceAhead rfl rfl rfl
theorem dX6_pieceAhead_18 : decode cX6_pieceAhead 18 = .ok (.iconst 1, 1) := D_4 yB_cX6_pieceAhead rfl rfl
theorem dX6_pieceAhead_19 : decode cX6_pieceAhead 19 = .ok (.isub, 1) := D_100 yB_cX6_pieceAhead rfl rfl
theorem dX6_pieceAhead_20 : decode cX6_pieceAhead 20 = .ok (.istore_n 2, 1) := D_61 yB_cX6_pieceAhead rfl rfl
theorem dX6_pieceAhead_21 : decode cX6_pieceAhead 21 = .ok (.aload_n 0, 1) := D_42 yB_cX6_pieceAhead rfl rfl
theorem dX6_pieceAhead_22 : decode cX6_pieceAhead 22 = .ok (.getfield 12, 3) := D_180 yB_cX6_pieceAhead rfl rfl rfl
theorem dX6_pieceAhead_25 : decode cX6_pieceAhead 25 = .ok (.iload_n 2, 1) := D_28 yB_cX6_pieceAhead rfl rfl
theorem dX6_pieceAhead_26 : decode cX6_pieceAhead 26 = .ok (.invokevirtual 133, 3) := D_182 yB_cX6_pieceAhead rfl rfl rfl
theorem dX6_pieceAhead_29 : decode cX6_pieceAhead 29 = .ok (.ifCond .eq 15, 3) := D_153 yB_cX6_pieceAhead rfl rfl (sg_p (m := 32768) (N := 15) rfl rfl rfl)
theorem dX6_pieceAhead_32 : decode cX6_pieceAhead 32 = .ok (.aload_n 0, 1) := D_42 yB_cX6_pieceAhead rfl rfl
theorem dX6_pieceAhead_33 : decode cX6_pieceAhead 33 = .ok (.getfield 12, 3) := D_180 yB_cX6_pieceAhead rfl rfl rfl
theorem dX6_pieceAhead_36 : decode cX6_pieceAhead 36 = .ok (.getfield 194, 3) := D_180 yB_cX6_pieceAhead rfl rfl rfl
theorem dX6_pieceAhead_39 : decode cX6_pieceAhead 39 = .ok (.iload_n 2, 1) := D_28 yB_cX6_pieceAhead rfl rfl
theorem dX6_pieceAhead_40 : decode cX6_pieceAhead 40 = .ok (.iaload, 1) := D_46 yB_cX6_pieceAhead rfl rfl
theorem dX6_pieceAhead_41 : decode cX6_pieceAhead 41 = .ok (.goto 4, 3) := D_167 yB_cX6_pieceAhead rfl rfl (sg_p (m := 32768) (N := 4) rfl rfl rfl)
theorem dX6_pieceAhead_44 : decode cX6_pieceAhead 44 = .ok (.iconst 0, 1) := D_3 yB_cX6_pieceAhead rfl rfl
theorem dX6_pieceAhead_45 : decode cX6_pieceAhead 45 = .ok (.ireturn, 1) := D_172 yB_cX6_pieceAhead rfl rfl
def F_X6_pieceAhead (σ : Mem) (t : Nat) (i1 : Nat) : Option (Int32) := if (σ i1 0) = 0 then ((F_X4_isSpot σ t ((σ i1 6) - 1)).bind fun r_2 => if r_2 = 0 then (some 0) else ((ix 73 ((σ i1 6) - 1)).bind fun k_4 => some (σ (22 * t + 8) k_4))) else ((F_X4_isSpot σ t (σ i1 6)).bind fun r_5 => if r_5 = 0 then (some 0) else ((ix 73 (σ i1 6)).bind fun k_7 => some (σ (22 * t + 8) k_7)))
set_option maxHeartbeats 4000000 in
set_option maxRecDepth 100000 in
theorem c_X6_pieceAhead (l : Launch) (D : va_G) (cA : Nat → ClassId) (ad : Nat → Nat) (o : Int64) (σ : Mem) (t : Nat) (i1 : Nat) (ht : t < 3) (hi1 : i1 < 106 ∧ kd i1 = (0, 12)) (res : Int32) (h : F_X6_pieceAhead σ t i1 = some res) (sz : Nat) : Met l yX6_pieceAhead (WY yX6_pieceAhead cX6_pieceAhead 3 (some .int)) (RM 1) (va_Pc [.ref (ad (22 * t)), .ref (ad i1)] (PW D cA ad o σ sz)) (va_Qi (fun r σ9 => r = res ∧ σ9 = σ) (QW D cA ad o) (FA ad sz)) 0 0 (FA ad sz) := by
  refine ct_of (own := RX6) (k := 1) (Qf := va_Qi (fun r σ9 => r = res ∧ σ9 = σ) (QW D cA ad o)) rfl (by decide) (Nat.le_of_ble_eq_true rfl) (fun p e s m below meth c ls C0 X hr hlk hP hl => ?_) sz
  have hS : va_S (FA ad s.heap.size) s.heap s.heap [] := va_S.rf
  have hl : lv_has ls 3 [(0, .ref (ad (22 * t))), (1, .ref (ad i1))] := hl
  obtain ⟨hx, hb, hml, hown, hts⟩ := id C0
  unfold F_X6_pieceAhead at h
  refine lv_aload_n hx hb dX6_pieceAhead_0 rfl (lv_at hl 1 rfl) ?_
  refine gf_X6_67 C0 X hP i1 hi1 dX6_pieceAhead_1 ?_
  refine lv_if_eq (tgt := 14) hx hb dX6_pieceAhead_4 (by decide) (fun c_1 => ?_) (fun c_1 => ?_)
  · replace h := it_t h c_1
    refine lv_aload_n hx hb dX6_pieceAhead_14 rfl (lv_at hl 1 rfl) ?_
    refine gf_X6_83 C0 X hP i1 hi1 dX6_pieceAhead_15 ?_
    refine lv_iconst (v := 1) hx hb dX6_pieceAhead_18 (by decide) ?_
    refine lv_isub hx hb dX6_pieceAhead_19 ?_
    refine lv_istore_n (lv' := [(2, .int ((σ i1 6) - 1)), (0, .ref (ad (22 * t))), (1, .ref (ad i1))]) hx hb dX6_pieceAhead_20 rfl hl (by decide) rfl (fun ls hl => ?_)
    refine lv_aload_n hx hb dX6_pieceAhead_21 rfl (lv_at hl 1 rfl) ?_
    refine gf_X6_12 C0 X hP (22 * t) (q := (22 * t + 1)) (kdT t ht) (by omega) (lkT0 t ht) dX6_pieceAhead_22 ?_
    refine lv_iload_n hx hb dX6_pieceAhead_25 rfl (lv_at hl 0 rfl) ?_
    obtain ⟨r_2, er_2, h⟩ := bnd h
    refine r_ci X hS (r_runV (As := [.int ((σ i1 6) - 1)]) (rest := []) C0 X hP L_X6_133 (fun sz => c_X4_isSpot l D cA ad o σ t ((σ i1 6) - 1) ht r_2 er_2 sz) (kdR t ht).1 (kdR t ht).2 (by decide) rfl ⟨Nat.le_of_ble_eq_true rfl, Nat.le_of_ble_eq_true rfl⟩ rfl hl.1 rfl (Nat.le_of_ble_eq_true rfl) dX6_pieceAhead_26 ⟨Nat.zero_le _, Nat.zero_le _⟩) (fun r9 σ9 H locs hw hP hS => ?_)
    rw [hw.2] at hP
    rw [hw.1]
    refine lv_if_eq (tgt := 44) hx hb dX6_pieceAhead_29 (by decide) (fun c_3 => ?_) (fun c_3 => ?_)
    · replace h := it_t h c_3
      refine lv_iconst (v := 0) hx hb dX6_pieceAhead_44 (by decide) ?_
      exact r_iret C0 X hP hS hr hlk dX6_pieceAhead_45 ⟨Option.some.inj h, rfl⟩
    · replace h := it_f h c_3
      refine lv_aload_n hx hb dX6_pieceAhead_32 rfl (lv_at hl 1 rfl) ?_
      refine gf_X6_12 C0 X hP (22 * t) (q := (22 * t + 1)) (kdT t ht) (by omega) (lkT0 t ht) dX6_pieceAhead_33 ?_
      refine gf_X6_194 C0 X hP (22 * t + 1) (q := (22 * t + 8)) (kdR t ht) (by omega) (lkR8 t ht) dX6_pieceAhead_36 ?_
      refine lv_iload_n hx hb dX6_pieceAhead_39 rfl (lv_at hl 0 rfl) ?_
      obtain ⟨k_4, ek_4, h⟩ := bnd h
      replace ek_4 := ix_s ek_4 (by decide)
      refine r_ialdN C0 X hP (22 * t + 8) (k := k_4) (kdA8 t ht) ek_4.1 ek_4.2 dX6_pieceAhead_40 ?_
      refine lv_goto (tgt := 45) hx hb dX6_pieceAhead_41 (by decide) ?_
      exact r_iret C0 X hP hS hr hlk dX6_pieceAhead_45 ⟨Option.some.inj h, rfl⟩
  · replace h := it_f h c_1
    refine lv_aload_n hx hb dX6_pieceAhead_7 rfl (lv_at hl 1 rfl) ?_
    refine gf_X6_83 C0 X hP i1 hi1 dX6_pieceAhead_8 ?_
    refine lv_goto (tgt := 20) hx hb dX6_pieceAhead_11 (by decide) ?_
    refine lv_istore_n (lv' := [(2, .int (σ i1 6)), (0, .ref (ad (22 * t))), (1, .ref (ad i1))]) hx hb dX6_pieceAhead_20 rfl hl (by decide) rfl (fun ls hl => ?_)
    refine lv_aload_n hx hb dX6_pieceAhead_21 rfl (lv_at hl 1 rfl) ?_
    refine gf_X6_12 C0 X hP (22 * t) (q := (22 * t + 1)) (kdT t ht) (by omega) (lkT0 t ht) dX6_pieceAhead_22 ?_
    refine lv_iload_n hx hb dX6_pieceAhead_25 rfl (lv_at hl 0 rfl) ?_
    obtain ⟨r_5, er_5, h⟩ := bnd h
    refine r_ci X hS (r_runV (As := [.int (σ i1 6)]) (rest := []) C0 X hP L_X6_133 (fun sz => c_X4_isSpot l D cA ad o σ t (σ i1 6) ht r_5 er_5 sz) (kdR t ht).1 (kdR t ht).2 (by decide) rfl ⟨Nat.le_of_ble_eq_true rfl, Nat.le_of_ble_eq_true rfl⟩ rfl hl.1 rfl (Nat.le_of_ble_eq_true rfl) dX6_pieceAhead_26 ⟨Nat.zero_le _, Nat.zero_le _⟩) (fun r9 σ9 H locs hw hP hS => ?_)
    rw [hw.2] at hP
    rw [hw.1]
    refine lv_if_eq (tgt := 44) hx hb dX6_pieceAhead_29 (by decide) (fun c_6 => ?_) (fun c_6 => ?_)
    · replace h := it_t h c_6
      refine lv_iconst (v := 0) hx hb dX6_pieceAhead_44 (by decide) ?_
      exact r_iret C0 X hP hS hr hlk dX6_pieceAhead_45 ⟨Option.some.inj h, rfl⟩
    · replace h := it_f h c_6
      refine lv_aload_n hx hb dX6_pieceAhead_32 rfl (lv_at hl 1 rfl) ?_
      refine gf_X6_12 C0 X hP (22 * t) (q := (22 * t + 1)) (kdT t ht) (by omega) (lkT0 t ht) dX6_pieceAhead_33 ?_
      refine gf_X6_194 C0 X hP (22 * t + 1) (q := (22 * t + 8)) (kdR t ht) (by omega) (lkR8 t ht) dX6_pieceAhead_36 ?_
      refine lv_iload_n hx hb dX6_pieceAhead_39 rfl (lv_at hl 0 rfl) ?_
      obtain ⟨k_7, ek_7, h⟩ := bnd h
      replace ek_7 := ix_s ek_7 (by decide)
      refine r_ialdN C0 X hP (22 * t + 8) (k := k_7) (kdA8 t ht) ek_7.1 ek_7.2 dX6_pieceAhead_40 ?_
      refine lv_goto (tgt := 45) hx hb dX6_pieceAhead_41 (by decide) ?_
      exact r_iret C0 X hP hS hr hlk dX6_pieceAhead_45 ⟨Option.some.inj h, rfl⟩
def bB_cX6_isHourOf : Nat := 0xac030400a7040700a04300b42b030400a70407009a70056c1d3100b42a3e68d900b860041c040a10
theorem yB_cX6_isHourOf : BYS cX6_isHourOf 40 bB_cX6_isHourOf := BYS_of (by decide +kernel)
theorem dX6_isHourOf_0 : decode cX6_isHourOf 0 = .ok (.bipush 10, 2) := D_16 yB_cX6_isHourOf rfl rfl (sg_p (m := 128) (N := 10) rfl rfl rfl)
theorem dX6_isHourOf_2 : decode cX6_isHourOf 2 = .ok (.iconst 1, 1) := D_4 yB_cX6_isHourOf rfl rfl
theorem dX6_isHourOf_3 : decode cX6_isHourOf 3 = .ok (.iload_n 2, 1) := D_28 yB_cX6_isHourOf rfl rfl
theorem dX6_isHourOf_4 : decode cX6_isHourOf 4 = .ok (.iconst 1, 1) := D_4 yB_cX6_isHourOf rfl rfl
theorem dX6_isHourOf_5 : decode cX6_isHourOf 5 = .ok (.iadd, 1) := D_96 yB_cX6_isHourOf rfl rfl
theorem dX6_isHourOf_6 : decode cX6_isHourOf 6 = .ok (.invokestatic 217, 3) := D_184 yB_cX6_isHourOf rfl rfl rfl
theorem dX6_isHourOf_9 : decode cX6_isHourOf 9 = .ok (.imul, 1) := D_104 yB_cX6_isHourOf rfl rfl
theorem dX6_isHourOf_10 : decode cX6_isHourOf 10 = .ok (.istore_n 3, 1) := D_62 yB_cX6_isHourOf rfl rfl
theorem dX6_isHourOf_11 : decode cX6_isHourOf 11 = .ok (.aload_n 0, 1) := D_42 yB_cX6_isHourOf rfl rfl
theorem dX6_isHourOf_12 : decode cX6_isHourOf 12 = .ok (.getfield 49, 3) := D_180 yB_cX6_isHourOf rfl rfl rfl
theorem dX6_isHourOf_15 : decode cX6_isHourOf 15 = .ok (.iload_n 3, 1) := D_29 yB_cX6_isHourOf rfl rfl
theorem dX6_isHourOf_16 : decode cX6_isHourOf 16 = .ok (.idiv, 1) := D_108 yB_cX6_isHourOf rfl rfl
theorem dX6_isHourOf_17 : decode cX6_isHourOf 17 = .ok (.iconst 2, 1) := D_5 yB_cX6_isHourOf rfl rfl
theorem dX6_isHourOf_18 : decode cX6_isHourOf 18 = .ok (.irem, 1) := D_112 yB_cX6_isHourOf rfl rfl
theorem dX6_isHourOf_19 : decode cX6_isHourOf 19 = .ok (.ifCond .ne 7, 3) := D_154 yB_cX6_isHourOf rfl rfl (sg_p (m := 32768) (N := 7) rfl rfl rfl)
theorem dX6_isHourOf_22 : decode cX6_isHourOf 22 = .ok (.iconst 1, 1) := D_4 yB_cX6_isHourOf rfl rfl
theorem dX6_isHourOf_23 : decode cX6_isHourOf 23 = .ok (.goto 4, 3) := D_167 yB_cX6_isHourOf rfl rfl (sg_p (m := 32768) (N := 4) rfl rfl rfl)
theorem dX6_isHourOf_26 : decode cX6_isHourOf 26 = .ok (.iconst 0, 1) := D_3 yB_cX6_isHourOf rfl rfl
theorem dX6_isHourOf_27 : decode cX6_isHourOf 27 = .ok (.aload_n 1, 1) := D_43 yB_cX6_isHourOf rfl rfl
theorem dX6_isHourOf_28 : decode cX6_isHourOf 28 = .ok (.getfield 67, 3) := D_180 yB_cX6_isHourOf rfl rfl rfl
theorem dX6_isHourOf_31 : decode cX6_isHourOf 31 = .ok (.if_icmp .ne 7, 3) := D_160 yB_cX6_isHourOf rfl rfl (sg_p (m := 32768) (N := 7) rfl rfl rfl)
theorem dX6_isHourOf_34 : decode cX6_isHourOf 34 = .ok (.iconst 1, 1) := D_4 yB_cX6_isHourOf rfl rfl
theorem dX6_isHourOf_35 : decode cX6_isHourOf 35 = .ok (.goto 4, 3) := D_167 yB_cX6_isHourOf rfl rfl (sg_p (m := 32768) (N := 4) rfl rfl rfl)
theorem dX6_isHourOf_38 : decode cX6_isHourOf 38 = .ok (.iconst 0, 1) := D_3 yB_cX6_isHourOf rfl rfl
theorem dX6_isHourOf_39 : decode cX6_isHourOf 39 = .ok (.ireturn, 1) := D_172 yB_cX6_isHourOf rfl rfl
def F_X6_isHourOf (σ : Mem) (t : Nat) (i1 : Nat) (x2 : Int32) : Option (Int32) := ck (¬ (10 * (if 1 < (x2 + 1) then (x2 + 1) else 1)) = 0) <| if (((σ (22 * t) 3) / (10 * (if 1 < (x2 + 1) then (x2 + 1) else 1))) - ((σ (22 * t) 3) / (10 * (if 1 < (x2 + 1) then (x2 + 1) else 1))) / 2 * 2) = 0 then (if 1 = (σ i1 0) then (some 1) else (some 0)) else (if 0 = (σ i1 0) then (some 1) else (some 0))
set_option maxHeartbeats 4000000 in
set_option maxRecDepth 100000 in
theorem c_X6_isHourOf (l : Launch) (D : va_G) (cA : Nat → ClassId) (ad : Nat → Nat) (o : Int64) (σ : Mem) (t : Nat) (i1 : Nat) (x2 : Int32) (ht : t < 3) (hi1 : i1 < 106 ∧ kd i1 = (0, 12)) (res : Int32) (h : F_X6_isHourOf σ t i1 x2 = some res) (sz : Nat) : Met l yX6_isHourOf (WY yX6_isHourOf cX6_isHourOf 4 (some .boolean)) (RM 1) (va_Pc [.ref (ad (22 * t)), .ref (ad i1), .int x2] (PW D cA ad o σ sz)) (va_Qi (fun r σ9 => r = res ∧ σ9 = σ) (QW D cA ad o) (FA ad sz)) 0 0 (FA ad sz) := by
  refine ct_of (own := RX6) (k := 1) (Qf := va_Qi (fun r σ9 => r = res ∧ σ9 = σ) (QW D cA ad o)) rfl (by decide) (Nat.le_of_ble_eq_true rfl) (fun p e s m below meth c ls C0 X hr hlk hP hl => ?_) sz
  have hS : va_S (FA ad s.heap.size) s.heap s.heap [] := va_S.rf
  have hl : lv_has ls 4 [(0, .ref (ad (22 * t))), (1, .ref (ad i1)), (2, .int x2)] := hl
  obtain ⟨hx, hb, hml, hown, hts⟩ := id C0
  unfold F_X6_isHourOf at h
  refine lv_bipush (v := 10) hx hb dX6_isHourOf_0 (by decide) ?_
  refine lv_iconst (v := 1) hx hb dX6_isHourOf_2 (by decide) ?_
  refine lv_iload_n hx hb dX6_isHourOf_3 rfl (lv_at hl 2 rfl) ?_
  refine lv_iconst (v := 1) hx hb dX6_isHourOf_4 (by decide) ?_
  refine lv_iadd hx hb dX6_isHourOf_5 ?_
  refine va_mmax (own := RX6) (index := 217) (rest := [.int 10]) (x := 1) (y := (x2 + 1)) hx hb (by rw [hml]; exact hl.1.symm) hown (hts _ (tmc sb3_5 5 rfl (by decide +kernel))) (hts _ (tmc sb3_5 6 rfl (by decide +kernel))) (hts _ (tmc sb1_0 11 rfl (by decide +kernel))) (hts _ (tmc sb3_5 7 rfl (by decide +kernel))) (by decide) (Nat.le_of_ble_eq_true rfl) (Nat.zero_le _) (Nat.zero_le _) dX6_isHourOf_6 ?_
  refine lv_imul hx hb dX6_isHourOf_9 ?_
  refine lv_istore_n (lv' := [(3, .int (10 * (if 1 < (x2 + 1) then (x2 + 1) else 1))), (0, .ref (ad (22 * t))), (1, .ref (ad i1)), (2, .int x2)]) hx hb dX6_isHourOf_10 rfl hl (by decide) rfl (fun ls hl => ?_)
  refine lv_aload_n hx hb dX6_isHourOf_11 rfl (lv_at hl 1 rfl) ?_
  refine gf_X6_49 C0 X hP (22 * t) (kdT t ht) dX6_isHourOf_12 ?_
  refine lv_iload_n hx hb dX6_isHourOf_15 rfl (lv_at hl 0 rfl) ?_
  obtain ⟨q_1, h⟩ := ckp h
  refine lv_idiv hx hb dX6_isHourOf_16 q_1 ?_
  refine lv_iconst (v := 2) hx hb dX6_isHourOf_17 (by decide) ?_
  refine lv_irem hx hb dX6_isHourOf_18 (by decide) ?_
  refine lv_if_ne (tgt := 26) hx hb dX6_isHourOf_19 (by decide) (fun c_2 => ?_) (fun c_2 => ?_)
  · replace h := it_f h c_2
    refine lv_iconst (v := 0) hx hb dX6_isHourOf_26 (by decide) ?_
    refine lv_aload_n hx hb dX6_isHourOf_27 rfl (lv_at hl 2 rfl) ?_
    refine gf_X6_67 C0 X hP i1 hi1 dX6_isHourOf_28 ?_
    refine lv_icmp_ne (tgt := 38) hx hb dX6_isHourOf_31 (by decide) (fun c_3 => ?_) (fun c_3 => ?_)
    · replace h := it_f h c_3
      refine lv_iconst (v := 0) hx hb dX6_isHourOf_38 (by decide) ?_
      exact r_zret C0 X hP hS hr hlk dX6_isHourOf_39 (Or.inl rfl) ⟨Option.some.inj h, rfl⟩
    · replace h := it_t h c_3
      refine lv_iconst (v := 1) hx hb dX6_isHourOf_34 (by decide) ?_
      refine lv_goto (tgt := 39) hx hb dX6_isHourOf_35 (by decide) ?_
      exact r_zret C0 X hP hS hr hlk dX6_isHourOf_39 (Or.inr rfl) ⟨Option.some.inj h, rfl⟩
  · replace h := it_t h c_2
    refine lv_iconst (v := 1) hx hb dX6_isHourOf_22 (by decide) ?_
    refine lv_goto (tgt := 27) hx hb dX6_isHourOf_23 (by decide) ?_
    refine lv_aload_n hx hb dX6_isHourOf_27 rfl (lv_at hl 2 rfl) ?_
    refine gf_X6_67 C0 X hP i1 hi1 dX6_isHourOf_28 ?_
    refine lv_icmp_ne (tgt := 38) hx hb dX6_isHourOf_31 (by decide) (fun c_4 => ?_) (fun c_4 => ?_)
    · replace h := it_f h c_4
      refine lv_iconst (v := 0) hx hb dX6_isHourOf_38 (by decide) ?_
      exact r_zret C0 X hP hS hr hlk dX6_isHourOf_39 (Or.inl rfl) ⟨Option.some.inj h, rfl⟩
    · replace h := it_t h c_4
      refine lv_iconst (v := 1) hx hb dX6_isHourOf_34 (by decide) ?_
      refine lv_goto (tgt := 39) hx hb dX6_isHourOf_35 (by decide) ?_
      exact r_zret C0 X hP hS hr hlk dX6_isHourOf_39 (Or.inr rfl) ⟨Option.some.inj h, rfl⟩
def bB_cX6_isQuiet : Nat := 0xac04c9ffa7010684ac030500a305155300b407190f00a104155300b4071919009f4300b42b4300b40719073a3206151400b42a3400a22e00b42a06150636030436d900b8641d0415030d00a70536601d05150c00994300b42b05366404d600b660041c0c00b42a04366004d600b61c0c00b42a
theorem yB_cX6_isQuiet : BYS cX6_isQuiet 115 bB_cX6_isQuiet := BYS_of (by decide +kernel)
theorem dX6_isQuiet_0 : decode cX6_isQuiet 0 = .ok (.aload_n 0, 1) := D_42 yB_cX6_isQuiet rfl rfl
theorem dX6_isQuiet_1 : decode cX6_isQuiet 1 = .ok (.getfield 12, 3) := D_180 yB_cX6_isQuiet rfl rfl rfl
theorem dX6_isQuiet_4 : decode cX6_isQuiet 4 = .ok (.iload_n 2, 1) := D_28 yB_cX6_isQuiet rfl rfl
theorem dX6_isQuiet_5 : decode cX6_isQuiet 5 = .ok (.invokevirtual 214, 3) := D_182 yB_cX6_isQuiet rfl rfl rfl
theorem dX6_isQuiet_8 : decode cX6_isQuiet 8 = .ok (.iconst 1, 1) := D_4 yB_cX6_isQuiet rfl rfl
theorem dX6_isQuiet_9 : decode cX6_isQuiet 9 = .ok (.iadd, 1) := D_96 yB_cX6_isQuiet rfl rfl
theorem dX6_isQuiet_10 : decode cX6_isQuiet 10 = .ok (.istore 4, 2) := D_54 yB_cX6_isQuiet rfl rfl rfl
theorem dX6_isQuiet_12 : decode cX6_isQuiet 12 = .ok (.aload_n 0, 1) := D_42 yB_cX6_isQuiet rfl rfl
theorem dX6_isQuiet_13 : decode cX6_isQuiet 13 = .ok (.getfield 12, 3) := D_180 yB_cX6_isQuiet rfl rfl rfl
theorem dX6_isQuiet_16 : decode cX6_isQuiet 16 = .ok (.iload_n 2, 1) := D_28 yB_cX6_isQuiet rfl rfl
theorem dX6_isQuiet_17 : decode cX6_isQuiet 17 = .ok (.iconst 1, 1) := D_4 yB_cX6_isQuiet rfl rfl
theorem dX6_isQuiet_18 : decode cX6_isQuiet 18 = .ok (.iadd, 1) := D_96 yB_cX6_isQuiet rfl rfl
theorem dX6_isQuiet_19 : decode cX6_isQuiet 19 = .ok (.invokevirtual 214, 3) := D_182 yB_cX6_isQuiet rfl rfl rfl
theorem dX6_isQuiet_22 : decode cX6_isQuiet 22 = .ok (.iconst 1, 1) := D_4 yB_cX6_isQuiet rfl rfl
theorem dX6_isQuiet_23 : decode cX6_isQuiet 23 = .ok (.isub, 1) := D_100 yB_cX6_isQuiet rfl rfl
theorem dX6_isQuiet_24 : decode cX6_isQuiet 24 = .ok (.istore 5, 2) := D_54 yB_cX6_isQuiet rfl rfl rfl
theorem dX6_isQuiet_26 : decode cX6_isQuiet 26 = .ok (.aload_n 1, 1) := D_43 yB_cX6_isQuiet rfl rfl
theorem dX6_isQuiet_27 : decode cX6_isQuiet 27 = .ok (.getfield 67, 3) := D_180 yB_cX6_isQuiet rfl rfl rfl
theorem dX6_isQuiet_30 : decode cX6_isQuiet 30 = .ok (.ifCond .eq 12, 3) := D_153 yB_cX6_isQuiet rfl rfl (sg_p (m := 32768) (N := 12) rfl rfl rfl)
theorem dX6_isQuiet_33 : decode cX6_isQuiet 33 = .ok (.iload 5, 2) := D_21 yB_cX6_isQuiet rfl rfl rfl
theorem dX6_isQuiet_35 : decode cX6_isQuiet 35 = .ok (.iload_n 3, 1) := D_29 yB_cX6_isQuiet rfl rfl
theorem dX6_isQuiet_36 : decode cX6_isQuiet 36 = .ok (.iadd, 1) := D_96 yB_cX6_isQuiet rfl rfl
theorem dX6_isQuiet_37 : decode cX6_isQuiet 37 = .ok (.istore 5, 2) := D_54 yB_cX6_isQuiet rfl rfl rfl
theorem dX6_isQuiet_39 : decode cX6_isQuiet 39 = .ok (.goto 13, 3) := D_167 yB_cX6_isQuiet rfl rfl (sg_p (m := 32768) (N := 13) rfl rfl rfl)
theorem dX6_isQuiet_42 : decode cX6_isQuiet 42 = .ok (.iconst 0, 1) := D_3 yB_cX6_isQuiet rfl rfl
theorem dX6_isQuiet_43 : decode cX6_isQuiet 43 = .ok (.iload 4, 2) := D_21 yB_cX6_isQuiet rfl rfl rfl
theorem dX6_isQuiet_45 : decode cX6_isQuiet 45 = .ok (.iload_n 3, 1) := D_29 yB_cX6_isQuiet rfl rfl
theorem dX6_isQuiet_46 : decode cX6_isQuiet 46 = .ok (.isub, 1) := D_100 yB_cX6_isQuiet rfl rfl
theorem dX6_isQuiet_47 : decode cX6_isQuiet 47 = .ok (.invokestatic 217, 3) := D_184 yB_cX6_isQuiet rfl rfl rfl
theorem dX6_isQuiet_50 : decode cX6_isQuiet 50 = .ok (.istore 4, 2) := D_54 yB_cX6_isQuiet rfl rfl rfl
theorem dX6_isQuiet_52 : decode cX6_isQuiet 52 = .ok (.iconst 0, 1) := D_3 yB_cX6_isQuiet rfl rfl
theorem dX6_isQuiet_53 : decode cX6_isQuiet 53 = .ok (.istore 6, 2) := D_54 yB_cX6_isQuiet rfl rfl rfl
theorem dX6_isQuiet_55 : decode cX6_isQuiet 55 = .ok (.iload 6, 2) := D_21 yB_cX6_isQuiet rfl rfl rfl
theorem dX6_isQuiet_57 : decode cX6_isQuiet 57 = .ok (.aload_n 0, 1) := D_42 yB_cX6_isQuiet rfl rfl
theorem dX6_isQuiet_58 : decode cX6_isQuiet 58 = .ok (.getfield 46, 3) := D_180 yB_cX6_isQuiet rfl rfl rfl
theorem dX6_isQuiet_61 : decode cX6_isQuiet 61 = .ok (.if_icmp .ge 52, 3) := D_162 yB_cX6_isQuiet rfl rfl (sg_p (m := 32768) (N := 52) rfl rfl rfl)
theorem dX6_isQuiet_64 : decode cX6_isQuiet 64 = .ok (.aload_n 0, 1) := D_42 yB_cX6_isQuiet rfl rfl
theorem dX6_isQuiet_65 : decode cX6_isQuiet 65 = .ok (.getfield 20, 3) := D_180 yB_cX6_isQuiet rfl rfl rfl
theorem dX6_isQuiet_68 : decode cX6_isQuiet 68 = .ok (.iload 6, 2) := D_21 yB_cX6_isQuiet rfl rfl rfl
theorem dX6_isQuiet_70 : decode cX6_isQuiet 70 = .ok (.aaload, 1) := D_50 yB_cX6_isQuiet rfl rfl
theorem dX6_isQuiet_71 : decode cX6_isQuiet 71 = .ok (.astore 7, 2) := D_58 yB_cX6_isQuiet rfl rfl rfl
theorem dX6_isQuiet_73 : decode cX6_isQuiet 73 = .ok (.aload 7, 2) := D_25 yB_cX6_isQuiet rfl rfl rfl
theorem dX6_isQuiet_75 : decode cX6_isQuiet 75 = .ok (.getfield 67, 3) := D_180 yB_cX6_isQuiet rfl rfl rfl
theorem dX6_isQuiet_78 : decode cX6_isQuiet 78 = .ok (.aload_n 1, 1) := D_43 yB_cX6_isQuiet rfl rfl
theorem dX6_isQuiet_79 : decode cX6_isQuiet 79 = .ok (.getfield 67, 3) := D_180 yB_cX6_isQuiet rfl rfl rfl
theorem dX6_isQuiet_82 : decode cX6_isQuiet 82 = .ok (.if_icmp .eq 25, 3) := D_159 yB_cX6_isQuiet rfl rfl (sg_p (m := 32768) (N := 25) rfl rfl rfl)
theorem dX6_isQuiet_85 : decode cX6_isQuiet 85 = .ok (.aload 7, 2) := D_25 yB_cX6_isQuiet rfl rfl rfl
theorem dX6_isQuiet_87 : decode cX6_isQuiet 87 = .ok (.getfield 83, 3) := D_180 yB_cX6_isQuiet rfl rfl rfl
theorem dX6_isQuiet_90 : decode cX6_isQuiet 90 = .ok (.iload 4, 2) := D_21 yB_cX6_isQuiet rfl rfl rfl
theorem dX6_isQuiet_92 : decode cX6_isQuiet 92 = .ok (.if_icmp .lt 15, 3) := D_161 yB_cX6_isQuiet rfl rfl (sg_p (m := 32768) (N := 15) rfl rfl rfl)
theorem dX6_isQuiet_95 : decode cX6_isQuiet 95 = .ok (.aload 7, 2) := D_25 yB_cX6_isQuiet rfl rfl rfl
theorem dX6_isQuiet_97 : decode cX6_isQuiet 97 = .ok (.getfield 83, 3) := D_180 yB_cX6_isQuiet rfl rfl rfl
theorem dX6_isQuiet_100 : decode cX6_isQuiet 100 = .ok (.iload 5, 2) := D_21 yB_cX6_isQuiet rfl rfl rfl
theorem dX6_isQuiet_102 : decode cX6_isQuiet 102 = .ok (.if_icmp .gt 5, 3) := D_163 yB_cX6_isQuiet rfl rfl (sg_p (m := 32768) (N := 5) rfl rfl rfl)
theorem dX6_isQuiet_105 : decode cX6_isQuiet 105 = .ok (.iconst 0, 1) := D_3 yB_cX6_isQuiet rfl rfl
theorem dX6_isQuiet_106 : decode cX6_isQuiet 106 = .ok (.ireturn, 1) := D_172 yB_cX6_isQuiet rfl rfl
theorem dX6_isQuiet_107 : decode cX6_isQuiet 107 = .ok (.iinc 6 1, 3) := D_132 yB_cX6_isQuiet rfl rfl rfl (sg_p (m := 128) (N := 1) rfl rfl rfl)
theorem dX6_isQuiet_110 : decode cX6_isQuiet 110 = .ok (.goto (-55), 3) := D_167 yB_cX6_isQuiet rfl rfl (sg_n (m := 32768) (N := 55) rfl rfl rfl)
theorem dX6_isQuiet_113 : decode cX6_isQuiet 113 = .ok (.iconst 1, 1) := D_4 yB_cX6_isQuiet rfl rfl
theorem dX6_isQuiet_114 : decode cX6_isQuiet 114 = .ok (.ireturn, 1) := D_172 yB_cX6_isQuiet rfl rfl
def F_X6_isQuiet_55 (σ : Mem) (t : Nat) (i1 : Nat) (x2 : Int32) (x3 : Int32)  : Nat → Int32 → Int32 → Int32 → Option (Int32)
  | 0, _, _, _ => none
  | nn + 1, v6, v4, v5 => if (σ (22 * t) 2) ≤ v6 then (some 1) else ((ix 7 v6).bind fun k_6 => if (σ (22 * t + 15 + k_6) 0) = (σ i1 0) then (F_X6_isQuiet_55 σ t i1 x2 x3 nn (v6 + 1) v4 v5) else (if (σ (22 * t + 15 + k_6) 6) < v4 then (F_X6_isQuiet_55 σ t i1 x2 x3 nn (v6 + 1) v4 v5) else (if v5 < (σ (22 * t + 15 + k_6) 6) then (F_X6_isQuiet_55 σ t i1 x2 x3 nn (v6 + 1) v4 v5) else (some 0))))
def F_X6_isQuiet_55b (σ : Mem) (t : Nat) (i1 : Nat) (x2 : Int32) (x3 : Int32)  : Nat → Int32 → Int32 → Int32 → Option (Int32)
  | 0, _, _, _ => none
  | nn + 1, v6, v5, v4 => if (σ (22 * t) 2) ≤ v6 then (some 1) else ((ix 7 v6).bind fun k_12 => if (σ (22 * t + 15 + k_12) 0) = (σ i1 0) then (F_X6_isQuiet_55b σ t i1 x2 x3 nn (v6 + 1) v5 v4) else (if (σ (22 * t + 15 + k_12) 6) < v4 then (F_X6_isQuiet_55b σ t i1 x2 x3 nn (v6 + 1) v5 v4) else (if v5 < (σ (22 * t + 15 + k_12) 6) then (F_X6_isQuiet_55b σ t i1 x2 x3 nn (v6 + 1) v5 v4) else (some 0))))
def F_X6_isQuiet (σ : Mem) (t : Nat) (i1 : Nat) (x2 : Int32) (x3 : Int32) : Option (Int32) := (F_X4_spotOfPlace σ t x2).bind fun r_1 => (F_X4_spotOfPlace σ t (x2 + 1)).bind fun r_2 => if (σ i1 0) = 0 then (F_X6_isQuiet_55 σ t i1 x2 x3 FU 0 (if 0 < ((r_1 + 1) - x3) then ((r_1 + 1) - x3) else 0) (r_2 - 1)) else (F_X6_isQuiet_55b σ t i1 x2 x3 FU 0 ((r_2 - 1) + x3) (r_1 + 1))
set_option maxHeartbeats 4000000 in
set_option maxRecDepth 100000 in
theorem c_X6_isQuiet (l : Launch) (D : va_G) (cA : Nat → ClassId) (ad : Nat → Nat) (o : Int64) (σ : Mem) (t : Nat) (i1 : Nat) (x2 : Int32) (x3 : Int32) (ht : t < 3) (hi1 : i1 < 106 ∧ kd i1 = (0, 12)) (res : Int32) (h : F_X6_isQuiet σ t i1 x2 x3 = some res) (sz : Nat) : Met l yX6_isQuiet (WY yX6_isQuiet cX6_isQuiet 8 (some .boolean)) (RM 1) (va_Pc [.ref (ad (22 * t)), .ref (ad i1), .int x2, .int x3] (PW D cA ad o σ sz)) (va_Qi (fun r σ9 => r = res ∧ σ9 = σ) (QW D cA ad o) (FA ad sz)) 0 0 (FA ad sz) := by
  refine ct_of (own := RX6) (k := 1) (Qf := va_Qi (fun r σ9 => r = res ∧ σ9 = σ) (QW D cA ad o)) rfl (by decide) (Nat.le_of_ble_eq_true rfl) (fun p e s m below meth c ls C0 X hr hlk hP hl => ?_) sz
  have hS : va_S (FA ad s.heap.size) s.heap s.heap [] := va_S.rf
  have hl : lv_has ls 8 [(0, .ref (ad (22 * t))), (1, .ref (ad i1)), (2, .int x2), (3, .int x3)] := hl
  obtain ⟨hx, hb, hml, hown, hts⟩ := id C0
  unfold F_X6_isQuiet at h
  refine lv_aload_n hx hb dX6_isQuiet_0 rfl (lv_at hl 0 rfl) ?_
  refine gf_X6_12 C0 X hP (22 * t) (q := (22 * t + 1)) (kdT t ht) (by omega) (lkT0 t ht) dX6_isQuiet_1 ?_
  refine lv_iload_n hx hb dX6_isQuiet_4 rfl (lv_at hl 2 rfl) ?_
  obtain ⟨r_1, er_1, h⟩ := bnd h
  refine r_ci X hS (r_runV (As := [.int x2]) (rest := []) C0 X hP L_X6_214 (fun sz => c_X4_spotOfPlace l D cA ad o σ t x2 ht r_1 er_1 sz) (kdR t ht).1 (kdR t ht).2 (by decide) rfl ⟨Nat.le_of_ble_eq_true rfl, Nat.le_of_ble_eq_true rfl⟩ rfl hl.1 rfl (Nat.le_of_ble_eq_true rfl) dX6_isQuiet_5 ⟨Nat.zero_le _, Nat.zero_le _⟩) (fun r9 σ9 H locs hw hP hS => ?_)
  rw [hw.2] at hP
  rw [hw.1]
  refine lv_iconst (v := 1) hx hb dX6_isQuiet_8 (by decide) ?_
  refine lv_iadd hx hb dX6_isQuiet_9 ?_
  refine lv_istore (lv' := [(4, .int (r_1 + 1)), (0, .ref (ad (22 * t))), (1, .ref (ad i1)), (2, .int x2), (3, .int x3)]) hx hb dX6_isQuiet_10 hl (by decide) rfl (fun ls hl => ?_)
  refine lv_aload_n hx hb dX6_isQuiet_12 rfl (lv_at hl 1 rfl) ?_
  refine gf_X6_12 C0 X hP (22 * t) (q := (22 * t + 1)) (kdT t ht) (by omega) (lkT0 t ht) dX6_isQuiet_13 ?_
  refine lv_iload_n hx hb dX6_isQuiet_16 rfl (lv_at hl 3 rfl) ?_
  refine lv_iconst (v := 1) hx hb dX6_isQuiet_17 (by decide) ?_
  refine lv_iadd hx hb dX6_isQuiet_18 ?_
  obtain ⟨r_2, er_2, h⟩ := bnd h
  refine r_ci X hS (r_runV (As := [.int (x2 + 1)]) (rest := []) C0 X hP L_X6_214 (fun sz => c_X4_spotOfPlace l D cA ad o σ t (x2 + 1) ht r_2 er_2 sz) (kdR t ht).1 (kdR t ht).2 (by decide) rfl ⟨Nat.le_of_ble_eq_true rfl, Nat.le_of_ble_eq_true rfl⟩ rfl hl.1 rfl (Nat.le_of_ble_eq_true rfl) dX6_isQuiet_19 ⟨Nat.zero_le _, Nat.zero_le _⟩) (fun r9 σ9 H locs hw hP hS => ?_)
  rw [hw.2] at hP
  rw [hw.1]
  refine lv_iconst (v := 1) hx hb dX6_isQuiet_22 (by decide) ?_
  refine lv_isub hx hb dX6_isQuiet_23 ?_
  refine lv_istore (lv' := [(5, .int (r_2 - 1)), (4, .int (r_1 + 1)), (0, .ref (ad (22 * t))), (1, .ref (ad i1)), (2, .int x2), (3, .int x3)]) hx hb dX6_isQuiet_24 hl (by decide) rfl (fun ls hl => ?_)
  refine lv_aload_n hx hb dX6_isQuiet_26 rfl (lv_at hl 3 rfl) ?_
  refine gf_X6_67 C0 X hP i1 hi1 dX6_isQuiet_27 ?_
  refine lv_if_eq (tgt := 42) hx hb dX6_isQuiet_30 (by decide) (fun c_3 => ?_) (fun c_3 => ?_)
  · replace h := it_t h c_3
    refine lv_iconst (v := 0) hx hb dX6_isQuiet_42 (by decide) ?_
    refine lv_iload hx hb dX6_isQuiet_43 (lv_at hl 1 rfl) ?_
    refine lv_iload_n hx hb dX6_isQuiet_45 rfl (lv_at hl 5 rfl) ?_
    refine lv_isub hx hb dX6_isQuiet_46 ?_
    refine va_mmax (own := RX6) (index := 217) (rest := []) (x := 0) (y := ((r_1 + 1) - x3)) hx hb (by rw [hml]; exact hl.1.symm) hown (hts _ (tmc sb3_5 5 rfl (by decide +kernel))) (hts _ (tmc sb3_5 6 rfl (by decide +kernel))) (hts _ (tmc sb1_0 11 rfl (by decide +kernel))) (hts _ (tmc sb3_5 7 rfl (by decide +kernel))) (by decide) (Nat.le_of_ble_eq_true rfl) (Nat.zero_le _) (Nat.zero_le _) dX6_isQuiet_47 ?_
    refine lv_istore (lv' := [(4, .int (if 0 < ((r_1 + 1) - x3) then ((r_1 + 1) - x3) else 0)), (5, .int (r_2 - 1)), (0, .ref (ad (22 * t))), (1, .ref (ad i1)), (2, .int x2), (3, .int x3)]) hx hb dX6_isQuiet_50 hl (by decide) rfl (fun ls hl => ?_)
    refine lv_iconst (v := 0) hx hb dX6_isQuiet_52 (by decide) ?_
    refine lv_istore (lv' := [(6, .int 0), (4, .int (if 0 < ((r_1 + 1) - x3) then ((r_1 + 1) - x3) else 0)), (5, .int (r_2 - 1)), (0, .ref (ad (22 * t))), (1, .ref (ad i1)), (2, .int x2), (3, .int x3)]) hx hb dX6_isQuiet_53 hl (by decide) rfl (fun ls hl => ?_)
    have lp_4 : ∀ (nn55 : Nat) (v6 : Int32) (v4 : Int32) (v5 : Int32) (H : Heap) (locs : List Loc) (ls : Array Slot), F_X6_isQuiet_55 σ t i1 x2 x3 nn55 v6 v4 v5 = some res → WP D cA ad o σ H → va_S (FA ad s.heap.size) s.heap H locs → lv_has ls 8 [(6, .int v6), (4, .int v4), (5, .int v5), (0, .ref (ad (22 * t))), (1, .ref (ad i1)), (2, .int x2), (3, .int x3)] → W p l e (RM 1) s m ([.ref (ad (22 * t)), .ref (ad i1), .int x2, .int x3] : List Value).toArray below meth c H locs 0 0 (MQ below (va_Qi (fun r σ9 => r = res ∧ σ9 = σ) (QW D cA ad o) (FA ad s.heap.size)) ([.ref (ad (22 * t)), .ref (ad i1), .int x2, .int x3] : List Value).toArray s 0 0 (FA ad s.heap.size)) (F0 m 55 ls []) := by
      intro nn55
      induction nn55 with
      | zero => intro v6 v4 v5 H locs ls h hP hS hl; exact absurd (show none = some res from h) nofun
      | succ nn55 ih55 =>
        intro v6 v4 v5 H locs ls h hP hS hl
        replace h := (F_X6_isQuiet_55.eq_2 _ _ _ _ _ _ _ _ _).symm.trans h
        refine lv_iload hx hb dX6_isQuiet_55 (lv_at hl 0 rfl) ?_
        refine lv_aload_n hx hb dX6_isQuiet_57 rfl (lv_at hl 3 rfl) ?_
        refine gf_X6_46 C0 X hP (22 * t) (kdT t ht) dX6_isQuiet_58 ?_
        refine lv_icmp_ge (tgt := 113) hx hb dX6_isQuiet_61 (by decide) (fun c_5 => ?_) (fun c_5 => ?_)
        · replace h := it_t h c_5
          refine lv_iconst (v := 1) hx hb dX6_isQuiet_113 (by decide) ?_
          exact r_zret C0 X hP hS hr hlk dX6_isQuiet_114 (Or.inr rfl) ⟨Option.some.inj h, rfl⟩
        · replace h := it_f h c_5
          refine lv_aload_n hx hb dX6_isQuiet_64 rfl (lv_at hl 3 rfl) ?_
          refine gf_X6_20 C0 X hP (22 * t) (q := (22 * t + 13)) (kdT t ht) (by omega) (lkT1 t ht) dX6_isQuiet_65 ?_
          refine lv_iload hx hb dX6_isQuiet_68 (lv_at hl 0 rfl) ?_
          obtain ⟨k_6, ek_6, h⟩ := bnd h
          replace ek_6 := ix_s ek_6 (by decide)
          refine r_aaldCN C0 X hP (22 * t + 13) (k := k_6) (q := (22 * t + 15 + k_6)) (kdCA t ht) ek_6.1 ek_6.2 (lkCA t ht k_6 ek_6.2) dX6_isQuiet_70 ?_
          refine lv_astore (lv' := [(7, .ref (ad (22 * t + 15 + k_6))), (6, .int v6), (4, .int v4), (5, .int v5), (0, .ref (ad (22 * t))), (1, .ref (ad i1)), (2, .int x2), (3, .int x3)]) hx hb dX6_isQuiet_71 hl (by decide) rfl (fun ls hl => ?_)
          refine lv_aload hx hb dX6_isQuiet_73 (lv_at hl 0 rfl) ?_
          refine gf_X6_67 C0 X hP (22 * t + 15 + k_6) (kdC t ht k_6 ek_6.2) dX6_isQuiet_75 ?_
          refine lv_aload_n hx hb dX6_isQuiet_78 rfl (lv_at hl 5 rfl) ?_
          refine gf_X6_67 C0 X hP i1 hi1 dX6_isQuiet_79 ?_
          refine lv_icmp_eq (tgt := 107) hx hb dX6_isQuiet_82 (by decide) (fun c_7 => ?_) (fun c_7 => ?_)
          · replace h := it_t h c_7
            refine lv_iinc (v := (v6 + 1)) (lv' := [(6, .int (v6 + 1)), (7, .ref (ad (22 * t + 15 + k_6))), (4, .int v4), (5, .int v5), (0, .ref (ad (22 * t))), (1, .ref (ad i1)), (2, .int x2), (3, .int x3)]) hx hb dX6_isQuiet_107 hl (k := 1) rfl rfl (by decide) rfl (fun ls hl => ?_)
            refine lv_goto (tgt := 55) hx hb dX6_isQuiet_110 (by decide) ?_
            exact ih55 (v6 + 1) v4 v5 _ _ ls  h hP hS (lv_sub hl [0, 2, 3, 4, 5, 6, 7] rfl)
          · replace h := it_f h c_7
            refine lv_aload hx hb dX6_isQuiet_85 (lv_at hl 0 rfl) ?_
            refine gf_X6_83 C0 X hP (22 * t + 15 + k_6) (kdC t ht k_6 ek_6.2) dX6_isQuiet_87 ?_
            refine lv_iload hx hb dX6_isQuiet_90 (lv_at hl 2 rfl) ?_
            refine lv_icmp_lt (tgt := 107) hx hb dX6_isQuiet_92 (by decide) (fun c_8 => ?_) (fun c_8 => ?_)
            · replace h := it_t h c_8
              refine lv_iinc (v := (v6 + 1)) (lv' := [(6, .int (v6 + 1)), (7, .ref (ad (22 * t + 15 + k_6))), (4, .int v4), (5, .int v5), (0, .ref (ad (22 * t))), (1, .ref (ad i1)), (2, .int x2), (3, .int x3)]) hx hb dX6_isQuiet_107 hl (k := 1) rfl rfl (by decide) rfl (fun ls hl => ?_)
              refine lv_goto (tgt := 55) hx hb dX6_isQuiet_110 (by decide) ?_
              exact ih55 (v6 + 1) v4 v5 _ _ ls  h hP hS (lv_sub hl [0, 2, 3, 4, 5, 6, 7] rfl)
            · replace h := it_f h c_8
              refine lv_aload hx hb dX6_isQuiet_95 (lv_at hl 0 rfl) ?_
              refine gf_X6_83 C0 X hP (22 * t + 15 + k_6) (kdC t ht k_6 ek_6.2) dX6_isQuiet_97 ?_
              refine lv_iload hx hb dX6_isQuiet_100 (lv_at hl 3 rfl) ?_
              refine lv_icmp_gt (tgt := 107) hx hb dX6_isQuiet_102 (by decide) (fun c_9 => ?_) (fun c_9 => ?_)
              · replace h := it_t h c_9
                refine lv_iinc (v := (v6 + 1)) (lv' := [(6, .int (v6 + 1)), (7, .ref (ad (22 * t + 15 + k_6))), (4, .int v4), (5, .int v5), (0, .ref (ad (22 * t))), (1, .ref (ad i1)), (2, .int x2), (3, .int x3)]) hx hb dX6_isQuiet_107 hl (k := 1) rfl rfl (by decide) rfl (fun ls hl => ?_)
                refine lv_goto (tgt := 55) hx hb dX6_isQuiet_110 (by decide) ?_
                exact ih55 (v6 + 1) v4 v5 _ _ ls  h hP hS (lv_sub hl [0, 2, 3, 4, 5, 6, 7] rfl)
              · replace h := it_f h c_9
                refine lv_iconst (v := 0) hx hb dX6_isQuiet_105 (by decide) ?_
                exact r_zret C0 X hP hS hr hlk dX6_isQuiet_106 (Or.inl rfl) ⟨Option.some.inj h, rfl⟩
    exact lp_4 FU 0 (if 0 < ((r_1 + 1) - x3) then ((r_1 + 1) - x3) else 0) (r_2 - 1) _ _ ls  h hP hS (lv_sub hl [0, 1, 2, 3, 4, 5, 6] rfl)
  · replace h := it_f h c_3
    refine lv_iload hx hb dX6_isQuiet_33 (lv_at hl 0 rfl) ?_
    refine lv_iload_n hx hb dX6_isQuiet_35 rfl (lv_at hl 5 rfl) ?_
    refine lv_iadd hx hb dX6_isQuiet_36 ?_
    refine lv_istore (lv' := [(5, .int ((r_2 - 1) + x3)), (4, .int (r_1 + 1)), (0, .ref (ad (22 * t))), (1, .ref (ad i1)), (2, .int x2), (3, .int x3)]) hx hb dX6_isQuiet_37 hl (by decide) rfl (fun ls hl => ?_)
    refine lv_goto (tgt := 52) hx hb dX6_isQuiet_39 (by decide) ?_
    refine lv_iconst (v := 0) hx hb dX6_isQuiet_52 (by decide) ?_
    refine lv_istore (lv' := [(6, .int 0), (5, .int ((r_2 - 1) + x3)), (4, .int (r_1 + 1)), (0, .ref (ad (22 * t))), (1, .ref (ad i1)), (2, .int x2), (3, .int x3)]) hx hb dX6_isQuiet_53 hl (by decide) rfl (fun ls hl => ?_)
    have lp_10 : ∀ (nn55 : Nat) (v6 : Int32) (v5 : Int32) (v4 : Int32) (H : Heap) (locs : List Loc) (ls : Array Slot), F_X6_isQuiet_55b σ t i1 x2 x3 nn55 v6 v5 v4 = some res → WP D cA ad o σ H → va_S (FA ad s.heap.size) s.heap H locs → lv_has ls 8 [(6, .int v6), (5, .int v5), (4, .int v4), (0, .ref (ad (22 * t))), (1, .ref (ad i1)), (2, .int x2), (3, .int x3)] → W p l e (RM 1) s m ([.ref (ad (22 * t)), .ref (ad i1), .int x2, .int x3] : List Value).toArray below meth c H locs 0 0 (MQ below (va_Qi (fun r σ9 => r = res ∧ σ9 = σ) (QW D cA ad o) (FA ad s.heap.size)) ([.ref (ad (22 * t)), .ref (ad i1), .int x2, .int x3] : List Value).toArray s 0 0 (FA ad s.heap.size)) (F0 m 55 ls []) := by
      intro nn55
      induction nn55 with
      | zero => intro v6 v5 v4 H locs ls h hP hS hl; exact absurd (show none = some res from h) nofun
      | succ nn55 ih55 =>
        intro v6 v5 v4 H locs ls h hP hS hl
        replace h := (F_X6_isQuiet_55b.eq_2 _ _ _ _ _ _ _ _ _).symm.trans h
        refine lv_iload hx hb dX6_isQuiet_55 (lv_at hl 0 rfl) ?_
        refine lv_aload_n hx hb dX6_isQuiet_57 rfl (lv_at hl 3 rfl) ?_
        refine gf_X6_46 C0 X hP (22 * t) (kdT t ht) dX6_isQuiet_58 ?_
        refine lv_icmp_ge (tgt := 113) hx hb dX6_isQuiet_61 (by decide) (fun c_11 => ?_) (fun c_11 => ?_)
        · replace h := it_t h c_11
          refine lv_iconst (v := 1) hx hb dX6_isQuiet_113 (by decide) ?_
          exact r_zret C0 X hP hS hr hlk dX6_isQuiet_114 (Or.inr rfl) ⟨Option.some.inj h, rfl⟩
        · replace h := it_f h c_11
          refine lv_aload_n hx hb dX6_isQuiet_64 rfl (lv_at hl 3 rfl) ?_
          refine gf_X6_20 C0 X hP (22 * t) (q := (22 * t + 13)) (kdT t ht) (by omega) (lkT1 t ht) dX6_isQuiet_65 ?_
          refine lv_iload hx hb dX6_isQuiet_68 (lv_at hl 0 rfl) ?_
          obtain ⟨k_12, ek_12, h⟩ := bnd h
          replace ek_12 := ix_s ek_12 (by decide)
          refine r_aaldCN C0 X hP (22 * t + 13) (k := k_12) (q := (22 * t + 15 + k_12)) (kdCA t ht) ek_12.1 ek_12.2 (lkCA t ht k_12 ek_12.2) dX6_isQuiet_70 ?_
          refine lv_astore (lv' := [(7, .ref (ad (22 * t + 15 + k_12))), (6, .int v6), (5, .int v5), (4, .int v4), (0, .ref (ad (22 * t))), (1, .ref (ad i1)), (2, .int x2), (3, .int x3)]) hx hb dX6_isQuiet_71 hl (by decide) rfl (fun ls hl => ?_)
          refine lv_aload hx hb dX6_isQuiet_73 (lv_at hl 0 rfl) ?_
          refine gf_X6_67 C0 X hP (22 * t + 15 + k_12) (kdC t ht k_12 ek_12.2) dX6_isQuiet_75 ?_
          refine lv_aload_n hx hb dX6_isQuiet_78 rfl (lv_at hl 5 rfl) ?_
          refine gf_X6_67 C0 X hP i1 hi1 dX6_isQuiet_79 ?_
          refine lv_icmp_eq (tgt := 107) hx hb dX6_isQuiet_82 (by decide) (fun c_13 => ?_) (fun c_13 => ?_)
          · replace h := it_t h c_13
            refine lv_iinc (v := (v6 + 1)) (lv' := [(6, .int (v6 + 1)), (7, .ref (ad (22 * t + 15 + k_12))), (5, .int v5), (4, .int v4), (0, .ref (ad (22 * t))), (1, .ref (ad i1)), (2, .int x2), (3, .int x3)]) hx hb dX6_isQuiet_107 hl (k := 1) rfl rfl (by decide) rfl (fun ls hl => ?_)
            refine lv_goto (tgt := 55) hx hb dX6_isQuiet_110 (by decide) ?_
            exact ih55 (v6 + 1) v5 v4 _ _ ls  h hP hS (lv_sub hl [0, 2, 3, 4, 5, 6, 7] rfl)
          · replace h := it_f h c_13
            refine lv_aload hx hb dX6_isQuiet_85 (lv_at hl 0 rfl) ?_
            refine gf_X6_83 C0 X hP (22 * t + 15 + k_12) (kdC t ht k_12 ek_12.2) dX6_isQuiet_87 ?_
            refine lv_iload hx hb dX6_isQuiet_90 (lv_at hl 3 rfl) ?_
            refine lv_icmp_lt (tgt := 107) hx hb dX6_isQuiet_92 (by decide) (fun c_14 => ?_) (fun c_14 => ?_)
            · replace h := it_t h c_14
              refine lv_iinc (v := (v6 + 1)) (lv' := [(6, .int (v6 + 1)), (7, .ref (ad (22 * t + 15 + k_12))), (5, .int v5), (4, .int v4), (0, .ref (ad (22 * t))), (1, .ref (ad i1)), (2, .int x2), (3, .int x3)]) hx hb dX6_isQuiet_107 hl (k := 1) rfl rfl (by decide) rfl (fun ls hl => ?_)
              refine lv_goto (tgt := 55) hx hb dX6_isQuiet_110 (by decide) ?_
              exact ih55 (v6 + 1) v5 v4 _ _ ls  h hP hS (lv_sub hl [0, 2, 3, 4, 5, 6, 7] rfl)
            · replace h := it_f h c_14
              refine lv_aload hx hb dX6_isQuiet_95 (lv_at hl 0 rfl) ?_
              refine gf_X6_83 C0 X hP (22 * t + 15 + k_12) (kdC t ht k_12 ek_12.2) dX6_isQuiet_97 ?_
              refine lv_iload hx hb dX6_isQuiet_100 (lv_at hl 2 rfl) ?_
              refine lv_icmp_gt (tgt := 107) hx hb dX6_isQuiet_102 (by decide) (fun c_15 => ?_) (fun c_15 => ?_)
              · replace h := it_t h c_15
                refine lv_iinc (v := (v6 + 1)) (lv' := [(6, .int (v6 + 1)), (7, .ref (ad (22 * t + 15 + k_12))), (5, .int v5), (4, .int v4), (0, .ref (ad (22 * t))), (1, .ref (ad i1)), (2, .int x2), (3, .int x3)]) hx hb dX6_isQuiet_107 hl (k := 1) rfl rfl (by decide) rfl (fun ls hl => ?_)
                refine lv_goto (tgt := 55) hx hb dX6_isQuiet_110 (by decide) ?_
                exact ih55 (v6 + 1) v5 v4 _ _ ls  h hP hS (lv_sub hl [0, 2, 3, 4, 5, 6, 7] rfl)
              · replace h := it_f h c_15
                refine lv_iconst (v := 0) hx hb dX6_isQuiet_105 (by decide) ?_
                exact r_zret C0 X hP hS hr hlk dX6_isQuiet_106 (Or.inl rfl) ⟨Option.some.inj h, rfl⟩
    exact lp_10 FU 0 ((r_2 - 1) + x3) (r_1 + 1) _ _ ls  h hP hS (lv_sub hl [0, 1, 2, 3, 4, 5, 6] rfl)
def bB_cX6_letsIn : Nat := 0xac04ac030400a7040700999500b6d600b61c0400a760041c0900994300b42b0c00b42a2a230099d200b604151c2b2aacd200b604151c2b2aac030400a704070099ce00b604152b2a0d00a08100b62b2a5300b42b3e000000350000001900000005000000030000006b000000aa2e1dcb00b40c00b42a04362e1dc800b40c00b42a3ec500b61c0c00b42a3dad00b62b2a
theorem yB_cX6_letsIn : BYS cX6_letsIn 144 bB_cX6_letsIn := BYS_of (by decide +kernel)
theorem dX6_letsIn_0 : decode cX6_letsIn 0 = .ok (.aload_n 0, 1) := D_42 yB_cX6_letsIn rfl rfl
theorem dX6_letsIn_1 : decode cX6_letsIn 1 = .ok (.aload_n 1, 1) := D_43 yB_cX6_letsIn rfl rfl
theorem dX6_letsIn_2 : decode cX6_letsIn 2 = .ok (.invokevirtual 173, 3) := D_182 yB_cX6_letsIn rfl rfl rfl
theorem dX6_letsIn_5 : decode cX6_letsIn 5 = .ok (.istore_n 2, 1) := D_61 yB_cX6_letsIn rfl rfl
theorem dX6_letsIn_6 : decode cX6_letsIn 6 = .ok (.aload_n 0, 1) := D_42 yB_cX6_letsIn rfl rfl
theorem dX6_letsIn_7 : decode cX6_letsIn 7 = .ok (.getfield 12, 3) := D_180 yB_cX6_letsIn rfl rfl rfl
theorem dX6_letsIn_10 : decode cX6_letsIn 10 = .ok (.iload_n 2, 1) := D_28 yB_cX6_letsIn rfl rfl
theorem dX6_letsIn_11 : decode cX6_letsIn 11 = .ok (.invokevirtual 197, 3) := D_182 yB_cX6_letsIn rfl rfl rfl
theorem dX6_letsIn_14 : decode cX6_letsIn 14 = .ok (.istore_n 3, 1) := D_62 yB_cX6_letsIn rfl rfl
theorem dX6_letsIn_15 : decode cX6_letsIn 15 = .ok (.aload_n 0, 1) := D_42 yB_cX6_letsIn rfl rfl
theorem dX6_letsIn_16 : decode cX6_letsIn 16 = .ok (.getfield 12, 3) := D_180 yB_cX6_letsIn rfl rfl rfl
theorem dX6_letsIn_19 : decode cX6_letsIn 19 = .ok (.getfield 200, 3) := D_180 yB_cX6_letsIn rfl rfl rfl
theorem dX6_letsIn_22 : decode cX6_letsIn 22 = .ok (.iload_n 3, 1) := D_29 yB_cX6_letsIn rfl rfl
theorem dX6_letsIn_23 : decode cX6_letsIn 23 = .ok (.iaload, 1) := D_46 yB_cX6_letsIn rfl rfl
theorem dX6_letsIn_24 : decode cX6_letsIn 24 = .ok (.istore 4, 2) := D_54 yB_cX6_letsIn rfl rfl rfl
theorem dX6_letsIn_26 : decode cX6_letsIn 26 = .ok (.aload_n 0, 1) := D_42 yB_cX6_letsIn rfl rfl
theorem dX6_letsIn_27 : decode cX6_letsIn 27 = .ok (.getfield 12, 3) := D_180 yB_cX6_letsIn rfl rfl rfl
theorem dX6_letsIn_30 : decode cX6_letsIn 30 = .ok (.getfield 203, 3) := D_180 yB_cX6_letsIn rfl rfl rfl
theorem dX6_letsIn_33 : decode cX6_letsIn 33 = .ok (.iload_n 3, 1) := D_29 yB_cX6_letsIn rfl rfl
theorem dX6_letsIn_34 : decode cX6_letsIn 34 = .ok (.iaload, 1) := D_46 yB_cX6_letsIn rfl rfl
theorem dX6_letsIn_35 : decode cX6_letsIn 35 = .ok (.tableswitch 107 3 5 #[25, 53, 62], 25) := by decide +kernel
theorem dX6_letsIn_60 : decode cX6_letsIn 60 = .ok (.aload_n 1, 1) := D_43 yB_cX6_letsIn rfl rfl
theorem dX6_letsIn_61 : decode cX6_letsIn 61 = .ok (.getfield 83, 3) := D_180 yB_cX6_letsIn rfl rfl rfl
theorem dX6_letsIn_64 : decode cX6_letsIn 64 = .ok (.aload_n 0, 1) := D_42 yB_cX6_letsIn rfl rfl
theorem dX6_letsIn_65 : decode cX6_letsIn 65 = .ok (.aload_n 1, 1) := D_43 yB_cX6_letsIn rfl rfl
theorem dX6_letsIn_66 : decode cX6_letsIn 66 = .ok (.invokevirtual 129, 3) := D_182 yB_cX6_letsIn rfl rfl rfl
theorem dX6_letsIn_69 : decode cX6_letsIn 69 = .ok (.if_icmp .ne 13, 3) := D_160 yB_cX6_letsIn rfl rfl (sg_p (m := 32768) (N := 13) rfl rfl rfl)
theorem dX6_letsIn_72 : decode cX6_letsIn 72 = .ok (.aload_n 0, 1) := D_42 yB_cX6_letsIn rfl rfl
theorem dX6_letsIn_73 : decode cX6_letsIn 73 = .ok (.aload_n 1, 1) := D_43 yB_cX6_letsIn rfl rfl
theorem dX6_letsIn_74 : decode cX6_letsIn 74 = .ok (.iload 4, 2) := D_21 yB_cX6_letsIn rfl rfl rfl
theorem dX6_letsIn_76 : decode cX6_letsIn 76 = .ok (.invokevirtual 206, 3) := D_182 yB_cX6_letsIn rfl rfl rfl
theorem dX6_letsIn_79 : decode cX6_letsIn 79 = .ok (.ifCond .eq 7, 3) := D_153 yB_cX6_letsIn rfl rfl (sg_p (m := 32768) (N := 7) rfl rfl rfl)
theorem dX6_letsIn_82 : decode cX6_letsIn 82 = .ok (.iconst 1, 1) := D_4 yB_cX6_letsIn rfl rfl
theorem dX6_letsIn_83 : decode cX6_letsIn 83 = .ok (.goto 4, 3) := D_167 yB_cX6_letsIn rfl rfl (sg_p (m := 32768) (N := 4) rfl rfl rfl)
theorem dX6_letsIn_86 : decode cX6_letsIn 86 = .ok (.iconst 0, 1) := D_3 yB_cX6_letsIn rfl rfl
theorem dX6_letsIn_87 : decode cX6_letsIn 87 = .ok (.ireturn, 1) := D_172 yB_cX6_letsIn rfl rfl
theorem dX6_letsIn_88 : decode cX6_letsIn 88 = .ok (.aload_n 0, 1) := D_42 yB_cX6_letsIn rfl rfl
theorem dX6_letsIn_89 : decode cX6_letsIn 89 = .ok (.aload_n 1, 1) := D_43 yB_cX6_letsIn rfl rfl
theorem dX6_letsIn_90 : decode cX6_letsIn 90 = .ok (.iload_n 2, 1) := D_28 yB_cX6_letsIn rfl rfl
theorem dX6_letsIn_91 : decode cX6_letsIn 91 = .ok (.iload 4, 2) := D_21 yB_cX6_letsIn rfl rfl rfl
theorem dX6_letsIn_93 : decode cX6_letsIn 93 = .ok (.invokevirtual 210, 3) := D_182 yB_cX6_letsIn rfl rfl rfl
theorem dX6_letsIn_96 : decode cX6_letsIn 96 = .ok (.ireturn, 1) := D_172 yB_cX6_letsIn rfl rfl
theorem dX6_letsIn_97 : decode cX6_letsIn 97 = .ok (.aload_n 0, 1) := D_42 yB_cX6_letsIn rfl rfl
theorem dX6_letsIn_98 : decode cX6_letsIn 98 = .ok (.aload_n 1, 1) := D_43 yB_cX6_letsIn rfl rfl
theorem dX6_letsIn_99 : decode cX6_letsIn 99 = .ok (.iload_n 2, 1) := D_28 yB_cX6_letsIn rfl rfl
theorem dX6_letsIn_100 : decode cX6_letsIn 100 = .ok (.iload 4, 2) := D_21 yB_cX6_letsIn rfl rfl rfl
theorem dX6_letsIn_102 : decode cX6_letsIn 102 = .ok (.invokevirtual 210, 3) := D_182 yB_cX6_letsIn rfl rfl rfl
theorem dX6_letsIn_105 : decode cX6_letsIn 105 = .ok (.ifCond .eq 35, 3) := D_153 yB_cX6_letsIn rfl rfl (sg_p (m := 32768) (N := 35) rfl rfl rfl)
theorem dX6_letsIn_108 : decode cX6_letsIn 108 = .ok (.aload_n 0, 1) := D_42 yB_cX6_letsIn rfl rfl
theorem dX6_letsIn_109 : decode cX6_letsIn 109 = .ok (.aload_n 0, 1) := D_42 yB_cX6_letsIn rfl rfl
theorem dX6_letsIn_110 : decode cX6_letsIn 110 = .ok (.getfield 12, 3) := D_180 yB_cX6_letsIn rfl rfl rfl
theorem dX6_letsIn_113 : decode cX6_letsIn 113 = .ok (.aload_n 1, 1) := D_43 yB_cX6_letsIn rfl rfl
theorem dX6_letsIn_114 : decode cX6_letsIn 114 = .ok (.getfield 67, 3) := D_180 yB_cX6_letsIn rfl rfl rfl
theorem dX6_letsIn_117 : decode cX6_letsIn 117 = .ok (.ifCond .eq 9, 3) := D_153 yB_cX6_letsIn rfl rfl (sg_p (m := 32768) (N := 9) rfl rfl rfl)
theorem dX6_letsIn_120 : decode cX6_letsIn 120 = .ok (.iload_n 2, 1) := D_28 yB_cX6_letsIn rfl rfl
theorem dX6_letsIn_121 : decode cX6_letsIn 121 = .ok (.iconst 1, 1) := D_4 yB_cX6_letsIn rfl rfl
theorem dX6_letsIn_122 : decode cX6_letsIn 122 = .ok (.iadd, 1) := D_96 yB_cX6_letsIn rfl rfl
theorem dX6_letsIn_123 : decode cX6_letsIn 123 = .ok (.goto 4, 3) := D_167 yB_cX6_letsIn rfl rfl (sg_p (m := 32768) (N := 4) rfl rfl rfl)
theorem dX6_letsIn_126 : decode cX6_letsIn 126 = .ok (.iload_n 2, 1) := D_28 yB_cX6_letsIn rfl rfl
theorem dX6_letsIn_127 : decode cX6_letsIn 127 = .ok (.invokevirtual 214, 3) := D_182 yB_cX6_letsIn rfl rfl rfl
theorem dX6_letsIn_130 : decode cX6_letsIn 130 = .ok (.invokevirtual 149, 3) := D_182 yB_cX6_letsIn rfl rfl rfl
theorem dX6_letsIn_133 : decode cX6_letsIn 133 = .ok (.ifCond .eq 7, 3) := D_153 yB_cX6_letsIn rfl rfl (sg_p (m := 32768) (N := 7) rfl rfl rfl)
theorem dX6_letsIn_136 : decode cX6_letsIn 136 = .ok (.iconst 1, 1) := D_4 yB_cX6_letsIn rfl rfl
theorem dX6_letsIn_137 : decode cX6_letsIn 137 = .ok (.goto 4, 3) := D_167 yB_cX6_letsIn rfl rfl (sg_p (m := 32768) (N := 4) rfl rfl rfl)
theorem dX6_letsIn_140 : decode cX6_letsIn 140 = .ok (.iconst 0, 1) := D_3 yB_cX6_letsIn rfl rfl
theorem dX6_letsIn_141 : decode cX6_letsIn 141 = .ok (.ireturn, 1) := D_172 yB_cX6_letsIn rfl rfl
theorem dX6_letsIn_142 : decode cX6_letsIn 142 = .ok (.iconst 1, 1) := D_4 yB_cX6_letsIn rfl rfl
theorem dX6_letsIn_143 : decode cX6_letsIn 143 = .ok (.ireturn, 1) := D_172 yB_cX6_letsIn rfl rfl
def F_X6_letsIn (σ : Mem) (t : Nat) (i1 : Nat) : Option (Int32) := (F_X6_pieceAhead σ t i1).bind fun r_1 => (F_X4_villageBy σ t r_1).bind fun r_2 => (ix 3 r_2).bind fun k_3 => (ix 3 r_2).bind fun k_4 => if (σ (22 * t + 11) k_4) = 3 then ((F_X6_ownEnd σ t i1).bind fun r_7 => if (σ i1 6) = r_7 then ((F_X6_isHourOf σ t i1 (σ (22 * t + 12) k_3)).bind fun r_9 => if r_9 = 0 then (some 0) else (some 1)) else (some 1)) else (if (σ (22 * t + 11) k_4) = 4 then ((F_X6_isQuiet σ t i1 r_1 (σ (22 * t + 12) k_3)).bind fun r_12 => ck (r_12 = 0 ∨ r_12 = 1) <| some r_12) else (if (σ (22 * t + 11) k_4) = 5 then ((F_X6_isQuiet σ t i1 r_1 (σ (22 * t + 12) k_3)).bind fun r_15 => if r_15 = 0 then (some 0) else (if (σ i1 0) = 0 then ((F_X4_spotOfPlace σ t r_1).bind fun r_18 => (F_X6_hasRoom σ t r_18).bind fun r_19 => if r_19 = 0 then (some 0) else (some 1)) else ((F_X4_spotOfPlace σ t (r_1 + 1)).bind fun r_21 => (F_X6_hasRoom σ t r_21).bind fun r_22 => if r_22 = 0 then (some 0) else (some 1)))) else (some 1)))
set_option maxHeartbeats 4000000 in
set_option maxRecDepth 100000 in
theorem c_X6_letsIn (l : Launch) (D : va_G) (cA : Nat → ClassId) (ad : Nat → Nat) (o : Int64) (σ : Mem) (t : Nat) (i1 : Nat) (ht : t < 3) (hi1 : i1 < 106 ∧ kd i1 = (0, 12)) (res : Int32) (h : F_X6_letsIn σ t i1 = some res) (sz : Nat) : Met l yX6_letsIn (WY yX6_letsIn cX6_letsIn 5 (some .boolean)) (RM 2) (va_Pc [.ref (ad (22 * t)), .ref (ad i1)] (PW D cA ad o σ sz)) (va_Qi (fun r σ9 => r = res ∧ σ9 = σ) (QW D cA ad o) (FA ad sz)) 0 0 (FA ad sz) := by
  refine ct_of (own := RX6) (k := 2) (Qf := va_Qi (fun r σ9 => r = res ∧ σ9 = σ) (QW D cA ad o)) rfl (by decide) (Nat.le_of_ble_eq_true rfl) (fun p e s m below meth c ls C0 X hr hlk hP hl => ?_) sz
  have hS : va_S (FA ad s.heap.size) s.heap s.heap [] := va_S.rf
  have hl : lv_has ls 5 [(0, .ref (ad (22 * t))), (1, .ref (ad i1))] := hl
  obtain ⟨hx, hb, hml, hown, hts⟩ := id C0
  unfold F_X6_letsIn at h
  refine lv_aload_n hx hb dX6_letsIn_0 rfl (lv_at hl 0 rfl) ?_
  refine lv_aload_n hx hb dX6_letsIn_1 rfl (lv_at hl 1 rfl) ?_
  obtain ⟨r_1, er_1, h⟩ := bnd h
  refine r_ci X hS (r_runV (As := [.ref (ad i1)]) (rest := []) C0 X hP L_X6_173 (fun sz => c_X6_pieceAhead l D cA ad o σ t i1 ht hi1 r_1 er_1 sz) (kdT t ht).1 (kdT t ht).2 (by decide) rfl ⟨Nat.le_of_ble_eq_true rfl, Nat.le_of_ble_eq_true rfl⟩ rfl hl.1 rfl (Nat.le_of_ble_eq_true rfl) dX6_letsIn_2 ⟨Nat.zero_le _, Nat.zero_le _⟩) (fun r9 σ9 H locs hw hP hS => ?_)
  rw [hw.2] at hP
  rw [hw.1]
  refine lv_istore_n (lv' := [(2, .int r_1), (0, .ref (ad (22 * t))), (1, .ref (ad i1))]) hx hb dX6_letsIn_5 rfl hl (by decide) rfl (fun ls hl => ?_)
  refine lv_aload_n hx hb dX6_letsIn_6 rfl (lv_at hl 1 rfl) ?_
  refine gf_X6_12 C0 X hP (22 * t) (q := (22 * t + 1)) (kdT t ht) (by omega) (lkT0 t ht) dX6_letsIn_7 ?_
  refine lv_iload_n hx hb dX6_letsIn_10 rfl (lv_at hl 0 rfl) ?_
  obtain ⟨r_2, er_2, h⟩ := bnd h
  refine r_ci X hS (r_runV (As := [.int r_1]) (rest := []) C0 X hP L_X6_197 (fun sz => c_X4_villageBy l D cA ad o σ t r_1 ht r_2 er_2 sz) (kdR t ht).1 (kdR t ht).2 (by decide) rfl ⟨Nat.le_of_ble_eq_true rfl, Nat.le_of_ble_eq_true rfl⟩ rfl hl.1 rfl (Nat.le_of_ble_eq_true rfl) dX6_letsIn_11 ⟨Nat.zero_le _, Nat.zero_le _⟩) (fun r9 σ9 H locs hw hP hS => ?_)
  rw [hw.2] at hP
  rw [hw.1]
  refine lv_istore_n (lv' := [(3, .int r_2), (2, .int r_1), (0, .ref (ad (22 * t))), (1, .ref (ad i1))]) hx hb dX6_letsIn_14 rfl hl (by decide) rfl (fun ls hl => ?_)
  refine lv_aload_n hx hb dX6_letsIn_15 rfl (lv_at hl 2 rfl) ?_
  refine gf_X6_12 C0 X hP (22 * t) (q := (22 * t + 1)) (kdT t ht) (by omega) (lkT0 t ht) dX6_letsIn_16 ?_
  refine gf_X6_200 C0 X hP (22 * t + 1) (q := (22 * t + 12)) (kdR t ht) (by omega) (lkR12 t ht) dX6_letsIn_19 ?_
  refine lv_iload_n hx hb dX6_letsIn_22 rfl (lv_at hl 0 rfl) ?_
  obtain ⟨k_3, ek_3, h⟩ := bnd h
  replace ek_3 := ix_s ek_3 (by decide)
  refine r_ialdN C0 X hP (22 * t + 12) (k := k_3) (kdA12 t ht) ek_3.1 ek_3.2 dX6_letsIn_23 ?_
  refine lv_istore (lv' := [(4, .int (σ (22 * t + 12) k_3)), (3, .int r_2), (2, .int r_1), (0, .ref (ad (22 * t))), (1, .ref (ad i1))]) hx hb dX6_letsIn_24 hl (by decide) rfl (fun ls hl => ?_)
  refine lv_aload_n hx hb dX6_letsIn_26 rfl (lv_at hl 3 rfl) ?_
  refine gf_X6_12 C0 X hP (22 * t) (q := (22 * t + 1)) (kdT t ht) (by omega) (lkT0 t ht) dX6_letsIn_27 ?_
  refine gf_X6_203 C0 X hP (22 * t + 1) (q := (22 * t + 11)) (kdR t ht) (by omega) (lkR11 t ht) dX6_letsIn_30 ?_
  refine lv_iload_n hx hb dX6_letsIn_33 rfl (lv_at hl 1 rfl) ?_
  obtain ⟨k_4, ek_4, h⟩ := bnd h
  replace ek_4 := ix_s ek_4 (by decide)
  refine r_ialdN C0 X hP (22 * t + 11) (k := k_4) (kdA11 t ht) ek_4.1 ek_4.2 dX6_letsIn_34 ?_
  rcases sw_in (x := (σ (22 * t + 11) k_4)) (lo := 3) (n := 3) with c_5 | ⟨j, hj, c_5⟩
  · replace h := it_f h (sw_ne (v := 3) c_5 (by decide))
    replace h := it_f h (sw_ne (v := 4) c_5 (by decide))
    replace h := it_f h (sw_ne (v := 5) c_5 (by decide))
    refine lv_tableOut (tgt := 142) hx hb dX6_letsIn_35 (by omega) (by decide) ?_
    refine lv_iconst (v := 1) hx hb dX6_letsIn_142 (by decide) ?_
    exact r_zret C0 X hP hS hr hlk dX6_letsIn_143 (Or.inr rfl) ⟨Option.some.inj h, rfl⟩
  · rcases (show j = 0 ∨ j = 1 ∨ j = 2 by omega) with rfl | rfl | rfl
    · have e_6 : (σ (22 * t + 11) k_4) = 3 := sw_eq c_5 (by decide)
      replace h := it_t h e_6
      refine lv_tableIn (off := 25) (tgt := 60) hx hb dX6_letsIn_35 (by rw [e_6]; decide) (by rw [e_6]; decide) (by rw [e_6]; rfl) (by decide) ?_
      refine lv_aload_n hx hb dX6_letsIn_60 rfl (lv_at hl 4 rfl) ?_
      refine gf_X6_83 C0 X hP i1 hi1 dX6_letsIn_61 ?_
      refine lv_aload_n hx hb dX6_letsIn_64 rfl (lv_at hl 3 rfl) ?_
      refine lv_aload_n hx hb dX6_letsIn_65 rfl (lv_at hl 4 rfl) ?_
      obtain ⟨r_7, er_7, h⟩ := bnd h
      refine r_ci X hS (r_runV (As := [.ref (ad i1)]) (rest := [.int (σ i1 6)]) C0 X hP L_X6_129 (fun sz => c_X6_ownEnd l D cA ad o σ t i1 ht hi1 r_7 er_7 sz) (kdT t ht).1 (kdT t ht).2 (by decide) rfl ⟨Nat.le_of_ble_eq_true rfl, Nat.le_of_ble_eq_true rfl⟩ rfl hl.1 rfl (Nat.le_of_ble_eq_true rfl) dX6_letsIn_66 ⟨Nat.zero_le _, Nat.zero_le _⟩) (fun r9 σ9 H locs hw hP hS => ?_)
      rw [hw.2] at hP
      rw [hw.1]
      refine lv_icmp_ne (tgt := 82) hx hb dX6_letsIn_69 (by decide) (fun c_8 => ?_) (fun c_8 => ?_)
      · replace h := it_f h c_8
        refine lv_iconst (v := 1) hx hb dX6_letsIn_82 (by decide) ?_
        refine lv_goto (tgt := 87) hx hb dX6_letsIn_83 (by decide) ?_
        exact r_zret C0 X hP hS hr hlk dX6_letsIn_87 (Or.inr rfl) ⟨Option.some.inj h, rfl⟩
      · replace h := it_t h c_8
        refine lv_aload_n hx hb dX6_letsIn_72 rfl (lv_at hl 3 rfl) ?_
        refine lv_aload_n hx hb dX6_letsIn_73 rfl (lv_at hl 4 rfl) ?_
        refine lv_iload hx hb dX6_letsIn_74 (lv_at hl 0 rfl) ?_
        obtain ⟨r_9, er_9, h⟩ := bnd h
        refine r_ci X hS (r_runV (As := [.ref (ad i1), .int (σ (22 * t + 12) k_3)]) (rest := []) C0 X hP L_X6_206 (fun sz => c_X6_isHourOf l D cA ad o σ t i1 (σ (22 * t + 12) k_3) ht hi1 r_9 er_9 sz) (kdT t ht).1 (kdT t ht).2 (by decide) rfl ⟨Nat.le_of_ble_eq_true rfl, Nat.le_of_ble_eq_true rfl⟩ rfl hl.1 rfl (Nat.le_of_ble_eq_true rfl) dX6_letsIn_76 ⟨Nat.zero_le _, Nat.zero_le _⟩) (fun r9 σ9 H locs hw hP hS => ?_)
        rw [hw.2] at hP
        rw [hw.1]
        refine lv_if_eq (tgt := 86) hx hb dX6_letsIn_79 (by decide) (fun c_10 => ?_) (fun c_10 => ?_)
        · replace h := it_t h c_10
          refine lv_iconst (v := 0) hx hb dX6_letsIn_86 (by decide) ?_
          exact r_zret C0 X hP hS hr hlk dX6_letsIn_87 (Or.inl rfl) ⟨Option.some.inj h, rfl⟩
        · replace h := it_f h c_10
          refine lv_iconst (v := 1) hx hb dX6_letsIn_82 (by decide) ?_
          refine lv_goto (tgt := 87) hx hb dX6_letsIn_83 (by decide) ?_
          exact r_zret C0 X hP hS hr hlk dX6_letsIn_87 (Or.inr rfl) ⟨Option.some.inj h, rfl⟩
    · have e_11 : (σ (22 * t + 11) k_4) = 4 := sw_eq c_5 (by decide)
      replace h := it_f h (show ¬ (σ (22 * t + 11) k_4) = 3 by rw [e_11]; decide)
      replace h := it_t h e_11
      refine lv_tableIn (off := 53) (tgt := 88) hx hb dX6_letsIn_35 (by rw [e_11]; decide) (by rw [e_11]; decide) (by rw [e_11]; rfl) (by decide) ?_
      refine lv_aload_n hx hb dX6_letsIn_88 rfl (lv_at hl 3 rfl) ?_
      refine lv_aload_n hx hb dX6_letsIn_89 rfl (lv_at hl 4 rfl) ?_
      refine lv_iload_n hx hb dX6_letsIn_90 rfl (lv_at hl 2 rfl) ?_
      refine lv_iload hx hb dX6_letsIn_91 (lv_at hl 0 rfl) ?_
      obtain ⟨r_12, er_12, h⟩ := bnd h
      refine r_ci X hS (r_runV (As := [.ref (ad i1), .int r_1, .int (σ (22 * t + 12) k_3)]) (rest := []) C0 X hP L_X6_210 (fun sz => c_X6_isQuiet l D cA ad o σ t i1 r_1 (σ (22 * t + 12) k_3) ht hi1 r_12 er_12 sz) (kdT t ht).1 (kdT t ht).2 (by decide) rfl ⟨Nat.le_of_ble_eq_true rfl, Nat.le_of_ble_eq_true rfl⟩ rfl hl.1 rfl (Nat.le_of_ble_eq_true rfl) dX6_letsIn_93 ⟨Nat.zero_le _, Nat.zero_le _⟩) (fun r9 σ9 H locs hw hP hS => ?_)
      rw [hw.2] at hP
      rw [hw.1]
      obtain ⟨q_13, h⟩ := ckp h
      exact r_zret C0 X hP hS hr hlk dX6_letsIn_96 q_13 ⟨Option.some.inj h, rfl⟩
    · have e_14 : (σ (22 * t + 11) k_4) = 5 := sw_eq c_5 (by decide)
      replace h := it_f h (show ¬ (σ (22 * t + 11) k_4) = 3 by rw [e_14]; decide)
      replace h := it_f h (show ¬ (σ (22 * t + 11) k_4) = 4 by rw [e_14]; decide)
      replace h := it_t h e_14
      refine lv_tableIn (off := 62) (tgt := 97) hx hb dX6_letsIn_35 (by rw [e_14]; decide) (by rw [e_14]; decide) (by rw [e_14]; rfl) (by decide) ?_
      refine lv_aload_n hx hb dX6_letsIn_97 rfl (lv_at hl 3 rfl) ?_
      refine lv_aload_n hx hb dX6_letsIn_98 rfl (lv_at hl 4 rfl) ?_
      refine lv_iload_n hx hb dX6_letsIn_99 rfl (lv_at hl 2 rfl) ?_
      refine lv_iload hx hb dX6_letsIn_100 (lv_at hl 0 rfl) ?_
      obtain ⟨r_15, er_15, h⟩ := bnd h
      refine r_ci X hS (r_runV (As := [.ref (ad i1), .int r_1, .int (σ (22 * t + 12) k_3)]) (rest := []) C0 X hP L_X6_210 (fun sz => c_X6_isQuiet l D cA ad o σ t i1 r_1 (σ (22 * t + 12) k_3) ht hi1 r_15 er_15 sz) (kdT t ht).1 (kdT t ht).2 (by decide) rfl ⟨Nat.le_of_ble_eq_true rfl, Nat.le_of_ble_eq_true rfl⟩ rfl hl.1 rfl (Nat.le_of_ble_eq_true rfl) dX6_letsIn_102 ⟨Nat.zero_le _, Nat.zero_le _⟩) (fun r9 σ9 H locs hw hP hS => ?_)
      rw [hw.2] at hP
      rw [hw.1]
      refine lv_if_eq (tgt := 140) hx hb dX6_letsIn_105 (by decide) (fun c_16 => ?_) (fun c_16 => ?_)
      · replace h := it_t h c_16
        refine lv_iconst (v := 0) hx hb dX6_letsIn_140 (by decide) ?_
        exact r_zret C0 X hP hS hr hlk dX6_letsIn_141 (Or.inl rfl) ⟨Option.some.inj h, rfl⟩
      · replace h := it_f h c_16
        refine lv_aload_n hx hb dX6_letsIn_108 rfl (lv_at hl 3 rfl) ?_
        refine lv_aload_n hx hb dX6_letsIn_109 rfl (lv_at hl 3 rfl) ?_
        refine gf_X6_12 C0 X hP (22 * t) (q := (22 * t + 1)) (kdT t ht) (by omega) (lkT0 t ht) dX6_letsIn_110 ?_
        refine lv_aload_n hx hb dX6_letsIn_113 rfl (lv_at hl 4 rfl) ?_
        refine gf_X6_67 C0 X hP i1 hi1 dX6_letsIn_114 ?_
        refine lv_if_eq (tgt := 126) hx hb dX6_letsIn_117 (by decide) (fun c_17 => ?_) (fun c_17 => ?_)
        · replace h := it_t h c_17
          refine lv_iload_n hx hb dX6_letsIn_126 rfl (lv_at hl 2 rfl) ?_
          obtain ⟨r_18, er_18, h⟩ := bnd h
          refine r_ci X hS (r_runV (As := [.int r_1]) (rest := [.ref (ad (22 * t))]) C0 X hP L_X6_214 (fun sz => c_X4_spotOfPlace l D cA ad o σ t r_1 ht r_18 er_18 sz) (kdR t ht).1 (kdR t ht).2 (by decide) rfl ⟨Nat.le_of_ble_eq_true rfl, Nat.le_of_ble_eq_true rfl⟩ rfl hl.1 rfl (Nat.le_of_ble_eq_true rfl) dX6_letsIn_127 ⟨Nat.zero_le _, Nat.zero_le _⟩) (fun r9 σ9 H locs hw hP hS => ?_)
          rw [hw.2] at hP
          rw [hw.1]
          obtain ⟨r_19, er_19, h⟩ := bnd h
          refine r_ci X hS (r_runV (As := [.int r_18]) (rest := []) C0 X hP L_X6_149 (fun sz => c_X6_hasRoom l D cA ad o σ t r_18 ht r_19 er_19 sz) (kdT t ht).1 (kdT t ht).2 (by decide) rfl ⟨Nat.le_of_ble_eq_true rfl, Nat.le_of_ble_eq_true rfl⟩ rfl hl.1 rfl (Nat.le_of_ble_eq_true rfl) dX6_letsIn_130 ⟨Nat.zero_le _, Nat.zero_le _⟩) (fun r9 σ9 H locs hw hP hS => ?_)
          rw [hw.2] at hP
          rw [hw.1]
          refine lv_if_eq (tgt := 140) hx hb dX6_letsIn_133 (by decide) (fun c_20 => ?_) (fun c_20 => ?_)
          · replace h := it_t h c_20
            refine lv_iconst (v := 0) hx hb dX6_letsIn_140 (by decide) ?_
            exact r_zret C0 X hP hS hr hlk dX6_letsIn_141 (Or.inl rfl) ⟨Option.some.inj h, rfl⟩
          · replace h := it_f h c_20
            refine lv_iconst (v := 1) hx hb dX6_letsIn_136 (by decide) ?_
            refine lv_goto (tgt := 141) hx hb dX6_letsIn_137 (by decide) ?_
            exact r_zret C0 X hP hS hr hlk dX6_letsIn_141 (Or.inr rfl) ⟨Option.some.inj h, rfl⟩
        · replace h := it_f h c_17
          refine lv_iload_n hx hb dX6_letsIn_120 rfl (lv_at hl 2 rfl) ?_
          refine lv_iconst (v := 1) hx hb dX6_letsIn_121 (by decide) ?_
          refine lv_iadd hx hb dX6_letsIn_122 ?_
          refine lv_goto (tgt := 127) hx hb dX6_letsIn_123 (by decide) ?_
          obtain ⟨r_21, er_21, h⟩ := bnd h
          refine r_ci X hS (r_runV (As := [.int (r_1 + 1)]) (rest := [.ref (ad (22 * t))]) C0 X hP L_X6_214 (fun sz => c_X4_spotOfPlace l D cA ad o σ t (r_1 + 1) ht r_21 er_21 sz) (kdR t ht).1 (kdR t ht).2 (by decide) rfl ⟨Nat.le_of_ble_eq_true rfl, Nat.le_of_ble_eq_true rfl⟩ rfl hl.1 rfl (Nat.le_of_ble_eq_true rfl) dX6_letsIn_127 ⟨Nat.zero_le _, Nat.zero_le _⟩) (fun r9 σ9 H locs hw hP hS => ?_)
          rw [hw.2] at hP
          rw [hw.1]
          obtain ⟨r_22, er_22, h⟩ := bnd h
          refine r_ci X hS (r_runV (As := [.int r_21]) (rest := []) C0 X hP L_X6_149 (fun sz => c_X6_hasRoom l D cA ad o σ t r_21 ht r_22 er_22 sz) (kdT t ht).1 (kdT t ht).2 (by decide) rfl ⟨Nat.le_of_ble_eq_true rfl, Nat.le_of_ble_eq_true rfl⟩ rfl hl.1 rfl (Nat.le_of_ble_eq_true rfl) dX6_letsIn_130 ⟨Nat.zero_le _, Nat.zero_le _⟩) (fun r9 σ9 H locs hw hP hS => ?_)
          rw [hw.2] at hP
          rw [hw.1]
          refine lv_if_eq (tgt := 140) hx hb dX6_letsIn_133 (by decide) (fun c_23 => ?_) (fun c_23 => ?_)
          · replace h := it_t h c_23
            refine lv_iconst (v := 0) hx hb dX6_letsIn_140 (by decide) ?_
            exact r_zret C0 X hP hS hr hlk dX6_letsIn_141 (Or.inl rfl) ⟨Option.some.inj h, rfl⟩
          · replace h := it_f h c_23
            refine lv_iconst (v := 1) hx hb dX6_letsIn_136 (by decide) ?_
            refine lv_goto (tgt := 141) hx hb dX6_letsIn_137 (by decide) ?_
            exact r_zret C0 X hP hS hr hlk dX6_letsIn_141 (Or.inr rfl) ⟨Option.some.inj h, rfl⟩
def bB_cX6_noteMeeting : Nat := 0xb12300b53100b42a2a0b00a0fc102300b42a1400991d3e030400a7040700a01c00b42a1c0f00a02000b42a1b13009f2000b42a1c0b00a01c00b42a1b3700b560043700b4592a
theorem yB_cX6_noteMeeting : BYS cX6_noteMeeting 70 bB_cX6_noteMeeting := BYS_of (by decide +kernel)
theorem dX6_noteMeeting_0 : decode cX6_noteMeeting 0 = .ok (.aload_n 0, 1) := D_42 yB_cX6_noteMeeting rfl rfl
theorem dX6_noteMeeting_1 : decode cX6_noteMeeting 1 = .ok (.dup, 1) := D_89 yB_cX6_noteMeeting rfl rfl
theorem dX6_noteMeeting_2 : decode cX6_noteMeeting 2 = .ok (.getfield 55, 3) := D_180 yB_cX6_noteMeeting rfl rfl rfl
theorem dX6_noteMeeting_5 : decode cX6_noteMeeting 5 = .ok (.iconst 1, 1) := D_4 yB_cX6_noteMeeting rfl rfl
theorem dX6_noteMeeting_6 : decode cX6_noteMeeting 6 = .ok (.iadd, 1) := D_96 yB_cX6_noteMeeting rfl rfl
theorem dX6_noteMeeting_7 : decode cX6_noteMeeting 7 = .ok (.putfield 55, 3) := D_181 yB_cX6_noteMeeting rfl rfl rfl
theorem dX6_noteMeeting_10 : decode cX6_noteMeeting 10 = .ok (.iload_n 1, 1) := D_27 yB_cX6_noteMeeting rfl rfl
theorem dX6_noteMeeting_11 : decode cX6_noteMeeting 11 = .ok (.aload_n 0, 1) := D_42 yB_cX6_noteMeeting rfl rfl
theorem dX6_noteMeeting_12 : decode cX6_noteMeeting 12 = .ok (.getfield 28, 3) := D_180 yB_cX6_noteMeeting rfl rfl rfl
theorem dX6_noteMeeting_15 : decode cX6_noteMeeting 15 = .ok (.if_icmp .ne 11, 3) := D_160 yB_cX6_noteMeeting rfl rfl (sg_p (m := 32768) (N := 11) rfl rfl rfl)
theorem dX6_noteMeeting_18 : decode cX6_noteMeeting 18 = .ok (.iload_n 2, 1) := D_28 yB_cX6_noteMeeting rfl rfl
theorem dX6_noteMeeting_19 : decode cX6_noteMeeting 19 = .ok (.aload_n 0, 1) := D_42 yB_cX6_noteMeeting rfl rfl
theorem dX6_noteMeeting_20 : decode cX6_noteMeeting 20 = .ok (.getfield 32, 3) := D_180 yB_cX6_noteMeeting rfl rfl rfl
theorem dX6_noteMeeting_23 : decode cX6_noteMeeting 23 = .ok (.if_icmp .eq 19, 3) := D_159 yB_cX6_noteMeeting rfl rfl (sg_p (m := 32768) (N := 19) rfl rfl rfl)
theorem dX6_noteMeeting_26 : decode cX6_noteMeeting 26 = .ok (.iload_n 1, 1) := D_27 yB_cX6_noteMeeting rfl rfl
theorem dX6_noteMeeting_27 : decode cX6_noteMeeting 27 = .ok (.aload_n 0, 1) := D_42 yB_cX6_noteMeeting rfl rfl
theorem dX6_noteMeeting_28 : decode cX6_noteMeeting 28 = .ok (.getfield 32, 3) := D_180 yB_cX6_noteMeeting rfl rfl rfl
theorem dX6_noteMeeting_31 : decode cX6_noteMeeting 31 = .ok (.if_icmp .ne 15, 3) := D_160 yB_cX6_noteMeeting rfl rfl (sg_p (m := 32768) (N := 15) rfl rfl rfl)
theorem dX6_noteMeeting_34 : decode cX6_noteMeeting 34 = .ok (.iload_n 2, 1) := D_28 yB_cX6_noteMeeting rfl rfl
theorem dX6_noteMeeting_35 : decode cX6_noteMeeting 35 = .ok (.aload_n 0, 1) := D_42 yB_cX6_noteMeeting rfl rfl
theorem dX6_noteMeeting_36 : decode cX6_noteMeeting 36 = .ok (.getfield 28, 3) := D_180 yB_cX6_noteMeeting rfl rfl rfl
theorem dX6_noteMeeting_39 : decode cX6_noteMeeting 39 = .ok (.if_icmp .ne 7, 3) := D_160 yB_cX6_noteMeeting rfl rfl (sg_p (m := 32768) (N := 7) rfl rfl rfl)
theorem dX6_noteMeeting_42 : decode cX6_noteMeeting 42 = .ok (.iconst 1, 1) := D_4 yB_cX6_noteMeeting rfl rfl
theorem dX6_noteMeeting_43 : decode cX6_noteMeeting 43 = .ok (.goto 4, 3) := D_167 yB_cX6_noteMeeting rfl rfl (sg_p (m := 32768) (N := 4) rfl rfl rfl)
theorem dX6_noteMeeting_46 : decode cX6_noteMeeting 46 = .ok (.iconst 0, 1) := D_3 yB_cX6_noteMeeting rfl rfl
theorem dX6_noteMeeting_47 : decode cX6_noteMeeting 47 = .ok (.istore_n 3, 1) := D_62 yB_cX6_noteMeeting rfl rfl
theorem dX6_noteMeeting_48 : decode cX6_noteMeeting 48 = .ok (.iload_n 3, 1) := D_29 yB_cX6_noteMeeting rfl rfl
theorem dX6_noteMeeting_49 : decode cX6_noteMeeting 49 = .ok (.ifCond .eq 20, 3) := D_153 yB_cX6_noteMeeting rfl rfl (sg_p (m := 32768) (N := 20) rfl rfl rfl)
theorem dX6_noteMeeting_52 : decode cX6_noteMeeting 52 = .ok (.aload_n 0, 1) := D_42 yB_cX6_noteMeeting rfl rfl
theorem dX6_noteMeeting_53 : decode cX6_noteMeeting 53 = .ok (.getfield 35, 3) := D_180 yB_cX6_noteMeeting rfl rfl rfl
theorem dX6_noteMeeting_56 : decode cX6_noteMeeting 56 = .ok (.bipush (-4), 2) := D_16 yB_cX6_noteMeeting rfl rfl (sg_n (m := 128) (N := 4) rfl rfl rfl)
theorem dX6_noteMeeting_58 : decode cX6_noteMeeting 58 = .ok (.if_icmp .ne 11, 3) := D_160 yB_cX6_noteMeeting rfl rfl (sg_p (m := 32768) (N := 11) rfl rfl rfl)
theorem dX6_noteMeeting_61 : decode cX6_noteMeeting 61 = .ok (.aload_n 0, 1) := D_42 yB_cX6_noteMeeting rfl rfl
theorem dX6_noteMeeting_62 : decode cX6_noteMeeting 62 = .ok (.aload_n 0, 1) := D_42 yB_cX6_noteMeeting rfl rfl
theorem dX6_noteMeeting_63 : decode cX6_noteMeeting 63 = .ok (.getfield 49, 3) := D_180 yB_cX6_noteMeeting rfl rfl rfl
theorem dX6_noteMeeting_66 : decode cX6_noteMeeting 66 = .ok (.putfield 35, 3) := D_181 yB_cX6_noteMeeting rfl rfl rfl
theorem dX6_noteMeeting_69 : decode cX6_noteMeeting 69 = .ok (.return_, 1) := D_177 yB_cX6_noteMeeting rfl rfl
def F_X6_noteMeeting (σ : Mem) (t : Nat) (x1 : Int32) (x2 : Int32) : Option (Mem) := if x1 = ((stm σ (22 * t) 5 ((σ (22 * t) 5) + 1)) (22 * t) 8) then (if x2 = ((stm σ (22 * t) 5 ((σ (22 * t) 5) + 1)) (22 * t) 9) then (if ((stm σ (22 * t) 5 ((σ (22 * t) 5) + 1)) (22 * t) 10) = (-4) then (some (stm (stm σ (22 * t) 5 ((σ (22 * t) 5) + 1)) (22 * t) 10 ((stm σ (22 * t) 5 ((σ (22 * t) 5) + 1)) (22 * t) 3))) else (some (stm σ (22 * t) 5 ((σ (22 * t) 5) + 1)))) else (if x1 = ((stm σ (22 * t) 5 ((σ (22 * t) 5) + 1)) (22 * t) 9) then (if x2 = ((stm σ (22 * t) 5 ((σ (22 * t) 5) + 1)) (22 * t) 8) then (if ((stm σ (22 * t) 5 ((σ (22 * t) 5) + 1)) (22 * t) 10) = (-4) then (some (stm (stm σ (22 * t) 5 ((σ (22 * t) 5) + 1)) (22 * t) 10 ((stm σ (22 * t) 5 ((σ (22 * t) 5) + 1)) (22 * t) 3))) else (some (stm σ (22 * t) 5 ((σ (22 * t) 5) + 1)))) else (some (stm σ (22 * t) 5 ((σ (22 * t) 5) + 1)))) else (some (stm σ (22 * t) 5 ((σ (22 * t) 5) + 1))))) else (if x1 = ((stm σ (22 * t) 5 ((σ (22 * t) 5) + 1)) (22 * t) 9) then (if x2 = ((stm σ (22 * t) 5 ((σ (22 * t) 5) + 1)) (22 * t) 8) then (if ((stm σ (22 * t) 5 ((σ (22 * t) 5) + 1)) (22 * t) 10) = (-4) then (some (stm (stm σ (22 * t) 5 ((σ (22 * t) 5) + 1)) (22 * t) 10 ((stm σ (22 * t) 5 ((σ (22 * t) 5) + 1)) (22 * t) 3))) else (some (stm σ (22 * t) 5 ((σ (22 * t) 5) + 1)))) else (some (stm σ (22 * t) 5 ((σ (22 * t) 5) + 1)))) else (some (stm σ (22 * t) 5 ((σ (22 * t) 5) + 1))))
set_option maxHeartbeats 4000000 in
set_option maxRecDepth 100000 in
theorem c_X6_noteMeeting (l : Launch) (D : va_G) (cA : Nat → ClassId) (ad : Nat → Nat) (o : Int64) (σ : Mem) (t : Nat) (x1 : Int32) (x2 : Int32) (ht : t < 3) (res : Mem) (h : F_X6_noteMeeting σ t x1 x2 = some res) (sz : Nat) : Met l yX6_noteMeeting (WY yX6_noteMeeting cX6_noteMeeting 4 none) (RM 0) (va_Pc [.ref (ad (22 * t)), .int x1, .int x2] (PW D cA ad o σ sz)) (va_Qv (fun σ9 => σ9 = res) (QW D cA ad o) (FA ad sz)) 0 0 (FA ad sz) := by
  refine ct_of (own := RX6) (k := 0) (Qf := va_Qv (fun σ9 => σ9 = res) (QW D cA ad o)) rfl (by decide) (Nat.le_of_ble_eq_true rfl) (fun p e s m below meth c ls C0 X hr hlk hP hl => ?_) sz
  have hS : va_S (FA ad s.heap.size) s.heap s.heap [] := va_S.rf
  have hl : lv_has ls 4 [(0, .ref (ad (22 * t))), (1, .int x1), (2, .int x2)] := hl
  obtain ⟨hx, hb, hml, hown, hts⟩ := id C0
  unfold F_X6_noteMeeting at h
  refine lv_aload_n hx hb dX6_noteMeeting_0 rfl (lv_at hl 0 rfl) ?_
  refine lv_dup hx hb dX6_noteMeeting_1 rfl ?_
  refine gf_X6_55 C0 X hP (22 * t) (kdT t ht) dX6_noteMeeting_2 ?_
  refine lv_iconst (v := 1) hx hb dX6_noteMeeting_5 (by decide) ?_
  refine lv_iadd hx hb dX6_noteMeeting_6 ?_
  refine pf_X6_55 C0 X hP hS (22 * t) (kdT t ht) dX6_noteMeeting_7 (fun H locs hP hS => ?_)
  refine lv_iload_n hx hb dX6_noteMeeting_10 rfl (lv_at hl 1 rfl) ?_
  refine lv_aload_n hx hb dX6_noteMeeting_11 rfl (lv_at hl 0 rfl) ?_
  refine gf_X6_28 C0 X hP (22 * t) (kdT t ht) dX6_noteMeeting_12 ?_
  refine lv_icmp_ne (tgt := 26) hx hb dX6_noteMeeting_15 (by decide) (fun c_1 => ?_) (fun c_1 => ?_)
  · replace h := it_f h c_1
    refine lv_iload_n hx hb dX6_noteMeeting_26 rfl (lv_at hl 1 rfl) ?_
    refine lv_aload_n hx hb dX6_noteMeeting_27 rfl (lv_at hl 0 rfl) ?_
    refine gf_X6_32 C0 X hP (22 * t) (kdT t ht) dX6_noteMeeting_28 ?_
    refine lv_icmp_ne (tgt := 46) hx hb dX6_noteMeeting_31 (by decide) (fun c_2 => ?_) (fun c_2 => ?_)
    · replace h := it_f h c_2
      refine lv_iconst (v := 0) hx hb dX6_noteMeeting_46 (by decide) ?_
      refine lv_istore_n (lv' := [(3, .int 0), (0, .ref (ad (22 * t))), (1, .int x1), (2, .int x2)]) hx hb dX6_noteMeeting_47 rfl hl (by decide) rfl (fun ls hl => ?_)
      refine lv_iload_n hx hb dX6_noteMeeting_48 rfl (lv_at hl 0 rfl) ?_
      refine lv_if_eq (tgt := 69) hx hb dX6_noteMeeting_49 (by decide) (fun _ => ?_) (fun c_3 => absurd c_3 (by decide))
      exact r_vret C0 X hP hS hr hlk dX6_noteMeeting_69 (Option.some.inj h)
    · replace h := it_t h c_2
      refine lv_iload_n hx hb dX6_noteMeeting_34 rfl (lv_at hl 2 rfl) ?_
      refine lv_aload_n hx hb dX6_noteMeeting_35 rfl (lv_at hl 0 rfl) ?_
      refine gf_X6_28 C0 X hP (22 * t) (kdT t ht) dX6_noteMeeting_36 ?_
      refine lv_icmp_ne (tgt := 46) hx hb dX6_noteMeeting_39 (by decide) (fun c_4 => ?_) (fun c_4 => ?_)
      · replace h := it_f h c_4
        refine lv_iconst (v := 0) hx hb dX6_noteMeeting_46 (by decide) ?_
        refine lv_istore_n (lv' := [(3, .int 0), (0, .ref (ad (22 * t))), (1, .int x1), (2, .int x2)]) hx hb dX6_noteMeeting_47 rfl hl (by decide) rfl (fun ls hl => ?_)
        refine lv_iload_n hx hb dX6_noteMeeting_48 rfl (lv_at hl 0 rfl) ?_
        refine lv_if_eq (tgt := 69) hx hb dX6_noteMeeting_49 (by decide) (fun _ => ?_) (fun c_5 => absurd c_5 (by decide))
        exact r_vret C0 X hP hS hr hlk dX6_noteMeeting_69 (Option.some.inj h)
      · replace h := it_t h c_4
        refine lv_iconst (v := 1) hx hb dX6_noteMeeting_42 (by decide) ?_
        refine lv_goto (tgt := 47) hx hb dX6_noteMeeting_43 (by decide) ?_
        refine lv_istore_n (lv' := [(3, .int 1), (0, .ref (ad (22 * t))), (1, .int x1), (2, .int x2)]) hx hb dX6_noteMeeting_47 rfl hl (by decide) rfl (fun ls hl => ?_)
        refine lv_iload_n hx hb dX6_noteMeeting_48 rfl (lv_at hl 0 rfl) ?_
        refine lv_if_eq (tgt := 69) hx hb dX6_noteMeeting_49 (by decide) (fun c_6 => absurd c_6 (by decide)) (fun _ => ?_)
        refine lv_aload_n hx hb dX6_noteMeeting_52 rfl (lv_at hl 1 rfl) ?_
        refine gf_X6_35 C0 X hP (22 * t) (kdT t ht) dX6_noteMeeting_53 ?_
        refine lv_bipush (v := (-4)) hx hb dX6_noteMeeting_56 (by decide) ?_
        refine lv_icmp_ne (tgt := 69) hx hb dX6_noteMeeting_58 (by decide) (fun c_7 => ?_) (fun c_7 => ?_)
        · replace h := it_f h c_7
          exact r_vret C0 X hP hS hr hlk dX6_noteMeeting_69 (Option.some.inj h)
        · replace h := it_t h c_7
          refine lv_aload_n hx hb dX6_noteMeeting_61 rfl (lv_at hl 1 rfl) ?_
          refine lv_aload_n hx hb dX6_noteMeeting_62 rfl (lv_at hl 1 rfl) ?_
          refine gf_X6_49 C0 X hP (22 * t) (kdT t ht) dX6_noteMeeting_63 ?_
          refine pf_X6_35 C0 X hP hS (22 * t) (kdT t ht) dX6_noteMeeting_66 (fun H locs hP hS => ?_)
          exact r_vret C0 X hP hS hr hlk dX6_noteMeeting_69 (Option.some.inj h)
  · replace h := it_t h c_1
    refine lv_iload_n hx hb dX6_noteMeeting_18 rfl (lv_at hl 2 rfl) ?_
    refine lv_aload_n hx hb dX6_noteMeeting_19 rfl (lv_at hl 0 rfl) ?_
    refine gf_X6_32 C0 X hP (22 * t) (kdT t ht) dX6_noteMeeting_20 ?_
    refine lv_icmp_eq (tgt := 42) hx hb dX6_noteMeeting_23 (by decide) (fun c_8 => ?_) (fun c_8 => ?_)
    · replace h := it_t h c_8
      refine lv_iconst (v := 1) hx hb dX6_noteMeeting_42 (by decide) ?_
      refine lv_goto (tgt := 47) hx hb dX6_noteMeeting_43 (by decide) ?_
      refine lv_istore_n (lv' := [(3, .int 1), (0, .ref (ad (22 * t))), (1, .int x1), (2, .int x2)]) hx hb dX6_noteMeeting_47 rfl hl (by decide) rfl (fun ls hl => ?_)
      refine lv_iload_n hx hb dX6_noteMeeting_48 rfl (lv_at hl 0 rfl) ?_
      refine lv_if_eq (tgt := 69) hx hb dX6_noteMeeting_49 (by decide) (fun c_9 => absurd c_9 (by decide)) (fun _ => ?_)
      refine lv_aload_n hx hb dX6_noteMeeting_52 rfl (lv_at hl 1 rfl) ?_
      refine gf_X6_35 C0 X hP (22 * t) (kdT t ht) dX6_noteMeeting_53 ?_
      refine lv_bipush (v := (-4)) hx hb dX6_noteMeeting_56 (by decide) ?_
      refine lv_icmp_ne (tgt := 69) hx hb dX6_noteMeeting_58 (by decide) (fun c_10 => ?_) (fun c_10 => ?_)
      · replace h := it_f h c_10
        exact r_vret C0 X hP hS hr hlk dX6_noteMeeting_69 (Option.some.inj h)
      · replace h := it_t h c_10
        refine lv_aload_n hx hb dX6_noteMeeting_61 rfl (lv_at hl 1 rfl) ?_
        refine lv_aload_n hx hb dX6_noteMeeting_62 rfl (lv_at hl 1 rfl) ?_
        refine gf_X6_49 C0 X hP (22 * t) (kdT t ht) dX6_noteMeeting_63 ?_
        refine pf_X6_35 C0 X hP hS (22 * t) (kdT t ht) dX6_noteMeeting_66 (fun H locs hP hS => ?_)
        exact r_vret C0 X hP hS hr hlk dX6_noteMeeting_69 (Option.some.inj h)
    · replace h := it_f h c_8
      refine lv_iload_n hx hb dX6_noteMeeting_26 rfl (lv_at hl 1 rfl) ?_
      refine lv_aload_n hx hb dX6_noteMeeting_27 rfl (lv_at hl 0 rfl) ?_
      refine gf_X6_32 C0 X hP (22 * t) (kdT t ht) dX6_noteMeeting_28 ?_
      refine lv_icmp_ne (tgt := 46) hx hb dX6_noteMeeting_31 (by decide) (fun c_11 => ?_) (fun c_11 => ?_)
      · replace h := it_f h c_11
        refine lv_iconst (v := 0) hx hb dX6_noteMeeting_46 (by decide) ?_
        refine lv_istore_n (lv' := [(3, .int 0), (0, .ref (ad (22 * t))), (1, .int x1), (2, .int x2)]) hx hb dX6_noteMeeting_47 rfl hl (by decide) rfl (fun ls hl => ?_)
        refine lv_iload_n hx hb dX6_noteMeeting_48 rfl (lv_at hl 0 rfl) ?_
        refine lv_if_eq (tgt := 69) hx hb dX6_noteMeeting_49 (by decide) (fun _ => ?_) (fun c_12 => absurd c_12 (by decide))
        exact r_vret C0 X hP hS hr hlk dX6_noteMeeting_69 (Option.some.inj h)
      · replace h := it_t h c_11
        refine lv_iload_n hx hb dX6_noteMeeting_34 rfl (lv_at hl 2 rfl) ?_
        refine lv_aload_n hx hb dX6_noteMeeting_35 rfl (lv_at hl 0 rfl) ?_
        refine gf_X6_28 C0 X hP (22 * t) (kdT t ht) dX6_noteMeeting_36 ?_
        refine lv_icmp_ne (tgt := 46) hx hb dX6_noteMeeting_39 (by decide) (fun c_13 => ?_) (fun c_13 => ?_)
        · replace h := it_f h c_13
          refine lv_iconst (v := 0) hx hb dX6_noteMeeting_46 (by decide) ?_
          refine lv_istore_n (lv' := [(3, .int 0), (0, .ref (ad (22 * t))), (1, .int x1), (2, .int x2)]) hx hb dX6_noteMeeting_47 rfl hl (by decide) rfl (fun ls hl => ?_)
          refine lv_iload_n hx hb dX6_noteMeeting_48 rfl (lv_at hl 0 rfl) ?_
          refine lv_if_eq (tgt := 69) hx hb dX6_noteMeeting_49 (by decide) (fun _ => ?_) (fun c_14 => absurd c_14 (by decide))
          exact r_vret C0 X hP hS hr hlk dX6_noteMeeting_69 (Option.some.inj h)
        · replace h := it_t h c_13
          refine lv_iconst (v := 1) hx hb dX6_noteMeeting_42 (by decide) ?_
          refine lv_goto (tgt := 47) hx hb dX6_noteMeeting_43 (by decide) ?_
          refine lv_istore_n (lv' := [(3, .int 1), (0, .ref (ad (22 * t))), (1, .int x1), (2, .int x2)]) hx hb dX6_noteMeeting_47 rfl hl (by decide) rfl (fun ls hl => ?_)
          refine lv_iload_n hx hb dX6_noteMeeting_48 rfl (lv_at hl 0 rfl) ?_
          refine lv_if_eq (tgt := 69) hx hb dX6_noteMeeting_49 (by decide) (fun c_15 => absurd c_15 (by decide)) (fun _ => ?_)
          refine lv_aload_n hx hb dX6_noteMeeting_52 rfl (lv_at hl 1 rfl) ?_
          refine gf_X6_35 C0 X hP (22 * t) (kdT t ht) dX6_noteMeeting_53 ?_
          refine lv_bipush (v := (-4)) hx hb dX6_noteMeeting_56 (by decide) ?_
          refine lv_icmp_ne (tgt := 69) hx hb dX6_noteMeeting_58 (by decide) (fun c_16 => ?_) (fun c_16 => ?_)
          · replace h := it_f h c_16
            exact r_vret C0 X hP hS hr hlk dX6_noteMeeting_69 (Option.some.inj h)
          · replace h := it_t h c_16
            refine lv_aload_n hx hb dX6_noteMeeting_61 rfl (lv_at hl 1 rfl) ?_
            refine lv_aload_n hx hb dX6_noteMeeting_62 rfl (lv_at hl 1 rfl) ?_
            refine gf_X6_49 C0 X hP (22 * t) (kdT t ht) dX6_noteMeeting_63 ?_
            refine pf_X6_35 C0 X hP hS (22 * t) (kdT t ht) dX6_noteMeeting_66 (fun H locs hP hS => ?_)
            exact r_vret C0 X hP hS hr hlk dX6_noteMeeting_69 (Option.some.inj h)
def bB_cX6_wayBack : Nat := 0xac2e5300b42bf500b40c00b42a0f00a72e5300b42bf200b40c00b42a1200994300b42bac030500a149105300b42b0c009b5300b42b
theorem yB_cX6_wayBack : BYS cX6_wayBack 53 bB_cX6_wayBack := BYS_of (by decide +kernel)
theorem dX6_wayBack_0 : decode cX6_wayBack 0 = .ok (.aload_n 1, 1) := D_43 yB_cX6_wayBack rfl rfl
theorem dX6_wayBack_1 : decode cX6_wayBack 1 = .ok (.getfield 83, 3) := D_180 yB_cX6_wayBack rfl rfl rfl
theorem dX6_wayBack_4 : decode cX6_wayBack 4 = .ok (.ifCond .lt 12, 3) := D_155 yB_cX6_wayBack rfl rfl (sg_p (m := 32768) (N := 12) rfl rfl rfl)
theorem dX6_wayBack_7 : decode cX6_wayBack 7 = .ok (.aload_n 1, 1) := D_43 yB_cX6_wayBack rfl rfl
theorem dX6_wayBack_8 : decode cX6_wayBack 8 = .ok (.getfield 83, 3) := D_180 yB_cX6_wayBack rfl rfl rfl
theorem dX6_wayBack_11 : decode cX6_wayBack 11 = .ok (.bipush 73, 2) := D_16 yB_cX6_wayBack rfl rfl (sg_p (m := 128) (N := 73) rfl rfl rfl)
theorem dX6_wayBack_13 : decode cX6_wayBack 13 = .ok (.if_icmp .lt 5, 3) := D_161 yB_cX6_wayBack rfl rfl (sg_p (m := 32768) (N := 5) rfl rfl rfl)
theorem dX6_wayBack_16 : decode cX6_wayBack 16 = .ok (.iconst 0, 1) := D_3 yB_cX6_wayBack rfl rfl
theorem dX6_wayBack_17 : decode cX6_wayBack 17 = .ok (.ireturn, 1) := D_172 yB_cX6_wayBack rfl rfl
theorem dX6_wayBack_18 : decode cX6_wayBack 18 = .ok (.aload_n 1, 1) := D_43 yB_cX6_wayBack rfl rfl
theorem dX6_wayBack_19 : decode cX6_wayBack 19 = .ok (.getfield 67, 3) := D_180 yB_cX6_wayBack rfl rfl rfl
theorem dX6_wayBack_22 : decode cX6_wayBack 22 = .ok (.ifCond .eq 18, 3) := D_153 yB_cX6_wayBack rfl rfl (sg_p (m := 32768) (N := 18) rfl rfl rfl)
theorem dX6_wayBack_25 : decode cX6_wayBack 25 = .ok (.aload_n 0, 1) := D_42 yB_cX6_wayBack rfl rfl
theorem dX6_wayBack_26 : decode cX6_wayBack 26 = .ok (.getfield 12, 3) := D_180 yB_cX6_wayBack rfl rfl rfl
theorem dX6_wayBack_29 : decode cX6_wayBack 29 = .ok (.getfield 242, 3) := D_180 yB_cX6_wayBack rfl rfl rfl
theorem dX6_wayBack_32 : decode cX6_wayBack 32 = .ok (.aload_n 1, 1) := D_43 yB_cX6_wayBack rfl rfl
theorem dX6_wayBack_33 : decode cX6_wayBack 33 = .ok (.getfield 83, 3) := D_180 yB_cX6_wayBack rfl rfl rfl
theorem dX6_wayBack_36 : decode cX6_wayBack 36 = .ok (.iaload, 1) := D_46 yB_cX6_wayBack rfl rfl
theorem dX6_wayBack_37 : decode cX6_wayBack 37 = .ok (.goto 15, 3) := D_167 yB_cX6_wayBack rfl rfl (sg_p (m := 32768) (N := 15) rfl rfl rfl)
theorem dX6_wayBack_40 : decode cX6_wayBack 40 = .ok (.aload_n 0, 1) := D_42 yB_cX6_wayBack rfl rfl
theorem dX6_wayBack_41 : decode cX6_wayBack 41 = .ok (.getfield 12, 3) := D_180 yB_cX6_wayBack rfl rfl rfl
theorem dX6_wayBack_44 : decode cX6_wayBack 44 = .ok (.getfield 245, 3) := D_180 yB_cX6_wayBack rfl rfl rfl
theorem dX6_wayBack_47 : decode cX6_wayBack 47 = .ok (.aload_n 1, 1) := D_43 yB_cX6_wayBack rfl rfl
theorem dX6_wayBack_48 : decode cX6_wayBack 48 = .ok (.getfield 83, 3) := D_180 yB_cX6_wayBack rfl rfl rfl
theorem dX6_wayBack_51 : decode cX6_wayBack 51 = .ok (.iaload, 1) := D_46 yB_cX6_wayBack rfl rfl
theorem dX6_wayBack_52 : decode cX6_wayBack 52 = .ok (.ireturn, 1) := D_172 yB_cX6_wayBack rfl rfl
def F_X6_wayBack (σ : Mem) (t : Nat) (i1 : Nat) : Option (Int32) := if (σ i1 6) < 0 then (some 0) else (if (σ i1 6) < 73 then (if (σ i1 0) = 0 then ((ix 73 (σ i1 6)).bind fun k_4 => some (σ (22 * t + 10) k_4)) else ((ix 73 (σ i1 6)).bind fun k_5 => some (σ (22 * t + 9) k_5))) else (some 0))
set_option maxHeartbeats 4000000 in
set_option maxRecDepth 100000 in
theorem c_X6_wayBack (l : Launch) (D : va_G) (cA : Nat → ClassId) (ad : Nat → Nat) (o : Int64) (σ : Mem) (t : Nat) (i1 : Nat) (ht : t < 3) (hi1 : i1 < 106 ∧ kd i1 = (0, 12)) (res : Int32) (h : F_X6_wayBack σ t i1 = some res) (sz : Nat) : Met l yX6_wayBack (WY yX6_wayBack cX6_wayBack 2 (some .int)) (RM 0) (va_Pc [.ref (ad (22 * t)), .ref (ad i1)] (PW D cA ad o σ sz)) (va_Qi (fun r σ9 => r = res ∧ σ9 = σ) (QW D cA ad o) (FA ad sz)) 0 0 (FA ad sz) := by
  refine ct_of (own := RX6) (k := 0) (Qf := va_Qi (fun r σ9 => r = res ∧ σ9 = σ) (QW D cA ad o)) rfl (by decide) (Nat.le_of_ble_eq_true rfl) (fun p e s m below meth c ls C0 X hr hlk hP hl => ?_) sz
  have hS : va_S (FA ad s.heap.size) s.heap s.heap [] := va_S.rf
  have hl : lv_has ls 2 [(0, .ref (ad (22 * t))), (1, .ref (ad i1))] := hl
  obtain ⟨hx, hb, hml, hown, hts⟩ := id C0
  unfold F_X6_wayBack at h
  refine lv_aload_n hx hb dX6_wayBack_0 rfl (lv_at hl 1 rfl) ?_
  refine gf_X6_83 C0 X hP i1 hi1 dX6_wayBack_1 ?_
  refine lv_if_lt (tgt := 16) hx hb dX6_wayBack_4 (by decide) (fun c_1 => ?_) (fun c_1 => ?_)
  · replace h := it_t h c_1
    refine lv_iconst (v := 0) hx hb dX6_wayBack_16 (by decide) ?_
    exact r_iret C0 X hP hS hr hlk dX6_wayBack_17 ⟨Option.some.inj h, rfl⟩
  · replace h := it_f h c_1
    refine lv_aload_n hx hb dX6_wayBack_7 rfl (lv_at hl 1 rfl) ?_
    refine gf_X6_83 C0 X hP i1 hi1 dX6_wayBack_8 ?_
    refine lv_bipush (v := 73) hx hb dX6_wayBack_11 (by decide) ?_
    refine lv_icmp_lt (tgt := 18) hx hb dX6_wayBack_13 (by decide) (fun c_2 => ?_) (fun c_2 => ?_)
    · replace h := it_t h c_2
      refine lv_aload_n hx hb dX6_wayBack_18 rfl (lv_at hl 1 rfl) ?_
      refine gf_X6_67 C0 X hP i1 hi1 dX6_wayBack_19 ?_
      refine lv_if_eq (tgt := 40) hx hb dX6_wayBack_22 (by decide) (fun c_3 => ?_) (fun c_3 => ?_)
      · replace h := it_t h c_3
        refine lv_aload_n hx hb dX6_wayBack_40 rfl (lv_at hl 0 rfl) ?_
        refine gf_X6_12 C0 X hP (22 * t) (q := (22 * t + 1)) (kdT t ht) (by omega) (lkT0 t ht) dX6_wayBack_41 ?_
        refine gf_X6_245 C0 X hP (22 * t + 1) (q := (22 * t + 10)) (kdR t ht) (by omega) (lkR10 t ht) dX6_wayBack_44 ?_
        refine lv_aload_n hx hb dX6_wayBack_47 rfl (lv_at hl 1 rfl) ?_
        refine gf_X6_83 C0 X hP i1 hi1 dX6_wayBack_48 ?_
        obtain ⟨k_4, ek_4, h⟩ := bnd h
        replace ek_4 := ix_s ek_4 (by decide)
        refine r_ialdN C0 X hP (22 * t + 10) (k := k_4) (kdA10 t ht) ek_4.1 ek_4.2 dX6_wayBack_51 ?_
        exact r_iret C0 X hP hS hr hlk dX6_wayBack_52 ⟨Option.some.inj h, rfl⟩
      · replace h := it_f h c_3
        refine lv_aload_n hx hb dX6_wayBack_25 rfl (lv_at hl 0 rfl) ?_
        refine gf_X6_12 C0 X hP (22 * t) (q := (22 * t + 1)) (kdT t ht) (by omega) (lkT0 t ht) dX6_wayBack_26 ?_
        refine gf_X6_242 C0 X hP (22 * t + 1) (q := (22 * t + 9)) (kdR t ht) (by omega) (lkR9 t ht) dX6_wayBack_29 ?_
        refine lv_aload_n hx hb dX6_wayBack_32 rfl (lv_at hl 1 rfl) ?_
        refine gf_X6_83 C0 X hP i1 hi1 dX6_wayBack_33 ?_
        obtain ⟨k_5, ek_5, h⟩ := bnd h
        replace ek_5 := ix_s ek_5 (by decide)
        refine r_ialdN C0 X hP (22 * t + 9) (k := k_5) (kdA9 t ht) ek_5.1 ek_5.2 dX6_wayBack_36 ?_
        refine lv_goto (tgt := 52) hx hb dX6_wayBack_37 (by decide) ?_
        exact r_iret C0 X hP hS hr hlk dX6_wayBack_52 ⟨Option.some.inj h, rfl⟩
    · replace h := it_f h c_2
      refine lv_iconst (v := 0) hx hb dX6_wayBack_16 (by decide) ?_
      exact r_iret C0 X hP hS hr hlk dX6_wayBack_17 ⟨Option.some.inj h, rfl⟩
def bB_cX6_preference : Nat := 0xac03ac0415ac040400a7020700a0030400a7040700a0051d4300b42a1a00991dac645000b42b5000b42aac020400a7040700994d00b42a10009f4d00b42b4d00b42aac0415ac645000b42b5000b42a5a00000038000000780000007800000078000000350000002b0000000700000001000000780000000000aa1c
theorem yB_cX6_preference : BYS cX6_preference 123 bB_cX6_preference := BYS_of (by decide +kernel)
theorem dX6_preference_0 : decode cX6_preference 0 = .ok (.iload_n 2, 1) := D_28 yB_cX6_preference rfl rfl
theorem dX6_preference_1 : decode cX6_preference 1 = .ok (.tableswitch 120 1 7 #[43, 53, 120, 120, 120, 56, 90], 43) := by decide +kernel
theorem dX6_preference_44 : decode cX6_preference 44 = .ok (.aload_n 0, 1) := D_42 yB_cX6_preference rfl rfl
theorem dX6_preference_45 : decode cX6_preference 45 = .ok (.getfield 80, 3) := D_180 yB_cX6_preference rfl rfl rfl
theorem dX6_preference_48 : decode cX6_preference 48 = .ok (.aload_n 1, 1) := D_43 yB_cX6_preference rfl rfl
theorem dX6_preference_49 : decode cX6_preference 49 = .ok (.getfield 80, 3) := D_180 yB_cX6_preference rfl rfl rfl
theorem dX6_preference_52 : decode cX6_preference 52 = .ok (.isub, 1) := D_100 yB_cX6_preference rfl rfl
theorem dX6_preference_53 : decode cX6_preference 53 = .ok (.ireturn, 1) := D_172 yB_cX6_preference rfl rfl
theorem dX6_preference_54 : decode cX6_preference 54 = .ok (.iload 4, 2) := D_21 yB_cX6_preference rfl rfl rfl
theorem dX6_preference_56 : decode cX6_preference 56 = .ok (.ireturn, 1) := D_172 yB_cX6_preference rfl rfl
theorem dX6_preference_57 : decode cX6_preference 57 = .ok (.aload_n 0, 1) := D_42 yB_cX6_preference rfl rfl
theorem dX6_preference_58 : decode cX6_preference 58 = .ok (.getfield 77, 3) := D_180 yB_cX6_preference rfl rfl rfl
theorem dX6_preference_61 : decode cX6_preference 61 = .ok (.aload_n 1, 1) := D_43 yB_cX6_preference rfl rfl
theorem dX6_preference_62 : decode cX6_preference 62 = .ok (.getfield 77, 3) := D_180 yB_cX6_preference rfl rfl rfl
theorem dX6_preference_65 : decode cX6_preference 65 = .ok (.if_icmp .eq 16, 3) := D_159 yB_cX6_preference rfl rfl (sg_p (m := 32768) (N := 16) rfl rfl rfl)
theorem dX6_preference_68 : decode cX6_preference 68 = .ok (.aload_n 0, 1) := D_42 yB_cX6_preference rfl rfl
theorem dX6_preference_69 : decode cX6_preference 69 = .ok (.getfield 77, 3) := D_180 yB_cX6_preference rfl rfl rfl
theorem dX6_preference_72 : decode cX6_preference 72 = .ok (.ifCond .eq 7, 3) := D_153 yB_cX6_preference rfl rfl (sg_p (m := 32768) (N := 7) rfl rfl rfl)
theorem dX6_preference_75 : decode cX6_preference 75 = .ok (.iconst 1, 1) := D_4 yB_cX6_preference rfl rfl
theorem dX6_preference_76 : decode cX6_preference 76 = .ok (.goto 4, 3) := D_167 yB_cX6_preference rfl rfl (sg_p (m := 32768) (N := 4) rfl rfl rfl)
theorem dX6_preference_79 : decode cX6_preference 79 = .ok (.iconst (-1), 1) := D_2 yB_cX6_preference rfl rfl
theorem dX6_preference_80 : decode cX6_preference 80 = .ok (.ireturn, 1) := D_172 yB_cX6_preference rfl rfl
theorem dX6_preference_81 : decode cX6_preference 81 = .ok (.aload_n 0, 1) := D_42 yB_cX6_preference rfl rfl
theorem dX6_preference_82 : decode cX6_preference 82 = .ok (.getfield 80, 3) := D_180 yB_cX6_preference rfl rfl rfl
theorem dX6_preference_85 : decode cX6_preference 85 = .ok (.aload_n 1, 1) := D_43 yB_cX6_preference rfl rfl
theorem dX6_preference_86 : decode cX6_preference 86 = .ok (.getfield 80, 3) := D_180 yB_cX6_preference rfl rfl rfl
theorem dX6_preference_89 : decode cX6_preference 89 = .ok (.isub, 1) := D_100 yB_cX6_preference rfl rfl
theorem dX6_preference_90 : decode cX6_preference 90 = .ok (.ireturn, 1) := D_172 yB_cX6_preference rfl rfl
theorem dX6_preference_91 : decode cX6_preference 91 = .ok (.iload_n 3, 1) := D_29 yB_cX6_preference rfl rfl
theorem dX6_preference_92 : decode cX6_preference 92 = .ok (.ifCond .eq 26, 3) := D_153 yB_cX6_preference rfl rfl (sg_p (m := 32768) (N := 26) rfl rfl rfl)
theorem dX6_preference_95 : decode cX6_preference 95 = .ok (.aload_n 0, 1) := D_42 yB_cX6_preference rfl rfl
theorem dX6_preference_96 : decode cX6_preference 96 = .ok (.getfield 67, 3) := D_180 yB_cX6_preference rfl rfl rfl
theorem dX6_preference_99 : decode cX6_preference 99 = .ok (.iload_n 3, 1) := D_29 yB_cX6_preference rfl rfl
theorem dX6_preference_100 : decode cX6_preference 100 = .ok (.iconst 2, 1) := D_5 yB_cX6_preference rfl rfl
theorem dX6_preference_101 : decode cX6_preference 101 = .ok (.if_icmp .ne 7, 3) := D_160 yB_cX6_preference rfl rfl (sg_p (m := 32768) (N := 7) rfl rfl rfl)
theorem dX6_preference_104 : decode cX6_preference 104 = .ok (.iconst 1, 1) := D_4 yB_cX6_preference rfl rfl
theorem dX6_preference_105 : decode cX6_preference 105 = .ok (.goto 4, 3) := D_167 yB_cX6_preference rfl rfl (sg_p (m := 32768) (N := 4) rfl rfl rfl)
theorem dX6_preference_108 : decode cX6_preference 108 = .ok (.iconst 0, 1) := D_3 yB_cX6_preference rfl rfl
theorem dX6_preference_109 : decode cX6_preference 109 = .ok (.if_icmp .ne 7, 3) := D_160 yB_cX6_preference rfl rfl (sg_p (m := 32768) (N := 7) rfl rfl rfl)
theorem dX6_preference_112 : decode cX6_preference 112 = .ok (.iconst (-1), 1) := D_2 yB_cX6_preference rfl rfl
theorem dX6_preference_113 : decode cX6_preference 113 = .ok (.goto 4, 3) := D_167 yB_cX6_preference rfl rfl (sg_p (m := 32768) (N := 4) rfl rfl rfl)
theorem dX6_preference_116 : decode cX6_preference 116 = .ok (.iconst 1, 1) := D_4 yB_cX6_preference rfl rfl
theorem dX6_preference_117 : decode cX6_preference 117 = .ok (.ireturn, 1) := D_172 yB_cX6_preference rfl rfl
theorem dX6_preference_118 : decode cX6_preference 118 = .ok (.iload 4, 2) := D_21 yB_cX6_preference rfl rfl rfl
theorem dX6_preference_120 : decode cX6_preference 120 = .ok (.ireturn, 1) := D_172 yB_cX6_preference rfl rfl
theorem dX6_preference_121 : decode cX6_preference 121 = .ok (.iconst 0, 1) := D_3 yB_cX6_preference rfl rfl
theorem dX6_preference_122 : decode cX6_preference 122 = .ok (.ireturn, 1) := D_172 yB_cX6_preference rfl rfl
def F_X6_preference (σ : Mem) (i1 : Nat) (i2 : Nat) (x3 : Int32) (x4 : Int32) (x5 : Int32) : Option (Int32) := if x3 = 1 then (some ((σ i1 4) - (σ i2 4))) else (if x3 = 2 then (some x5) else (if x3 = 6 then (if (σ i1 1) = (σ i2 1) then (some ((σ i1 4) - (σ i2 4))) else (if (σ i1 1) = 0 then (some (-1)) else (some 1))) else (if x3 = 7 then (if x4 = 0 then (some x5) else (if x4 = 2 then (if (σ i1 0) = 1 then (some (-1)) else (some 1)) else (if (σ i1 0) = 0 then (some (-1)) else (some 1)))) else (some 0))))
set_option maxHeartbeats 4000000 in
set_option maxRecDepth 100000 in
theorem c_X6_preference (l : Launch) (D : va_G) (cA : Nat → ClassId) (ad : Nat → Nat) (o : Int64) (σ : Mem) (i1 : Nat) (i2 : Nat) (x3 : Int32) (x4 : Int32) (x5 : Int32) (hi1 : i1 < 106 ∧ kd i1 = (0, 12)) (hi2 : i2 < 106 ∧ kd i2 = (0, 12)) (res : Int32) (h : F_X6_preference σ i1 i2 x3 x4 x5 = some res) (sz : Nat) : Met l yX6_preference (WY yX6_preference cX6_preference 5 (some .int)) (RM 0) (va_Pc [.ref (ad i1), .ref (ad i2), .int x3, .int x4, .int x5] (PW D cA ad o σ sz)) (va_Qi (fun r σ9 => r = res ∧ σ9 = σ) (QW D cA ad o) (FA ad sz)) 0 0 (FA ad sz) := by
  refine ct_of (own := RX6) (k := 0) (Qf := va_Qi (fun r σ9 => r = res ∧ σ9 = σ) (QW D cA ad o)) rfl (by decide) (Nat.le_of_ble_eq_true rfl) (fun p e s m below meth c ls C0 X hr hlk hP hl => ?_) sz
  have hS : va_S (FA ad s.heap.size) s.heap s.heap [] := va_S.rf
  have hl : lv_has ls 5 [(0, .ref (ad i1)), (1, .ref (ad i2)), (2, .int x3), (3, .int x4), (4, .int x5)] := hl
  obtain ⟨hx, hb, hml, hown, hts⟩ := id C0
  unfold F_X6_preference at h
  refine lv_iload_n hx hb dX6_preference_0 rfl (lv_at hl 2 rfl) ?_
  rcases sw_in (x := x3) (lo := 1) (n := 7) with c_1 | ⟨j, hj, c_1⟩
  · replace h := it_f h (sw_ne (v := 1) c_1 (by decide))
    replace h := it_f h (sw_ne (v := 2) c_1 (by decide))
    replace h := it_f h (sw_ne (v := 6) c_1 (by decide))
    replace h := it_f h (sw_ne (v := 7) c_1 (by decide))
    refine lv_tableOut (tgt := 121) hx hb dX6_preference_1 (by omega) (by decide) ?_
    refine lv_iconst (v := 0) hx hb dX6_preference_121 (by decide) ?_
    exact r_iret C0 X hP hS hr hlk dX6_preference_122 ⟨Option.some.inj h, rfl⟩
  · rcases (show j = 0 ∨ j = 1 ∨ j = 2 ∨ j = 3 ∨ j = 4 ∨ j = 5 ∨ j = 6 by omega) with rfl | rfl | rfl | rfl | rfl | rfl | rfl
    · have e_2 : x3 = 1 := sw_eq c_1 (by decide)
      replace h := it_t h e_2
      refine lv_tableIn (off := 43) (tgt := 44) hx hb dX6_preference_1 (by rw [e_2]; decide) (by rw [e_2]; decide) (by rw [e_2]; rfl) (by decide) ?_
      refine lv_aload_n hx hb dX6_preference_44 rfl (lv_at hl 0 rfl) ?_
      refine gf_X6_80 C0 X hP i1 hi1 dX6_preference_45 ?_
      refine lv_aload_n hx hb dX6_preference_48 rfl (lv_at hl 1 rfl) ?_
      refine gf_X6_80 C0 X hP i2 hi2 dX6_preference_49 ?_
      refine lv_isub hx hb dX6_preference_52 ?_
      exact r_iret C0 X hP hS hr hlk dX6_preference_53 ⟨Option.some.inj h, rfl⟩
    · have e_3 : x3 = 2 := sw_eq c_1 (by decide)
      replace h := it_f h (show ¬ x3 = 1 by rw [e_3]; decide)
      replace h := it_t h e_3
      refine lv_tableIn (off := 53) (tgt := 54) hx hb dX6_preference_1 (by rw [e_3]; decide) (by rw [e_3]; decide) (by rw [e_3]; rfl) (by decide) ?_
      refine lv_iload hx hb dX6_preference_54 (lv_at hl 4 rfl) ?_
      exact r_iret C0 X hP hS hr hlk dX6_preference_56 ⟨Option.some.inj h, rfl⟩
    · have e_4 : x3 = 3 := sw_eq c_1 (by decide)
      replace h := it_f h (show ¬ x3 = 1 by rw [e_4]; decide)
      replace h := it_f h (show ¬ x3 = 2 by rw [e_4]; decide)
      replace h := it_f h (show ¬ x3 = 6 by rw [e_4]; decide)
      replace h := it_f h (show ¬ x3 = 7 by rw [e_4]; decide)
      refine lv_tableIn (off := 120) (tgt := 121) hx hb dX6_preference_1 (by rw [e_4]; decide) (by rw [e_4]; decide) (by rw [e_4]; rfl) (by decide) ?_
      refine lv_iconst (v := 0) hx hb dX6_preference_121 (by decide) ?_
      exact r_iret C0 X hP hS hr hlk dX6_preference_122 ⟨Option.some.inj h, rfl⟩
    · have e_5 : x3 = 4 := sw_eq c_1 (by decide)
      replace h := it_f h (show ¬ x3 = 1 by rw [e_5]; decide)
      replace h := it_f h (show ¬ x3 = 2 by rw [e_5]; decide)
      replace h := it_f h (show ¬ x3 = 6 by rw [e_5]; decide)
      replace h := it_f h (show ¬ x3 = 7 by rw [e_5]; decide)
      refine lv_tableIn (off := 120) (tgt := 121) hx hb dX6_preference_1 (by rw [e_5]; decide) (by rw [e_5]; decide) (by rw [e_5]; rfl) (by decide) ?_
      refine lv_iconst (v := 0) hx hb dX6_preference_121 (by decide) ?_
      exact r_iret C0 X hP hS hr hlk dX6_preference_122 ⟨Option.some.inj h, rfl⟩
    · have e_6 : x3 = 5 := sw_eq c_1 (by decide)
      replace h := it_f h (show ¬ x3 = 1 by rw [e_6]; decide)
      replace h := it_f h (show ¬ x3 = 2 by rw [e_6]; decide)
      replace h := it_f h (show ¬ x3 = 6 by rw [e_6]; decide)
      replace h := it_f h (show ¬ x3 = 7 by rw [e_6]; decide)
      refine lv_tableIn (off := 120) (tgt := 121) hx hb dX6_preference_1 (by rw [e_6]; decide) (by rw [e_6]; decide) (by rw [e_6]; rfl) (by decide) ?_
      refine lv_iconst (v := 0) hx hb dX6_preference_121 (by decide) ?_
      exact r_iret C0 X hP hS hr hlk dX6_preference_122 ⟨Option.some.inj h, rfl⟩
    · have e_7 : x3 = 6 := sw_eq c_1 (by decide)
      replace h := it_f h (show ¬ x3 = 1 by rw [e_7]; decide)
      replace h := it_f h (show ¬ x3 = 2 by rw [e_7]; decide)
      replace h := it_t h e_7
      refine lv_tableIn (off := 56) (tgt := 57) hx hb dX6_preference_1 (by rw [e_7]; decide) (by rw [e_7]; decide) (by rw [e_7]; rfl) (by decide) ?_
      refine lv_aload_n hx hb dX6_preference_57 rfl (lv_at hl 0 rfl) ?_
      refine gf_X6_77 C0 X hP i1 hi1 dX6_preference_58 ?_
      refine lv_aload_n hx hb dX6_preference_61 rfl (lv_at hl 1 rfl) ?_
      refine gf_X6_77 C0 X hP i2 hi2 dX6_preference_62 ?_
      refine lv_icmp_eq (tgt := 81) hx hb dX6_preference_65 (by decide) (fun c_8 => ?_) (fun c_8 => ?_)
      · replace h := it_t h c_8
        refine lv_aload_n hx hb dX6_preference_81 rfl (lv_at hl 0 rfl) ?_
        refine gf_X6_80 C0 X hP i1 hi1 dX6_preference_82 ?_
        refine lv_aload_n hx hb dX6_preference_85 rfl (lv_at hl 1 rfl) ?_
        refine gf_X6_80 C0 X hP i2 hi2 dX6_preference_86 ?_
        refine lv_isub hx hb dX6_preference_89 ?_
        exact r_iret C0 X hP hS hr hlk dX6_preference_90 ⟨Option.some.inj h, rfl⟩
      · replace h := it_f h c_8
        refine lv_aload_n hx hb dX6_preference_68 rfl (lv_at hl 0 rfl) ?_
        refine gf_X6_77 C0 X hP i1 hi1 dX6_preference_69 ?_
        refine lv_if_eq (tgt := 79) hx hb dX6_preference_72 (by decide) (fun c_9 => ?_) (fun c_9 => ?_)
        · replace h := it_t h c_9
          refine lv_iconst (v := (-1)) hx hb dX6_preference_79 (by decide) ?_
          exact r_iret C0 X hP hS hr hlk dX6_preference_80 ⟨Option.some.inj h, rfl⟩
        · replace h := it_f h c_9
          refine lv_iconst (v := 1) hx hb dX6_preference_75 (by decide) ?_
          refine lv_goto (tgt := 80) hx hb dX6_preference_76 (by decide) ?_
          exact r_iret C0 X hP hS hr hlk dX6_preference_80 ⟨Option.some.inj h, rfl⟩
    · have e_10 : x3 = 7 := sw_eq c_1 (by decide)
      replace h := it_f h (show ¬ x3 = 1 by rw [e_10]; decide)
      replace h := it_f h (show ¬ x3 = 2 by rw [e_10]; decide)
      replace h := it_f h (show ¬ x3 = 6 by rw [e_10]; decide)
      replace h := it_t h e_10
      refine lv_tableIn (off := 90) (tgt := 91) hx hb dX6_preference_1 (by rw [e_10]; decide) (by rw [e_10]; decide) (by rw [e_10]; rfl) (by decide) ?_
      refine lv_iload_n hx hb dX6_preference_91 rfl (lv_at hl 3 rfl) ?_
      refine lv_if_eq (tgt := 118) hx hb dX6_preference_92 (by decide) (fun c_11 => ?_) (fun c_11 => ?_)
      · replace h := it_t h c_11
        refine lv_iload hx hb dX6_preference_118 (lv_at hl 4 rfl) ?_
        exact r_iret C0 X hP hS hr hlk dX6_preference_120 ⟨Option.some.inj h, rfl⟩
      · replace h := it_f h c_11
        refine lv_aload_n hx hb dX6_preference_95 rfl (lv_at hl 0 rfl) ?_
        refine gf_X6_67 C0 X hP i1 hi1 dX6_preference_96 ?_
        refine lv_iload_n hx hb dX6_preference_99 rfl (lv_at hl 3 rfl) ?_
        refine lv_iconst (v := 2) hx hb dX6_preference_100 (by decide) ?_
        refine lv_icmp_ne (tgt := 108) hx hb dX6_preference_101 (by decide) (fun c_12 => ?_) (fun c_12 => ?_)
        · replace h := it_f h c_12
          refine lv_iconst (v := 0) hx hb dX6_preference_108 (by decide) ?_
          refine lv_icmp_ne (tgt := 116) hx hb dX6_preference_109 (by decide) (fun c_13 => ?_) (fun c_13 => ?_)
          · replace h := it_f h c_13
            refine lv_iconst (v := 1) hx hb dX6_preference_116 (by decide) ?_
            exact r_iret C0 X hP hS hr hlk dX6_preference_117 ⟨Option.some.inj h, rfl⟩
          · replace h := it_t h c_13
            refine lv_iconst (v := (-1)) hx hb dX6_preference_112 (by decide) ?_
            refine lv_goto (tgt := 117) hx hb dX6_preference_113 (by decide) ?_
            exact r_iret C0 X hP hS hr hlk dX6_preference_117 ⟨Option.some.inj h, rfl⟩
        · replace h := it_t h c_12
          refine lv_iconst (v := 1) hx hb dX6_preference_104 (by decide) ?_
          refine lv_goto (tgt := 109) hx hb dX6_preference_105 (by decide) ?_
          refine lv_icmp_ne (tgt := 116) hx hb dX6_preference_109 (by decide) (fun c_14 => ?_) (fun c_14 => ?_)
          · replace h := it_f h c_14
            refine lv_iconst (v := 1) hx hb dX6_preference_116 (by decide) ?_
            exact r_iret C0 X hP hS hr hlk dX6_preference_117 ⟨Option.some.inj h, rfl⟩
          · replace h := it_t h c_14
            refine lv_iconst (v := (-1)) hx hb dX6_preference_112 (by decide) ?_
            refine lv_goto (tgt := 117) hx hb dX6_preference_113 (by decide) ?_
            exact r_iret C0 X hP hS hr hlk dX6_preference_117 ⟨Option.some.inj h, rfl⟩
def bB_cX6_backerOf : Nat := 0xacfc100500a71b07009e4a00b40519ac1c05009e4a00b40619ac1b05009e4a00b405190d00990b150b36030400a70407009c0a150d00a7031100a7040700a41c1b10009a0a150a36ee00b8071504150915061905191000a708150800a008091509362e1dcb00b40c00b42a083664684a00b40619eb00b606192a684a00b40519eb00b605192a073664eb00b606192aeb00b605192aacfc100600a1061d08009b1d0c00c606191100c60519063ae700b61c2a053ae700b61b2a
theorem yB_cX6_backerOf : BYS cX6_backerOf 185 bB_cX6_backerOf := BYS_of (by decide +kernel)
theorem dX6_backerOf_0 : decode cX6_backerOf 0 = .ok (.aload_n 0, 1) := D_42 yB_cX6_backerOf rfl rfl
theorem dX6_backerOf_1 : decode cX6_backerOf 1 = .ok (.iload_n 1, 1) := D_27 yB_cX6_backerOf rfl rfl
theorem dX6_backerOf_2 : decode cX6_backerOf 2 = .ok (.invokevirtual 231, 3) := D_182 yB_cX6_backerOf rfl rfl rfl
theorem dX6_backerOf_5 : decode cX6_backerOf 5 = .ok (.astore 5, 2) := D_58 yB_cX6_backerOf rfl rfl rfl
theorem dX6_backerOf_7 : decode cX6_backerOf 7 = .ok (.aload_n 0, 1) := D_42 yB_cX6_backerOf rfl rfl
theorem dX6_backerOf_8 : decode cX6_backerOf 8 = .ok (.iload_n 2, 1) := D_28 yB_cX6_backerOf rfl rfl
theorem dX6_backerOf_9 : decode cX6_backerOf 9 = .ok (.invokevirtual 231, 3) := D_182 yB_cX6_backerOf rfl rfl rfl
theorem dX6_backerOf_12 : decode cX6_backerOf 12 = .ok (.astore 6, 2) := D_58 yB_cX6_backerOf rfl rfl rfl
theorem dX6_backerOf_14 : decode cX6_backerOf 14 = .ok (.aload 5, 2) := D_25 yB_cX6_backerOf rfl rfl rfl
theorem dX6_backerOf_16 : decode cX6_backerOf 16 = .ok (.ifnull 17, 3) := D_198 yB_cX6_backerOf rfl rfl (sg_p (m := 32768) (N := 17) rfl rfl rfl)
theorem dX6_backerOf_19 : decode cX6_backerOf 19 = .ok (.aload 6, 2) := D_25 yB_cX6_backerOf rfl rfl rfl
theorem dX6_backerOf_21 : decode cX6_backerOf 21 = .ok (.ifnull 12, 3) := D_198 yB_cX6_backerOf rfl rfl (sg_p (m := 32768) (N := 12) rfl rfl rfl)
theorem dX6_backerOf_24 : decode cX6_backerOf 24 = .ok (.iload_n 3, 1) := D_29 yB_cX6_backerOf rfl rfl
theorem dX6_backerOf_25 : decode cX6_backerOf 25 = .ok (.ifCond .lt 8, 3) := D_155 yB_cX6_backerOf rfl rfl (sg_p (m := 32768) (N := 8) rfl rfl rfl)
theorem dX6_backerOf_28 : decode cX6_backerOf 28 = .ok (.iload_n 3, 1) := D_29 yB_cX6_backerOf rfl rfl
theorem dX6_backerOf_29 : decode cX6_backerOf 29 = .ok (.iconst 3, 1) := D_6 yB_cX6_backerOf rfl rfl
theorem dX6_backerOf_30 : decode cX6_backerOf 30 = .ok (.if_icmp .lt 6, 3) := D_161 yB_cX6_backerOf rfl rfl (sg_p (m := 32768) (N := 6) rfl rfl rfl)
theorem dX6_backerOf_33 : decode cX6_backerOf 33 = .ok (.bipush (-4), 2) := D_16 yB_cX6_backerOf rfl rfl (sg_n (m := 128) (N := 4) rfl rfl rfl)
theorem dX6_backerOf_35 : decode cX6_backerOf 35 = .ok (.ireturn, 1) := D_172 yB_cX6_backerOf rfl rfl
theorem dX6_backerOf_36 : decode cX6_backerOf 36 = .ok (.aload_n 0, 1) := D_42 yB_cX6_backerOf rfl rfl
theorem dX6_backerOf_37 : decode cX6_backerOf 37 = .ok (.aload 5, 2) := D_25 yB_cX6_backerOf rfl rfl rfl
theorem dX6_backerOf_39 : decode cX6_backerOf 39 = .ok (.invokevirtual 235, 3) := D_182 yB_cX6_backerOf rfl rfl rfl
theorem dX6_backerOf_42 : decode cX6_backerOf 42 = .ok (.aload_n 0, 1) := D_42 yB_cX6_backerOf rfl rfl
theorem dX6_backerOf_43 : decode cX6_backerOf 43 = .ok (.aload 6, 2) := D_25 yB_cX6_backerOf rfl rfl rfl
theorem dX6_backerOf_45 : decode cX6_backerOf 45 = .ok (.invokevirtual 235, 3) := D_182 yB_cX6_backerOf rfl rfl rfl
theorem dX6_backerOf_48 : decode cX6_backerOf 48 = .ok (.isub, 1) := D_100 yB_cX6_backerOf rfl rfl
theorem dX6_backerOf_49 : decode cX6_backerOf 49 = .ok (.istore 7, 2) := D_54 yB_cX6_backerOf rfl rfl rfl
theorem dX6_backerOf_51 : decode cX6_backerOf 51 = .ok (.aload_n 0, 1) := D_42 yB_cX6_backerOf rfl rfl
theorem dX6_backerOf_52 : decode cX6_backerOf 52 = .ok (.aload 5, 2) := D_25 yB_cX6_backerOf rfl rfl rfl
theorem dX6_backerOf_54 : decode cX6_backerOf 54 = .ok (.invokevirtual 235, 3) := D_182 yB_cX6_backerOf rfl rfl rfl
theorem dX6_backerOf_57 : decode cX6_backerOf 57 = .ok (.aload 5, 2) := D_25 yB_cX6_backerOf rfl rfl rfl
theorem dX6_backerOf_59 : decode cX6_backerOf 59 = .ok (.getfield 74, 3) := D_180 yB_cX6_backerOf rfl rfl rfl
theorem dX6_backerOf_62 : decode cX6_backerOf 62 = .ok (.imul, 1) := D_104 yB_cX6_backerOf rfl rfl
theorem dX6_backerOf_63 : decode cX6_backerOf 63 = .ok (.aload_n 0, 1) := D_42 yB_cX6_backerOf rfl rfl
theorem dX6_backerOf_64 : decode cX6_backerOf 64 = .ok (.aload 6, 2) := D_25 yB_cX6_backerOf rfl rfl rfl
theorem dX6_backerOf_66 : decode cX6_backerOf 66 = .ok (.invokevirtual 235, 3) := D_182 yB_cX6_backerOf rfl rfl rfl
theorem dX6_backerOf_69 : decode cX6_backerOf 69 = .ok (.aload 6, 2) := D_25 yB_cX6_backerOf rfl rfl rfl
theorem dX6_backerOf_71 : decode cX6_backerOf 71 = .ok (.getfield 74, 3) := D_180 yB_cX6_backerOf rfl rfl rfl
theorem dX6_backerOf_74 : decode cX6_backerOf 74 = .ok (.imul, 1) := D_104 yB_cX6_backerOf rfl rfl
theorem dX6_backerOf_75 : decode cX6_backerOf 75 = .ok (.isub, 1) := D_100 yB_cX6_backerOf rfl rfl
theorem dX6_backerOf_76 : decode cX6_backerOf 76 = .ok (.istore 8, 2) := D_54 yB_cX6_backerOf rfl rfl rfl
theorem dX6_backerOf_78 : decode cX6_backerOf 78 = .ok (.aload_n 0, 1) := D_42 yB_cX6_backerOf rfl rfl
theorem dX6_backerOf_79 : decode cX6_backerOf 79 = .ok (.getfield 12, 3) := D_180 yB_cX6_backerOf rfl rfl rfl
theorem dX6_backerOf_82 : decode cX6_backerOf 82 = .ok (.getfield 203, 3) := D_180 yB_cX6_backerOf rfl rfl rfl
theorem dX6_backerOf_85 : decode cX6_backerOf 85 = .ok (.iload_n 3, 1) := D_29 yB_cX6_backerOf rfl rfl
theorem dX6_backerOf_86 : decode cX6_backerOf 86 = .ok (.iaload, 1) := D_46 yB_cX6_backerOf rfl rfl
theorem dX6_backerOf_87 : decode cX6_backerOf 87 = .ok (.istore 9, 2) := D_54 yB_cX6_backerOf rfl rfl rfl
theorem dX6_backerOf_89 : decode cX6_backerOf 89 = .ok (.iload 9, 2) := D_21 yB_cX6_backerOf rfl rfl rfl
theorem dX6_backerOf_91 : decode cX6_backerOf 91 = .ok (.iconst 5, 1) := D_8 yB_cX6_backerOf rfl rfl
theorem dX6_backerOf_92 : decode cX6_backerOf 92 = .ok (.if_icmp .ne 8, 3) := D_160 yB_cX6_backerOf rfl rfl (sg_p (m := 32768) (N := 8) rfl rfl rfl)
theorem dX6_backerOf_95 : decode cX6_backerOf 95 = .ok (.iload 8, 2) := D_21 yB_cX6_backerOf rfl rfl rfl
theorem dX6_backerOf_97 : decode cX6_backerOf 97 = .ok (.goto 16, 3) := D_167 yB_cX6_backerOf rfl rfl (sg_p (m := 32768) (N := 16) rfl rfl rfl)
theorem dX6_backerOf_100 : decode cX6_backerOf 100 = .ok (.aload 5, 2) := D_25 yB_cX6_backerOf rfl rfl rfl
theorem dX6_backerOf_102 : decode cX6_backerOf 102 = .ok (.aload 6, 2) := D_25 yB_cX6_backerOf rfl rfl rfl
theorem dX6_backerOf_104 : decode cX6_backerOf 104 = .ok (.iload 9, 2) := D_21 yB_cX6_backerOf rfl rfl rfl
theorem dX6_backerOf_106 : decode cX6_backerOf 106 = .ok (.iload 4, 2) := D_21 yB_cX6_backerOf rfl rfl rfl
theorem dX6_backerOf_108 : decode cX6_backerOf 108 = .ok (.iload 7, 2) := D_21 yB_cX6_backerOf rfl rfl rfl
theorem dX6_backerOf_110 : decode cX6_backerOf 110 = .ok (.invokestatic 238, 3) := D_184 yB_cX6_backerOf rfl rfl rfl
theorem dX6_backerOf_113 : decode cX6_backerOf 113 = .ok (.istore 10, 2) := D_54 yB_cX6_backerOf rfl rfl rfl
theorem dX6_backerOf_115 : decode cX6_backerOf 115 = .ok (.iload 10, 2) := D_21 yB_cX6_backerOf rfl rfl rfl
theorem dX6_backerOf_117 : decode cX6_backerOf 117 = .ok (.ifCond .ne 16, 3) := D_154 yB_cX6_backerOf rfl rfl (sg_p (m := 32768) (N := 16) rfl rfl rfl)
theorem dX6_backerOf_120 : decode cX6_backerOf 120 = .ok (.iload_n 1, 1) := D_27 yB_cX6_backerOf rfl rfl
theorem dX6_backerOf_121 : decode cX6_backerOf 121 = .ok (.iload_n 2, 1) := D_28 yB_cX6_backerOf rfl rfl
theorem dX6_backerOf_122 : decode cX6_backerOf 122 = .ok (.if_icmp .le 7, 3) := D_164 yB_cX6_backerOf rfl rfl (sg_p (m := 32768) (N := 7) rfl rfl rfl)
theorem dX6_backerOf_125 : decode cX6_backerOf 125 = .ok (.iconst 1, 1) := D_4 yB_cX6_backerOf rfl rfl
theorem dX6_backerOf_126 : decode cX6_backerOf 126 = .ok (.goto 17, 3) := D_167 yB_cX6_backerOf rfl rfl (sg_p (m := 32768) (N := 17) rfl rfl rfl)
theorem dX6_backerOf_129 : decode cX6_backerOf 129 = .ok (.iconst 0, 1) := D_3 yB_cX6_backerOf rfl rfl
theorem dX6_backerOf_130 : decode cX6_backerOf 130 = .ok (.goto 13, 3) := D_167 yB_cX6_backerOf rfl rfl (sg_p (m := 32768) (N := 13) rfl rfl rfl)
theorem dX6_backerOf_133 : decode cX6_backerOf 133 = .ok (.iload 10, 2) := D_21 yB_cX6_backerOf rfl rfl rfl
theorem dX6_backerOf_135 : decode cX6_backerOf 135 = .ok (.ifCond .ge 7, 3) := D_156 yB_cX6_backerOf rfl rfl (sg_p (m := 32768) (N := 7) rfl rfl rfl)
theorem dX6_backerOf_138 : decode cX6_backerOf 138 = .ok (.iconst 1, 1) := D_4 yB_cX6_backerOf rfl rfl
theorem dX6_backerOf_139 : decode cX6_backerOf 139 = .ok (.goto 4, 3) := D_167 yB_cX6_backerOf rfl rfl (sg_p (m := 32768) (N := 4) rfl rfl rfl)
theorem dX6_backerOf_142 : decode cX6_backerOf 142 = .ok (.iconst 0, 1) := D_3 yB_cX6_backerOf rfl rfl
theorem dX6_backerOf_143 : decode cX6_backerOf 143 = .ok (.istore 11, 2) := D_54 yB_cX6_backerOf rfl rfl rfl
theorem dX6_backerOf_145 : decode cX6_backerOf 145 = .ok (.iload 11, 2) := D_21 yB_cX6_backerOf rfl rfl rfl
theorem dX6_backerOf_147 : decode cX6_backerOf 147 = .ok (.ifCond .eq 13, 3) := D_153 yB_cX6_backerOf rfl rfl (sg_p (m := 32768) (N := 13) rfl rfl rfl)
theorem dX6_backerOf_150 : decode cX6_backerOf 150 = .ok (.aload 5, 2) := D_25 yB_cX6_backerOf rfl rfl rfl
theorem dX6_backerOf_152 : decode cX6_backerOf 152 = .ok (.getfield 74, 3) := D_180 yB_cX6_backerOf rfl rfl rfl
theorem dX6_backerOf_155 : decode cX6_backerOf 155 = .ok (.ifCond .le 5, 3) := D_158 yB_cX6_backerOf rfl rfl (sg_p (m := 32768) (N := 5) rfl rfl rfl)
theorem dX6_backerOf_158 : decode cX6_backerOf 158 = .ok (.iload_n 1, 1) := D_27 yB_cX6_backerOf rfl rfl
theorem dX6_backerOf_159 : decode cX6_backerOf 159 = .ok (.ireturn, 1) := D_172 yB_cX6_backerOf rfl rfl
theorem dX6_backerOf_160 : decode cX6_backerOf 160 = .ok (.aload 6, 2) := D_25 yB_cX6_backerOf rfl rfl rfl
theorem dX6_backerOf_162 : decode cX6_backerOf 162 = .ok (.getfield 74, 3) := D_180 yB_cX6_backerOf rfl rfl rfl
theorem dX6_backerOf_165 : decode cX6_backerOf 165 = .ok (.ifCond .le 5, 3) := D_158 yB_cX6_backerOf rfl rfl (sg_p (m := 32768) (N := 5) rfl rfl rfl)
theorem dX6_backerOf_168 : decode cX6_backerOf 168 = .ok (.iload_n 2, 1) := D_28 yB_cX6_backerOf rfl rfl
theorem dX6_backerOf_169 : decode cX6_backerOf 169 = .ok (.ireturn, 1) := D_172 yB_cX6_backerOf rfl rfl
theorem dX6_backerOf_170 : decode cX6_backerOf 170 = .ok (.aload 5, 2) := D_25 yB_cX6_backerOf rfl rfl rfl
theorem dX6_backerOf_172 : decode cX6_backerOf 172 = .ok (.getfield 74, 3) := D_180 yB_cX6_backerOf rfl rfl rfl
theorem dX6_backerOf_175 : decode cX6_backerOf 175 = .ok (.ifCond .le 7, 3) := D_158 yB_cX6_backerOf rfl rfl (sg_p (m := 32768) (N := 7) rfl rfl rfl)
theorem dX6_backerOf_178 : decode cX6_backerOf 178 = .ok (.iload_n 1, 1) := D_27 yB_cX6_backerOf rfl rfl
theorem dX6_backerOf_179 : decode cX6_backerOf 179 = .ok (.goto 5, 3) := D_167 yB_cX6_backerOf rfl rfl (sg_p (m := 32768) (N := 5) rfl rfl rfl)
theorem dX6_backerOf_182 : decode cX6_backerOf 182 = .ok (.bipush (-4), 2) := D_16 yB_cX6_backerOf rfl rfl (sg_n (m := 128) (N := 4) rfl rfl rfl)
theorem dX6_backerOf_184 : decode cX6_backerOf 184 = .ok (.ireturn, 1) := D_172 yB_cX6_backerOf rfl rfl
def F_X6_backerOf (σ : Mem) (t : Nat) (x1 : Int32) (x2 : Int32) (x3 : Int32) (x4 : Int32) : Option (Int32) := if x1 < 0 ∨ σ (22 * t) 2 ≤ x1 ∨ 7 ≤ x1 then (if x2 < 0 ∨ σ (22 * t) 2 ≤ x2 ∨ 7 ≤ x2 then (some (-4)) else ((ix 7 x2).bind fun j_2 => some (-4))) else ((ix 7 x1).bind fun j_1 => if x2 < 0 ∨ σ (22 * t) 2 ≤ x2 ∨ 7 ≤ x2 then (some (-4)) else ((ix 7 x2).bind fun j_3 => if x3 < 0 then (some (-4)) else (if x3 < 3 then ((F_X6_wayBack σ t (22 * t + 15 + j_1)).bind fun r_6 => (F_X6_wayBack σ t (22 * t + 15 + j_3)).bind fun r_7 => (F_X6_wayBack σ t (22 * t + 15 + j_1)).bind fun r_8 => (F_X6_wayBack σ t (22 * t + 15 + j_3)).bind fun r_9 => (ix 3 x3).bind fun k_10 => if (σ (22 * t + 11) k_10) = 5 then (if ((r_8 * (σ (22 * t + 15 + j_1) 3)) - (r_9 * (σ (22 * t + 15 + j_3) 3))) = 0 then (if x1 ≤ x2 then (if (σ (22 * t + 15 + j_3) 3) ≤ 0 then (if (σ (22 * t + 15 + j_1) 3) ≤ 0 then (some (-4)) else (some x1)) else (some x2)) else (if (σ (22 * t + 15 + j_1) 3) ≤ 0 then (if (σ (22 * t + 15 + j_3) 3) ≤ 0 then (if (σ (22 * t + 15 + j_1) 3) ≤ 0 then (some (-4)) else (some x1)) else (some x2)) else (some x1))) else (if 0 ≤ ((r_8 * (σ (22 * t + 15 + j_1) 3)) - (r_9 * (σ (22 * t + 15 + j_3) 3))) then (if (σ (22 * t + 15 + j_3) 3) ≤ 0 then (if (σ (22 * t + 15 + j_1) 3) ≤ 0 then (some (-4)) else (some x1)) else (some x2)) else (if (σ (22 * t + 15 + j_1) 3) ≤ 0 then (if (σ (22 * t + 15 + j_3) 3) ≤ 0 then (if (σ (22 * t + 15 + j_1) 3) ≤ 0 then (some (-4)) else (some x1)) else (some x2)) else (some x1)))) else ((F_X6_preference σ (22 * t + 15 + j_1) (22 * t + 15 + j_3) (σ (22 * t + 11) k_10) x4 (r_6 - r_7)).bind fun r_12 => if r_12 = 0 then (if x1 ≤ x2 then (if (σ (22 * t + 15 + j_3) 3) ≤ 0 then (if (σ (22 * t + 15 + j_1) 3) ≤ 0 then (some (-4)) else (some x1)) else (some x2)) else (if (σ (22 * t + 15 + j_1) 3) ≤ 0 then (if (σ (22 * t + 15 + j_3) 3) ≤ 0 then (if (σ (22 * t + 15 + j_1) 3) ≤ 0 then (some (-4)) else (some x1)) else (some x2)) else (some x1))) else (if 0 ≤ r_12 then (if (σ (22 * t + 15 + j_3) 3) ≤ 0 then (if (σ (22 * t + 15 + j_1) 3) ≤ 0 then (some (-4)) else (some x1)) else (some x2)) else (if (σ (22 * t + 15 + j_1) 3) ≤ 0 then (if (σ (22 * t + 15 + j_3) 3) ≤ 0 then (if (σ (22 * t + 15 + j_1) 3) ≤ 0 then (some (-4)) else (some x1)) else (some x2)) else (some x1))))) else (some (-4)))))
set_option maxHeartbeats 4000000 in
set_option maxRecDepth 100000 in
theorem c_X6_backerOf (l : Launch) (D : va_G) (cA : Nat → ClassId) (ad : Nat → Nat) (o : Int64) (σ : Mem) (t : Nat) (x1 : Int32) (x2 : Int32) (x3 : Int32) (x4 : Int32) (ht : t < 3) (res : Int32) (h : F_X6_backerOf σ t x1 x2 x3 x4 = some res) (sz : Nat) : Met l yX6_backerOf (WY yX6_backerOf cX6_backerOf 12 (some .int)) (RM 1) (va_Pc [.ref (ad (22 * t)), .int x1, .int x2, .int x3, .int x4] (PW D cA ad o σ sz)) (va_Qi (fun r σ9 => r = res ∧ σ9 = σ) (QW D cA ad o) (FA ad sz)) 0 0 (FA ad sz) := by
  refine ct_of (own := RX6) (k := 1) (Qf := va_Qi (fun r σ9 => r = res ∧ σ9 = σ) (QW D cA ad o)) rfl (by decide) (Nat.le_of_ble_eq_true rfl) (fun p e s m below meth c ls C0 X hr hlk hP hl => ?_) sz
  have hS : va_S (FA ad s.heap.size) s.heap s.heap [] := va_S.rf
  have hl : lv_has ls 12 [(0, .ref (ad (22 * t))), (1, .int x1), (2, .int x2), (3, .int x3), (4, .int x4)] := hl
  obtain ⟨hx, hb, hml, hown, hts⟩ := id C0
  unfold F_X6_backerOf at h
  refine lv_aload_n hx hb dX6_backerOf_0 rfl (lv_at hl 0 rfl) ?_
  refine lv_iload_n hx hb dX6_backerOf_1 rfl (lv_at hl 1 rfl) ?_
  refine r_cq X hS (r_runV (As := [.int x1]) (rest := []) C0 X hP L_X6_231 (fun sz => c_X6_cartAt l D cA ad o σ t x1 ht sz) (kdT t ht).1 (kdT t ht).2 (by decide) rfl ⟨Nat.le_of_ble_eq_true rfl, Nat.le_of_ble_eq_true rfl⟩ rfl hl.1 rfl (Nat.le_of_ble_eq_true rfl) dX6_backerOf_2 ⟨Nat.zero_le _, Nat.zero_le _⟩) (fun σ9 H locs hw hP hS => ?_) (fun x9 σ9 H locs hw hP hS => ?_)
  · rw [hw.1] at hP
    replace h := it_t h hw.2
    refine lv_astoreN (lv' := [(5, .null), (0, .ref (ad (22 * t))), (1, .int x1), (2, .int x2), (3, .int x3), (4, .int x4)]) hx hb dX6_backerOf_5 hl (by decide) rfl (fun ls hl => ?_)
    refine lv_aload_n hx hb dX6_backerOf_7 rfl (lv_at hl 1 rfl) ?_
    refine lv_iload_n hx hb dX6_backerOf_8 rfl (lv_at hl 3 rfl) ?_
    refine r_cq X hS (r_runV (As := [.int x2]) (rest := []) C0 X hP L_X6_231 (fun sz => c_X6_cartAt l D cA ad o σ t x2 ht sz) (kdT t ht).1 (kdT t ht).2 (by decide) rfl ⟨Nat.le_of_ble_eq_true rfl, Nat.le_of_ble_eq_true rfl⟩ rfl hl.1 rfl (Nat.le_of_ble_eq_true rfl) dX6_backerOf_9 ⟨Nat.zero_le _, Nat.zero_le _⟩) (fun σ9 H locs hw hP hS => ?_) (fun x9 σ9 H locs hw hP hS => ?_)
    · rw [hw.1] at hP
      replace h := it_t h hw.2
      refine lv_astoreN (lv' := [(6, .null), (5, .null), (0, .ref (ad (22 * t))), (1, .int x1), (2, .int x2), (3, .int x3), (4, .int x4)]) hx hb dX6_backerOf_12 hl (by decide) rfl (fun ls hl => ?_)
      refine lv_aloadN hx hb dX6_backerOf_14 (lv_at hl 1 rfl) ?_
      refine lv_ifnullN (tgt := 33) hx hb dX6_backerOf_16 (by decide) ?_
      refine lv_bipush (v := (-4)) hx hb dX6_backerOf_33 (by decide) ?_
      exact r_iret C0 X hP hS hr hlk dX6_backerOf_35 ⟨Option.some.inj h, rfl⟩
    · rw [hw.1] at hP
      obtain ⟨-, j_2, hj_2, ej_2, l9, rfl⟩ := hw
      replace h := it_f h (nocart ej_2 hj_2 l9)
      obtain ⟨k9, ek9, h⟩ := bnd h
      replace ek9 := ix_s ek9 (by decide)
      obtain rfl : j_2 = k9 := nI_inj (ej_2.symm.trans ek9.1) (by omega) (by have := ek9.2; omega)
      refine lv_astore (lv' := [(6, .ref (ad (22 * t + 15 + j_2))), (5, .null), (0, .ref (ad (22 * t))), (1, .int x1), (2, .int x2), (3, .int x3), (4, .int x4)]) hx hb dX6_backerOf_12 hl (by decide) rfl (fun ls hl => ?_)
      refine lv_aloadN hx hb dX6_backerOf_14 (lv_at hl 1 rfl) ?_
      refine lv_ifnullN (tgt := 33) hx hb dX6_backerOf_16 (by decide) ?_
      refine lv_bipush (v := (-4)) hx hb dX6_backerOf_33 (by decide) ?_
      exact r_iret C0 X hP hS hr hlk dX6_backerOf_35 ⟨Option.some.inj h, rfl⟩
  · rw [hw.1] at hP
    obtain ⟨-, j_1, hj_1, ej_1, l9, rfl⟩ := hw
    replace h := it_f h (nocart ej_1 hj_1 l9)
    obtain ⟨k9, ek9, h⟩ := bnd h
    replace ek9 := ix_s ek9 (by decide)
    obtain rfl : j_1 = k9 := nI_inj (ej_1.symm.trans ek9.1) (by omega) (by have := ek9.2; omega)
    refine lv_astore (lv' := [(5, .ref (ad (22 * t + 15 + j_1))), (0, .ref (ad (22 * t))), (1, .int x1), (2, .int x2), (3, .int x3), (4, .int x4)]) hx hb dX6_backerOf_5 hl (by decide) rfl (fun ls hl => ?_)
    refine lv_aload_n hx hb dX6_backerOf_7 rfl (lv_at hl 1 rfl) ?_
    refine lv_iload_n hx hb dX6_backerOf_8 rfl (lv_at hl 3 rfl) ?_
    refine r_cq X hS (r_runV (As := [.int x2]) (rest := []) C0 X hP L_X6_231 (fun sz => c_X6_cartAt l D cA ad o σ t x2 ht sz) (kdT t ht).1 (kdT t ht).2 (by decide) rfl ⟨Nat.le_of_ble_eq_true rfl, Nat.le_of_ble_eq_true rfl⟩ rfl hl.1 rfl (Nat.le_of_ble_eq_true rfl) dX6_backerOf_9 ⟨Nat.zero_le _, Nat.zero_le _⟩) (fun σ9 H locs hw hP hS => ?_) (fun x9 σ9 H locs hw hP hS => ?_)
    · rw [hw.1] at hP
      replace h := it_t h hw.2
      refine lv_astoreN (lv' := [(6, .null), (5, .ref (ad (22 * t + 15 + j_1))), (0, .ref (ad (22 * t))), (1, .int x1), (2, .int x2), (3, .int x3), (4, .int x4)]) hx hb dX6_backerOf_12 hl (by decide) rfl (fun ls hl => ?_)
      refine lv_aload hx hb dX6_backerOf_14 (lv_at hl 1 rfl) ?_
      refine lv_ifnull hx hb dX6_backerOf_16 ?_
      refine lv_aloadN hx hb dX6_backerOf_19 (lv_at hl 0 rfl) ?_
      refine lv_ifnullN (tgt := 33) hx hb dX6_backerOf_21 (by decide) ?_
      refine lv_bipush (v := (-4)) hx hb dX6_backerOf_33 (by decide) ?_
      exact r_iret C0 X hP hS hr hlk dX6_backerOf_35 ⟨Option.some.inj h, rfl⟩
    · rw [hw.1] at hP
      obtain ⟨-, j_3, hj_3, ej_3, l9, rfl⟩ := hw
      replace h := it_f h (nocart ej_3 hj_3 l9)
      obtain ⟨k9, ek9, h⟩ := bnd h
      replace ek9 := ix_s ek9 (by decide)
      obtain rfl : j_3 = k9 := nI_inj (ej_3.symm.trans ek9.1) (by omega) (by have := ek9.2; omega)
      refine lv_astore (lv' := [(6, .ref (ad (22 * t + 15 + j_3))), (5, .ref (ad (22 * t + 15 + j_1))), (0, .ref (ad (22 * t))), (1, .int x1), (2, .int x2), (3, .int x3), (4, .int x4)]) hx hb dX6_backerOf_12 hl (by decide) rfl (fun ls hl => ?_)
      refine lv_aload hx hb dX6_backerOf_14 (lv_at hl 1 rfl) ?_
      refine lv_ifnull hx hb dX6_backerOf_16 ?_
      refine lv_aload hx hb dX6_backerOf_19 (lv_at hl 0 rfl) ?_
      refine lv_ifnull hx hb dX6_backerOf_21 ?_
      refine lv_iload_n hx hb dX6_backerOf_24 rfl (lv_at hl 5 rfl) ?_
      refine lv_if_lt (tgt := 33) hx hb dX6_backerOf_25 (by decide) (fun c_4 => ?_) (fun c_4 => ?_)
      · replace h := it_t h c_4
        refine lv_bipush (v := (-4)) hx hb dX6_backerOf_33 (by decide) ?_
        exact r_iret C0 X hP hS hr hlk dX6_backerOf_35 ⟨Option.some.inj h, rfl⟩
      · replace h := it_f h c_4
        refine lv_iload_n hx hb dX6_backerOf_28 rfl (lv_at hl 5 rfl) ?_
        refine lv_iconst (v := 3) hx hb dX6_backerOf_29 (by decide) ?_
        refine lv_icmp_lt (tgt := 36) hx hb dX6_backerOf_30 (by decide) (fun c_5 => ?_) (fun c_5 => ?_)
        · replace h := it_t h c_5
          refine lv_aload_n hx hb dX6_backerOf_36 rfl (lv_at hl 2 rfl) ?_
          refine lv_aload hx hb dX6_backerOf_37 (lv_at hl 1 rfl) ?_
          obtain ⟨r_6, er_6, h⟩ := bnd h
          refine r_ci X hS (r_runV (As := [.ref (ad (22 * t + 15 + j_1))]) (rest := []) C0 X hP L_X6_235 (fun sz => c_X6_wayBack l D cA ad o σ t (22 * t + 15 + j_1) ht (kdC t ht j_1 hj_1) r_6 er_6 sz) (kdT t ht).1 (kdT t ht).2 (by decide) rfl ⟨Nat.le_of_ble_eq_true rfl, Nat.le_of_ble_eq_true rfl⟩ rfl hl.1 rfl (Nat.le_of_ble_eq_true rfl) dX6_backerOf_39 ⟨Nat.zero_le _, Nat.zero_le _⟩) (fun r9 σ9 H locs hw hP hS => ?_)
          rw [hw.2] at hP
          rw [hw.1]
          refine lv_aload_n hx hb dX6_backerOf_42 rfl (lv_at hl 2 rfl) ?_
          refine lv_aload hx hb dX6_backerOf_43 (lv_at hl 0 rfl) ?_
          obtain ⟨r_7, er_7, h⟩ := bnd h
          refine r_ci X hS (r_runV (As := [.ref (ad (22 * t + 15 + j_3))]) (rest := [.int r_6]) C0 X hP L_X6_235 (fun sz => c_X6_wayBack l D cA ad o σ t (22 * t + 15 + j_3) ht (kdC t ht j_3 hj_3) r_7 er_7 sz) (kdT t ht).1 (kdT t ht).2 (by decide) rfl ⟨Nat.le_of_ble_eq_true rfl, Nat.le_of_ble_eq_true rfl⟩ rfl hl.1 rfl (Nat.le_of_ble_eq_true rfl) dX6_backerOf_45 ⟨Nat.zero_le _, Nat.zero_le _⟩) (fun r9 σ9 H locs hw hP hS => ?_)
          rw [hw.2] at hP
          rw [hw.1]
          refine lv_isub hx hb dX6_backerOf_48 ?_
          refine lv_istore (lv' := [(7, .int (r_6 - r_7)), (6, .ref (ad (22 * t + 15 + j_3))), (5, .ref (ad (22 * t + 15 + j_1))), (0, .ref (ad (22 * t))), (1, .int x1), (2, .int x2), (3, .int x3), (4, .int x4)]) hx hb dX6_backerOf_49 hl (by decide) rfl (fun ls hl => ?_)
          refine lv_aload_n hx hb dX6_backerOf_51 rfl (lv_at hl 3 rfl) ?_
          refine lv_aload hx hb dX6_backerOf_52 (lv_at hl 2 rfl) ?_
          obtain ⟨r_8, er_8, h⟩ := bnd h
          refine r_ci X hS (r_runV (As := [.ref (ad (22 * t + 15 + j_1))]) (rest := []) C0 X hP L_X6_235 (fun sz => c_X6_wayBack l D cA ad o σ t (22 * t + 15 + j_1) ht (kdC t ht j_1 hj_1) r_8 er_8 sz) (kdT t ht).1 (kdT t ht).2 (by decide) rfl ⟨Nat.le_of_ble_eq_true rfl, Nat.le_of_ble_eq_true rfl⟩ rfl hl.1 rfl (Nat.le_of_ble_eq_true rfl) dX6_backerOf_54 ⟨Nat.zero_le _, Nat.zero_le _⟩) (fun r9 σ9 H locs hw hP hS => ?_)
          rw [hw.2] at hP
          rw [hw.1]
          refine lv_aload hx hb dX6_backerOf_57 (lv_at hl 2 rfl) ?_
          refine gf_X6_74 C0 X hP (22 * t + 15 + j_1) (kdC t ht j_1 hj_1) dX6_backerOf_59 ?_
          refine lv_imul hx hb dX6_backerOf_62 ?_
          refine lv_aload_n hx hb dX6_backerOf_63 rfl (lv_at hl 3 rfl) ?_
          refine lv_aload hx hb dX6_backerOf_64 (lv_at hl 1 rfl) ?_
          obtain ⟨r_9, er_9, h⟩ := bnd h
          refine r_ci X hS (r_runV (As := [.ref (ad (22 * t + 15 + j_3))]) (rest := [.int (r_8 * (σ (22 * t + 15 + j_1) 3))]) C0 X hP L_X6_235 (fun sz => c_X6_wayBack l D cA ad o σ t (22 * t + 15 + j_3) ht (kdC t ht j_3 hj_3) r_9 er_9 sz) (kdT t ht).1 (kdT t ht).2 (by decide) rfl ⟨Nat.le_of_ble_eq_true rfl, Nat.le_of_ble_eq_true rfl⟩ rfl hl.1 rfl (Nat.le_of_ble_eq_true rfl) dX6_backerOf_66 ⟨Nat.zero_le _, Nat.zero_le _⟩) (fun r9 σ9 H locs hw hP hS => ?_)
          rw [hw.2] at hP
          rw [hw.1]
          refine lv_aload hx hb dX6_backerOf_69 (lv_at hl 1 rfl) ?_
          refine gf_X6_74 C0 X hP (22 * t + 15 + j_3) (kdC t ht j_3 hj_3) dX6_backerOf_71 ?_
          refine lv_imul hx hb dX6_backerOf_74 ?_
          refine lv_isub hx hb dX6_backerOf_75 ?_
          refine lv_istore (lv' := [(8, .int ((r_8 * (σ (22 * t + 15 + j_1) 3)) - (r_9 * (σ (22 * t + 15 + j_3) 3)))), (7, .int (r_6 - r_7)), (6, .ref (ad (22 * t + 15 + j_3))), (5, .ref (ad (22 * t + 15 + j_1))), (0, .ref (ad (22 * t))), (1, .int x1), (2, .int x2), (3, .int x3), (4, .int x4)]) hx hb dX6_backerOf_76 hl (by decide) rfl (fun ls hl => ?_)
          refine lv_aload_n hx hb dX6_backerOf_78 rfl (lv_at hl 4 rfl) ?_
          refine gf_X6_12 C0 X hP (22 * t) (q := (22 * t + 1)) (kdT t ht) (by omega) (lkT0 t ht) dX6_backerOf_79 ?_
          refine gf_X6_203 C0 X hP (22 * t + 1) (q := (22 * t + 11)) (kdR t ht) (by omega) (lkR11 t ht) dX6_backerOf_82 ?_
          refine lv_iload_n hx hb dX6_backerOf_85 rfl (lv_at hl 7 rfl) ?_
          obtain ⟨k_10, ek_10, h⟩ := bnd h
          replace ek_10 := ix_s ek_10 (by decide)
          refine r_ialdN C0 X hP (22 * t + 11) (k := k_10) (kdA11 t ht) ek_10.1 ek_10.2 dX6_backerOf_86 ?_
          refine lv_istore (lv' := [(9, .int (σ (22 * t + 11) k_10)), (8, .int ((r_8 * (σ (22 * t + 15 + j_1) 3)) - (r_9 * (σ (22 * t + 15 + j_3) 3)))), (7, .int (r_6 - r_7)), (6, .ref (ad (22 * t + 15 + j_3))), (5, .ref (ad (22 * t + 15 + j_1))), (0, .ref (ad (22 * t))), (1, .int x1), (2, .int x2), (3, .int x3), (4, .int x4)]) hx hb dX6_backerOf_87 hl (by decide) rfl (fun ls hl => ?_)
          refine lv_iload hx hb dX6_backerOf_89 (lv_at hl 0 rfl) ?_
          refine lv_iconst (v := 5) hx hb dX6_backerOf_91 (by decide) ?_
          refine lv_icmp_ne (tgt := 100) hx hb dX6_backerOf_92 (by decide) (fun c_11 => ?_) (fun c_11 => ?_)
          · replace h := it_f h c_11
            refine lv_aload hx hb dX6_backerOf_100 (lv_at hl 4 rfl) ?_
            refine lv_aload hx hb dX6_backerOf_102 (lv_at hl 3 rfl) ?_
            refine lv_iload hx hb dX6_backerOf_104 (lv_at hl 0 rfl) ?_
            refine lv_iload hx hb dX6_backerOf_106 (lv_at hl 9 rfl) ?_
            refine lv_iload hx hb dX6_backerOf_108 (lv_at hl 2 rfl) ?_
            obtain ⟨r_12, er_12, h⟩ := bnd h
            refine r_ci X hS (r_runS (As := [.ref (ad (22 * t + 15 + j_1)), .ref (ad (22 * t + 15 + j_3)), .int (σ (22 * t + 11) k_10), .int x4, .int (r_6 - r_7)]) (rest := []) C0 X hP L_X6_238 (fun sz => c_X6_preference l D cA ad o σ (22 * t + 15 + j_1) (22 * t + 15 + j_3) (σ (22 * t + 11) k_10) x4 (r_6 - r_7) (kdC t ht j_1 hj_1) (kdC t ht j_3 hj_3) r_12 er_12 sz) ⟨Nat.le_of_ble_eq_true rfl, Nat.le_of_ble_eq_true rfl⟩ rfl hl.1 rfl (Nat.le_of_ble_eq_true rfl) dX6_backerOf_110 ⟨Nat.zero_le _, Nat.zero_le _⟩) (fun r9 σ9 H locs hw hP hS => ?_)
            rw [hw.2] at hP
            rw [hw.1]
            refine lv_istore (lv' := [(10, .int r_12), (9, .int (σ (22 * t + 11) k_10)), (8, .int ((r_8 * (σ (22 * t + 15 + j_1) 3)) - (r_9 * (σ (22 * t + 15 + j_3) 3)))), (7, .int (r_6 - r_7)), (6, .ref (ad (22 * t + 15 + j_3))), (5, .ref (ad (22 * t + 15 + j_1))), (0, .ref (ad (22 * t))), (1, .int x1), (2, .int x2), (3, .int x3), (4, .int x4)]) hx hb dX6_backerOf_113 hl (by decide) rfl (fun ls hl => ?_)
            refine lv_iload hx hb dX6_backerOf_115 (lv_at hl 0 rfl) ?_
            refine lv_if_ne (tgt := 133) hx hb dX6_backerOf_117 (by decide) (fun c_13 => ?_) (fun c_13 => ?_)
            · replace h := it_f h c_13
              refine lv_iload hx hb dX6_backerOf_133 (lv_at hl 0 rfl) ?_
              refine lv_if_ge (tgt := 142) hx hb dX6_backerOf_135 (by decide) (fun c_14 => ?_) (fun c_14 => ?_)
              · replace h := it_t h c_14
                refine lv_iconst (v := 0) hx hb dX6_backerOf_142 (by decide) ?_
                refine lv_istore (lv' := [(11, .int 0), (10, .int r_12), (9, .int (σ (22 * t + 11) k_10)), (8, .int ((r_8 * (σ (22 * t + 15 + j_1) 3)) - (r_9 * (σ (22 * t + 15 + j_3) 3)))), (7, .int (r_6 - r_7)), (6, .ref (ad (22 * t + 15 + j_3))), (5, .ref (ad (22 * t + 15 + j_1))), (0, .ref (ad (22 * t))), (1, .int x1), (2, .int x2), (3, .int x3), (4, .int x4)]) hx hb dX6_backerOf_143 hl (by decide) rfl (fun ls hl => ?_)
                refine lv_iload hx hb dX6_backerOf_145 (lv_at hl 0 rfl) ?_
                refine lv_if_eq (tgt := 160) hx hb dX6_backerOf_147 (by decide) (fun _ => ?_) (fun c_15 => absurd c_15 (by decide))
                refine lv_aload hx hb dX6_backerOf_160 (lv_at hl 5 rfl) ?_
                refine gf_X6_74 C0 X hP (22 * t + 15 + j_3) (kdC t ht j_3 hj_3) dX6_backerOf_162 ?_
                refine lv_if_le (tgt := 170) hx hb dX6_backerOf_165 (by decide) (fun c_16 => ?_) (fun c_16 => ?_)
                · replace h := it_t h c_16
                  refine lv_aload hx hb dX6_backerOf_170 (lv_at hl 6 rfl) ?_
                  refine gf_X6_74 C0 X hP (22 * t + 15 + j_1) (kdC t ht j_1 hj_1) dX6_backerOf_172 ?_
                  refine lv_if_le (tgt := 182) hx hb dX6_backerOf_175 (by decide) (fun c_17 => ?_) (fun c_17 => ?_)
                  · replace h := it_t h c_17
                    refine lv_bipush (v := (-4)) hx hb dX6_backerOf_182 (by decide) ?_
                    exact r_iret C0 X hP hS hr hlk dX6_backerOf_184 ⟨Option.some.inj h, rfl⟩
                  · replace h := it_f h c_17
                    refine lv_iload_n hx hb dX6_backerOf_178 rfl (lv_at hl 8 rfl) ?_
                    refine lv_goto (tgt := 184) hx hb dX6_backerOf_179 (by decide) ?_
                    exact r_iret C0 X hP hS hr hlk dX6_backerOf_184 ⟨Option.some.inj h, rfl⟩
                · replace h := it_f h c_16
                  refine lv_iload_n hx hb dX6_backerOf_168 rfl (lv_at hl 9 rfl) ?_
                  exact r_iret C0 X hP hS hr hlk dX6_backerOf_169 ⟨Option.some.inj h, rfl⟩
              · replace h := it_f h c_14
                refine lv_iconst (v := 1) hx hb dX6_backerOf_138 (by decide) ?_
                refine lv_goto (tgt := 143) hx hb dX6_backerOf_139 (by decide) ?_
                refine lv_istore (lv' := [(11, .int 1), (10, .int r_12), (9, .int (σ (22 * t + 11) k_10)), (8, .int ((r_8 * (σ (22 * t + 15 + j_1) 3)) - (r_9 * (σ (22 * t + 15 + j_3) 3)))), (7, .int (r_6 - r_7)), (6, .ref (ad (22 * t + 15 + j_3))), (5, .ref (ad (22 * t + 15 + j_1))), (0, .ref (ad (22 * t))), (1, .int x1), (2, .int x2), (3, .int x3), (4, .int x4)]) hx hb dX6_backerOf_143 hl (by decide) rfl (fun ls hl => ?_)
                refine lv_iload hx hb dX6_backerOf_145 (lv_at hl 0 rfl) ?_
                refine lv_if_eq (tgt := 160) hx hb dX6_backerOf_147 (by decide) (fun c_18 => absurd c_18 (by decide)) (fun _ => ?_)
                refine lv_aload hx hb dX6_backerOf_150 (lv_at hl 6 rfl) ?_
                refine gf_X6_74 C0 X hP (22 * t + 15 + j_1) (kdC t ht j_1 hj_1) dX6_backerOf_152 ?_
                refine lv_if_le (tgt := 160) hx hb dX6_backerOf_155 (by decide) (fun c_19 => ?_) (fun c_19 => ?_)
                · replace h := it_t h c_19
                  refine lv_aload hx hb dX6_backerOf_160 (lv_at hl 5 rfl) ?_
                  refine gf_X6_74 C0 X hP (22 * t + 15 + j_3) (kdC t ht j_3 hj_3) dX6_backerOf_162 ?_
                  refine lv_if_le (tgt := 170) hx hb dX6_backerOf_165 (by decide) (fun c_20 => ?_) (fun c_20 => ?_)
                  · replace h := it_t h c_20
                    refine lv_aload hx hb dX6_backerOf_170 (lv_at hl 6 rfl) ?_
                    refine gf_X6_74 C0 X hP (22 * t + 15 + j_1) (kdC t ht j_1 hj_1) dX6_backerOf_172 ?_
                    refine lv_if_le (tgt := 182) hx hb dX6_backerOf_175 (by decide) (fun c_21 => ?_) (fun c_21 => ?_)
                    · replace h := it_t h c_21
                      refine lv_bipush (v := (-4)) hx hb dX6_backerOf_182 (by decide) ?_
                      exact r_iret C0 X hP hS hr hlk dX6_backerOf_184 ⟨Option.some.inj h, rfl⟩
                    · replace h := it_f h c_21
                      refine lv_iload_n hx hb dX6_backerOf_178 rfl (lv_at hl 8 rfl) ?_
                      refine lv_goto (tgt := 184) hx hb dX6_backerOf_179 (by decide) ?_
                      exact r_iret C0 X hP hS hr hlk dX6_backerOf_184 ⟨Option.some.inj h, rfl⟩
                  · replace h := it_f h c_20
                    refine lv_iload_n hx hb dX6_backerOf_168 rfl (lv_at hl 9 rfl) ?_
                    exact r_iret C0 X hP hS hr hlk dX6_backerOf_169 ⟨Option.some.inj h, rfl⟩
                · replace h := it_f h c_19
                  refine lv_iload_n hx hb dX6_backerOf_158 rfl (lv_at hl 8 rfl) ?_
                  exact r_iret C0 X hP hS hr hlk dX6_backerOf_159 ⟨Option.some.inj h, rfl⟩
            · replace h := it_t h c_13
              refine lv_iload_n hx hb dX6_backerOf_120 rfl (lv_at hl 7 rfl) ?_
              refine lv_iload_n hx hb dX6_backerOf_121 rfl (lv_at hl 8 rfl) ?_
              refine lv_icmp_le (tgt := 129) hx hb dX6_backerOf_122 (by decide) (fun c_22 => ?_) (fun c_22 => ?_)
              · replace h := it_t h c_22
                refine lv_iconst (v := 0) hx hb dX6_backerOf_129 (by decide) ?_
                refine lv_goto (tgt := 143) hx hb dX6_backerOf_130 (by decide) ?_
                refine lv_istore (lv' := [(11, .int 0), (10, .int r_12), (9, .int (σ (22 * t + 11) k_10)), (8, .int ((r_8 * (σ (22 * t + 15 + j_1) 3)) - (r_9 * (σ (22 * t + 15 + j_3) 3)))), (7, .int (r_6 - r_7)), (6, .ref (ad (22 * t + 15 + j_3))), (5, .ref (ad (22 * t + 15 + j_1))), (0, .ref (ad (22 * t))), (1, .int x1), (2, .int x2), (3, .int x3), (4, .int x4)]) hx hb dX6_backerOf_143 hl (by decide) rfl (fun ls hl => ?_)
                refine lv_iload hx hb dX6_backerOf_145 (lv_at hl 0 rfl) ?_
                refine lv_if_eq (tgt := 160) hx hb dX6_backerOf_147 (by decide) (fun _ => ?_) (fun c_23 => absurd c_23 (by decide))
                refine lv_aload hx hb dX6_backerOf_160 (lv_at hl 5 rfl) ?_
                refine gf_X6_74 C0 X hP (22 * t + 15 + j_3) (kdC t ht j_3 hj_3) dX6_backerOf_162 ?_
                refine lv_if_le (tgt := 170) hx hb dX6_backerOf_165 (by decide) (fun c_24 => ?_) (fun c_24 => ?_)
                · replace h := it_t h c_24
                  refine lv_aload hx hb dX6_backerOf_170 (lv_at hl 6 rfl) ?_
                  refine gf_X6_74 C0 X hP (22 * t + 15 + j_1) (kdC t ht j_1 hj_1) dX6_backerOf_172 ?_
                  refine lv_if_le (tgt := 182) hx hb dX6_backerOf_175 (by decide) (fun c_25 => ?_) (fun c_25 => ?_)
                  · replace h := it_t h c_25
                    refine lv_bipush (v := (-4)) hx hb dX6_backerOf_182 (by decide) ?_
                    exact r_iret C0 X hP hS hr hlk dX6_backerOf_184 ⟨Option.some.inj h, rfl⟩
                  · replace h := it_f h c_25
                    refine lv_iload_n hx hb dX6_backerOf_178 rfl (lv_at hl 8 rfl) ?_
                    refine lv_goto (tgt := 184) hx hb dX6_backerOf_179 (by decide) ?_
                    exact r_iret C0 X hP hS hr hlk dX6_backerOf_184 ⟨Option.some.inj h, rfl⟩
                · replace h := it_f h c_24
                  refine lv_iload_n hx hb dX6_backerOf_168 rfl (lv_at hl 9 rfl) ?_
                  exact r_iret C0 X hP hS hr hlk dX6_backerOf_169 ⟨Option.some.inj h, rfl⟩
              · replace h := it_f h c_22
                refine lv_iconst (v := 1) hx hb dX6_backerOf_125 (by decide) ?_
                refine lv_goto (tgt := 143) hx hb dX6_backerOf_126 (by decide) ?_
                refine lv_istore (lv' := [(11, .int 1), (10, .int r_12), (9, .int (σ (22 * t + 11) k_10)), (8, .int ((r_8 * (σ (22 * t + 15 + j_1) 3)) - (r_9 * (σ (22 * t + 15 + j_3) 3)))), (7, .int (r_6 - r_7)), (6, .ref (ad (22 * t + 15 + j_3))), (5, .ref (ad (22 * t + 15 + j_1))), (0, .ref (ad (22 * t))), (1, .int x1), (2, .int x2), (3, .int x3), (4, .int x4)]) hx hb dX6_backerOf_143 hl (by decide) rfl (fun ls hl => ?_)
                refine lv_iload hx hb dX6_backerOf_145 (lv_at hl 0 rfl) ?_
                refine lv_if_eq (tgt := 160) hx hb dX6_backerOf_147 (by decide) (fun c_26 => absurd c_26 (by decide)) (fun _ => ?_)
                refine lv_aload hx hb dX6_backerOf_150 (lv_at hl 6 rfl) ?_
                refine gf_X6_74 C0 X hP (22 * t + 15 + j_1) (kdC t ht j_1 hj_1) dX6_backerOf_152 ?_
                refine lv_if_le (tgt := 160) hx hb dX6_backerOf_155 (by decide) (fun c_27 => ?_) (fun c_27 => ?_)
                · replace h := it_t h c_27
                  refine lv_aload hx hb dX6_backerOf_160 (lv_at hl 5 rfl) ?_
                  refine gf_X6_74 C0 X hP (22 * t + 15 + j_3) (kdC t ht j_3 hj_3) dX6_backerOf_162 ?_
                  refine lv_if_le (tgt := 170) hx hb dX6_backerOf_165 (by decide) (fun c_28 => ?_) (fun c_28 => ?_)
                  · replace h := it_t h c_28
                    refine lv_aload hx hb dX6_backerOf_170 (lv_at hl 6 rfl) ?_
                    refine gf_X6_74 C0 X hP (22 * t + 15 + j_1) (kdC t ht j_1 hj_1) dX6_backerOf_172 ?_
                    refine lv_if_le (tgt := 182) hx hb dX6_backerOf_175 (by decide) (fun c_29 => ?_) (fun c_29 => ?_)
                    · replace h := it_t h c_29
                      refine lv_bipush (v := (-4)) hx hb dX6_backerOf_182 (by decide) ?_
                      exact r_iret C0 X hP hS hr hlk dX6_backerOf_184 ⟨Option.some.inj h, rfl⟩
                    · replace h := it_f h c_29
                      refine lv_iload_n hx hb dX6_backerOf_178 rfl (lv_at hl 8 rfl) ?_
                      refine lv_goto (tgt := 184) hx hb dX6_backerOf_179 (by decide) ?_
                      exact r_iret C0 X hP hS hr hlk dX6_backerOf_184 ⟨Option.some.inj h, rfl⟩
                  · replace h := it_f h c_28
                    refine lv_iload_n hx hb dX6_backerOf_168 rfl (lv_at hl 9 rfl) ?_
                    exact r_iret C0 X hP hS hr hlk dX6_backerOf_169 ⟨Option.some.inj h, rfl⟩
                · replace h := it_f h c_27
                  refine lv_iload_n hx hb dX6_backerOf_158 rfl (lv_at hl 8 rfl) ?_
                  exact r_iret C0 X hP hS hr hlk dX6_backerOf_159 ⟨Option.some.inj h, rfl⟩
          · replace h := it_t h c_11
            refine lv_iload hx hb dX6_backerOf_95 (lv_at hl 1 rfl) ?_
            refine lv_goto (tgt := 113) hx hb dX6_backerOf_97 (by decide) ?_
            refine lv_istore (lv' := [(10, .int ((r_8 * (σ (22 * t + 15 + j_1) 3)) - (r_9 * (σ (22 * t + 15 + j_3) 3)))), (9, .int (σ (22 * t + 11) k_10)), (8, .int ((r_8 * (σ (22 * t + 15 + j_1) 3)) - (r_9 * (σ (22 * t + 15 + j_3) 3)))), (7, .int (r_6 - r_7)), (6, .ref (ad (22 * t + 15 + j_3))), (5, .ref (ad (22 * t + 15 + j_1))), (0, .ref (ad (22 * t))), (1, .int x1), (2, .int x2), (3, .int x3), (4, .int x4)]) hx hb dX6_backerOf_113 hl (by decide) rfl (fun ls hl => ?_)
            refine lv_iload hx hb dX6_backerOf_115 (lv_at hl 0 rfl) ?_
            refine lv_if_ne (tgt := 133) hx hb dX6_backerOf_117 (by decide) (fun c_30 => ?_) (fun c_30 => ?_)
            · replace h := it_f h c_30
              refine lv_iload hx hb dX6_backerOf_133 (lv_at hl 0 rfl) ?_
              refine lv_if_ge (tgt := 142) hx hb dX6_backerOf_135 (by decide) (fun c_31 => ?_) (fun c_31 => ?_)
              · replace h := it_t h c_31
                refine lv_iconst (v := 0) hx hb dX6_backerOf_142 (by decide) ?_
                refine lv_istore (lv' := [(11, .int 0), (10, .int ((r_8 * (σ (22 * t + 15 + j_1) 3)) - (r_9 * (σ (22 * t + 15 + j_3) 3)))), (9, .int (σ (22 * t + 11) k_10)), (8, .int ((r_8 * (σ (22 * t + 15 + j_1) 3)) - (r_9 * (σ (22 * t + 15 + j_3) 3)))), (7, .int (r_6 - r_7)), (6, .ref (ad (22 * t + 15 + j_3))), (5, .ref (ad (22 * t + 15 + j_1))), (0, .ref (ad (22 * t))), (1, .int x1), (2, .int x2), (3, .int x3), (4, .int x4)]) hx hb dX6_backerOf_143 hl (by decide) rfl (fun ls hl => ?_)
                refine lv_iload hx hb dX6_backerOf_145 (lv_at hl 0 rfl) ?_
                refine lv_if_eq (tgt := 160) hx hb dX6_backerOf_147 (by decide) (fun _ => ?_) (fun c_32 => absurd c_32 (by decide))
                refine lv_aload hx hb dX6_backerOf_160 (lv_at hl 5 rfl) ?_
                refine gf_X6_74 C0 X hP (22 * t + 15 + j_3) (kdC t ht j_3 hj_3) dX6_backerOf_162 ?_
                refine lv_if_le (tgt := 170) hx hb dX6_backerOf_165 (by decide) (fun c_33 => ?_) (fun c_33 => ?_)
                · replace h := it_t h c_33
                  refine lv_aload hx hb dX6_backerOf_170 (lv_at hl 6 rfl) ?_
                  refine gf_X6_74 C0 X hP (22 * t + 15 + j_1) (kdC t ht j_1 hj_1) dX6_backerOf_172 ?_
                  refine lv_if_le (tgt := 182) hx hb dX6_backerOf_175 (by decide) (fun c_34 => ?_) (fun c_34 => ?_)
                  · replace h := it_t h c_34
                    refine lv_bipush (v := (-4)) hx hb dX6_backerOf_182 (by decide) ?_
                    exact r_iret C0 X hP hS hr hlk dX6_backerOf_184 ⟨Option.some.inj h, rfl⟩
                  · replace h := it_f h c_34
                    refine lv_iload_n hx hb dX6_backerOf_178 rfl (lv_at hl 8 rfl) ?_
                    refine lv_goto (tgt := 184) hx hb dX6_backerOf_179 (by decide) ?_
                    exact r_iret C0 X hP hS hr hlk dX6_backerOf_184 ⟨Option.some.inj h, rfl⟩
                · replace h := it_f h c_33
                  refine lv_iload_n hx hb dX6_backerOf_168 rfl (lv_at hl 9 rfl) ?_
                  exact r_iret C0 X hP hS hr hlk dX6_backerOf_169 ⟨Option.some.inj h, rfl⟩
              · replace h := it_f h c_31
                refine lv_iconst (v := 1) hx hb dX6_backerOf_138 (by decide) ?_
                refine lv_goto (tgt := 143) hx hb dX6_backerOf_139 (by decide) ?_
                refine lv_istore (lv' := [(11, .int 1), (10, .int ((r_8 * (σ (22 * t + 15 + j_1) 3)) - (r_9 * (σ (22 * t + 15 + j_3) 3)))), (9, .int (σ (22 * t + 11) k_10)), (8, .int ((r_8 * (σ (22 * t + 15 + j_1) 3)) - (r_9 * (σ (22 * t + 15 + j_3) 3)))), (7, .int (r_6 - r_7)), (6, .ref (ad (22 * t + 15 + j_3))), (5, .ref (ad (22 * t + 15 + j_1))), (0, .ref (ad (22 * t))), (1, .int x1), (2, .int x2), (3, .int x3), (4, .int x4)]) hx hb dX6_backerOf_143 hl (by decide) rfl (fun ls hl => ?_)
                refine lv_iload hx hb dX6_backerOf_145 (lv_at hl 0 rfl) ?_
                refine lv_if_eq (tgt := 160) hx hb dX6_backerOf_147 (by decide) (fun c_35 => absurd c_35 (by decide)) (fun _ => ?_)
                refine lv_aload hx hb dX6_backerOf_150 (lv_at hl 6 rfl) ?_
                refine gf_X6_74 C0 X hP (22 * t + 15 + j_1) (kdC t ht j_1 hj_1) dX6_backerOf_152 ?_
                refine lv_if_le (tgt := 160) hx hb dX6_backerOf_155 (by decide) (fun c_36 => ?_) (fun c_36 => ?_)
                · replace h := it_t h c_36
                  refine lv_aload hx hb dX6_backerOf_160 (lv_at hl 5 rfl) ?_
                  refine gf_X6_74 C0 X hP (22 * t + 15 + j_3) (kdC t ht j_3 hj_3) dX6_backerOf_162 ?_
                  refine lv_if_le (tgt := 170) hx hb dX6_backerOf_165 (by decide) (fun c_37 => ?_) (fun c_37 => ?_)
                  · replace h := it_t h c_37
                    refine lv_aload hx hb dX6_backerOf_170 (lv_at hl 6 rfl) ?_
                    refine gf_X6_74 C0 X hP (22 * t + 15 + j_1) (kdC t ht j_1 hj_1) dX6_backerOf_172 ?_
                    refine lv_if_le (tgt := 182) hx hb dX6_backerOf_175 (by decide) (fun c_38 => ?_) (fun c_38 => ?_)
                    · replace h := it_t h c_38
                      refine lv_bipush (v := (-4)) hx hb dX6_backerOf_182 (by decide) ?_
                      exact r_iret C0 X hP hS hr hlk dX6_backerOf_184 ⟨Option.some.inj h, rfl⟩
                    · replace h := it_f h c_38
                      refine lv_iload_n hx hb dX6_backerOf_178 rfl (lv_at hl 8 rfl) ?_
                      refine lv_goto (tgt := 184) hx hb dX6_backerOf_179 (by decide) ?_
                      exact r_iret C0 X hP hS hr hlk dX6_backerOf_184 ⟨Option.some.inj h, rfl⟩
                  · replace h := it_f h c_37
                    refine lv_iload_n hx hb dX6_backerOf_168 rfl (lv_at hl 9 rfl) ?_
                    exact r_iret C0 X hP hS hr hlk dX6_backerOf_169 ⟨Option.some.inj h, rfl⟩
                · replace h := it_f h c_36
                  refine lv_iload_n hx hb dX6_backerOf_158 rfl (lv_at hl 8 rfl) ?_
                  exact r_iret C0 X hP hS hr hlk dX6_backerOf_159 ⟨Option.some.inj h, rfl⟩
            · replace h := it_t h c_30
              refine lv_iload_n hx hb dX6_backerOf_120 rfl (lv_at hl 7 rfl) ?_
              refine lv_iload_n hx hb dX6_backerOf_121 rfl (lv_at hl 8 rfl) ?_
              refine lv_icmp_le (tgt := 129) hx hb dX6_backerOf_122 (by decide) (fun c_39 => ?_) (fun c_39 => ?_)
              · replace h := it_t h c_39
                refine lv_iconst (v := 0) hx hb dX6_backerOf_129 (by decide) ?_
                refine lv_goto (tgt := 143) hx hb dX6_backerOf_130 (by decide) ?_
                refine lv_istore (lv' := [(11, .int 0), (10, .int ((r_8 * (σ (22 * t + 15 + j_1) 3)) - (r_9 * (σ (22 * t + 15 + j_3) 3)))), (9, .int (σ (22 * t + 11) k_10)), (8, .int ((r_8 * (σ (22 * t + 15 + j_1) 3)) - (r_9 * (σ (22 * t + 15 + j_3) 3)))), (7, .int (r_6 - r_7)), (6, .ref (ad (22 * t + 15 + j_3))), (5, .ref (ad (22 * t + 15 + j_1))), (0, .ref (ad (22 * t))), (1, .int x1), (2, .int x2), (3, .int x3), (4, .int x4)]) hx hb dX6_backerOf_143 hl (by decide) rfl (fun ls hl => ?_)
                refine lv_iload hx hb dX6_backerOf_145 (lv_at hl 0 rfl) ?_
                refine lv_if_eq (tgt := 160) hx hb dX6_backerOf_147 (by decide) (fun _ => ?_) (fun c_40 => absurd c_40 (by decide))
                refine lv_aload hx hb dX6_backerOf_160 (lv_at hl 5 rfl) ?_
                refine gf_X6_74 C0 X hP (22 * t + 15 + j_3) (kdC t ht j_3 hj_3) dX6_backerOf_162 ?_
                refine lv_if_le (tgt := 170) hx hb dX6_backerOf_165 (by decide) (fun c_41 => ?_) (fun c_41 => ?_)
                · replace h := it_t h c_41
                  refine lv_aload hx hb dX6_backerOf_170 (lv_at hl 6 rfl) ?_
                  refine gf_X6_74 C0 X hP (22 * t + 15 + j_1) (kdC t ht j_1 hj_1) dX6_backerOf_172 ?_
                  refine lv_if_le (tgt := 182) hx hb dX6_backerOf_175 (by decide) (fun c_42 => ?_) (fun c_42 => ?_)
                  · replace h := it_t h c_42
                    refine lv_bipush (v := (-4)) hx hb dX6_backerOf_182 (by decide) ?_
                    exact r_iret C0 X hP hS hr hlk dX6_backerOf_184 ⟨Option.some.inj h, rfl⟩
                  · replace h := it_f h c_42
                    refine lv_iload_n hx hb dX6_backerOf_178 rfl (lv_at hl 8 rfl) ?_
                    refine lv_goto (tgt := 184) hx hb dX6_backerOf_179 (by decide) ?_
                    exact r_iret C0 X hP hS hr hlk dX6_backerOf_184 ⟨Option.some.inj h, rfl⟩
                · replace h := it_f h c_41
                  refine lv_iload_n hx hb dX6_backerOf_168 rfl (lv_at hl 9 rfl) ?_
                  exact r_iret C0 X hP hS hr hlk dX6_backerOf_169 ⟨Option.some.inj h, rfl⟩
              · replace h := it_f h c_39
                refine lv_iconst (v := 1) hx hb dX6_backerOf_125 (by decide) ?_
                refine lv_goto (tgt := 143) hx hb dX6_backerOf_126 (by decide) ?_
                refine lv_istore (lv' := [(11, .int 1), (10, .int ((r_8 * (σ (22 * t + 15 + j_1) 3)) - (r_9 * (σ (22 * t + 15 + j_3) 3)))), (9, .int (σ (22 * t + 11) k_10)), (8, .int ((r_8 * (σ (22 * t + 15 + j_1) 3)) - (r_9 * (σ (22 * t + 15 + j_3) 3)))), (7, .int (r_6 - r_7)), (6, .ref (ad (22 * t + 15 + j_3))), (5, .ref (ad (22 * t + 15 + j_1))), (0, .ref (ad (22 * t))), (1, .int x1), (2, .int x2), (3, .int x3), (4, .int x4)]) hx hb dX6_backerOf_143 hl (by decide) rfl (fun ls hl => ?_)
                refine lv_iload hx hb dX6_backerOf_145 (lv_at hl 0 rfl) ?_
                refine lv_if_eq (tgt := 160) hx hb dX6_backerOf_147 (by decide) (fun c_43 => absurd c_43 (by decide)) (fun _ => ?_)
                refine lv_aload hx hb dX6_backerOf_150 (lv_at hl 6 rfl) ?_
                refine gf_X6_74 C0 X hP (22 * t + 15 + j_1) (kdC t ht j_1 hj_1) dX6_backerOf_152 ?_
                refine lv_if_le (tgt := 160) hx hb dX6_backerOf_155 (by decide) (fun c_44 => ?_) (fun c_44 => ?_)
                · replace h := it_t h c_44
                  refine lv_aload hx hb dX6_backerOf_160 (lv_at hl 5 rfl) ?_
                  refine gf_X6_74 C0 X hP (22 * t + 15 + j_3) (kdC t ht j_3 hj_3) dX6_backerOf_162 ?_
                  refine lv_if_le (tgt := 170) hx hb dX6_backerOf_165 (by decide) (fun c_45 => ?_) (fun c_45 => ?_)
                  · replace h := it_t h c_45
                    refine lv_aload hx hb dX6_backerOf_170 (lv_at hl 6 rfl) ?_
                    refine gf_X6_74 C0 X hP (22 * t + 15 + j_1) (kdC t ht j_1 hj_1) dX6_backerOf_172 ?_
                    refine lv_if_le (tgt := 182) hx hb dX6_backerOf_175 (by decide) (fun c_46 => ?_) (fun c_46 => ?_)
                    · replace h := it_t h c_46
                      refine lv_bipush (v := (-4)) hx hb dX6_backerOf_182 (by decide) ?_
                      exact r_iret C0 X hP hS hr hlk dX6_backerOf_184 ⟨Option.some.inj h, rfl⟩
                    · replace h := it_f h c_46
                      refine lv_iload_n hx hb dX6_backerOf_178 rfl (lv_at hl 8 rfl) ?_
                      refine lv_goto (tgt := 184) hx hb dX6_backerOf_179 (by decide) ?_
                      exact r_iret C0 X hP hS hr hlk dX6_backerOf_184 ⟨Option.some.inj h, rfl⟩
                  · replace h := it_f h c_45
                    refine lv_iload_n hx hb dX6_backerOf_168 rfl (lv_at hl 9 rfl) ?_
                    exact r_iret C0 X hP hS hr hlk dX6_backerOf_169 ⟨Option.some.inj h, rfl⟩
                · replace h := it_f h c_44
                  refine lv_iload_n hx hb dX6_backerOf_158 rfl (lv_at hl 8 rfl) ?_
                  exact r_iret C0 X hP hS hr hlk dX6_backerOf_159 ⟨Option.some.inj h, rfl⟩
        · replace h := it_f h c_5
          refine lv_bipush (v := (-4)) hx hb dX6_backerOf_33 (by decide) ?_
          exact r_iret C0 X hP hS hr hlk dX6_backerOf_35 ⟨Option.some.inj h, rfl⟩
def bB_cX6_meet : Nat := 0xb193ffa7010484b19f00b607190800c60719073ae700b6e300b6b000b606150c00b42ac500b606150c00b42a04151b2a2a0636ad00b62c2adf00b604151b2a3b00a70600997700b4051946009f4300b42c4300b405195200a01d5300b40519053a3204151400b42a6a00a22e00b42a0415043603
theorem yB_cX6_meet : BYS cX6_meet 116 bB_cX6_meet := BYS_of (by decide +kernel)
theorem dX6_meet_0 : decode cX6_meet 0 = .ok (.iconst 0, 1) := D_3 yB_cX6_meet rfl rfl
theorem dX6_meet_1 : decode cX6_meet 1 = .ok (.istore 4, 2) := D_54 yB_cX6_meet rfl rfl rfl
theorem dX6_meet_3 : decode cX6_meet 3 = .ok (.iload 4, 2) := D_21 yB_cX6_meet rfl rfl rfl
theorem dX6_meet_5 : decode cX6_meet 5 = .ok (.aload_n 0, 1) := D_42 yB_cX6_meet rfl rfl
theorem dX6_meet_6 : decode cX6_meet 6 = .ok (.getfield 46, 3) := D_180 yB_cX6_meet rfl rfl rfl
theorem dX6_meet_9 : decode cX6_meet 9 = .ok (.if_icmp .ge 106, 3) := D_162 yB_cX6_meet rfl rfl (sg_p (m := 32768) (N := 106) rfl rfl rfl)
theorem dX6_meet_12 : decode cX6_meet 12 = .ok (.aload_n 0, 1) := D_42 yB_cX6_meet rfl rfl
theorem dX6_meet_13 : decode cX6_meet 13 = .ok (.getfield 20, 3) := D_180 yB_cX6_meet rfl rfl rfl
theorem dX6_meet_16 : decode cX6_meet 16 = .ok (.iload 4, 2) := D_21 yB_cX6_meet rfl rfl rfl
theorem dX6_meet_18 : decode cX6_meet 18 = .ok (.aaload, 1) := D_50 yB_cX6_meet rfl rfl
theorem dX6_meet_19 : decode cX6_meet 19 = .ok (.astore 5, 2) := D_58 yB_cX6_meet rfl rfl rfl
theorem dX6_meet_21 : decode cX6_meet 21 = .ok (.aload 5, 2) := D_25 yB_cX6_meet rfl rfl rfl
theorem dX6_meet_23 : decode cX6_meet 23 = .ok (.getfield 83, 3) := D_180 yB_cX6_meet rfl rfl rfl
theorem dX6_meet_26 : decode cX6_meet 26 = .ok (.iload_n 3, 1) := D_29 yB_cX6_meet rfl rfl
theorem dX6_meet_27 : decode cX6_meet 27 = .ok (.if_icmp .ne 82, 3) := D_160 yB_cX6_meet rfl rfl (sg_p (m := 32768) (N := 82) rfl rfl rfl)
theorem dX6_meet_30 : decode cX6_meet 30 = .ok (.aload 5, 2) := D_25 yB_cX6_meet rfl rfl rfl
theorem dX6_meet_32 : decode cX6_meet 32 = .ok (.getfield 67, 3) := D_180 yB_cX6_meet rfl rfl rfl
theorem dX6_meet_35 : decode cX6_meet 35 = .ok (.aload_n 2, 1) := D_44 yB_cX6_meet rfl rfl
theorem dX6_meet_36 : decode cX6_meet 36 = .ok (.getfield 67, 3) := D_180 yB_cX6_meet rfl rfl rfl
theorem dX6_meet_39 : decode cX6_meet 39 = .ok (.if_icmp .eq 70, 3) := D_159 yB_cX6_meet rfl rfl (sg_p (m := 32768) (N := 70) rfl rfl rfl)
theorem dX6_meet_42 : decode cX6_meet 42 = .ok (.aload 5, 2) := D_25 yB_cX6_meet rfl rfl rfl
theorem dX6_meet_44 : decode cX6_meet 44 = .ok (.getfield 119, 3) := D_180 yB_cX6_meet rfl rfl rfl
theorem dX6_meet_47 : decode cX6_meet 47 = .ok (.ifCond .eq 6, 3) := D_153 yB_cX6_meet rfl rfl (sg_p (m := 32768) (N := 6) rfl rfl rfl)
theorem dX6_meet_50 : decode cX6_meet 50 = .ok (.goto 59, 3) := D_167 yB_cX6_meet rfl rfl (sg_p (m := 32768) (N := 59) rfl rfl rfl)
theorem dX6_meet_53 : decode cX6_meet 53 = .ok (.aload_n 0, 1) := D_42 yB_cX6_meet rfl rfl
theorem dX6_meet_54 : decode cX6_meet 54 = .ok (.iload_n 1, 1) := D_27 yB_cX6_meet rfl rfl
theorem dX6_meet_55 : decode cX6_meet 55 = .ok (.iload 4, 2) := D_21 yB_cX6_meet rfl rfl rfl
theorem dX6_meet_57 : decode cX6_meet 57 = .ok (.invokevirtual 223, 3) := D_182 yB_cX6_meet rfl rfl rfl
theorem dX6_meet_60 : decode cX6_meet 60 = .ok (.aload_n 0, 1) := D_42 yB_cX6_meet rfl rfl
theorem dX6_meet_61 : decode cX6_meet 61 = .ok (.aload_n 2, 1) := D_44 yB_cX6_meet rfl rfl
theorem dX6_meet_62 : decode cX6_meet 62 = .ok (.invokevirtual 173, 3) := D_182 yB_cX6_meet rfl rfl rfl
theorem dX6_meet_65 : decode cX6_meet 65 = .ok (.istore 6, 2) := D_54 yB_cX6_meet rfl rfl rfl
theorem dX6_meet_67 : decode cX6_meet 67 = .ok (.aload_n 0, 1) := D_42 yB_cX6_meet rfl rfl
theorem dX6_meet_68 : decode cX6_meet 68 = .ok (.aload_n 0, 1) := D_42 yB_cX6_meet rfl rfl
theorem dX6_meet_69 : decode cX6_meet 69 = .ok (.iload_n 1, 1) := D_27 yB_cX6_meet rfl rfl
theorem dX6_meet_70 : decode cX6_meet 70 = .ok (.iload 4, 2) := D_21 yB_cX6_meet rfl rfl rfl
theorem dX6_meet_72 : decode cX6_meet 72 = .ok (.aload_n 0, 1) := D_42 yB_cX6_meet rfl rfl
theorem dX6_meet_73 : decode cX6_meet 73 = .ok (.getfield 12, 3) := D_180 yB_cX6_meet rfl rfl rfl
theorem dX6_meet_76 : decode cX6_meet 76 = .ok (.iload 6, 2) := D_21 yB_cX6_meet rfl rfl rfl
theorem dX6_meet_78 : decode cX6_meet 78 = .ok (.invokevirtual 197, 3) := D_182 yB_cX6_meet rfl rfl rfl
theorem dX6_meet_81 : decode cX6_meet 81 = .ok (.aload_n 0, 1) := D_42 yB_cX6_meet rfl rfl
theorem dX6_meet_82 : decode cX6_meet 82 = .ok (.getfield 12, 3) := D_180 yB_cX6_meet rfl rfl rfl
theorem dX6_meet_85 : decode cX6_meet 85 = .ok (.iload 6, 2) := D_21 yB_cX6_meet rfl rfl rfl
theorem dX6_meet_87 : decode cX6_meet 87 = .ok (.invokevirtual 176, 3) := D_182 yB_cX6_meet rfl rfl rfl
theorem dX6_meet_90 : decode cX6_meet 90 = .ok (.invokevirtual 227, 3) := D_182 yB_cX6_meet rfl rfl rfl
theorem dX6_meet_93 : decode cX6_meet 93 = .ok (.invokevirtual 231, 3) := D_182 yB_cX6_meet rfl rfl rfl
theorem dX6_meet_96 : decode cX6_meet 96 = .ok (.astore 7, 2) := D_58 yB_cX6_meet rfl rfl rfl
theorem dX6_meet_98 : decode cX6_meet 98 = .ok (.aload 7, 2) := D_25 yB_cX6_meet rfl rfl rfl
theorem dX6_meet_100 : decode cX6_meet 100 = .ok (.ifnull 8, 3) := D_198 yB_cX6_meet rfl rfl (sg_p (m := 32768) (N := 8) rfl rfl rfl)
theorem dX6_meet_103 : decode cX6_meet 103 = .ok (.aload 7, 2) := D_25 yB_cX6_meet rfl rfl rfl
theorem dX6_meet_105 : decode cX6_meet 105 = .ok (.invokevirtual 159, 3) := D_182 yB_cX6_meet rfl rfl rfl
theorem dX6_meet_108 : decode cX6_meet 108 = .ok (.return_, 1) := D_177 yB_cX6_meet rfl rfl
theorem dX6_meet_109 : decode cX6_meet 109 = .ok (.iinc 4 1, 3) := D_132 yB_cX6_meet rfl rfl rfl (sg_p (m := 128) (N := 1) rfl rfl rfl)
theorem dX6_meet_112 : decode cX6_meet 112 = .ok (.goto (-109), 3) := D_167 yB_cX6_meet rfl rfl (sg_n (m := 32768) (N := 109) rfl rfl rfl)
theorem dX6_meet_115 : decode cX6_meet 115 = .ok (.return_, 1) := D_177 yB_cX6_meet rfl rfl
def F_X6_meet_3 (t : Nat) (x1 : Int32) (i2 : Nat) (x3 : Int32)  : Nat → Mem → Int32 → Option (Mem)
  | 0, _, _ => none
  | nn + 1, σ, v4 => if (σ (22 * t) 2) ≤ v4 then (some σ) else ((ix 7 v4).bind fun k_3 => if (σ (22 * t + 15 + k_3) 6) = x3 then (if (σ (22 * t + 15 + k_3) 0) = (σ i2 0) then (F_X6_meet_3 t x1 i2 x3 nn σ (v4 + 1)) else (if (σ (22 * t + 15 + k_3) 7) = 0 then ((F_X6_noteMeeting σ t x1 v4).bind fun σ_7 => (F_X6_pieceAhead σ_7 t i2).bind fun r_8 => (F_X4_villageBy σ_7 t r_8).bind fun r_9 => (F_X4_hillOf σ_7 t r_8).bind fun r_10 => (F_X6_backerOf σ_7 t x1 v4 r_9 r_10).bind fun r_11 => if r_11 < 0 ∨ σ_7 (22 * t) 2 ≤ r_11 ∨ 7 ≤ r_11 then (some σ_7) else ((ix 7 r_11).bind fun j_12 => (F_X0_beginBacking σ_7 (22 * t + 15 + j_12)).bind fun σ_13 => some σ_13)) else (F_X6_meet_3 t x1 i2 x3 nn σ (v4 + 1)))) else (F_X6_meet_3 t x1 i2 x3 nn σ (v4 + 1)))
def F_X6_meet (σ : Mem) (t : Nat) (x1 : Int32) (i2 : Nat) (x3 : Int32) : Option (Mem) := F_X6_meet_3 t x1 i2 x3 FU σ 0
set_option maxHeartbeats 4000000 in
set_option maxRecDepth 100000 in
theorem c_X6_meet (l : Launch) (D : va_G) (cA : Nat → ClassId) (ad : Nat → Nat) (o : Int64) (σ : Mem) (t : Nat) (x1 : Int32) (i2 : Nat) (x3 : Int32) (ht : t < 3) (hi2 : i2 < 106 ∧ kd i2 = (0, 12)) (res : Mem) (h : F_X6_meet σ t x1 i2 x3 = some res) (sz : Nat) : Met l yX6_meet (WY yX6_meet cX6_meet 8 none) (RM 2) (va_Pc [.ref (ad (22 * t)), .int x1, .ref (ad i2), .int x3] (PW D cA ad o σ sz)) (va_Qv (fun σ9 => σ9 = res) (QW D cA ad o) (FA ad sz)) 0 0 (FA ad sz) := by
  refine ct_of (own := RX6) (k := 2) (Qf := va_Qv (fun σ9 => σ9 = res) (QW D cA ad o)) rfl (by decide) (Nat.le_of_ble_eq_true rfl) (fun p e s m below meth c ls C0 X hr hlk hP hl => ?_) sz
  have hS : va_S (FA ad s.heap.size) s.heap s.heap [] := va_S.rf
  have hl : lv_has ls 8 [(0, .ref (ad (22 * t))), (1, .int x1), (2, .ref (ad i2)), (3, .int x3)] := hl
  obtain ⟨hx, hb, hml, hown, hts⟩ := id C0
  unfold F_X6_meet at h
  refine lv_iconst (v := 0) hx hb dX6_meet_0 (by decide) ?_
  refine lv_istore (lv' := [(4, .int 0), (0, .ref (ad (22 * t))), (1, .int x1), (2, .ref (ad i2)), (3, .int x3)]) hx hb dX6_meet_1 hl (by decide) rfl (fun ls hl => ?_)
  have lp_1 : ∀ (nn3 : Nat) (σ : Mem) (v4 : Int32) (H : Heap) (locs : List Loc) (ls : Array Slot), F_X6_meet_3 t x1 i2 x3 nn3 σ v4 = some res → WP D cA ad o σ H → va_S (FA ad s.heap.size) s.heap H locs → lv_has ls 8 [(4, .int v4), (0, .ref (ad (22 * t))), (1, .int x1), (2, .ref (ad i2)), (3, .int x3)] → W p l e (RM 2) s m ([.ref (ad (22 * t)), .int x1, .ref (ad i2), .int x3] : List Value).toArray below meth c H locs 0 0 (MQ below (va_Qv (fun σ9 => σ9 = res) (QW D cA ad o) (FA ad s.heap.size)) ([.ref (ad (22 * t)), .int x1, .ref (ad i2), .int x3] : List Value).toArray s 0 0 (FA ad s.heap.size)) (F0 m 3 ls []) := by
    intro nn3
    induction nn3 with
    | zero => intro σ v4 H locs ls h hP hS hl; exact absurd (show none = some res from h) nofun
    | succ nn3 ih3 =>
      intro σ v4 H locs ls h hP hS hl
      replace h := (F_X6_meet_3.eq_2 _ _ _ _ _ _ _).symm.trans h
      refine lv_iload hx hb dX6_meet_3 (lv_at hl 0 rfl) ?_
      refine lv_aload_n hx hb dX6_meet_5 rfl (lv_at hl 1 rfl) ?_
      refine gf_X6_46 C0 X hP (22 * t) (kdT t ht) dX6_meet_6 ?_
      refine lv_icmp_ge (tgt := 115) hx hb dX6_meet_9 (by decide) (fun c_2 => ?_) (fun c_2 => ?_)
      · replace h := it_t h c_2
        exact r_vret C0 X hP hS hr hlk dX6_meet_115 (Option.some.inj h)
      · replace h := it_f h c_2
        refine lv_aload_n hx hb dX6_meet_12 rfl (lv_at hl 1 rfl) ?_
        refine gf_X6_20 C0 X hP (22 * t) (q := (22 * t + 13)) (kdT t ht) (by omega) (lkT1 t ht) dX6_meet_13 ?_
        refine lv_iload hx hb dX6_meet_16 (lv_at hl 0 rfl) ?_
        obtain ⟨k_3, ek_3, h⟩ := bnd h
        replace ek_3 := ix_s ek_3 (by decide)
        refine r_aaldCN C0 X hP (22 * t + 13) (k := k_3) (q := (22 * t + 15 + k_3)) (kdCA t ht) ek_3.1 ek_3.2 (lkCA t ht k_3 ek_3.2) dX6_meet_18 ?_
        refine lv_astore (lv' := [(5, .ref (ad (22 * t + 15 + k_3))), (4, .int v4), (0, .ref (ad (22 * t))), (1, .int x1), (2, .ref (ad i2)), (3, .int x3)]) hx hb dX6_meet_19 hl (by decide) rfl (fun ls hl => ?_)
        refine lv_aload hx hb dX6_meet_21 (lv_at hl 0 rfl) ?_
        refine gf_X6_83 C0 X hP (22 * t + 15 + k_3) (kdC t ht k_3 ek_3.2) dX6_meet_23 ?_
        refine lv_iload_n hx hb dX6_meet_26 rfl (lv_at hl 5 rfl) ?_
        refine lv_icmp_ne (tgt := 109) hx hb dX6_meet_27 (by decide) (fun c_4 => ?_) (fun c_4 => ?_)
        · replace h := it_f h c_4
          refine lv_iinc (v := (v4 + 1)) (lv' := [(4, .int (v4 + 1)), (5, .ref (ad (22 * t + 15 + k_3))), (0, .ref (ad (22 * t))), (1, .int x1), (2, .ref (ad i2)), (3, .int x3)]) hx hb dX6_meet_109 hl (k := 1) rfl rfl (by decide) rfl (fun ls hl => ?_)
          refine lv_goto (tgt := 3) hx hb dX6_meet_112 (by decide) ?_
          exact ih3 σ (v4 + 1) _ _ ls  h hP hS (lv_sub hl [0, 2, 3, 4, 5] rfl)
        · replace h := it_t h c_4
          refine lv_aload hx hb dX6_meet_30 (lv_at hl 0 rfl) ?_
          refine gf_X6_67 C0 X hP (22 * t + 15 + k_3) (kdC t ht k_3 ek_3.2) dX6_meet_32 ?_
          refine lv_aload_n hx hb dX6_meet_35 rfl (lv_at hl 4 rfl) ?_
          refine gf_X6_67 C0 X hP i2 hi2 dX6_meet_36 ?_
          refine lv_icmp_eq (tgt := 109) hx hb dX6_meet_39 (by decide) (fun c_5 => ?_) (fun c_5 => ?_)
          · replace h := it_t h c_5
            refine lv_iinc (v := (v4 + 1)) (lv' := [(4, .int (v4 + 1)), (5, .ref (ad (22 * t + 15 + k_3))), (0, .ref (ad (22 * t))), (1, .int x1), (2, .ref (ad i2)), (3, .int x3)]) hx hb dX6_meet_109 hl (k := 1) rfl rfl (by decide) rfl (fun ls hl => ?_)
            refine lv_goto (tgt := 3) hx hb dX6_meet_112 (by decide) ?_
            exact ih3 σ (v4 + 1) _ _ ls  h hP hS (lv_sub hl [0, 2, 3, 4, 5] rfl)
          · replace h := it_f h c_5
            refine lv_aload hx hb dX6_meet_42 (lv_at hl 0 rfl) ?_
            refine gf_X6_119 C0 X hP (22 * t + 15 + k_3) (kdC t ht k_3 ek_3.2) dX6_meet_44 ?_
            refine lv_if_eq (tgt := 53) hx hb dX6_meet_47 (by decide) (fun c_6 => ?_) (fun c_6 => ?_)
            · replace h := it_t h c_6
              refine lv_aload_n hx hb dX6_meet_53 rfl (lv_at hl 2 rfl) ?_
              refine lv_iload_n hx hb dX6_meet_54 rfl (lv_at hl 3 rfl) ?_
              refine lv_iload hx hb dX6_meet_55 (lv_at hl 1 rfl) ?_
              obtain ⟨σ_7, eσ_7, h⟩ := bnd h
              refine r_cv X hS (r_runV (As := [.int x1, .int v4]) (rest := []) C0 X hP L_X6_223 (fun sz => c_X6_noteMeeting l D cA ad o σ t x1 v4 ht σ_7 eσ_7 sz) (kdT t ht).1 (kdT t ht).2 (by decide) rfl ⟨Nat.le_of_ble_eq_true rfl, Nat.le_of_ble_eq_true rfl⟩ rfl hl.1 rfl (Nat.le_of_ble_eq_true rfl) dX6_meet_57 ⟨Nat.zero_le _, Nat.zero_le _⟩) (fun σ9 H locs hw hP hS => ?_)
              rw [show σ9 = σ_7 from hw] at hP
              refine lv_aload_n hx hb dX6_meet_60 rfl (lv_at hl 2 rfl) ?_
              refine lv_aload_n hx hb dX6_meet_61 rfl (lv_at hl 4 rfl) ?_
              obtain ⟨r_8, er_8, h⟩ := bnd h
              refine r_ci X hS (r_runV (As := [.ref (ad i2)]) (rest := []) C0 X hP L_X6_173 (fun sz => c_X6_pieceAhead l D cA ad o σ_7 t i2 ht hi2 r_8 er_8 sz) (kdT t ht).1 (kdT t ht).2 (by decide) rfl ⟨Nat.le_of_ble_eq_true rfl, Nat.le_of_ble_eq_true rfl⟩ rfl hl.1 rfl (Nat.le_of_ble_eq_true rfl) dX6_meet_62 ⟨Nat.zero_le _, Nat.zero_le _⟩) (fun r9 σ9 H locs hw hP hS => ?_)
              rw [hw.2] at hP
              rw [hw.1]
              refine lv_istore (lv' := [(6, .int r_8), (5, .ref (ad (22 * t + 15 + k_3))), (4, .int v4), (0, .ref (ad (22 * t))), (1, .int x1), (2, .ref (ad i2)), (3, .int x3)]) hx hb dX6_meet_65 hl (by decide) rfl (fun ls hl => ?_)
              refine lv_aload_n hx hb dX6_meet_67 rfl (lv_at hl 3 rfl) ?_
              refine lv_aload_n hx hb dX6_meet_68 rfl (lv_at hl 3 rfl) ?_
              refine lv_iload_n hx hb dX6_meet_69 rfl (lv_at hl 4 rfl) ?_
              refine lv_iload hx hb dX6_meet_70 (lv_at hl 2 rfl) ?_
              refine lv_aload_n hx hb dX6_meet_72 rfl (lv_at hl 3 rfl) ?_
              refine gf_X6_12 C0 X hP (22 * t) (q := (22 * t + 1)) (kdT t ht) (by omega) (lkT0 t ht) dX6_meet_73 ?_
              refine lv_iload hx hb dX6_meet_76 (lv_at hl 0 rfl) ?_
              obtain ⟨r_9, er_9, h⟩ := bnd h
              refine r_ci X hS (r_runV (As := [.int r_8]) (rest := [.int v4, .int x1, .ref (ad (22 * t)), .ref (ad (22 * t))]) C0 X hP L_X6_197 (fun sz => c_X4_villageBy l D cA ad o σ_7 t r_8 ht r_9 er_9 sz) (kdR t ht).1 (kdR t ht).2 (by decide) rfl ⟨Nat.le_of_ble_eq_true rfl, Nat.le_of_ble_eq_true rfl⟩ rfl hl.1 rfl (Nat.le_of_ble_eq_true rfl) dX6_meet_78 ⟨Nat.zero_le _, Nat.zero_le _⟩) (fun r9 σ9 H locs hw hP hS => ?_)
              rw [hw.2] at hP
              rw [hw.1]
              refine lv_aload_n hx hb dX6_meet_81 rfl (lv_at hl 3 rfl) ?_
              refine gf_X6_12 C0 X hP (22 * t) (q := (22 * t + 1)) (kdT t ht) (by omega) (lkT0 t ht) dX6_meet_82 ?_
              refine lv_iload hx hb dX6_meet_85 (lv_at hl 0 rfl) ?_
              obtain ⟨r_10, er_10, h⟩ := bnd h
              refine r_ci X hS (r_runV (As := [.int r_8]) (rest := [.int r_9, .int v4, .int x1, .ref (ad (22 * t)), .ref (ad (22 * t))]) C0 X hP L_X6_176 (fun sz => c_X4_hillOf l D cA ad o σ_7 t r_8 ht r_10 er_10 sz) (kdR t ht).1 (kdR t ht).2 (by decide) rfl ⟨Nat.le_of_ble_eq_true rfl, Nat.le_of_ble_eq_true rfl⟩ rfl hl.1 rfl (Nat.le_of_ble_eq_true rfl) dX6_meet_87 ⟨Nat.zero_le _, Nat.zero_le _⟩) (fun r9 σ9 H locs hw hP hS => ?_)
              rw [hw.2] at hP
              rw [hw.1]
              obtain ⟨r_11, er_11, h⟩ := bnd h
              refine r_ci X hS (r_runV (As := [.int x1, .int v4, .int r_9, .int r_10]) (rest := [.ref (ad (22 * t))]) C0 X hP L_X6_227 (fun sz => c_X6_backerOf l D cA ad o σ_7 t x1 v4 r_9 r_10 ht r_11 er_11 sz) (kdT t ht).1 (kdT t ht).2 (by decide) rfl ⟨Nat.le_of_ble_eq_true rfl, Nat.le_of_ble_eq_true rfl⟩ rfl hl.1 rfl (Nat.le_of_ble_eq_true rfl) dX6_meet_90 ⟨Nat.zero_le _, Nat.zero_le _⟩) (fun r9 σ9 H locs hw hP hS => ?_)
              rw [hw.2] at hP
              rw [hw.1]
              refine r_cq X hS (r_runV (As := [.int r_11]) (rest := []) C0 X hP L_X6_231 (fun sz => c_X6_cartAt l D cA ad o σ_7 t r_11 ht sz) (kdT t ht).1 (kdT t ht).2 (by decide) rfl ⟨Nat.le_of_ble_eq_true rfl, Nat.le_of_ble_eq_true rfl⟩ rfl hl.1 rfl (Nat.le_of_ble_eq_true rfl) dX6_meet_93 ⟨Nat.zero_le _, Nat.zero_le _⟩) (fun σ9 H locs hw hP hS => ?_) (fun x9 σ9 H locs hw hP hS => ?_)
              · rw [hw.1] at hP
                replace h := it_t h hw.2
                refine lv_astoreN (lv' := [(7, .null), (6, .int r_8), (5, .ref (ad (22 * t + 15 + k_3))), (4, .int v4), (0, .ref (ad (22 * t))), (1, .int x1), (2, .ref (ad i2)), (3, .int x3)]) hx hb dX6_meet_96 hl (by decide) rfl (fun ls hl => ?_)
                refine lv_aloadN hx hb dX6_meet_98 (lv_at hl 0 rfl) ?_
                refine lv_ifnullN (tgt := 108) hx hb dX6_meet_100 (by decide) ?_
                exact r_vret C0 X hP hS hr hlk dX6_meet_108 (Option.some.inj h)
              · rw [hw.1] at hP
                obtain ⟨-, j_12, hj_12, ej_12, l9, rfl⟩ := hw
                replace h := it_f h (nocart ej_12 hj_12 l9)
                obtain ⟨k9, ek9, h⟩ := bnd h
                replace ek9 := ix_s ek9 (by decide)
                obtain rfl : j_12 = k9 := nI_inj (ej_12.symm.trans ek9.1) (by omega) (by have := ek9.2; omega)
                refine lv_astore (lv' := [(7, .ref (ad (22 * t + 15 + j_12))), (6, .int r_8), (5, .ref (ad (22 * t + 15 + k_3))), (4, .int v4), (0, .ref (ad (22 * t))), (1, .int x1), (2, .ref (ad i2)), (3, .int x3)]) hx hb dX6_meet_96 hl (by decide) rfl (fun ls hl => ?_)
                refine lv_aload hx hb dX6_meet_98 (lv_at hl 0 rfl) ?_
                refine lv_ifnull hx hb dX6_meet_100 ?_
                refine lv_aload hx hb dX6_meet_103 (lv_at hl 0 rfl) ?_
                obtain ⟨σ_13, eσ_13, h⟩ := bnd h
                refine r_cv X hS (r_runV (As := []) (rest := []) C0 X hP L_X6_159 (fun sz => c_X0_beginBacking l D cA ad o σ_7 (22 * t + 15 + j_12) (kdC t ht j_12 hj_12) σ_13 eσ_13 sz) (kdC t ht j_12 hj_12).1 (kdC t ht j_12 hj_12).2 (by decide) rfl ⟨Nat.le_of_ble_eq_true rfl, Nat.le_of_ble_eq_true rfl⟩ rfl hl.1 rfl (Nat.le_of_ble_eq_true rfl) dX6_meet_105 ⟨Nat.zero_le _, Nat.zero_le _⟩) (fun σ9 H locs hw hP hS => ?_)
                rw [show σ9 = σ_13 from hw] at hP
                exact r_vret C0 X hP hS hr hlk dX6_meet_108 (Option.some.inj h)
            · replace h := it_f h c_6
              refine lv_goto (tgt := 109) hx hb dX6_meet_50 (by decide) ?_
              refine lv_iinc (v := (v4 + 1)) (lv' := [(4, .int (v4 + 1)), (5, .ref (ad (22 * t + 15 + k_3))), (0, .ref (ad (22 * t))), (1, .int x1), (2, .ref (ad i2)), (3, .int x3)]) hx hb dX6_meet_109 hl (k := 1) rfl rfl (by decide) rfl (fun ls hl => ?_)
              refine lv_goto (tgt := 3) hx hb dX6_meet_112 (by decide) ?_
              exact ih3 σ (v4 + 1) _ _ ls  h hP hS (lv_sub hl [0, 2, 3, 4, 5] rfl)
  exact lp_1 FU σ 0 _ _ ls  h hP hS (lv_sub hl [0, 1, 2, 3, 4] rfl)
def bB_cX6_goOn : Nat := 0xb15300b5fd102c4f64042e5c04151800b42a1400a0b600b62c2a04157400b5030400a704070099b300b605152c2c9800b604152c2a0536b000b6ad00b62c2a0c00b42ab1a900b604152c1b2a0b009a1d5900b560045900b4592c1a009a9500b604152a0436a600b62cb15900b560045900b4592c0e009aa200b62c2a1600991d3e030400a70407009b8f00b65300b42c0c00b42a
theorem yB_cX6_goOn : BYS cX6_goOn 148 bB_cX6_goOn := BYS_of (by decide +kernel)
theorem dX6_goOn_0 : decode cX6_goOn 0 = .ok (.aload_n 0, 1) := D_42 yB_cX6_goOn rfl rfl
theorem dX6_goOn_1 : decode cX6_goOn 1 = .ok (.getfield 12, 3) := D_180 yB_cX6_goOn rfl rfl rfl
theorem dX6_goOn_4 : decode cX6_goOn 4 = .ok (.aload_n 2, 1) := D_44 yB_cX6_goOn rfl rfl
theorem dX6_goOn_5 : decode cX6_goOn 5 = .ok (.getfield 83, 3) := D_180 yB_cX6_goOn rfl rfl rfl
theorem dX6_goOn_8 : decode cX6_goOn 8 = .ok (.invokevirtual 143, 3) := D_182 yB_cX6_goOn rfl rfl rfl
theorem dX6_goOn_11 : decode cX6_goOn 11 = .ok (.ifCond .lt 7, 3) := D_155 yB_cX6_goOn rfl rfl (sg_p (m := 32768) (N := 7) rfl rfl rfl)
theorem dX6_goOn_14 : decode cX6_goOn 14 = .ok (.iconst 1, 1) := D_4 yB_cX6_goOn rfl rfl
theorem dX6_goOn_15 : decode cX6_goOn 15 = .ok (.goto 4, 3) := D_167 yB_cX6_goOn rfl rfl (sg_p (m := 32768) (N := 4) rfl rfl rfl)
theorem dX6_goOn_18 : decode cX6_goOn 18 = .ok (.iconst 0, 1) := D_3 yB_cX6_goOn rfl rfl
theorem dX6_goOn_19 : decode cX6_goOn 19 = .ok (.istore_n 3, 1) := D_62 yB_cX6_goOn rfl rfl
theorem dX6_goOn_20 : decode cX6_goOn 20 = .ok (.iload_n 3, 1) := D_29 yB_cX6_goOn rfl rfl
theorem dX6_goOn_21 : decode cX6_goOn 21 = .ok (.ifCond .eq 22, 3) := D_153 yB_cX6_goOn rfl rfl (sg_p (m := 32768) (N := 22) rfl rfl rfl)
theorem dX6_goOn_24 : decode cX6_goOn 24 = .ok (.aload_n 0, 1) := D_42 yB_cX6_goOn rfl rfl
theorem dX6_goOn_25 : decode cX6_goOn 25 = .ok (.aload_n 2, 1) := D_44 yB_cX6_goOn rfl rfl
theorem dX6_goOn_26 : decode cX6_goOn 26 = .ok (.invokevirtual 162, 3) := D_182 yB_cX6_goOn rfl rfl rfl
theorem dX6_goOn_29 : decode cX6_goOn 29 = .ok (.ifCond .ne 14, 3) := D_154 yB_cX6_goOn rfl rfl (sg_p (m := 32768) (N := 14) rfl rfl rfl)
theorem dX6_goOn_32 : decode cX6_goOn 32 = .ok (.aload_n 2, 1) := D_44 yB_cX6_goOn rfl rfl
theorem dX6_goOn_33 : decode cX6_goOn 33 = .ok (.dup, 1) := D_89 yB_cX6_goOn rfl rfl
theorem dX6_goOn_34 : decode cX6_goOn 34 = .ok (.getfield 89, 3) := D_180 yB_cX6_goOn rfl rfl rfl
theorem dX6_goOn_37 : decode cX6_goOn 37 = .ok (.iconst 1, 1) := D_4 yB_cX6_goOn rfl rfl
theorem dX6_goOn_38 : decode cX6_goOn 38 = .ok (.iadd, 1) := D_96 yB_cX6_goOn rfl rfl
theorem dX6_goOn_39 : decode cX6_goOn 39 = .ok (.putfield 89, 3) := D_181 yB_cX6_goOn rfl rfl rfl
theorem dX6_goOn_42 : decode cX6_goOn 42 = .ok (.return_, 1) := D_177 yB_cX6_goOn rfl rfl
theorem dX6_goOn_43 : decode cX6_goOn 43 = .ok (.aload_n 2, 1) := D_44 yB_cX6_goOn rfl rfl
theorem dX6_goOn_44 : decode cX6_goOn 44 = .ok (.invokevirtual 166, 3) := D_182 yB_cX6_goOn rfl rfl rfl
theorem dX6_goOn_47 : decode cX6_goOn 47 = .ok (.istore 4, 2) := D_54 yB_cX6_goOn rfl rfl rfl
theorem dX6_goOn_49 : decode cX6_goOn 49 = .ok (.aload_n 0, 1) := D_42 yB_cX6_goOn rfl rfl
theorem dX6_goOn_50 : decode cX6_goOn 50 = .ok (.iload 4, 2) := D_21 yB_cX6_goOn rfl rfl rfl
theorem dX6_goOn_52 : decode cX6_goOn 52 = .ok (.invokevirtual 149, 3) := D_182 yB_cX6_goOn rfl rfl rfl
theorem dX6_goOn_55 : decode cX6_goOn 55 = .ok (.ifCond .ne 26, 3) := D_154 yB_cX6_goOn rfl rfl (sg_p (m := 32768) (N := 26) rfl rfl rfl)
theorem dX6_goOn_58 : decode cX6_goOn 58 = .ok (.aload_n 2, 1) := D_44 yB_cX6_goOn rfl rfl
theorem dX6_goOn_59 : decode cX6_goOn 59 = .ok (.dup, 1) := D_89 yB_cX6_goOn rfl rfl
theorem dX6_goOn_60 : decode cX6_goOn 60 = .ok (.getfield 89, 3) := D_180 yB_cX6_goOn rfl rfl rfl
theorem dX6_goOn_63 : decode cX6_goOn 63 = .ok (.iconst 1, 1) := D_4 yB_cX6_goOn rfl rfl
theorem dX6_goOn_64 : decode cX6_goOn 64 = .ok (.iadd, 1) := D_96 yB_cX6_goOn rfl rfl
theorem dX6_goOn_65 : decode cX6_goOn 65 = .ok (.putfield 89, 3) := D_181 yB_cX6_goOn rfl rfl rfl
theorem dX6_goOn_68 : decode cX6_goOn 68 = .ok (.iload_n 3, 1) := D_29 yB_cX6_goOn rfl rfl
theorem dX6_goOn_69 : decode cX6_goOn 69 = .ok (.ifCond .ne 11, 3) := D_154 yB_cX6_goOn rfl rfl (sg_p (m := 32768) (N := 11) rfl rfl rfl)
theorem dX6_goOn_72 : decode cX6_goOn 72 = .ok (.aload_n 0, 1) := D_42 yB_cX6_goOn rfl rfl
theorem dX6_goOn_73 : decode cX6_goOn 73 = .ok (.iload_n 1, 1) := D_27 yB_cX6_goOn rfl rfl
theorem dX6_goOn_74 : decode cX6_goOn 74 = .ok (.aload_n 2, 1) := D_44 yB_cX6_goOn rfl rfl
theorem dX6_goOn_75 : decode cX6_goOn 75 = .ok (.iload 4, 2) := D_21 yB_cX6_goOn rfl rfl rfl
theorem dX6_goOn_77 : decode cX6_goOn 77 = .ok (.invokevirtual 169, 3) := D_182 yB_cX6_goOn rfl rfl rfl
theorem dX6_goOn_80 : decode cX6_goOn 80 = .ok (.return_, 1) := D_177 yB_cX6_goOn rfl rfl
theorem dX6_goOn_81 : decode cX6_goOn 81 = .ok (.aload_n 0, 1) := D_42 yB_cX6_goOn rfl rfl
theorem dX6_goOn_82 : decode cX6_goOn 82 = .ok (.getfield 12, 3) := D_180 yB_cX6_goOn rfl rfl rfl
theorem dX6_goOn_85 : decode cX6_goOn 85 = .ok (.aload_n 0, 1) := D_42 yB_cX6_goOn rfl rfl
theorem dX6_goOn_86 : decode cX6_goOn 86 = .ok (.aload_n 2, 1) := D_44 yB_cX6_goOn rfl rfl
theorem dX6_goOn_87 : decode cX6_goOn 87 = .ok (.invokevirtual 173, 3) := D_182 yB_cX6_goOn rfl rfl rfl
theorem dX6_goOn_90 : decode cX6_goOn 90 = .ok (.invokevirtual 176, 3) := D_182 yB_cX6_goOn rfl rfl rfl
theorem dX6_goOn_93 : decode cX6_goOn 93 = .ok (.istore 5, 2) := D_54 yB_cX6_goOn rfl rfl rfl
theorem dX6_goOn_95 : decode cX6_goOn 95 = .ok (.aload_n 0, 1) := D_42 yB_cX6_goOn rfl rfl
theorem dX6_goOn_96 : decode cX6_goOn 96 = .ok (.aload_n 2, 1) := D_44 yB_cX6_goOn rfl rfl
theorem dX6_goOn_97 : decode cX6_goOn 97 = .ok (.iload 4, 2) := D_21 yB_cX6_goOn rfl rfl rfl
theorem dX6_goOn_99 : decode cX6_goOn 99 = .ok (.invokevirtual 152, 3) := D_182 yB_cX6_goOn rfl rfl rfl
theorem dX6_goOn_102 : decode cX6_goOn 102 = .ok (.aload_n 2, 1) := D_44 yB_cX6_goOn rfl rfl
theorem dX6_goOn_103 : decode cX6_goOn 103 = .ok (.aload_n 2, 1) := D_44 yB_cX6_goOn rfl rfl
theorem dX6_goOn_104 : decode cX6_goOn 104 = .ok (.iload 5, 2) := D_21 yB_cX6_goOn rfl rfl rfl
theorem dX6_goOn_106 : decode cX6_goOn 106 = .ok (.invokevirtual 179, 3) := D_182 yB_cX6_goOn rfl rfl rfl
theorem dX6_goOn_109 : decode cX6_goOn 109 = .ok (.ifCond .eq 7, 3) := D_153 yB_cX6_goOn rfl rfl (sg_p (m := 32768) (N := 7) rfl rfl rfl)
theorem dX6_goOn_112 : decode cX6_goOn 112 = .ok (.iconst 1, 1) := D_4 yB_cX6_goOn rfl rfl
theorem dX6_goOn_113 : decode cX6_goOn 113 = .ok (.goto 4, 3) := D_167 yB_cX6_goOn rfl rfl (sg_p (m := 32768) (N := 4) rfl rfl rfl)
theorem dX6_goOn_116 : decode cX6_goOn 116 = .ok (.iconst 0, 1) := D_3 yB_cX6_goOn rfl rfl
theorem dX6_goOn_117 : decode cX6_goOn 117 = .ok (.putfield 116, 3) := D_181 yB_cX6_goOn rfl rfl rfl
theorem dX6_goOn_120 : decode cX6_goOn 120 = .ok (.iload 4, 2) := D_21 yB_cX6_goOn rfl rfl rfl
theorem dX6_goOn_122 : decode cX6_goOn 122 = .ok (.aload_n 0, 1) := D_42 yB_cX6_goOn rfl rfl
theorem dX6_goOn_123 : decode cX6_goOn 123 = .ok (.aload_n 2, 1) := D_44 yB_cX6_goOn rfl rfl
theorem dX6_goOn_124 : decode cX6_goOn 124 = .ok (.invokevirtual 182, 3) := D_182 yB_cX6_goOn rfl rfl rfl
theorem dX6_goOn_127 : decode cX6_goOn 127 = .ok (.if_icmp .ne 20, 3) := D_160 yB_cX6_goOn rfl rfl (sg_p (m := 32768) (N := 20) rfl rfl rfl)
theorem dX6_goOn_130 : decode cX6_goOn 130 = .ok (.aload_n 0, 1) := D_42 yB_cX6_goOn rfl rfl
theorem dX6_goOn_131 : decode cX6_goOn 131 = .ok (.getfield 24, 3) := D_180 yB_cX6_goOn rfl rfl rfl
theorem dX6_goOn_134 : decode cX6_goOn 134 = .ok (.iload 4, 2) := D_21 yB_cX6_goOn rfl rfl rfl
theorem dX6_goOn_136 : decode cX6_goOn 136 = .ok (.dup2, 1) := D_92 yB_cX6_goOn rfl rfl
theorem dX6_goOn_137 : decode cX6_goOn 137 = .ok (.iaload, 1) := D_46 yB_cX6_goOn rfl rfl
theorem dX6_goOn_138 : decode cX6_goOn 138 = .ok (.iconst 1, 1) := D_4 yB_cX6_goOn rfl rfl
theorem dX6_goOn_139 : decode cX6_goOn 139 = .ok (.isub, 1) := D_100 yB_cX6_goOn rfl rfl
theorem dX6_goOn_140 : decode cX6_goOn 140 = .ok (.iastore, 1) := D_79 yB_cX6_goOn rfl rfl
theorem dX6_goOn_141 : decode cX6_goOn 141 = .ok (.aload_n 2, 1) := D_44 yB_cX6_goOn rfl rfl
theorem dX6_goOn_142 : decode cX6_goOn 142 = .ok (.bipush (-3), 2) := D_16 yB_cX6_goOn rfl rfl (sg_n (m := 128) (N := 3) rfl rfl rfl)
theorem dX6_goOn_144 : decode cX6_goOn 144 = .ok (.putfield 83, 3) := D_181 yB_cX6_goOn rfl rfl rfl
theorem dX6_goOn_147 : decode cX6_goOn 147 = .ok (.return_, 1) := D_177 yB_cX6_goOn rfl rfl
def F_X6_goOn (σ : Mem) (t : Nat) (x1 : Int32) (i2 : Nat) : Option (Mem) := (F_X4_placeOf σ t (σ i2 6)).bind fun r_1 => if r_1 < 0 then ((F_X0_spotAhead σ i2).bind fun r_4 => (F_X6_hasRoom σ t r_4).bind fun r_5 => if r_5 = 0 then ((F_X6_meet (stm σ i2 11 ((σ i2 11) + 1)) t x1 i2 r_4).bind fun σ_21 => some σ_21) else ((F_X6_pieceAhead σ t i2).bind fun r_7 => (F_X4_hillOf σ t r_7).bind fun r_8 => (F_X6_step σ t i2 r_4).bind fun σ_9 => (F_X0_isSlowOn σ_9 i2 r_8).bind fun r_10 => if r_10 = 0 then ((F_X6_goal (stm σ_9 i2 9 0) t i2).bind fun r_12 => if r_4 = r_12 then ((ix 73 r_4).bind fun k_14 => (ix 73 r_4).bind fun k_15 => some (stm (stm (stm σ_9 i2 9 0) (22 * t + 14) k_15 (((stm σ_9 i2 9 0) (22 * t + 14) k_14) - 1)) i2 6 (-3))) else (some (stm σ_9 i2 9 0))) else ((F_X6_goal (stm σ_9 i2 9 1) t i2).bind fun r_16 => if r_4 = r_16 then ((ix 73 r_4).bind fun k_18 => (ix 73 r_4).bind fun k_19 => some (stm (stm (stm σ_9 i2 9 1) (22 * t + 14) k_19 (((stm σ_9 i2 9 1) (22 * t + 14) k_18) - 1)) i2 6 (-3))) else (some (stm σ_9 i2 9 1))))) else ((F_X6_letsIn σ t i2).bind fun r_23 => if r_23 = 0 then (some (stm σ i2 11 ((σ i2 11) + 1))) else ((F_X0_spotAhead σ i2).bind fun r_25 => (F_X6_hasRoom σ t r_25).bind fun r_26 => if r_26 = 0 then (some (stm σ i2 11 ((σ i2 11) + 1))) else ((F_X6_pieceAhead σ t i2).bind fun r_28 => (F_X4_hillOf σ t r_28).bind fun r_29 => (F_X6_step σ t i2 r_25).bind fun σ_30 => (F_X0_isSlowOn σ_30 i2 r_29).bind fun r_31 => if r_31 = 0 then ((F_X6_goal (stm σ_30 i2 9 0) t i2).bind fun r_33 => if r_25 = r_33 then ((ix 73 r_25).bind fun k_35 => (ix 73 r_25).bind fun k_36 => some (stm (stm (stm σ_30 i2 9 0) (22 * t + 14) k_36 (((stm σ_30 i2 9 0) (22 * t + 14) k_35) - 1)) i2 6 (-3))) else (some (stm σ_30 i2 9 0))) else ((F_X6_goal (stm σ_30 i2 9 1) t i2).bind fun r_37 => if r_25 = r_37 then ((ix 73 r_25).bind fun k_39 => (ix 73 r_25).bind fun k_40 => some (stm (stm (stm σ_30 i2 9 1) (22 * t + 14) k_40 (((stm σ_30 i2 9 1) (22 * t + 14) k_39) - 1)) i2 6 (-3))) else (some (stm σ_30 i2 9 1))))))
set_option maxHeartbeats 4000000 in
set_option maxRecDepth 100000 in
theorem c_X6_goOn (l : Launch) (D : va_G) (cA : Nat → ClassId) (ad : Nat → Nat) (o : Int64) (σ : Mem) (t : Nat) (x1 : Int32) (i2 : Nat) (ht : t < 3) (hi2 : i2 < 106 ∧ kd i2 = (0, 12)) (res : Mem) (h : F_X6_goOn σ t x1 i2 = some res) (sz : Nat) : Met l yX6_goOn (WY yX6_goOn cX6_goOn 6 none) (RM 3) (va_Pc [.ref (ad (22 * t)), .int x1, .ref (ad i2)] (PW D cA ad o σ sz)) (va_Qv (fun σ9 => σ9 = res) (QW D cA ad o) (FA ad sz)) 0 0 (FA ad sz) := by
  refine ct_of (own := RX6) (k := 3) (Qf := va_Qv (fun σ9 => σ9 = res) (QW D cA ad o)) rfl (by decide) (Nat.le_of_ble_eq_true rfl) (fun p e s m below meth c ls C0 X hr hlk hP hl => ?_) sz
  have hS : va_S (FA ad s.heap.size) s.heap s.heap [] := va_S.rf
  have hl : lv_has ls 6 [(0, .ref (ad (22 * t))), (1, .int x1), (2, .ref (ad i2))] := hl
  obtain ⟨hx, hb, hml, hown, hts⟩ := id C0
  unfold F_X6_goOn at h
  refine lv_aload_n hx hb dX6_goOn_0 rfl (lv_at hl 0 rfl) ?_
  refine gf_X6_12 C0 X hP (22 * t) (q := (22 * t + 1)) (kdT t ht) (by omega) (lkT0 t ht) dX6_goOn_1 ?_
  refine lv_aload_n hx hb dX6_goOn_4 rfl (lv_at hl 2 rfl) ?_
  refine gf_X6_83 C0 X hP i2 hi2 dX6_goOn_5 ?_
  obtain ⟨r_1, er_1, h⟩ := bnd h
  refine r_ci X hS (r_runV (As := [.int (σ i2 6)]) (rest := []) C0 X hP L_X6_143 (fun sz => c_X4_placeOf l D cA ad o σ t (σ i2 6) ht r_1 er_1 sz) (kdR t ht).1 (kdR t ht).2 (by decide) rfl ⟨Nat.le_of_ble_eq_true rfl, Nat.le_of_ble_eq_true rfl⟩ rfl hl.1 rfl (Nat.le_of_ble_eq_true rfl) dX6_goOn_8 ⟨Nat.zero_le _, Nat.zero_le _⟩) (fun r9 σ9 H locs hw hP hS => ?_)
  rw [hw.2] at hP
  rw [hw.1]
  refine lv_if_lt (tgt := 18) hx hb dX6_goOn_11 (by decide) (fun c_2 => ?_) (fun c_2 => ?_)
  · replace h := it_t h c_2
    refine lv_iconst (v := 0) hx hb dX6_goOn_18 (by decide) ?_
    refine lv_istore_n (lv' := [(3, .int 0), (0, .ref (ad (22 * t))), (1, .int x1), (2, .ref (ad i2))]) hx hb dX6_goOn_19 rfl hl (by decide) rfl (fun ls hl => ?_)
    refine lv_iload_n hx hb dX6_goOn_20 rfl (lv_at hl 0 rfl) ?_
    refine lv_if_eq (tgt := 43) hx hb dX6_goOn_21 (by decide) (fun _ => ?_) (fun c_3 => absurd c_3 (by decide))
    refine lv_aload_n hx hb dX6_goOn_43 rfl (lv_at hl 3 rfl) ?_
    obtain ⟨r_4, er_4, h⟩ := bnd h
    refine r_ci X hS (r_runV (As := []) (rest := []) C0 X hP L_X6_166 (fun sz => c_X0_spotAhead l D cA ad o σ i2 hi2 r_4 er_4 sz) hi2.1 hi2.2 (by decide) rfl ⟨Nat.le_of_ble_eq_true rfl, Nat.le_of_ble_eq_true rfl⟩ rfl hl.1 rfl (Nat.le_of_ble_eq_true rfl) dX6_goOn_44 ⟨Nat.zero_le _, Nat.zero_le _⟩) (fun r9 σ9 H locs hw hP hS => ?_)
    rw [hw.2] at hP
    rw [hw.1]
    refine lv_istore (lv' := [(4, .int r_4), (3, .int 0), (0, .ref (ad (22 * t))), (1, .int x1), (2, .ref (ad i2))]) hx hb dX6_goOn_47 hl (by decide) rfl (fun ls hl => ?_)
    refine lv_aload_n hx hb dX6_goOn_49 rfl (lv_at hl 2 rfl) ?_
    refine lv_iload hx hb dX6_goOn_50 (lv_at hl 0 rfl) ?_
    obtain ⟨r_5, er_5, h⟩ := bnd h
    refine r_ci X hS (r_runV (As := [.int r_4]) (rest := []) C0 X hP L_X6_149 (fun sz => c_X6_hasRoom l D cA ad o σ t r_4 ht r_5 er_5 sz) (kdT t ht).1 (kdT t ht).2 (by decide) rfl ⟨Nat.le_of_ble_eq_true rfl, Nat.le_of_ble_eq_true rfl⟩ rfl hl.1 rfl (Nat.le_of_ble_eq_true rfl) dX6_goOn_52 ⟨Nat.zero_le _, Nat.zero_le _⟩) (fun r9 σ9 H locs hw hP hS => ?_)
    rw [hw.2] at hP
    rw [hw.1]
    refine lv_if_ne (tgt := 81) hx hb dX6_goOn_55 (by decide) (fun c_6 => ?_) (fun c_6 => ?_)
    · replace h := it_f h c_6
      refine lv_aload_n hx hb dX6_goOn_81 rfl (lv_at hl 2 rfl) ?_
      refine gf_X6_12 C0 X hP (22 * t) (q := (22 * t + 1)) (kdT t ht) (by omega) (lkT0 t ht) dX6_goOn_82 ?_
      refine lv_aload_n hx hb dX6_goOn_85 rfl (lv_at hl 2 rfl) ?_
      refine lv_aload_n hx hb dX6_goOn_86 rfl (lv_at hl 4 rfl) ?_
      obtain ⟨r_7, er_7, h⟩ := bnd h
      refine r_ci X hS (r_runV (As := [.ref (ad i2)]) (rest := [.ref (ad (22 * t + 1))]) C0 X hP L_X6_173 (fun sz => c_X6_pieceAhead l D cA ad o σ t i2 ht hi2 r_7 er_7 sz) (kdT t ht).1 (kdT t ht).2 (by decide) rfl ⟨Nat.le_of_ble_eq_true rfl, Nat.le_of_ble_eq_true rfl⟩ rfl hl.1 rfl (Nat.le_of_ble_eq_true rfl) dX6_goOn_87 ⟨Nat.zero_le _, Nat.zero_le _⟩) (fun r9 σ9 H locs hw hP hS => ?_)
      rw [hw.2] at hP
      rw [hw.1]
      obtain ⟨r_8, er_8, h⟩ := bnd h
      refine r_ci X hS (r_runV (As := [.int r_7]) (rest := []) C0 X hP L_X6_176 (fun sz => c_X4_hillOf l D cA ad o σ t r_7 ht r_8 er_8 sz) (kdR t ht).1 (kdR t ht).2 (by decide) rfl ⟨Nat.le_of_ble_eq_true rfl, Nat.le_of_ble_eq_true rfl⟩ rfl hl.1 rfl (Nat.le_of_ble_eq_true rfl) dX6_goOn_90 ⟨Nat.zero_le _, Nat.zero_le _⟩) (fun r9 σ9 H locs hw hP hS => ?_)
      rw [hw.2] at hP
      rw [hw.1]
      refine lv_istore (lv' := [(5, .int r_8), (4, .int r_4), (3, .int 0), (0, .ref (ad (22 * t))), (1, .int x1), (2, .ref (ad i2))]) hx hb dX6_goOn_93 hl (by decide) rfl (fun ls hl => ?_)
      refine lv_aload_n hx hb dX6_goOn_95 rfl (lv_at hl 3 rfl) ?_
      refine lv_aload_n hx hb dX6_goOn_96 rfl (lv_at hl 5 rfl) ?_
      refine lv_iload hx hb dX6_goOn_97 (lv_at hl 1 rfl) ?_
      obtain ⟨σ_9, eσ_9, h⟩ := bnd h
      refine r_cv X hS (r_runV (As := [.ref (ad i2), .int r_4]) (rest := []) C0 X hP L_X6_152 (fun sz => c_X6_step l D cA ad o σ t i2 r_4 ht hi2 σ_9 eσ_9 sz) (kdT t ht).1 (kdT t ht).2 (by decide) rfl ⟨Nat.le_of_ble_eq_true rfl, Nat.le_of_ble_eq_true rfl⟩ rfl hl.1 rfl (Nat.le_of_ble_eq_true rfl) dX6_goOn_99 ⟨Nat.zero_le _, Nat.zero_le _⟩) (fun σ9 H locs hw hP hS => ?_)
      rw [show σ9 = σ_9 from hw] at hP
      refine lv_aload_n hx hb dX6_goOn_102 rfl (lv_at hl 5 rfl) ?_
      refine lv_aload_n hx hb dX6_goOn_103 rfl (lv_at hl 5 rfl) ?_
      refine lv_iload hx hb dX6_goOn_104 (lv_at hl 0 rfl) ?_
      obtain ⟨r_10, er_10, h⟩ := bnd h
      refine r_ci X hS (r_runV (As := [.int r_8]) (rest := [.ref (ad i2)]) C0 X hP L_X6_179 (fun sz => c_X0_isSlowOn l D cA ad o σ_9 i2 r_8 hi2 r_10 er_10 sz) hi2.1 hi2.2 (by decide) rfl ⟨Nat.le_of_ble_eq_true rfl, Nat.le_of_ble_eq_true rfl⟩ rfl hl.1 rfl (Nat.le_of_ble_eq_true rfl) dX6_goOn_106 ⟨Nat.zero_le _, Nat.zero_le _⟩) (fun r9 σ9 H locs hw hP hS => ?_)
      rw [hw.2] at hP
      rw [hw.1]
      refine lv_if_eq (tgt := 116) hx hb dX6_goOn_109 (by decide) (fun c_11 => ?_) (fun c_11 => ?_)
      · replace h := it_t h c_11
        refine lv_iconst (v := 0) hx hb dX6_goOn_116 (by decide) ?_
        refine pf_X6_116 C0 X hP hS i2 hi2 dX6_goOn_117 (fun H locs hP hS => ?_)
        refine lv_iload hx hb dX6_goOn_120 (lv_at hl 1 rfl) ?_
        refine lv_aload_n hx hb dX6_goOn_122 rfl (lv_at hl 3 rfl) ?_
        refine lv_aload_n hx hb dX6_goOn_123 rfl (lv_at hl 5 rfl) ?_
        obtain ⟨r_12, er_12, h⟩ := bnd h
        refine r_ci X hS (r_runV (As := [.ref (ad i2)]) (rest := [.int r_4]) C0 X hP L_X6_182 (fun sz => c_X6_goal l D cA ad o (stm σ_9 i2 9 0) t i2 ht hi2 r_12 er_12 sz) (kdT t ht).1 (kdT t ht).2 (by decide) rfl ⟨Nat.le_of_ble_eq_true rfl, Nat.le_of_ble_eq_true rfl⟩ rfl hl.1 rfl (Nat.le_of_ble_eq_true rfl) dX6_goOn_124 ⟨Nat.zero_le _, Nat.zero_le _⟩) (fun r9 σ9 H locs hw hP hS => ?_)
        rw [hw.2] at hP
        rw [hw.1]
        refine lv_icmp_ne (tgt := 147) hx hb dX6_goOn_127 (by decide) (fun c_13 => ?_) (fun c_13 => ?_)
        · replace h := it_f h c_13
          exact r_vret C0 X hP hS hr hlk dX6_goOn_147 (Option.some.inj h)
        · replace h := it_t h c_13
          refine lv_aload_n hx hb dX6_goOn_130 rfl (lv_at hl 3 rfl) ?_
          refine gf_X6_24 C0 X hP (22 * t) (q := (22 * t + 14)) (kdT t ht) (by omega) (lkT7 t ht) dX6_goOn_131 ?_
          refine lv_iload hx hb dX6_goOn_134 (lv_at hl 1 rfl) ?_
          refine lv_dup2_11 hx hb dX6_goOn_136 rfl rfl ?_
          obtain ⟨k_14, ek_14, h⟩ := bnd h
          replace ek_14 := ix_s ek_14 (by decide)
          refine r_ialdN C0 X hP (22 * t + 14) (k := k_14) (kdA14 t ht) ek_14.1 ek_14.2 dX6_goOn_137 ?_
          refine lv_iconst (v := 1) hx hb dX6_goOn_138 (by decide) ?_
          refine lv_isub hx hb dX6_goOn_139 ?_
          obtain ⟨k_15, ek_15, h⟩ := bnd h
          replace ek_15 := ix_s ek_15 (by decide)
          refine r_iastN C0 X hP hS (22 * t + 14) (k := k_15) (kdA14 t ht) ek_15.1 ek_15.2 dX6_goOn_140 (fun H locs hP hS => ?_)
          refine lv_aload_n hx hb dX6_goOn_141 rfl (lv_at hl 5 rfl) ?_
          refine lv_bipush (v := (-3)) hx hb dX6_goOn_142 (by decide) ?_
          refine pf_X6_83 C0 X hP hS i2 hi2 dX6_goOn_144 (fun H locs hP hS => ?_)
          exact r_vret C0 X hP hS hr hlk dX6_goOn_147 (Option.some.inj h)
      · replace h := it_f h c_11
        refine lv_iconst (v := 1) hx hb dX6_goOn_112 (by decide) ?_
        refine lv_goto (tgt := 117) hx hb dX6_goOn_113 (by decide) ?_
        refine pf_X6_116 C0 X hP hS i2 hi2 dX6_goOn_117 (fun H locs hP hS => ?_)
        refine lv_iload hx hb dX6_goOn_120 (lv_at hl 1 rfl) ?_
        refine lv_aload_n hx hb dX6_goOn_122 rfl (lv_at hl 3 rfl) ?_
        refine lv_aload_n hx hb dX6_goOn_123 rfl (lv_at hl 5 rfl) ?_
        obtain ⟨r_16, er_16, h⟩ := bnd h
        refine r_ci X hS (r_runV (As := [.ref (ad i2)]) (rest := [.int r_4]) C0 X hP L_X6_182 (fun sz => c_X6_goal l D cA ad o (stm σ_9 i2 9 1) t i2 ht hi2 r_16 er_16 sz) (kdT t ht).1 (kdT t ht).2 (by decide) rfl ⟨Nat.le_of_ble_eq_true rfl, Nat.le_of_ble_eq_true rfl⟩ rfl hl.1 rfl (Nat.le_of_ble_eq_true rfl) dX6_goOn_124 ⟨Nat.zero_le _, Nat.zero_le _⟩) (fun r9 σ9 H locs hw hP hS => ?_)
        rw [hw.2] at hP
        rw [hw.1]
        refine lv_icmp_ne (tgt := 147) hx hb dX6_goOn_127 (by decide) (fun c_17 => ?_) (fun c_17 => ?_)
        · replace h := it_f h c_17
          exact r_vret C0 X hP hS hr hlk dX6_goOn_147 (Option.some.inj h)
        · replace h := it_t h c_17
          refine lv_aload_n hx hb dX6_goOn_130 rfl (lv_at hl 3 rfl) ?_
          refine gf_X6_24 C0 X hP (22 * t) (q := (22 * t + 14)) (kdT t ht) (by omega) (lkT7 t ht) dX6_goOn_131 ?_
          refine lv_iload hx hb dX6_goOn_134 (lv_at hl 1 rfl) ?_
          refine lv_dup2_11 hx hb dX6_goOn_136 rfl rfl ?_
          obtain ⟨k_18, ek_18, h⟩ := bnd h
          replace ek_18 := ix_s ek_18 (by decide)
          refine r_ialdN C0 X hP (22 * t + 14) (k := k_18) (kdA14 t ht) ek_18.1 ek_18.2 dX6_goOn_137 ?_
          refine lv_iconst (v := 1) hx hb dX6_goOn_138 (by decide) ?_
          refine lv_isub hx hb dX6_goOn_139 ?_
          obtain ⟨k_19, ek_19, h⟩ := bnd h
          replace ek_19 := ix_s ek_19 (by decide)
          refine r_iastN C0 X hP hS (22 * t + 14) (k := k_19) (kdA14 t ht) ek_19.1 ek_19.2 dX6_goOn_140 (fun H locs hP hS => ?_)
          refine lv_aload_n hx hb dX6_goOn_141 rfl (lv_at hl 5 rfl) ?_
          refine lv_bipush (v := (-3)) hx hb dX6_goOn_142 (by decide) ?_
          refine pf_X6_83 C0 X hP hS i2 hi2 dX6_goOn_144 (fun H locs hP hS => ?_)
          exact r_vret C0 X hP hS hr hlk dX6_goOn_147 (Option.some.inj h)
    · replace h := it_t h c_6
      refine lv_aload_n hx hb dX6_goOn_58 rfl (lv_at hl 4 rfl) ?_
      refine lv_dup hx hb dX6_goOn_59 rfl ?_
      refine gf_X6_89 C0 X hP i2 hi2 dX6_goOn_60 ?_
      refine lv_iconst (v := 1) hx hb dX6_goOn_63 (by decide) ?_
      refine lv_iadd hx hb dX6_goOn_64 ?_
      refine pf_X6_89 C0 X hP hS i2 hi2 dX6_goOn_65 (fun H locs hP hS => ?_)
      refine lv_iload_n hx hb dX6_goOn_68 rfl (lv_at hl 1 rfl) ?_
      refine lv_if_ne (tgt := 80) hx hb dX6_goOn_69 (by decide) (fun c_20 => absurd c_20 (by decide)) (fun _ => ?_)
      refine lv_aload_n hx hb dX6_goOn_72 rfl (lv_at hl 2 rfl) ?_
      refine lv_iload_n hx hb dX6_goOn_73 rfl (lv_at hl 3 rfl) ?_
      refine lv_aload_n hx hb dX6_goOn_74 rfl (lv_at hl 4 rfl) ?_
      refine lv_iload hx hb dX6_goOn_75 (lv_at hl 0 rfl) ?_
      obtain ⟨σ_21, eσ_21, h⟩ := bnd h
      refine r_cv X hS (r_runV (As := [.int x1, .ref (ad i2), .int r_4]) (rest := []) C0 X hP L_X6_169 (fun sz => c_X6_meet l D cA ad o (stm σ i2 11 ((σ i2 11) + 1)) t x1 i2 r_4 ht hi2 σ_21 eσ_21 sz) (kdT t ht).1 (kdT t ht).2 (by decide) rfl ⟨Nat.le_of_ble_eq_true rfl, Nat.le_of_ble_eq_true rfl⟩ rfl hl.1 rfl (Nat.le_of_ble_eq_true rfl) dX6_goOn_77 ⟨Nat.zero_le _, Nat.zero_le _⟩) (fun σ9 H locs hw hP hS => ?_)
      rw [show σ9 = σ_21 from hw] at hP
      exact r_vret C0 X hP hS hr hlk dX6_goOn_80 (Option.some.inj h)
  · replace h := it_f h c_2
    refine lv_iconst (v := 1) hx hb dX6_goOn_14 (by decide) ?_
    refine lv_goto (tgt := 19) hx hb dX6_goOn_15 (by decide) ?_
    refine lv_istore_n (lv' := [(3, .int 1), (0, .ref (ad (22 * t))), (1, .int x1), (2, .ref (ad i2))]) hx hb dX6_goOn_19 rfl hl (by decide) rfl (fun ls hl => ?_)
    refine lv_iload_n hx hb dX6_goOn_20 rfl (lv_at hl 0 rfl) ?_
    refine lv_if_eq (tgt := 43) hx hb dX6_goOn_21 (by decide) (fun c_22 => absurd c_22 (by decide)) (fun _ => ?_)
    refine lv_aload_n hx hb dX6_goOn_24 rfl (lv_at hl 1 rfl) ?_
    refine lv_aload_n hx hb dX6_goOn_25 rfl (lv_at hl 3 rfl) ?_
    obtain ⟨r_23, er_23, h⟩ := bnd h
    refine r_ci X hS (r_runV (As := [.ref (ad i2)]) (rest := []) C0 X hP L_X6_162 (fun sz => c_X6_letsIn l D cA ad o σ t i2 ht hi2 r_23 er_23 sz) (kdT t ht).1 (kdT t ht).2 (by decide) rfl ⟨Nat.le_of_ble_eq_true rfl, Nat.le_of_ble_eq_true rfl⟩ rfl hl.1 rfl (Nat.le_of_ble_eq_true rfl) dX6_goOn_26 ⟨Nat.zero_le _, Nat.zero_le _⟩) (fun r9 σ9 H locs hw hP hS => ?_)
    rw [hw.2] at hP
    rw [hw.1]
    refine lv_if_ne (tgt := 43) hx hb dX6_goOn_29 (by decide) (fun c_24 => ?_) (fun c_24 => ?_)
    · replace h := it_f h c_24
      refine lv_aload_n hx hb dX6_goOn_43 rfl (lv_at hl 3 rfl) ?_
      obtain ⟨r_25, er_25, h⟩ := bnd h
      refine r_ci X hS (r_runV (As := []) (rest := []) C0 X hP L_X6_166 (fun sz => c_X0_spotAhead l D cA ad o σ i2 hi2 r_25 er_25 sz) hi2.1 hi2.2 (by decide) rfl ⟨Nat.le_of_ble_eq_true rfl, Nat.le_of_ble_eq_true rfl⟩ rfl hl.1 rfl (Nat.le_of_ble_eq_true rfl) dX6_goOn_44 ⟨Nat.zero_le _, Nat.zero_le _⟩) (fun r9 σ9 H locs hw hP hS => ?_)
      rw [hw.2] at hP
      rw [hw.1]
      refine lv_istore (lv' := [(4, .int r_25), (3, .int 1), (0, .ref (ad (22 * t))), (1, .int x1), (2, .ref (ad i2))]) hx hb dX6_goOn_47 hl (by decide) rfl (fun ls hl => ?_)
      refine lv_aload_n hx hb dX6_goOn_49 rfl (lv_at hl 2 rfl) ?_
      refine lv_iload hx hb dX6_goOn_50 (lv_at hl 0 rfl) ?_
      obtain ⟨r_26, er_26, h⟩ := bnd h
      refine r_ci X hS (r_runV (As := [.int r_25]) (rest := []) C0 X hP L_X6_149 (fun sz => c_X6_hasRoom l D cA ad o σ t r_25 ht r_26 er_26 sz) (kdT t ht).1 (kdT t ht).2 (by decide) rfl ⟨Nat.le_of_ble_eq_true rfl, Nat.le_of_ble_eq_true rfl⟩ rfl hl.1 rfl (Nat.le_of_ble_eq_true rfl) dX6_goOn_52 ⟨Nat.zero_le _, Nat.zero_le _⟩) (fun r9 σ9 H locs hw hP hS => ?_)
      rw [hw.2] at hP
      rw [hw.1]
      refine lv_if_ne (tgt := 81) hx hb dX6_goOn_55 (by decide) (fun c_27 => ?_) (fun c_27 => ?_)
      · replace h := it_f h c_27
        refine lv_aload_n hx hb dX6_goOn_81 rfl (lv_at hl 2 rfl) ?_
        refine gf_X6_12 C0 X hP (22 * t) (q := (22 * t + 1)) (kdT t ht) (by omega) (lkT0 t ht) dX6_goOn_82 ?_
        refine lv_aload_n hx hb dX6_goOn_85 rfl (lv_at hl 2 rfl) ?_
        refine lv_aload_n hx hb dX6_goOn_86 rfl (lv_at hl 4 rfl) ?_
        obtain ⟨r_28, er_28, h⟩ := bnd h
        refine r_ci X hS (r_runV (As := [.ref (ad i2)]) (rest := [.ref (ad (22 * t + 1))]) C0 X hP L_X6_173 (fun sz => c_X6_pieceAhead l D cA ad o σ t i2 ht hi2 r_28 er_28 sz) (kdT t ht).1 (kdT t ht).2 (by decide) rfl ⟨Nat.le_of_ble_eq_true rfl, Nat.le_of_ble_eq_true rfl⟩ rfl hl.1 rfl (Nat.le_of_ble_eq_true rfl) dX6_goOn_87 ⟨Nat.zero_le _, Nat.zero_le _⟩) (fun r9 σ9 H locs hw hP hS => ?_)
        rw [hw.2] at hP
        rw [hw.1]
        obtain ⟨r_29, er_29, h⟩ := bnd h
        refine r_ci X hS (r_runV (As := [.int r_28]) (rest := []) C0 X hP L_X6_176 (fun sz => c_X4_hillOf l D cA ad o σ t r_28 ht r_29 er_29 sz) (kdR t ht).1 (kdR t ht).2 (by decide) rfl ⟨Nat.le_of_ble_eq_true rfl, Nat.le_of_ble_eq_true rfl⟩ rfl hl.1 rfl (Nat.le_of_ble_eq_true rfl) dX6_goOn_90 ⟨Nat.zero_le _, Nat.zero_le _⟩) (fun r9 σ9 H locs hw hP hS => ?_)
        rw [hw.2] at hP
        rw [hw.1]
        refine lv_istore (lv' := [(5, .int r_29), (4, .int r_25), (3, .int 1), (0, .ref (ad (22 * t))), (1, .int x1), (2, .ref (ad i2))]) hx hb dX6_goOn_93 hl (by decide) rfl (fun ls hl => ?_)
        refine lv_aload_n hx hb dX6_goOn_95 rfl (lv_at hl 3 rfl) ?_
        refine lv_aload_n hx hb dX6_goOn_96 rfl (lv_at hl 5 rfl) ?_
        refine lv_iload hx hb dX6_goOn_97 (lv_at hl 1 rfl) ?_
        obtain ⟨σ_30, eσ_30, h⟩ := bnd h
        refine r_cv X hS (r_runV (As := [.ref (ad i2), .int r_25]) (rest := []) C0 X hP L_X6_152 (fun sz => c_X6_step l D cA ad o σ t i2 r_25 ht hi2 σ_30 eσ_30 sz) (kdT t ht).1 (kdT t ht).2 (by decide) rfl ⟨Nat.le_of_ble_eq_true rfl, Nat.le_of_ble_eq_true rfl⟩ rfl hl.1 rfl (Nat.le_of_ble_eq_true rfl) dX6_goOn_99 ⟨Nat.zero_le _, Nat.zero_le _⟩) (fun σ9 H locs hw hP hS => ?_)
        rw [show σ9 = σ_30 from hw] at hP
        refine lv_aload_n hx hb dX6_goOn_102 rfl (lv_at hl 5 rfl) ?_
        refine lv_aload_n hx hb dX6_goOn_103 rfl (lv_at hl 5 rfl) ?_
        refine lv_iload hx hb dX6_goOn_104 (lv_at hl 0 rfl) ?_
        obtain ⟨r_31, er_31, h⟩ := bnd h
        refine r_ci X hS (r_runV (As := [.int r_29]) (rest := [.ref (ad i2)]) C0 X hP L_X6_179 (fun sz => c_X0_isSlowOn l D cA ad o σ_30 i2 r_29 hi2 r_31 er_31 sz) hi2.1 hi2.2 (by decide) rfl ⟨Nat.le_of_ble_eq_true rfl, Nat.le_of_ble_eq_true rfl⟩ rfl hl.1 rfl (Nat.le_of_ble_eq_true rfl) dX6_goOn_106 ⟨Nat.zero_le _, Nat.zero_le _⟩) (fun r9 σ9 H locs hw hP hS => ?_)
        rw [hw.2] at hP
        rw [hw.1]
        refine lv_if_eq (tgt := 116) hx hb dX6_goOn_109 (by decide) (fun c_32 => ?_) (fun c_32 => ?_)
        · replace h := it_t h c_32
          refine lv_iconst (v := 0) hx hb dX6_goOn_116 (by decide) ?_
          refine pf_X6_116 C0 X hP hS i2 hi2 dX6_goOn_117 (fun H locs hP hS => ?_)
          refine lv_iload hx hb dX6_goOn_120 (lv_at hl 1 rfl) ?_
          refine lv_aload_n hx hb dX6_goOn_122 rfl (lv_at hl 3 rfl) ?_
          refine lv_aload_n hx hb dX6_goOn_123 rfl (lv_at hl 5 rfl) ?_
          obtain ⟨r_33, er_33, h⟩ := bnd h
          refine r_ci X hS (r_runV (As := [.ref (ad i2)]) (rest := [.int r_25]) C0 X hP L_X6_182 (fun sz => c_X6_goal l D cA ad o (stm σ_30 i2 9 0) t i2 ht hi2 r_33 er_33 sz) (kdT t ht).1 (kdT t ht).2 (by decide) rfl ⟨Nat.le_of_ble_eq_true rfl, Nat.le_of_ble_eq_true rfl⟩ rfl hl.1 rfl (Nat.le_of_ble_eq_true rfl) dX6_goOn_124 ⟨Nat.zero_le _, Nat.zero_le _⟩) (fun r9 σ9 H locs hw hP hS => ?_)
          rw [hw.2] at hP
          rw [hw.1]
          refine lv_icmp_ne (tgt := 147) hx hb dX6_goOn_127 (by decide) (fun c_34 => ?_) (fun c_34 => ?_)
          · replace h := it_f h c_34
            exact r_vret C0 X hP hS hr hlk dX6_goOn_147 (Option.some.inj h)
          · replace h := it_t h c_34
            refine lv_aload_n hx hb dX6_goOn_130 rfl (lv_at hl 3 rfl) ?_
            refine gf_X6_24 C0 X hP (22 * t) (q := (22 * t + 14)) (kdT t ht) (by omega) (lkT7 t ht) dX6_goOn_131 ?_
            refine lv_iload hx hb dX6_goOn_134 (lv_at hl 1 rfl) ?_
            refine lv_dup2_11 hx hb dX6_goOn_136 rfl rfl ?_
            obtain ⟨k_35, ek_35, h⟩ := bnd h
            replace ek_35 := ix_s ek_35 (by decide)
            refine r_ialdN C0 X hP (22 * t + 14) (k := k_35) (kdA14 t ht) ek_35.1 ek_35.2 dX6_goOn_137 ?_
            refine lv_iconst (v := 1) hx hb dX6_goOn_138 (by decide) ?_
            refine lv_isub hx hb dX6_goOn_139 ?_
            obtain ⟨k_36, ek_36, h⟩ := bnd h
            replace ek_36 := ix_s ek_36 (by decide)
            refine r_iastN C0 X hP hS (22 * t + 14) (k := k_36) (kdA14 t ht) ek_36.1 ek_36.2 dX6_goOn_140 (fun H locs hP hS => ?_)
            refine lv_aload_n hx hb dX6_goOn_141 rfl (lv_at hl 5 rfl) ?_
            refine lv_bipush (v := (-3)) hx hb dX6_goOn_142 (by decide) ?_
            refine pf_X6_83 C0 X hP hS i2 hi2 dX6_goOn_144 (fun H locs hP hS => ?_)
            exact r_vret C0 X hP hS hr hlk dX6_goOn_147 (Option.some.inj h)
        · replace h := it_f h c_32
          refine lv_iconst (v := 1) hx hb dX6_goOn_112 (by decide) ?_
          refine lv_goto (tgt := 117) hx hb dX6_goOn_113 (by decide) ?_
          refine pf_X6_116 C0 X hP hS i2 hi2 dX6_goOn_117 (fun H locs hP hS => ?_)
          refine lv_iload hx hb dX6_goOn_120 (lv_at hl 1 rfl) ?_
          refine lv_aload_n hx hb dX6_goOn_122 rfl (lv_at hl 3 rfl) ?_
          refine lv_aload_n hx hb dX6_goOn_123 rfl (lv_at hl 5 rfl) ?_
          obtain ⟨r_37, er_37, h⟩ := bnd h
          refine r_ci X hS (r_runV (As := [.ref (ad i2)]) (rest := [.int r_25]) C0 X hP L_X6_182 (fun sz => c_X6_goal l D cA ad o (stm σ_30 i2 9 1) t i2 ht hi2 r_37 er_37 sz) (kdT t ht).1 (kdT t ht).2 (by decide) rfl ⟨Nat.le_of_ble_eq_true rfl, Nat.le_of_ble_eq_true rfl⟩ rfl hl.1 rfl (Nat.le_of_ble_eq_true rfl) dX6_goOn_124 ⟨Nat.zero_le _, Nat.zero_le _⟩) (fun r9 σ9 H locs hw hP hS => ?_)
          rw [hw.2] at hP
          rw [hw.1]
          refine lv_icmp_ne (tgt := 147) hx hb dX6_goOn_127 (by decide) (fun c_38 => ?_) (fun c_38 => ?_)
          · replace h := it_f h c_38
            exact r_vret C0 X hP hS hr hlk dX6_goOn_147 (Option.some.inj h)
          · replace h := it_t h c_38
            refine lv_aload_n hx hb dX6_goOn_130 rfl (lv_at hl 3 rfl) ?_
            refine gf_X6_24 C0 X hP (22 * t) (q := (22 * t + 14)) (kdT t ht) (by omega) (lkT7 t ht) dX6_goOn_131 ?_
            refine lv_iload hx hb dX6_goOn_134 (lv_at hl 1 rfl) ?_
            refine lv_dup2_11 hx hb dX6_goOn_136 rfl rfl ?_
            obtain ⟨k_39, ek_39, h⟩ := bnd h
            replace ek_39 := ix_s ek_39 (by decide)
            refine r_ialdN C0 X hP (22 * t + 14) (k := k_39) (kdA14 t ht) ek_39.1 ek_39.2 dX6_goOn_137 ?_
            refine lv_iconst (v := 1) hx hb dX6_goOn_138 (by decide) ?_
            refine lv_isub hx hb dX6_goOn_139 ?_
            obtain ⟨k_40, ek_40, h⟩ := bnd h
            replace ek_40 := ix_s ek_40 (by decide)
            refine r_iastN C0 X hP hS (22 * t + 14) (k := k_40) (kdA14 t ht) ek_40.1 ek_40.2 dX6_goOn_140 (fun H locs hP hS => ?_)
            refine lv_aload_n hx hb dX6_goOn_141 rfl (lv_at hl 5 rfl) ?_
            refine lv_bipush (v := (-3)) hx hb dX6_goOn_142 (by decide) ?_
            refine pf_X6_83 C0 X hP hS i2 hi2 dX6_goOn_144 (fun H locs hP hS => ?_)
            exact r_vret C0 X hP hS hr hlk dX6_goOn_147 (Option.some.inj h)
      · replace h := it_t h c_27
        refine lv_aload_n hx hb dX6_goOn_58 rfl (lv_at hl 4 rfl) ?_
        refine lv_dup hx hb dX6_goOn_59 rfl ?_
        refine gf_X6_89 C0 X hP i2 hi2 dX6_goOn_60 ?_
        refine lv_iconst (v := 1) hx hb dX6_goOn_63 (by decide) ?_
        refine lv_iadd hx hb dX6_goOn_64 ?_
        refine pf_X6_89 C0 X hP hS i2 hi2 dX6_goOn_65 (fun H locs hP hS => ?_)
        refine lv_iload_n hx hb dX6_goOn_68 rfl (lv_at hl 1 rfl) ?_
        refine lv_if_ne (tgt := 80) hx hb dX6_goOn_69 (by decide) (fun _ => ?_) (fun c_41 => absurd c_41 (by decide))
        exact r_vret C0 X hP hS hr hlk dX6_goOn_80 (Option.some.inj h)
    · replace h := it_t h c_24
      refine lv_aload_n hx hb dX6_goOn_32 rfl (lv_at hl 3 rfl) ?_
      refine lv_dup hx hb dX6_goOn_33 rfl ?_
      refine gf_X6_89 C0 X hP i2 hi2 dX6_goOn_34 ?_
      refine lv_iconst (v := 1) hx hb dX6_goOn_37 (by decide) ?_
      refine lv_iadd hx hb dX6_goOn_38 ?_
      refine pf_X6_89 C0 X hP hS i2 hi2 dX6_goOn_39 (fun H locs hP hS => ?_)
      exact r_vret C0 X hP hS hr hlk dX6_goOn_42 (Option.some.inj h)
def bB_cX6_passMinute : Nat := 0xb13400b560043400b42a0900a7030700996b00b42a2a3100b560043100b4592a99ffa70101847d00b62c1b2a09009b5300b42c1000a77a00b62c2a0b00997700b42c12009b5300b42c2600a77400b564047400b4592c10009e7400b42c7100b62c2a0800a33100b42a606e00b42c4700b42c1800a0fe105300b42c4d321b1400b42a6500a22e00b42a1b3c036b00b5032a
theorem yB_cX6_passMinute : BYS cX6_passMinute 145 bB_cX6_passMinute := BYS_of (by decide +kernel)
theorem dX6_passMinute_0 : decode cX6_passMinute 0 = .ok (.aload_n 0, 1) := D_42 yB_cX6_passMinute rfl rfl
theorem dX6_passMinute_1 : decode cX6_passMinute 1 = .ok (.iconst 0, 1) := D_3 yB_cX6_passMinute rfl rfl
theorem dX6_passMinute_2 : decode cX6_passMinute 2 = .ok (.putfield 107, 3) := D_181 yB_cX6_passMinute rfl rfl rfl
theorem dX6_passMinute_5 : decode cX6_passMinute 5 = .ok (.iconst 0, 1) := D_3 yB_cX6_passMinute rfl rfl
theorem dX6_passMinute_6 : decode cX6_passMinute 6 = .ok (.istore_n 1, 1) := D_60 yB_cX6_passMinute rfl rfl
theorem dX6_passMinute_7 : decode cX6_passMinute 7 = .ok (.iload_n 1, 1) := D_27 yB_cX6_passMinute rfl rfl
theorem dX6_passMinute_8 : decode cX6_passMinute 8 = .ok (.aload_n 0, 1) := D_42 yB_cX6_passMinute rfl rfl
theorem dX6_passMinute_9 : decode cX6_passMinute 9 = .ok (.getfield 46, 3) := D_180 yB_cX6_passMinute rfl rfl rfl
theorem dX6_passMinute_12 : decode cX6_passMinute 12 = .ok (.if_icmp .ge 101, 3) := D_162 yB_cX6_passMinute rfl rfl (sg_p (m := 32768) (N := 101) rfl rfl rfl)
theorem dX6_passMinute_15 : decode cX6_passMinute 15 = .ok (.aload_n 0, 1) := D_42 yB_cX6_passMinute rfl rfl
theorem dX6_passMinute_16 : decode cX6_passMinute 16 = .ok (.getfield 20, 3) := D_180 yB_cX6_passMinute rfl rfl rfl
theorem dX6_passMinute_19 : decode cX6_passMinute 19 = .ok (.iload_n 1, 1) := D_27 yB_cX6_passMinute rfl rfl
theorem dX6_passMinute_20 : decode cX6_passMinute 20 = .ok (.aaload, 1) := D_50 yB_cX6_passMinute rfl rfl
theorem dX6_passMinute_21 : decode cX6_passMinute 21 = .ok (.astore_n 2, 1) := D_77 yB_cX6_passMinute rfl rfl
theorem dX6_passMinute_22 : decode cX6_passMinute 22 = .ok (.aload_n 2, 1) := D_44 yB_cX6_passMinute rfl rfl
theorem dX6_passMinute_23 : decode cX6_passMinute 23 = .ok (.getfield 83, 3) := D_180 yB_cX6_passMinute rfl rfl rfl
theorem dX6_passMinute_26 : decode cX6_passMinute 26 = .ok (.bipush (-2), 2) := D_16 yB_cX6_passMinute rfl rfl (sg_n (m := 128) (N := 2) rfl rfl rfl)
theorem dX6_passMinute_28 : decode cX6_passMinute 28 = .ok (.if_icmp .ne 24, 3) := D_160 yB_cX6_passMinute rfl rfl (sg_p (m := 32768) (N := 24) rfl rfl rfl)
theorem dX6_passMinute_31 : decode cX6_passMinute 31 = .ok (.aload_n 2, 1) := D_44 yB_cX6_passMinute rfl rfl
theorem dX6_passMinute_32 : decode cX6_passMinute 32 = .ok (.getfield 71, 3) := D_180 yB_cX6_passMinute rfl rfl rfl
theorem dX6_passMinute_35 : decode cX6_passMinute 35 = .ok (.aload_n 2, 1) := D_44 yB_cX6_passMinute rfl rfl
theorem dX6_passMinute_36 : decode cX6_passMinute 36 = .ok (.getfield 110, 3) := D_180 yB_cX6_passMinute rfl rfl rfl
theorem dX6_passMinute_39 : decode cX6_passMinute 39 = .ok (.iadd, 1) := D_96 yB_cX6_passMinute rfl rfl
theorem dX6_passMinute_40 : decode cX6_passMinute 40 = .ok (.aload_n 0, 1) := D_42 yB_cX6_passMinute rfl rfl
theorem dX6_passMinute_41 : decode cX6_passMinute 41 = .ok (.getfield 49, 3) := D_180 yB_cX6_passMinute rfl rfl rfl
theorem dX6_passMinute_44 : decode cX6_passMinute 44 = .ok (.if_icmp .gt 8, 3) := D_163 yB_cX6_passMinute rfl rfl (sg_p (m := 32768) (N := 8) rfl rfl rfl)
theorem dX6_passMinute_47 : decode cX6_passMinute 47 = .ok (.aload_n 0, 1) := D_42 yB_cX6_passMinute rfl rfl
theorem dX6_passMinute_48 : decode cX6_passMinute 48 = .ok (.aload_n 2, 1) := D_44 yB_cX6_passMinute rfl rfl
theorem dX6_passMinute_49 : decode cX6_passMinute 49 = .ok (.invokevirtual 113, 3) := D_182 yB_cX6_passMinute rfl rfl rfl
theorem dX6_passMinute_52 : decode cX6_passMinute 52 = .ok (.aload_n 2, 1) := D_44 yB_cX6_passMinute rfl rfl
theorem dX6_passMinute_53 : decode cX6_passMinute 53 = .ok (.getfield 116, 3) := D_180 yB_cX6_passMinute rfl rfl rfl
theorem dX6_passMinute_56 : decode cX6_passMinute 56 = .ok (.ifCond .le 16, 3) := D_158 yB_cX6_passMinute rfl rfl (sg_p (m := 32768) (N := 16) rfl rfl rfl)
theorem dX6_passMinute_59 : decode cX6_passMinute 59 = .ok (.aload_n 2, 1) := D_44 yB_cX6_passMinute rfl rfl
theorem dX6_passMinute_60 : decode cX6_passMinute 60 = .ok (.dup, 1) := D_89 yB_cX6_passMinute rfl rfl
theorem dX6_passMinute_61 : decode cX6_passMinute 61 = .ok (.getfield 116, 3) := D_180 yB_cX6_passMinute rfl rfl rfl
theorem dX6_passMinute_64 : decode cX6_passMinute 64 = .ok (.iconst 1, 1) := D_4 yB_cX6_passMinute rfl rfl
theorem dX6_passMinute_65 : decode cX6_passMinute 65 = .ok (.isub, 1) := D_100 yB_cX6_passMinute rfl rfl
theorem dX6_passMinute_66 : decode cX6_passMinute 66 = .ok (.putfield 116, 3) := D_181 yB_cX6_passMinute rfl rfl rfl
theorem dX6_passMinute_69 : decode cX6_passMinute 69 = .ok (.goto 38, 3) := D_167 yB_cX6_passMinute rfl rfl (sg_p (m := 32768) (N := 38) rfl rfl rfl)
theorem dX6_passMinute_72 : decode cX6_passMinute 72 = .ok (.aload_n 2, 1) := D_44 yB_cX6_passMinute rfl rfl
theorem dX6_passMinute_73 : decode cX6_passMinute 73 = .ok (.getfield 83, 3) := D_180 yB_cX6_passMinute rfl rfl rfl
theorem dX6_passMinute_76 : decode cX6_passMinute 76 = .ok (.ifCond .lt 18, 3) := D_155 yB_cX6_passMinute rfl rfl (sg_p (m := 32768) (N := 18) rfl rfl rfl)
theorem dX6_passMinute_79 : decode cX6_passMinute 79 = .ok (.aload_n 2, 1) := D_44 yB_cX6_passMinute rfl rfl
theorem dX6_passMinute_80 : decode cX6_passMinute 80 = .ok (.getfield 119, 3) := D_180 yB_cX6_passMinute rfl rfl rfl
theorem dX6_passMinute_83 : decode cX6_passMinute 83 = .ok (.ifCond .eq 11, 3) := D_153 yB_cX6_passMinute rfl rfl (sg_p (m := 32768) (N := 11) rfl rfl rfl)
theorem dX6_passMinute_86 : decode cX6_passMinute 86 = .ok (.aload_n 0, 1) := D_42 yB_cX6_passMinute rfl rfl
theorem dX6_passMinute_87 : decode cX6_passMinute 87 = .ok (.aload_n 2, 1) := D_44 yB_cX6_passMinute rfl rfl
theorem dX6_passMinute_88 : decode cX6_passMinute 88 = .ok (.invokevirtual 122, 3) := D_182 yB_cX6_passMinute rfl rfl rfl
theorem dX6_passMinute_91 : decode cX6_passMinute 91 = .ok (.goto 16, 3) := D_167 yB_cX6_passMinute rfl rfl (sg_p (m := 32768) (N := 16) rfl rfl rfl)
theorem dX6_passMinute_94 : decode cX6_passMinute 94 = .ok (.aload_n 2, 1) := D_44 yB_cX6_passMinute rfl rfl
theorem dX6_passMinute_95 : decode cX6_passMinute 95 = .ok (.getfield 83, 3) := D_180 yB_cX6_passMinute rfl rfl rfl
theorem dX6_passMinute_98 : decode cX6_passMinute 98 = .ok (.ifCond .lt 9, 3) := D_155 yB_cX6_passMinute rfl rfl (sg_p (m := 32768) (N := 9) rfl rfl rfl)
theorem dX6_passMinute_101 : decode cX6_passMinute 101 = .ok (.aload_n 0, 1) := D_42 yB_cX6_passMinute rfl rfl
theorem dX6_passMinute_102 : decode cX6_passMinute 102 = .ok (.iload_n 1, 1) := D_27 yB_cX6_passMinute rfl rfl
theorem dX6_passMinute_103 : decode cX6_passMinute 103 = .ok (.aload_n 2, 1) := D_44 yB_cX6_passMinute rfl rfl
theorem dX6_passMinute_104 : decode cX6_passMinute 104 = .ok (.invokevirtual 125, 3) := D_182 yB_cX6_passMinute rfl rfl rfl
theorem dX6_passMinute_107 : decode cX6_passMinute 107 = .ok (.iinc 1 1, 3) := D_132 yB_cX6_passMinute rfl rfl rfl (sg_p (m := 128) (N := 1) rfl rfl rfl)
theorem dX6_passMinute_110 : decode cX6_passMinute 110 = .ok (.goto (-103), 3) := D_167 yB_cX6_passMinute rfl rfl (sg_n (m := 32768) (N := 103) rfl rfl rfl)
theorem dX6_passMinute_113 : decode cX6_passMinute 113 = .ok (.aload_n 0, 1) := D_42 yB_cX6_passMinute rfl rfl
theorem dX6_passMinute_114 : decode cX6_passMinute 114 = .ok (.dup, 1) := D_89 yB_cX6_passMinute rfl rfl
theorem dX6_passMinute_115 : decode cX6_passMinute 115 = .ok (.getfield 49, 3) := D_180 yB_cX6_passMinute rfl rfl rfl
theorem dX6_passMinute_118 : decode cX6_passMinute 118 = .ok (.iconst 1, 1) := D_4 yB_cX6_passMinute rfl rfl
theorem dX6_passMinute_119 : decode cX6_passMinute 119 = .ok (.iadd, 1) := D_96 yB_cX6_passMinute rfl rfl
theorem dX6_passMinute_120 : decode cX6_passMinute 120 = .ok (.putfield 49, 3) := D_181 yB_cX6_passMinute rfl rfl rfl
theorem dX6_passMinute_123 : decode cX6_passMinute 123 = .ok (.aload_n 0, 1) := D_42 yB_cX6_passMinute rfl rfl
theorem dX6_passMinute_124 : decode cX6_passMinute 124 = .ok (.aload_n 0, 1) := D_42 yB_cX6_passMinute rfl rfl
theorem dX6_passMinute_125 : decode cX6_passMinute 125 = .ok (.getfield 107, 3) := D_180 yB_cX6_passMinute rfl rfl rfl
theorem dX6_passMinute_128 : decode cX6_passMinute 128 = .ok (.ifCond .eq 7, 3) := D_153 yB_cX6_passMinute rfl rfl (sg_p (m := 32768) (N := 7) rfl rfl rfl)
theorem dX6_passMinute_131 : decode cX6_passMinute 131 = .ok (.iconst 0, 1) := D_3 yB_cX6_passMinute rfl rfl
theorem dX6_passMinute_132 : decode cX6_passMinute 132 = .ok (.goto 9, 3) := D_167 yB_cX6_passMinute rfl rfl (sg_p (m := 32768) (N := 9) rfl rfl rfl)
theorem dX6_passMinute_135 : decode cX6_passMinute 135 = .ok (.aload_n 0, 1) := D_42 yB_cX6_passMinute rfl rfl
theorem dX6_passMinute_136 : decode cX6_passMinute 136 = .ok (.getfield 52, 3) := D_180 yB_cX6_passMinute rfl rfl rfl
theorem dX6_passMinute_139 : decode cX6_passMinute 139 = .ok (.iconst 1, 1) := D_4 yB_cX6_passMinute rfl rfl
theorem dX6_passMinute_140 : decode cX6_passMinute 140 = .ok (.iadd, 1) := D_96 yB_cX6_passMinute rfl rfl
theorem dX6_passMinute_141 : decode cX6_passMinute 141 = .ok (.putfield 52, 3) := D_181 yB_cX6_passMinute rfl rfl rfl
theorem dX6_passMinute_144 : decode cX6_passMinute 144 = .ok (.return_, 1) := D_177 yB_cX6_passMinute rfl rfl
def F_X6_passMinute_7 (t : Nat)  : Nat → Mem → Int32 → Option (Mem)
  | 0, _, _ => none
  | nn + 1, σ, v1 => if (σ (22 * t) 2) ≤ v1 then (if ((stm σ (22 * t) 3 ((σ (22 * t) 3) + 1)) (22 * t) 6) = 0 then (some (stm (stm σ (22 * t) 3 ((σ (22 * t) 3) + 1)) (22 * t) 4 (((stm σ (22 * t) 3 ((σ (22 * t) 3) + 1)) (22 * t) 4) + 1))) else (some (stm (stm σ (22 * t) 3 ((σ (22 * t) 3) + 1)) (22 * t) 4 0))) else ((ix 7 v1).bind fun k_4 => if (σ (22 * t + 15 + k_4) 6) = (-2) then (if (σ (22 * t) 3) < ((σ (22 * t + 15 + k_4) 2) + (σ (22 * t + 15 + k_4) 5)) then (if (σ (22 * t + 15 + k_4) 9) ≤ 0 then (if (σ (22 * t + 15 + k_4) 6) < 0 then (if (σ (22 * t + 15 + k_4) 6) < 0 then (F_X6_passMinute_7 t nn σ (v1 + 1)) else ((F_X6_goOn σ t v1 (22 * t + 15 + k_4)).bind fun σ_18 => F_X6_passMinute_7 t nn σ_18 (v1 + 1))) else (if (σ (22 * t + 15 + k_4) 7) = 0 then (if (σ (22 * t + 15 + k_4) 6) < 0 then (F_X6_passMinute_7 t nn σ (v1 + 1)) else ((F_X6_goOn σ t v1 (22 * t + 15 + k_4)).bind fun σ_21 => F_X6_passMinute_7 t nn σ_21 (v1 + 1))) else ((F_X6_backUp σ t (22 * t + 15 + k_4)).bind fun σ_22 => F_X6_passMinute_7 t nn σ_22 (v1 + 1)))) else (F_X6_passMinute_7 t nn (stm σ (22 * t + 15 + k_4) 9 ((σ (22 * t + 15 + k_4) 9) - 1)) (v1 + 1))) else ((F_X6_comeOn σ t (22 * t + 15 + k_4)).bind fun σ_23 => if (σ_23 (22 * t + 15 + k_4) 9) ≤ 0 then (if (σ_23 (22 * t + 15 + k_4) 6) < 0 then (if (σ_23 (22 * t + 15 + k_4) 6) < 0 then (F_X6_passMinute_7 t nn σ_23 (v1 + 1)) else ((F_X6_goOn σ_23 t v1 (22 * t + 15 + k_4)).bind fun σ_27 => F_X6_passMinute_7 t nn σ_27 (v1 + 1))) else (if (σ_23 (22 * t + 15 + k_4) 7) = 0 then (if (σ_23 (22 * t + 15 + k_4) 6) < 0 then (F_X6_passMinute_7 t nn σ_23 (v1 + 1)) else ((F_X6_goOn σ_23 t v1 (22 * t + 15 + k_4)).bind fun σ_30 => F_X6_passMinute_7 t nn σ_30 (v1 + 1))) else ((F_X6_backUp σ_23 t (22 * t + 15 + k_4)).bind fun σ_31 => F_X6_passMinute_7 t nn σ_31 (v1 + 1)))) else (F_X6_passMinute_7 t nn (stm σ_23 (22 * t + 15 + k_4) 9 ((σ_23 (22 * t + 15 + k_4) 9) - 1)) (v1 + 1)))) else (if (σ (22 * t + 15 + k_4) 9) ≤ 0 then (if (σ (22 * t + 15 + k_4) 6) < 0 then (if (σ (22 * t + 15 + k_4) 6) < 0 then (F_X6_passMinute_7 t nn σ (v1 + 1)) else ((F_X6_goOn σ t v1 (22 * t + 15 + k_4)).bind fun σ_9 => F_X6_passMinute_7 t nn σ_9 (v1 + 1))) else (if (σ (22 * t + 15 + k_4) 7) = 0 then (if (σ (22 * t + 15 + k_4) 6) < 0 then (F_X6_passMinute_7 t nn σ (v1 + 1)) else ((F_X6_goOn σ t v1 (22 * t + 15 + k_4)).bind fun σ_12 => F_X6_passMinute_7 t nn σ_12 (v1 + 1))) else ((F_X6_backUp σ t (22 * t + 15 + k_4)).bind fun σ_13 => F_X6_passMinute_7 t nn σ_13 (v1 + 1)))) else (F_X6_passMinute_7 t nn (stm σ (22 * t + 15 + k_4) 9 ((σ (22 * t + 15 + k_4) 9) - 1)) (v1 + 1))))
def F_X6_passMinute (σ : Mem) (t : Nat) : Option (Mem) := F_X6_passMinute_7 t FU (stm σ (22 * t) 6 0) 0
set_option maxHeartbeats 4000000 in
set_option maxRecDepth 100000 in
theorem c_X6_passMinute (l : Launch) (D : va_G) (cA : Nat → ClassId) (ad : Nat → Nat) (o : Int64) (σ : Mem) (t : Nat) (ht : t < 3) (res : Mem) (h : F_X6_passMinute σ t = some res) (sz : Nat) : Met l yX6_passMinute (WY yX6_passMinute cX6_passMinute 3 none) (RM 4) (va_Pc [.ref (ad (22 * t))] (PW D cA ad o σ sz)) (va_Qv (fun σ9 => σ9 = res) (QW D cA ad o) (FA ad sz)) 0 0 (FA ad sz) := by
  refine ct_of (own := RX6) (k := 4) (Qf := va_Qv (fun σ9 => σ9 = res) (QW D cA ad o)) rfl (by decide) (Nat.le_of_ble_eq_true rfl) (fun p e s m below meth c ls C0 X hr hlk hP hl => ?_) sz
  have hS : va_S (FA ad s.heap.size) s.heap s.heap [] := va_S.rf
  have hl : lv_has ls 3 [(0, .ref (ad (22 * t)))] := hl
  obtain ⟨hx, hb, hml, hown, hts⟩ := id C0
  unfold F_X6_passMinute at h
  refine lv_aload_n hx hb dX6_passMinute_0 rfl (lv_at hl 0 rfl) ?_
  refine lv_iconst (v := 0) hx hb dX6_passMinute_1 (by decide) ?_
  refine pf_X6_107 C0 X hP hS (22 * t) (Or.inl rfl) (kdT t ht) dX6_passMinute_2 (fun H locs hP hS => ?_)
  refine lv_iconst (v := 0) hx hb dX6_passMinute_5 (by decide) ?_
  refine lv_istore_n (lv' := [(1, .int 0), (0, .ref (ad (22 * t)))]) hx hb dX6_passMinute_6 rfl hl (by decide) rfl (fun ls hl => ?_)
  have lp_1 : ∀ (nn7 : Nat) (σ : Mem) (v1 : Int32) (H : Heap) (locs : List Loc) (ls : Array Slot), F_X6_passMinute_7 t nn7 σ v1 = some res → WP D cA ad o σ H → va_S (FA ad s.heap.size) s.heap H locs → lv_has ls 3 [(1, .int v1), (0, .ref (ad (22 * t)))] → W p l e (RM 4) s m ([.ref (ad (22 * t))] : List Value).toArray below meth c H locs 0 0 (MQ below (va_Qv (fun σ9 => σ9 = res) (QW D cA ad o) (FA ad s.heap.size)) ([.ref (ad (22 * t))] : List Value).toArray s 0 0 (FA ad s.heap.size)) (F0 m 7 ls []) := by
    intro nn7
    induction nn7 with
    | zero => intro σ v1 H locs ls h hP hS hl; exact absurd (show none = some res from h) nofun
    | succ nn7 ih7 =>
      intro σ v1 H locs ls h hP hS hl
      replace h := (F_X6_passMinute_7.eq_2 _ _ _ _).symm.trans h
      refine lv_iload_n hx hb dX6_passMinute_7 rfl (lv_at hl 0 rfl) ?_
      refine lv_aload_n hx hb dX6_passMinute_8 rfl (lv_at hl 1 rfl) ?_
      refine gf_X6_46 C0 X hP (22 * t) (kdT t ht) dX6_passMinute_9 ?_
      refine lv_icmp_ge (tgt := 113) hx hb dX6_passMinute_12 (by decide) (fun c_2 => ?_) (fun c_2 => ?_)
      · replace h := it_t h c_2
        refine lv_aload_n hx hb dX6_passMinute_113 rfl (lv_at hl 1 rfl) ?_
        refine lv_dup hx hb dX6_passMinute_114 rfl ?_
        refine gf_X6_49 C0 X hP (22 * t) (kdT t ht) dX6_passMinute_115 ?_
        refine lv_iconst (v := 1) hx hb dX6_passMinute_118 (by decide) ?_
        refine lv_iadd hx hb dX6_passMinute_119 ?_
        refine pf_X6_49 C0 X hP hS (22 * t) (kdT t ht) dX6_passMinute_120 (fun H locs hP hS => ?_)
        refine lv_aload_n hx hb dX6_passMinute_123 rfl (lv_at hl 1 rfl) ?_
        refine lv_aload_n hx hb dX6_passMinute_124 rfl (lv_at hl 1 rfl) ?_
        refine gf_X6_107 C0 X hP (22 * t) (kdT t ht) dX6_passMinute_125 ?_
        refine lv_if_eq (tgt := 135) hx hb dX6_passMinute_128 (by decide) (fun c_3 => ?_) (fun c_3 => ?_)
        · replace h := it_t h c_3
          refine lv_aload_n hx hb dX6_passMinute_135 rfl (lv_at hl 1 rfl) ?_
          refine gf_X6_52 C0 X hP (22 * t) (kdT t ht) dX6_passMinute_136 ?_
          refine lv_iconst (v := 1) hx hb dX6_passMinute_139 (by decide) ?_
          refine lv_iadd hx hb dX6_passMinute_140 ?_
          refine pf_X6_52 C0 X hP hS (22 * t) (kdT t ht) dX6_passMinute_141 (fun H locs hP hS => ?_)
          exact r_vret C0 X hP hS hr hlk dX6_passMinute_144 (Option.some.inj h)
        · replace h := it_f h c_3
          refine lv_iconst (v := 0) hx hb dX6_passMinute_131 (by decide) ?_
          refine lv_goto (tgt := 141) hx hb dX6_passMinute_132 (by decide) ?_
          refine pf_X6_52 C0 X hP hS (22 * t) (kdT t ht) dX6_passMinute_141 (fun H locs hP hS => ?_)
          exact r_vret C0 X hP hS hr hlk dX6_passMinute_144 (Option.some.inj h)
      · replace h := it_f h c_2
        refine lv_aload_n hx hb dX6_passMinute_15 rfl (lv_at hl 1 rfl) ?_
        refine gf_X6_20 C0 X hP (22 * t) (q := (22 * t + 13)) (kdT t ht) (by omega) (lkT1 t ht) dX6_passMinute_16 ?_
        refine lv_iload_n hx hb dX6_passMinute_19 rfl (lv_at hl 0 rfl) ?_
        obtain ⟨k_4, ek_4, h⟩ := bnd h
        replace ek_4 := ix_s ek_4 (by decide)
        refine r_aaldCN C0 X hP (22 * t + 13) (k := k_4) (q := (22 * t + 15 + k_4)) (kdCA t ht) ek_4.1 ek_4.2 (lkCA t ht k_4 ek_4.2) dX6_passMinute_20 ?_
        refine lv_astore_n (lv' := [(2, .ref (ad (22 * t + 15 + k_4))), (1, .int v1), (0, .ref (ad (22 * t)))]) hx hb dX6_passMinute_21 rfl hl (by decide) rfl (fun ls hl => ?_)
        refine lv_aload_n hx hb dX6_passMinute_22 rfl (lv_at hl 0 rfl) ?_
        refine gf_X6_83 C0 X hP (22 * t + 15 + k_4) (kdC t ht k_4 ek_4.2) dX6_passMinute_23 ?_
        refine lv_bipush (v := (-2)) hx hb dX6_passMinute_26 (by decide) ?_
        refine lv_icmp_ne (tgt := 52) hx hb dX6_passMinute_28 (by decide) (fun c_5 => ?_) (fun c_5 => ?_)
        · replace h := it_f h c_5
          refine lv_aload_n hx hb dX6_passMinute_52 rfl (lv_at hl 0 rfl) ?_
          refine gf_X6_116 C0 X hP (22 * t + 15 + k_4) (kdC t ht k_4 ek_4.2) dX6_passMinute_53 ?_
          refine lv_if_le (tgt := 72) hx hb dX6_passMinute_56 (by decide) (fun c_6 => ?_) (fun c_6 => ?_)
          · replace h := it_t h c_6
            refine lv_aload_n hx hb dX6_passMinute_72 rfl (lv_at hl 0 rfl) ?_
            refine gf_X6_83 C0 X hP (22 * t + 15 + k_4) (kdC t ht k_4 ek_4.2) dX6_passMinute_73 ?_
            refine lv_if_lt (tgt := 94) hx hb dX6_passMinute_76 (by decide) (fun c_7 => ?_) (fun c_7 => ?_)
            · replace h := it_t h c_7
              refine lv_aload_n hx hb dX6_passMinute_94 rfl (lv_at hl 0 rfl) ?_
              refine gf_X6_83 C0 X hP (22 * t + 15 + k_4) (kdC t ht k_4 ek_4.2) dX6_passMinute_95 ?_
              refine lv_if_lt (tgt := 107) hx hb dX6_passMinute_98 (by decide) (fun c_8 => ?_) (fun c_8 => ?_)
              · replace h := it_t h c_8
                refine lv_iinc (v := (v1 + 1)) (lv' := [(1, .int (v1 + 1)), (2, .ref (ad (22 * t + 15 + k_4))), (0, .ref (ad (22 * t)))]) hx hb dX6_passMinute_107 hl (k := 1) rfl rfl (by decide) rfl (fun ls hl => ?_)
                refine lv_goto (tgt := 7) hx hb dX6_passMinute_110 (by decide) ?_
                exact ih7 σ (v1 + 1) _ _ ls  h hP hS (lv_sub hl [0, 2] rfl)
              · replace h := it_f h c_8
                refine lv_aload_n hx hb dX6_passMinute_101 rfl (lv_at hl 2 rfl) ?_
                refine lv_iload_n hx hb dX6_passMinute_102 rfl (lv_at hl 1 rfl) ?_
                refine lv_aload_n hx hb dX6_passMinute_103 rfl (lv_at hl 0 rfl) ?_
                obtain ⟨σ_9, eσ_9, h⟩ := bnd h
                refine r_cv X hS (r_runV (As := [.int v1, .ref (ad (22 * t + 15 + k_4))]) (rest := []) C0 X hP L_X6_125 (fun sz => c_X6_goOn l D cA ad o σ t v1 (22 * t + 15 + k_4) ht (kdC t ht k_4 ek_4.2) σ_9 eσ_9 sz) (kdT t ht).1 (kdT t ht).2 (by decide) rfl ⟨Nat.le_of_ble_eq_true rfl, Nat.le_of_ble_eq_true rfl⟩ rfl hl.1 rfl (Nat.le_of_ble_eq_true rfl) dX6_passMinute_104 ⟨Nat.zero_le _, Nat.zero_le _⟩) (fun σ9 H locs hw hP hS => ?_)
                rw [show σ9 = σ_9 from hw] at hP
                refine lv_iinc (v := (v1 + 1)) (lv' := [(1, .int (v1 + 1)), (2, .ref (ad (22 * t + 15 + k_4))), (0, .ref (ad (22 * t)))]) hx hb dX6_passMinute_107 hl (k := 1) rfl rfl (by decide) rfl (fun ls hl => ?_)
                refine lv_goto (tgt := 7) hx hb dX6_passMinute_110 (by decide) ?_
                exact ih7 σ_9 (v1 + 1) _ _ ls  h hP hS (lv_sub hl [0, 2] rfl)
            · replace h := it_f h c_7
              refine lv_aload_n hx hb dX6_passMinute_79 rfl (lv_at hl 0 rfl) ?_
              refine gf_X6_119 C0 X hP (22 * t + 15 + k_4) (kdC t ht k_4 ek_4.2) dX6_passMinute_80 ?_
              refine lv_if_eq (tgt := 94) hx hb dX6_passMinute_83 (by decide) (fun c_10 => ?_) (fun c_10 => ?_)
              · replace h := it_t h c_10
                refine lv_aload_n hx hb dX6_passMinute_94 rfl (lv_at hl 0 rfl) ?_
                refine gf_X6_83 C0 X hP (22 * t + 15 + k_4) (kdC t ht k_4 ek_4.2) dX6_passMinute_95 ?_
                refine lv_if_lt (tgt := 107) hx hb dX6_passMinute_98 (by decide) (fun c_11 => ?_) (fun c_11 => ?_)
                · replace h := it_t h c_11
                  refine lv_iinc (v := (v1 + 1)) (lv' := [(1, .int (v1 + 1)), (2, .ref (ad (22 * t + 15 + k_4))), (0, .ref (ad (22 * t)))]) hx hb dX6_passMinute_107 hl (k := 1) rfl rfl (by decide) rfl (fun ls hl => ?_)
                  refine lv_goto (tgt := 7) hx hb dX6_passMinute_110 (by decide) ?_
                  exact ih7 σ (v1 + 1) _ _ ls  h hP hS (lv_sub hl [0, 2] rfl)
                · replace h := it_f h c_11
                  refine lv_aload_n hx hb dX6_passMinute_101 rfl (lv_at hl 2 rfl) ?_
                  refine lv_iload_n hx hb dX6_passMinute_102 rfl (lv_at hl 1 rfl) ?_
                  refine lv_aload_n hx hb dX6_passMinute_103 rfl (lv_at hl 0 rfl) ?_
                  obtain ⟨σ_12, eσ_12, h⟩ := bnd h
                  refine r_cv X hS (r_runV (As := [.int v1, .ref (ad (22 * t + 15 + k_4))]) (rest := []) C0 X hP L_X6_125 (fun sz => c_X6_goOn l D cA ad o σ t v1 (22 * t + 15 + k_4) ht (kdC t ht k_4 ek_4.2) σ_12 eσ_12 sz) (kdT t ht).1 (kdT t ht).2 (by decide) rfl ⟨Nat.le_of_ble_eq_true rfl, Nat.le_of_ble_eq_true rfl⟩ rfl hl.1 rfl (Nat.le_of_ble_eq_true rfl) dX6_passMinute_104 ⟨Nat.zero_le _, Nat.zero_le _⟩) (fun σ9 H locs hw hP hS => ?_)
                  rw [show σ9 = σ_12 from hw] at hP
                  refine lv_iinc (v := (v1 + 1)) (lv' := [(1, .int (v1 + 1)), (2, .ref (ad (22 * t + 15 + k_4))), (0, .ref (ad (22 * t)))]) hx hb dX6_passMinute_107 hl (k := 1) rfl rfl (by decide) rfl (fun ls hl => ?_)
                  refine lv_goto (tgt := 7) hx hb dX6_passMinute_110 (by decide) ?_
                  exact ih7 σ_12 (v1 + 1) _ _ ls  h hP hS (lv_sub hl [0, 2] rfl)
              · replace h := it_f h c_10
                refine lv_aload_n hx hb dX6_passMinute_86 rfl (lv_at hl 2 rfl) ?_
                refine lv_aload_n hx hb dX6_passMinute_87 rfl (lv_at hl 0 rfl) ?_
                obtain ⟨σ_13, eσ_13, h⟩ := bnd h
                refine r_cv X hS (r_runV (As := [.ref (ad (22 * t + 15 + k_4))]) (rest := []) C0 X hP L_X6_122 (fun sz => c_X6_backUp l D cA ad o σ t (22 * t + 15 + k_4) ht (kdC t ht k_4 ek_4.2) σ_13 eσ_13 sz) (kdT t ht).1 (kdT t ht).2 (by decide) rfl ⟨Nat.le_of_ble_eq_true rfl, Nat.le_of_ble_eq_true rfl⟩ rfl hl.1 rfl (Nat.le_of_ble_eq_true rfl) dX6_passMinute_88 ⟨Nat.zero_le _, Nat.zero_le _⟩) (fun σ9 H locs hw hP hS => ?_)
                rw [show σ9 = σ_13 from hw] at hP
                refine lv_goto (tgt := 107) hx hb dX6_passMinute_91 (by decide) ?_
                refine lv_iinc (v := (v1 + 1)) (lv' := [(1, .int (v1 + 1)), (2, .ref (ad (22 * t + 15 + k_4))), (0, .ref (ad (22 * t)))]) hx hb dX6_passMinute_107 hl (k := 1) rfl rfl (by decide) rfl (fun ls hl => ?_)
                refine lv_goto (tgt := 7) hx hb dX6_passMinute_110 (by decide) ?_
                exact ih7 σ_13 (v1 + 1) _ _ ls  h hP hS (lv_sub hl [0, 2] rfl)
          · replace h := it_f h c_6
            refine lv_aload_n hx hb dX6_passMinute_59 rfl (lv_at hl 0 rfl) ?_
            refine lv_dup hx hb dX6_passMinute_60 rfl ?_
            refine gf_X6_116 C0 X hP (22 * t + 15 + k_4) (kdC t ht k_4 ek_4.2) dX6_passMinute_61 ?_
            refine lv_iconst (v := 1) hx hb dX6_passMinute_64 (by decide) ?_
            refine lv_isub hx hb dX6_passMinute_65 ?_
            refine pf_X6_116 C0 X hP hS (22 * t + 15 + k_4) (kdC t ht k_4 ek_4.2) dX6_passMinute_66 (fun H locs hP hS => ?_)
            refine lv_goto (tgt := 107) hx hb dX6_passMinute_69 (by decide) ?_
            refine lv_iinc (v := (v1 + 1)) (lv' := [(1, .int (v1 + 1)), (2, .ref (ad (22 * t + 15 + k_4))), (0, .ref (ad (22 * t)))]) hx hb dX6_passMinute_107 hl (k := 1) rfl rfl (by decide) rfl (fun ls hl => ?_)
            refine lv_goto (tgt := 7) hx hb dX6_passMinute_110 (by decide) ?_
            exact ih7 (stm σ (22 * t + 15 + k_4) 9 ((σ (22 * t + 15 + k_4) 9) - 1)) (v1 + 1) _ _ ls  h hP hS (lv_sub hl [0, 2] rfl)
        · replace h := it_t h c_5
          refine lv_aload_n hx hb dX6_passMinute_31 rfl (lv_at hl 0 rfl) ?_
          refine gf_X6_71 C0 X hP (22 * t + 15 + k_4) (kdC t ht k_4 ek_4.2) dX6_passMinute_32 ?_
          refine lv_aload_n hx hb dX6_passMinute_35 rfl (lv_at hl 0 rfl) ?_
          refine gf_X6_110 C0 X hP (22 * t + 15 + k_4) (kdC t ht k_4 ek_4.2) dX6_passMinute_36 ?_
          refine lv_iadd hx hb dX6_passMinute_39 ?_
          refine lv_aload_n hx hb dX6_passMinute_40 rfl (lv_at hl 2 rfl) ?_
          refine gf_X6_49 C0 X hP (22 * t) (kdT t ht) dX6_passMinute_41 ?_
          refine lv_icmp_gt (tgt := 52) hx hb dX6_passMinute_44 (by decide) (fun c_14 => ?_) (fun c_14 => ?_)
          · replace h := it_t h c_14
            refine lv_aload_n hx hb dX6_passMinute_52 rfl (lv_at hl 0 rfl) ?_
            refine gf_X6_116 C0 X hP (22 * t + 15 + k_4) (kdC t ht k_4 ek_4.2) dX6_passMinute_53 ?_
            refine lv_if_le (tgt := 72) hx hb dX6_passMinute_56 (by decide) (fun c_15 => ?_) (fun c_15 => ?_)
            · replace h := it_t h c_15
              refine lv_aload_n hx hb dX6_passMinute_72 rfl (lv_at hl 0 rfl) ?_
              refine gf_X6_83 C0 X hP (22 * t + 15 + k_4) (kdC t ht k_4 ek_4.2) dX6_passMinute_73 ?_
              refine lv_if_lt (tgt := 94) hx hb dX6_passMinute_76 (by decide) (fun c_16 => ?_) (fun c_16 => ?_)
              · replace h := it_t h c_16
                refine lv_aload_n hx hb dX6_passMinute_94 rfl (lv_at hl 0 rfl) ?_
                refine gf_X6_83 C0 X hP (22 * t + 15 + k_4) (kdC t ht k_4 ek_4.2) dX6_passMinute_95 ?_
                refine lv_if_lt (tgt := 107) hx hb dX6_passMinute_98 (by decide) (fun c_17 => ?_) (fun c_17 => ?_)
                · replace h := it_t h c_17
                  refine lv_iinc (v := (v1 + 1)) (lv' := [(1, .int (v1 + 1)), (2, .ref (ad (22 * t + 15 + k_4))), (0, .ref (ad (22 * t)))]) hx hb dX6_passMinute_107 hl (k := 1) rfl rfl (by decide) rfl (fun ls hl => ?_)
                  refine lv_goto (tgt := 7) hx hb dX6_passMinute_110 (by decide) ?_
                  exact ih7 σ (v1 + 1) _ _ ls  h hP hS (lv_sub hl [0, 2] rfl)
                · replace h := it_f h c_17
                  refine lv_aload_n hx hb dX6_passMinute_101 rfl (lv_at hl 2 rfl) ?_
                  refine lv_iload_n hx hb dX6_passMinute_102 rfl (lv_at hl 1 rfl) ?_
                  refine lv_aload_n hx hb dX6_passMinute_103 rfl (lv_at hl 0 rfl) ?_
                  obtain ⟨σ_18, eσ_18, h⟩ := bnd h
                  refine r_cv X hS (r_runV (As := [.int v1, .ref (ad (22 * t + 15 + k_4))]) (rest := []) C0 X hP L_X6_125 (fun sz => c_X6_goOn l D cA ad o σ t v1 (22 * t + 15 + k_4) ht (kdC t ht k_4 ek_4.2) σ_18 eσ_18 sz) (kdT t ht).1 (kdT t ht).2 (by decide) rfl ⟨Nat.le_of_ble_eq_true rfl, Nat.le_of_ble_eq_true rfl⟩ rfl hl.1 rfl (Nat.le_of_ble_eq_true rfl) dX6_passMinute_104 ⟨Nat.zero_le _, Nat.zero_le _⟩) (fun σ9 H locs hw hP hS => ?_)
                  rw [show σ9 = σ_18 from hw] at hP
                  refine lv_iinc (v := (v1 + 1)) (lv' := [(1, .int (v1 + 1)), (2, .ref (ad (22 * t + 15 + k_4))), (0, .ref (ad (22 * t)))]) hx hb dX6_passMinute_107 hl (k := 1) rfl rfl (by decide) rfl (fun ls hl => ?_)
                  refine lv_goto (tgt := 7) hx hb dX6_passMinute_110 (by decide) ?_
                  exact ih7 σ_18 (v1 + 1) _ _ ls  h hP hS (lv_sub hl [0, 2] rfl)
              · replace h := it_f h c_16
                refine lv_aload_n hx hb dX6_passMinute_79 rfl (lv_at hl 0 rfl) ?_
                refine gf_X6_119 C0 X hP (22 * t + 15 + k_4) (kdC t ht k_4 ek_4.2) dX6_passMinute_80 ?_
                refine lv_if_eq (tgt := 94) hx hb dX6_passMinute_83 (by decide) (fun c_19 => ?_) (fun c_19 => ?_)
                · replace h := it_t h c_19
                  refine lv_aload_n hx hb dX6_passMinute_94 rfl (lv_at hl 0 rfl) ?_
                  refine gf_X6_83 C0 X hP (22 * t + 15 + k_4) (kdC t ht k_4 ek_4.2) dX6_passMinute_95 ?_
                  refine lv_if_lt (tgt := 107) hx hb dX6_passMinute_98 (by decide) (fun c_20 => ?_) (fun c_20 => ?_)
                  · replace h := it_t h c_20
                    refine lv_iinc (v := (v1 + 1)) (lv' := [(1, .int (v1 + 1)), (2, .ref (ad (22 * t + 15 + k_4))), (0, .ref (ad (22 * t)))]) hx hb dX6_passMinute_107 hl (k := 1) rfl rfl (by decide) rfl (fun ls hl => ?_)
                    refine lv_goto (tgt := 7) hx hb dX6_passMinute_110 (by decide) ?_
                    exact ih7 σ (v1 + 1) _ _ ls  h hP hS (lv_sub hl [0, 2] rfl)
                  · replace h := it_f h c_20
                    refine lv_aload_n hx hb dX6_passMinute_101 rfl (lv_at hl 2 rfl) ?_
                    refine lv_iload_n hx hb dX6_passMinute_102 rfl (lv_at hl 1 rfl) ?_
                    refine lv_aload_n hx hb dX6_passMinute_103 rfl (lv_at hl 0 rfl) ?_
                    obtain ⟨σ_21, eσ_21, h⟩ := bnd h
                    refine r_cv X hS (r_runV (As := [.int v1, .ref (ad (22 * t + 15 + k_4))]) (rest := []) C0 X hP L_X6_125 (fun sz => c_X6_goOn l D cA ad o σ t v1 (22 * t + 15 + k_4) ht (kdC t ht k_4 ek_4.2) σ_21 eσ_21 sz) (kdT t ht).1 (kdT t ht).2 (by decide) rfl ⟨Nat.le_of_ble_eq_true rfl, Nat.le_of_ble_eq_true rfl⟩ rfl hl.1 rfl (Nat.le_of_ble_eq_true rfl) dX6_passMinute_104 ⟨Nat.zero_le _, Nat.zero_le _⟩) (fun σ9 H locs hw hP hS => ?_)
                    rw [show σ9 = σ_21 from hw] at hP
                    refine lv_iinc (v := (v1 + 1)) (lv' := [(1, .int (v1 + 1)), (2, .ref (ad (22 * t + 15 + k_4))), (0, .ref (ad (22 * t)))]) hx hb dX6_passMinute_107 hl (k := 1) rfl rfl (by decide) rfl (fun ls hl => ?_)
                    refine lv_goto (tgt := 7) hx hb dX6_passMinute_110 (by decide) ?_
                    exact ih7 σ_21 (v1 + 1) _ _ ls  h hP hS (lv_sub hl [0, 2] rfl)
                · replace h := it_f h c_19
                  refine lv_aload_n hx hb dX6_passMinute_86 rfl (lv_at hl 2 rfl) ?_
                  refine lv_aload_n hx hb dX6_passMinute_87 rfl (lv_at hl 0 rfl) ?_
                  obtain ⟨σ_22, eσ_22, h⟩ := bnd h
                  refine r_cv X hS (r_runV (As := [.ref (ad (22 * t + 15 + k_4))]) (rest := []) C0 X hP L_X6_122 (fun sz => c_X6_backUp l D cA ad o σ t (22 * t + 15 + k_4) ht (kdC t ht k_4 ek_4.2) σ_22 eσ_22 sz) (kdT t ht).1 (kdT t ht).2 (by decide) rfl ⟨Nat.le_of_ble_eq_true rfl, Nat.le_of_ble_eq_true rfl⟩ rfl hl.1 rfl (Nat.le_of_ble_eq_true rfl) dX6_passMinute_88 ⟨Nat.zero_le _, Nat.zero_le _⟩) (fun σ9 H locs hw hP hS => ?_)
                  rw [show σ9 = σ_22 from hw] at hP
                  refine lv_goto (tgt := 107) hx hb dX6_passMinute_91 (by decide) ?_
                  refine lv_iinc (v := (v1 + 1)) (lv' := [(1, .int (v1 + 1)), (2, .ref (ad (22 * t + 15 + k_4))), (0, .ref (ad (22 * t)))]) hx hb dX6_passMinute_107 hl (k := 1) rfl rfl (by decide) rfl (fun ls hl => ?_)
                  refine lv_goto (tgt := 7) hx hb dX6_passMinute_110 (by decide) ?_
                  exact ih7 σ_22 (v1 + 1) _ _ ls  h hP hS (lv_sub hl [0, 2] rfl)
            · replace h := it_f h c_15
              refine lv_aload_n hx hb dX6_passMinute_59 rfl (lv_at hl 0 rfl) ?_
              refine lv_dup hx hb dX6_passMinute_60 rfl ?_
              refine gf_X6_116 C0 X hP (22 * t + 15 + k_4) (kdC t ht k_4 ek_4.2) dX6_passMinute_61 ?_
              refine lv_iconst (v := 1) hx hb dX6_passMinute_64 (by decide) ?_
              refine lv_isub hx hb dX6_passMinute_65 ?_
              refine pf_X6_116 C0 X hP hS (22 * t + 15 + k_4) (kdC t ht k_4 ek_4.2) dX6_passMinute_66 (fun H locs hP hS => ?_)
              refine lv_goto (tgt := 107) hx hb dX6_passMinute_69 (by decide) ?_
              refine lv_iinc (v := (v1 + 1)) (lv' := [(1, .int (v1 + 1)), (2, .ref (ad (22 * t + 15 + k_4))), (0, .ref (ad (22 * t)))]) hx hb dX6_passMinute_107 hl (k := 1) rfl rfl (by decide) rfl (fun ls hl => ?_)
              refine lv_goto (tgt := 7) hx hb dX6_passMinute_110 (by decide) ?_
              exact ih7 (stm σ (22 * t + 15 + k_4) 9 ((σ (22 * t + 15 + k_4) 9) - 1)) (v1 + 1) _ _ ls  h hP hS (lv_sub hl [0, 2] rfl)
          · replace h := it_f h c_14
            refine lv_aload_n hx hb dX6_passMinute_47 rfl (lv_at hl 2 rfl) ?_
            refine lv_aload_n hx hb dX6_passMinute_48 rfl (lv_at hl 0 rfl) ?_
            obtain ⟨σ_23, eσ_23, h⟩ := bnd h
            refine r_cv X hS (r_runV (As := [.ref (ad (22 * t + 15 + k_4))]) (rest := []) C0 X hP L_X6_113 (fun sz => c_X6_comeOn l D cA ad o σ t (22 * t + 15 + k_4) ht (kdC t ht k_4 ek_4.2) σ_23 eσ_23 sz) (kdT t ht).1 (kdT t ht).2 (by decide) rfl ⟨Nat.le_of_ble_eq_true rfl, Nat.le_of_ble_eq_true rfl⟩ rfl hl.1 rfl (Nat.le_of_ble_eq_true rfl) dX6_passMinute_49 ⟨Nat.zero_le _, Nat.zero_le _⟩) (fun σ9 H locs hw hP hS => ?_)
            rw [show σ9 = σ_23 from hw] at hP
            refine lv_aload_n hx hb dX6_passMinute_52 rfl (lv_at hl 0 rfl) ?_
            refine gf_X6_116 C0 X hP (22 * t + 15 + k_4) (kdC t ht k_4 ek_4.2) dX6_passMinute_53 ?_
            refine lv_if_le (tgt := 72) hx hb dX6_passMinute_56 (by decide) (fun c_24 => ?_) (fun c_24 => ?_)
            · replace h := it_t h c_24
              refine lv_aload_n hx hb dX6_passMinute_72 rfl (lv_at hl 0 rfl) ?_
              refine gf_X6_83 C0 X hP (22 * t + 15 + k_4) (kdC t ht k_4 ek_4.2) dX6_passMinute_73 ?_
              refine lv_if_lt (tgt := 94) hx hb dX6_passMinute_76 (by decide) (fun c_25 => ?_) (fun c_25 => ?_)
              · replace h := it_t h c_25
                refine lv_aload_n hx hb dX6_passMinute_94 rfl (lv_at hl 0 rfl) ?_
                refine gf_X6_83 C0 X hP (22 * t + 15 + k_4) (kdC t ht k_4 ek_4.2) dX6_passMinute_95 ?_
                refine lv_if_lt (tgt := 107) hx hb dX6_passMinute_98 (by decide) (fun c_26 => ?_) (fun c_26 => ?_)
                · replace h := it_t h c_26
                  refine lv_iinc (v := (v1 + 1)) (lv' := [(1, .int (v1 + 1)), (2, .ref (ad (22 * t + 15 + k_4))), (0, .ref (ad (22 * t)))]) hx hb dX6_passMinute_107 hl (k := 1) rfl rfl (by decide) rfl (fun ls hl => ?_)
                  refine lv_goto (tgt := 7) hx hb dX6_passMinute_110 (by decide) ?_
                  exact ih7 σ_23 (v1 + 1) _ _ ls  h hP hS (lv_sub hl [0, 2] rfl)
                · replace h := it_f h c_26
                  refine lv_aload_n hx hb dX6_passMinute_101 rfl (lv_at hl 2 rfl) ?_
                  refine lv_iload_n hx hb dX6_passMinute_102 rfl (lv_at hl 1 rfl) ?_
                  refine lv_aload_n hx hb dX6_passMinute_103 rfl (lv_at hl 0 rfl) ?_
                  obtain ⟨σ_27, eσ_27, h⟩ := bnd h
                  refine r_cv X hS (r_runV (As := [.int v1, .ref (ad (22 * t + 15 + k_4))]) (rest := []) C0 X hP L_X6_125 (fun sz => c_X6_goOn l D cA ad o σ_23 t v1 (22 * t + 15 + k_4) ht (kdC t ht k_4 ek_4.2) σ_27 eσ_27 sz) (kdT t ht).1 (kdT t ht).2 (by decide) rfl ⟨Nat.le_of_ble_eq_true rfl, Nat.le_of_ble_eq_true rfl⟩ rfl hl.1 rfl (Nat.le_of_ble_eq_true rfl) dX6_passMinute_104 ⟨Nat.zero_le _, Nat.zero_le _⟩) (fun σ9 H locs hw hP hS => ?_)
                  rw [show σ9 = σ_27 from hw] at hP
                  refine lv_iinc (v := (v1 + 1)) (lv' := [(1, .int (v1 + 1)), (2, .ref (ad (22 * t + 15 + k_4))), (0, .ref (ad (22 * t)))]) hx hb dX6_passMinute_107 hl (k := 1) rfl rfl (by decide) rfl (fun ls hl => ?_)
                  refine lv_goto (tgt := 7) hx hb dX6_passMinute_110 (by decide) ?_
                  exact ih7 σ_27 (v1 + 1) _ _ ls  h hP hS (lv_sub hl [0, 2] rfl)
              · replace h := it_f h c_25
                refine lv_aload_n hx hb dX6_passMinute_79 rfl (lv_at hl 0 rfl) ?_
                refine gf_X6_119 C0 X hP (22 * t + 15 + k_4) (kdC t ht k_4 ek_4.2) dX6_passMinute_80 ?_
                refine lv_if_eq (tgt := 94) hx hb dX6_passMinute_83 (by decide) (fun c_28 => ?_) (fun c_28 => ?_)
                · replace h := it_t h c_28
                  refine lv_aload_n hx hb dX6_passMinute_94 rfl (lv_at hl 0 rfl) ?_
                  refine gf_X6_83 C0 X hP (22 * t + 15 + k_4) (kdC t ht k_4 ek_4.2) dX6_passMinute_95 ?_
                  refine lv_if_lt (tgt := 107) hx hb dX6_passMinute_98 (by decide) (fun c_29 => ?_) (fun c_29 => ?_)
                  · replace h := it_t h c_29
                    refine lv_iinc (v := (v1 + 1)) (lv' := [(1, .int (v1 + 1)), (2, .ref (ad (22 * t + 15 + k_4))), (0, .ref (ad (22 * t)))]) hx hb dX6_passMinute_107 hl (k := 1) rfl rfl (by decide) rfl (fun ls hl => ?_)
                    refine lv_goto (tgt := 7) hx hb dX6_passMinute_110 (by decide) ?_
                    exact ih7 σ_23 (v1 + 1) _ _ ls  h hP hS (lv_sub hl [0, 2] rfl)
                  · replace h := it_f h c_29
                    refine lv_aload_n hx hb dX6_passMinute_101 rfl (lv_at hl 2 rfl) ?_
                    refine lv_iload_n hx hb dX6_passMinute_102 rfl (lv_at hl 1 rfl) ?_
                    refine lv_aload_n hx hb dX6_passMinute_103 rfl (lv_at hl 0 rfl) ?_
                    obtain ⟨σ_30, eσ_30, h⟩ := bnd h
                    refine r_cv X hS (r_runV (As := [.int v1, .ref (ad (22 * t + 15 + k_4))]) (rest := []) C0 X hP L_X6_125 (fun sz => c_X6_goOn l D cA ad o σ_23 t v1 (22 * t + 15 + k_4) ht (kdC t ht k_4 ek_4.2) σ_30 eσ_30 sz) (kdT t ht).1 (kdT t ht).2 (by decide) rfl ⟨Nat.le_of_ble_eq_true rfl, Nat.le_of_ble_eq_true rfl⟩ rfl hl.1 rfl (Nat.le_of_ble_eq_true rfl) dX6_passMinute_104 ⟨Nat.zero_le _, Nat.zero_le _⟩) (fun σ9 H locs hw hP hS => ?_)
                    rw [show σ9 = σ_30 from hw] at hP
                    refine lv_iinc (v := (v1 + 1)) (lv' := [(1, .int (v1 + 1)), (2, .ref (ad (22 * t + 15 + k_4))), (0, .ref (ad (22 * t)))]) hx hb dX6_passMinute_107 hl (k := 1) rfl rfl (by decide) rfl (fun ls hl => ?_)
                    refine lv_goto (tgt := 7) hx hb dX6_passMinute_110 (by decide) ?_
                    exact ih7 σ_30 (v1 + 1) _ _ ls  h hP hS (lv_sub hl [0, 2] rfl)
                · replace h := it_f h c_28
                  refine lv_aload_n hx hb dX6_passMinute_86 rfl (lv_at hl 2 rfl) ?_
                  refine lv_aload_n hx hb dX6_passMinute_87 rfl (lv_at hl 0 rfl) ?_
                  obtain ⟨σ_31, eσ_31, h⟩ := bnd h
                  refine r_cv X hS (r_runV (As := [.ref (ad (22 * t + 15 + k_4))]) (rest := []) C0 X hP L_X6_122 (fun sz => c_X6_backUp l D cA ad o σ_23 t (22 * t + 15 + k_4) ht (kdC t ht k_4 ek_4.2) σ_31 eσ_31 sz) (kdT t ht).1 (kdT t ht).2 (by decide) rfl ⟨Nat.le_of_ble_eq_true rfl, Nat.le_of_ble_eq_true rfl⟩ rfl hl.1 rfl (Nat.le_of_ble_eq_true rfl) dX6_passMinute_88 ⟨Nat.zero_le _, Nat.zero_le _⟩) (fun σ9 H locs hw hP hS => ?_)
                  rw [show σ9 = σ_31 from hw] at hP
                  refine lv_goto (tgt := 107) hx hb dX6_passMinute_91 (by decide) ?_
                  refine lv_iinc (v := (v1 + 1)) (lv' := [(1, .int (v1 + 1)), (2, .ref (ad (22 * t + 15 + k_4))), (0, .ref (ad (22 * t)))]) hx hb dX6_passMinute_107 hl (k := 1) rfl rfl (by decide) rfl (fun ls hl => ?_)
                  refine lv_goto (tgt := 7) hx hb dX6_passMinute_110 (by decide) ?_
                  exact ih7 σ_31 (v1 + 1) _ _ ls  h hP hS (lv_sub hl [0, 2] rfl)
            · replace h := it_f h c_24
              refine lv_aload_n hx hb dX6_passMinute_59 rfl (lv_at hl 0 rfl) ?_
              refine lv_dup hx hb dX6_passMinute_60 rfl ?_
              refine gf_X6_116 C0 X hP (22 * t + 15 + k_4) (kdC t ht k_4 ek_4.2) dX6_passMinute_61 ?_
              refine lv_iconst (v := 1) hx hb dX6_passMinute_64 (by decide) ?_
              refine lv_isub hx hb dX6_passMinute_65 ?_
              refine pf_X6_116 C0 X hP hS (22 * t + 15 + k_4) (kdC t ht k_4 ek_4.2) dX6_passMinute_66 (fun H locs hP hS => ?_)
              refine lv_goto (tgt := 107) hx hb dX6_passMinute_69 (by decide) ?_
              refine lv_iinc (v := (v1 + 1)) (lv' := [(1, .int (v1 + 1)), (2, .ref (ad (22 * t + 15 + k_4))), (0, .ref (ad (22 * t)))]) hx hb dX6_passMinute_107 hl (k := 1) rfl rfl (by decide) rfl (fun ls hl => ?_)
              refine lv_goto (tgt := 7) hx hb dX6_passMinute_110 (by decide) ?_
              exact ih7 (stm σ_23 (22 * t + 15 + k_4) 9 ((σ_23 (22 * t + 15 + k_4) 9) - 1)) (v1 + 1) _ _ ls  h hP hS (lv_sub hl [0, 2] rfl)
  exact lp_1 FU (stm σ (22 * t) 6 0) 0 _ _ ls  h hP hS (lv_sub hl [0, 1] rfl)
