theorem dX7_cannotRun_0 : decode cX7_cannotRun 0 = .ok (.aload_n 0, 1) := by decide +kernel
theorem dX7_cannotRun_1 : decode cX7_cannotRun 1 = .ok (.getfield 12, 3) := by decide +kernel
theorem dX7_cannotRun_4 : decode cX7_cannotRun 4 = .ok (.getfield 70, 3) := by decide +kernel
theorem dX7_cannotRun_7 : decode cX7_cannotRun 7 = .ok (.getfield 74, 3) := by decide +kernel
theorem dX7_cannotRun_10 : decode cX7_cannotRun 10 = .ok (.ifCond .eq 13, 3) := by decide +kernel
theorem dX7_cannotRun_13 : decode cX7_cannotRun 13 = .ok (.aload_n 0, 1) := by decide +kernel
theorem dX7_cannotRun_14 : decode cX7_cannotRun 14 = .ok (.getfield 12, 3) := by decide +kernel
theorem dX7_cannotRun_17 : decode cX7_cannotRun 17 = .ok (.getfield 150, 3) := by decide +kernel
theorem dX7_cannotRun_20 : decode cX7_cannotRun 20 = .ok (.ifCond .ne 7, 3) := by decide +kernel
theorem dX7_cannotRun_23 : decode cX7_cannotRun 23 = .ok (.iconst 1, 1) := by decide +kernel
theorem dX7_cannotRun_24 : decode cX7_cannotRun 24 = .ok (.goto 4, 3) := by decide +kernel
theorem dX7_cannotRun_27 : decode cX7_cannotRun 27 = .ok (.iconst 0, 1) := by decide +kernel
theorem dX7_cannotRun_28 : decode cX7_cannotRun 28 = .ok (.ireturn, 1) := by decide +kernel
set_option maxHeartbeats 4000000 in
set_option maxRecDepth 100000 in
theorem c_X7_cannotRun (l : Launch) (D : va_G) (cA : Nat → ClassId) (ad : Nat → Nat) (o : Int64) (σ : Mem)   (sz : Nat) : Met l yX7_cannotRun (WY yX7_cannotRun cX7_cannotRun 1 (some .boolean)) (RM 0) (va_Pc [.ref (ad 66)] (PW D cA ad o σ sz)) (va_Qi (fun r σ9 => (((σ 1 0 = 0 ∨ σ 0 2 = 0) ∧ r = 1) ∨ (¬ (σ 1 0 = 0 ∨ σ 0 2 = 0) ∧ r = 0)) ∧ σ9 = σ) (QW D cA ad o) (FA ad sz)) 0 0 (FA ad sz) := by
  refine ct_of (own := RX7) (k := 0) (Qf := va_Qi (fun r σ9 => (((σ 1 0 = 0 ∨ σ 0 2 = 0) ∧ r = 1) ∨ (¬ (σ 1 0 = 0 ∨ σ 0 2 = 0) ∧ r = 0)) ∧ σ9 = σ) (QW D cA ad o)) rfl (by decide) (Nat.le_of_ble_eq_true rfl) (fun p e s m below meth c ls C0 X hr hlk hP hl => ?_) sz
  have hS : va_S (FA ad s.heap.size) s.heap s.heap [] := va_S.rf
  have hl : lv_has ls 1 [(0, .ref (ad 66))] := hl
  obtain ⟨hx, hb, hml, hown, hts⟩ := id C0
  refine lv_aload_n hx hb dX7_cannotRun_0 rfl (lv_at hl 0 rfl) ?_
  refine gf_X7_12 C0 X hP 66 (q := 0) ⟨by decide, rfl⟩ (by omega) rfl dX7_cannotRun_1 ?_
  refine gf_X7_70 C0 X hP 0 (q := 1) ⟨by decide, rfl⟩ (by omega) rfl dX7_cannotRun_4 ?_
  refine gf_X7_74 C0 X hP 1 ⟨by decide, rfl⟩ dX7_cannotRun_7 ?_
  refine lv_if_eq (tgt := 23) hx hb dX7_cannotRun_10 (by decide) (fun c_1 => ?_) (fun c_1 => ?_)
  · refine lv_iconst (v := 1) hx hb dX7_cannotRun_23 (by decide) ?_
    refine lv_goto (tgt := 28) hx hb dX7_cannotRun_24 (by decide) ?_
    exact r_zret C0 X hP hS hr hlk dX7_cannotRun_28 (Or.inr rfl) ⟨Or.inl ⟨Or.inl c_1, rfl⟩, rfl⟩
  · refine lv_aload_n hx hb dX7_cannotRun_13 rfl (lv_at hl 0 rfl) ?_
    refine gf_X7_12 C0 X hP 66 (q := 0) ⟨by decide, rfl⟩ (by omega) rfl dX7_cannotRun_14 ?_
    refine gf_X7_150 C0 X hP 0 ⟨by decide, rfl⟩ dX7_cannotRun_17 ?_
    refine lv_if_ne (tgt := 27) hx hb dX7_cannotRun_20 (by decide) (fun c_2 => ?_) (fun c_2 => ?_)
    · refine lv_iconst (v := 0) hx hb dX7_cannotRun_27 (by decide) ?_
      exact r_zret C0 X hP hS hr hlk dX7_cannotRun_28 (Or.inl rfl) ⟨Or.inr ⟨fun q => q.elim c_1 c_2, rfl⟩, rfl⟩
    · refine lv_iconst (v := 1) hx hb dX7_cannotRun_23 (by decide) ?_
      refine lv_goto (tgt := 28) hx hb dX7_cannotRun_24 (by decide) ?_
      exact r_zret C0 X hP hS hr hlk dX7_cannotRun_28 (Or.inr rfl) ⟨Or.inl ⟨Or.inr c_2, rfl⟩, rfl⟩
theorem dX6_howMany_0 : decode cX6_howMany 0 = .ok (.iconst 0, 1) := by decide +kernel
theorem dX6_howMany_1 : decode cX6_howMany 1 = .ok (.istore_n 2, 1) := by decide +kernel
theorem dX6_howMany_2 : decode cX6_howMany 2 = .ok (.iconst 0, 1) := by decide +kernel
theorem dX6_howMany_3 : decode cX6_howMany 3 = .ok (.istore_n 3, 1) := by decide +kernel
theorem dX6_howMany_4 : decode cX6_howMany 4 = .ok (.iload_n 3, 1) := by decide +kernel
theorem dX6_howMany_5 : decode cX6_howMany 5 = .ok (.aload_n 0, 1) := by decide +kernel
theorem dX6_howMany_6 : decode cX6_howMany 6 = .ok (.getfield 46, 3) := by decide +kernel
theorem dX6_howMany_9 : decode cX6_howMany 9 = .ok (.if_icmp .ge 25, 3) := by decide +kernel
theorem dX6_howMany_12 : decode cX6_howMany 12 = .ok (.aload_n 0, 1) := by decide +kernel
theorem dX6_howMany_13 : decode cX6_howMany 13 = .ok (.getfield 20, 3) := by decide +kernel
theorem dX6_howMany_16 : decode cX6_howMany 16 = .ok (.iload_n 3, 1) := by decide +kernel
theorem dX6_howMany_17 : decode cX6_howMany 17 = .ok (.aaload, 1) := by decide +kernel
theorem dX6_howMany_18 : decode cX6_howMany 18 = .ok (.getfield 83, 3) := by decide +kernel
theorem dX6_howMany_21 : decode cX6_howMany 21 = .ok (.iload_n 1, 1) := by decide +kernel
theorem dX6_howMany_22 : decode cX6_howMany 22 = .ok (.if_icmp .ne 6, 3) := by decide +kernel
theorem dX6_howMany_25 : decode cX6_howMany 25 = .ok (.iinc 2 1, 3) := by decide +kernel
theorem dX6_howMany_28 : decode cX6_howMany 28 = .ok (.iinc 3 1, 3) := by decide +kernel
theorem dX6_howMany_31 : decode cX6_howMany 31 = .ok (.goto (-27), 3) := by decide +kernel
theorem dX6_howMany_34 : decode cX6_howMany 34 = .ok (.iload_n 2, 1) := by decide +kernel
theorem dX6_howMany_35 : decode cX6_howMany 35 = .ok (.ireturn, 1) := by decide +kernel
set_option maxHeartbeats 4000000 in
set_option maxRecDepth 100000 in
theorem c_X6_howMany0 (l : Launch) (D : va_G) (cA : Nat → ClassId) (ad : Nat → Nat) (o : Int64) (σ : Mem) (t : Nat) (x : Int32) (ht : t < 3) (h0 : σ (22 * t) 2 = 0) (sz : Nat) : Met l yX6_howMany (WY yX6_howMany cX6_howMany 4 (some .int)) (RM 0) (va_Pc [.ref (ad (22 * t)), .int x] (PW D cA ad o σ sz)) (va_Qi (fun r σ9 => r = 0 ∧ σ9 = σ) (QW D cA ad o) (FA ad sz)) 0 0 (FA ad sz) := by
  refine ct_of (own := RX6) (k := 0) (Qf := va_Qi (fun r σ9 => r = 0 ∧ σ9 = σ) (QW D cA ad o)) rfl (by decide) (Nat.le_of_ble_eq_true rfl) (fun p e s m below meth c ls C0 X hr hlk hP hl => ?_) sz
  have hS : va_S (FA ad s.heap.size) s.heap s.heap [] := va_S.rf
  have hl : lv_has ls 4 [(0, .ref (ad (22 * t))), (1, .int x)] := hl
  obtain ⟨hx, hb, hml, hown, hts⟩ := id C0
  refine lv_iconst (v := 0) hx hb dX6_howMany_0 (by decide) ?_
  refine lv_istore_n (lv' := [(2, .int 0), (0, .ref (ad (22 * t))), (1, .int x)]) hx hb dX6_howMany_1 rfl hl (by decide) rfl (fun ls hl => ?_)
  refine lv_iconst (v := 0) hx hb dX6_howMany_2 (by decide) ?_
  refine lv_istore_n (lv' := [(3, .int 0), (2, .int 0), (0, .ref (ad (22 * t))), (1, .int x)]) hx hb dX6_howMany_3 rfl hl (by decide) rfl (fun ls hl => ?_)
  refine lv_iload_n hx hb dX6_howMany_4 rfl (lv_at hl 0 rfl) ?_
  refine lv_aload_n hx hb dX6_howMany_5 rfl (lv_at hl 2 rfl) ?_
  refine gf_X6_46 C0 X hP (22 * t) (kdT t ht) dX6_howMany_6 ?_
  refine lv_topE (y := 0) h0 ?_
  refine lv_icmp_ge (tgt := 34) hx hb dX6_howMany_9 (by decide) (fun c_1 => ?_) (fun c_1 => absurd c_1 (by decide))
  refine lv_iload_n hx hb dX6_howMany_34 rfl (lv_at hl 1 rfl) ?_
  exact r_iret C0 X hP hS hr hlk dX6_howMany_35 ⟨rfl, rfl⟩
theorem dX6_allBacked_0 : decode cX6_allBacked 0 = .ok (.iconst 0, 1) := by decide +kernel
theorem dX6_allBacked_1 : decode cX6_allBacked 1 = .ok (.istore_n 1, 1) := by decide +kernel
theorem dX6_allBacked_2 : decode cX6_allBacked 2 = .ok (.iconst 0, 1) := by decide +kernel
theorem dX6_allBacked_3 : decode cX6_allBacked 3 = .ok (.istore_n 2, 1) := by decide +kernel
theorem dX6_allBacked_4 : decode cX6_allBacked 4 = .ok (.iload_n 2, 1) := by decide +kernel
theorem dX6_allBacked_5 : decode cX6_allBacked 5 = .ok (.aload_n 0, 1) := by decide +kernel
theorem dX6_allBacked_6 : decode cX6_allBacked 6 = .ok (.getfield 46, 3) := by decide +kernel
theorem dX6_allBacked_9 : decode cX6_allBacked 9 = .ok (.if_icmp .ge 21, 3) := by decide +kernel
theorem dX6_allBacked_12 : decode cX6_allBacked 12 = .ok (.iload_n 1, 1) := by decide +kernel
theorem dX6_allBacked_13 : decode cX6_allBacked 13 = .ok (.aload_n 0, 1) := by decide +kernel
theorem dX6_allBacked_14 : decode cX6_allBacked 14 = .ok (.getfield 20, 3) := by decide +kernel
theorem dX6_allBacked_17 : decode cX6_allBacked 17 = .ok (.iload_n 2, 1) := by decide +kernel
theorem dX6_allBacked_18 : decode cX6_allBacked 18 = .ok (.aaload, 1) := by decide +kernel
theorem dX6_allBacked_19 : decode cX6_allBacked 19 = .ok (.getfield 86, 3) := by decide +kernel
theorem dX6_allBacked_22 : decode cX6_allBacked 22 = .ok (.iadd, 1) := by decide +kernel
theorem dX6_allBacked_23 : decode cX6_allBacked 23 = .ok (.istore_n 1, 1) := by decide +kernel
theorem dX6_allBacked_24 : decode cX6_allBacked 24 = .ok (.iinc 2 1, 3) := by decide +kernel
theorem dX6_allBacked_27 : decode cX6_allBacked 27 = .ok (.goto (-23), 3) := by decide +kernel
theorem dX6_allBacked_30 : decode cX6_allBacked 30 = .ok (.iload_n 1, 1) := by decide +kernel
theorem dX6_allBacked_31 : decode cX6_allBacked 31 = .ok (.ireturn, 1) := by decide +kernel
set_option maxHeartbeats 4000000 in
set_option maxRecDepth 100000 in
theorem c_X6_allBacked0 (l : Launch) (D : va_G) (cA : Nat → ClassId) (ad : Nat → Nat) (o : Int64) (σ : Mem) (t : Nat) (ht : t < 3) (h0 : σ (22 * t) 2 = 0) (sz : Nat) : Met l yX6_allBacked (WY yX6_allBacked cX6_allBacked 3 (some .int)) (RM 0) (va_Pc [.ref (ad (22 * t))] (PW D cA ad o σ sz)) (va_Qi (fun r σ9 => r = 0 ∧ σ9 = σ) (QW D cA ad o) (FA ad sz)) 0 0 (FA ad sz) := by
  refine ct_of (own := RX6) (k := 0) (Qf := va_Qi (fun r σ9 => r = 0 ∧ σ9 = σ) (QW D cA ad o)) rfl (by decide) (Nat.le_of_ble_eq_true rfl) (fun p e s m below meth c ls C0 X hr hlk hP hl => ?_) sz
  have hS : va_S (FA ad s.heap.size) s.heap s.heap [] := va_S.rf
  have hl : lv_has ls 3 [(0, .ref (ad (22 * t)))] := hl
  obtain ⟨hx, hb, hml, hown, hts⟩ := id C0
  refine lv_iconst (v := 0) hx hb dX6_allBacked_0 (by decide) ?_
  refine lv_istore_n (lv' := [(1, .int 0), (0, .ref (ad (22 * t)))]) hx hb dX6_allBacked_1 rfl hl (by decide) rfl (fun ls hl => ?_)
  refine lv_iconst (v := 0) hx hb dX6_allBacked_2 (by decide) ?_
  refine lv_istore_n (lv' := [(2, .int 0), (1, .int 0), (0, .ref (ad (22 * t)))]) hx hb dX6_allBacked_3 rfl hl (by decide) rfl (fun ls hl => ?_)
  refine lv_iload_n hx hb dX6_allBacked_4 rfl (lv_at hl 0 rfl) ?_
  refine lv_aload_n hx hb dX6_allBacked_5 rfl (lv_at hl 2 rfl) ?_
  refine gf_X6_46 C0 X hP (22 * t) (kdT t ht) dX6_allBacked_6 ?_
  refine lv_topE (y := 0) h0 ?_
  refine lv_icmp_ge (tgt := 30) hx hb dX6_allBacked_9 (by decide) (fun c_1 => ?_) (fun c_1 => absurd c_1 (by decide))
  refine lv_iload_n hx hb dX6_allBacked_30 rfl (lv_at hl 1 rfl) ?_
  exact r_iret C0 X hP hS hr hlk dX6_allBacked_31 ⟨rfl, rfl⟩
theorem dX6_allWaited_0 : decode cX6_allWaited 0 = .ok (.iconst 0, 1) := by decide +kernel
theorem dX6_allWaited_1 : decode cX6_allWaited 1 = .ok (.istore_n 1, 1) := by decide +kernel
theorem dX6_allWaited_2 : decode cX6_allWaited 2 = .ok (.iconst 0, 1) := by decide +kernel
theorem dX6_allWaited_3 : decode cX6_allWaited 3 = .ok (.istore_n 2, 1) := by decide +kernel
theorem dX6_allWaited_4 : decode cX6_allWaited 4 = .ok (.iload_n 2, 1) := by decide +kernel
theorem dX6_allWaited_5 : decode cX6_allWaited 5 = .ok (.aload_n 0, 1) := by decide +kernel
theorem dX6_allWaited_6 : decode cX6_allWaited 6 = .ok (.getfield 46, 3) := by decide +kernel
theorem dX6_allWaited_9 : decode cX6_allWaited 9 = .ok (.if_icmp .ge 21, 3) := by decide +kernel
theorem dX6_allWaited_12 : decode cX6_allWaited 12 = .ok (.iload_n 1, 1) := by decide +kernel
theorem dX6_allWaited_13 : decode cX6_allWaited 13 = .ok (.aload_n 0, 1) := by decide +kernel
theorem dX6_allWaited_14 : decode cX6_allWaited 14 = .ok (.getfield 20, 3) := by decide +kernel
theorem dX6_allWaited_17 : decode cX6_allWaited 17 = .ok (.iload_n 2, 1) := by decide +kernel
theorem dX6_allWaited_18 : decode cX6_allWaited 18 = .ok (.aaload, 1) := by decide +kernel
theorem dX6_allWaited_19 : decode cX6_allWaited 19 = .ok (.getfield 89, 3) := by decide +kernel
theorem dX6_allWaited_22 : decode cX6_allWaited 22 = .ok (.iadd, 1) := by decide +kernel
theorem dX6_allWaited_23 : decode cX6_allWaited 23 = .ok (.istore_n 1, 1) := by decide +kernel
theorem dX6_allWaited_24 : decode cX6_allWaited 24 = .ok (.iinc 2 1, 3) := by decide +kernel
theorem dX6_allWaited_27 : decode cX6_allWaited 27 = .ok (.goto (-23), 3) := by decide +kernel
theorem dX6_allWaited_30 : decode cX6_allWaited 30 = .ok (.iload_n 1, 1) := by decide +kernel
theorem dX6_allWaited_31 : decode cX6_allWaited 31 = .ok (.ireturn, 1) := by decide +kernel
set_option maxHeartbeats 4000000 in
set_option maxRecDepth 100000 in
theorem c_X6_allWaited0 (l : Launch) (D : va_G) (cA : Nat → ClassId) (ad : Nat → Nat) (o : Int64) (σ : Mem) (t : Nat) (ht : t < 3) (h0 : σ (22 * t) 2 = 0) (sz : Nat) : Met l yX6_allWaited (WY yX6_allWaited cX6_allWaited 3 (some .int)) (RM 0) (va_Pc [.ref (ad (22 * t))] (PW D cA ad o σ sz)) (va_Qi (fun r σ9 => r = 0 ∧ σ9 = σ) (QW D cA ad o) (FA ad sz)) 0 0 (FA ad sz) := by
  refine ct_of (own := RX6) (k := 0) (Qf := va_Qi (fun r σ9 => r = 0 ∧ σ9 = σ) (QW D cA ad o)) rfl (by decide) (Nat.le_of_ble_eq_true rfl) (fun p e s m below meth c ls C0 X hr hlk hP hl => ?_) sz
  have hS : va_S (FA ad s.heap.size) s.heap s.heap [] := va_S.rf
  have hl : lv_has ls 3 [(0, .ref (ad (22 * t)))] := hl
  obtain ⟨hx, hb, hml, hown, hts⟩ := id C0
  refine lv_iconst (v := 0) hx hb dX6_allWaited_0 (by decide) ?_
  refine lv_istore_n (lv' := [(1, .int 0), (0, .ref (ad (22 * t)))]) hx hb dX6_allWaited_1 rfl hl (by decide) rfl (fun ls hl => ?_)
  refine lv_iconst (v := 0) hx hb dX6_allWaited_2 (by decide) ?_
  refine lv_istore_n (lv' := [(2, .int 0), (1, .int 0), (0, .ref (ad (22 * t)))]) hx hb dX6_allWaited_3 rfl hl (by decide) rfl (fun ls hl => ?_)
  refine lv_iload_n hx hb dX6_allWaited_4 rfl (lv_at hl 0 rfl) ?_
  refine lv_aload_n hx hb dX6_allWaited_5 rfl (lv_at hl 2 rfl) ?_
  refine gf_X6_46 C0 X hP (22 * t) (kdT t ht) dX6_allWaited_6 ?_
  refine lv_topE (y := 0) h0 ?_
  refine lv_icmp_ge (tgt := 30) hx hb dX6_allWaited_9 (by decide) (fun c_1 => ?_) (fun c_1 => absurd c_1 (by decide))
  refine lv_iload_n hx hb dX6_allWaited_30 rfl (lv_at hl 1 rfl) ?_
  exact r_iret C0 X hP hS hr hlk dX6_allWaited_31 ⟨rfl, rfl⟩
theorem dX6_allWorth_0 : decode cX6_allWorth 0 = .ok (.iconst 0, 1) := by decide +kernel
theorem dX6_allWorth_1 : decode cX6_allWorth 1 = .ok (.istore_n 1, 1) := by decide +kernel
theorem dX6_allWorth_2 : decode cX6_allWorth 2 = .ok (.iconst 0, 1) := by decide +kernel
theorem dX6_allWorth_3 : decode cX6_allWorth 3 = .ok (.istore_n 2, 1) := by decide +kernel
theorem dX6_allWorth_4 : decode cX6_allWorth 4 = .ok (.iload_n 2, 1) := by decide +kernel
theorem dX6_allWorth_5 : decode cX6_allWorth 5 = .ok (.aload_n 0, 1) := by decide +kernel
theorem dX6_allWorth_6 : decode cX6_allWorth 6 = .ok (.getfield 46, 3) := by decide +kernel
theorem dX6_allWorth_9 : decode cX6_allWorth 9 = .ok (.if_icmp .ge 21, 3) := by decide +kernel
theorem dX6_allWorth_12 : decode cX6_allWorth 12 = .ok (.iload_n 1, 1) := by decide +kernel
theorem dX6_allWorth_13 : decode cX6_allWorth 13 = .ok (.aload_n 0, 1) := by decide +kernel
theorem dX6_allWorth_14 : decode cX6_allWorth 14 = .ok (.getfield 20, 3) := by decide +kernel
theorem dX6_allWorth_17 : decode cX6_allWorth 17 = .ok (.iload_n 2, 1) := by decide +kernel
theorem dX6_allWorth_18 : decode cX6_allWorth 18 = .ok (.aaload, 1) := by decide +kernel
theorem dX6_allWorth_19 : decode cX6_allWorth 19 = .ok (.getfield 80, 3) := by decide +kernel
theorem dX6_allWorth_22 : decode cX6_allWorth 22 = .ok (.iadd, 1) := by decide +kernel
theorem dX6_allWorth_23 : decode cX6_allWorth 23 = .ok (.istore_n 1, 1) := by decide +kernel
theorem dX6_allWorth_24 : decode cX6_allWorth 24 = .ok (.iinc 2 1, 3) := by decide +kernel
theorem dX6_allWorth_27 : decode cX6_allWorth 27 = .ok (.goto (-23), 3) := by decide +kernel
theorem dX6_allWorth_30 : decode cX6_allWorth 30 = .ok (.iload_n 1, 1) := by decide +kernel
theorem dX6_allWorth_31 : decode cX6_allWorth 31 = .ok (.ireturn, 1) := by decide +kernel
set_option maxHeartbeats 4000000 in
set_option maxRecDepth 100000 in
theorem c_X6_allWorth0 (l : Launch) (D : va_G) (cA : Nat → ClassId) (ad : Nat → Nat) (o : Int64) (σ : Mem) (t : Nat) (ht : t < 3) (h0 : σ (22 * t) 2 = 0) (sz : Nat) : Met l yX6_allWorth (WY yX6_allWorth cX6_allWorth 3 (some .int)) (RM 0) (va_Pc [.ref (ad (22 * t))] (PW D cA ad o σ sz)) (va_Qi (fun r σ9 => r = 0 ∧ σ9 = σ) (QW D cA ad o) (FA ad sz)) 0 0 (FA ad sz) := by
  refine ct_of (own := RX6) (k := 0) (Qf := va_Qi (fun r σ9 => r = 0 ∧ σ9 = σ) (QW D cA ad o)) rfl (by decide) (Nat.le_of_ble_eq_true rfl) (fun p e s m below meth c ls C0 X hr hlk hP hl => ?_) sz
  have hS : va_S (FA ad s.heap.size) s.heap s.heap [] := va_S.rf
  have hl : lv_has ls 3 [(0, .ref (ad (22 * t)))] := hl
  obtain ⟨hx, hb, hml, hown, hts⟩ := id C0
  refine lv_iconst (v := 0) hx hb dX6_allWorth_0 (by decide) ?_
  refine lv_istore_n (lv' := [(1, .int 0), (0, .ref (ad (22 * t)))]) hx hb dX6_allWorth_1 rfl hl (by decide) rfl (fun ls hl => ?_)
  refine lv_iconst (v := 0) hx hb dX6_allWorth_2 (by decide) ?_
  refine lv_istore_n (lv' := [(2, .int 0), (1, .int 0), (0, .ref (ad (22 * t)))]) hx hb dX6_allWorth_3 rfl hl (by decide) rfl (fun ls hl => ?_)
  refine lv_iload_n hx hb dX6_allWorth_4 rfl (lv_at hl 0 rfl) ?_
  refine lv_aload_n hx hb dX6_allWorth_5 rfl (lv_at hl 2 rfl) ?_
  refine gf_X6_46 C0 X hP (22 * t) (kdT t ht) dX6_allWorth_6 ?_
  refine lv_topE (y := 0) h0 ?_
  refine lv_icmp_ge (tgt := 30) hx hb dX6_allWorth_9 (by decide) (fun c_1 => ?_) (fun c_1 => absurd c_1 (by decide))
  refine lv_iload_n hx hb dX6_allWorth_30 rfl (lv_at hl 1 rfl) ?_
  exact r_iret C0 X hP hS hr hlk dX6_allWorth_31 ⟨rfl, rfl⟩
theorem dX4_allRoom_0 : decode cX4_allRoom 0 = .ok (.iconst 0, 1) := by decide +kernel
theorem dX4_allRoom_1 : decode cX4_allRoom 1 = .ok (.istore_n 1, 1) := by decide +kernel
theorem dX4_allRoom_2 : decode cX4_allRoom 2 = .ok (.iconst 1, 1) := by decide +kernel
theorem dX4_allRoom_3 : decode cX4_allRoom 3 = .ok (.istore_n 2, 1) := by decide +kernel
theorem dX4_allRoom_4 : decode cX4_allRoom 4 = .ok (.iload_n 2, 1) := by decide +kernel
theorem dX4_allRoom_5 : decode cX4_allRoom 5 = .ok (.aload_n 0, 1) := by decide +kernel
theorem dX4_allRoom_6 : decode cX4_allRoom 6 = .ok (.getfield 45, 3) := by decide +kernel
theorem dX4_allRoom_9 : decode cX4_allRoom 9 = .ok (.if_icmp .ge 18, 3) := by decide +kernel
theorem dX4_allRoom_12 : decode cX4_allRoom 12 = .ok (.iload_n 1, 1) := by decide +kernel
theorem dX4_allRoom_13 : decode cX4_allRoom 13 = .ok (.aload_n 0, 1) := by decide +kernel
theorem dX4_allRoom_14 : decode cX4_allRoom 14 = .ok (.getfield 21, 3) := by decide +kernel
theorem dX4_allRoom_17 : decode cX4_allRoom 17 = .ok (.iload_n 2, 1) := by decide +kernel
theorem dX4_allRoom_18 : decode cX4_allRoom 18 = .ok (.iaload, 1) := by decide +kernel
theorem dX4_allRoom_19 : decode cX4_allRoom 19 = .ok (.iadd, 1) := by decide +kernel
theorem dX4_allRoom_20 : decode cX4_allRoom 20 = .ok (.istore_n 1, 1) := by decide +kernel
theorem dX4_allRoom_21 : decode cX4_allRoom 21 = .ok (.iinc 2 1, 3) := by decide +kernel
theorem dX4_allRoom_24 : decode cX4_allRoom 24 = .ok (.goto (-20), 3) := by decide +kernel
theorem dX4_allRoom_27 : decode cX4_allRoom 27 = .ok (.iload_n 1, 1) := by decide +kernel
theorem dX4_allRoom_28 : decode cX4_allRoom 28 = .ok (.ireturn, 1) := by decide +kernel
set_option maxHeartbeats 4000000 in
set_option maxRecDepth 100000 in
theorem c_X4_allRoom0 (l : Launch) (D : va_G) (cA : Nat → ClassId) (ad : Nat → Nat) (o : Int64) (σ : Mem) (t : Nat) (ht : t < 3) (h0 : σ (22 * t + 1) 0 = 0) (sz : Nat) : Met l yX4_allRoom (WY yX4_allRoom cX4_allRoom 3 (some .int)) (RM 0) (va_Pc [.ref (ad (22 * t + 1))] (PW D cA ad o σ sz)) (va_Qi (fun r σ9 => r = 0 ∧ σ9 = σ) (QW D cA ad o) (FA ad sz)) 0 0 (FA ad sz) := by
  refine ct_of (own := RX4) (k := 0) (Qf := va_Qi (fun r σ9 => r = 0 ∧ σ9 = σ) (QW D cA ad o)) rfl (by decide) (Nat.le_of_ble_eq_true rfl) (fun p e s m below meth c ls C0 X hr hlk hP hl => ?_) sz
  have hS : va_S (FA ad s.heap.size) s.heap s.heap [] := va_S.rf
  have hl : lv_has ls 3 [(0, .ref (ad (22 * t + 1)))] := hl
  obtain ⟨hx, hb, hml, hown, hts⟩ := id C0
  refine lv_iconst (v := 0) hx hb dX4_allRoom_0 (by decide) ?_
  refine lv_istore_n (lv' := [(1, .int 0), (0, .ref (ad (22 * t + 1)))]) hx hb dX4_allRoom_1 rfl hl (by decide) rfl (fun ls hl => ?_)
  refine lv_iconst (v := 1) hx hb dX4_allRoom_2 (by decide) ?_
  refine lv_istore_n (lv' := [(2, .int 1), (1, .int 0), (0, .ref (ad (22 * t + 1)))]) hx hb dX4_allRoom_3 rfl hl (by decide) rfl (fun ls hl => ?_)
  refine lv_iload_n hx hb dX4_allRoom_4 rfl (lv_at hl 0 rfl) ?_
  refine lv_aload_n hx hb dX4_allRoom_5 rfl (lv_at hl 2 rfl) ?_
  refine gf_X4_45 C0 X hP (22 * t + 1) (kdR t ht) dX4_allRoom_6 ?_
  refine lv_topE (y := 0) h0 ?_
  refine lv_icmp_ge (tgt := 27) hx hb dX4_allRoom_9 (by decide) (fun c_1 => ?_) (fun c_1 => absurd c_1 (by decide))
  refine lv_iload_n hx hb dX4_allRoom_27 rfl (lv_at hl 1 rfl) ?_
  exact r_iret C0 X hP hS hr hlk dX4_allRoom_28 ⟨rfl, rfl⟩
theorem dX6_stands_0 : decode cX6_stands 0 = .ok (.aload_n 0, 1) := by decide +kernel
theorem dX6_stands_1 : decode cX6_stands 1 = .ok (.getfield 52, 3) := by decide +kernel
theorem dX6_stands_4 : decode cX6_stands 4 = .ok (.bipush 60, 2) := by decide +kernel
theorem dX6_stands_6 : decode cX6_stands 6 = .ok (.if_icmp .lt 29, 3) := by decide +kernel
theorem dX6_stands_9 : decode cX6_stands 9 = .ok (.aload_n 0, 1) := by decide +kernel
theorem dX6_stands_10 : decode cX6_stands 10 = .ok (.bipush (-2), 2) := by decide +kernel
theorem dX6_stands_12 : decode cX6_stands 12 = .ok (.invokevirtual 92, 3) := by decide +kernel
theorem dX6_stands_15 : decode cX6_stands 15 = .ok (.ifCond .ne 20, 3) := by decide +kernel
theorem dX6_stands_18 : decode cX6_stands 18 = .ok (.aload_n 0, 1) := by decide +kernel
theorem dX6_stands_19 : decode cX6_stands 19 = .ok (.bipush (-3), 2) := by decide +kernel
theorem dX6_stands_21 : decode cX6_stands 21 = .ok (.invokevirtual 92, 3) := by decide +kernel
theorem dX6_stands_24 : decode cX6_stands 24 = .ok (.aload_n 0, 1) := by decide +kernel
theorem dX6_stands_25 : decode cX6_stands 25 = .ok (.getfield 46, 3) := by decide +kernel
theorem dX6_stands_28 : decode cX6_stands 28 = .ok (.if_icmp .ge 7, 3) := by decide +kernel
theorem dX6_stands_31 : decode cX6_stands 31 = .ok (.iconst 1, 1) := by decide +kernel
theorem dX6_stands_32 : decode cX6_stands 32 = .ok (.goto 4, 3) := by decide +kernel
theorem dX6_stands_35 : decode cX6_stands 35 = .ok (.iconst 0, 1) := by decide +kernel
theorem dX6_stands_36 : decode cX6_stands 36 = .ok (.ireturn, 1) := by decide +kernel
set_option maxHeartbeats 4000000 in
set_option maxRecDepth 100000 in
theorem c_X6_stands0 (l : Launch) (D : va_G) (cA : Nat → ClassId) (ad : Nat → Nat) (o : Int64) (σ : Mem) (t : Nat) (ht : t < 3) (h0 : σ (22 * t) 4 = 0) (sz : Nat) : Met l yX6_stands (WY yX6_stands cX6_stands 1 (some .boolean)) (RM 0) (va_Pc [.ref (ad (22 * t))] (PW D cA ad o σ sz)) (va_Qi (fun r σ9 => ((False ∧ r = 1) ∨ (¬ False ∧ r = 0)) ∧ σ9 = σ) (QW D cA ad o) (FA ad sz)) 0 0 (FA ad sz) := by
  refine ct_of (own := RX6) (k := 0) (Qf := va_Qi (fun r σ9 => ((False ∧ r = 1) ∨ (¬ False ∧ r = 0)) ∧ σ9 = σ) (QW D cA ad o)) rfl (by decide) (Nat.le_of_ble_eq_true rfl) (fun p e s m below meth c ls C0 X hr hlk hP hl => ?_) sz
  have hS : va_S (FA ad s.heap.size) s.heap s.heap [] := va_S.rf
  have hl : lv_has ls 1 [(0, .ref (ad (22 * t)))] := hl
  obtain ⟨hx, hb, hml, hown, hts⟩ := id C0
  refine lv_aload_n hx hb dX6_stands_0 rfl (lv_at hl 0 rfl) ?_
  refine gf_X6_52 C0 X hP (22 * t) (kdT t ht) dX6_stands_1 ?_
  refine lv_topE (y := 0) h0 ?_
  refine lv_bipush (v := 60) hx hb dX6_stands_4 (by decide) ?_
  refine lv_icmp_lt (tgt := 35) hx hb dX6_stands_6 (by decide) (fun c_1 => ?_) (fun c_1 => absurd c_1 (by decide))
  refine lv_iconst (v := 0) hx hb dX6_stands_35 (by decide) ?_
  exact r_zret C0 X hP hS hr hlk dX6_stands_36 (Or.inl rfl) ⟨Or.inr ⟨id, rfl⟩, rfl⟩
theorem dX7_road_0 : decode cX7_road 0 = .ok (.aload_n 0, 1) := by decide +kernel
theorem dX7_road_1 : decode cX7_road 1 = .ok (.iload_n 1, 1) := by decide +kernel
theorem dX7_road_2 : decode cX7_road 2 = .ok (.invokevirtual 50, 3) := by decide +kernel
theorem dX7_road_5 : decode cX7_road 5 = .ok (.astore_n 2, 1) := by decide +kernel
theorem dX7_road_6 : decode cX7_road 6 = .ok (.aload_n 2, 1) := by decide +kernel
theorem dX7_road_7 : decode cX7_road 7 = .ok (.ifnonnull 5, 3) := by decide +kernel
theorem dX7_road_10 : decode cX7_road 10 = .ok (.iconst (-1), 1) := by decide +kernel
theorem dX7_road_11 : decode cX7_road 11 = .ok (.ireturn, 1) := by decide +kernel
theorem dX7_road_12 : decode cX7_road 12 = .ok (.aload_n 2, 1) := by decide +kernel
theorem dX7_road_13 : decode cX7_road 13 = .ok (.getfield 54, 3) := by decide +kernel
theorem dX7_road_16 : decode cX7_road 16 = .ok (.ifCond .ne 6, 3) := by decide +kernel
theorem dX7_road_19 : decode cX7_road 19 = .ok (.bipush (-11), 2) := by decide +kernel
theorem dX7_road_21 : decode cX7_road 21 = .ok (.ireturn, 1) := by decide +kernel
theorem dX7_road_22 : decode cX7_road 22 = .ok (.aload_n 2, 1) := by decide +kernel
theorem dX7_road_23 : decode cX7_road 23 = .ok (.invokevirtual 58, 3) := by decide +kernel
theorem dX7_road_26 : decode cX7_road 26 = .ok (.ifCond .ne 6, 3) := by decide +kernel
theorem dX7_road_29 : decode cX7_road 29 = .ok (.bipush (-12), 2) := by decide +kernel
theorem dX7_road_31 : decode cX7_road 31 = .ok (.ireturn, 1) := by decide +kernel
theorem dX7_road_32 : decode cX7_road 32 = .ok (.aload_n 0, 1) := by decide +kernel
theorem dX7_road_33 : decode cX7_road 33 = .ok (.getfield 19, 3) := by decide +kernel
theorem dX7_road_36 : decode cX7_road 36 = .ok (.aload_n 0, 1) := by decide +kernel
theorem dX7_road_37 : decode cX7_road 37 = .ok (.getfield 12, 3) := by decide +kernel
theorem dX7_road_40 : decode cX7_road 40 = .ok (.invokevirtual 62, 3) := by decide +kernel
theorem dX7_road_43 : decode cX7_road 43 = .ok (.aload_n 0, 1) := by decide +kernel
theorem dX7_road_44 : decode cX7_road 44 = .ok (.getfield 38, 3) := by decide +kernel
theorem dX7_road_47 : decode cX7_road 47 = .ok (.aload_n 2, 1) := by decide +kernel
theorem dX7_road_48 : decode cX7_road 48 = .ok (.aload_n 0, 1) := by decide +kernel
theorem dX7_road_49 : decode cX7_road 49 = .ok (.getfield 19, 3) := by decide +kernel
theorem dX7_road_52 : decode cX7_road 52 = .ok (.invokevirtual 66, 3) := by decide +kernel
theorem dX7_road_55 : decode cX7_road 55 = .ok (.istore_n 3, 1) := by decide +kernel
theorem dX7_road_56 : decode cX7_road 56 = .ok (.iload_n 3, 1) := by decide +kernel
theorem dX7_road_57 : decode cX7_road 57 = .ok (.ifCond .le 14, 3) := by decide +kernel
theorem dX7_road_60 : decode cX7_road 60 = .ok (.aload_n 0, 1) := by decide +kernel
theorem dX7_road_61 : decode cX7_road 61 = .ok (.getfield 12, 3) := by decide +kernel
theorem dX7_road_64 : decode cX7_road 64 = .ok (.aload_n 0, 1) := by decide +kernel
theorem dX7_road_65 : decode cX7_road 65 = .ok (.getfield 19, 3) := by decide +kernel
theorem dX7_road_68 : decode cX7_road 68 = .ok (.invokevirtual 62, 3) := by decide +kernel
theorem dX7_road_71 : decode cX7_road 71 = .ok (.iload_n 3, 1) := by decide +kernel
theorem dX7_road_72 : decode cX7_road 72 = .ok (.ireturn, 1) := by decide +kernel
set_option maxHeartbeats 4000000 in
set_option maxRecDepth 100000 in
theorem c_X7_road_f (l : Launch) (D : va_G) (cA : Nat → ClassId) (ad : Nat → Nat) (o : Int64) (σ : Mem) (d : Int32) (hF : Fr σ) (sz : Nat) : Met l yX7_road (WY yX7_road cX7_road 4 (some .int)) (RM 1) (va_Pc [.ref (ad 66), .int d] (PW D cA ad o σ sz)) (va_Qi (fun r (σ9 : Mem) => r = (if d < 0 ∨ 8 ≤ d then -1 else -11) ∧ ∀ a9, 91 ≤ a9 → σ9 a9 = σ a9) (QW D cA ad o) (FA ad sz)) 0 0 (FA ad sz) := by
  refine ct_of (own := RX7) (k := 1) (Qf := va_Qi (fun r (σ9 : Mem) => r = (if d < 0 ∨ 8 ≤ d then -1 else -11) ∧ ∀ a9, 91 ≤ a9 → σ9 a9 = σ a9) (QW D cA ad o)) rfl (by decide) (Nat.le_of_ble_eq_true rfl) (fun p e s m below meth c ls C0 X hr hlk hP hl => ?_) sz
  have hS : va_S (FA ad s.heap.size) s.heap s.heap [] := va_S.rf
  have hl : lv_has ls 4 [(0, .ref (ad 66)), (1, .int d)] := hl
  obtain ⟨hx, hb, hml, hown, hts⟩ := id C0
  refine lv_aload_n hx hb dX7_road_0 rfl (lv_at hl 0 rfl) ?_
  refine lv_iload_n hx hb dX7_road_1 rfl (lv_at hl 1 rfl) ?_
  refine r_cq X hS (r_runV (As := [.int d]) (rest := []) C0 X hP L_X7_50 (fun sz => c_X7_shelfAt l D cA ad o σ d  sz) (show 66 < 106 ∧ kd 66 = (7, 8) from ⟨by decide, rfl⟩).1 (show 66 < 106 ∧ kd 66 = (7, 8) from ⟨by decide, rfl⟩).2 (by decide) rfl ⟨Nat.le_of_ble_eq_true rfl, Nat.le_of_ble_eq_true rfl⟩ rfl hl.1 rfl (Nat.le_of_ble_eq_true rfl) dX7_road_2 ⟨Nat.zero_le _, Nat.zero_le _⟩) (fun σ9 H locs hw hP hS => ?_) (fun x9 σ9 H locs hw hP hS => ?_)
  · rw [hw.1] at hP
    have h_1 := hw.2
    refine lv_astore_nN (lv' := [(2, .null), (0, .ref (ad 66)), (1, .int d)]) hx hb dX7_road_5 rfl hl (by decide) rfl (fun ls hl => ?_)
    refine lv_aload_nN hx hb dX7_road_6 rfl (lv_at hl 0 rfl) ?_
    refine lv_ifnonnullN hx hb dX7_road_7 ?_
    refine lv_iconst (v := (-1)) hx hb dX7_road_10 (by decide) ?_
    exact r_iret C0 X hP hS hr hlk dX7_road_11 ⟨(by simp only [h_1, if_true, if_false, ite_true, ite_false, true_and, and_true, false_and, and_false, true_or, or_true, false_or, or_false, not_true_eq_false, not_false_eq_true, ne_eq, and_self, or_self]; try rfl), fun _ _ => rfl⟩
  · rw [hw.1] at hP
    obtain ⟨-, j_2, hj_2, ej_2, rfl⟩ := hw
    have h_1 : ¬ (d < 0 ∨ 8 ≤ d) := by rw [ej_2]; exact nosh hj_2
    refine lv_astore_n (lv' := [(2, .ref (ad (68 + j_2))), (0, .ref (ad 66)), (1, .int d)]) hx hb dX7_road_5 rfl hl (by decide) rfl (fun ls hl => ?_)
    refine lv_aload_n hx hb dX7_road_6 rfl (lv_at hl 0 rfl) ?_
    refine lv_ifnonnull (tgt := 12) hx hb dX7_road_7 (by decide) ?_
    refine lv_aload_n hx hb dX7_road_12 rfl (lv_at hl 0 rfl) ?_
    refine gf_X7_54 C0 X hP (68 + j_2) (kdS j_2 hj_2) dX7_road_13 ?_
    refine lv_topE (y := 0) (Fr_holds hF hj_2) ?_
    refine lv_if_ne (tgt := 22) hx hb dX7_road_16 (by decide) (fun c_3 => absurd c_3 (by decide)) (fun c_3 => ?_)
    refine lv_bipush (v := (-11)) hx hb dX7_road_19 (by decide) ?_
    exact r_iret C0 X hP hS hr hlk dX7_road_21 ⟨(by simp only [h_1, if_true, if_false, ite_true, ite_false, true_and, and_true, false_and, and_false, true_or, or_true, false_or, or_false, not_true_eq_false, not_false_eq_true, ne_eq, and_self, or_self]; try rfl), fun _ _ => rfl⟩
theorem dX7_piece_0 : decode cX7_piece 0 = .ok (.aload_n 0, 1) := by decide +kernel
theorem dX7_piece_1 : decode cX7_piece 1 = .ok (.getfield 12, 3) := by decide +kernel
theorem dX7_piece_4 : decode cX7_piece 4 = .ok (.getfield 70, 3) := by decide +kernel
theorem dX7_piece_7 : decode cX7_piece 7 = .ok (.astore_n 3, 1) := by decide +kernel
theorem dX7_piece_8 : decode cX7_piece 8 = .ok (.iload_n 1, 1) := by decide +kernel
theorem dX7_piece_9 : decode cX7_piece 9 = .ok (.ifCond .lt 11, 3) := by decide +kernel
theorem dX7_piece_12 : decode cX7_piece 12 = .ok (.iload_n 1, 1) := by decide +kernel
theorem dX7_piece_13 : decode cX7_piece 13 = .ok (.aload_n 3, 1) := by decide +kernel
theorem dX7_piece_14 : decode cX7_piece 14 = .ok (.getfield 74, 3) := by decide +kernel
theorem dX7_piece_17 : decode cX7_piece 17 = .ok (.if_icmp .lt 5, 3) := by decide +kernel
theorem dX7_piece_20 : decode cX7_piece 20 = .ok (.iconst (-1), 1) := by decide +kernel
theorem dX7_piece_21 : decode cX7_piece 21 = .ok (.ireturn, 1) := by decide +kernel
theorem dX7_piece_22 : decode cX7_piece 22 = .ok (.iload_n 2, 1) := by decide +kernel
theorem dX7_piece_23 : decode cX7_piece 23 = .ok (.tableswitch 57 0 3 #[29, 36, 43, 50], 29) := by decide +kernel
theorem dX7_piece_52 : decode cX7_piece 52 = .ok (.aload_n 3, 1) := by decide +kernel
theorem dX7_piece_53 : decode cX7_piece 53 = .ok (.getfield 79, 3) := by decide +kernel
theorem dX7_piece_56 : decode cX7_piece 56 = .ok (.iload_n 1, 1) := by decide +kernel
theorem dX7_piece_57 : decode cX7_piece 57 = .ok (.iaload, 1) := by decide +kernel
theorem dX7_piece_58 : decode cX7_piece 58 = .ok (.ireturn, 1) := by decide +kernel
theorem dX7_piece_59 : decode cX7_piece 59 = .ok (.aload_n 3, 1) := by decide +kernel
theorem dX7_piece_60 : decode cX7_piece 60 = .ok (.getfield 83, 3) := by decide +kernel
theorem dX7_piece_63 : decode cX7_piece 63 = .ok (.iload_n 1, 1) := by decide +kernel
theorem dX7_piece_64 : decode cX7_piece 64 = .ok (.iaload, 1) := by decide +kernel
theorem dX7_piece_65 : decode cX7_piece 65 = .ok (.ireturn, 1) := by decide +kernel
theorem dX7_piece_66 : decode cX7_piece 66 = .ok (.aload_n 3, 1) := by decide +kernel
theorem dX7_piece_67 : decode cX7_piece 67 = .ok (.getfield 86, 3) := by decide +kernel
theorem dX7_piece_70 : decode cX7_piece 70 = .ok (.iload_n 1, 1) := by decide +kernel
theorem dX7_piece_71 : decode cX7_piece 71 = .ok (.iaload, 1) := by decide +kernel
theorem dX7_piece_72 : decode cX7_piece 72 = .ok (.ireturn, 1) := by decide +kernel
theorem dX7_piece_73 : decode cX7_piece 73 = .ok (.aload_n 3, 1) := by decide +kernel
theorem dX7_piece_74 : decode cX7_piece 74 = .ok (.getfield 89, 3) := by decide +kernel
theorem dX7_piece_77 : decode cX7_piece 77 = .ok (.iload_n 1, 1) := by decide +kernel
theorem dX7_piece_78 : decode cX7_piece 78 = .ok (.iaload, 1) := by decide +kernel
theorem dX7_piece_79 : decode cX7_piece 79 = .ok (.ireturn, 1) := by decide +kernel
theorem dX7_piece_80 : decode cX7_piece 80 = .ok (.iconst (-1), 1) := by decide +kernel
theorem dX7_piece_81 : decode cX7_piece 81 = .ok (.ireturn, 1) := by decide +kernel
set_option maxHeartbeats 4000000 in
set_option maxRecDepth 100000 in
theorem c_X7_piece_f (l : Launch) (D : va_G) (cA : Nat → ClassId) (ad : Nat → Nat) (o : Int64) (σ : Mem) (a : Int32) (b : Int32) (hF : Fr σ) (sz : Nat) : Met l yX7_piece (WY yX7_piece cX7_piece 4 (some .int)) (RM 0) (va_Pc [.ref (ad 66), .int a, .int b] (PW D cA ad o σ sz)) (va_Qi (fun r (σ9 : Mem) => r = -1 ∧ ∀ a9, 91 ≤ a9 → σ9 a9 = σ a9) (QW D cA ad o) (FA ad sz)) 0 0 (FA ad sz) := by
  refine ct_of (own := RX7) (k := 0) (Qf := va_Qi (fun r (σ9 : Mem) => r = -1 ∧ ∀ a9, 91 ≤ a9 → σ9 a9 = σ a9) (QW D cA ad o)) rfl (by decide) (Nat.le_of_ble_eq_true rfl) (fun p e s m below meth c ls C0 X hr hlk hP hl => ?_) sz
  have hS : va_S (FA ad s.heap.size) s.heap s.heap [] := va_S.rf
  have hl : lv_has ls 4 [(0, .ref (ad 66)), (1, .int a), (2, .int b)] := hl
  obtain ⟨hx, hb, hml, hown, hts⟩ := id C0
  refine lv_aload_n hx hb dX7_piece_0 rfl (lv_at hl 0 rfl) ?_
  refine gf_X7_12 C0 X hP 66 (q := 0) ⟨by decide, rfl⟩ (by omega) rfl dX7_piece_1 ?_
  refine gf_X7_70 C0 X hP 0 (q := 1) ⟨by decide, rfl⟩ (by omega) rfl dX7_piece_4 ?_
  refine lv_astore_n (lv' := [(3, .ref (ad 1)), (0, .ref (ad 66)), (1, .int a), (2, .int b)]) hx hb dX7_piece_7 rfl hl (by decide) rfl (fun ls hl => ?_)
  refine lv_iload_n hx hb dX7_piece_8 rfl (lv_at hl 2 rfl) ?_
  refine lv_if_lt (tgt := 20) hx hb dX7_piece_9 (by decide) (fun c_1 => ?_) (fun c_1 => ?_)
  · refine lv_iconst (v := (-1)) hx hb dX7_piece_20 (by decide) ?_
    exact r_iret C0 X hP hS hr hlk dX7_piece_21 ⟨rfl, fun _ _ => rfl⟩
  · refine lv_iload_n hx hb dX7_piece_12 rfl (lv_at hl 2 rfl) ?_
    refine lv_aload_n hx hb dX7_piece_13 rfl (lv_at hl 0 rfl) ?_
    refine gf_X7_74 C0 X hP 1 ⟨by decide, rfl⟩ dX7_piece_14 ?_
    refine lv_topE (y := 0) (Fr_pieces hF) ?_
    refine lv_icmp_lt (tgt := 22) hx hb dX7_piece_17 (by decide) (fun c_2 => absurd c_2 c_1) (fun c_2 => ?_)
    refine lv_iconst (v := (-1)) hx hb dX7_piece_20 (by decide) ?_
    exact r_iret C0 X hP hS hr hlk dX7_piece_21 ⟨rfl, fun _ _ => rfl⟩
theorem dX7_room_0 : decode cX7_room 0 = .ok (.aload_n 0, 1) := by decide +kernel
theorem dX7_room_1 : decode cX7_room 1 = .ok (.getfield 12, 3) := by decide +kernel
theorem dX7_room_4 : decode cX7_room 4 = .ok (.getfield 70, 3) := by decide +kernel
theorem dX7_room_7 : decode cX7_room 7 = .ok (.astore_n 2, 1) := by decide +kernel
theorem dX7_room_8 : decode cX7_room 8 = .ok (.aload_n 2, 1) := by decide +kernel
theorem dX7_room_9 : decode cX7_room 9 = .ok (.getfield 74, 3) := by decide +kernel
theorem dX7_room_12 : decode cX7_room 12 = .ok (.ifCond .eq 15, 3) := by decide +kernel
theorem dX7_room_15 : decode cX7_room 15 = .ok (.iload_n 1, 1) := by decide +kernel
theorem dX7_room_16 : decode cX7_room 16 = .ok (.ifCond .lt 11, 3) := by decide +kernel
theorem dX7_room_19 : decode cX7_room 19 = .ok (.iload_n 1, 1) := by decide +kernel
theorem dX7_room_20 : decode cX7_room 20 = .ok (.aload_n 2, 1) := by decide +kernel
theorem dX7_room_21 : decode cX7_room 21 = .ok (.getfield 74, 3) := by decide +kernel
theorem dX7_room_24 : decode cX7_room 24 = .ok (.if_icmp .le 5, 3) := by decide +kernel
theorem dX7_room_27 : decode cX7_room 27 = .ok (.iconst (-1), 1) := by decide +kernel
theorem dX7_room_28 : decode cX7_room 28 = .ok (.ireturn, 1) := by decide +kernel
theorem dX7_room_29 : decode cX7_room 29 = .ok (.aload_n 2, 1) := by decide +kernel
theorem dX7_room_30 : decode cX7_room 30 = .ok (.iload_n 1, 1) := by decide +kernel
theorem dX7_room_31 : decode cX7_room 31 = .ok (.invokevirtual 92, 3) := by decide +kernel
theorem dX7_room_34 : decode cX7_room 34 = .ok (.ifCond .eq 12, 3) := by decide +kernel
theorem dX7_room_37 : decode cX7_room 37 = .ok (.aload_n 2, 1) := by decide +kernel
theorem dX7_room_38 : decode cX7_room 38 = .ok (.getfield 96, 3) := by decide +kernel
theorem dX7_room_41 : decode cX7_room 41 = .ok (.iload_n 1, 1) := by decide +kernel
theorem dX7_room_42 : decode cX7_room 42 = .ok (.iaload, 1) := by decide +kernel
theorem dX7_room_43 : decode cX7_room 43 = .ok (.goto 5, 3) := by decide +kernel
theorem dX7_room_46 : decode cX7_room 46 = .ok (.bipush (-4), 2) := by decide +kernel
theorem dX7_room_48 : decode cX7_room 48 = .ok (.ireturn, 1) := by decide +kernel
set_option maxHeartbeats 4000000 in
set_option maxRecDepth 100000 in
theorem c_X7_room_f (l : Launch) (D : va_G) (cA : Nat → ClassId) (ad : Nat → Nat) (o : Int64) (σ : Mem) (a : Int32) (hF : Fr σ) (sz : Nat) : Met l yX7_room (WY yX7_room cX7_room 3 (some .int)) (RM 0) (va_Pc [.ref (ad 66), .int a] (PW D cA ad o σ sz)) (va_Qi (fun r (σ9 : Mem) => r = -1 ∧ ∀ a9, 91 ≤ a9 → σ9 a9 = σ a9) (QW D cA ad o) (FA ad sz)) 0 0 (FA ad sz) := by
  refine ct_of (own := RX7) (k := 0) (Qf := va_Qi (fun r (σ9 : Mem) => r = -1 ∧ ∀ a9, 91 ≤ a9 → σ9 a9 = σ a9) (QW D cA ad o)) rfl (by decide) (Nat.le_of_ble_eq_true rfl) (fun p e s m below meth c ls C0 X hr hlk hP hl => ?_) sz
  have hS : va_S (FA ad s.heap.size) s.heap s.heap [] := va_S.rf
  have hl : lv_has ls 3 [(0, .ref (ad 66)), (1, .int a)] := hl
  obtain ⟨hx, hb, hml, hown, hts⟩ := id C0
  refine lv_aload_n hx hb dX7_room_0 rfl (lv_at hl 0 rfl) ?_
  refine gf_X7_12 C0 X hP 66 (q := 0) ⟨by decide, rfl⟩ (by omega) rfl dX7_room_1 ?_
  refine gf_X7_70 C0 X hP 0 (q := 1) ⟨by decide, rfl⟩ (by omega) rfl dX7_room_4 ?_
  refine lv_astore_n (lv' := [(2, .ref (ad 1)), (0, .ref (ad 66)), (1, .int a)]) hx hb dX7_room_7 rfl hl (by decide) rfl (fun ls hl => ?_)
  refine lv_aload_n hx hb dX7_room_8 rfl (lv_at hl 0 rfl) ?_
  refine gf_X7_74 C0 X hP 1 ⟨by decide, rfl⟩ dX7_room_9 ?_
  refine lv_topE (y := 0) (Fr_pieces hF) ?_
  refine lv_if_eq (tgt := 27) hx hb dX7_room_12 (by decide) (fun c_1 => ?_) (fun c_1 => absurd c_1 (by decide))
  refine lv_iconst (v := (-1)) hx hb dX7_room_27 (by decide) ?_
  exact r_iret C0 X hP hS hr hlk dX7_room_28 ⟨rfl, fun _ _ => rfl⟩
theorem dX7_cart_0 : decode cX7_cart 0 = .ok (.aload_n 0, 1) := by decide +kernel
theorem dX7_cart_1 : decode cX7_cart 1 = .ok (.getfield 12, 3) := by decide +kernel
theorem dX7_cart_4 : decode cX7_cart 4 = .ok (.iload_n 1, 1) := by decide +kernel
theorem dX7_cart_5 : decode cX7_cart 5 = .ok (.invokevirtual 99, 3) := by decide +kernel
theorem dX7_cart_8 : decode cX7_cart 8 = .ok (.astore_n 3, 1) := by decide +kernel
theorem dX7_cart_9 : decode cX7_cart 9 = .ok (.aload_n 3, 1) := by decide +kernel
theorem dX7_cart_10 : decode cX7_cart 10 = .ok (.ifnonnull 5, 3) := by decide +kernel
theorem dX7_cart_13 : decode cX7_cart 13 = .ok (.iconst (-1), 1) := by decide +kernel
theorem dX7_cart_14 : decode cX7_cart 14 = .ok (.ireturn, 1) := by decide +kernel
theorem dX7_cart_15 : decode cX7_cart 15 = .ok (.iload_n 2, 1) := by decide +kernel
theorem dX7_cart_16 : decode cX7_cart 16 = .ok (.tableswitch 77 0 4 #[36, 49, 54, 67, 72], 36) := by decide +kernel
theorem dX7_cart_52 : decode cX7_cart 52 = .ok (.aload_n 3, 1) := by decide +kernel
theorem dX7_cart_53 : decode cX7_cart 53 = .ok (.getfield 103, 3) := by decide +kernel
theorem dX7_cart_56 : decode cX7_cart 56 = .ok (.ifCond .eq 7, 3) := by decide +kernel
theorem dX7_cart_59 : decode cX7_cart 59 = .ok (.iconst 1, 1) := by decide +kernel
theorem dX7_cart_60 : decode cX7_cart 60 = .ok (.goto 4, 3) := by decide +kernel
theorem dX7_cart_63 : decode cX7_cart 63 = .ok (.iconst 0, 1) := by decide +kernel
theorem dX7_cart_64 : decode cX7_cart 64 = .ok (.ireturn, 1) := by decide +kernel
theorem dX7_cart_65 : decode cX7_cart 65 = .ok (.aload_n 3, 1) := by decide +kernel
theorem dX7_cart_66 : decode cX7_cart 66 = .ok (.getfield 109, 3) := by decide +kernel
theorem dX7_cart_69 : decode cX7_cart 69 = .ok (.ireturn, 1) := by decide +kernel
theorem dX7_cart_70 : decode cX7_cart 70 = .ok (.aload_n 3, 1) := by decide +kernel
theorem dX7_cart_71 : decode cX7_cart 71 = .ok (.getfield 112, 3) := by decide +kernel
theorem dX7_cart_74 : decode cX7_cart 74 = .ok (.ifCond .eq 7, 3) := by decide +kernel
theorem dX7_cart_77 : decode cX7_cart 77 = .ok (.iconst 1, 1) := by decide +kernel
theorem dX7_cart_78 : decode cX7_cart 78 = .ok (.goto 4, 3) := by decide +kernel
theorem dX7_cart_81 : decode cX7_cart 81 = .ok (.iconst 0, 1) := by decide +kernel
theorem dX7_cart_82 : decode cX7_cart 82 = .ok (.ireturn, 1) := by decide +kernel
theorem dX7_cart_83 : decode cX7_cart 83 = .ok (.aload_n 3, 1) := by decide +kernel
theorem dX7_cart_84 : decode cX7_cart 84 = .ok (.getfield 115, 3) := by decide +kernel
theorem dX7_cart_87 : decode cX7_cart 87 = .ok (.ireturn, 1) := by decide +kernel
theorem dX7_cart_88 : decode cX7_cart 88 = .ok (.aload_n 3, 1) := by decide +kernel
theorem dX7_cart_89 : decode cX7_cart 89 = .ok (.getfield 118, 3) := by decide +kernel
theorem dX7_cart_92 : decode cX7_cart 92 = .ok (.ireturn, 1) := by decide +kernel
theorem dX7_cart_93 : decode cX7_cart 93 = .ok (.iconst (-1), 1) := by decide +kernel
theorem dX7_cart_94 : decode cX7_cart 94 = .ok (.ireturn, 1) := by decide +kernel
set_option maxHeartbeats 4000000 in
set_option maxRecDepth 100000 in
theorem c_X7_cart_f (l : Launch) (D : va_G) (cA : Nat → ClassId) (ad : Nat → Nat) (o : Int64) (σ : Mem) (a : Int32) (b : Int32) (hF : Fr σ) (sz : Nat) : Met l yX7_cart (WY yX7_cart cX7_cart 4 (some .int)) (RM 1) (va_Pc [.ref (ad 66), .int a, .int b] (PW D cA ad o σ sz)) (va_Qi (fun r (σ9 : Mem) => r = -1 ∧ ∀ a9, 91 ≤ a9 → σ9 a9 = σ a9) (QW D cA ad o) (FA ad sz)) 0 0 (FA ad sz) := by
  refine ct_of (own := RX7) (k := 1) (Qf := va_Qi (fun r (σ9 : Mem) => r = -1 ∧ ∀ a9, 91 ≤ a9 → σ9 a9 = σ a9) (QW D cA ad o)) rfl (by decide) (Nat.le_of_ble_eq_true rfl) (fun p e s m below meth c ls C0 X hr hlk hP hl => ?_) sz
  have hS : va_S (FA ad s.heap.size) s.heap s.heap [] := va_S.rf
  have hl : lv_has ls 4 [(0, .ref (ad 66)), (1, .int a), (2, .int b)] := hl
  obtain ⟨hx, hb, hml, hown, hts⟩ := id C0
  refine lv_aload_n hx hb dX7_cart_0 rfl (lv_at hl 0 rfl) ?_
  refine gf_X7_12 C0 X hP 66 (q := 0) ⟨by decide, rfl⟩ (by omega) rfl dX7_cart_1 ?_
  refine lv_iload_n hx hb dX7_cart_4 rfl (lv_at hl 1 rfl) ?_
  refine r_cq X hS (r_runV (As := [.int a]) (rest := []) C0 X hP L_X7_99 (fun sz => c_X6_cartAt l D cA ad o σ 0 a (by decide) sz) (show 0 < 106 ∧ kd 0 = (6, 11) from ⟨by decide, rfl⟩).1 (show 0 < 106 ∧ kd 0 = (6, 11) from ⟨by decide, rfl⟩).2 (by decide) rfl ⟨Nat.le_of_ble_eq_true rfl, Nat.le_of_ble_eq_true rfl⟩ rfl hl.1 rfl (Nat.le_of_ble_eq_true rfl) dX7_cart_5 ⟨Nat.zero_le _, Nat.zero_le _⟩) (fun σ9 H locs hw hP hS => ?_) (fun x9 σ9 H locs hw hP hS => ?_)
  · rw [hw.1] at hP
    have h_1 := hw.2
    refine lv_astore_nN (lv' := [(3, .null), (0, .ref (ad 66)), (1, .int a), (2, .int b)]) hx hb dX7_cart_8 rfl hl (by decide) rfl (fun ls hl => ?_)
    refine lv_aload_nN hx hb dX7_cart_9 rfl (lv_at hl 0 rfl) ?_
    refine lv_ifnonnullN hx hb dX7_cart_10 ?_
    refine lv_iconst (v := (-1)) hx hb dX7_cart_13 (by decide) ?_
    exact r_iret C0 X hP hS hr hlk dX7_cart_14 ⟨rfl, fun _ _ => rfl⟩
  · rw [hw.1] at hP
    obtain ⟨-, j_2, hj_2, ej_2, lj_2, rfl⟩ := hw
    exact absurd lj_2 (by rw [show σ (22 * 0) 2 = 0 from Fr_count hF, ej_2]; exact nI_pos (by omega))
theorem dX7_backs_0 : decode cX7_backs 0 = .ok (.aload_n 0, 1) := by decide +kernel
theorem dX7_backs_1 : decode cX7_backs 1 = .ok (.getfield 12, 3) := by decide +kernel
theorem dX7_backs_4 : decode cX7_backs 4 = .ok (.iload_n 1, 1) := by decide +kernel
theorem dX7_backs_5 : decode cX7_backs 5 = .ok (.invokevirtual 99, 3) := by decide +kernel
theorem dX7_backs_8 : decode cX7_backs 8 = .ok (.astore_n 3, 1) := by decide +kernel
theorem dX7_backs_9 : decode cX7_backs 9 = .ok (.aload_n 3, 1) := by decide +kernel
theorem dX7_backs_10 : decode cX7_backs 10 = .ok (.ifnull 12, 3) := by decide +kernel
theorem dX7_backs_13 : decode cX7_backs 13 = .ok (.iload_n 2, 1) := by decide +kernel
theorem dX7_backs_14 : decode cX7_backs 14 = .ok (.ifCond .lt 8, 3) := by decide +kernel
theorem dX7_backs_17 : decode cX7_backs 17 = .ok (.iload_n 2, 1) := by decide +kernel
theorem dX7_backs_18 : decode cX7_backs 18 = .ok (.iconst 3, 1) := by decide +kernel
theorem dX7_backs_19 : decode cX7_backs 19 = .ok (.if_icmp .le 5, 3) := by decide +kernel
theorem dX7_backs_22 : decode cX7_backs 22 = .ok (.iconst (-1), 1) := by decide +kernel
theorem dX7_backs_23 : decode cX7_backs 23 = .ok (.ireturn, 1) := by decide +kernel
theorem dX7_backs_24 : decode cX7_backs 24 = .ok (.aload_n 3, 1) := by decide +kernel
theorem dX7_backs_25 : decode cX7_backs 25 = .ok (.getfield 115, 3) := by decide +kernel
theorem dX7_backs_28 : decode cX7_backs 28 = .ok (.istore 4, 2) := by decide +kernel
theorem dX7_backs_30 : decode cX7_backs 30 = .ok (.aload_n 3, 1) := by decide +kernel
theorem dX7_backs_31 : decode cX7_backs 31 = .ok (.iload_n 2, 1) := by decide +kernel
theorem dX7_backs_32 : decode cX7_backs 32 = .ok (.putfield 115, 3) := by decide +kernel
theorem dX7_backs_35 : decode cX7_backs 35 = .ok (.iload 4, 2) := by decide +kernel
theorem dX7_backs_37 : decode cX7_backs 37 = .ok (.ireturn, 1) := by decide +kernel
set_option maxHeartbeats 4000000 in
set_option maxRecDepth 100000 in
theorem c_X7_backs_f (l : Launch) (D : va_G) (cA : Nat → ClassId) (ad : Nat → Nat) (o : Int64) (σ : Mem) (a : Int32) (b : Int32) (hF : Fr σ) (sz : Nat) : Met l yX7_backs (WY yX7_backs cX7_backs 5 (some .int)) (RM 1) (va_Pc [.ref (ad 66), .int a, .int b] (PW D cA ad o σ sz)) (va_Qi (fun r (σ9 : Mem) => r = -1 ∧ ∀ a9, 91 ≤ a9 → σ9 a9 = σ a9) (QW D cA ad o) (FA ad sz)) 0 0 (FA ad sz) := by
  refine ct_of (own := RX7) (k := 1) (Qf := va_Qi (fun r (σ9 : Mem) => r = -1 ∧ ∀ a9, 91 ≤ a9 → σ9 a9 = σ a9) (QW D cA ad o)) rfl (by decide) (Nat.le_of_ble_eq_true rfl) (fun p e s m below meth c ls C0 X hr hlk hP hl => ?_) sz
  have hS : va_S (FA ad s.heap.size) s.heap s.heap [] := va_S.rf
  have hl : lv_has ls 5 [(0, .ref (ad 66)), (1, .int a), (2, .int b)] := hl
  obtain ⟨hx, hb, hml, hown, hts⟩ := id C0
  refine lv_aload_n hx hb dX7_backs_0 rfl (lv_at hl 0 rfl) ?_
  refine gf_X7_12 C0 X hP 66 (q := 0) ⟨by decide, rfl⟩ (by omega) rfl dX7_backs_1 ?_
  refine lv_iload_n hx hb dX7_backs_4 rfl (lv_at hl 1 rfl) ?_
  refine r_cq X hS (r_runV (As := [.int a]) (rest := []) C0 X hP L_X7_99 (fun sz => c_X6_cartAt l D cA ad o σ 0 a (by decide) sz) (show 0 < 106 ∧ kd 0 = (6, 11) from ⟨by decide, rfl⟩).1 (show 0 < 106 ∧ kd 0 = (6, 11) from ⟨by decide, rfl⟩).2 (by decide) rfl ⟨Nat.le_of_ble_eq_true rfl, Nat.le_of_ble_eq_true rfl⟩ rfl hl.1 rfl (Nat.le_of_ble_eq_true rfl) dX7_backs_5 ⟨Nat.zero_le _, Nat.zero_le _⟩) (fun σ9 H locs hw hP hS => ?_) (fun x9 σ9 H locs hw hP hS => ?_)
  · rw [hw.1] at hP
    have h_1 := hw.2
    refine lv_astore_nN (lv' := [(3, .null), (0, .ref (ad 66)), (1, .int a), (2, .int b)]) hx hb dX7_backs_8 rfl hl (by decide) rfl (fun ls hl => ?_)
    refine lv_aload_nN hx hb dX7_backs_9 rfl (lv_at hl 0 rfl) ?_
    refine lv_ifnullN (tgt := 22) hx hb dX7_backs_10 (by decide) ?_
    refine lv_iconst (v := (-1)) hx hb dX7_backs_22 (by decide) ?_
    exact r_iret C0 X hP hS hr hlk dX7_backs_23 ⟨rfl, fun _ _ => rfl⟩
  · rw [hw.1] at hP
    obtain ⟨-, j_2, hj_2, ej_2, lj_2, rfl⟩ := hw
    exact absurd lj_2 (by rw [show σ (22 * 0) 2 = 0 from Fr_count hF, ej_2]; exact nI_pos (by omega))
theorem dX7_village_0 : decode cX7_village 0 = .ok (.iload_n 1, 1) := by decide +kernel
theorem dX7_village_1 : decode cX7_village 1 = .ok (.ifCond .lt 8, 3) := by decide +kernel
theorem dX7_village_4 : decode cX7_village 4 = .ok (.iload_n 1, 1) := by decide +kernel
theorem dX7_village_5 : decode cX7_village 5 = .ok (.iconst 3, 1) := by decide +kernel
theorem dX7_village_6 : decode cX7_village 6 = .ok (.if_icmp .lt 5, 3) := by decide +kernel
theorem dX7_village_9 : decode cX7_village 9 = .ok (.iconst (-1), 1) := by decide +kernel
theorem dX7_village_10 : decode cX7_village 10 = .ok (.ireturn, 1) := by decide +kernel
theorem dX7_village_11 : decode cX7_village 11 = .ok (.iload_n 2, 1) := by decide +kernel
theorem dX7_village_12 : decode cX7_village 12 = .ok (.ifCond .ne 16, 3) := by decide +kernel
theorem dX7_village_15 : decode cX7_village 15 = .ok (.aload_n 0, 1) := by decide +kernel
theorem dX7_village_16 : decode cX7_village 16 = .ok (.getfield 12, 3) := by decide +kernel
theorem dX7_village_19 : decode cX7_village 19 = .ok (.getfield 70, 3) := by decide +kernel
theorem dX7_village_22 : decode cX7_village 22 = .ok (.getfield 121, 3) := by decide +kernel
theorem dX7_village_25 : decode cX7_village 25 = .ok (.iload_n 1, 1) := by decide +kernel
theorem dX7_village_26 : decode cX7_village 26 = .ok (.iaload, 1) := by decide +kernel
theorem dX7_village_27 : decode cX7_village 27 = .ok (.ireturn, 1) := by decide +kernel
theorem dX7_village_28 : decode cX7_village 28 = .ok (.iload_n 2, 1) := by decide +kernel
theorem dX7_village_29 : decode cX7_village 29 = .ok (.iconst 1, 1) := by decide +kernel
theorem dX7_village_30 : decode cX7_village 30 = .ok (.if_icmp .ne 16, 3) := by decide +kernel
theorem dX7_village_33 : decode cX7_village 33 = .ok (.aload_n 0, 1) := by decide +kernel
theorem dX7_village_34 : decode cX7_village 34 = .ok (.getfield 12, 3) := by decide +kernel
theorem dX7_village_37 : decode cX7_village 37 = .ok (.getfield 70, 3) := by decide +kernel
theorem dX7_village_40 : decode cX7_village 40 = .ok (.getfield 124, 3) := by decide +kernel
theorem dX7_village_43 : decode cX7_village 43 = .ok (.iload_n 1, 1) := by decide +kernel
theorem dX7_village_44 : decode cX7_village 44 = .ok (.iaload, 1) := by decide +kernel
theorem dX7_village_45 : decode cX7_village 45 = .ok (.ireturn, 1) := by decide +kernel
theorem dX7_village_46 : decode cX7_village 46 = .ok (.iconst (-1), 1) := by decide +kernel
theorem dX7_village_47 : decode cX7_village 47 = .ok (.ireturn, 1) := by decide +kernel
set_option maxHeartbeats 4000000 in
set_option maxRecDepth 100000 in
theorem c_X7_village_f (l : Launch) (D : va_G) (cA : Nat → ClassId) (ad : Nat → Nat) (o : Int64) (σ : Mem) (v : Int32) (w : Int32) (hF : Fr σ) (sz : Nat) : Met l yX7_village (WY yX7_village cX7_village 3 (some .int)) (RM 0) (va_Pc [.ref (ad 66), .int v, .int w] (PW D cA ad o σ sz)) (va_Qi (fun r (σ9 : Mem) => r = (if v < 0 ∨ 3 ≤ v then -1 else if w = 0 ∨ w = 1 then 0 else -1) ∧ ∀ a9, 91 ≤ a9 → σ9 a9 = σ a9) (QW D cA ad o) (FA ad sz)) 0 0 (FA ad sz) := by
  refine ct_of (own := RX7) (k := 0) (Qf := va_Qi (fun r (σ9 : Mem) => r = (if v < 0 ∨ 3 ≤ v then -1 else if w = 0 ∨ w = 1 then 0 else -1) ∧ ∀ a9, 91 ≤ a9 → σ9 a9 = σ a9) (QW D cA ad o)) rfl (by decide) (Nat.le_of_ble_eq_true rfl) (fun p e s m below meth c ls C0 X hr hlk hP hl => ?_) sz
  have hS : va_S (FA ad s.heap.size) s.heap s.heap [] := va_S.rf
  have hl : lv_has ls 3 [(0, .ref (ad 66)), (1, .int v), (2, .int w)] := hl
  obtain ⟨hx, hb, hml, hown, hts⟩ := id C0
  refine lv_iload_n hx hb dX7_village_0 rfl (lv_at hl 1 rfl) ?_
  refine lv_if_lt (tgt := 9) hx hb dX7_village_1 (by decide) (fun c_1 => ?_) (fun c_1 => ?_)
  · refine lv_iconst (v := (-1)) hx hb dX7_village_9 (by decide) ?_
    exact r_iret C0 X hP hS hr hlk dX7_village_10 ⟨(by simp only [c_1, Int32.not_le.mpr c_1, if_true, if_false, ite_true, ite_false, true_and, and_true, false_and, and_false, true_or, or_true, false_or, or_false, not_true_eq_false, not_false_eq_true, ne_eq, and_self, or_self]; try rfl), fun _ _ => rfl⟩
  · refine lv_iload_n hx hb dX7_village_4 rfl (lv_at hl 1 rfl) ?_
    refine lv_iconst (v := 3) hx hb dX7_village_5 (by decide) ?_
    refine lv_icmp_lt (tgt := 11) hx hb dX7_village_6 (by decide) (fun c_2 => ?_) (fun c_2 => ?_)
    · obtain ⟨v1, hv1, ev1⟩ : ∃ j : Nat, j < 3 ∧ v = nI j := ixN (M := 3) (by decide) c_1 c_2
      refine lv_iload_n hx hb dX7_village_11 rfl (lv_at hl 2 rfl) ?_
      refine lv_if_ne (tgt := 28) hx hb dX7_village_12 (by decide) (fun c_3 => ?_) (fun c_3 => ?_)
      · refine lv_iload_n hx hb dX7_village_28 rfl (lv_at hl 2 rfl) ?_
        refine lv_iconst (v := 1) hx hb dX7_village_29 (by decide) ?_
        refine lv_icmp_ne (tgt := 46) hx hb dX7_village_30 (by decide) (fun c_4 => ?_) (fun c_4 => ?_)
        · refine lv_iconst (v := (-1)) hx hb dX7_village_46 (by decide) ?_
          exact r_iret C0 X hP hS hr hlk dX7_village_47 ⟨(by simp only [c_1, c_2, c_3, c_4, Int32.not_lt.mp c_1, Int32.not_le.mpr c_2, if_true, if_false, ite_true, ite_false, true_and, and_true, false_and, and_false, true_or, or_true, false_or, or_false, not_true_eq_false, not_false_eq_true, ne_eq, and_self, or_self]; try rfl), fun _ _ => rfl⟩
        · refine lv_aload_n hx hb dX7_village_33 rfl (lv_at hl 0 rfl) ?_
          refine gf_X7_12 C0 X hP 66 (q := 0) ⟨by decide, rfl⟩ (by omega) rfl dX7_village_34 ?_
          refine gf_X7_70 C0 X hP 0 (q := 1) ⟨by decide, rfl⟩ (by omega) rfl dX7_village_37 ?_
          refine gf_X7_124 C0 X hP 1 (q := 12) ⟨by decide, rfl⟩ (by omega) rfl dX7_village_40 ?_
          refine lv_iload_n hx hb dX7_village_43 rfl (lv_at hl 1 rfl) ?_
          refine r_ialdN C0 X hP 12 (k := v1) ⟨by decide, rfl⟩ ev1 hv1 dX7_village_44 ?_
          refine lv_topE (y := 0) (Fr_fig hF hv1) ?_
          exact r_iret C0 X hP hS hr hlk dX7_village_45 ⟨(by simp only [c_1, c_2, c_3, c_4, Int32.not_lt.mp c_1, Int32.not_le.mpr c_2, if_true, if_false, ite_true, ite_false, true_and, and_true, false_and, and_false, true_or, or_true, false_or, or_false, not_true_eq_false, not_false_eq_true, ne_eq, and_self, or_self]; try rfl), fun _ _ => rfl⟩
      · refine lv_aload_n hx hb dX7_village_15 rfl (lv_at hl 0 rfl) ?_
        refine gf_X7_12 C0 X hP 66 (q := 0) ⟨by decide, rfl⟩ (by omega) rfl dX7_village_16 ?_
        refine gf_X7_70 C0 X hP 0 (q := 1) ⟨by decide, rfl⟩ (by omega) rfl dX7_village_19 ?_
        refine gf_X7_121 C0 X hP 1 (q := 11) ⟨by decide, rfl⟩ (by omega) rfl dX7_village_22 ?_
        refine lv_iload_n hx hb dX7_village_25 rfl (lv_at hl 1 rfl) ?_
        refine r_ialdN C0 X hP 11 (k := v1) ⟨by decide, rfl⟩ ev1 hv1 dX7_village_26 ?_
        refine lv_topE (y := 0) (Fr_kind hF hv1) ?_
        exact r_iret C0 X hP hS hr hlk dX7_village_27 ⟨(by simp only [c_1, c_2, c_3, Int32.not_lt.mp c_1, Int32.not_le.mpr c_2, if_true, if_false, ite_true, ite_false, true_and, and_true, false_and, and_false, true_or, or_true, false_or, or_false, not_true_eq_false, not_false_eq_true, ne_eq, and_self, or_self]; try rfl), fun _ _ => rfl⟩
    · refine lv_iconst (v := (-1)) hx hb dX7_village_9 (by decide) ?_
      exact r_iret C0 X hP hS hr hlk dX7_village_10 ⟨(by simp only [c_1, c_2, Int32.not_lt.mp c_1, Int32.not_lt.mp c_2, if_true, if_false, ite_true, ite_false, true_and, and_true, false_and, and_false, true_or, or_true, false_or, or_false, not_true_eq_false, not_false_eq_true, ne_eq, and_self, or_self]; try rfl), fun _ _ => rfl⟩
theorem dX7_rule_0 : decode cX7_rule 0 = .ok (.aload_n 0, 1) := by decide +kernel
theorem dX7_rule_1 : decode cX7_rule 1 = .ok (.iload_n 1, 1) := by decide +kernel
theorem dX7_rule_2 : decode cX7_rule 2 = .ok (.invokevirtual 50, 3) := by decide +kernel
theorem dX7_rule_5 : decode cX7_rule 5 = .ok (.astore_n 3, 1) := by decide +kernel
theorem dX7_rule_6 : decode cX7_rule 6 = .ok (.aload_n 3, 1) := by decide +kernel
theorem dX7_rule_7 : decode cX7_rule 7 = .ok (.ifnull 12, 3) := by decide +kernel
theorem dX7_rule_10 : decode cX7_rule 10 = .ok (.iload_n 2, 1) := by decide +kernel
theorem dX7_rule_11 : decode cX7_rule 11 = .ok (.ifCond .lt 8, 3) := by decide +kernel
theorem dX7_rule_14 : decode cX7_rule 14 = .ok (.iload_n 2, 1) := by decide +kernel
theorem dX7_rule_15 : decode cX7_rule 15 = .ok (.iconst 3, 1) := by decide +kernel
theorem dX7_rule_16 : decode cX7_rule 16 = .ok (.if_icmp .lt 5, 3) := by decide +kernel
theorem dX7_rule_19 : decode cX7_rule 19 = .ok (.iconst (-1), 1) := by decide +kernel
theorem dX7_rule_20 : decode cX7_rule 20 = .ok (.ireturn, 1) := by decide +kernel
theorem dX7_rule_21 : decode cX7_rule 21 = .ok (.aload_n 3, 1) := by decide +kernel
theorem dX7_rule_22 : decode cX7_rule 22 = .ok (.getfield 54, 3) := by decide +kernel
theorem dX7_rule_25 : decode cX7_rule 25 = .ok (.ifCond .ne 6, 3) := by decide +kernel
theorem dX7_rule_28 : decode cX7_rule 28 = .ok (.bipush (-11), 2) := by decide +kernel
theorem dX7_rule_30 : decode cX7_rule 30 = .ok (.ireturn, 1) := by decide +kernel
theorem dX7_rule_31 : decode cX7_rule 31 = .ok (.aload_n 3, 1) := by decide +kernel
theorem dX7_rule_32 : decode cX7_rule 32 = .ok (.getfield 54, 3) := by decide +kernel
theorem dX7_rule_35 : decode cX7_rule 35 = .ok (.iconst 1, 1) := by decide +kernel
theorem dX7_rule_36 : decode cX7_rule 36 = .ok (.if_icmp .eq 6, 3) := by decide +kernel
theorem dX7_rule_39 : decode cX7_rule 39 = .ok (.bipush (-12), 2) := by decide +kernel
theorem dX7_rule_41 : decode cX7_rule 41 = .ok (.ireturn, 1) := by decide +kernel
theorem dX7_rule_42 : decode cX7_rule 42 = .ok (.aload_n 0, 1) := by decide +kernel
theorem dX7_rule_43 : decode cX7_rule 43 = .ok (.getfield 12, 3) := by decide +kernel
theorem dX7_rule_46 : decode cX7_rule 46 = .ok (.getfield 70, 3) := by decide +kernel
theorem dX7_rule_49 : decode cX7_rule 49 = .ok (.iload_n 2, 1) := by decide +kernel
theorem dX7_rule_50 : decode cX7_rule 50 = .ok (.aload_n 3, 1) := by decide +kernel
theorem dX7_rule_51 : decode cX7_rule 51 = .ok (.getfield 127, 3) := by decide +kernel
theorem dX7_rule_54 : decode cX7_rule 54 = .ok (.aload_n 3, 1) := by decide +kernel
theorem dX7_rule_55 : decode cX7_rule 55 = .ok (.getfield 129, 3) := by decide +kernel
theorem dX7_rule_58 : decode cX7_rule 58 = .ok (.invokevirtual 131, 3) := by decide +kernel
theorem dX7_rule_61 : decode cX7_rule 61 = .ok (.pop, 1) := by decide +kernel
theorem dX7_rule_62 : decode cX7_rule 62 = .ok (.aload_n 3, 1) := by decide +kernel
theorem dX7_rule_63 : decode cX7_rule 63 = .ok (.getfield 127, 3) := by decide +kernel
theorem dX7_rule_66 : decode cX7_rule 66 = .ok (.ireturn, 1) := by decide +kernel
set_option maxHeartbeats 4000000 in
set_option maxRecDepth 100000 in
theorem c_X7_rule_f (l : Launch) (D : va_G) (cA : Nat → ClassId) (ad : Nat → Nat) (o : Int64) (σ : Mem) (d : Int32) (v : Int32) (hF : Fr σ) (sz : Nat) : Met l yX7_rule (WY yX7_rule cX7_rule 4 (some .int)) (RM 1) (va_Pc [.ref (ad 66), .int d, .int v] (PW D cA ad o σ sz)) (va_Qi (fun r (σ9 : Mem) => r = (if (d < 0 ∨ 8 ≤ d) ∨ v < 0 ∨ 3 ≤ v then -1 else -11) ∧ ∀ a9, 91 ≤ a9 → σ9 a9 = σ a9) (QW D cA ad o) (FA ad sz)) 0 0 (FA ad sz) := by
  refine ct_of (own := RX7) (k := 1) (Qf := va_Qi (fun r (σ9 : Mem) => r = (if (d < 0 ∨ 8 ≤ d) ∨ v < 0 ∨ 3 ≤ v then -1 else -11) ∧ ∀ a9, 91 ≤ a9 → σ9 a9 = σ a9) (QW D cA ad o)) rfl (by decide) (Nat.le_of_ble_eq_true rfl) (fun p e s m below meth c ls C0 X hr hlk hP hl => ?_) sz
  have hS : va_S (FA ad s.heap.size) s.heap s.heap [] := va_S.rf
  have hl : lv_has ls 4 [(0, .ref (ad 66)), (1, .int d), (2, .int v)] := hl
  obtain ⟨hx, hb, hml, hown, hts⟩ := id C0
  refine lv_aload_n hx hb dX7_rule_0 rfl (lv_at hl 0 rfl) ?_
  refine lv_iload_n hx hb dX7_rule_1 rfl (lv_at hl 1 rfl) ?_
  refine r_cq X hS (r_runV (As := [.int d]) (rest := []) C0 X hP L_X7_50 (fun sz => c_X7_shelfAt l D cA ad o σ d  sz) (show 66 < 106 ∧ kd 66 = (7, 8) from ⟨by decide, rfl⟩).1 (show 66 < 106 ∧ kd 66 = (7, 8) from ⟨by decide, rfl⟩).2 (by decide) rfl ⟨Nat.le_of_ble_eq_true rfl, Nat.le_of_ble_eq_true rfl⟩ rfl hl.1 rfl (Nat.le_of_ble_eq_true rfl) dX7_rule_2 ⟨Nat.zero_le _, Nat.zero_le _⟩) (fun σ9 H locs hw hP hS => ?_) (fun x9 σ9 H locs hw hP hS => ?_)
  · rw [hw.1] at hP
    have h_1 := hw.2
    refine lv_astore_nN (lv' := [(3, .null), (0, .ref (ad 66)), (1, .int d), (2, .int v)]) hx hb dX7_rule_5 rfl hl (by decide) rfl (fun ls hl => ?_)
    refine lv_aload_nN hx hb dX7_rule_6 rfl (lv_at hl 0 rfl) ?_
    refine lv_ifnullN (tgt := 19) hx hb dX7_rule_7 (by decide) ?_
    refine lv_iconst (v := (-1)) hx hb dX7_rule_19 (by decide) ?_
    exact r_iret C0 X hP hS hr hlk dX7_rule_20 ⟨(by simp only [h_1, if_true, if_false, ite_true, ite_false, true_and, and_true, false_and, and_false, true_or, or_true, false_or, or_false, not_true_eq_false, not_false_eq_true, ne_eq, and_self, or_self]; try rfl), fun _ _ => rfl⟩
  · rw [hw.1] at hP
    obtain ⟨-, j_2, hj_2, ej_2, rfl⟩ := hw
    have h_1 : ¬ (d < 0 ∨ 8 ≤ d) := by rw [ej_2]; exact nosh hj_2
    refine lv_astore_n (lv' := [(3, .ref (ad (68 + j_2))), (0, .ref (ad 66)), (1, .int d), (2, .int v)]) hx hb dX7_rule_5 rfl hl (by decide) rfl (fun ls hl => ?_)
    refine lv_aload_n hx hb dX7_rule_6 rfl (lv_at hl 0 rfl) ?_
    refine lv_ifnull hx hb dX7_rule_7 ?_
    refine lv_iload_n hx hb dX7_rule_10 rfl (lv_at hl 3 rfl) ?_
    refine lv_if_lt (tgt := 19) hx hb dX7_rule_11 (by decide) (fun c_3 => ?_) (fun c_3 => ?_)
    · refine lv_iconst (v := (-1)) hx hb dX7_rule_19 (by decide) ?_
      exact r_iret C0 X hP hS hr hlk dX7_rule_20 ⟨(by simp only [h_1, c_3, Int32.not_le.mpr c_3, if_true, if_false, ite_true, ite_false, true_and, and_true, false_and, and_false, true_or, or_true, false_or, or_false, not_true_eq_false, not_false_eq_true, ne_eq, and_self, or_self]; try rfl), fun _ _ => rfl⟩
    · refine lv_iload_n hx hb dX7_rule_14 rfl (lv_at hl 3 rfl) ?_
      refine lv_iconst (v := 3) hx hb dX7_rule_15 (by decide) ?_
      refine lv_icmp_lt (tgt := 21) hx hb dX7_rule_16 (by decide) (fun c_4 => ?_) (fun c_4 => ?_)
      · refine lv_aload_n hx hb dX7_rule_21 rfl (lv_at hl 0 rfl) ?_
        refine gf_X7_54 C0 X hP (68 + j_2) (kdS j_2 hj_2) dX7_rule_22 ?_
        refine lv_topE (y := 0) (Fr_holds hF hj_2) ?_
        refine lv_if_ne (tgt := 31) hx hb dX7_rule_25 (by decide) (fun c_5 => absurd c_5 (by decide)) (fun c_5 => ?_)
        refine lv_bipush (v := (-11)) hx hb dX7_rule_28 (by decide) ?_
        exact r_iret C0 X hP hS hr hlk dX7_rule_30 ⟨(by simp only [h_1, c_3, c_4, Int32.not_lt.mp c_3, Int32.not_le.mpr c_4, if_true, if_false, ite_true, ite_false, true_and, and_true, false_and, and_false, true_or, or_true, false_or, or_false, not_true_eq_false, not_false_eq_true, ne_eq, and_self, or_self]; try rfl), fun _ _ => rfl⟩
      · refine lv_iconst (v := (-1)) hx hb dX7_rule_19 (by decide) ?_
        exact r_iret C0 X hP hS hr hlk dX7_rule_20 ⟨(by simp only [h_1, c_3, c_4, Int32.not_lt.mp c_3, Int32.not_lt.mp c_4, if_true, if_false, ite_true, ite_false, true_and, and_true, false_and, and_false, true_or, or_true, false_or, or_false, not_true_eq_false, not_false_eq_true, ne_eq, and_self, or_self]; try rfl), fun _ _ => rfl⟩
theorem dX7_go_0 : decode cX7_go 0 = .ok (.iload_n 1, 1) := by decide +kernel
theorem dX7_go_1 : decode cX7_go 1 = .ok (.iconst 1, 1) := by decide +kernel
theorem dX7_go_2 : decode cX7_go 2 = .ok (.if_icmp .lt 10, 3) := by decide +kernel
theorem dX7_go_5 : decode cX7_go 5 = .ok (.iload_n 1, 1) := by decide +kernel
theorem dX7_go_6 : decode cX7_go 6 = .ok (.sipush 200, 3) := by decide +kernel
theorem dX7_go_9 : decode cX7_go 9 = .ok (.if_icmp .le 5, 3) := by decide +kernel
theorem dX7_go_12 : decode cX7_go 12 = .ok (.iconst (-1), 1) := by decide +kernel
theorem dX7_go_13 : decode cX7_go 13 = .ok (.ireturn, 1) := by decide +kernel
theorem dX7_go_14 : decode cX7_go 14 = .ok (.aload_n 0, 1) := by decide +kernel
theorem dX7_go_15 : decode cX7_go 15 = .ok (.invokevirtual 135, 3) := by decide +kernel
theorem dX7_go_18 : decode cX7_go 18 = .ok (.ifCond .ne 13, 3) := by decide +kernel
theorem dX7_go_21 : decode cX7_go 21 = .ok (.aload_n 0, 1) := by decide +kernel
theorem dX7_go_22 : decode cX7_go 22 = .ok (.getfield 12, 3) := by decide +kernel
theorem dX7_go_25 : decode cX7_go 25 = .ok (.invokevirtual 138, 3) := by decide +kernel
theorem dX7_go_28 : decode cX7_go 28 = .ok (.ifCond .eq 6, 3) := by decide +kernel
theorem dX7_go_31 : decode cX7_go 31 = .ok (.bipush (-3), 2) := by decide +kernel
theorem dX7_go_33 : decode cX7_go 33 = .ok (.ireturn, 1) := by decide +kernel
theorem dX7_go_34 : decode cX7_go 34 = .ok (.iconst 0, 1) := by decide +kernel
theorem dX7_go_35 : decode cX7_go 35 = .ok (.istore_n 2, 1) := by decide +kernel
theorem dX7_go_36 : decode cX7_go 36 = .ok (.iload_n 2, 1) := by decide +kernel
theorem dX7_go_37 : decode cX7_go 37 = .ok (.iload_n 1, 1) := by decide +kernel
theorem dX7_go_38 : decode cX7_go 38 = .ok (.if_icmp .ge 26, 3) := by decide +kernel
theorem dX7_go_41 : decode cX7_go 41 = .ok (.aload_n 0, 1) := by decide +kernel
theorem dX7_go_42 : decode cX7_go 42 = .ok (.getfield 12, 3) := by decide +kernel
theorem dX7_go_45 : decode cX7_go 45 = .ok (.invokevirtual 138, 3) := by decide +kernel
theorem dX7_go_48 : decode cX7_go 48 = .ok (.ifCond .ne 16, 3) := by decide +kernel
theorem dX7_go_51 : decode cX7_go 51 = .ok (.aload_n 0, 1) := by decide +kernel
theorem dX7_go_52 : decode cX7_go 52 = .ok (.getfield 12, 3) := by decide +kernel
theorem dX7_go_55 : decode cX7_go 55 = .ok (.invokevirtual 141, 3) := by decide +kernel
theorem dX7_go_58 : decode cX7_go 58 = .ok (.iinc 2 1, 3) := by decide +kernel
theorem dX7_go_61 : decode cX7_go 61 = .ok (.goto (-25), 3) := by decide +kernel
theorem dX7_go_64 : decode cX7_go 64 = .ok (.aload_n 0, 1) := by decide +kernel
theorem dX7_go_65 : decode cX7_go 65 = .ok (.getfield 12, 3) := by decide +kernel
theorem dX7_go_68 : decode cX7_go 68 = .ok (.getfield 144, 3) := by decide +kernel
theorem dX7_go_71 : decode cX7_go 71 = .ok (.ireturn, 1) := by decide +kernel
set_option maxHeartbeats 4000000 in
set_option maxRecDepth 100000 in
theorem c_X7_go_f (l : Launch) (D : va_G) (cA : Nat → ClassId) (ad : Nat → Nat) (o : Int64) (σ : Mem) (n : Int32) (hF : Fr σ) (sz : Nat) : Met l yX7_go (WY yX7_go cX7_go 3 (some .int)) (RM 1) (va_Pc [.ref (ad 66), .int n] (PW D cA ad o σ sz)) (va_Qi (fun r (σ9 : Mem) => r = (if n < 1 ∨ 200 < n then -1 else -3) ∧ ∀ a9, 91 ≤ a9 → σ9 a9 = σ a9) (QW D cA ad o) (FA ad sz)) 0 0 (FA ad sz) := by
  refine ct_of (own := RX7) (k := 1) (Qf := va_Qi (fun r (σ9 : Mem) => r = (if n < 1 ∨ 200 < n then -1 else -3) ∧ ∀ a9, 91 ≤ a9 → σ9 a9 = σ a9) (QW D cA ad o)) rfl (by decide) (Nat.le_of_ble_eq_true rfl) (fun p e s m below meth c ls C0 X hr hlk hP hl => ?_) sz
  have hS : va_S (FA ad s.heap.size) s.heap s.heap [] := va_S.rf
  have hl : lv_has ls 3 [(0, .ref (ad 66)), (1, .int n)] := hl
  obtain ⟨hx, hb, hml, hown, hts⟩ := id C0
  refine lv_iload_n hx hb dX7_go_0 rfl (lv_at hl 1 rfl) ?_
  refine lv_iconst (v := 1) hx hb dX7_go_1 (by decide) ?_
  refine lv_icmp_lt (tgt := 12) hx hb dX7_go_2 (by decide) (fun c_1 => ?_) (fun c_1 => ?_)
  · refine lv_iconst (v := (-1)) hx hb dX7_go_12 (by decide) ?_
    exact r_iret C0 X hP hS hr hlk dX7_go_13 ⟨(by simp only [c_1, Int32.not_le.mpr c_1, if_true, if_false, ite_true, ite_false, true_and, and_true, false_and, and_false, true_or, or_true, false_or, or_false, not_true_eq_false, not_false_eq_true, ne_eq, and_self, or_self]; try rfl), fun _ _ => rfl⟩
  · refine lv_iload_n hx hb dX7_go_5 rfl (lv_at hl 1 rfl) ?_
    refine lv_sipush (v := 200) hx hb dX7_go_6 (by decide) ?_
    refine lv_icmp_le (tgt := 14) hx hb dX7_go_9 (by decide) (fun c_2 => ?_) (fun c_2 => ?_)
    · refine lv_aload_n hx hb dX7_go_14 rfl (lv_at hl 0 rfl) ?_
      refine r_ci X hS (r_runV (As := []) (rest := []) C0 X hP L_X7_135 (fun sz => c_X7_cannotRun l D cA ad o σ   sz) (show 66 < 106 ∧ kd 66 = (7, 8) from ⟨by decide, rfl⟩).1 (show 66 < 106 ∧ kd 66 = (7, 8) from ⟨by decide, rfl⟩).2 (by decide) rfl ⟨Nat.le_of_ble_eq_true rfl, Nat.le_of_ble_eq_true rfl⟩ rfl hl.1 rfl (Nat.le_of_ble_eq_true rfl) dX7_go_15 ⟨Nat.zero_le _, Nat.zero_le _⟩) (fun r σ9 H locs hw hP hS => ?_)
      rw [hw.2] at hP
      obtain ⟨⟨b_3, rfl⟩ | ⟨b_3, rfl⟩, -⟩ := hw
      · refine lv_if_ne (tgt := 31) hx hb dX7_go_18 (by decide) (fun c_4 => ?_) (fun c_4 => absurd c_4 (by decide))
        refine lv_bipush (v := (-3)) hx hb dX7_go_31 (by decide) ?_
        exact r_iret C0 X hP hS hr hlk dX7_go_33 ⟨(by simp only [c_1, c_2, b_3, Int32.not_lt.mp c_1, Int32.not_lt.mpr c_2, if_true, if_false, ite_true, ite_false, true_and, and_true, false_and, and_false, true_or, or_true, false_or, or_false, not_true_eq_false, not_false_eq_true, ne_eq, and_self, or_self]; try rfl), fun _ _ => rfl⟩
      · exact absurd (Or.inl (Fr_pieces hF)) b_3
    · refine lv_iconst (v := (-1)) hx hb dX7_go_12 (by decide) ?_
      exact r_iret C0 X hP hS hr hlk dX7_go_13 ⟨(by simp only [c_1, c_2, Int32.not_lt.mp c_1, Int32.not_le.mp c_2, if_true, if_false, ite_true, ite_false, true_and, and_true, false_and, and_false, true_or, or_true, false_or, or_false, not_true_eq_false, not_false_eq_true, ne_eq, and_self, or_self]; try rfl), fun _ _ => rfl⟩
theorem dX7_anew_0 : decode cX7_anew 0 = .ok (.aload_n 0, 1) := by decide +kernel
theorem dX7_anew_1 : decode cX7_anew 1 = .ok (.getfield 12, 3) := by decide +kernel
theorem dX7_anew_4 : decode cX7_anew 4 = .ok (.invokevirtual 147, 3) := by decide +kernel
theorem dX7_anew_7 : decode cX7_anew 7 = .ok (.aload_n 0, 1) := by decide +kernel
theorem dX7_anew_8 : decode cX7_anew 8 = .ok (.getfield 12, 3) := by decide +kernel
theorem dX7_anew_11 : decode cX7_anew 11 = .ok (.getfield 150, 3) := by decide +kernel
theorem dX7_anew_14 : decode cX7_anew 14 = .ok (.ireturn, 1) := by decide +kernel
set_option maxHeartbeats 4000000 in
set_option maxRecDepth 100000 in
theorem c_X7_anew_f (l : Launch) (D : va_G) (cA : Nat → ClassId) (ad : Nat → Nat) (o : Int64) (σ : Mem)  (hF : Fr σ) (sz : Nat) : Met l yX7_anew (WY yX7_anew cX7_anew 1 (some .int)) (RM 2) (va_Pc [.ref (ad 66)] (PW D cA ad o σ sz)) (va_Qi (fun r (σ9 : Mem) => r = 0 ∧ ∀ a9, 91 ≤ a9 → σ9 a9 = σ a9) (QW D cA ad o) (FA ad sz)) 0 0 (FA ad sz) := by
  refine ct_of (own := RX7) (k := 2) (Qf := va_Qi (fun r (σ9 : Mem) => r = 0 ∧ ∀ a9, 91 ≤ a9 → σ9 a9 = σ a9) (QW D cA ad o)) rfl (by decide) (Nat.le_of_ble_eq_true rfl) (fun p e s m below meth c ls C0 X hr hlk hP hl => ?_) sz
  have hS : va_S (FA ad s.heap.size) s.heap s.heap [] := va_S.rf
  have hl : lv_has ls 1 [(0, .ref (ad 66))] := hl
  obtain ⟨hx, hb, hml, hown, hts⟩ := id C0
  refine lv_aload_n hx hb dX7_anew_0 rfl (lv_at hl 0 rfl) ?_
  refine gf_X7_12 C0 X hP 66 (q := 0) ⟨by decide, rfl⟩ (by omega) rfl dX7_anew_1 ?_
  refine r_cv X hS (r_runV (As := []) (rest := []) C0 X hP L_X7_147 (fun sz => c_X6_beginAnew l D cA ad o σ 0 (by decide) sz) (show 0 < 106 ∧ kd 0 = (6, 11) from ⟨by decide, rfl⟩).1 (show 0 < 106 ∧ kd 0 = (6, 11) from ⟨by decide, rfl⟩).2 (by decide) rfl ⟨Nat.le_of_ble_eq_true rfl, Nat.le_of_ble_eq_true rfl⟩ rfl hl.1 rfl (Nat.le_of_ble_eq_true rfl) dX7_anew_4 ⟨Nat.zero_le _, Nat.zero_le _⟩) (fun σ9 H locs hw hP hS => ?_)
  rw [hw] at hP
  refine lv_aload_n hx hb dX7_anew_7 rfl (lv_at hl 0 rfl) ?_
  refine gf_X7_12 C0 X hP 66 (q := 0) ⟨by decide, rfl⟩ (by omega) rfl dX7_anew_8 ?_
  refine gf_X7_150 C0 X hP 0 ⟨by decide, rfl⟩ dX7_anew_11 ?_
  refine lv_topE (y := (σ 0 2)) (by simp [tbeg, stm, upd, rz, tbegK]) ?_
  exact r_iret C0 X hP hS hr hlk dX7_anew_14 ⟨(Fr_count hF), fun a9 h9 => tbeg_ne _ (by omega)⟩
theorem dX7_where_0 : decode cX7_where 0 = .ok (.aload_n 0, 1) := by decide +kernel
theorem dX7_where_1 : decode cX7_where 1 = .ok (.getfield 12, 3) := by decide +kernel
theorem dX7_where_4 : decode cX7_where 4 = .ok (.iload_n 1, 1) := by decide +kernel
theorem dX7_where_5 : decode cX7_where 5 = .ok (.invokevirtual 99, 3) := by decide +kernel
theorem dX7_where_8 : decode cX7_where 8 = .ok (.astore_n 3, 1) := by decide +kernel
theorem dX7_where_9 : decode cX7_where 9 = .ok (.aload_n 3, 1) := by decide +kernel
theorem dX7_where_10 : decode cX7_where 10 = .ok (.ifnonnull 6, 3) := by decide +kernel
theorem dX7_where_13 : decode cX7_where 13 = .ok (.ldc 153, 2) := by decide +kernel
theorem dX7_where_15 : decode cX7_where 15 = .ok (.ireturn, 1) := by decide +kernel
theorem dX7_where_16 : decode cX7_where 16 = .ok (.iload_n 2, 1) := by decide +kernel
theorem dX7_where_17 : decode cX7_where 17 = .ok (.tableswitch 68 0 4 #[35, 40, 53, 58, 63], 35) := by decide +kernel
theorem dX7_where_52 : decode cX7_where 52 = .ok (.aload_n 3, 1) := by decide +kernel
theorem dX7_where_53 : decode cX7_where 53 = .ok (.getfield 154, 3) := by decide +kernel
theorem dX7_where_56 : decode cX7_where 56 = .ok (.ireturn, 1) := by decide +kernel
theorem dX7_where_57 : decode cX7_where 57 = .ok (.aload_n 3, 1) := by decide +kernel
theorem dX7_where_58 : decode cX7_where 58 = .ok (.getfield 157, 3) := by decide +kernel
theorem dX7_where_61 : decode cX7_where 61 = .ok (.ifCond .eq 7, 3) := by decide +kernel
theorem dX7_where_64 : decode cX7_where 64 = .ok (.iconst 1, 1) := by decide +kernel
theorem dX7_where_65 : decode cX7_where 65 = .ok (.goto 4, 3) := by decide +kernel
theorem dX7_where_68 : decode cX7_where 68 = .ok (.iconst 0, 1) := by decide +kernel
theorem dX7_where_69 : decode cX7_where 69 = .ok (.ireturn, 1) := by decide +kernel
theorem dX7_where_70 : decode cX7_where 70 = .ok (.aload_n 3, 1) := by decide +kernel
theorem dX7_where_71 : decode cX7_where 71 = .ok (.getfield 160, 3) := by decide +kernel
theorem dX7_where_74 : decode cX7_where 74 = .ok (.ireturn, 1) := by decide +kernel
theorem dX7_where_75 : decode cX7_where 75 = .ok (.aload_n 3, 1) := by decide +kernel
theorem dX7_where_76 : decode cX7_where 76 = .ok (.getfield 163, 3) := by decide +kernel
theorem dX7_where_79 : decode cX7_where 79 = .ok (.ireturn, 1) := by decide +kernel
theorem dX7_where_80 : decode cX7_where 80 = .ok (.aload_n 3, 1) := by decide +kernel
theorem dX7_where_81 : decode cX7_where 81 = .ok (.getfield 166, 3) := by decide +kernel
theorem dX7_where_84 : decode cX7_where 84 = .ok (.ireturn, 1) := by decide +kernel
theorem dX7_where_85 : decode cX7_where 85 = .ok (.ldc 153, 2) := by decide +kernel
theorem dX7_where_87 : decode cX7_where 87 = .ok (.ireturn, 1) := by decide +kernel
set_option maxHeartbeats 4000000 in
set_option maxRecDepth 100000 in
theorem c_X7_where_f (l : Launch) (D : va_G) (cA : Nat → ClassId) (ad : Nat → Nat) (o : Int64) (σ : Mem) (a : Int32) (b : Int32) (hF : Fr σ) (sz : Nat) : Met l yX7_where (WY yX7_where cX7_where 4 (some .int)) (RM 1) (va_Pc [.ref (ad 66), .int a, .int b] (PW D cA ad o σ sz)) (va_Qi (fun r (σ9 : Mem) => r = -1000000001 ∧ ∀ a9, 91 ≤ a9 → σ9 a9 = σ a9) (QW D cA ad o) (FA ad sz)) 0 0 (FA ad sz) := by
  refine ct_of (own := RX7) (k := 1) (Qf := va_Qi (fun r (σ9 : Mem) => r = -1000000001 ∧ ∀ a9, 91 ≤ a9 → σ9 a9 = σ a9) (QW D cA ad o)) rfl (by decide) (Nat.le_of_ble_eq_true rfl) (fun p e s m below meth c ls C0 X hr hlk hP hl => ?_) sz
  have hS : va_S (FA ad s.heap.size) s.heap s.heap [] := va_S.rf
  have hl : lv_has ls 4 [(0, .ref (ad 66)), (1, .int a), (2, .int b)] := hl
  obtain ⟨hx, hb, hml, hown, hts⟩ := id C0
  refine lv_aload_n hx hb dX7_where_0 rfl (lv_at hl 0 rfl) ?_
  refine gf_X7_12 C0 X hP 66 (q := 0) ⟨by decide, rfl⟩ (by omega) rfl dX7_where_1 ?_
  refine lv_iload_n hx hb dX7_where_4 rfl (lv_at hl 1 rfl) ?_
  refine r_cq X hS (r_runV (As := [.int a]) (rest := []) C0 X hP L_X7_99 (fun sz => c_X6_cartAt l D cA ad o σ 0 a (by decide) sz) (show 0 < 106 ∧ kd 0 = (6, 11) from ⟨by decide, rfl⟩).1 (show 0 < 106 ∧ kd 0 = (6, 11) from ⟨by decide, rfl⟩).2 (by decide) rfl ⟨Nat.le_of_ble_eq_true rfl, Nat.le_of_ble_eq_true rfl⟩ rfl hl.1 rfl (Nat.le_of_ble_eq_true rfl) dX7_where_5 ⟨Nat.zero_le _, Nat.zero_le _⟩) (fun σ9 H locs hw hP hS => ?_) (fun x9 σ9 H locs hw hP hS => ?_)
  · rw [hw.1] at hP
    have h_1 := hw.2
    refine lv_astore_nN (lv' := [(3, .null), (0, .ref (ad 66)), (1, .int a), (2, .int b)]) hx hb dX7_where_8 rfl hl (by decide) rfl (fun ls hl => ?_)
    refine lv_aload_nN hx hb dX7_where_9 rfl (lv_at hl 0 rfl) ?_
    refine lv_ifnonnullN hx hb dX7_where_10 ?_
    refine lv_ldc (own := RX7) (index := 153) (v := (-1000000001)) hx hb hown (hts _ (tm 679 (by decide +kernel) (by decide +kernel))) dX7_where_13 ?_
    exact r_iret C0 X hP hS hr hlk dX7_where_15 ⟨rfl, fun _ _ => rfl⟩
  · rw [hw.1] at hP
    obtain ⟨-, j_2, hj_2, ej_2, lj_2, rfl⟩ := hw
    exact absurd lj_2 (by rw [show σ (22 * 0) 2 = 0 from Fr_count hF, ej_2]; exact nI_pos (by omega))
theorem dX7_state_0 : decode cX7_state 0 = .ok (.iload_n 1, 1) := by decide +kernel
theorem dX7_state_1 : decode cX7_state 1 = .ok (.tableswitch 97 0 5 #[39, 47, 55, 63, 73, 89], 39) := by decide +kernel
theorem dX7_state_40 : decode cX7_state 40 = .ok (.aload_n 0, 1) := by decide +kernel
theorem dX7_state_41 : decode cX7_state 41 = .ok (.getfield 12, 3) := by decide +kernel
theorem dX7_state_44 : decode cX7_state 44 = .ok (.getfield 144, 3) := by decide +kernel
theorem dX7_state_47 : decode cX7_state 47 = .ok (.ireturn, 1) := by decide +kernel
theorem dX7_state_48 : decode cX7_state 48 = .ok (.aload_n 0, 1) := by decide +kernel
theorem dX7_state_49 : decode cX7_state 49 = .ok (.getfield 12, 3) := by decide +kernel
theorem dX7_state_52 : decode cX7_state 52 = .ok (.invokevirtual 169, 3) := by decide +kernel
theorem dX7_state_55 : decode cX7_state 55 = .ok (.ireturn, 1) := by decide +kernel
theorem dX7_state_56 : decode cX7_state 56 = .ok (.aload_n 0, 1) := by decide +kernel
theorem dX7_state_57 : decode cX7_state 57 = .ok (.getfield 12, 3) := by decide +kernel
theorem dX7_state_60 : decode cX7_state 60 = .ok (.invokevirtual 173, 3) := by decide +kernel
theorem dX7_state_63 : decode cX7_state 63 = .ok (.ireturn, 1) := by decide +kernel
theorem dX7_state_64 : decode cX7_state 64 = .ok (.aload_n 0, 1) := by decide +kernel
theorem dX7_state_65 : decode cX7_state 65 = .ok (.getfield 12, 3) := by decide +kernel
theorem dX7_state_68 : decode cX7_state 68 = .ok (.bipush (-3), 2) := by decide +kernel
theorem dX7_state_70 : decode cX7_state 70 = .ok (.invokevirtual 176, 3) := by decide +kernel
theorem dX7_state_73 : decode cX7_state 73 = .ok (.ireturn, 1) := by decide +kernel
theorem dX7_state_74 : decode cX7_state 74 = .ok (.aload_n 0, 1) := by decide +kernel
theorem dX7_state_75 : decode cX7_state 75 = .ok (.getfield 12, 3) := by decide +kernel
theorem dX7_state_78 : decode cX7_state 78 = .ok (.invokevirtual 180, 3) := by decide +kernel
theorem dX7_state_81 : decode cX7_state 81 = .ok (.ifCond .eq 7, 3) := by decide +kernel
theorem dX7_state_84 : decode cX7_state 84 = .ok (.iconst 1, 1) := by decide +kernel
theorem dX7_state_85 : decode cX7_state 85 = .ok (.goto 4, 3) := by decide +kernel
theorem dX7_state_88 : decode cX7_state 88 = .ok (.iconst 0, 1) := by decide +kernel
theorem dX7_state_89 : decode cX7_state 89 = .ok (.ireturn, 1) := by decide +kernel
theorem dX7_state_90 : decode cX7_state 90 = .ok (.aload_n 0, 1) := by decide +kernel
theorem dX7_state_91 : decode cX7_state 91 = .ok (.getfield 12, 3) := by decide +kernel
theorem dX7_state_94 : decode cX7_state 94 = .ok (.getfield 183, 3) := by decide +kernel
theorem dX7_state_97 : decode cX7_state 97 = .ok (.ireturn, 1) := by decide +kernel
theorem dX7_state_98 : decode cX7_state 98 = .ok (.iconst (-1), 1) := by decide +kernel
theorem dX7_state_99 : decode cX7_state 99 = .ok (.ireturn, 1) := by decide +kernel
set_option maxHeartbeats 4000000 in
set_option maxRecDepth 100000 in
theorem c_X7_state_f (l : Launch) (D : va_G) (cA : Nat → ClassId) (ad : Nat → Nat) (o : Int64) (σ : Mem) (w : Int32) (hF : Fr σ) (sz : Nat) : Met l yX7_state (WY yX7_state cX7_state 2 (some .int)) (RM 1) (va_Pc [.ref (ad 66), .int w] (PW D cA ad o σ sz)) (va_Qi (fun r (σ9 : Mem) => r = (if w = 0 ∨ w = 1 ∨ w = 2 ∨ w = 3 ∨ w = 4 ∨ w = 5 then 0 else -1) ∧ ∀ a9, 91 ≤ a9 → σ9 a9 = σ a9) (QW D cA ad o) (FA ad sz)) 0 0 (FA ad sz) := by
  refine ct_of (own := RX7) (k := 1) (Qf := va_Qi (fun r (σ9 : Mem) => r = (if w = 0 ∨ w = 1 ∨ w = 2 ∨ w = 3 ∨ w = 4 ∨ w = 5 then 0 else -1) ∧ ∀ a9, 91 ≤ a9 → σ9 a9 = σ a9) (QW D cA ad o)) rfl (by decide) (Nat.le_of_ble_eq_true rfl) (fun p e s m below meth c ls C0 X hr hlk hP hl => ?_) sz
  have hS : va_S (FA ad s.heap.size) s.heap s.heap [] := va_S.rf
  have hl : lv_has ls 2 [(0, .ref (ad 66)), (1, .int w)] := hl
  obtain ⟨hx, hb, hml, hown, hts⟩ := id C0
  refine lv_iload_n hx hb dX7_state_0 rfl (lv_at hl 1 rfl) ?_
  rcases sw_in (x := w) (lo := 0) (n := 6) with c_1 | ⟨j, hj, c_1⟩
  · have e_2 : ¬ w = 0 := sw_ne c_1 (by decide)
    have e_3 : ¬ w = 1 := sw_ne c_1 (by decide)
    have e_4 : ¬ w = 2 := sw_ne c_1 (by decide)
    have e_5 : ¬ w = 3 := sw_ne c_1 (by decide)
    have e_6 : ¬ w = 4 := sw_ne c_1 (by decide)
    have e_7 : ¬ w = 5 := sw_ne c_1 (by decide)
    refine lv_tableOut (tgt := 98) hx hb dX7_state_1 (by omega) (by decide) ?_
    refine lv_iconst (v := (-1)) hx hb dX7_state_98 (by decide) ?_
    exact r_iret C0 X hP hS hr hlk dX7_state_99 ⟨(by simp only [e_2, e_3, e_4, e_5, e_6, e_7, if_true, if_false, ite_true, ite_false, true_and, and_true, false_and, and_false, true_or, or_true, false_or, or_false, not_true_eq_false, not_false_eq_true, ne_eq, and_self, or_self]; try rfl), fun _ _ => rfl⟩
  · rcases (show j = 0 ∨ j = 1 ∨ j = 2 ∨ j = 3 ∨ j = 4 ∨ j = 5 by omega) with rfl | rfl | rfl | rfl | rfl | rfl
    · have e_8 : w = 0 := sw_eq c_1 (by decide)
      refine lv_tableIn (off := 39) (tgt := 40) hx hb dX7_state_1 (by rw [e_8]; decide) (by rw [e_8]; decide) (by rw [e_8]; rfl) (by decide) ?_
      refine lv_aload_n hx hb dX7_state_40 rfl (lv_at hl 0 rfl) ?_
      refine gf_X7_12 C0 X hP 66 (q := 0) ⟨by decide, rfl⟩ (by omega) rfl dX7_state_41 ?_
      refine gf_X7_144 C0 X hP 0 ⟨by decide, rfl⟩ dX7_state_44 ?_
      refine lv_topE (y := 0) (Fr_minute hF) ?_
      exact r_iret C0 X hP hS hr hlk dX7_state_47 ⟨(by simp only [e_8, if_true, if_false, ite_true, ite_false, true_and, and_true, false_and, and_false, true_or, or_true, false_or, or_false, not_true_eq_false, not_false_eq_true, ne_eq, and_self, or_self]; try rfl), fun _ _ => rfl⟩
    · have e_9 : w = 1 := sw_eq c_1 (by decide)
      refine lv_tableIn (off := 47) (tgt := 48) hx hb dX7_state_1 (by rw [e_9]; decide) (by rw [e_9]; decide) (by rw [e_9]; rfl) (by decide) ?_
      refine lv_aload_n hx hb dX7_state_48 rfl (lv_at hl 0 rfl) ?_
      refine gf_X7_12 C0 X hP 66 (q := 0) ⟨by decide, rfl⟩ (by omega) rfl dX7_state_49 ?_
      refine r_ci X hS (r_runV (As := []) (rest := []) C0 X hP L_X7_169 (fun sz => c_X6_allBacked0 l D cA ad o σ 0  (by decide) (Fr_count hF) sz) (show 0 < 106 ∧ kd 0 = (6, 11) from ⟨by decide, rfl⟩).1 (show 0 < 106 ∧ kd 0 = (6, 11) from ⟨by decide, rfl⟩).2 (by decide) rfl ⟨Nat.le_of_ble_eq_true rfl, Nat.le_of_ble_eq_true rfl⟩ rfl hl.1 rfl (Nat.le_of_ble_eq_true rfl) dX7_state_52 ⟨Nat.zero_le _, Nat.zero_le _⟩) (fun r σ9 H locs hw hP hS => ?_)
      rw [hw.2] at hP
      rw [hw.1]
      exact r_iret C0 X hP hS hr hlk dX7_state_55 ⟨(by simp only [e_9, if_true, if_false, ite_true, ite_false, true_and, and_true, false_and, and_false, true_or, or_true, false_or, or_false, not_true_eq_false, not_false_eq_true, ne_eq, and_self, or_self]; try rfl), fun _ _ => rfl⟩
    · have e_10 : w = 2 := sw_eq c_1 (by decide)
      refine lv_tableIn (off := 55) (tgt := 56) hx hb dX7_state_1 (by rw [e_10]; decide) (by rw [e_10]; decide) (by rw [e_10]; rfl) (by decide) ?_
      refine lv_aload_n hx hb dX7_state_56 rfl (lv_at hl 0 rfl) ?_
      refine gf_X7_12 C0 X hP 66 (q := 0) ⟨by decide, rfl⟩ (by omega) rfl dX7_state_57 ?_
      refine r_ci X hS (r_runV (As := []) (rest := []) C0 X hP L_X7_173 (fun sz => c_X6_allWaited0 l D cA ad o σ 0  (by decide) (Fr_count hF) sz) (show 0 < 106 ∧ kd 0 = (6, 11) from ⟨by decide, rfl⟩).1 (show 0 < 106 ∧ kd 0 = (6, 11) from ⟨by decide, rfl⟩).2 (by decide) rfl ⟨Nat.le_of_ble_eq_true rfl, Nat.le_of_ble_eq_true rfl⟩ rfl hl.1 rfl (Nat.le_of_ble_eq_true rfl) dX7_state_60 ⟨Nat.zero_le _, Nat.zero_le _⟩) (fun r σ9 H locs hw hP hS => ?_)
      rw [hw.2] at hP
      rw [hw.1]
      exact r_iret C0 X hP hS hr hlk dX7_state_63 ⟨(by simp only [e_10, if_true, if_false, ite_true, ite_false, true_and, and_true, false_and, and_false, true_or, or_true, false_or, or_false, not_true_eq_false, not_false_eq_true, ne_eq, and_self, or_self]; try rfl), fun _ _ => rfl⟩
    · have e_11 : w = 3 := sw_eq c_1 (by decide)
      refine lv_tableIn (off := 63) (tgt := 64) hx hb dX7_state_1 (by rw [e_11]; decide) (by rw [e_11]; decide) (by rw [e_11]; rfl) (by decide) ?_
      refine lv_aload_n hx hb dX7_state_64 rfl (lv_at hl 0 rfl) ?_
      refine gf_X7_12 C0 X hP 66 (q := 0) ⟨by decide, rfl⟩ (by omega) rfl dX7_state_65 ?_
      refine lv_bipush (v := (-3)) hx hb dX7_state_68 (by decide) ?_
      refine r_ci X hS (r_runV (As := [.int (-3)]) (rest := []) C0 X hP L_X7_176 (fun sz => c_X6_howMany0 l D cA ad o σ 0 (-3) (by decide) (Fr_count hF) sz) (show 0 < 106 ∧ kd 0 = (6, 11) from ⟨by decide, rfl⟩).1 (show 0 < 106 ∧ kd 0 = (6, 11) from ⟨by decide, rfl⟩).2 (by decide) rfl ⟨Nat.le_of_ble_eq_true rfl, Nat.le_of_ble_eq_true rfl⟩ rfl hl.1 rfl (Nat.le_of_ble_eq_true rfl) dX7_state_70 ⟨Nat.zero_le _, Nat.zero_le _⟩) (fun r σ9 H locs hw hP hS => ?_)
      rw [hw.2] at hP
      rw [hw.1]
      exact r_iret C0 X hP hS hr hlk dX7_state_73 ⟨(by simp only [e_11, if_true, if_false, ite_true, ite_false, true_and, and_true, false_and, and_false, true_or, or_true, false_or, or_false, not_true_eq_false, not_false_eq_true, ne_eq, and_self, or_self]; try rfl), fun _ _ => rfl⟩
    · have e_12 : w = 4 := sw_eq c_1 (by decide)
      refine lv_tableIn (off := 73) (tgt := 74) hx hb dX7_state_1 (by rw [e_12]; decide) (by rw [e_12]; decide) (by rw [e_12]; rfl) (by decide) ?_
      refine lv_aload_n hx hb dX7_state_74 rfl (lv_at hl 0 rfl) ?_
      refine gf_X7_12 C0 X hP 66 (q := 0) ⟨by decide, rfl⟩ (by omega) rfl dX7_state_75 ?_
      refine r_ci X hS (r_runV (As := []) (rest := []) C0 X hP L_X7_180 (fun sz => c_X6_stands0 l D cA ad o σ 0 (by decide) (Fr_still hF) sz) (show 0 < 106 ∧ kd 0 = (6, 11) from ⟨by decide, rfl⟩).1 (show 0 < 106 ∧ kd 0 = (6, 11) from ⟨by decide, rfl⟩).2 (by decide) rfl ⟨Nat.le_of_ble_eq_true rfl, Nat.le_of_ble_eq_true rfl⟩ rfl hl.1 rfl (Nat.le_of_ble_eq_true rfl) dX7_state_78 ⟨Nat.zero_le _, Nat.zero_le _⟩) (fun r σ9 H locs hw hP hS => ?_)
      rw [hw.2] at hP
      obtain ⟨⟨b_13, rfl⟩ | ⟨b_13, rfl⟩, -⟩ := hw
      · exact absurd b_13 id
      · refine lv_if_eq (tgt := 88) hx hb dX7_state_81 (by decide) (fun c_14 => ?_) (fun c_14 => absurd c_14 (by decide))
        refine lv_iconst (v := 0) hx hb dX7_state_88 (by decide) ?_
        exact r_iret C0 X hP hS hr hlk dX7_state_89 ⟨(by simp only [e_12, b_13, if_true, if_false, ite_true, ite_false, true_and, and_true, false_and, and_false, true_or, or_true, false_or, or_false, not_true_eq_false, not_false_eq_true, ne_eq, and_self, or_self]; try rfl), fun _ _ => rfl⟩
    · have e_15 : w = 5 := sw_eq c_1 (by decide)
      refine lv_tableIn (off := 89) (tgt := 90) hx hb dX7_state_1 (by rw [e_15]; decide) (by rw [e_15]; decide) (by rw [e_15]; rfl) (by decide) ?_
      refine lv_aload_n hx hb dX7_state_90 rfl (lv_at hl 0 rfl) ?_
      refine gf_X7_12 C0 X hP 66 (q := 0) ⟨by decide, rfl⟩ (by omega) rfl dX7_state_91 ?_
      refine gf_X7_183 C0 X hP 0 ⟨by decide, rfl⟩ dX7_state_94 ?_
      refine lv_topE (y := 0) (Fr_met hF) ?_
      exact r_iret C0 X hP hS hr hlk dX7_state_97 ⟨(by simp only [e_15, if_true, if_false, ite_true, ite_false, true_and, and_true, false_and, and_false, true_or, or_true, false_or, or_false, not_true_eq_false, not_false_eq_true, ne_eq, and_self, or_self]; try rfl), fun _ _ => rfl⟩
theorem dX7_enters_0 : decode cX7_enters 0 = .ok (.aload_n 0, 1) := by decide +kernel
theorem dX7_enters_1 : decode cX7_enters 1 = .ok (.getfield 12, 3) := by decide +kernel
theorem dX7_enters_4 : decode cX7_enters 4 = .ok (.iload_n 1, 1) := by decide +kernel
theorem dX7_enters_5 : decode cX7_enters 5 = .ok (.invokevirtual 99, 3) := by decide +kernel
theorem dX7_enters_8 : decode cX7_enters 8 = .ok (.astore_n 2, 1) := by decide +kernel
theorem dX7_enters_9 : decode cX7_enters 9 = .ok (.aload_n 2, 1) := by decide +kernel
theorem dX7_enters_10 : decode cX7_enters 10 = .ok (.ifnonnull 5, 3) := by decide +kernel
theorem dX7_enters_13 : decode cX7_enters 13 = .ok (.iconst (-1), 1) := by decide +kernel
theorem dX7_enters_14 : decode cX7_enters 14 = .ok (.ireturn, 1) := by decide +kernel
theorem dX7_enters_15 : decode cX7_enters 15 = .ok (.aload_n 0, 1) := by decide +kernel
theorem dX7_enters_16 : decode cX7_enters 16 = .ok (.getfield 12, 3) := by decide +kernel
theorem dX7_enters_19 : decode cX7_enters 19 = .ok (.getfield 70, 3) := by decide +kernel
theorem dX7_enters_22 : decode cX7_enters 22 = .ok (.aload_n 2, 1) := by decide +kernel
theorem dX7_enters_23 : decode cX7_enters 23 = .ok (.getfield 154, 3) := by decide +kernel
theorem dX7_enters_26 : decode cX7_enters 26 = .ok (.invokevirtual 186, 3) := by decide +kernel
theorem dX7_enters_29 : decode cX7_enters 29 = .ok (.ifCond .ge 6, 3) := by decide +kernel
theorem dX7_enters_32 : decode cX7_enters 32 = .ok (.bipush (-3), 2) := by decide +kernel
theorem dX7_enters_34 : decode cX7_enters 34 = .ok (.ireturn, 1) := by decide +kernel
theorem dX7_enters_35 : decode cX7_enters 35 = .ok (.aload_n 0, 1) := by decide +kernel
theorem dX7_enters_36 : decode cX7_enters 36 = .ok (.getfield 12, 3) := by decide +kernel
theorem dX7_enters_39 : decode cX7_enters 39 = .ok (.aload_n 2, 1) := by decide +kernel
theorem dX7_enters_40 : decode cX7_enters 40 = .ok (.invokevirtual 189, 3) := by decide +kernel
theorem dX7_enters_43 : decode cX7_enters 43 = .ok (.ifCond .eq 7, 3) := by decide +kernel
theorem dX7_enters_46 : decode cX7_enters 46 = .ok (.iconst 1, 1) := by decide +kernel
theorem dX7_enters_47 : decode cX7_enters 47 = .ok (.goto 4, 3) := by decide +kernel
theorem dX7_enters_50 : decode cX7_enters 50 = .ok (.iconst 0, 1) := by decide +kernel
theorem dX7_enters_51 : decode cX7_enters 51 = .ok (.ireturn, 1) := by decide +kernel
set_option maxHeartbeats 4000000 in
set_option maxRecDepth 100000 in
theorem c_X7_enters_f (l : Launch) (D : va_G) (cA : Nat → ClassId) (ad : Nat → Nat) (o : Int64) (σ : Mem) (a : Int32) (hF : Fr σ) (sz : Nat) : Met l yX7_enters (WY yX7_enters cX7_enters 3 (some .int)) (RM 1) (va_Pc [.ref (ad 66), .int a] (PW D cA ad o σ sz)) (va_Qi (fun r (σ9 : Mem) => r = -1 ∧ ∀ a9, 91 ≤ a9 → σ9 a9 = σ a9) (QW D cA ad o) (FA ad sz)) 0 0 (FA ad sz) := by
  refine ct_of (own := RX7) (k := 1) (Qf := va_Qi (fun r (σ9 : Mem) => r = -1 ∧ ∀ a9, 91 ≤ a9 → σ9 a9 = σ a9) (QW D cA ad o)) rfl (by decide) (Nat.le_of_ble_eq_true rfl) (fun p e s m below meth c ls C0 X hr hlk hP hl => ?_) sz
  have hS : va_S (FA ad s.heap.size) s.heap s.heap [] := va_S.rf
  have hl : lv_has ls 3 [(0, .ref (ad 66)), (1, .int a)] := hl
  obtain ⟨hx, hb, hml, hown, hts⟩ := id C0
  refine lv_aload_n hx hb dX7_enters_0 rfl (lv_at hl 0 rfl) ?_
  refine gf_X7_12 C0 X hP 66 (q := 0) ⟨by decide, rfl⟩ (by omega) rfl dX7_enters_1 ?_
  refine lv_iload_n hx hb dX7_enters_4 rfl (lv_at hl 1 rfl) ?_
  refine r_cq X hS (r_runV (As := [.int a]) (rest := []) C0 X hP L_X7_99 (fun sz => c_X6_cartAt l D cA ad o σ 0 a (by decide) sz) (show 0 < 106 ∧ kd 0 = (6, 11) from ⟨by decide, rfl⟩).1 (show 0 < 106 ∧ kd 0 = (6, 11) from ⟨by decide, rfl⟩).2 (by decide) rfl ⟨Nat.le_of_ble_eq_true rfl, Nat.le_of_ble_eq_true rfl⟩ rfl hl.1 rfl (Nat.le_of_ble_eq_true rfl) dX7_enters_5 ⟨Nat.zero_le _, Nat.zero_le _⟩) (fun σ9 H locs hw hP hS => ?_) (fun x9 σ9 H locs hw hP hS => ?_)
  · rw [hw.1] at hP
    have h_1 := hw.2
    refine lv_astore_nN (lv' := [(2, .null), (0, .ref (ad 66)), (1, .int a)]) hx hb dX7_enters_8 rfl hl (by decide) rfl (fun ls hl => ?_)
    refine lv_aload_nN hx hb dX7_enters_9 rfl (lv_at hl 0 rfl) ?_
    refine lv_ifnonnullN hx hb dX7_enters_10 ?_
    refine lv_iconst (v := (-1)) hx hb dX7_enters_13 (by decide) ?_
    exact r_iret C0 X hP hS hr hlk dX7_enters_14 ⟨rfl, fun _ _ => rfl⟩
  · rw [hw.1] at hP
    obtain ⟨-, j_2, hj_2, ej_2, lj_2, rfl⟩ := hw
    exact absurd lj_2 (by rw [show σ (22 * 0) 2 = 0 from Fr_count hF, ej_2]; exact nI_pos (by omega))
theorem dX7_yields_0 : decode cX7_yields 0 = .ok (.aload_n 0, 1) := by decide +kernel
theorem dX7_yields_1 : decode cX7_yields 1 = .ok (.getfield 12, 3) := by decide +kernel
theorem dX7_yields_4 : decode cX7_yields 4 = .ok (.iload_n 1, 1) := by decide +kernel
theorem dX7_yields_5 : decode cX7_yields 5 = .ok (.invokevirtual 99, 3) := by decide +kernel
theorem dX7_yields_8 : decode cX7_yields 8 = .ok (.astore 4, 2) := by decide +kernel
theorem dX7_yields_10 : decode cX7_yields 10 = .ok (.aload_n 0, 1) := by decide +kernel
theorem dX7_yields_11 : decode cX7_yields 11 = .ok (.getfield 12, 3) := by decide +kernel
theorem dX7_yields_14 : decode cX7_yields 14 = .ok (.iload_n 2, 1) := by decide +kernel
theorem dX7_yields_15 : decode cX7_yields 15 = .ok (.invokevirtual 99, 3) := by decide +kernel
theorem dX7_yields_18 : decode cX7_yields 18 = .ok (.astore 5, 2) := by decide +kernel
theorem dX7_yields_20 : decode cX7_yields 20 = .ok (.aload 4, 2) := by decide +kernel
theorem dX7_yields_22 : decode cX7_yields 22 = .ok (.ifnull 13, 3) := by decide +kernel
theorem dX7_yields_25 : decode cX7_yields 25 = .ok (.aload 5, 2) := by decide +kernel
theorem dX7_yields_27 : decode cX7_yields 27 = .ok (.ifnull 8, 3) := by decide +kernel
theorem dX7_yields_30 : decode cX7_yields 30 = .ok (.iload_n 1, 1) := by decide +kernel
theorem dX7_yields_31 : decode cX7_yields 31 = .ok (.iload_n 2, 1) := by decide +kernel
theorem dX7_yields_32 : decode cX7_yields 32 = .ok (.if_icmp .ne 5, 3) := by decide +kernel
theorem dX7_yields_35 : decode cX7_yields 35 = .ok (.iconst (-1), 1) := by decide +kernel
theorem dX7_yields_36 : decode cX7_yields 36 = .ok (.ireturn, 1) := by decide +kernel
theorem dX7_yields_37 : decode cX7_yields 37 = .ok (.iload_n 3, 1) := by decide +kernel
theorem dX7_yields_38 : decode cX7_yields 38 = .ok (.ifCond .lt 8, 3) := by decide +kernel
theorem dX7_yields_41 : decode cX7_yields 41 = .ok (.iload_n 3, 1) := by decide +kernel
theorem dX7_yields_42 : decode cX7_yields 42 = .ok (.iconst 3, 1) := by decide +kernel
theorem dX7_yields_43 : decode cX7_yields 43 = .ok (.if_icmp .lt 5, 3) := by decide +kernel
theorem dX7_yields_46 : decode cX7_yields 46 = .ok (.iconst (-1), 1) := by decide +kernel
theorem dX7_yields_47 : decode cX7_yields 47 = .ok (.ireturn, 1) := by decide +kernel
theorem dX7_yields_48 : decode cX7_yields 48 = .ok (.aload 4, 2) := by decide +kernel
theorem dX7_yields_50 : decode cX7_yields 50 = .ok (.getfield 103, 3) := by decide +kernel
theorem dX7_yields_53 : decode cX7_yields 53 = .ok (.aload 5, 2) := by decide +kernel
theorem dX7_yields_55 : decode cX7_yields 55 = .ok (.getfield 103, 3) := by decide +kernel
theorem dX7_yields_58 : decode cX7_yields 58 = .ok (.if_icmp .eq 19, 3) := by decide +kernel
theorem dX7_yields_61 : decode cX7_yields 61 = .ok (.aload 4, 2) := by decide +kernel
theorem dX7_yields_63 : decode cX7_yields 63 = .ok (.getfield 154, 3) := by decide +kernel
theorem dX7_yields_66 : decode cX7_yields 66 = .ok (.ifCond .lt 11, 3) := by decide +kernel
theorem dX7_yields_69 : decode cX7_yields 69 = .ok (.aload 5, 2) := by decide +kernel
theorem dX7_yields_71 : decode cX7_yields 71 = .ok (.getfield 154, 3) := by decide +kernel
theorem dX7_yields_74 : decode cX7_yields 74 = .ok (.ifCond .ge 6, 3) := by decide +kernel
theorem dX7_yields_77 : decode cX7_yields 77 = .ok (.bipush (-3), 2) := by decide +kernel
theorem dX7_yields_79 : decode cX7_yields 79 = .ok (.ireturn, 1) := by decide +kernel
theorem dX7_yields_80 : decode cX7_yields 80 = .ok (.aload_n 0, 1) := by decide +kernel
theorem dX7_yields_81 : decode cX7_yields 81 = .ok (.getfield 12, 3) := by decide +kernel
theorem dX7_yields_84 : decode cX7_yields 84 = .ok (.getfield 70, 3) := by decide +kernel
theorem dX7_yields_87 : decode cX7_yields 87 = .ok (.aload 4, 2) := by decide +kernel
theorem dX7_yields_89 : decode cX7_yields 89 = .ok (.getfield 154, 3) := by decide +kernel
theorem dX7_yields_92 : decode cX7_yields 92 = .ok (.invokevirtual 186, 3) := by decide +kernel
theorem dX7_yields_95 : decode cX7_yields 95 = .ok (.ifCond .lt 7, 3) := by decide +kernel
theorem dX7_yields_98 : decode cX7_yields 98 = .ok (.iconst 1, 1) := by decide +kernel
theorem dX7_yields_99 : decode cX7_yields 99 = .ok (.goto 4, 3) := by decide +kernel
theorem dX7_yields_102 : decode cX7_yields 102 = .ok (.iconst 0, 1) := by decide +kernel
theorem dX7_yields_103 : decode cX7_yields 103 = .ok (.istore 6, 2) := by decide +kernel
theorem dX7_yields_105 : decode cX7_yields 105 = .ok (.iload 6, 2) := by decide +kernel
theorem dX7_yields_107 : decode cX7_yields 107 = .ok (.ifCond .eq 7, 3) := by decide +kernel
theorem dX7_yields_110 : decode cX7_yields 110 = .ok (.iconst 0, 1) := by decide +kernel
theorem dX7_yields_111 : decode cX7_yields 111 = .ok (.goto 22, 3) := by decide +kernel
theorem dX7_yields_114 : decode cX7_yields 114 = .ok (.aload_n 0, 1) := by decide +kernel
theorem dX7_yields_115 : decode cX7_yields 115 = .ok (.getfield 12, 3) := by decide +kernel
theorem dX7_yields_118 : decode cX7_yields 118 = .ok (.getfield 70, 3) := by decide +kernel
theorem dX7_yields_121 : decode cX7_yields 121 = .ok (.aload_n 0, 1) := by decide +kernel
theorem dX7_yields_122 : decode cX7_yields 122 = .ok (.getfield 12, 3) := by decide +kernel
theorem dX7_yields_125 : decode cX7_yields 125 = .ok (.aload 4, 2) := by decide +kernel
theorem dX7_yields_127 : decode cX7_yields 127 = .ok (.invokevirtual 193, 3) := by decide +kernel
theorem dX7_yields_130 : decode cX7_yields 130 = .ok (.invokevirtual 197, 3) := by decide +kernel
theorem dX7_yields_133 : decode cX7_yields 133 = .ok (.istore 7, 2) := by decide +kernel
theorem dX7_yields_135 : decode cX7_yields 135 = .ok (.aload_n 0, 1) := by decide +kernel
theorem dX7_yields_136 : decode cX7_yields 136 = .ok (.getfield 12, 3) := by decide +kernel
theorem dX7_yields_139 : decode cX7_yields 139 = .ok (.iload_n 1, 1) := by decide +kernel
theorem dX7_yields_140 : decode cX7_yields 140 = .ok (.iload_n 2, 1) := by decide +kernel
theorem dX7_yields_141 : decode cX7_yields 141 = .ok (.iload_n 3, 1) := by decide +kernel
theorem dX7_yields_142 : decode cX7_yields 142 = .ok (.iload 7, 2) := by decide +kernel
theorem dX7_yields_144 : decode cX7_yields 144 = .ok (.invokevirtual 200, 3) := by decide +kernel
theorem dX7_yields_147 : decode cX7_yields 147 = .ok (.ireturn, 1) := by decide +kernel
set_option maxHeartbeats 4000000 in
set_option maxRecDepth 100000 in
theorem c_X7_yields_f (l : Launch) (D : va_G) (cA : Nat → ClassId) (ad : Nat → Nat) (o : Int64) (σ : Mem) (a : Int32) (b : Int32) (v : Int32) (hF : Fr σ) (sz : Nat) : Met l yX7_yields (WY yX7_yields cX7_yields 8 (some .int)) (RM 1) (va_Pc [.ref (ad 66), .int a, .int b, .int v] (PW D cA ad o σ sz)) (va_Qi (fun r (σ9 : Mem) => r = -1 ∧ ∀ a9, 91 ≤ a9 → σ9 a9 = σ a9) (QW D cA ad o) (FA ad sz)) 0 0 (FA ad sz) := by
  refine ct_of (own := RX7) (k := 1) (Qf := va_Qi (fun r (σ9 : Mem) => r = -1 ∧ ∀ a9, 91 ≤ a9 → σ9 a9 = σ a9) (QW D cA ad o)) rfl (by decide) (Nat.le_of_ble_eq_true rfl) (fun p e s m below meth c ls C0 X hr hlk hP hl => ?_) sz
  have hS : va_S (FA ad s.heap.size) s.heap s.heap [] := va_S.rf
  have hl : lv_has ls 8 [(0, .ref (ad 66)), (1, .int a), (2, .int b), (3, .int v)] := hl
  obtain ⟨hx, hb, hml, hown, hts⟩ := id C0
  refine lv_aload_n hx hb dX7_yields_0 rfl (lv_at hl 0 rfl) ?_
  refine gf_X7_12 C0 X hP 66 (q := 0) ⟨by decide, rfl⟩ (by omega) rfl dX7_yields_1 ?_
  refine lv_iload_n hx hb dX7_yields_4 rfl (lv_at hl 1 rfl) ?_
  refine r_cq X hS (r_runV (As := [.int a]) (rest := []) C0 X hP L_X7_99 (fun sz => c_X6_cartAt l D cA ad o σ 0 a (by decide) sz) (show 0 < 106 ∧ kd 0 = (6, 11) from ⟨by decide, rfl⟩).1 (show 0 < 106 ∧ kd 0 = (6, 11) from ⟨by decide, rfl⟩).2 (by decide) rfl ⟨Nat.le_of_ble_eq_true rfl, Nat.le_of_ble_eq_true rfl⟩ rfl hl.1 rfl (Nat.le_of_ble_eq_true rfl) dX7_yields_5 ⟨Nat.zero_le _, Nat.zero_le _⟩) (fun σ9 H locs hw hP hS => ?_) (fun x9 σ9 H locs hw hP hS => ?_)
  · rw [hw.1] at hP
    have h_1 := hw.2
    refine lv_astoreN (lv' := [(4, .null), (0, .ref (ad 66)), (1, .int a), (2, .int b), (3, .int v)]) hx hb dX7_yields_8 hl (by decide) rfl (fun ls hl => ?_)
    refine lv_aload_n hx hb dX7_yields_10 rfl (lv_at hl 1 rfl) ?_
    refine gf_X7_12 C0 X hP 66 (q := 0) ⟨by decide, rfl⟩ (by omega) rfl dX7_yields_11 ?_
    refine lv_iload_n hx hb dX7_yields_14 rfl (lv_at hl 3 rfl) ?_
    refine r_cq X hS (r_runV (As := [.int b]) (rest := []) C0 X hP L_X7_99 (fun sz => c_X6_cartAt l D cA ad o σ 0 b (by decide) sz) (show 0 < 106 ∧ kd 0 = (6, 11) from ⟨by decide, rfl⟩).1 (show 0 < 106 ∧ kd 0 = (6, 11) from ⟨by decide, rfl⟩).2 (by decide) rfl ⟨Nat.le_of_ble_eq_true rfl, Nat.le_of_ble_eq_true rfl⟩ rfl hl.1 rfl (Nat.le_of_ble_eq_true rfl) dX7_yields_15 ⟨Nat.zero_le _, Nat.zero_le _⟩) (fun σ9 H locs hw hP hS => ?_) (fun x9 σ9 H locs hw hP hS => ?_)
    · rw [hw.1] at hP
      have h_3 := hw.2
      refine lv_astoreN (lv' := [(5, .null), (4, .null), (0, .ref (ad 66)), (1, .int a), (2, .int b), (3, .int v)]) hx hb dX7_yields_18 hl (by decide) rfl (fun ls hl => ?_)
      refine lv_aloadN hx hb dX7_yields_20 (lv_at hl 1 rfl) ?_
      refine lv_ifnullN (tgt := 35) hx hb dX7_yields_22 (by decide) ?_
      refine lv_iconst (v := (-1)) hx hb dX7_yields_35 (by decide) ?_
      exact r_iret C0 X hP hS hr hlk dX7_yields_36 ⟨rfl, fun _ _ => rfl⟩
    · rw [hw.1] at hP
      obtain ⟨-, j_4, hj_4, ej_4, lj_4, rfl⟩ := hw
      exact absurd lj_4 (by rw [show σ (22 * 0) 2 = 0 from Fr_count hF, ej_4]; exact nI_pos (by omega))
  · rw [hw.1] at hP
    obtain ⟨-, j_2, hj_2, ej_2, lj_2, rfl⟩ := hw
    exact absurd lj_2 (by rw [show σ (22 * 0) 2 = 0 from Fr_count hF, ej_2]; exact nI_pos (by omega))
theorem dX7_judge_0 : decode cX7_judge 0 = .ok (.aload_n 0, 1) := by decide +kernel
theorem dX7_judge_1 : decode cX7_judge 1 = .ok (.iload_n 2, 1) := by decide +kernel
theorem dX7_judge_2 : decode cX7_judge 2 = .ok (.invokevirtual 50, 3) := by decide +kernel
theorem dX7_judge_5 : decode cX7_judge 5 = .ok (.astore_n 3, 1) := by decide +kernel
theorem dX7_judge_6 : decode cX7_judge 6 = .ok (.aload_n 3, 1) := by decide +kernel
theorem dX7_judge_7 : decode cX7_judge 7 = .ok (.ifnull 14, 3) := by decide +kernel
theorem dX7_judge_10 : decode cX7_judge 10 = .ok (.aload_n 0, 1) := by decide +kernel
theorem dX7_judge_11 : decode cX7_judge 11 = .ok (.getfield 12, 3) := by decide +kernel
theorem dX7_judge_14 : decode cX7_judge 14 = .ok (.iload_n 1, 1) := by decide +kernel
theorem dX7_judge_15 : decode cX7_judge 15 = .ok (.invokevirtual 99, 3) := by decide +kernel
theorem dX7_judge_18 : decode cX7_judge 18 = .ok (.ifnonnull 5, 3) := by decide +kernel
theorem dX7_judge_21 : decode cX7_judge 21 = .ok (.iconst (-1), 1) := by decide +kernel
theorem dX7_judge_22 : decode cX7_judge 22 = .ok (.ireturn, 1) := by decide +kernel
theorem dX7_judge_23 : decode cX7_judge 23 = .ok (.aload_n 3, 1) := by decide +kernel
theorem dX7_judge_24 : decode cX7_judge 24 = .ok (.getfield 54, 3) := by decide +kernel
theorem dX7_judge_27 : decode cX7_judge 27 = .ok (.ifCond .ne 6, 3) := by decide +kernel
theorem dX7_judge_30 : decode cX7_judge 30 = .ok (.bipush (-11), 2) := by decide +kernel
theorem dX7_judge_32 : decode cX7_judge 32 = .ok (.ireturn, 1) := by decide +kernel
theorem dX7_judge_33 : decode cX7_judge 33 = .ok (.aload_n 3, 1) := by decide +kernel
theorem dX7_judge_34 : decode cX7_judge 34 = .ok (.getfield 54, 3) := by decide +kernel
theorem dX7_judge_37 : decode cX7_judge 37 = .ok (.iconst 2, 1) := by decide +kernel
theorem dX7_judge_38 : decode cX7_judge 38 = .ok (.if_icmp .eq 6, 3) := by decide +kernel
theorem dX7_judge_41 : decode cX7_judge 41 = .ok (.bipush (-12), 2) := by decide +kernel
theorem dX7_judge_43 : decode cX7_judge 43 = .ok (.ireturn, 1) := by decide +kernel
theorem dX7_judge_44 : decode cX7_judge 44 = .ok (.aload_n 0, 1) := by decide +kernel
theorem dX7_judge_45 : decode cX7_judge 45 = .ok (.getfield 12, 3) := by decide +kernel
theorem dX7_judge_48 : decode cX7_judge 48 = .ok (.getfield 70, 3) := by decide +kernel
theorem dX7_judge_51 : decode cX7_judge 51 = .ok (.getfield 74, 3) := by decide +kernel
theorem dX7_judge_54 : decode cX7_judge 54 = .ok (.ifCond .ne 6, 3) := by decide +kernel
theorem dX7_judge_57 : decode cX7_judge 57 = .ok (.bipush (-3), 2) := by decide +kernel
theorem dX7_judge_59 : decode cX7_judge 59 = .ok (.ireturn, 1) := by decide +kernel
theorem dX7_judge_60 : decode cX7_judge 60 = .ok (.aload_n 0, 1) := by decide +kernel
theorem dX7_judge_61 : decode cX7_judge 61 = .ok (.getfield 19, 3) := by decide +kernel
theorem dX7_judge_64 : decode cX7_judge 64 = .ok (.aload_n 0, 1) := by decide +kernel
theorem dX7_judge_65 : decode cX7_judge 65 = .ok (.getfield 12, 3) := by decide +kernel
theorem dX7_judge_68 : decode cX7_judge 68 = .ok (.invokevirtual 62, 3) := by decide +kernel
theorem dX7_judge_71 : decode cX7_judge 71 = .ok (.aload_n 0, 1) := by decide +kernel
theorem dX7_judge_72 : decode cX7_judge 72 = .ok (.getfield 19, 3) := by decide +kernel
theorem dX7_judge_75 : decode cX7_judge 75 = .ok (.iload_n 1, 1) := by decide +kernel
theorem dX7_judge_76 : decode cX7_judge 76 = .ok (.invokevirtual 99, 3) := by decide +kernel
theorem dX7_judge_79 : decode cX7_judge 79 = .ok (.astore 4, 2) := by decide +kernel
theorem dX7_judge_81 : decode cX7_judge 81 = .ok (.aload 4, 2) := by decide +kernel
theorem dX7_judge_83 : decode cX7_judge 83 = .ok (.ifnonnull 5, 3) := by decide +kernel
theorem dX7_judge_86 : decode cX7_judge 86 = .ok (.iconst (-1), 1) := by decide +kernel
theorem dX7_judge_87 : decode cX7_judge 87 = .ok (.ireturn, 1) := by decide +kernel
theorem dX7_judge_88 : decode cX7_judge 88 = .ok (.iconst 0, 1) := by decide +kernel
theorem dX7_judge_89 : decode cX7_judge 89 = .ok (.istore 5, 2) := by decide +kernel
theorem dX7_judge_91 : decode cX7_judge 91 = .ok (.iload 5, 2) := by decide +kernel
theorem dX7_judge_93 : decode cX7_judge 93 = .ok (.aload_n 3, 1) := by decide +kernel
theorem dX7_judge_94 : decode cX7_judge 94 = .ok (.getfield 204, 3) := by decide +kernel
theorem dX7_judge_97 : decode cX7_judge 97 = .ok (.if_icmp .ge 65, 3) := by decide +kernel
theorem dX7_judge_100 : decode cX7_judge 100 = .ok (.iload 5, 2) := by decide +kernel
theorem dX7_judge_102 : decode cX7_judge 102 = .ok (.bipush 100, 2) := by decide +kernel
theorem dX7_judge_104 : decode cX7_judge 104 = .ok (.if_icmp .ge 58, 3) := by decide +kernel
theorem dX7_judge_107 : decode cX7_judge 107 = .ok (.aload_n 0, 1) := by decide +kernel
theorem dX7_judge_108 : decode cX7_judge 108 = .ok (.getfield 19, 3) := by decide +kernel
theorem dX7_judge_111 : decode cX7_judge 111 = .ok (.invokevirtual 138, 3) := by decide +kernel
theorem dX7_judge_114 : decode cX7_judge 114 = .ok (.ifCond .ne 10, 3) := by decide +kernel
theorem dX7_judge_117 : decode cX7_judge 117 = .ok (.aload_n 0, 1) := by decide +kernel
theorem dX7_judge_118 : decode cX7_judge 118 = .ok (.getfield 19, 3) := by decide +kernel
theorem dX7_judge_121 : decode cX7_judge 121 = .ok (.invokevirtual 141, 3) := by decide +kernel
theorem dX7_judge_124 : decode cX7_judge 124 = .ok (.aload_n 3, 1) := by decide +kernel
theorem dX7_judge_125 : decode cX7_judge 125 = .ok (.getfield 207, 3) := by decide +kernel
theorem dX7_judge_128 : decode cX7_judge 128 = .ok (.iload 5, 2) := by decide +kernel
theorem dX7_judge_130 : decode cX7_judge 130 = .ok (.iaload, 1) := by decide +kernel
theorem dX7_judge_131 : decode cX7_judge 131 = .ok (.aload_n 3, 1) := by decide +kernel
theorem dX7_judge_132 : decode cX7_judge 132 = .ok (.invokevirtual 210, 3) := by decide +kernel
theorem dX7_judge_135 : decode cX7_judge 135 = .ok (.if_icmp .eq 21, 3) := by decide +kernel
theorem dX7_judge_138 : decode cX7_judge 138 = .ok (.aload_n 3, 1) := by decide +kernel
theorem dX7_judge_139 : decode cX7_judge 139 = .ok (.getfield 207, 3) := by decide +kernel
theorem dX7_judge_142 : decode cX7_judge 142 = .ok (.iload 5, 2) := by decide +kernel
theorem dX7_judge_144 : decode cX7_judge 144 = .ok (.iaload, 1) := by decide +kernel
theorem dX7_judge_145 : decode cX7_judge 145 = .ok (.aload 4, 2) := by decide +kernel
theorem dX7_judge_147 : decode cX7_judge 147 = .ok (.getfield 154, 3) := by decide +kernel
theorem dX7_judge_150 : decode cX7_judge 150 = .ok (.if_icmp .eq 6, 3) := by decide +kernel
theorem dX7_judge_153 : decode cX7_judge 153 = .ok (.iload 5, 2) := by decide +kernel
theorem dX7_judge_155 : decode cX7_judge 155 = .ok (.ireturn, 1) := by decide +kernel
theorem dX7_judge_156 : decode cX7_judge 156 = .ok (.iinc 5 1, 3) := by decide +kernel
theorem dX7_judge_159 : decode cX7_judge 159 = .ok (.goto (-68), 3) := by decide +kernel
theorem dX7_judge_162 : decode cX7_judge 162 = .ok (.bipush (-4), 2) := by decide +kernel
theorem dX7_judge_164 : decode cX7_judge 164 = .ok (.ireturn, 1) := by decide +kernel
set_option maxHeartbeats 4000000 in
set_option maxRecDepth 100000 in
theorem c_X7_judge_f (l : Launch) (D : va_G) (cA : Nat → ClassId) (ad : Nat → Nat) (o : Int64) (σ : Mem) (a : Int32) (d : Int32) (hF : Fr σ) (sz : Nat) : Met l yX7_judge (WY yX7_judge cX7_judge 6 (some .int)) (RM 1) (va_Pc [.ref (ad 66), .int a, .int d] (PW D cA ad o σ sz)) (va_Qi (fun r (σ9 : Mem) => r = -1 ∧ ∀ a9, 91 ≤ a9 → σ9 a9 = σ a9) (QW D cA ad o) (FA ad sz)) 0 0 (FA ad sz) := by
  refine ct_of (own := RX7) (k := 1) (Qf := va_Qi (fun r (σ9 : Mem) => r = -1 ∧ ∀ a9, 91 ≤ a9 → σ9 a9 = σ a9) (QW D cA ad o)) rfl (by decide) (Nat.le_of_ble_eq_true rfl) (fun p e s m below meth c ls C0 X hr hlk hP hl => ?_) sz
  have hS : va_S (FA ad s.heap.size) s.heap s.heap [] := va_S.rf
  have hl : lv_has ls 6 [(0, .ref (ad 66)), (1, .int a), (2, .int d)] := hl
  obtain ⟨hx, hb, hml, hown, hts⟩ := id C0
  refine lv_aload_n hx hb dX7_judge_0 rfl (lv_at hl 0 rfl) ?_
  refine lv_iload_n hx hb dX7_judge_1 rfl (lv_at hl 2 rfl) ?_
  refine r_cq X hS (r_runV (As := [.int d]) (rest := []) C0 X hP L_X7_50 (fun sz => c_X7_shelfAt l D cA ad o σ d  sz) (show 66 < 106 ∧ kd 66 = (7, 8) from ⟨by decide, rfl⟩).1 (show 66 < 106 ∧ kd 66 = (7, 8) from ⟨by decide, rfl⟩).2 (by decide) rfl ⟨Nat.le_of_ble_eq_true rfl, Nat.le_of_ble_eq_true rfl⟩ rfl hl.1 rfl (Nat.le_of_ble_eq_true rfl) dX7_judge_2 ⟨Nat.zero_le _, Nat.zero_le _⟩) (fun σ9 H locs hw hP hS => ?_) (fun x9 σ9 H locs hw hP hS => ?_)
  · rw [hw.1] at hP
    have h_1 := hw.2
    refine lv_astore_nN (lv' := [(3, .null), (0, .ref (ad 66)), (1, .int a), (2, .int d)]) hx hb dX7_judge_5 rfl hl (by decide) rfl (fun ls hl => ?_)
    refine lv_aload_nN hx hb dX7_judge_6 rfl (lv_at hl 0 rfl) ?_
    refine lv_ifnullN (tgt := 21) hx hb dX7_judge_7 (by decide) ?_
    refine lv_iconst (v := (-1)) hx hb dX7_judge_21 (by decide) ?_
    exact r_iret C0 X hP hS hr hlk dX7_judge_22 ⟨rfl, fun _ _ => rfl⟩
  · rw [hw.1] at hP
    obtain ⟨-, j_2, hj_2, ej_2, rfl⟩ := hw
    have h_1 : ¬ (d < 0 ∨ 8 ≤ d) := by rw [ej_2]; exact nosh hj_2
    refine lv_astore_n (lv' := [(3, .ref (ad (68 + j_2))), (0, .ref (ad 66)), (1, .int a), (2, .int d)]) hx hb dX7_judge_5 rfl hl (by decide) rfl (fun ls hl => ?_)
    refine lv_aload_n hx hb dX7_judge_6 rfl (lv_at hl 0 rfl) ?_
    refine lv_ifnull hx hb dX7_judge_7 ?_
    refine lv_aload_n hx hb dX7_judge_10 rfl (lv_at hl 1 rfl) ?_
    refine gf_X7_12 C0 X hP 66 (q := 0) ⟨by decide, rfl⟩ (by omega) rfl dX7_judge_11 ?_
    refine lv_iload_n hx hb dX7_judge_14 rfl (lv_at hl 2 rfl) ?_
    refine r_cq X hS (r_runV (As := [.int a]) (rest := []) C0 X hP L_X7_99 (fun sz => c_X6_cartAt l D cA ad o σ 0 a (by decide) sz) (show 0 < 106 ∧ kd 0 = (6, 11) from ⟨by decide, rfl⟩).1 (show 0 < 106 ∧ kd 0 = (6, 11) from ⟨by decide, rfl⟩).2 (by decide) rfl ⟨Nat.le_of_ble_eq_true rfl, Nat.le_of_ble_eq_true rfl⟩ rfl hl.1 rfl (Nat.le_of_ble_eq_true rfl) dX7_judge_15 ⟨Nat.zero_le _, Nat.zero_le _⟩) (fun σ9 H locs hw hP hS => ?_) (fun x9 σ9 H locs hw hP hS => ?_)
    · rw [hw.1] at hP
      have h_3 := hw.2
      refine lv_ifnonnullN hx hb dX7_judge_18 ?_
      refine lv_iconst (v := (-1)) hx hb dX7_judge_21 (by decide) ?_
      exact r_iret C0 X hP hS hr hlk dX7_judge_22 ⟨rfl, fun _ _ => rfl⟩
    · rw [hw.1] at hP
      obtain ⟨-, j_4, hj_4, ej_4, lj_4, rfl⟩ := hw
      exact absurd lj_4 (by rw [show σ (22 * 0) 2 = 0 from Fr_count hF, ej_4]; exact nI_pos (by omega))
theorem dX7_run_0 : decode cX7_run 0 = .ok (.aload_n 0, 1) := by decide +kernel
theorem dX7_run_1 : decode cX7_run 1 = .ok (.iload_n 1, 1) := by decide +kernel
theorem dX7_run_2 : decode cX7_run 2 = .ok (.invokevirtual 50, 3) := by decide +kernel
theorem dX7_run_5 : decode cX7_run 5 = .ok (.astore_n 3, 1) := by decide +kernel
theorem dX7_run_6 : decode cX7_run 6 = .ok (.aload_n 3, 1) := by decide +kernel
theorem dX7_run_7 : decode cX7_run 7 = .ok (.ifnull 12, 3) := by decide +kernel
theorem dX7_run_10 : decode cX7_run 10 = .ok (.iload_n 2, 1) := by decide +kernel
theorem dX7_run_11 : decode cX7_run 11 = .ok (.ifCond .lt 8, 3) := by decide +kernel
theorem dX7_run_14 : decode cX7_run 14 = .ok (.iload_n 2, 1) := by decide +kernel
theorem dX7_run_15 : decode cX7_run 15 = .ok (.iconst 4, 1) := by decide +kernel
theorem dX7_run_16 : decode cX7_run 16 = .ok (.if_icmp .le 5, 3) := by decide +kernel
theorem dX7_run_19 : decode cX7_run 19 = .ok (.iconst (-1), 1) := by decide +kernel
theorem dX7_run_20 : decode cX7_run 20 = .ok (.ireturn, 1) := by decide +kernel
theorem dX7_run_21 : decode cX7_run 21 = .ok (.aload_n 3, 1) := by decide +kernel
theorem dX7_run_22 : decode cX7_run 22 = .ok (.getfield 54, 3) := by decide +kernel
theorem dX7_run_25 : decode cX7_run 25 = .ok (.ifCond .ne 6, 3) := by decide +kernel
theorem dX7_run_28 : decode cX7_run 28 = .ok (.bipush (-11), 2) := by decide +kernel
theorem dX7_run_30 : decode cX7_run 30 = .ok (.ireturn, 1) := by decide +kernel
theorem dX7_run_31 : decode cX7_run 31 = .ok (.aload_n 3, 1) := by decide +kernel
theorem dX7_run_32 : decode cX7_run 32 = .ok (.getfield 54, 3) := by decide +kernel
theorem dX7_run_35 : decode cX7_run 35 = .ok (.iconst 2, 1) := by decide +kernel
theorem dX7_run_36 : decode cX7_run 36 = .ok (.if_icmp .eq 6, 3) := by decide +kernel
theorem dX7_run_39 : decode cX7_run 39 = .ok (.bipush (-12), 2) := by decide +kernel
theorem dX7_run_41 : decode cX7_run 41 = .ok (.ireturn, 1) := by decide +kernel
theorem dX7_run_42 : decode cX7_run 42 = .ok (.aload_n 3, 1) := by decide +kernel
theorem dX7_run_43 : decode cX7_run 43 = .ok (.iconst 0, 1) := by decide +kernel
theorem dX7_run_44 : decode cX7_run 44 = .ok (.sipush 200, 3) := by decide +kernel
theorem dX7_run_47 : decode cX7_run 47 = .ok (.invokevirtual 213, 3) := by decide +kernel
theorem dX7_run_50 : decode cX7_run 50 = .ok (.ifCond .ne 6, 3) := by decide +kernel
theorem dX7_run_53 : decode cX7_run 53 = .ok (.bipush (-13), 2) := by decide +kernel
theorem dX7_run_55 : decode cX7_run 55 = .ok (.ireturn, 1) := by decide +kernel
theorem dX7_run_56 : decode cX7_run 56 = .ok (.aload_n 0, 1) := by decide +kernel
theorem dX7_run_57 : decode cX7_run 57 = .ok (.invokevirtual 135, 3) := by decide +kernel
theorem dX7_run_60 : decode cX7_run 60 = .ok (.ifCond .eq 6, 3) := by decide +kernel
theorem dX7_run_63 : decode cX7_run 63 = .ok (.bipush (-3), 2) := by decide +kernel
theorem dX7_run_65 : decode cX7_run 65 = .ok (.ireturn, 1) := by decide +kernel
theorem dX7_run_66 : decode cX7_run 66 = .ok (.aload_n 0, 1) := by decide +kernel
theorem dX7_run_67 : decode cX7_run 67 = .ok (.getfield 19, 3) := by decide +kernel
theorem dX7_run_70 : decode cX7_run 70 = .ok (.aload_n 0, 1) := by decide +kernel
theorem dX7_run_71 : decode cX7_run 71 = .ok (.getfield 12, 3) := by decide +kernel
theorem dX7_run_74 : decode cX7_run 74 = .ok (.invokevirtual 62, 3) := by decide +kernel
theorem dX7_run_77 : decode cX7_run 77 = .ok (.iconst 0, 1) := by decide +kernel
theorem dX7_run_78 : decode cX7_run 78 = .ok (.istore 4, 2) := by decide +kernel
theorem dX7_run_80 : decode cX7_run 80 = .ok (.iload 4, 2) := by decide +kernel
theorem dX7_run_82 : decode cX7_run 82 = .ok (.aload_n 0, 1) := by decide +kernel
theorem dX7_run_83 : decode cX7_run 83 = .ok (.getfield 19, 3) := by decide +kernel
theorem dX7_run_86 : decode cX7_run 86 = .ok (.getfield 150, 3) := by decide +kernel
theorem dX7_run_89 : decode cX7_run 89 = .ok (.if_icmp .ge 42, 3) := by decide +kernel
theorem dX7_run_92 : decode cX7_run 92 = .ok (.aload_n 0, 1) := by decide +kernel
theorem dX7_run_93 : decode cX7_run 93 = .ok (.getfield 19, 3) := by decide +kernel
theorem dX7_run_96 : decode cX7_run 96 = .ok (.getfield 217, 3) := by decide +kernel
theorem dX7_run_99 : decode cX7_run 99 = .ok (.iload 4, 2) := by decide +kernel
theorem dX7_run_101 : decode cX7_run 101 = .ok (.aaload, 1) := by decide +kernel
theorem dX7_run_102 : decode cX7_run 102 = .ok (.iload 4, 2) := by decide +kernel
theorem dX7_run_104 : decode cX7_run 104 = .ok (.aload_n 3, 1) := by decide +kernel
theorem dX7_run_105 : decode cX7_run 105 = .ok (.getfield 204, 3) := by decide +kernel
theorem dX7_run_108 : decode cX7_run 108 = .ok (.if_icmp .ge 13, 3) := by decide +kernel
theorem dX7_run_111 : decode cX7_run 111 = .ok (.aload_n 3, 1) := by decide +kernel
theorem dX7_run_112 : decode cX7_run 112 = .ok (.getfield 207, 3) := by decide +kernel
theorem dX7_run_115 : decode cX7_run 115 = .ok (.iload 4, 2) := by decide +kernel
theorem dX7_run_117 : decode cX7_run 117 = .ok (.iaload, 1) := by decide +kernel
theorem dX7_run_118 : decode cX7_run 118 = .ok (.goto 4, 3) := by decide +kernel
theorem dX7_run_121 : decode cX7_run 121 = .ok (.iconst 0, 1) := by decide +kernel
theorem dX7_run_122 : decode cX7_run 122 = .ok (.putfield 221, 3) := by decide +kernel
theorem dX7_run_125 : decode cX7_run 125 = .ok (.iinc 4 1, 3) := by decide +kernel
theorem dX7_run_128 : decode cX7_run 128 = .ok (.goto (-48), 3) := by decide +kernel
theorem dX7_run_131 : decode cX7_run 131 = .ok (.aload_n 0, 1) := by decide +kernel
theorem dX7_run_132 : decode cX7_run 132 = .ok (.invokevirtual 224, 3) := by decide +kernel
theorem dX7_run_135 : decode cX7_run 135 = .ok (.istore 4, 2) := by decide +kernel
theorem dX7_run_137 : decode cX7_run 137 = .ok (.iload_n 2, 1) := by decide +kernel
theorem dX7_run_138 : decode cX7_run 138 = .ok (.tableswitch 57 0 3 #[30, 33, 41, 49], 30) := by decide +kernel
theorem dX7_run_168 : decode cX7_run 168 = .ok (.iload 4, 2) := by decide +kernel
theorem dX7_run_170 : decode cX7_run 170 = .ok (.ireturn, 1) := by decide +kernel
theorem dX7_run_171 : decode cX7_run 171 = .ok (.aload_n 0, 1) := by decide +kernel
theorem dX7_run_172 : decode cX7_run 172 = .ok (.getfield 19, 3) := by decide +kernel
theorem dX7_run_175 : decode cX7_run 175 = .ok (.invokevirtual 169, 3) := by decide +kernel
theorem dX7_run_178 : decode cX7_run 178 = .ok (.ireturn, 1) := by decide +kernel
theorem dX7_run_179 : decode cX7_run 179 = .ok (.aload_n 0, 1) := by decide +kernel
theorem dX7_run_180 : decode cX7_run 180 = .ok (.getfield 19, 3) := by decide +kernel
theorem dX7_run_183 : decode cX7_run 183 = .ok (.invokevirtual 173, 3) := by decide +kernel
theorem dX7_run_186 : decode cX7_run 186 = .ok (.ireturn, 1) := by decide +kernel
theorem dX7_run_187 : decode cX7_run 187 = .ok (.aload_n 0, 1) := by decide +kernel
theorem dX7_run_188 : decode cX7_run 188 = .ok (.getfield 19, 3) := by decide +kernel
theorem dX7_run_191 : decode cX7_run 191 = .ok (.getfield 144, 3) := by decide +kernel
theorem dX7_run_194 : decode cX7_run 194 = .ok (.ireturn, 1) := by decide +kernel
theorem dX7_run_195 : decode cX7_run 195 = .ok (.aload_n 0, 1) := by decide +kernel
theorem dX7_run_196 : decode cX7_run 196 = .ok (.getfield 19, 3) := by decide +kernel
theorem dX7_run_199 : decode cX7_run 199 = .ok (.invokevirtual 180, 3) := by decide +kernel
theorem dX7_run_202 : decode cX7_run 202 = .ok (.ifCond .eq 7, 3) := by decide +kernel
theorem dX7_run_205 : decode cX7_run 205 = .ok (.iconst 1, 1) := by decide +kernel
theorem dX7_run_206 : decode cX7_run 206 = .ok (.goto 4, 3) := by decide +kernel
theorem dX7_run_209 : decode cX7_run 209 = .ok (.iconst 0, 1) := by decide +kernel
theorem dX7_run_210 : decode cX7_run 210 = .ok (.ireturn, 1) := by decide +kernel
set_option maxHeartbeats 4000000 in
set_option maxRecDepth 100000 in
theorem c_X7_run_f (l : Launch) (D : va_G) (cA : Nat → ClassId) (ad : Nat → Nat) (o : Int64) (σ : Mem) (d : Int32) (w : Int32) (hF : Fr σ) (sz : Nat) : Met l yX7_run (WY yX7_run cX7_run 5 (some .int)) (RM 1) (va_Pc [.ref (ad 66), .int d, .int w] (PW D cA ad o σ sz)) (va_Qi (fun r (σ9 : Mem) => r = (if (d < 0 ∨ 8 ≤ d) ∨ w < 0 ∨ 4 < w then -1 else -11) ∧ ∀ a9, 91 ≤ a9 → σ9 a9 = σ a9) (QW D cA ad o) (FA ad sz)) 0 0 (FA ad sz) := by
  refine ct_of (own := RX7) (k := 1) (Qf := va_Qi (fun r (σ9 : Mem) => r = (if (d < 0 ∨ 8 ≤ d) ∨ w < 0 ∨ 4 < w then -1 else -11) ∧ ∀ a9, 91 ≤ a9 → σ9 a9 = σ a9) (QW D cA ad o)) rfl (by decide) (Nat.le_of_ble_eq_true rfl) (fun p e s m below meth c ls C0 X hr hlk hP hl => ?_) sz
  have hS : va_S (FA ad s.heap.size) s.heap s.heap [] := va_S.rf
  have hl : lv_has ls 5 [(0, .ref (ad 66)), (1, .int d), (2, .int w)] := hl
  obtain ⟨hx, hb, hml, hown, hts⟩ := id C0
  refine lv_aload_n hx hb dX7_run_0 rfl (lv_at hl 0 rfl) ?_
  refine lv_iload_n hx hb dX7_run_1 rfl (lv_at hl 1 rfl) ?_
  refine r_cq X hS (r_runV (As := [.int d]) (rest := []) C0 X hP L_X7_50 (fun sz => c_X7_shelfAt l D cA ad o σ d  sz) (show 66 < 106 ∧ kd 66 = (7, 8) from ⟨by decide, rfl⟩).1 (show 66 < 106 ∧ kd 66 = (7, 8) from ⟨by decide, rfl⟩).2 (by decide) rfl ⟨Nat.le_of_ble_eq_true rfl, Nat.le_of_ble_eq_true rfl⟩ rfl hl.1 rfl (Nat.le_of_ble_eq_true rfl) dX7_run_2 ⟨Nat.zero_le _, Nat.zero_le _⟩) (fun σ9 H locs hw hP hS => ?_) (fun x9 σ9 H locs hw hP hS => ?_)
  · rw [hw.1] at hP
    have h_1 := hw.2
    refine lv_astore_nN (lv' := [(3, .null), (0, .ref (ad 66)), (1, .int d), (2, .int w)]) hx hb dX7_run_5 rfl hl (by decide) rfl (fun ls hl => ?_)
    refine lv_aload_nN hx hb dX7_run_6 rfl (lv_at hl 0 rfl) ?_
    refine lv_ifnullN (tgt := 19) hx hb dX7_run_7 (by decide) ?_
    refine lv_iconst (v := (-1)) hx hb dX7_run_19 (by decide) ?_
    exact r_iret C0 X hP hS hr hlk dX7_run_20 ⟨(by simp only [h_1, if_true, if_false, ite_true, ite_false, true_and, and_true, false_and, and_false, true_or, or_true, false_or, or_false, not_true_eq_false, not_false_eq_true, ne_eq, and_self, or_self]; try rfl), fun _ _ => rfl⟩
  · rw [hw.1] at hP
    obtain ⟨-, j_2, hj_2, ej_2, rfl⟩ := hw
    have h_1 : ¬ (d < 0 ∨ 8 ≤ d) := by rw [ej_2]; exact nosh hj_2
    refine lv_astore_n (lv' := [(3, .ref (ad (68 + j_2))), (0, .ref (ad 66)), (1, .int d), (2, .int w)]) hx hb dX7_run_5 rfl hl (by decide) rfl (fun ls hl => ?_)
    refine lv_aload_n hx hb dX7_run_6 rfl (lv_at hl 0 rfl) ?_
    refine lv_ifnull hx hb dX7_run_7 ?_
    refine lv_iload_n hx hb dX7_run_10 rfl (lv_at hl 3 rfl) ?_
    refine lv_if_lt (tgt := 19) hx hb dX7_run_11 (by decide) (fun c_3 => ?_) (fun c_3 => ?_)
    · refine lv_iconst (v := (-1)) hx hb dX7_run_19 (by decide) ?_
      exact r_iret C0 X hP hS hr hlk dX7_run_20 ⟨(by simp only [h_1, c_3, Int32.not_le.mpr c_3, if_true, if_false, ite_true, ite_false, true_and, and_true, false_and, and_false, true_or, or_true, false_or, or_false, not_true_eq_false, not_false_eq_true, ne_eq, and_self, or_self]; try rfl), fun _ _ => rfl⟩
    · refine lv_iload_n hx hb dX7_run_14 rfl (lv_at hl 3 rfl) ?_
      refine lv_iconst (v := 4) hx hb dX7_run_15 (by decide) ?_
      refine lv_icmp_le (tgt := 21) hx hb dX7_run_16 (by decide) (fun c_4 => ?_) (fun c_4 => ?_)
      · refine lv_aload_n hx hb dX7_run_21 rfl (lv_at hl 0 rfl) ?_
        refine gf_X7_54 C0 X hP (68 + j_2) (kdS j_2 hj_2) dX7_run_22 ?_
        refine lv_topE (y := 0) (Fr_holds hF hj_2) ?_
        refine lv_if_ne (tgt := 31) hx hb dX7_run_25 (by decide) (fun c_5 => absurd c_5 (by decide)) (fun c_5 => ?_)
        refine lv_bipush (v := (-11)) hx hb dX7_run_28 (by decide) ?_
        exact r_iret C0 X hP hS hr hlk dX7_run_30 ⟨(by simp only [h_1, c_3, c_4, Int32.not_lt.mp c_3, Int32.not_lt.mpr c_4, if_true, if_false, ite_true, ite_false, true_and, and_true, false_and, and_false, true_or, or_true, false_or, or_false, not_true_eq_false, not_false_eq_true, ne_eq, and_self, or_self]; try rfl), fun _ _ => rfl⟩
      · refine lv_iconst (v := (-1)) hx hb dX7_run_19 (by decide) ?_
        exact r_iret C0 X hP hS hr hlk dX7_run_20 ⟨(by simp only [h_1, c_3, c_4, Int32.not_lt.mp c_3, Int32.not_le.mp c_4, if_true, if_false, ite_true, ite_false, true_and, and_true, false_and, and_false, true_or, or_true, false_or, or_false, not_true_eq_false, not_false_eq_true, ne_eq, and_self, or_self]; try rfl), fun _ _ => rfl⟩
theorem dX7_ever_0 : decode cX7_ever 0 = .ok (.aload_n 0, 1) := by decide +kernel
theorem dX7_ever_1 : decode cX7_ever 1 = .ok (.getfield 12, 3) := by decide +kernel
theorem dX7_ever_4 : decode cX7_ever 4 = .ok (.iload_n 1, 1) := by decide +kernel
theorem dX7_ever_5 : decode cX7_ever 5 = .ok (.invokevirtual 99, 3) := by decide +kernel
theorem dX7_ever_8 : decode cX7_ever 8 = .ok (.ifnonnull 5, 3) := by decide +kernel
theorem dX7_ever_11 : decode cX7_ever 11 = .ok (.iconst (-1), 1) := by decide +kernel
theorem dX7_ever_12 : decode cX7_ever 12 = .ok (.ireturn, 1) := by decide +kernel
theorem dX7_ever_13 : decode cX7_ever 13 = .ok (.aload_n 0, 1) := by decide +kernel
theorem dX7_ever_14 : decode cX7_ever 14 = .ok (.getfield 12, 3) := by decide +kernel
theorem dX7_ever_17 : decode cX7_ever 17 = .ok (.getfield 70, 3) := by decide +kernel
theorem dX7_ever_20 : decode cX7_ever 20 = .ok (.getfield 74, 3) := by decide +kernel
theorem dX7_ever_23 : decode cX7_ever 23 = .ok (.ifCond .ne 6, 3) := by decide +kernel
theorem dX7_ever_26 : decode cX7_ever 26 = .ok (.bipush (-3), 2) := by decide +kernel
theorem dX7_ever_28 : decode cX7_ever 28 = .ok (.ireturn, 1) := by decide +kernel
theorem dX7_ever_29 : decode cX7_ever 29 = .ok (.aload_n 0, 1) := by decide +kernel
theorem dX7_ever_30 : decode cX7_ever 30 = .ok (.getfield 19, 3) := by decide +kernel
theorem dX7_ever_33 : decode cX7_ever 33 = .ok (.aload_n 0, 1) := by decide +kernel
theorem dX7_ever_34 : decode cX7_ever 34 = .ok (.getfield 12, 3) := by decide +kernel
theorem dX7_ever_37 : decode cX7_ever 37 = .ok (.invokevirtual 62, 3) := by decide +kernel
theorem dX7_ever_40 : decode cX7_ever 40 = .ok (.aload_n 0, 1) := by decide +kernel
theorem dX7_ever_41 : decode cX7_ever 41 = .ok (.getfield 19, 3) := by decide +kernel
theorem dX7_ever_44 : decode cX7_ever 44 = .ok (.iload_n 1, 1) := by decide +kernel
theorem dX7_ever_45 : decode cX7_ever 45 = .ok (.invokevirtual 99, 3) := by decide +kernel
theorem dX7_ever_48 : decode cX7_ever 48 = .ok (.astore_n 2, 1) := by decide +kernel
theorem dX7_ever_49 : decode cX7_ever 49 = .ok (.aload_n 2, 1) := by decide +kernel
theorem dX7_ever_50 : decode cX7_ever 50 = .ok (.ifnonnull 5, 3) := by decide +kernel
theorem dX7_ever_53 : decode cX7_ever 53 = .ok (.iconst (-1), 1) := by decide +kernel
theorem dX7_ever_54 : decode cX7_ever 54 = .ok (.ireturn, 1) := by decide +kernel
theorem dX7_ever_55 : decode cX7_ever 55 = .ok (.iconst 0, 1) := by decide +kernel
theorem dX7_ever_56 : decode cX7_ever 56 = .ok (.istore_n 3, 1) := by decide +kernel
theorem dX7_ever_57 : decode cX7_ever 57 = .ok (.iload_n 3, 1) := by decide +kernel
theorem dX7_ever_58 : decode cX7_ever 58 = .ok (.bipush 40, 2) := by decide +kernel
theorem dX7_ever_60 : decode cX7_ever 60 = .ok (.if_icmp .gt 31, 3) := by decide +kernel
theorem dX7_ever_63 : decode cX7_ever 63 = .ok (.aload_n 2, 1) := by decide +kernel
theorem dX7_ever_64 : decode cX7_ever 64 = .ok (.iload_n 3, 1) := by decide +kernel
theorem dX7_ever_65 : decode cX7_ever 65 = .ok (.putfield 221, 3) := by decide +kernel
theorem dX7_ever_68 : decode cX7_ever 68 = .ok (.aload_n 0, 1) := by decide +kernel
theorem dX7_ever_69 : decode cX7_ever 69 = .ok (.invokevirtual 224, 3) := by decide +kernel
theorem dX7_ever_72 : decode cX7_ever 72 = .ok (.pop, 1) := by decide +kernel
theorem dX7_ever_73 : decode cX7_ever 73 = .ok (.aload_n 0, 1) := by decide +kernel
theorem dX7_ever_74 : decode cX7_ever 74 = .ok (.getfield 19, 3) := by decide +kernel
theorem dX7_ever_77 : decode cX7_ever 77 = .ok (.invokevirtual 180, 3) := by decide +kernel
theorem dX7_ever_80 : decode cX7_ever 80 = .ok (.ifCond .eq 5, 3) := by decide +kernel
theorem dX7_ever_83 : decode cX7_ever 83 = .ok (.iload_n 3, 1) := by decide +kernel
theorem dX7_ever_84 : decode cX7_ever 84 = .ok (.ireturn, 1) := by decide +kernel
theorem dX7_ever_85 : decode cX7_ever 85 = .ok (.iinc 3 1, 3) := by decide +kernel
theorem dX7_ever_88 : decode cX7_ever 88 = .ok (.goto (-31), 3) := by decide +kernel
theorem dX7_ever_91 : decode cX7_ever 91 = .ok (.bipush (-4), 2) := by decide +kernel
theorem dX7_ever_93 : decode cX7_ever 93 = .ok (.ireturn, 1) := by decide +kernel
set_option maxHeartbeats 4000000 in
set_option maxRecDepth 100000 in
theorem c_X7_ever_f (l : Launch) (D : va_G) (cA : Nat → ClassId) (ad : Nat → Nat) (o : Int64) (σ : Mem) (a : Int32) (hF : Fr σ) (sz : Nat) : Met l yX7_ever (WY yX7_ever cX7_ever 4 (some .int)) (RM 1) (va_Pc [.ref (ad 66), .int a] (PW D cA ad o σ sz)) (va_Qi (fun r (σ9 : Mem) => r = -1 ∧ ∀ a9, 91 ≤ a9 → σ9 a9 = σ a9) (QW D cA ad o) (FA ad sz)) 0 0 (FA ad sz) := by
  refine ct_of (own := RX7) (k := 1) (Qf := va_Qi (fun r (σ9 : Mem) => r = -1 ∧ ∀ a9, 91 ≤ a9 → σ9 a9 = σ a9) (QW D cA ad o)) rfl (by decide) (Nat.le_of_ble_eq_true rfl) (fun p e s m below meth c ls C0 X hr hlk hP hl => ?_) sz
  have hS : va_S (FA ad s.heap.size) s.heap s.heap [] := va_S.rf
  have hl : lv_has ls 4 [(0, .ref (ad 66)), (1, .int a)] := hl
  obtain ⟨hx, hb, hml, hown, hts⟩ := id C0
  refine lv_aload_n hx hb dX7_ever_0 rfl (lv_at hl 0 rfl) ?_
  refine gf_X7_12 C0 X hP 66 (q := 0) ⟨by decide, rfl⟩ (by omega) rfl dX7_ever_1 ?_
  refine lv_iload_n hx hb dX7_ever_4 rfl (lv_at hl 1 rfl) ?_
  refine r_cq X hS (r_runV (As := [.int a]) (rest := []) C0 X hP L_X7_99 (fun sz => c_X6_cartAt l D cA ad o σ 0 a (by decide) sz) (show 0 < 106 ∧ kd 0 = (6, 11) from ⟨by decide, rfl⟩).1 (show 0 < 106 ∧ kd 0 = (6, 11) from ⟨by decide, rfl⟩).2 (by decide) rfl ⟨Nat.le_of_ble_eq_true rfl, Nat.le_of_ble_eq_true rfl⟩ rfl hl.1 rfl (Nat.le_of_ble_eq_true rfl) dX7_ever_5 ⟨Nat.zero_le _, Nat.zero_le _⟩) (fun σ9 H locs hw hP hS => ?_) (fun x9 σ9 H locs hw hP hS => ?_)
  · rw [hw.1] at hP
    have h_1 := hw.2
    refine lv_ifnonnullN hx hb dX7_ever_8 ?_
    refine lv_iconst (v := (-1)) hx hb dX7_ever_11 (by decide) ?_
    exact r_iret C0 X hP hS hr hlk dX7_ever_12 ⟨rfl, fun _ _ => rfl⟩
  · rw [hw.1] at hP
    obtain ⟨-, j_2, hj_2, ej_2, lj_2, rfl⟩ := hw
    exact absurd lj_2 (by rw [show σ (22 * 0) 2 = 0 from Fr_count hF, ej_2]; exact nI_pos (by omega))
theorem dX7_best_0 : decode cX7_best 0 = .ok (.iload_n 1, 1) := by decide +kernel
theorem dX7_best_1 : decode cX7_best 1 = .ok (.ifCond .eq 10, 3) := by decide +kernel
theorem dX7_best_4 : decode cX7_best 4 = .ok (.iload_n 1, 1) := by decide +kernel
theorem dX7_best_5 : decode cX7_best 5 = .ok (.iconst 1, 1) := by decide +kernel
theorem dX7_best_6 : decode cX7_best 6 = .ok (.if_icmp .eq 5, 3) := by decide +kernel
theorem dX7_best_9 : decode cX7_best 9 = .ok (.iconst (-1), 1) := by decide +kernel
theorem dX7_best_10 : decode cX7_best 10 = .ok (.ireturn, 1) := by decide +kernel
theorem dX7_best_11 : decode cX7_best 11 = .ok (.aload_n 0, 1) := by decide +kernel
theorem dX7_best_12 : decode cX7_best 12 = .ok (.invokevirtual 135, 3) := by decide +kernel
theorem dX7_best_15 : decode cX7_best 15 = .ok (.ifCond .eq 6, 3) := by decide +kernel
theorem dX7_best_18 : decode cX7_best 18 = .ok (.bipush (-3), 2) := by decide +kernel
theorem dX7_best_20 : decode cX7_best 20 = .ok (.ireturn, 1) := by decide +kernel
theorem dX7_best_21 : decode cX7_best 21 = .ok (.aload_n 0, 1) := by decide +kernel
theorem dX7_best_22 : decode cX7_best 22 = .ok (.getfield 19, 3) := by decide +kernel
theorem dX7_best_25 : decode cX7_best 25 = .ok (.aload_n 0, 1) := by decide +kernel
theorem dX7_best_26 : decode cX7_best 26 = .ok (.getfield 12, 3) := by decide +kernel
theorem dX7_best_29 : decode cX7_best 29 = .ok (.invokevirtual 62, 3) := by decide +kernel
theorem dX7_best_32 : decode cX7_best 32 = .ok (.iconst 4, 1) := by decide +kernel
theorem dX7_best_33 : decode cX7_best 33 = .ok (.aload_n 0, 1) := by decide +kernel
theorem dX7_best_34 : decode cX7_best 34 = .ok (.getfield 19, 3) := by decide +kernel
theorem dX7_best_37 : decode cX7_best 37 = .ok (.getfield 150, 3) := by decide +kernel
theorem dX7_best_40 : decode cX7_best 40 = .ok (.invokestatic 227, 3) := by decide +kernel
theorem dX7_best_43 : decode cX7_best 43 = .ok (.istore_n 2, 1) := by decide +kernel
theorem dX7_best_44 : decode cX7_best 44 = .ok (.aload_n 0, 1) := by decide +kernel
theorem dX7_best_45 : decode cX7_best 45 = .ok (.getfield 31, 3) := by decide +kernel
theorem dX7_best_48 : decode cX7_best 48 = .ok (.invokevirtual 233, 3) := by decide +kernel
theorem dX7_best_51 : decode cX7_best 51 = .ok (.iconst 0, 1) := by decide +kernel
theorem dX7_best_52 : decode cX7_best 52 = .ok (.istore_n 3, 1) := by decide +kernel
theorem dX7_best_53 : decode cX7_best 53 = .ok (.iload_n 3, 1) := by decide +kernel
theorem dX7_best_54 : decode cX7_best 54 = .ok (.iconst 1, 1) := by decide +kernel
theorem dX7_best_55 : decode cX7_best 55 = .ok (.iconst 2, 1) := by decide +kernel
theorem dX7_best_56 : decode cX7_best 56 = .ok (.iload_n 2, 1) := by decide +kernel
theorem dX7_best_57 : decode cX7_best 57 = .ok (.imul, 1) := by decide +kernel
theorem dX7_best_58 : decode cX7_best 58 = .ok (.ishl, 1) := by decide +kernel
theorem dX7_best_59 : decode cX7_best 59 = .ok (.if_icmp .ge 59, 3) := by decide +kernel
theorem dX7_best_62 : decode cX7_best 62 = .ok (.iconst 0, 1) := by decide +kernel
theorem dX7_best_63 : decode cX7_best 63 = .ok (.istore 4, 2) := by decide +kernel
theorem dX7_best_65 : decode cX7_best 65 = .ok (.iload 4, 2) := by decide +kernel
theorem dX7_best_67 : decode cX7_best 67 = .ok (.iload_n 2, 1) := by decide +kernel
theorem dX7_best_68 : decode cX7_best 68 = .ok (.if_icmp .ge 32, 3) := by decide +kernel
theorem dX7_best_71 : decode cX7_best 71 = .ok (.aload_n 0, 1) := by decide +kernel
theorem dX7_best_72 : decode cX7_best 72 = .ok (.getfield 19, 3) := by decide +kernel
theorem dX7_best_75 : decode cX7_best 75 = .ok (.getfield 217, 3) := by decide +kernel
theorem dX7_best_78 : decode cX7_best 78 = .ok (.iload 4, 2) := by decide +kernel
theorem dX7_best_80 : decode cX7_best 80 = .ok (.aaload, 1) := by decide +kernel
theorem dX7_best_81 : decode cX7_best 81 = .ok (.iconst 5, 1) := by decide +kernel
theorem dX7_best_82 : decode cX7_best 82 = .ok (.iload_n 3, 1) := by decide +kernel
theorem dX7_best_83 : decode cX7_best 83 = .ok (.iconst 2, 1) := by decide +kernel
theorem dX7_best_84 : decode cX7_best 84 = .ok (.iload 4, 2) := by decide +kernel
theorem dX7_best_86 : decode cX7_best 86 = .ok (.imul, 1) := by decide +kernel
theorem dX7_best_87 : decode cX7_best 87 = .ok (.ishr, 1) := by decide +kernel
theorem dX7_best_88 : decode cX7_best 88 = .ok (.iconst 3, 1) := by decide +kernel
theorem dX7_best_89 : decode cX7_best 89 = .ok (.iand, 1) := by decide +kernel
theorem dX7_best_90 : decode cX7_best 90 = .ok (.imul, 1) := by decide +kernel
theorem dX7_best_91 : decode cX7_best 91 = .ok (.putfield 221, 3) := by decide +kernel
theorem dX7_best_94 : decode cX7_best 94 = .ok (.iinc 4 1, 3) := by decide +kernel
theorem dX7_best_97 : decode cX7_best 97 = .ok (.goto (-32), 3) := by decide +kernel
theorem dX7_best_100 : decode cX7_best 100 = .ok (.aload_n 0, 1) := by decide +kernel
theorem dX7_best_101 : decode cX7_best 101 = .ok (.getfield 31, 3) := by decide +kernel
theorem dX7_best_104 : decode cX7_best 104 = .ok (.iload_n 3, 1) := by decide +kernel
theorem dX7_best_105 : decode cX7_best 105 = .ok (.aload_n 0, 1) := by decide +kernel
theorem dX7_best_106 : decode cX7_best 106 = .ok (.invokevirtual 224, 3) := by decide +kernel
theorem dX7_best_109 : decode cX7_best 109 = .ok (.invokevirtual 236, 3) := by decide +kernel
theorem dX7_best_112 : decode cX7_best 112 = .ok (.iinc 3 1, 3) := by decide +kernel
theorem dX7_best_115 : decode cX7_best 115 = .ok (.goto (-62), 3) := by decide +kernel
theorem dX7_best_118 : decode cX7_best 118 = .ok (.iload_n 1, 1) := by decide +kernel
theorem dX7_best_119 : decode cX7_best 119 = .ok (.ifCond .ne 13, 3) := by decide +kernel
theorem dX7_best_122 : decode cX7_best 122 = .ok (.aload_n 0, 1) := by decide +kernel
theorem dX7_best_123 : decode cX7_best 123 = .ok (.getfield 31, 3) := by decide +kernel
theorem dX7_best_126 : decode cX7_best 126 = .ok (.getfield 240, 3) := by decide +kernel
theorem dX7_best_129 : decode cX7_best 129 = .ok (.goto 10, 3) := by decide +kernel
theorem dX7_best_132 : decode cX7_best 132 = .ok (.aload_n 0, 1) := by decide +kernel
theorem dX7_best_133 : decode cX7_best 133 = .ok (.getfield 31, 3) := by decide +kernel
theorem dX7_best_136 : decode cX7_best 136 = .ok (.getfield 243, 3) := by decide +kernel
theorem dX7_best_139 : decode cX7_best 139 = .ok (.ireturn, 1) := by decide +kernel
set_option maxHeartbeats 4000000 in
set_option maxRecDepth 100000 in
theorem c_X7_best_f (l : Launch) (D : va_G) (cA : Nat → ClassId) (ad : Nat → Nat) (o : Int64) (σ : Mem) (w : Int32) (hF : Fr σ) (sz : Nat) : Met l yX7_best (WY yX7_best cX7_best 5 (some .int)) (RM 1) (va_Pc [.ref (ad 66), .int w] (PW D cA ad o σ sz)) (va_Qi (fun r (σ9 : Mem) => r = (if w = 0 ∨ w = 1 then -3 else -1) ∧ ∀ a9, 91 ≤ a9 → σ9 a9 = σ a9) (QW D cA ad o) (FA ad sz)) 0 0 (FA ad sz) := by
  refine ct_of (own := RX7) (k := 1) (Qf := va_Qi (fun r (σ9 : Mem) => r = (if w = 0 ∨ w = 1 then -3 else -1) ∧ ∀ a9, 91 ≤ a9 → σ9 a9 = σ a9) (QW D cA ad o)) rfl (by decide) (Nat.le_of_ble_eq_true rfl) (fun p e s m below meth c ls C0 X hr hlk hP hl => ?_) sz
  have hS : va_S (FA ad s.heap.size) s.heap s.heap [] := va_S.rf
  have hl : lv_has ls 5 [(0, .ref (ad 66)), (1, .int w)] := hl
  obtain ⟨hx, hb, hml, hown, hts⟩ := id C0
  refine lv_iload_n hx hb dX7_best_0 rfl (lv_at hl 1 rfl) ?_
  refine lv_if_eq (tgt := 11) hx hb dX7_best_1 (by decide) (fun c_1 => ?_) (fun c_1 => ?_)
  · refine lv_aload_n hx hb dX7_best_11 rfl (lv_at hl 0 rfl) ?_
    refine r_ci X hS (r_runV (As := []) (rest := []) C0 X hP L_X7_135 (fun sz => c_X7_cannotRun l D cA ad o σ   sz) (show 66 < 106 ∧ kd 66 = (7, 8) from ⟨by decide, rfl⟩).1 (show 66 < 106 ∧ kd 66 = (7, 8) from ⟨by decide, rfl⟩).2 (by decide) rfl ⟨Nat.le_of_ble_eq_true rfl, Nat.le_of_ble_eq_true rfl⟩ rfl hl.1 rfl (Nat.le_of_ble_eq_true rfl) dX7_best_12 ⟨Nat.zero_le _, Nat.zero_le _⟩) (fun r σ9 H locs hw hP hS => ?_)
    rw [hw.2] at hP
    obtain ⟨⟨b_2, rfl⟩ | ⟨b_2, rfl⟩, -⟩ := hw
    · refine lv_if_eq (tgt := 21) hx hb dX7_best_15 (by decide) (fun c_3 => absurd c_3 (by decide)) (fun c_3 => ?_)
      refine lv_bipush (v := (-3)) hx hb dX7_best_18 (by decide) ?_
      exact r_iret C0 X hP hS hr hlk dX7_best_20 ⟨(by simp only [c_1, b_2, if_true, if_false, ite_true, ite_false, true_and, and_true, false_and, and_false, true_or, or_true, false_or, or_false, not_true_eq_false, not_false_eq_true, ne_eq, and_self, or_self]; try rfl), fun _ _ => rfl⟩
    · exact absurd (Or.inl (Fr_pieces hF)) b_2
  · refine lv_iload_n hx hb dX7_best_4 rfl (lv_at hl 1 rfl) ?_
    refine lv_iconst (v := 1) hx hb dX7_best_5 (by decide) ?_
    refine lv_icmp_eq (tgt := 11) hx hb dX7_best_6 (by decide) (fun c_4 => ?_) (fun c_4 => ?_)
    · refine lv_aload_n hx hb dX7_best_11 rfl (lv_at hl 0 rfl) ?_
      refine r_ci X hS (r_runV (As := []) (rest := []) C0 X hP L_X7_135 (fun sz => c_X7_cannotRun l D cA ad o σ   sz) (show 66 < 106 ∧ kd 66 = (7, 8) from ⟨by decide, rfl⟩).1 (show 66 < 106 ∧ kd 66 = (7, 8) from ⟨by decide, rfl⟩).2 (by decide) rfl ⟨Nat.le_of_ble_eq_true rfl, Nat.le_of_ble_eq_true rfl⟩ rfl hl.1 rfl (Nat.le_of_ble_eq_true rfl) dX7_best_12 ⟨Nat.zero_le _, Nat.zero_le _⟩) (fun r σ9 H locs hw hP hS => ?_)
      rw [hw.2] at hP
      obtain ⟨⟨b_5, rfl⟩ | ⟨b_5, rfl⟩, -⟩ := hw
      · refine lv_if_eq (tgt := 21) hx hb dX7_best_15 (by decide) (fun c_6 => absurd c_6 (by decide)) (fun c_6 => ?_)
        refine lv_bipush (v := (-3)) hx hb dX7_best_18 (by decide) ?_
        exact r_iret C0 X hP hS hr hlk dX7_best_20 ⟨(by simp only [c_1, c_4, b_5, if_true, if_false, ite_true, ite_false, true_and, and_true, false_and, and_false, true_or, or_true, false_or, or_false, not_true_eq_false, not_false_eq_true, ne_eq, and_self, or_self]; try rfl), fun _ _ => rfl⟩
      · exact absurd (Or.inl (Fr_pieces hF)) b_5
    · refine lv_iconst (v := (-1)) hx hb dX7_best_9 (by decide) ?_
      exact r_iret C0 X hP hS hr hlk dX7_best_10 ⟨(by simp only [c_1, c_4, if_true, if_false, ite_true, ite_false, true_and, and_true, false_and, and_false, true_or, or_true, false_or, or_false, not_true_eq_false, not_false_eq_true, ne_eq, and_self, or_self]; try rfl), fun _ _ => rfl⟩
theorem dX7_more_0 : decode cX7_more 0 = .ok (.iload_n 1, 1) := by decide +kernel
theorem dX7_more_1 : decode cX7_more 1 = .ok (.ifCond .eq 10, 3) := by decide +kernel
theorem dX7_more_4 : decode cX7_more 4 = .ok (.iload_n 1, 1) := by decide +kernel
theorem dX7_more_5 : decode cX7_more 5 = .ok (.iconst 1, 1) := by decide +kernel
theorem dX7_more_6 : decode cX7_more 6 = .ok (.if_icmp .eq 5, 3) := by decide +kernel
theorem dX7_more_9 : decode cX7_more 9 = .ok (.iconst (-1), 1) := by decide +kernel
theorem dX7_more_10 : decode cX7_more 10 = .ok (.ireturn, 1) := by decide +kernel
theorem dX7_more_11 : decode cX7_more 11 = .ok (.aload_n 0, 1) := by decide +kernel
theorem dX7_more_12 : decode cX7_more 12 = .ok (.invokevirtual 135, 3) := by decide +kernel
theorem dX7_more_15 : decode cX7_more 15 = .ok (.ifCond .eq 6, 3) := by decide +kernel
theorem dX7_more_18 : decode cX7_more 18 = .ok (.bipush (-3), 2) := by decide +kernel
theorem dX7_more_20 : decode cX7_more 20 = .ok (.ireturn, 1) := by decide +kernel
theorem dX7_more_21 : decode cX7_more 21 = .ok (.aload_n 0, 1) := by decide +kernel
theorem dX7_more_22 : decode cX7_more 22 = .ok (.getfield 19, 3) := by decide +kernel
theorem dX7_more_25 : decode cX7_more 25 = .ok (.aload_n 0, 1) := by decide +kernel
theorem dX7_more_26 : decode cX7_more 26 = .ok (.getfield 12, 3) := by decide +kernel
theorem dX7_more_29 : decode cX7_more 29 = .ok (.invokevirtual 62, 3) := by decide +kernel
theorem dX7_more_32 : decode cX7_more 32 = .ok (.aload_n 0, 1) := by decide +kernel
theorem dX7_more_33 : decode cX7_more 33 = .ok (.getfield 31, 3) := by decide +kernel
theorem dX7_more_36 : decode cX7_more 36 = .ok (.invokevirtual 233, 3) := by decide +kernel
theorem dX7_more_39 : decode cX7_more 39 = .ok (.iconst 1, 1) := by decide +kernel
theorem dX7_more_40 : decode cX7_more 40 = .ok (.istore_n 2, 1) := by decide +kernel
theorem dX7_more_41 : decode cX7_more 41 = .ok (.iload_n 2, 1) := by decide +kernel
theorem dX7_more_42 : decode cX7_more 42 = .ok (.aload_n 0, 1) := by decide +kernel
theorem dX7_more_43 : decode cX7_more 43 = .ok (.getfield 19, 3) := by decide +kernel
theorem dX7_more_46 : decode cX7_more 46 = .ok (.getfield 70, 3) := by decide +kernel
theorem dX7_more_49 : decode cX7_more 49 = .ok (.getfield 74, 3) := by decide +kernel
theorem dX7_more_52 : decode cX7_more 52 = .ok (.if_icmp .ge 78, 3) := by decide +kernel
theorem dX7_more_55 : decode cX7_more 55 = .ok (.iload_n 2, 1) := by decide +kernel
theorem dX7_more_56 : decode cX7_more 56 = .ok (.bipush 8, 2) := by decide +kernel
theorem dX7_more_58 : decode cX7_more 58 = .ok (.if_icmp .ge 72, 3) := by decide +kernel
theorem dX7_more_61 : decode cX7_more 61 = .ok (.aload_n 0, 1) := by decide +kernel
theorem dX7_more_62 : decode cX7_more 62 = .ok (.getfield 19, 3) := by decide +kernel
theorem dX7_more_65 : decode cX7_more 65 = .ok (.getfield 70, 3) := by decide +kernel
theorem dX7_more_68 : decode cX7_more 68 = .ok (.getfield 96, 3) := by decide +kernel
theorem dX7_more_71 : decode cX7_more 71 = .ok (.iload_n 2, 1) := by decide +kernel
theorem dX7_more_72 : decode cX7_more 72 = .ok (.iaload, 1) := by decide +kernel
theorem dX7_more_73 : decode cX7_more 73 = .ok (.iconst 4, 1) := by decide +kernel
theorem dX7_more_74 : decode cX7_more 74 = .ok (.if_icmp .lt 6, 3) := by decide +kernel
theorem dX7_more_77 : decode cX7_more 77 = .ok (.goto 47, 3) := by decide +kernel
theorem dX7_more_80 : decode cX7_more 80 = .ok (.aload_n 0, 1) := by decide +kernel
theorem dX7_more_81 : decode cX7_more 81 = .ok (.getfield 19, 3) := by decide +kernel
theorem dX7_more_84 : decode cX7_more 84 = .ok (.getfield 70, 3) := by decide +kernel
theorem dX7_more_87 : decode cX7_more 87 = .ok (.getfield 96, 3) := by decide +kernel
theorem dX7_more_90 : decode cX7_more 90 = .ok (.iload_n 2, 1) := by decide +kernel
theorem dX7_more_91 : decode cX7_more 91 = .ok (.dup2, 1) := by decide +kernel
theorem dX7_more_92 : decode cX7_more 92 = .ok (.iaload, 1) := by decide +kernel
theorem dX7_more_93 : decode cX7_more 93 = .ok (.iconst 1, 1) := by decide +kernel
theorem dX7_more_94 : decode cX7_more 94 = .ok (.iadd, 1) := by decide +kernel
theorem dX7_more_95 : decode cX7_more 95 = .ok (.iastore, 1) := by decide +kernel
theorem dX7_more_96 : decode cX7_more 96 = .ok (.aload_n 0, 1) := by decide +kernel
theorem dX7_more_97 : decode cX7_more 97 = .ok (.getfield 31, 3) := by decide +kernel
theorem dX7_more_100 : decode cX7_more 100 = .ok (.iload_n 2, 1) := by decide +kernel
theorem dX7_more_101 : decode cX7_more 101 = .ok (.aload_n 0, 1) := by decide +kernel
theorem dX7_more_102 : decode cX7_more 102 = .ok (.invokevirtual 224, 3) := by decide +kernel
theorem dX7_more_105 : decode cX7_more 105 = .ok (.invokevirtual 236, 3) := by decide +kernel
theorem dX7_more_108 : decode cX7_more 108 = .ok (.aload_n 0, 1) := by decide +kernel
theorem dX7_more_109 : decode cX7_more 109 = .ok (.getfield 19, 3) := by decide +kernel
theorem dX7_more_112 : decode cX7_more 112 = .ok (.getfield 70, 3) := by decide +kernel
theorem dX7_more_115 : decode cX7_more 115 = .ok (.getfield 96, 3) := by decide +kernel
theorem dX7_more_118 : decode cX7_more 118 = .ok (.iload_n 2, 1) := by decide +kernel
theorem dX7_more_119 : decode cX7_more 119 = .ok (.dup2, 1) := by decide +kernel
theorem dX7_more_120 : decode cX7_more 120 = .ok (.iaload, 1) := by decide +kernel
theorem dX7_more_121 : decode cX7_more 121 = .ok (.iconst 1, 1) := by decide +kernel
theorem dX7_more_122 : decode cX7_more 122 = .ok (.isub, 1) := by decide +kernel
theorem dX7_more_123 : decode cX7_more 123 = .ok (.iastore, 1) := by decide +kernel
theorem dX7_more_124 : decode cX7_more 124 = .ok (.iinc 2 1, 3) := by decide +kernel
theorem dX7_more_127 : decode cX7_more 127 = .ok (.goto (-86), 3) := by decide +kernel
theorem dX7_more_130 : decode cX7_more 130 = .ok (.iload_n 1, 1) := by decide +kernel
theorem dX7_more_131 : decode cX7_more 131 = .ok (.ifCond .ne 13, 3) := by decide +kernel
theorem dX7_more_134 : decode cX7_more 134 = .ok (.aload_n 0, 1) := by decide +kernel
theorem dX7_more_135 : decode cX7_more 135 = .ok (.getfield 31, 3) := by decide +kernel
theorem dX7_more_138 : decode cX7_more 138 = .ok (.getfield 240, 3) := by decide +kernel
theorem dX7_more_141 : decode cX7_more 141 = .ok (.goto 10, 3) := by decide +kernel
theorem dX7_more_144 : decode cX7_more 144 = .ok (.aload_n 0, 1) := by decide +kernel
theorem dX7_more_145 : decode cX7_more 145 = .ok (.getfield 31, 3) := by decide +kernel
theorem dX7_more_148 : decode cX7_more 148 = .ok (.getfield 243, 3) := by decide +kernel
theorem dX7_more_151 : decode cX7_more 151 = .ok (.ireturn, 1) := by decide +kernel
set_option maxHeartbeats 4000000 in
set_option maxRecDepth 100000 in
theorem c_X7_more_f (l : Launch) (D : va_G) (cA : Nat → ClassId) (ad : Nat → Nat) (o : Int64) (σ : Mem) (w : Int32) (hF : Fr σ) (sz : Nat) : Met l yX7_more (WY yX7_more cX7_more 3 (some .int)) (RM 1) (va_Pc [.ref (ad 66), .int w] (PW D cA ad o σ sz)) (va_Qi (fun r (σ9 : Mem) => r = (if w = 0 ∨ w = 1 then -3 else -1) ∧ ∀ a9, 91 ≤ a9 → σ9 a9 = σ a9) (QW D cA ad o) (FA ad sz)) 0 0 (FA ad sz) := by
  refine ct_of (own := RX7) (k := 1) (Qf := va_Qi (fun r (σ9 : Mem) => r = (if w = 0 ∨ w = 1 then -3 else -1) ∧ ∀ a9, 91 ≤ a9 → σ9 a9 = σ a9) (QW D cA ad o)) rfl (by decide) (Nat.le_of_ble_eq_true rfl) (fun p e s m below meth c ls C0 X hr hlk hP hl => ?_) sz
  have hS : va_S (FA ad s.heap.size) s.heap s.heap [] := va_S.rf
  have hl : lv_has ls 3 [(0, .ref (ad 66)), (1, .int w)] := hl
  obtain ⟨hx, hb, hml, hown, hts⟩ := id C0
  refine lv_iload_n hx hb dX7_more_0 rfl (lv_at hl 1 rfl) ?_
  refine lv_if_eq (tgt := 11) hx hb dX7_more_1 (by decide) (fun c_1 => ?_) (fun c_1 => ?_)
  · refine lv_aload_n hx hb dX7_more_11 rfl (lv_at hl 0 rfl) ?_
    refine r_ci X hS (r_runV (As := []) (rest := []) C0 X hP L_X7_135 (fun sz => c_X7_cannotRun l D cA ad o σ   sz) (show 66 < 106 ∧ kd 66 = (7, 8) from ⟨by decide, rfl⟩).1 (show 66 < 106 ∧ kd 66 = (7, 8) from ⟨by decide, rfl⟩).2 (by decide) rfl ⟨Nat.le_of_ble_eq_true rfl, Nat.le_of_ble_eq_true rfl⟩ rfl hl.1 rfl (Nat.le_of_ble_eq_true rfl) dX7_more_12 ⟨Nat.zero_le _, Nat.zero_le _⟩) (fun r σ9 H locs hw hP hS => ?_)
    rw [hw.2] at hP
    obtain ⟨⟨b_2, rfl⟩ | ⟨b_2, rfl⟩, -⟩ := hw
    · refine lv_if_eq (tgt := 21) hx hb dX7_more_15 (by decide) (fun c_3 => absurd c_3 (by decide)) (fun c_3 => ?_)
      refine lv_bipush (v := (-3)) hx hb dX7_more_18 (by decide) ?_
      exact r_iret C0 X hP hS hr hlk dX7_more_20 ⟨(by simp only [c_1, b_2, if_true, if_false, ite_true, ite_false, true_and, and_true, false_and, and_false, true_or, or_true, false_or, or_false, not_true_eq_false, not_false_eq_true, ne_eq, and_self, or_self]; try rfl), fun _ _ => rfl⟩
    · exact absurd (Or.inl (Fr_pieces hF)) b_2
  · refine lv_iload_n hx hb dX7_more_4 rfl (lv_at hl 1 rfl) ?_
    refine lv_iconst (v := 1) hx hb dX7_more_5 (by decide) ?_
    refine lv_icmp_eq (tgt := 11) hx hb dX7_more_6 (by decide) (fun c_4 => ?_) (fun c_4 => ?_)
    · refine lv_aload_n hx hb dX7_more_11 rfl (lv_at hl 0 rfl) ?_
      refine r_ci X hS (r_runV (As := []) (rest := []) C0 X hP L_X7_135 (fun sz => c_X7_cannotRun l D cA ad o σ   sz) (show 66 < 106 ∧ kd 66 = (7, 8) from ⟨by decide, rfl⟩).1 (show 66 < 106 ∧ kd 66 = (7, 8) from ⟨by decide, rfl⟩).2 (by decide) rfl ⟨Nat.le_of_ble_eq_true rfl, Nat.le_of_ble_eq_true rfl⟩ rfl hl.1 rfl (Nat.le_of_ble_eq_true rfl) dX7_more_12 ⟨Nat.zero_le _, Nat.zero_le _⟩) (fun r σ9 H locs hw hP hS => ?_)
      rw [hw.2] at hP
      obtain ⟨⟨b_5, rfl⟩ | ⟨b_5, rfl⟩, -⟩ := hw
      · refine lv_if_eq (tgt := 21) hx hb dX7_more_15 (by decide) (fun c_6 => absurd c_6 (by decide)) (fun c_6 => ?_)
        refine lv_bipush (v := (-3)) hx hb dX7_more_18 (by decide) ?_
        exact r_iret C0 X hP hS hr hlk dX7_more_20 ⟨(by simp only [c_1, c_4, b_5, if_true, if_false, ite_true, ite_false, true_and, and_true, false_and, and_false, true_or, or_true, false_or, or_false, not_true_eq_false, not_false_eq_true, ne_eq, and_self, or_self]; try rfl), fun _ _ => rfl⟩
      · exact absurd (Or.inl (Fr_pieces hF)) b_5
    · refine lv_iconst (v := (-1)) hx hb dX7_more_9 (by decide) ?_
      exact r_iret C0 X hP hS hr hlk dX7_more_10 ⟨(by simp only [c_1, c_4, if_true, if_false, ite_true, ite_false, true_and, and_true, false_and, and_false, true_or, or_true, false_or, or_false, not_true_eq_false, not_false_eq_true, ne_eq, and_self, or_self]; try rfl), fun _ _ => rfl⟩
theorem dX7_hours_0 : decode cX7_hours 0 = .ok (.iload_n 1, 1) := by decide +kernel
theorem dX7_hours_1 : decode cX7_hours 1 = .ok (.ifCond .eq 10, 3) := by decide +kernel
theorem dX7_hours_4 : decode cX7_hours 4 = .ok (.iload_n 1, 1) := by decide +kernel
theorem dX7_hours_5 : decode cX7_hours 5 = .ok (.iconst 1, 1) := by decide +kernel
theorem dX7_hours_6 : decode cX7_hours 6 = .ok (.if_icmp .eq 5, 3) := by decide +kernel
theorem dX7_hours_9 : decode cX7_hours 9 = .ok (.iconst (-1), 1) := by decide +kernel
theorem dX7_hours_10 : decode cX7_hours 10 = .ok (.ireturn, 1) := by decide +kernel
theorem dX7_hours_11 : decode cX7_hours 11 = .ok (.aload_n 0, 1) := by decide +kernel
theorem dX7_hours_12 : decode cX7_hours 12 = .ok (.invokevirtual 135, 3) := by decide +kernel
theorem dX7_hours_15 : decode cX7_hours 15 = .ok (.ifCond .eq 6, 3) := by decide +kernel
theorem dX7_hours_18 : decode cX7_hours 18 = .ok (.bipush (-3), 2) := by decide +kernel
theorem dX7_hours_20 : decode cX7_hours 20 = .ok (.ireturn, 1) := by decide +kernel
theorem dX7_hours_21 : decode cX7_hours 21 = .ok (.aload_n 0, 1) := by decide +kernel
theorem dX7_hours_22 : decode cX7_hours 22 = .ok (.getfield 19, 3) := by decide +kernel
theorem dX7_hours_25 : decode cX7_hours 25 = .ok (.aload_n 0, 1) := by decide +kernel
theorem dX7_hours_26 : decode cX7_hours 26 = .ok (.getfield 12, 3) := by decide +kernel
theorem dX7_hours_29 : decode cX7_hours 29 = .ok (.invokevirtual 62, 3) := by decide +kernel
theorem dX7_hours_32 : decode cX7_hours 32 = .ok (.aload_n 0, 1) := by decide +kernel
theorem dX7_hours_33 : decode cX7_hours 33 = .ok (.getfield 31, 3) := by decide +kernel
theorem dX7_hours_36 : decode cX7_hours 36 = .ok (.invokevirtual 233, 3) := by decide +kernel
theorem dX7_hours_39 : decode cX7_hours 39 = .ok (.iconst 0, 1) := by decide +kernel
theorem dX7_hours_40 : decode cX7_hours 40 = .ok (.istore_n 2, 1) := by decide +kernel
theorem dX7_hours_41 : decode cX7_hours 41 = .ok (.iload_n 2, 1) := by decide +kernel
theorem dX7_hours_42 : decode cX7_hours 42 = .ok (.bipush 9, 2) := by decide +kernel
theorem dX7_hours_44 : decode cX7_hours 44 = .ok (.if_icmp .gt 27, 3) := by decide +kernel
theorem dX7_hours_47 : decode cX7_hours 47 = .ok (.aload_n 0, 1) := by decide +kernel
theorem dX7_hours_48 : decode cX7_hours 48 = .ok (.iconst 3, 1) := by decide +kernel
theorem dX7_hours_49 : decode cX7_hours 49 = .ok (.iload_n 2, 1) := by decide +kernel
theorem dX7_hours_50 : decode cX7_hours 50 = .ok (.invokevirtual 246, 3) := by decide +kernel
theorem dX7_hours_53 : decode cX7_hours 53 = .ok (.aload_n 0, 1) := by decide +kernel
theorem dX7_hours_54 : decode cX7_hours 54 = .ok (.getfield 31, 3) := by decide +kernel
theorem dX7_hours_57 : decode cX7_hours 57 = .ok (.iload_n 2, 1) := by decide +kernel
theorem dX7_hours_58 : decode cX7_hours 58 = .ok (.aload_n 0, 1) := by decide +kernel
theorem dX7_hours_59 : decode cX7_hours 59 = .ok (.invokevirtual 224, 3) := by decide +kernel
theorem dX7_hours_62 : decode cX7_hours 62 = .ok (.invokevirtual 236, 3) := by decide +kernel
theorem dX7_hours_65 : decode cX7_hours 65 = .ok (.iinc 2 1, 3) := by decide +kernel
theorem dX7_hours_68 : decode cX7_hours 68 = .ok (.goto (-27), 3) := by decide +kernel
theorem dX7_hours_71 : decode cX7_hours 71 = .ok (.iload_n 1, 1) := by decide +kernel
theorem dX7_hours_72 : decode cX7_hours 72 = .ok (.ifCond .ne 13, 3) := by decide +kernel
theorem dX7_hours_75 : decode cX7_hours 75 = .ok (.aload_n 0, 1) := by decide +kernel
theorem dX7_hours_76 : decode cX7_hours 76 = .ok (.getfield 31, 3) := by decide +kernel
theorem dX7_hours_79 : decode cX7_hours 79 = .ok (.getfield 240, 3) := by decide +kernel
theorem dX7_hours_82 : decode cX7_hours 82 = .ok (.goto 10, 3) := by decide +kernel
theorem dX7_hours_85 : decode cX7_hours 85 = .ok (.aload_n 0, 1) := by decide +kernel
theorem dX7_hours_86 : decode cX7_hours 86 = .ok (.getfield 31, 3) := by decide +kernel
theorem dX7_hours_89 : decode cX7_hours 89 = .ok (.getfield 243, 3) := by decide +kernel
theorem dX7_hours_92 : decode cX7_hours 92 = .ok (.ireturn, 1) := by decide +kernel
set_option maxHeartbeats 4000000 in
set_option maxRecDepth 100000 in
theorem c_X7_hours_f (l : Launch) (D : va_G) (cA : Nat → ClassId) (ad : Nat → Nat) (o : Int64) (σ : Mem) (w : Int32) (hF : Fr σ) (sz : Nat) : Met l yX7_hours (WY yX7_hours cX7_hours 3 (some .int)) (RM 1) (va_Pc [.ref (ad 66), .int w] (PW D cA ad o σ sz)) (va_Qi (fun r (σ9 : Mem) => r = (if w = 0 ∨ w = 1 then -3 else -1) ∧ ∀ a9, 91 ≤ a9 → σ9 a9 = σ a9) (QW D cA ad o) (FA ad sz)) 0 0 (FA ad sz) := by
  refine ct_of (own := RX7) (k := 1) (Qf := va_Qi (fun r (σ9 : Mem) => r = (if w = 0 ∨ w = 1 then -3 else -1) ∧ ∀ a9, 91 ≤ a9 → σ9 a9 = σ a9) (QW D cA ad o)) rfl (by decide) (Nat.le_of_ble_eq_true rfl) (fun p e s m below meth c ls C0 X hr hlk hP hl => ?_) sz
  have hS : va_S (FA ad s.heap.size) s.heap s.heap [] := va_S.rf
  have hl : lv_has ls 3 [(0, .ref (ad 66)), (1, .int w)] := hl
  obtain ⟨hx, hb, hml, hown, hts⟩ := id C0
  refine lv_iload_n hx hb dX7_hours_0 rfl (lv_at hl 1 rfl) ?_
  refine lv_if_eq (tgt := 11) hx hb dX7_hours_1 (by decide) (fun c_1 => ?_) (fun c_1 => ?_)
  · refine lv_aload_n hx hb dX7_hours_11 rfl (lv_at hl 0 rfl) ?_
    refine r_ci X hS (r_runV (As := []) (rest := []) C0 X hP L_X7_135 (fun sz => c_X7_cannotRun l D cA ad o σ   sz) (show 66 < 106 ∧ kd 66 = (7, 8) from ⟨by decide, rfl⟩).1 (show 66 < 106 ∧ kd 66 = (7, 8) from ⟨by decide, rfl⟩).2 (by decide) rfl ⟨Nat.le_of_ble_eq_true rfl, Nat.le_of_ble_eq_true rfl⟩ rfl hl.1 rfl (Nat.le_of_ble_eq_true rfl) dX7_hours_12 ⟨Nat.zero_le _, Nat.zero_le _⟩) (fun r σ9 H locs hw hP hS => ?_)
    rw [hw.2] at hP
    obtain ⟨⟨b_2, rfl⟩ | ⟨b_2, rfl⟩, -⟩ := hw
    · refine lv_if_eq (tgt := 21) hx hb dX7_hours_15 (by decide) (fun c_3 => absurd c_3 (by decide)) (fun c_3 => ?_)
      refine lv_bipush (v := (-3)) hx hb dX7_hours_18 (by decide) ?_
      exact r_iret C0 X hP hS hr hlk dX7_hours_20 ⟨(by simp only [c_1, b_2, if_true, if_false, ite_true, ite_false, true_and, and_true, false_and, and_false, true_or, or_true, false_or, or_false, not_true_eq_false, not_false_eq_true, ne_eq, and_self, or_self]; try rfl), fun _ _ => rfl⟩
    · exact absurd (Or.inl (Fr_pieces hF)) b_2
  · refine lv_iload_n hx hb dX7_hours_4 rfl (lv_at hl 1 rfl) ?_
    refine lv_iconst (v := 1) hx hb dX7_hours_5 (by decide) ?_
    refine lv_icmp_eq (tgt := 11) hx hb dX7_hours_6 (by decide) (fun c_4 => ?_) (fun c_4 => ?_)
    · refine lv_aload_n hx hb dX7_hours_11 rfl (lv_at hl 0 rfl) ?_
      refine r_ci X hS (r_runV (As := []) (rest := []) C0 X hP L_X7_135 (fun sz => c_X7_cannotRun l D cA ad o σ   sz) (show 66 < 106 ∧ kd 66 = (7, 8) from ⟨by decide, rfl⟩).1 (show 66 < 106 ∧ kd 66 = (7, 8) from ⟨by decide, rfl⟩).2 (by decide) rfl ⟨Nat.le_of_ble_eq_true rfl, Nat.le_of_ble_eq_true rfl⟩ rfl hl.1 rfl (Nat.le_of_ble_eq_true rfl) dX7_hours_12 ⟨Nat.zero_le _, Nat.zero_le _⟩) (fun r σ9 H locs hw hP hS => ?_)
      rw [hw.2] at hP
      obtain ⟨⟨b_5, rfl⟩ | ⟨b_5, rfl⟩, -⟩ := hw
      · refine lv_if_eq (tgt := 21) hx hb dX7_hours_15 (by decide) (fun c_6 => absurd c_6 (by decide)) (fun c_6 => ?_)
        refine lv_bipush (v := (-3)) hx hb dX7_hours_18 (by decide) ?_
        exact r_iret C0 X hP hS hr hlk dX7_hours_20 ⟨(by simp only [c_1, c_4, b_5, if_true, if_false, ite_true, ite_false, true_and, and_true, false_and, and_false, true_or, or_true, false_or, or_false, not_true_eq_false, not_false_eq_true, ne_eq, and_self, or_self]; try rfl), fun _ _ => rfl⟩
      · exact absurd (Or.inl (Fr_pieces hF)) b_5
    · refine lv_iconst (v := (-1)) hx hb dX7_hours_9 (by decide) ?_
      exact r_iret C0 X hP hS hr hlk dX7_hours_10 ⟨(by simp only [c_1, c_4, if_true, if_false, ite_true, ite_false, true_and, and_true, false_and, and_false, true_or, or_true, false_or, or_false, not_true_eq_false, not_false_eq_true, ne_eq, and_self, or_self]; try rfl), fun _ _ => rfl⟩
theorem dX7_fit_0 : decode cX7_fit 0 = .ok (.aload_n 0, 1) := by decide +kernel
theorem dX7_fit_1 : decode cX7_fit 1 = .ok (.iload_n 1, 1) := by decide +kernel
theorem dX7_fit_2 : decode cX7_fit 2 = .ok (.invokevirtual 50, 3) := by decide +kernel
theorem dX7_fit_5 : decode cX7_fit 5 = .ok (.astore_n 3, 1) := by decide +kernel
theorem dX7_fit_6 : decode cX7_fit 6 = .ok (.aload_n 3, 1) := by decide +kernel
theorem dX7_fit_7 : decode cX7_fit 7 = .ok (.ifnull 13, 3) := by decide +kernel
theorem dX7_fit_10 : decode cX7_fit 10 = .ok (.iload_n 2, 1) := by decide +kernel
theorem dX7_fit_11 : decode cX7_fit 11 = .ok (.ifCond .lt 9, 3) := by decide +kernel
theorem dX7_fit_14 : decode cX7_fit 14 = .ok (.iload_n 2, 1) := by decide +kernel
theorem dX7_fit_15 : decode cX7_fit 15 = .ok (.bipush 9, 2) := by decide +kernel
theorem dX7_fit_17 : decode cX7_fit 17 = .ok (.if_icmp .le 5, 3) := by decide +kernel
theorem dX7_fit_20 : decode cX7_fit 20 = .ok (.iconst (-1), 1) := by decide +kernel
theorem dX7_fit_21 : decode cX7_fit 21 = .ok (.ireturn, 1) := by decide +kernel
theorem dX7_fit_22 : decode cX7_fit 22 = .ok (.aload_n 3, 1) := by decide +kernel
theorem dX7_fit_23 : decode cX7_fit 23 = .ok (.getfield 54, 3) := by decide +kernel
theorem dX7_fit_26 : decode cX7_fit 26 = .ok (.ifCond .ne 6, 3) := by decide +kernel
theorem dX7_fit_29 : decode cX7_fit 29 = .ok (.bipush (-11), 2) := by decide +kernel
theorem dX7_fit_31 : decode cX7_fit 31 = .ok (.ireturn, 1) := by decide +kernel
theorem dX7_fit_32 : decode cX7_fit 32 = .ok (.aload_n 3, 1) := by decide +kernel
theorem dX7_fit_33 : decode cX7_fit 33 = .ok (.invokevirtual 58, 3) := by decide +kernel
theorem dX7_fit_36 : decode cX7_fit 36 = .ok (.ifCond .ne 6, 3) := by decide +kernel
theorem dX7_fit_39 : decode cX7_fit 39 = .ok (.bipush (-12), 2) := by decide +kernel
theorem dX7_fit_41 : decode cX7_fit 41 = .ok (.ireturn, 1) := by decide +kernel
theorem dX7_fit_42 : decode cX7_fit 42 = .ok (.aload_n 3, 1) := by decide +kernel
theorem dX7_fit_43 : decode cX7_fit 43 = .ok (.getfield 204, 3) := by decide +kernel
theorem dX7_fit_46 : decode cX7_fit 46 = .ok (.ifCond .eq 13, 3) := by decide +kernel
theorem dX7_fit_49 : decode cX7_fit 49 = .ok (.aload_n 3, 1) := by decide +kernel
theorem dX7_fit_50 : decode cX7_fit 50 = .ok (.iconst 0, 1) := by decide +kernel
theorem dX7_fit_51 : decode cX7_fit 51 = .ok (.bipush 7, 2) := by decide +kernel
theorem dX7_fit_53 : decode cX7_fit 53 = .ok (.invokevirtual 213, 3) := by decide +kernel
theorem dX7_fit_56 : decode cX7_fit 56 = .ok (.ifCond .ne 6, 3) := by decide +kernel
theorem dX7_fit_59 : decode cX7_fit 59 = .ok (.bipush (-13), 2) := by decide +kernel
theorem dX7_fit_61 : decode cX7_fit 61 = .ok (.ireturn, 1) := by decide +kernel
theorem dX7_fit_62 : decode cX7_fit 62 = .ok (.aload_n 0, 1) := by decide +kernel
theorem dX7_fit_63 : decode cX7_fit 63 = .ok (.invokevirtual 135, 3) := by decide +kernel
theorem dX7_fit_66 : decode cX7_fit 66 = .ok (.ifCond .eq 6, 3) := by decide +kernel
theorem dX7_fit_69 : decode cX7_fit 69 = .ok (.bipush (-3), 2) := by decide +kernel
theorem dX7_fit_71 : decode cX7_fit 71 = .ok (.ireturn, 1) := by decide +kernel
theorem dX7_fit_72 : decode cX7_fit 72 = .ok (.aload_n 0, 1) := by decide +kernel
theorem dX7_fit_73 : decode cX7_fit 73 = .ok (.getfield 19, 3) := by decide +kernel
theorem dX7_fit_76 : decode cX7_fit 76 = .ok (.aload_n 0, 1) := by decide +kernel
theorem dX7_fit_77 : decode cX7_fit 77 = .ok (.getfield 12, 3) := by decide +kernel
theorem dX7_fit_80 : decode cX7_fit 80 = .ok (.invokevirtual 62, 3) := by decide +kernel
theorem dX7_fit_83 : decode cX7_fit 83 = .ok (.aload_n 0, 1) := by decide +kernel
theorem dX7_fit_84 : decode cX7_fit 84 = .ok (.getfield 31, 3) := by decide +kernel
theorem dX7_fit_87 : decode cX7_fit 87 = .ok (.invokevirtual 233, 3) := by decide +kernel
theorem dX7_fit_90 : decode cX7_fit 90 = .ok (.iconst 0, 1) := by decide +kernel
theorem dX7_fit_91 : decode cX7_fit 91 = .ok (.istore 4, 2) := by decide +kernel
theorem dX7_fit_93 : decode cX7_fit 93 = .ok (.iload 4, 2) := by decide +kernel
theorem dX7_fit_95 : decode cX7_fit 95 = .ok (.aload_n 3, 1) := by decide +kernel
theorem dX7_fit_96 : decode cX7_fit 96 = .ok (.getfield 204, 3) := by decide +kernel
theorem dX7_fit_99 : decode cX7_fit 99 = .ok (.if_icmp .ge 41, 3) := by decide +kernel
theorem dX7_fit_102 : decode cX7_fit 102 = .ok (.iload 4, 2) := by decide +kernel
theorem dX7_fit_104 : decode cX7_fit 104 = .ok (.bipush 100, 2) := by decide +kernel
theorem dX7_fit_106 : decode cX7_fit 106 = .ok (.if_icmp .ge 34, 3) := by decide +kernel
theorem dX7_fit_109 : decode cX7_fit 109 = .ok (.aload_n 0, 1) := by decide +kernel
theorem dX7_fit_110 : decode cX7_fit 110 = .ok (.aload_n 3, 1) := by decide +kernel
theorem dX7_fit_111 : decode cX7_fit 111 = .ok (.getfield 207, 3) := by decide +kernel
theorem dX7_fit_114 : decode cX7_fit 114 = .ok (.iload 4, 2) := by decide +kernel
theorem dX7_fit_116 : decode cX7_fit 116 = .ok (.iaload, 1) := by decide +kernel
theorem dX7_fit_117 : decode cX7_fit 117 = .ok (.iload_n 2, 1) := by decide +kernel
theorem dX7_fit_118 : decode cX7_fit 118 = .ok (.invokevirtual 246, 3) := by decide +kernel
theorem dX7_fit_121 : decode cX7_fit 121 = .ok (.aload_n 0, 1) := by decide +kernel
theorem dX7_fit_122 : decode cX7_fit 122 = .ok (.getfield 31, 3) := by decide +kernel
theorem dX7_fit_125 : decode cX7_fit 125 = .ok (.iload 4, 2) := by decide +kernel
theorem dX7_fit_127 : decode cX7_fit 127 = .ok (.aload_n 0, 1) := by decide +kernel
theorem dX7_fit_128 : decode cX7_fit 128 = .ok (.invokevirtual 224, 3) := by decide +kernel
theorem dX7_fit_131 : decode cX7_fit 131 = .ok (.invokevirtual 236, 3) := by decide +kernel
theorem dX7_fit_134 : decode cX7_fit 134 = .ok (.iinc 4 1, 3) := by decide +kernel
theorem dX7_fit_137 : decode cX7_fit 137 = .ok (.goto (-44), 3) := by decide +kernel
theorem dX7_fit_140 : decode cX7_fit 140 = .ok (.aload_n 0, 1) := by decide +kernel
theorem dX7_fit_141 : decode cX7_fit 141 = .ok (.getfield 31, 3) := by decide +kernel
theorem dX7_fit_144 : decode cX7_fit 144 = .ok (.getfield 240, 3) := by decide +kernel
theorem dX7_fit_147 : decode cX7_fit 147 = .ok (.ireturn, 1) := by decide +kernel
set_option maxHeartbeats 4000000 in
set_option maxRecDepth 100000 in
theorem c_X7_fit_f (l : Launch) (D : va_G) (cA : Nat → ClassId) (ad : Nat → Nat) (o : Int64) (σ : Mem) (d : Int32) (w : Int32) (hF : Fr σ) (sz : Nat) : Met l yX7_fit (WY yX7_fit cX7_fit 5 (some .int)) (RM 1) (va_Pc [.ref (ad 66), .int d, .int w] (PW D cA ad o σ sz)) (va_Qi (fun r (σ9 : Mem) => r = (if (d < 0 ∨ 8 ≤ d) ∨ w < 0 ∨ 9 < w then -1 else -11) ∧ ∀ a9, 91 ≤ a9 → σ9 a9 = σ a9) (QW D cA ad o) (FA ad sz)) 0 0 (FA ad sz) := by
  refine ct_of (own := RX7) (k := 1) (Qf := va_Qi (fun r (σ9 : Mem) => r = (if (d < 0 ∨ 8 ≤ d) ∨ w < 0 ∨ 9 < w then -1 else -11) ∧ ∀ a9, 91 ≤ a9 → σ9 a9 = σ a9) (QW D cA ad o)) rfl (by decide) (Nat.le_of_ble_eq_true rfl) (fun p e s m below meth c ls C0 X hr hlk hP hl => ?_) sz
  have hS : va_S (FA ad s.heap.size) s.heap s.heap [] := va_S.rf
  have hl : lv_has ls 5 [(0, .ref (ad 66)), (1, .int d), (2, .int w)] := hl
  obtain ⟨hx, hb, hml, hown, hts⟩ := id C0
  refine lv_aload_n hx hb dX7_fit_0 rfl (lv_at hl 0 rfl) ?_
  refine lv_iload_n hx hb dX7_fit_1 rfl (lv_at hl 1 rfl) ?_
  refine r_cq X hS (r_runV (As := [.int d]) (rest := []) C0 X hP L_X7_50 (fun sz => c_X7_shelfAt l D cA ad o σ d  sz) (show 66 < 106 ∧ kd 66 = (7, 8) from ⟨by decide, rfl⟩).1 (show 66 < 106 ∧ kd 66 = (7, 8) from ⟨by decide, rfl⟩).2 (by decide) rfl ⟨Nat.le_of_ble_eq_true rfl, Nat.le_of_ble_eq_true rfl⟩ rfl hl.1 rfl (Nat.le_of_ble_eq_true rfl) dX7_fit_2 ⟨Nat.zero_le _, Nat.zero_le _⟩) (fun σ9 H locs hw hP hS => ?_) (fun x9 σ9 H locs hw hP hS => ?_)
  · rw [hw.1] at hP
    have h_1 := hw.2
    refine lv_astore_nN (lv' := [(3, .null), (0, .ref (ad 66)), (1, .int d), (2, .int w)]) hx hb dX7_fit_5 rfl hl (by decide) rfl (fun ls hl => ?_)
    refine lv_aload_nN hx hb dX7_fit_6 rfl (lv_at hl 0 rfl) ?_
    refine lv_ifnullN (tgt := 20) hx hb dX7_fit_7 (by decide) ?_
    refine lv_iconst (v := (-1)) hx hb dX7_fit_20 (by decide) ?_
    exact r_iret C0 X hP hS hr hlk dX7_fit_21 ⟨(by simp only [h_1, if_true, if_false, ite_true, ite_false, true_and, and_true, false_and, and_false, true_or, or_true, false_or, or_false, not_true_eq_false, not_false_eq_true, ne_eq, and_self, or_self]; try rfl), fun _ _ => rfl⟩
  · rw [hw.1] at hP
    obtain ⟨-, j_2, hj_2, ej_2, rfl⟩ := hw
    have h_1 : ¬ (d < 0 ∨ 8 ≤ d) := by rw [ej_2]; exact nosh hj_2
    refine lv_astore_n (lv' := [(3, .ref (ad (68 + j_2))), (0, .ref (ad 66)), (1, .int d), (2, .int w)]) hx hb dX7_fit_5 rfl hl (by decide) rfl (fun ls hl => ?_)
    refine lv_aload_n hx hb dX7_fit_6 rfl (lv_at hl 0 rfl) ?_
    refine lv_ifnull hx hb dX7_fit_7 ?_
    refine lv_iload_n hx hb dX7_fit_10 rfl (lv_at hl 3 rfl) ?_
    refine lv_if_lt (tgt := 20) hx hb dX7_fit_11 (by decide) (fun c_3 => ?_) (fun c_3 => ?_)
    · refine lv_iconst (v := (-1)) hx hb dX7_fit_20 (by decide) ?_
      exact r_iret C0 X hP hS hr hlk dX7_fit_21 ⟨(by simp only [h_1, c_3, Int32.not_le.mpr c_3, if_true, if_false, ite_true, ite_false, true_and, and_true, false_and, and_false, true_or, or_true, false_or, or_false, not_true_eq_false, not_false_eq_true, ne_eq, and_self, or_self]; try rfl), fun _ _ => rfl⟩
    · refine lv_iload_n hx hb dX7_fit_14 rfl (lv_at hl 3 rfl) ?_
      refine lv_bipush (v := 9) hx hb dX7_fit_15 (by decide) ?_
      refine lv_icmp_le (tgt := 22) hx hb dX7_fit_17 (by decide) (fun c_4 => ?_) (fun c_4 => ?_)
      · refine lv_aload_n hx hb dX7_fit_22 rfl (lv_at hl 0 rfl) ?_
        refine gf_X7_54 C0 X hP (68 + j_2) (kdS j_2 hj_2) dX7_fit_23 ?_
        refine lv_topE (y := 0) (Fr_holds hF hj_2) ?_
        refine lv_if_ne (tgt := 32) hx hb dX7_fit_26 (by decide) (fun c_5 => absurd c_5 (by decide)) (fun c_5 => ?_)
        refine lv_bipush (v := (-11)) hx hb dX7_fit_29 (by decide) ?_
        exact r_iret C0 X hP hS hr hlk dX7_fit_31 ⟨(by simp only [h_1, c_3, c_4, Int32.not_lt.mp c_3, Int32.not_lt.mpr c_4, if_true, if_false, ite_true, ite_false, true_and, and_true, false_and, and_false, true_or, or_true, false_or, or_false, not_true_eq_false, not_false_eq_true, ne_eq, and_self, or_self]; try rfl), fun _ _ => rfl⟩
      · refine lv_iconst (v := (-1)) hx hb dX7_fit_20 (by decide) ?_
        exact r_iret C0 X hP hS hr hlk dX7_fit_21 ⟨(by simp only [h_1, c_3, c_4, Int32.not_lt.mp c_3, Int32.not_le.mp c_4, if_true, if_false, ite_true, ite_false, true_and, and_true, false_and, and_false, true_or, or_true, false_or, or_false, not_true_eq_false, not_false_eq_true, ne_eq, and_self, or_self]; try rfl), fun _ _ => rfl⟩
theorem dX7_shortest_0 : decode cX7_shortest 0 = .ok (.aload_n 0, 1) := by decide +kernel
theorem dX7_shortest_1 : decode cX7_shortest 1 = .ok (.invokevirtual 135, 3) := by decide +kernel
theorem dX7_shortest_4 : decode cX7_shortest 4 = .ok (.ifCond .eq 6, 3) := by decide +kernel
theorem dX7_shortest_7 : decode cX7_shortest 7 = .ok (.bipush (-3), 2) := by decide +kernel
theorem dX7_shortest_9 : decode cX7_shortest 9 = .ok (.ireturn, 1) := by decide +kernel
theorem dX7_shortest_10 : decode cX7_shortest 10 = .ok (.aload_n 0, 1) := by decide +kernel
theorem dX7_shortest_11 : decode cX7_shortest 11 = .ok (.getfield 19, 3) := by decide +kernel
theorem dX7_shortest_14 : decode cX7_shortest 14 = .ok (.aload_n 0, 1) := by decide +kernel
theorem dX7_shortest_15 : decode cX7_shortest 15 = .ok (.getfield 12, 3) := by decide +kernel
theorem dX7_shortest_18 : decode cX7_shortest 18 = .ok (.invokevirtual 62, 3) := by decide +kernel
theorem dX7_shortest_21 : decode cX7_shortest 21 = .ok (.aload_n 0, 1) := by decide +kernel
theorem dX7_shortest_22 : decode cX7_shortest 22 = .ok (.getfield 31, 3) := by decide +kernel
theorem dX7_shortest_25 : decode cX7_shortest 25 = .ok (.invokevirtual 233, 3) := by decide +kernel
theorem dX7_shortest_28 : decode cX7_shortest 28 = .ok (.iconst 0, 1) := by decide +kernel
theorem dX7_shortest_29 : decode cX7_shortest 29 = .ok (.istore_n 1, 1) := by decide +kernel
theorem dX7_shortest_30 : decode cX7_shortest 30 = .ok (.iload_n 1, 1) := by decide +kernel
theorem dX7_shortest_31 : decode cX7_shortest 31 = .ok (.bipush 8, 2) := by decide +kernel
theorem dX7_shortest_33 : decode cX7_shortest 33 = .ok (.if_icmp .ge 61, 3) := by decide +kernel
theorem dX7_shortest_36 : decode cX7_shortest 36 = .ok (.iconst 0, 1) := by decide +kernel
theorem dX7_shortest_37 : decode cX7_shortest 37 = .ok (.istore_n 2, 1) := by decide +kernel
theorem dX7_shortest_38 : decode cX7_shortest 38 = .ok (.iload_n 2, 1) := by decide +kernel
theorem dX7_shortest_39 : decode cX7_shortest 39 = .ok (.iconst 4, 1) := by decide +kernel
theorem dX7_shortest_40 : decode cX7_shortest 40 = .ok (.if_icmp .gt 48, 3) := by decide +kernel
theorem dX7_shortest_43 : decode cX7_shortest 43 = .ok (.aload_n 0, 1) := by decide +kernel
theorem dX7_shortest_44 : decode cX7_shortest 44 = .ok (.iload_n 1, 1) := by decide +kernel
theorem dX7_shortest_45 : decode cX7_shortest 45 = .ok (.iload_n 2, 1) := by decide +kernel
theorem dX7_shortest_46 : decode cX7_shortest 46 = .ok (.invokevirtual 246, 3) := by decide +kernel
theorem dX7_shortest_49 : decode cX7_shortest 49 = .ok (.aload_n 0, 1) := by decide +kernel
theorem dX7_shortest_50 : decode cX7_shortest 50 = .ok (.invokevirtual 224, 3) := by decide +kernel
theorem dX7_shortest_53 : decode cX7_shortest 53 = .ok (.pop, 1) := by decide +kernel
theorem dX7_shortest_54 : decode cX7_shortest 54 = .ok (.aload_n 0, 1) := by decide +kernel
theorem dX7_shortest_55 : decode cX7_shortest 55 = .ok (.getfield 19, 3) := by decide +kernel
theorem dX7_shortest_58 : decode cX7_shortest 58 = .ok (.invokevirtual 180, 3) := by decide +kernel
theorem dX7_shortest_61 : decode cX7_shortest 61 = .ok (.ifCond .ne 21, 3) := by decide +kernel
theorem dX7_shortest_64 : decode cX7_shortest 64 = .ok (.aload_n 0, 1) := by decide +kernel
theorem dX7_shortest_65 : decode cX7_shortest 65 = .ok (.getfield 31, 3) := by decide +kernel
theorem dX7_shortest_68 : decode cX7_shortest 68 = .ok (.bipush 10, 2) := by decide +kernel
theorem dX7_shortest_70 : decode cX7_shortest 70 = .ok (.iload_n 1, 1) := by decide +kernel
theorem dX7_shortest_71 : decode cX7_shortest 71 = .ok (.imul, 1) := by decide +kernel
theorem dX7_shortest_72 : decode cX7_shortest 72 = .ok (.iload_n 2, 1) := by decide +kernel
theorem dX7_shortest_73 : decode cX7_shortest 73 = .ok (.iadd, 1) := by decide +kernel
theorem dX7_shortest_74 : decode cX7_shortest 74 = .ok (.iload_n 1, 1) := by decide +kernel
theorem dX7_shortest_75 : decode cX7_shortest 75 = .ok (.iload_n 2, 1) := by decide +kernel
theorem dX7_shortest_76 : decode cX7_shortest 76 = .ok (.invokestatic 249, 3) := by decide +kernel
theorem dX7_shortest_79 : decode cX7_shortest 79 = .ok (.invokevirtual 236, 3) := by decide +kernel
theorem dX7_shortest_82 : decode cX7_shortest 82 = .ok (.iinc 2 1, 3) := by decide +kernel
theorem dX7_shortest_85 : decode cX7_shortest 85 = .ok (.goto (-47), 3) := by decide +kernel
theorem dX7_shortest_88 : decode cX7_shortest 88 = .ok (.iinc 1 1, 3) := by decide +kernel
theorem dX7_shortest_91 : decode cX7_shortest 91 = .ok (.goto (-61), 3) := by decide +kernel
theorem dX7_shortest_94 : decode cX7_shortest 94 = .ok (.aload_n 0, 1) := by decide +kernel
theorem dX7_shortest_95 : decode cX7_shortest 95 = .ok (.getfield 31, 3) := by decide +kernel
theorem dX7_shortest_98 : decode cX7_shortest 98 = .ok (.getfield 240, 3) := by decide +kernel
theorem dX7_shortest_101 : decode cX7_shortest 101 = .ok (.ireturn, 1) := by decide +kernel
set_option maxHeartbeats 4000000 in
set_option maxRecDepth 100000 in
theorem c_X7_shortest_f (l : Launch) (D : va_G) (cA : Nat → ClassId) (ad : Nat → Nat) (o : Int64) (σ : Mem)  (hF : Fr σ) (sz : Nat) : Met l yX7_shortest (WY yX7_shortest cX7_shortest 3 (some .int)) (RM 1) (va_Pc [.ref (ad 66)] (PW D cA ad o σ sz)) (va_Qi (fun r (σ9 : Mem) => r = -3 ∧ ∀ a9, 91 ≤ a9 → σ9 a9 = σ a9) (QW D cA ad o) (FA ad sz)) 0 0 (FA ad sz) := by
  refine ct_of (own := RX7) (k := 1) (Qf := va_Qi (fun r (σ9 : Mem) => r = -3 ∧ ∀ a9, 91 ≤ a9 → σ9 a9 = σ a9) (QW D cA ad o)) rfl (by decide) (Nat.le_of_ble_eq_true rfl) (fun p e s m below meth c ls C0 X hr hlk hP hl => ?_) sz
  have hS : va_S (FA ad s.heap.size) s.heap s.heap [] := va_S.rf
  have hl : lv_has ls 3 [(0, .ref (ad 66))] := hl
  obtain ⟨hx, hb, hml, hown, hts⟩ := id C0
  refine lv_aload_n hx hb dX7_shortest_0 rfl (lv_at hl 0 rfl) ?_
  refine r_ci X hS (r_runV (As := []) (rest := []) C0 X hP L_X7_135 (fun sz => c_X7_cannotRun l D cA ad o σ   sz) (show 66 < 106 ∧ kd 66 = (7, 8) from ⟨by decide, rfl⟩).1 (show 66 < 106 ∧ kd 66 = (7, 8) from ⟨by decide, rfl⟩).2 (by decide) rfl ⟨Nat.le_of_ble_eq_true rfl, Nat.le_of_ble_eq_true rfl⟩ rfl hl.1 rfl (Nat.le_of_ble_eq_true rfl) dX7_shortest_1 ⟨Nat.zero_le _, Nat.zero_le _⟩) (fun r σ9 H locs hw hP hS => ?_)
  rw [hw.2] at hP
  obtain ⟨⟨b_1, rfl⟩ | ⟨b_1, rfl⟩, -⟩ := hw
  · refine lv_if_eq (tgt := 10) hx hb dX7_shortest_4 (by decide) (fun c_2 => absurd c_2 (by decide)) (fun c_2 => ?_)
    refine lv_bipush (v := (-3)) hx hb dX7_shortest_7 (by decide) ?_
    exact r_iret C0 X hP hS hr hlk dX7_shortest_9 ⟨rfl, fun _ _ => rfl⟩
  · exact absurd (Or.inl (Fr_pieces hF)) b_1
theorem dX7_stubborn_0 : decode cX7_stubborn 0 = .ok (.aload_n 0, 1) := by decide +kernel
theorem dX7_stubborn_1 : decode cX7_stubborn 1 = .ok (.getfield 12, 3) := by decide +kernel
theorem dX7_stubborn_4 : decode cX7_stubborn 4 = .ok (.iload_n 1, 1) := by decide +kernel
theorem dX7_stubborn_5 : decode cX7_stubborn 5 = .ok (.invokevirtual 99, 3) := by decide +kernel
theorem dX7_stubborn_8 : decode cX7_stubborn 8 = .ok (.ifnonnull 6, 3) := by decide +kernel
theorem dX7_stubborn_11 : decode cX7_stubborn 11 = .ok (.ldc 153, 2) := by decide +kernel
theorem dX7_stubborn_13 : decode cX7_stubborn 13 = .ok (.ireturn, 1) := by decide +kernel
theorem dX7_stubborn_14 : decode cX7_stubborn 14 = .ok (.aload_n 0, 1) := by decide +kernel
theorem dX7_stubborn_15 : decode cX7_stubborn 15 = .ok (.getfield 12, 3) := by decide +kernel
theorem dX7_stubborn_18 : decode cX7_stubborn 18 = .ok (.getfield 70, 3) := by decide +kernel
theorem dX7_stubborn_21 : decode cX7_stubborn 21 = .ok (.getfield 74, 3) := by decide +kernel
theorem dX7_stubborn_24 : decode cX7_stubborn 24 = .ok (.ifCond .ne 6, 3) := by decide +kernel
theorem dX7_stubborn_27 : decode cX7_stubborn 27 = .ok (.ldc 252, 2) := by decide +kernel
theorem dX7_stubborn_29 : decode cX7_stubborn 29 = .ok (.ireturn, 1) := by decide +kernel
theorem dX7_stubborn_30 : decode cX7_stubborn 30 = .ok (.aload_n 0, 1) := by decide +kernel
theorem dX7_stubborn_31 : decode cX7_stubborn 31 = .ok (.getfield 19, 3) := by decide +kernel
theorem dX7_stubborn_34 : decode cX7_stubborn 34 = .ok (.aload_n 0, 1) := by decide +kernel
theorem dX7_stubborn_35 : decode cX7_stubborn 35 = .ok (.getfield 12, 3) := by decide +kernel
theorem dX7_stubborn_38 : decode cX7_stubborn 38 = .ok (.invokevirtual 62, 3) := by decide +kernel
theorem dX7_stubborn_41 : decode cX7_stubborn 41 = .ok (.aload_n 0, 1) := by decide +kernel
theorem dX7_stubborn_42 : decode cX7_stubborn 42 = .ok (.invokevirtual 224, 3) := by decide +kernel
theorem dX7_stubborn_45 : decode cX7_stubborn 45 = .ok (.istore_n 2, 1) := by decide +kernel
theorem dX7_stubborn_46 : decode cX7_stubborn 46 = .ok (.aload_n 0, 1) := by decide +kernel
theorem dX7_stubborn_47 : decode cX7_stubborn 47 = .ok (.getfield 19, 3) := by decide +kernel
theorem dX7_stubborn_50 : decode cX7_stubborn 50 = .ok (.iload_n 1, 1) := by decide +kernel
theorem dX7_stubborn_51 : decode cX7_stubborn 51 = .ok (.invokevirtual 99, 3) := by decide +kernel
theorem dX7_stubborn_54 : decode cX7_stubborn 54 = .ok (.astore_n 3, 1) := by decide +kernel
theorem dX7_stubborn_55 : decode cX7_stubborn 55 = .ok (.aload_n 3, 1) := by decide +kernel
theorem dX7_stubborn_56 : decode cX7_stubborn 56 = .ok (.ifnonnull 6, 3) := by decide +kernel
theorem dX7_stubborn_59 : decode cX7_stubborn 59 = .ok (.ldc 153, 2) := by decide +kernel
theorem dX7_stubborn_61 : decode cX7_stubborn 61 = .ok (.ireturn, 1) := by decide +kernel
theorem dX7_stubborn_62 : decode cX7_stubborn 62 = .ok (.aload_n 3, 1) := by decide +kernel
theorem dX7_stubborn_63 : decode cX7_stubborn 63 = .ok (.iconst 0, 1) := by decide +kernel
theorem dX7_stubborn_64 : decode cX7_stubborn 64 = .ok (.putfield 115, 3) := by decide +kernel
theorem dX7_stubborn_67 : decode cX7_stubborn 67 = .ok (.aload_n 0, 1) := by decide +kernel
theorem dX7_stubborn_68 : decode cX7_stubborn 68 = .ok (.invokevirtual 224, 3) := by decide +kernel
theorem dX7_stubborn_71 : decode cX7_stubborn 71 = .ok (.iload_n 2, 1) := by decide +kernel
theorem dX7_stubborn_72 : decode cX7_stubborn 72 = .ok (.isub, 1) := by decide +kernel
theorem dX7_stubborn_73 : decode cX7_stubborn 73 = .ok (.ireturn, 1) := by decide +kernel
set_option maxHeartbeats 4000000 in
set_option maxRecDepth 100000 in
theorem c_X7_stubborn_f (l : Launch) (D : va_G) (cA : Nat → ClassId) (ad : Nat → Nat) (o : Int64) (σ : Mem) (a : Int32) (hF : Fr σ) (sz : Nat) : Met l yX7_stubborn (WY yX7_stubborn cX7_stubborn 4 (some .int)) (RM 1) (va_Pc [.ref (ad 66), .int a] (PW D cA ad o σ sz)) (va_Qi (fun r (σ9 : Mem) => r = -1000000001 ∧ ∀ a9, 91 ≤ a9 → σ9 a9 = σ a9) (QW D cA ad o) (FA ad sz)) 0 0 (FA ad sz) := by
  refine ct_of (own := RX7) (k := 1) (Qf := va_Qi (fun r (σ9 : Mem) => r = -1000000001 ∧ ∀ a9, 91 ≤ a9 → σ9 a9 = σ a9) (QW D cA ad o)) rfl (by decide) (Nat.le_of_ble_eq_true rfl) (fun p e s m below meth c ls C0 X hr hlk hP hl => ?_) sz
  have hS : va_S (FA ad s.heap.size) s.heap s.heap [] := va_S.rf
  have hl : lv_has ls 4 [(0, .ref (ad 66)), (1, .int a)] := hl
  obtain ⟨hx, hb, hml, hown, hts⟩ := id C0
  refine lv_aload_n hx hb dX7_stubborn_0 rfl (lv_at hl 0 rfl) ?_
  refine gf_X7_12 C0 X hP 66 (q := 0) ⟨by decide, rfl⟩ (by omega) rfl dX7_stubborn_1 ?_
  refine lv_iload_n hx hb dX7_stubborn_4 rfl (lv_at hl 1 rfl) ?_
  refine r_cq X hS (r_runV (As := [.int a]) (rest := []) C0 X hP L_X7_99 (fun sz => c_X6_cartAt l D cA ad o σ 0 a (by decide) sz) (show 0 < 106 ∧ kd 0 = (6, 11) from ⟨by decide, rfl⟩).1 (show 0 < 106 ∧ kd 0 = (6, 11) from ⟨by decide, rfl⟩).2 (by decide) rfl ⟨Nat.le_of_ble_eq_true rfl, Nat.le_of_ble_eq_true rfl⟩ rfl hl.1 rfl (Nat.le_of_ble_eq_true rfl) dX7_stubborn_5 ⟨Nat.zero_le _, Nat.zero_le _⟩) (fun σ9 H locs hw hP hS => ?_) (fun x9 σ9 H locs hw hP hS => ?_)
  · rw [hw.1] at hP
    have h_1 := hw.2
    refine lv_ifnonnullN hx hb dX7_stubborn_8 ?_
    refine lv_ldc (own := RX7) (index := 153) (v := (-1000000001)) hx hb hown (hts _ (tm 679 (by decide +kernel) (by decide +kernel))) dX7_stubborn_11 ?_
    exact r_iret C0 X hP hS hr hlk dX7_stubborn_13 ⟨rfl, fun _ _ => rfl⟩
  · rw [hw.1] at hP
    obtain ⟨-, j_2, hj_2, ej_2, lj_2, rfl⟩ := hw
    exact absurd lj_2 (by rw [show σ (22 * 0) 2 = 0 from Fr_count hF, ej_2]; exact nI_pos (by omega))
theorem dX7_heard_0 : decode cX7_heard 0 = .ok (.iload_n 1, 1) := by decide +kernel
theorem dX7_heard_1 : decode cX7_heard 1 = .ok (.ifCond .lt 9, 3) := by decide +kernel
theorem dX7_heard_4 : decode cX7_heard 4 = .ok (.iload_n 1, 1) := by decide +kernel
theorem dX7_heard_5 : decode cX7_heard 5 = .ok (.bipush 9, 2) := by decide +kernel
theorem dX7_heard_7 : decode cX7_heard 7 = .ok (.if_icmp .le 6, 3) := by decide +kernel
theorem dX7_heard_10 : decode cX7_heard 10 = .ok (.ldc 153, 2) := by decide +kernel
theorem dX7_heard_12 : decode cX7_heard 12 = .ok (.ireturn, 1) := by decide +kernel
theorem dX7_heard_13 : decode cX7_heard 13 = .ok (.aload_n 0, 1) := by decide +kernel
theorem dX7_heard_14 : decode cX7_heard 14 = .ok (.invokevirtual 135, 3) := by decide +kernel
theorem dX7_heard_17 : decode cX7_heard 17 = .ok (.ifCond .eq 6, 3) := by decide +kernel
theorem dX7_heard_20 : decode cX7_heard 20 = .ok (.ldc 252, 2) := by decide +kernel
theorem dX7_heard_22 : decode cX7_heard 22 = .ok (.ireturn, 1) := by decide +kernel
theorem dX7_heard_23 : decode cX7_heard 23 = .ok (.aload_n 0, 1) := by decide +kernel
theorem dX7_heard_24 : decode cX7_heard 24 = .ok (.getfield 19, 3) := by decide +kernel
theorem dX7_heard_27 : decode cX7_heard 27 = .ok (.aload_n 0, 1) := by decide +kernel
theorem dX7_heard_28 : decode cX7_heard 28 = .ok (.getfield 12, 3) := by decide +kernel
theorem dX7_heard_31 : decode cX7_heard 31 = .ok (.invokevirtual 62, 3) := by decide +kernel
theorem dX7_heard_34 : decode cX7_heard 34 = .ok (.aload_n 0, 1) := by decide +kernel
theorem dX7_heard_35 : decode cX7_heard 35 = .ok (.iconst 4, 1) := by decide +kernel
theorem dX7_heard_36 : decode cX7_heard 36 = .ok (.iconst 0, 1) := by decide +kernel
theorem dX7_heard_37 : decode cX7_heard 37 = .ok (.invokevirtual 246, 3) := by decide +kernel
theorem dX7_heard_40 : decode cX7_heard 40 = .ok (.aload_n 0, 1) := by decide +kernel
theorem dX7_heard_41 : decode cX7_heard 41 = .ok (.invokevirtual 224, 3) := by decide +kernel
theorem dX7_heard_44 : decode cX7_heard 44 = .ok (.istore_n 2, 1) := by decide +kernel
theorem dX7_heard_45 : decode cX7_heard 45 = .ok (.aload_n 0, 1) := by decide +kernel
theorem dX7_heard_46 : decode cX7_heard 46 = .ok (.iconst 4, 1) := by decide +kernel
theorem dX7_heard_47 : decode cX7_heard 47 = .ok (.iload_n 1, 1) := by decide +kernel
theorem dX7_heard_48 : decode cX7_heard 48 = .ok (.invokevirtual 246, 3) := by decide +kernel
theorem dX7_heard_51 : decode cX7_heard 51 = .ok (.iload_n 2, 1) := by decide +kernel
theorem dX7_heard_52 : decode cX7_heard 52 = .ok (.aload_n 0, 1) := by decide +kernel
theorem dX7_heard_53 : decode cX7_heard 53 = .ok (.invokevirtual 224, 3) := by decide +kernel
theorem dX7_heard_56 : decode cX7_heard 56 = .ok (.isub, 1) := by decide +kernel
theorem dX7_heard_57 : decode cX7_heard 57 = .ok (.ireturn, 1) := by decide +kernel
set_option maxHeartbeats 4000000 in
set_option maxRecDepth 100000 in
theorem c_X7_heard_f (l : Launch) (D : va_G) (cA : Nat → ClassId) (ad : Nat → Nat) (o : Int64) (σ : Mem) (n : Int32) (hF : Fr σ) (sz : Nat) : Met l yX7_heard (WY yX7_heard cX7_heard 3 (some .int)) (RM 1) (va_Pc [.ref (ad 66), .int n] (PW D cA ad o σ sz)) (va_Qi (fun r (σ9 : Mem) => r = (if n < 0 ∨ 9 < n then -1000000001 else -1000000003) ∧ ∀ a9, 91 ≤ a9 → σ9 a9 = σ a9) (QW D cA ad o) (FA ad sz)) 0 0 (FA ad sz) := by
  refine ct_of (own := RX7) (k := 1) (Qf := va_Qi (fun r (σ9 : Mem) => r = (if n < 0 ∨ 9 < n then -1000000001 else -1000000003) ∧ ∀ a9, 91 ≤ a9 → σ9 a9 = σ a9) (QW D cA ad o)) rfl (by decide) (Nat.le_of_ble_eq_true rfl) (fun p e s m below meth c ls C0 X hr hlk hP hl => ?_) sz
  have hS : va_S (FA ad s.heap.size) s.heap s.heap [] := va_S.rf
  have hl : lv_has ls 3 [(0, .ref (ad 66)), (1, .int n)] := hl
  obtain ⟨hx, hb, hml, hown, hts⟩ := id C0
  refine lv_iload_n hx hb dX7_heard_0 rfl (lv_at hl 1 rfl) ?_
  refine lv_if_lt (tgt := 10) hx hb dX7_heard_1 (by decide) (fun c_1 => ?_) (fun c_1 => ?_)
  · refine lv_ldc (own := RX7) (index := 153) (v := (-1000000001)) hx hb hown (hts _ (tm 679 (by decide +kernel) (by decide +kernel))) dX7_heard_10 ?_
    exact r_iret C0 X hP hS hr hlk dX7_heard_12 ⟨(by simp only [c_1, Int32.not_le.mpr c_1, if_true, if_false, ite_true, ite_false, true_and, and_true, false_and, and_false, true_or, or_true, false_or, or_false, not_true_eq_false, not_false_eq_true, ne_eq, and_self, or_self]; try rfl), fun _ _ => rfl⟩
  · refine lv_iload_n hx hb dX7_heard_4 rfl (lv_at hl 1 rfl) ?_
    refine lv_bipush (v := 9) hx hb dX7_heard_5 (by decide) ?_
    refine lv_icmp_le (tgt := 13) hx hb dX7_heard_7 (by decide) (fun c_2 => ?_) (fun c_2 => ?_)
    · refine lv_aload_n hx hb dX7_heard_13 rfl (lv_at hl 0 rfl) ?_
      refine r_ci X hS (r_runV (As := []) (rest := []) C0 X hP L_X7_135 (fun sz => c_X7_cannotRun l D cA ad o σ   sz) (show 66 < 106 ∧ kd 66 = (7, 8) from ⟨by decide, rfl⟩).1 (show 66 < 106 ∧ kd 66 = (7, 8) from ⟨by decide, rfl⟩).2 (by decide) rfl ⟨Nat.le_of_ble_eq_true rfl, Nat.le_of_ble_eq_true rfl⟩ rfl hl.1 rfl (Nat.le_of_ble_eq_true rfl) dX7_heard_14 ⟨Nat.zero_le _, Nat.zero_le _⟩) (fun r σ9 H locs hw hP hS => ?_)
      rw [hw.2] at hP
      obtain ⟨⟨b_3, rfl⟩ | ⟨b_3, rfl⟩, -⟩ := hw
      · refine lv_if_eq (tgt := 23) hx hb dX7_heard_17 (by decide) (fun c_4 => absurd c_4 (by decide)) (fun c_4 => ?_)
        refine lv_ldc (own := RX7) (index := 252) (v := (-1000000003)) hx hb hown (hts _ (tm 778 (by decide +kernel) (by decide +kernel))) dX7_heard_20 ?_
        exact r_iret C0 X hP hS hr hlk dX7_heard_22 ⟨(by simp only [c_1, c_2, b_3, Int32.not_lt.mp c_1, Int32.not_lt.mpr c_2, if_true, if_false, ite_true, ite_false, true_and, and_true, false_and, and_false, true_or, or_true, false_or, or_false, not_true_eq_false, not_false_eq_true, ne_eq, and_self, or_self]; try rfl), fun _ _ => rfl⟩
      · exact absurd (Or.inl (Fr_pieces hF)) b_3
    · refine lv_ldc (own := RX7) (index := 153) (v := (-1000000001)) hx hb hown (hts _ (tm 679 (by decide +kernel) (by decide +kernel))) dX7_heard_10 ?_
      exact r_iret C0 X hP hS hr hlk dX7_heard_12 ⟨(by simp only [c_1, c_2, Int32.not_lt.mp c_1, Int32.not_le.mp c_2, if_true, if_false, ite_true, ite_false, true_and, and_true, false_and, and_false, true_or, or_true, false_or, or_false, not_true_eq_false, not_false_eq_true, ne_eq, and_self, or_self]; try rfl), fun _ _ => rfl⟩
theorem dX7_days_0 : decode cX7_days 0 = .ok (.iload_n 1, 1) := by decide +kernel
theorem dX7_days_1 : decode cX7_days 1 = .ok (.iconst 1, 1) := by decide +kernel
theorem dX7_days_2 : decode cX7_days 2 = .ok (.if_icmp .lt 19, 3) := by decide +kernel
theorem dX7_days_5 : decode cX7_days 5 = .ok (.iload_n 1, 1) := by decide +kernel
theorem dX7_days_6 : decode cX7_days 6 = .ok (.iconst 5, 1) := by decide +kernel
theorem dX7_days_7 : decode cX7_days 7 = .ok (.if_icmp .gt 14, 3) := by decide +kernel
theorem dX7_days_10 : decode cX7_days 10 = .ok (.iload_n 2, 1) := by decide +kernel
theorem dX7_days_11 : decode cX7_days 11 = .ok (.iconst 1, 1) := by decide +kernel
theorem dX7_days_12 : decode cX7_days 12 = .ok (.if_icmp .lt 9, 3) := by decide +kernel
theorem dX7_days_15 : decode cX7_days 15 = .ok (.iload_n 2, 1) := by decide +kernel
theorem dX7_days_16 : decode cX7_days 16 = .ok (.bipush 60, 2) := by decide +kernel
theorem dX7_days_18 : decode cX7_days 18 = .ok (.if_icmp .le 5, 3) := by decide +kernel
theorem dX7_days_21 : decode cX7_days 21 = .ok (.iconst (-1), 1) := by decide +kernel
theorem dX7_days_22 : decode cX7_days 22 = .ok (.ireturn, 1) := by decide +kernel
theorem dX7_days_23 : decode cX7_days 23 = .ok (.aload_n 0, 1) := by decide +kernel
theorem dX7_days_24 : decode cX7_days 24 = .ok (.invokevirtual 135, 3) := by decide +kernel
theorem dX7_days_27 : decode cX7_days 27 = .ok (.ifCond .eq 6, 3) := by decide +kernel
theorem dX7_days_30 : decode cX7_days 30 = .ok (.bipush (-3), 2) := by decide +kernel
theorem dX7_days_32 : decode cX7_days 32 = .ok (.ireturn, 1) := by decide +kernel
theorem dX7_days_33 : decode cX7_days 33 = .ok (.aload_n 0, 1) := by decide +kernel
theorem dX7_days_34 : decode cX7_days 34 = .ok (.getfield 19, 3) := by decide +kernel
theorem dX7_days_37 : decode cX7_days 37 = .ok (.aload_n 0, 1) := by decide +kernel
theorem dX7_days_38 : decode cX7_days 38 = .ok (.getfield 12, 3) := by decide +kernel
theorem dX7_days_41 : decode cX7_days 41 = .ok (.invokevirtual 62, 3) := by decide +kernel
theorem dX7_days_44 : decode cX7_days 44 = .ok (.iconst 0, 1) := by decide +kernel
theorem dX7_days_45 : decode cX7_days 45 = .ok (.istore 4, 2) := by decide +kernel
theorem dX7_days_47 : decode cX7_days 47 = .ok (.iconst 0, 1) := by decide +kernel
theorem dX7_days_48 : decode cX7_days 48 = .ok (.istore 5, 2) := by decide +kernel
theorem dX7_days_50 : decode cX7_days 50 = .ok (.iload 5, 2) := by decide +kernel
theorem dX7_days_52 : decode cX7_days 52 = .ok (.iload_n 1, 1) := by decide +kernel
theorem dX7_days_53 : decode cX7_days 53 = .ok (.if_icmp .ge 79, 3) := by decide +kernel
theorem dX7_days_56 : decode cX7_days 56 = .ok (.iload_n 3, 1) := by decide +kernel
theorem dX7_days_57 : decode cX7_days 57 = .ok (.iload 5, 2) := by decide +kernel
theorem dX7_days_59 : decode cX7_days 59 = .ok (.iadd, 1) := by decide +kernel
theorem dX7_days_60 : decode cX7_days 60 = .ok (.istore 6, 2) := by decide +kernel
theorem dX7_days_62 : decode cX7_days 62 = .ok (.iconst 0, 1) := by decide +kernel
theorem dX7_days_63 : decode cX7_days 63 = .ok (.istore 7, 2) := by decide +kernel
theorem dX7_days_65 : decode cX7_days 65 = .ok (.iload 7, 2) := by decide +kernel
theorem dX7_days_67 : decode cX7_days 67 = .ok (.aload_n 0, 1) := by decide +kernel
theorem dX7_days_68 : decode cX7_days 68 = .ok (.getfield 19, 3) := by decide +kernel
theorem dX7_days_71 : decode cX7_days 71 = .ok (.getfield 150, 3) := by decide +kernel
theorem dX7_days_74 : decode cX7_days 74 = .ok (.if_icmp .ge 43, 3) := by decide +kernel
theorem dX7_days_77 : decode cX7_days 77 = .ok (.iload 6, 2) := by decide +kernel
theorem dX7_days_79 : decode cX7_days 79 = .ok (.ldc 253, 2) := by decide +kernel
theorem dX7_days_81 : decode cX7_days 81 = .ok (.imul, 1) := by decide +kernel
theorem dX7_days_82 : decode cX7_days 82 = .ok (.sipush 12345, 3) := by decide +kernel
theorem dX7_days_85 : decode cX7_days 85 = .ok (.iadd, 1) := by decide +kernel
theorem dX7_days_86 : decode cX7_days 86 = .ok (.istore 6, 2) := by decide +kernel
theorem dX7_days_88 : decode cX7_days 88 = .ok (.aload_n 0, 1) := by decide +kernel
theorem dX7_days_89 : decode cX7_days 89 = .ok (.getfield 19, 3) := by decide +kernel
theorem dX7_days_92 : decode cX7_days 92 = .ok (.getfield 217, 3) := by decide +kernel
theorem dX7_days_95 : decode cX7_days 95 = .ok (.iload 7, 2) := by decide +kernel
theorem dX7_days_97 : decode cX7_days 97 = .ok (.aaload, 1) := by decide +kernel
theorem dX7_days_98 : decode cX7_days 98 = .ok (.iload 6, 2) := by decide +kernel
theorem dX7_days_100 : decode cX7_days 100 = .ok (.ldc 254, 2) := by decide +kernel
theorem dX7_days_102 : decode cX7_days 102 = .ok (.iand, 1) := by decide +kernel
theorem dX7_days_103 : decode cX7_days 103 = .ok (.bipush 16, 2) := by decide +kernel
theorem dX7_days_105 : decode cX7_days 105 = .ok (.ishr, 1) := by decide +kernel
theorem dX7_days_106 : decode cX7_days 106 = .ok (.iload_n 2, 1) := by decide +kernel
theorem dX7_days_107 : decode cX7_days 107 = .ok (.irem, 1) := by decide +kernel
theorem dX7_days_108 : decode cX7_days 108 = .ok (.putfield 221, 3) := by decide +kernel
theorem dX7_days_111 : decode cX7_days 111 = .ok (.iinc 7 1, 3) := by decide +kernel
theorem dX7_days_114 : decode cX7_days 114 = .ok (.goto (-49), 3) := by decide +kernel
theorem dX7_days_117 : decode cX7_days 117 = .ok (.iload 4, 2) := by decide +kernel
theorem dX7_days_119 : decode cX7_days 119 = .ok (.aload_n 0, 1) := by decide +kernel
theorem dX7_days_120 : decode cX7_days 120 = .ok (.invokevirtual 224, 3) := by decide +kernel
theorem dX7_days_123 : decode cX7_days 123 = .ok (.iadd, 1) := by decide +kernel
theorem dX7_days_124 : decode cX7_days 124 = .ok (.istore 4, 2) := by decide +kernel
theorem dX7_days_126 : decode cX7_days 126 = .ok (.iinc 5 1, 3) := by decide +kernel
theorem dX7_days_129 : decode cX7_days 129 = .ok (.goto (-79), 3) := by decide +kernel
theorem dX7_days_132 : decode cX7_days 132 = .ok (.iload 4, 2) := by decide +kernel
theorem dX7_days_134 : decode cX7_days 134 = .ok (.ireturn, 1) := by decide +kernel
set_option maxHeartbeats 4000000 in
set_option maxRecDepth 100000 in
theorem c_X7_days_f (l : Launch) (D : va_G) (cA : Nat → ClassId) (ad : Nat → Nat) (o : Int64) (σ : Mem) (a : Int32) (b : Int32) (z : Int32) (hF : Fr σ) (sz : Nat) : Met l yX7_days (WY yX7_days cX7_days 8 (some .int)) (RM 1) (va_Pc [.ref (ad 66), .int a, .int b, .int z] (PW D cA ad o σ sz)) (va_Qi (fun r (σ9 : Mem) => r = (if a < 1 ∨ 5 < a ∨ b < 1 ∨ 60 < b then -1 else -3) ∧ ∀ a9, 91 ≤ a9 → σ9 a9 = σ a9) (QW D cA ad o) (FA ad sz)) 0 0 (FA ad sz) := by
  refine ct_of (own := RX7) (k := 1) (Qf := va_Qi (fun r (σ9 : Mem) => r = (if a < 1 ∨ 5 < a ∨ b < 1 ∨ 60 < b then -1 else -3) ∧ ∀ a9, 91 ≤ a9 → σ9 a9 = σ a9) (QW D cA ad o)) rfl (by decide) (Nat.le_of_ble_eq_true rfl) (fun p e s m below meth c ls C0 X hr hlk hP hl => ?_) sz
  have hS : va_S (FA ad s.heap.size) s.heap s.heap [] := va_S.rf
  have hl : lv_has ls 8 [(0, .ref (ad 66)), (1, .int a), (2, .int b), (3, .int z)] := hl
  obtain ⟨hx, hb, hml, hown, hts⟩ := id C0
  refine lv_iload_n hx hb dX7_days_0 rfl (lv_at hl 1 rfl) ?_
  refine lv_iconst (v := 1) hx hb dX7_days_1 (by decide) ?_
  refine lv_icmp_lt (tgt := 21) hx hb dX7_days_2 (by decide) (fun c_1 => ?_) (fun c_1 => ?_)
  · refine lv_iconst (v := (-1)) hx hb dX7_days_21 (by decide) ?_
    exact r_iret C0 X hP hS hr hlk dX7_days_22 ⟨(by simp only [c_1, Int32.not_le.mpr c_1, if_true, if_false, ite_true, ite_false, true_and, and_true, false_and, and_false, true_or, or_true, false_or, or_false, not_true_eq_false, not_false_eq_true, ne_eq, and_self, or_self]; try rfl), fun _ _ => rfl⟩
  · refine lv_iload_n hx hb dX7_days_5 rfl (lv_at hl 1 rfl) ?_
    refine lv_iconst (v := 5) hx hb dX7_days_6 (by decide) ?_
    refine lv_icmp_gt (tgt := 21) hx hb dX7_days_7 (by decide) (fun c_2 => ?_) (fun c_2 => ?_)
    · refine lv_iconst (v := (-1)) hx hb dX7_days_21 (by decide) ?_
      exact r_iret C0 X hP hS hr hlk dX7_days_22 ⟨(by simp only [c_1, c_2, Int32.not_lt.mp c_1, Int32.not_le.mpr c_2, if_true, if_false, ite_true, ite_false, true_and, and_true, false_and, and_false, true_or, or_true, false_or, or_false, not_true_eq_false, not_false_eq_true, ne_eq, and_self, or_self]; try rfl), fun _ _ => rfl⟩
    · refine lv_iload_n hx hb dX7_days_10 rfl (lv_at hl 2 rfl) ?_
      refine lv_iconst (v := 1) hx hb dX7_days_11 (by decide) ?_
      refine lv_icmp_lt (tgt := 21) hx hb dX7_days_12 (by decide) (fun c_3 => ?_) (fun c_3 => ?_)
      · refine lv_iconst (v := (-1)) hx hb dX7_days_21 (by decide) ?_
        exact r_iret C0 X hP hS hr hlk dX7_days_22 ⟨(by simp only [c_1, c_2, c_3, Int32.not_lt.mp c_1, Int32.not_lt.mp c_2, Int32.not_le.mpr c_3, if_true, if_false, ite_true, ite_false, true_and, and_true, false_and, and_false, true_or, or_true, false_or, or_false, not_true_eq_false, not_false_eq_true, ne_eq, and_self, or_self]; try rfl), fun _ _ => rfl⟩
      · refine lv_iload_n hx hb dX7_days_15 rfl (lv_at hl 2 rfl) ?_
        refine lv_bipush (v := 60) hx hb dX7_days_16 (by decide) ?_
        refine lv_icmp_le (tgt := 23) hx hb dX7_days_18 (by decide) (fun c_4 => ?_) (fun c_4 => ?_)
        · refine lv_aload_n hx hb dX7_days_23 rfl (lv_at hl 0 rfl) ?_
          refine r_ci X hS (r_runV (As := []) (rest := []) C0 X hP L_X7_135 (fun sz => c_X7_cannotRun l D cA ad o σ   sz) (show 66 < 106 ∧ kd 66 = (7, 8) from ⟨by decide, rfl⟩).1 (show 66 < 106 ∧ kd 66 = (7, 8) from ⟨by decide, rfl⟩).2 (by decide) rfl ⟨Nat.le_of_ble_eq_true rfl, Nat.le_of_ble_eq_true rfl⟩ rfl hl.1 rfl (Nat.le_of_ble_eq_true rfl) dX7_days_24 ⟨Nat.zero_le _, Nat.zero_le _⟩) (fun r σ9 H locs hw hP hS => ?_)
          rw [hw.2] at hP
          obtain ⟨⟨b_5, rfl⟩ | ⟨b_5, rfl⟩, -⟩ := hw
          · refine lv_if_eq (tgt := 33) hx hb dX7_days_27 (by decide) (fun c_6 => absurd c_6 (by decide)) (fun c_6 => ?_)
            refine lv_bipush (v := (-3)) hx hb dX7_days_30 (by decide) ?_
            exact r_iret C0 X hP hS hr hlk dX7_days_32 ⟨(by simp only [c_1, c_2, c_3, c_4, b_5, Int32.not_lt.mp c_1, Int32.not_lt.mp c_2, Int32.not_lt.mp c_3, Int32.not_lt.mpr c_4, if_true, if_false, ite_true, ite_false, true_and, and_true, false_and, and_false, true_or, or_true, false_or, or_false, not_true_eq_false, not_false_eq_true, ne_eq, and_self, or_self]; try rfl), fun _ _ => rfl⟩
          · exact absurd (Or.inl (Fr_pieces hF)) b_5
        · refine lv_iconst (v := (-1)) hx hb dX7_days_21 (by decide) ?_
          exact r_iret C0 X hP hS hr hlk dX7_days_22 ⟨(by simp only [c_1, c_2, c_3, c_4, Int32.not_lt.mp c_1, Int32.not_lt.mp c_2, Int32.not_lt.mp c_3, Int32.not_le.mp c_4, if_true, if_false, ite_true, ite_false, true_and, and_true, false_and, and_false, true_or, or_true, false_or, or_false, not_true_eq_false, not_false_eq_true, ne_eq, and_self, or_self]; try rfl), fun _ _ => rfl⟩
theorem dX7_met_0 : decode cX7_met 0 = .ok (.aload_n 0, 1) := by decide +kernel
theorem dX7_met_1 : decode cX7_met 1 = .ok (.getfield 12, 3) := by decide +kernel
theorem dX7_met_4 : decode cX7_met 4 = .ok (.iload_n 1, 1) := by decide +kernel
theorem dX7_met_5 : decode cX7_met 5 = .ok (.invokevirtual 99, 3) := by decide +kernel
theorem dX7_met_8 : decode cX7_met 8 = .ok (.ifnull 19, 3) := by decide +kernel
theorem dX7_met_11 : decode cX7_met 11 = .ok (.aload_n 0, 1) := by decide +kernel
theorem dX7_met_12 : decode cX7_met 12 = .ok (.getfield 12, 3) := by decide +kernel
theorem dX7_met_15 : decode cX7_met 15 = .ok (.iload_n 2, 1) := by decide +kernel
theorem dX7_met_16 : decode cX7_met 16 = .ok (.invokevirtual 99, 3) := by decide +kernel
theorem dX7_met_19 : decode cX7_met 19 = .ok (.ifnull 8, 3) := by decide +kernel
theorem dX7_met_22 : decode cX7_met 22 = .ok (.iload_n 1, 1) := by decide +kernel
theorem dX7_met_23 : decode cX7_met 23 = .ok (.iload_n 2, 1) := by decide +kernel
theorem dX7_met_24 : decode cX7_met 24 = .ok (.if_icmp .ne 5, 3) := by decide +kernel
theorem dX7_met_27 : decode cX7_met 27 = .ok (.iconst (-1), 1) := by decide +kernel
theorem dX7_met_28 : decode cX7_met 28 = .ok (.ireturn, 1) := by decide +kernel
theorem dX7_met_29 : decode cX7_met 29 = .ok (.aload_n 0, 1) := by decide +kernel
theorem dX7_met_30 : decode cX7_met 30 = .ok (.getfield 12, 3) := by decide +kernel
theorem dX7_met_33 : decode cX7_met 33 = .ok (.getfield 70, 3) := by decide +kernel
theorem dX7_met_36 : decode cX7_met 36 = .ok (.getfield 74, 3) := by decide +kernel
theorem dX7_met_39 : decode cX7_met 39 = .ok (.ifCond .ne 6, 3) := by decide +kernel
theorem dX7_met_42 : decode cX7_met 42 = .ok (.bipush (-3), 2) := by decide +kernel
theorem dX7_met_44 : decode cX7_met 44 = .ok (.ireturn, 1) := by decide +kernel
theorem dX7_met_45 : decode cX7_met 45 = .ok (.aload_n 0, 1) := by decide +kernel
theorem dX7_met_46 : decode cX7_met 46 = .ok (.getfield 19, 3) := by decide +kernel
theorem dX7_met_49 : decode cX7_met 49 = .ok (.aload_n 0, 1) := by decide +kernel
theorem dX7_met_50 : decode cX7_met 50 = .ok (.getfield 12, 3) := by decide +kernel
theorem dX7_met_53 : decode cX7_met 53 = .ok (.invokevirtual 62, 3) := by decide +kernel
theorem dX7_met_56 : decode cX7_met 56 = .ok (.aload_n 0, 1) := by decide +kernel
theorem dX7_met_57 : decode cX7_met 57 = .ok (.getfield 19, 3) := by decide +kernel
theorem dX7_met_60 : decode cX7_met 60 = .ok (.iload_n 1, 1) := by decide +kernel
theorem dX7_met_61 : decode cX7_met 61 = .ok (.iload_n 2, 1) := by decide +kernel
theorem dX7_met_62 : decode cX7_met 62 = .ok (.invokevirtual 255, 3) := by decide +kernel
theorem dX7_met_65 : decode cX7_met 65 = .ok (.aload_n 0, 1) := by decide +kernel
theorem dX7_met_66 : decode cX7_met 66 = .ok (.invokevirtual 224, 3) := by decide +kernel
theorem dX7_met_69 : decode cX7_met 69 = .ok (.pop, 1) := by decide +kernel
theorem dX7_met_70 : decode cX7_met 70 = .ok (.aload_n 0, 1) := by decide +kernel
theorem dX7_met_71 : decode cX7_met 71 = .ok (.getfield 19, 3) := by decide +kernel
theorem dX7_met_74 : decode cX7_met 74 = .ok (.getfield 258, 3) := by decide +kernel
theorem dX7_met_77 : decode cX7_met 77 = .ok (.istore_n 3, 1) := by decide +kernel
theorem dX7_met_78 : decode cX7_met 78 = .ok (.aload_n 0, 1) := by decide +kernel
theorem dX7_met_79 : decode cX7_met 79 = .ok (.getfield 19, 3) := by decide +kernel
theorem dX7_met_82 : decode cX7_met 82 = .ok (.bipush (-4), 2) := by decide +kernel
theorem dX7_met_84 : decode cX7_met 84 = .ok (.bipush (-4), 2) := by decide +kernel
theorem dX7_met_86 : decode cX7_met 86 = .ok (.invokevirtual 255, 3) := by decide +kernel
theorem dX7_met_89 : decode cX7_met 89 = .ok (.iload_n 3, 1) := by decide +kernel
theorem dX7_met_90 : decode cX7_met 90 = .ok (.ireturn, 1) := by decide +kernel
set_option maxHeartbeats 4000000 in
set_option maxRecDepth 100000 in
theorem c_X7_met_f (l : Launch) (D : va_G) (cA : Nat → ClassId) (ad : Nat → Nat) (o : Int64) (σ : Mem) (a : Int32) (b : Int32) (hF : Fr σ) (sz : Nat) : Met l yX7_met (WY yX7_met cX7_met 4 (some .int)) (RM 1) (va_Pc [.ref (ad 66), .int a, .int b] (PW D cA ad o σ sz)) (va_Qi (fun r (σ9 : Mem) => r = -1 ∧ ∀ a9, 91 ≤ a9 → σ9 a9 = σ a9) (QW D cA ad o) (FA ad sz)) 0 0 (FA ad sz) := by
  refine ct_of (own := RX7) (k := 1) (Qf := va_Qi (fun r (σ9 : Mem) => r = -1 ∧ ∀ a9, 91 ≤ a9 → σ9 a9 = σ a9) (QW D cA ad o)) rfl (by decide) (Nat.le_of_ble_eq_true rfl) (fun p e s m below meth c ls C0 X hr hlk hP hl => ?_) sz
  have hS : va_S (FA ad s.heap.size) s.heap s.heap [] := va_S.rf
  have hl : lv_has ls 4 [(0, .ref (ad 66)), (1, .int a), (2, .int b)] := hl
  obtain ⟨hx, hb, hml, hown, hts⟩ := id C0
  refine lv_aload_n hx hb dX7_met_0 rfl (lv_at hl 0 rfl) ?_
  refine gf_X7_12 C0 X hP 66 (q := 0) ⟨by decide, rfl⟩ (by omega) rfl dX7_met_1 ?_
  refine lv_iload_n hx hb dX7_met_4 rfl (lv_at hl 1 rfl) ?_
  refine r_cq X hS (r_runV (As := [.int a]) (rest := []) C0 X hP L_X7_99 (fun sz => c_X6_cartAt l D cA ad o σ 0 a (by decide) sz) (show 0 < 106 ∧ kd 0 = (6, 11) from ⟨by decide, rfl⟩).1 (show 0 < 106 ∧ kd 0 = (6, 11) from ⟨by decide, rfl⟩).2 (by decide) rfl ⟨Nat.le_of_ble_eq_true rfl, Nat.le_of_ble_eq_true rfl⟩ rfl hl.1 rfl (Nat.le_of_ble_eq_true rfl) dX7_met_5 ⟨Nat.zero_le _, Nat.zero_le _⟩) (fun σ9 H locs hw hP hS => ?_) (fun x9 σ9 H locs hw hP hS => ?_)
  · rw [hw.1] at hP
    have h_1 := hw.2
    refine lv_ifnullN (tgt := 27) hx hb dX7_met_8 (by decide) ?_
    refine lv_iconst (v := (-1)) hx hb dX7_met_27 (by decide) ?_
    exact r_iret C0 X hP hS hr hlk dX7_met_28 ⟨rfl, fun _ _ => rfl⟩
  · rw [hw.1] at hP
    obtain ⟨-, j_2, hj_2, ej_2, lj_2, rfl⟩ := hw
    exact absurd lj_2 (by rw [show σ (22 * 0) 2 = 0 from Fr_count hF, ej_2]; exact nI_pos (by omega))
theorem dX7_image_0 : decode cX7_image 0 = .ok (.aload_n 0, 1) := by decide +kernel
theorem dX7_image_1 : decode cX7_image 1 = .ok (.getfield 16, 3) := by decide +kernel
theorem dX7_image_4 : decode cX7_image 4 = .ok (.aload_n 0, 1) := by decide +kernel
theorem dX7_image_5 : decode cX7_image 5 = .ok (.getfield 12, 3) := by decide +kernel
theorem dX7_image_8 : decode cX7_image 8 = .ok (.invokevirtual 62, 3) := by decide +kernel
theorem dX7_image_11 : decode cX7_image 11 = .ok (.aload_n 0, 1) := by decide +kernel
theorem dX7_image_12 : decode cX7_image 12 = .ok (.iconst 1, 1) := by decide +kernel
theorem dX7_image_13 : decode cX7_image 13 = .ok (.putfield 269, 3) := by decide +kernel
theorem dX7_image_16 : decode cX7_image 16 = .ok (.aload_n 0, 1) := by decide +kernel
theorem dX7_image_17 : decode cX7_image 17 = .ok (.getfield 12, 3) := by decide +kernel
theorem dX7_image_20 : decode cX7_image 20 = .ok (.getfield 144, 3) := by decide +kernel
theorem dX7_image_23 : decode cX7_image 23 = .ok (.ireturn, 1) := by decide +kernel
set_option maxHeartbeats 4000000 in
set_option maxRecDepth 100000 in
theorem c_X7_image_f (l : Launch) (D : va_G) (cA : Nat → ClassId) (ad : Nat → Nat) (o : Int64) (σ : Mem)  (hF : Fr σ) (sz : Nat) : Met l yX7_image (WY yX7_image cX7_image 1 (some .int)) (RM 3) (va_Pc [.ref (ad 66)] (PW D cA ad o σ sz)) (va_Qi (fun r (σ9 : Mem) => r = 0 ∧ ∀ a9, 91 ≤ a9 → σ9 a9 = σ a9) (QW D cA ad o) (FA ad sz)) 0 0 (FA ad sz) := by
  refine ct_of (own := RX7) (k := 3) (Qf := va_Qi (fun r (σ9 : Mem) => r = 0 ∧ ∀ a9, 91 ≤ a9 → σ9 a9 = σ a9) (QW D cA ad o)) rfl (by decide) (Nat.le_of_ble_eq_true rfl) (fun p e s m below meth c ls C0 X hr hlk hP hl => ?_) sz
  have hS : va_S (FA ad s.heap.size) s.heap s.heap [] := va_S.rf
  have hl : lv_has ls 1 [(0, .ref (ad 66))] := hl
  obtain ⟨hx, hb, hml, hown, hts⟩ := id C0
  refine lv_aload_n hx hb dX7_image_0 rfl (lv_at hl 0 rfl) ?_
  refine gf_X7_16 C0 X hP 66 (q := 22) ⟨by decide, rfl⟩ (by omega) rfl dX7_image_1 ?_
  refine lv_aload_n hx hb dX7_image_4 rfl (lv_at hl 0 rfl) ?_
  refine gf_X7_12 C0 X hP 66 (q := 0) ⟨by decide, rfl⟩ (by omega) rfl dX7_image_5 ?_
  refine r_cv X hS (r_runV (As := [.ref (ad 0)]) (rest := []) C0 X hP L_X7_62 (fun sz => c_X6_copyFrom l D cA ad o σ 1 0 (by decide) (by decide) (by decide) (Fr_bool hF) sz) (show 22 < 106 ∧ kd 22 = (6, 11) from ⟨by decide, rfl⟩).1 (show 22 < 106 ∧ kd 22 = (6, 11) from ⟨by decide, rfl⟩).2 (by decide) rfl ⟨Nat.le_of_ble_eq_true rfl, Nat.le_of_ble_eq_true rfl⟩ rfl hl.1 rfl (Nat.le_of_ble_eq_true rfl) dX7_image_8 ⟨Nat.zero_le _, Nat.zero_le _⟩) (fun σ9 H locs hw hP hS => ?_)
  rw [hw] at hP
  refine lv_aload_n hx hb dX7_image_11 rfl (lv_at hl 0 rfl) ?_
  refine lv_iconst (v := 1) hx hb dX7_image_12 (by decide) ?_
  refine pf_X7_269 C0 X hP hS 66 (Or.inr rfl) ⟨by decide, rfl⟩ dX7_image_13 (fun H locs hP hS => ?_)
  refine lv_aload_n hx hb dX7_image_16 rfl (lv_at hl 0 rfl) ?_
  refine gf_X7_12 C0 X hP 66 (q := 0) ⟨by decide, rfl⟩ (by omega) rfl dX7_image_17 ?_
  refine gf_X7_144 C0 X hP 0 ⟨by decide, rfl⟩ dX7_image_20 ?_
  refine lv_topE (y := 0) (by simp only [tcpy, stm_ne _ _ _ (show 0 ≠ 66 by decide), rcpy_ne _ _ _ (show 0 ≠ 22 * 1 + 14 by decide), stm_ne _ _ _ (show 0 ≠ 22 * 1 by decide)]; rw [ccpyK_ne _ (by decide), rdcpy_ne _ (by decide)]; exact Fr_minute hF) ?_
  exact r_iret C0 X hP hS hr hlk dX7_image_23 ⟨rfl, fun a9 h9 => by rw [stm_ne _ _ _ (by omega), tcpy_ne _ (by omega)]⟩
theorem dX7_restore_0 : decode cX7_restore 0 = .ok (.aload_n 0, 1) := by decide +kernel
theorem dX7_restore_1 : decode cX7_restore 1 = .ok (.getfield 269, 3) := by decide +kernel
theorem dX7_restore_4 : decode cX7_restore 4 = .ok (.ifCond .ne 6, 3) := by decide +kernel
theorem dX7_restore_7 : decode cX7_restore 7 = .ok (.bipush (-3), 2) := by decide +kernel
theorem dX7_restore_9 : decode cX7_restore 9 = .ok (.ireturn, 1) := by decide +kernel
theorem dX7_restore_10 : decode cX7_restore 10 = .ok (.aload_n 0, 1) := by decide +kernel
theorem dX7_restore_11 : decode cX7_restore 11 = .ok (.getfield 12, 3) := by decide +kernel
theorem dX7_restore_14 : decode cX7_restore 14 = .ok (.aload_n 0, 1) := by decide +kernel
theorem dX7_restore_15 : decode cX7_restore 15 = .ok (.getfield 16, 3) := by decide +kernel
theorem dX7_restore_18 : decode cX7_restore 18 = .ok (.invokevirtual 62, 3) := by decide +kernel
theorem dX7_restore_21 : decode cX7_restore 21 = .ok (.aload_n 0, 1) := by decide +kernel
theorem dX7_restore_22 : decode cX7_restore 22 = .ok (.getfield 12, 3) := by decide +kernel
theorem dX7_restore_25 : decode cX7_restore 25 = .ok (.getfield 144, 3) := by decide +kernel
theorem dX7_restore_28 : decode cX7_restore 28 = .ok (.ireturn, 1) := by decide +kernel
set_option maxHeartbeats 4000000 in
set_option maxRecDepth 100000 in
theorem c_X7_restore_f (l : Launch) (D : va_G) (cA : Nat → ClassId) (ad : Nat → Nat) (o : Int64) (σ : Mem)  (hF : Fr σ) (sz : Nat) : Met l yX7_restore (WY yX7_restore cX7_restore 1 (some .int)) (RM 0) (va_Pc [.ref (ad 66)] (PW D cA ad o σ sz)) (va_Qi (fun r (σ9 : Mem) => r = -3 ∧ ∀ a9, 91 ≤ a9 → σ9 a9 = σ a9) (QW D cA ad o) (FA ad sz)) 0 0 (FA ad sz) := by
  refine ct_of (own := RX7) (k := 0) (Qf := va_Qi (fun r (σ9 : Mem) => r = -3 ∧ ∀ a9, 91 ≤ a9 → σ9 a9 = σ a9) (QW D cA ad o)) rfl (by decide) (Nat.le_of_ble_eq_true rfl) (fun p e s m below meth c ls C0 X hr hlk hP hl => ?_) sz
  have hS : va_S (FA ad s.heap.size) s.heap s.heap [] := va_S.rf
  have hl : lv_has ls 1 [(0, .ref (ad 66))] := hl
  obtain ⟨hx, hb, hml, hown, hts⟩ := id C0
  refine lv_aload_n hx hb dX7_restore_0 rfl (lv_at hl 0 rfl) ?_
  refine gf_X7_269 C0 X hP 66 ⟨by decide, rfl⟩ dX7_restore_1 ?_
  refine lv_topE (y := 0) (Fr_img hF) ?_
  refine lv_if_ne (tgt := 10) hx hb dX7_restore_4 (by decide) (fun c_1 => absurd c_1 (by decide)) (fun c_1 => ?_)
  refine lv_bipush (v := (-3)) hx hb dX7_restore_7 (by decide) ?_
  exact r_iret C0 X hP hS hr hlk dX7_restore_9 ⟨rfl, fun _ _ => rfl⟩
theorem dX7_count_0 : decode cX7_count 0 = .ok (.iload_n 1, 1) := by decide +kernel
theorem dX7_count_1 : decode cX7_count 1 = .ok (.tableswitch 116 0 5 #[39, 50, 58, 69, 80, 108], 39) := by decide +kernel
theorem dX7_count_40 : decode cX7_count 40 = .ok (.aload_n 0, 1) := by decide +kernel
theorem dX7_count_41 : decode cX7_count 41 = .ok (.getfield 12, 3) := by decide +kernel
theorem dX7_count_44 : decode cX7_count 44 = .ok (.getfield 70, 3) := by decide +kernel
theorem dX7_count_47 : decode cX7_count 47 = .ok (.getfield 74, 3) := by decide +kernel
theorem dX7_count_50 : decode cX7_count 50 = .ok (.ireturn, 1) := by decide +kernel
theorem dX7_count_51 : decode cX7_count 51 = .ok (.aload_n 0, 1) := by decide +kernel
theorem dX7_count_52 : decode cX7_count 52 = .ok (.getfield 12, 3) := by decide +kernel
theorem dX7_count_55 : decode cX7_count 55 = .ok (.getfield 150, 3) := by decide +kernel
theorem dX7_count_58 : decode cX7_count 58 = .ok (.ireturn, 1) := by decide +kernel
theorem dX7_count_59 : decode cX7_count 59 = .ok (.aload_n 0, 1) := by decide +kernel
theorem dX7_count_60 : decode cX7_count 60 = .ok (.getfield 12, 3) := by decide +kernel
theorem dX7_count_63 : decode cX7_count 63 = .ok (.getfield 70, 3) := by decide +kernel
theorem dX7_count_66 : decode cX7_count 66 = .ok (.getfield 272, 3) := by decide +kernel
theorem dX7_count_69 : decode cX7_count 69 = .ok (.ireturn, 1) := by decide +kernel
theorem dX7_count_70 : decode cX7_count 70 = .ok (.aload_n 0, 1) := by decide +kernel
theorem dX7_count_71 : decode cX7_count 71 = .ok (.getfield 12, 3) := by decide +kernel
theorem dX7_count_74 : decode cX7_count 74 = .ok (.getfield 70, 3) := by decide +kernel
theorem dX7_count_77 : decode cX7_count 77 = .ok (.invokevirtual 275, 3) := by decide +kernel
theorem dX7_count_80 : decode cX7_count 80 = .ok (.ireturn, 1) := by decide +kernel
theorem dX7_count_81 : decode cX7_count 81 = .ok (.aload_n 0, 1) := by decide +kernel
theorem dX7_count_82 : decode cX7_count 82 = .ok (.getfield 12, 3) := by decide +kernel
theorem dX7_count_85 : decode cX7_count 85 = .ok (.getfield 150, 3) := by decide +kernel
theorem dX7_count_88 : decode cX7_count 88 = .ok (.aload_n 0, 1) := by decide +kernel
theorem dX7_count_89 : decode cX7_count 89 = .ok (.getfield 12, 3) := by decide +kernel
theorem dX7_count_92 : decode cX7_count 92 = .ok (.bipush (-2), 2) := by decide +kernel
theorem dX7_count_94 : decode cX7_count 94 = .ok (.invokevirtual 176, 3) := by decide +kernel
theorem dX7_count_97 : decode cX7_count 97 = .ok (.isub, 1) := by decide +kernel
theorem dX7_count_98 : decode cX7_count 98 = .ok (.aload_n 0, 1) := by decide +kernel
theorem dX7_count_99 : decode cX7_count 99 = .ok (.getfield 12, 3) := by decide +kernel
theorem dX7_count_102 : decode cX7_count 102 = .ok (.bipush (-3), 2) := by decide +kernel
theorem dX7_count_104 : decode cX7_count 104 = .ok (.invokevirtual 176, 3) := by decide +kernel
theorem dX7_count_107 : decode cX7_count 107 = .ok (.isub, 1) := by decide +kernel
theorem dX7_count_108 : decode cX7_count 108 = .ok (.ireturn, 1) := by decide +kernel
theorem dX7_count_109 : decode cX7_count 109 = .ok (.aload_n 0, 1) := by decide +kernel
theorem dX7_count_110 : decode cX7_count 110 = .ok (.getfield 12, 3) := by decide +kernel
theorem dX7_count_113 : decode cX7_count 113 = .ok (.invokevirtual 278, 3) := by decide +kernel
theorem dX7_count_116 : decode cX7_count 116 = .ok (.ireturn, 1) := by decide +kernel
theorem dX7_count_117 : decode cX7_count 117 = .ok (.iconst (-1), 1) := by decide +kernel
theorem dX7_count_118 : decode cX7_count 118 = .ok (.ireturn, 1) := by decide +kernel
set_option maxHeartbeats 4000000 in
set_option maxRecDepth 100000 in
theorem c_X7_count_f (l : Launch) (D : va_G) (cA : Nat → ClassId) (ad : Nat → Nat) (o : Int64) (σ : Mem) (w : Int32) (hF : Fr σ) (sz : Nat) : Met l yX7_count (WY yX7_count cX7_count 2 (some .int)) (RM 1) (va_Pc [.ref (ad 66), .int w] (PW D cA ad o σ sz)) (va_Qi (fun r (σ9 : Mem) => r = (if w = 0 ∨ w = 1 ∨ w = 2 ∨ w = 3 ∨ w = 4 ∨ w = 5 then 0 else -1) ∧ ∀ a9, 91 ≤ a9 → σ9 a9 = σ a9) (QW D cA ad o) (FA ad sz)) 0 0 (FA ad sz) := by
  refine ct_of (own := RX7) (k := 1) (Qf := va_Qi (fun r (σ9 : Mem) => r = (if w = 0 ∨ w = 1 ∨ w = 2 ∨ w = 3 ∨ w = 4 ∨ w = 5 then 0 else -1) ∧ ∀ a9, 91 ≤ a9 → σ9 a9 = σ a9) (QW D cA ad o)) rfl (by decide) (Nat.le_of_ble_eq_true rfl) (fun p e s m below meth c ls C0 X hr hlk hP hl => ?_) sz
  have hS : va_S (FA ad s.heap.size) s.heap s.heap [] := va_S.rf
  have hl : lv_has ls 2 [(0, .ref (ad 66)), (1, .int w)] := hl
  obtain ⟨hx, hb, hml, hown, hts⟩ := id C0
  refine lv_iload_n hx hb dX7_count_0 rfl (lv_at hl 1 rfl) ?_
  rcases sw_in (x := w) (lo := 0) (n := 6) with c_1 | ⟨j, hj, c_1⟩
  · have e_2 : ¬ w = 0 := sw_ne c_1 (by decide)
    have e_3 : ¬ w = 1 := sw_ne c_1 (by decide)
    have e_4 : ¬ w = 2 := sw_ne c_1 (by decide)
    have e_5 : ¬ w = 3 := sw_ne c_1 (by decide)
    have e_6 : ¬ w = 4 := sw_ne c_1 (by decide)
    have e_7 : ¬ w = 5 := sw_ne c_1 (by decide)
    refine lv_tableOut (tgt := 117) hx hb dX7_count_1 (by omega) (by decide) ?_
    refine lv_iconst (v := (-1)) hx hb dX7_count_117 (by decide) ?_
    exact r_iret C0 X hP hS hr hlk dX7_count_118 ⟨(by simp only [e_2, e_3, e_4, e_5, e_6, e_7, if_true, if_false, ite_true, ite_false, true_and, and_true, false_and, and_false, true_or, or_true, false_or, or_false, not_true_eq_false, not_false_eq_true, ne_eq, and_self, or_self]; try rfl), fun _ _ => rfl⟩
  · rcases (show j = 0 ∨ j = 1 ∨ j = 2 ∨ j = 3 ∨ j = 4 ∨ j = 5 by omega) with rfl | rfl | rfl | rfl | rfl | rfl
    · have e_8 : w = 0 := sw_eq c_1 (by decide)
      refine lv_tableIn (off := 39) (tgt := 40) hx hb dX7_count_1 (by rw [e_8]; decide) (by rw [e_8]; decide) (by rw [e_8]; rfl) (by decide) ?_
      refine lv_aload_n hx hb dX7_count_40 rfl (lv_at hl 0 rfl) ?_
      refine gf_X7_12 C0 X hP 66 (q := 0) ⟨by decide, rfl⟩ (by omega) rfl dX7_count_41 ?_
      refine gf_X7_70 C0 X hP 0 (q := 1) ⟨by decide, rfl⟩ (by omega) rfl dX7_count_44 ?_
      refine gf_X7_74 C0 X hP 1 ⟨by decide, rfl⟩ dX7_count_47 ?_
      refine lv_topE (y := 0) (Fr_pieces hF) ?_
      exact r_iret C0 X hP hS hr hlk dX7_count_50 ⟨(by simp only [e_8, if_true, if_false, ite_true, ite_false, true_and, and_true, false_and, and_false, true_or, or_true, false_or, or_false, not_true_eq_false, not_false_eq_true, ne_eq, and_self, or_self]; try rfl), fun _ _ => rfl⟩
    · have e_9 : w = 1 := sw_eq c_1 (by decide)
      refine lv_tableIn (off := 50) (tgt := 51) hx hb dX7_count_1 (by rw [e_9]; decide) (by rw [e_9]; decide) (by rw [e_9]; rfl) (by decide) ?_
      refine lv_aload_n hx hb dX7_count_51 rfl (lv_at hl 0 rfl) ?_
      refine gf_X7_12 C0 X hP 66 (q := 0) ⟨by decide, rfl⟩ (by omega) rfl dX7_count_52 ?_
      refine gf_X7_150 C0 X hP 0 ⟨by decide, rfl⟩ dX7_count_55 ?_
      refine lv_topE (y := 0) (Fr_count hF) ?_
      exact r_iret C0 X hP hS hr hlk dX7_count_58 ⟨(by simp only [e_9, if_true, if_false, ite_true, ite_false, true_and, and_true, false_and, and_false, true_or, or_true, false_or, or_false, not_true_eq_false, not_false_eq_true, ne_eq, and_self, or_self]; try rfl), fun _ _ => rfl⟩
    · have e_10 : w = 2 := sw_eq c_1 (by decide)
      refine lv_tableIn (off := 58) (tgt := 59) hx hb dX7_count_1 (by rw [e_10]; decide) (by rw [e_10]; decide) (by rw [e_10]; rfl) (by decide) ?_
      refine lv_aload_n hx hb dX7_count_59 rfl (lv_at hl 0 rfl) ?_
      refine gf_X7_12 C0 X hP 66 (q := 0) ⟨by decide, rfl⟩ (by omega) rfl dX7_count_60 ?_
      refine gf_X7_70 C0 X hP 0 (q := 1) ⟨by decide, rfl⟩ (by omega) rfl dX7_count_63 ?_
      refine gf_X7_272 C0 X hP 1 ⟨by decide, rfl⟩ dX7_count_66 ?_
      refine lv_topE (y := 0) (Fr_end hF) ?_
      exact r_iret C0 X hP hS hr hlk dX7_count_69 ⟨(by simp only [e_10, if_true, if_false, ite_true, ite_false, true_and, and_true, false_and, and_false, true_or, or_true, false_or, or_false, not_true_eq_false, not_false_eq_true, ne_eq, and_self, or_self]; try rfl), fun _ _ => rfl⟩
    · have e_11 : w = 3 := sw_eq c_1 (by decide)
      refine lv_tableIn (off := 69) (tgt := 70) hx hb dX7_count_1 (by rw [e_11]; decide) (by rw [e_11]; decide) (by rw [e_11]; rfl) (by decide) ?_
      refine lv_aload_n hx hb dX7_count_70 rfl (lv_at hl 0 rfl) ?_
      refine gf_X7_12 C0 X hP 66 (q := 0) ⟨by decide, rfl⟩ (by omega) rfl dX7_count_71 ?_
      refine gf_X7_70 C0 X hP 0 (q := 1) ⟨by decide, rfl⟩ (by omega) rfl dX7_count_74 ?_
      refine r_ci X hS (r_runV (As := []) (rest := []) C0 X hP L_X7_275 (fun sz => c_X4_allRoom0 l D cA ad o σ 0 (by decide) (Fr_pieces hF) sz) (show 1 < 106 ∧ kd 1 = (4, 13) from ⟨by decide, rfl⟩).1 (show 1 < 106 ∧ kd 1 = (4, 13) from ⟨by decide, rfl⟩).2 (by decide) rfl ⟨Nat.le_of_ble_eq_true rfl, Nat.le_of_ble_eq_true rfl⟩ rfl hl.1 rfl (Nat.le_of_ble_eq_true rfl) dX7_count_77 ⟨Nat.zero_le _, Nat.zero_le _⟩) (fun r σ9 H locs hw hP hS => ?_)
      rw [hw.2] at hP
      rw [hw.1]
      exact r_iret C0 X hP hS hr hlk dX7_count_80 ⟨(by simp only [e_11, if_true, if_false, ite_true, ite_false, true_and, and_true, false_and, and_false, true_or, or_true, false_or, or_false, not_true_eq_false, not_false_eq_true, ne_eq, and_self, or_self]; try rfl), fun _ _ => rfl⟩
    · have e_12 : w = 4 := sw_eq c_1 (by decide)
      refine lv_tableIn (off := 80) (tgt := 81) hx hb dX7_count_1 (by rw [e_12]; decide) (by rw [e_12]; decide) (by rw [e_12]; rfl) (by decide) ?_
      refine lv_aload_n hx hb dX7_count_81 rfl (lv_at hl 0 rfl) ?_
      refine gf_X7_12 C0 X hP 66 (q := 0) ⟨by decide, rfl⟩ (by omega) rfl dX7_count_82 ?_
      refine gf_X7_150 C0 X hP 0 ⟨by decide, rfl⟩ dX7_count_85 ?_
      refine lv_topE (y := 0) (Fr_count hF) ?_
      refine lv_aload_n hx hb dX7_count_88 rfl (lv_at hl 0 rfl) ?_
      refine gf_X7_12 C0 X hP 66 (q := 0) ⟨by decide, rfl⟩ (by omega) rfl dX7_count_89 ?_
      refine lv_bipush (v := (-2)) hx hb dX7_count_92 (by decide) ?_
      refine r_ci X hS (r_runV (As := [.int (-2)]) (rest := [.int 0]) C0 X hP L_X7_176 (fun sz => c_X6_howMany0 l D cA ad o σ 0 (-2) (by decide) (Fr_count hF) sz) (show 0 < 106 ∧ kd 0 = (6, 11) from ⟨by decide, rfl⟩).1 (show 0 < 106 ∧ kd 0 = (6, 11) from ⟨by decide, rfl⟩).2 (by decide) rfl ⟨Nat.le_of_ble_eq_true rfl, Nat.le_of_ble_eq_true rfl⟩ rfl hl.1 rfl (Nat.le_of_ble_eq_true rfl) dX7_count_94 ⟨Nat.zero_le _, Nat.zero_le _⟩) (fun r σ9 H locs hw hP hS => ?_)
      rw [hw.2] at hP
      rw [hw.1]
      refine lv_isub hx hb dX7_count_97 ?_
      refine lv_aload_n hx hb dX7_count_98 rfl (lv_at hl 0 rfl) ?_
      refine gf_X7_12 C0 X hP 66 (q := 0) ⟨by decide, rfl⟩ (by omega) rfl dX7_count_99 ?_
      refine lv_bipush (v := (-3)) hx hb dX7_count_102 (by decide) ?_
      refine r_ci X hS (r_runV (As := [.int (-3)]) (rest := [.int (0 - 0)]) C0 X hP L_X7_176 (fun sz => c_X6_howMany0 l D cA ad o σ 0 (-3) (by decide) (Fr_count hF) sz) (show 0 < 106 ∧ kd 0 = (6, 11) from ⟨by decide, rfl⟩).1 (show 0 < 106 ∧ kd 0 = (6, 11) from ⟨by decide, rfl⟩).2 (by decide) rfl ⟨Nat.le_of_ble_eq_true rfl, Nat.le_of_ble_eq_true rfl⟩ rfl hl.1 rfl (Nat.le_of_ble_eq_true rfl) dX7_count_104 ⟨Nat.zero_le _, Nat.zero_le _⟩) (fun r σ9 H locs hw hP hS => ?_)
      rw [hw.2] at hP
      rw [hw.1]
      refine lv_isub hx hb dX7_count_107 ?_
      exact r_iret C0 X hP hS hr hlk dX7_count_108 ⟨(by simp only [e_12, if_true, if_false, ite_true, ite_false, true_and, and_true, false_and, and_false, true_or, or_true, false_or, or_false, not_true_eq_false, not_false_eq_true, ne_eq, and_self, or_self]; try rfl), fun _ _ => rfl⟩
    · have e_13 : w = 5 := sw_eq c_1 (by decide)
      refine lv_tableIn (off := 108) (tgt := 109) hx hb dX7_count_1 (by rw [e_13]; decide) (by rw [e_13]; decide) (by rw [e_13]; rfl) (by decide) ?_
      refine lv_aload_n hx hb dX7_count_109 rfl (lv_at hl 0 rfl) ?_
      refine gf_X7_12 C0 X hP 66 (q := 0) ⟨by decide, rfl⟩ (by omega) rfl dX7_count_110 ?_
      refine r_ci X hS (r_runV (As := []) (rest := []) C0 X hP L_X7_278 (fun sz => c_X6_allWorth0 l D cA ad o σ 0  (by decide) (Fr_count hF) sz) (show 0 < 106 ∧ kd 0 = (6, 11) from ⟨by decide, rfl⟩).1 (show 0 < 106 ∧ kd 0 = (6, 11) from ⟨by decide, rfl⟩).2 (by decide) rfl ⟨Nat.le_of_ble_eq_true rfl, Nat.le_of_ble_eq_true rfl⟩ rfl hl.1 rfl (Nat.le_of_ble_eq_true rfl) dX7_count_113 ⟨Nat.zero_le _, Nat.zero_le _⟩) (fun r σ9 H locs hw hP hS => ?_)
      rw [hw.2] at hP
      rw [hw.1]
      exact r_iret C0 X hP hS hr hlk dX7_count_116 ⟨(by simp only [e_13, if_true, if_false, ite_true, ite_false, true_and, and_true, false_and, and_false, true_or, or_true, false_or, or_false, not_true_eq_false, not_false_eq_true, ne_eq, and_self, or_self]; try rfl), fun _ _ => rfl⟩
