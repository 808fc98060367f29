/-! Passing's own methods -/
def bc1 (i : Int32) : Int32 := i - ((i.toUInt32 >>> ((1 : Int32).toUInt32 &&& Int32.toUInt32 31)).toInt32 &&& 1431655765)
def bc2 (i : Int32) : Int32 := (i &&& 858993459) + ((i.toUInt32 >>> ((2 : Int32).toUInt32 &&& Int32.toUInt32 31)).toInt32 &&& 858993459)
def bc3 (i : Int32) : Int32 := (i + (i.toUInt32 >>> ((4 : Int32).toUInt32 &&& Int32.toUInt32 31)).toInt32) &&& 252645135
def bc4 (i : Int32) : Int32 := i + (i.toUInt32 >>> ((8 : Int32).toUInt32 &&& Int32.toUInt32 31)).toInt32
def bc5 (i : Int32) : Int32 := i + (i.toUInt32 >>> ((16 : Int32).toUInt32 &&& Int32.toUInt32 31)).toInt32
theorem bc_ok : ∀ l, l < 128 → bc5 (bc4 (bc3 (bc2 (bc1 (nI l))))) &&& 63 = nI (pcN l) := by decide +kernel
def FrP (σ σ' : Mem) : Prop := (∀ a, a ≠ 88 → a ≠ 89 → a ≠ 90 → σ' a = σ a) ∧ (∀ k, k ≠ 2 → σ' 88 k = σ 88 k)
theorem FrP_refl (σ : Mem) : FrP σ σ := ⟨fun _ _ _ _ => rfl, fun _ _ => rfl⟩
theorem FrP_trans {σ σ' σ'' : Mem} (h : FrP σ σ') (k : FrP σ' σ'') : FrP σ σ'' := ⟨fun a h1 h2 h3 => (k.1 a h1 h2 h3).trans (h.1 a h1 h2 h3), fun j hj => (k.2 j hj).trans (h.2 j hj)⟩
theorem FrP_push (σ : Mem) (c k : Nat) (x y w : Int32) : FrP σ (stm (stm (stm σ 89 c x) 90 k y) 88 2 w) := by
  refine ⟨fun a h1 h2 h3 => by rw [stm_ne _ _ _ h1, stm_ne _ _ _ h3, stm_ne _ _ _ h2], fun j hj => ?_⟩
  rw [stm_row]
  simp only [upd, if_neg hj]
  rw [stm_ne _ _ _ (by decide), stm_ne _ _ _ (by decide)]
def bB_cX2_lengthOf : Nat := 0xac1befffa70101840900997a60041b1a1100a207101b3c03
theorem yB_cX2_lengthOf : BYS cX2_lengthOf 24 bB_cX2_lengthOf := BYS_of (by decide +kernel)
theorem dX2_lengthOf_0 : decode cX2_lengthOf 0 = .ok (.iconst 0, 1) := D_3 yB_cX2_lengthOf rfl rfl
theorem dX2_lengthOf_1 : decode cX2_lengthOf 1 = .ok (.istore_n 1, 1) := D_60 yB_cX2_lengthOf rfl rfl
theorem dX2_lengthOf_2 : decode cX2_lengthOf 2 = .ok (.iload_n 1, 1) := D_27 yB_cX2_lengthOf rfl rfl
theorem dX2_lengthOf_3 : decode cX2_lengthOf 3 = .ok (.bipush 7, 2) := D_16 yB_cX2_lengthOf rfl rfl (sg_p (m := 128) (N := 7) rfl rfl rfl)
theorem dX2_lengthOf_5 : decode cX2_lengthOf 5 = .ok (.if_icmp .ge 17, 3) := D_162 yB_cX2_lengthOf rfl rfl (sg_p (m := 32768) (N := 17) rfl rfl rfl)
theorem dX2_lengthOf_8 : decode cX2_lengthOf 8 = .ok (.iload_n 0, 1) := D_26 yB_cX2_lengthOf rfl rfl
theorem dX2_lengthOf_9 : decode cX2_lengthOf 9 = .ok (.iload_n 1, 1) := D_27 yB_cX2_lengthOf rfl rfl
theorem dX2_lengthOf_10 : decode cX2_lengthOf 10 = .ok (.iconst 1, 1) := D_4 yB_cX2_lengthOf rfl rfl
theorem dX2_lengthOf_11 : decode cX2_lengthOf 11 = .ok (.iadd, 1) := D_96 yB_cX2_lengthOf rfl rfl
theorem dX2_lengthOf_12 : decode cX2_lengthOf 12 = .ok (.ishr, 1) := D_122 yB_cX2_lengthOf rfl rfl
theorem dX2_lengthOf_13 : decode cX2_lengthOf 13 = .ok (.ifCond .eq 9, 3) := D_153 yB_cX2_lengthOf rfl rfl (sg_p (m := 32768) (N := 9) rfl rfl rfl)
theorem dX2_lengthOf_16 : decode cX2_lengthOf 16 = .ok (.iinc 1 1, 3) := D_132 yB_cX2_lengthOf rfl rfl rfl (sg_p (m := 128) (N := 1) rfl rfl rfl)
theorem dX2_lengthOf_19 : decode cX2_lengthOf 19 = .ok (.goto (-17), 3) := D_167 yB_cX2_lengthOf rfl rfl (sg_n (m := 32768) (N := 17) rfl rfl rfl)
theorem dX2_lengthOf_22 : decode cX2_lengthOf 22 = .ok (.iload_n 1, 1) := D_27 yB_cX2_lengthOf rfl rfl
theorem dX2_lengthOf_23 : decode cX2_lengthOf 23 = .ok (.ireturn, 1) := D_172 yB_cX2_lengthOf rfl rfl
set_option maxHeartbeats 4000000 in
set_option maxRecDepth 100000 in
theorem c_X2_lengthOf (l : Launch) (D : va_G) (cA : Nat → ClassId) (ad : Nat → Nat) (o : Int64) (σ : Mem) (ln : Nat) (hln : ln < 128) (sz : Nat) : Met l yX2_lengthOf (WY yX2_lengthOf cX2_lengthOf 2 (some .int)) (RM 0) (va_Pc [.int (nI ln)] (PW D cA ad o σ sz)) (va_Qi (fun r σ9 => r = nI (Nat.log2 ln) ∧ σ9 = σ) (QW D cA ad o) (FA ad sz)) 0 0 (FA ad sz) := by
  refine ct_of (own := RX2) (k := 0) (Qf := va_Qi (fun r σ9 => r = nI (Nat.log2 ln) ∧ σ9 = σ) (QW D cA ad o)) rfl (by decide) (Nat.le_of_ble_eq_true rfl) (fun p e s m below meth c ls C0 X hr hlk hP hl => ?_) sz
  have hS : va_S (FA ad s.heap.size) s.heap s.heap [] := va_S.rf
  have hl : lv_has ls 2 [(0, .int (nI ln))] := hl
  obtain ⟨hx, hb, hml, hown, hts⟩ := id C0
  have h7 := ln_lt ln hln
  refine lv_iconst (v := 0) hx hb dX2_lengthOf_0 (by decide) ?_
  refine lv_istore_n (lv' := [(1, .int 0), (0, .int (nI ln))]) hx hb dX2_lengthOf_1 rfl hl (by decide) rfl (fun ls hl => ?_)
  have lp_1 : ∀ (nn : Nat) (k : Nat) (H : Heap) (locs : List Loc) (ls : Array Slot), k ≤ Nat.log2 ln → WP D cA ad o σ H → va_S (FA ad s.heap.size) s.heap H locs → lv_has ls 2 [(0, .int (nI ln)), (1, .int (nI k))] → (7 - k) < nn → W p l e (RM 0) s m ([.int (nI ln)] : List Value).toArray below meth c H locs 0 0 (MQ below (va_Qi (fun r σ9 => r = nI (Nat.log2 ln) ∧ σ9 = σ) (QW D cA ad o) (FA ad s.heap.size)) ([.int (nI ln)] : List Value).toArray s 0 0 (FA ad s.heap.size)) (F0 m 2 ls []) := by
    intro nn
    induction nn with
    | zero => intro k H locs ls hk hP hS hl hn; exact absurd hn (Nat.not_lt_zero _)
    | succ nn ih =>
      intro k H locs ls hk hP hS hl hn
      refine lv_iload_n hx hb dX2_lengthOf_2 rfl (lv_at hl 1 rfl) ?_
      refine lv_bipush (v := 7) hx hb dX2_lengthOf_3 (by decide) ?_
      refine lv_icmp_ge (tgt := 22) hx hb dX2_lengthOf_5 (by decide) (fun c_2 => absurd c_2 (nI_ge (a := k) (b := 7) (by omega) (by decide))) (fun c_2 => ?_)
      refine lv_iload_n hx hb dX2_lengthOf_8 rfl (lv_at hl 0 rfl) ?_
      refine lv_iload_n hx hb dX2_lengthOf_9 rfl (lv_at hl 1 rfl) ?_
      refine lv_iconst (v := 1) hx hb dX2_lengthOf_10 (by decide) ?_
      refine lv_iadd hx hb dX2_lengthOf_11 ?_
      refine lv_ishr hx hb dX2_lengthOf_12 ?_
      refine lv_if_eq (tgt := 22) hx hb dX2_lengthOf_13 (by decide) (fun c_3 => ?_) (fun c_3 => ?_)
      · refine lv_iload_n hx hb dX2_lengthOf_22 rfl (lv_at hl 1 rfl) ?_
        exact r_iret C0 X hP hS hr hlk dX2_lengthOf_23 ⟨by rw [Nat.le_antisymm hk ((ln_ok ln hln k (by omega)).mp c_3)], rfl⟩
      · refine lv_iinc (v := (nI (k + 1))) (lv' := [(1, .int (nI (k + 1))), (0, .int (nI ln))]) hx hb dX2_lengthOf_16 hl (k := 1) rfl (nI_1 _) (by decide) rfl (fun ls hl => ?_)
        refine lv_goto (tgt := 2) hx hb dX2_lengthOf_19 (by decide) ?_
        exact ih (k + 1) _ _ ls (by have h9 : ¬ Nat.log2 ln ≤ k := (fun q => c_3 ((ln_ok ln hln k (by omega)).mpr q)); omega) hP hS (lv_sub hl [1, 0] rfl) (by omega)
  exact lp_1 ((7 - 0) + 1) 0 _ _ ls (Nat.zero_le _) hP hS (lv_sub hl [1, 0] rfl) (by omega)
def bB_cX2_without : Nat := 0xac807e6404781b041a781b7a60041b1a
theorem yB_cX2_without : BYS cX2_without 16 bB_cX2_without := BYS_of (by decide +kernel)
theorem dX2_without_0 : decode cX2_without 0 = .ok (.iload_n 0, 1) := D_26 yB_cX2_without rfl rfl
theorem dX2_without_1 : decode cX2_without 1 = .ok (.iload_n 1, 1) := D_27 yB_cX2_without rfl rfl
theorem dX2_without_2 : decode cX2_without 2 = .ok (.iconst 1, 1) := D_4 yB_cX2_without rfl rfl
theorem dX2_without_3 : decode cX2_without 3 = .ok (.iadd, 1) := D_96 yB_cX2_without rfl rfl
theorem dX2_without_4 : decode cX2_without 4 = .ok (.ishr, 1) := D_122 yB_cX2_without rfl rfl
theorem dX2_without_5 : decode cX2_without 5 = .ok (.iload_n 1, 1) := D_27 yB_cX2_without rfl rfl
theorem dX2_without_6 : decode cX2_without 6 = .ok (.ishl, 1) := D_120 yB_cX2_without rfl rfl
theorem dX2_without_7 : decode cX2_without 7 = .ok (.iload_n 0, 1) := D_26 yB_cX2_without rfl rfl
theorem dX2_without_8 : decode cX2_without 8 = .ok (.iconst 1, 1) := D_4 yB_cX2_without rfl rfl
theorem dX2_without_9 : decode cX2_without 9 = .ok (.iload_n 1, 1) := D_27 yB_cX2_without rfl rfl
theorem dX2_without_10 : decode cX2_without 10 = .ok (.ishl, 1) := D_120 yB_cX2_without rfl rfl
theorem dX2_without_11 : decode cX2_without 11 = .ok (.iconst 1, 1) := D_4 yB_cX2_without rfl rfl
theorem dX2_without_12 : decode cX2_without 12 = .ok (.isub, 1) := D_100 yB_cX2_without rfl rfl
theorem dX2_without_13 : decode cX2_without 13 = .ok (.iand, 1) := D_126 yB_cX2_without rfl rfl
theorem dX2_without_14 : decode cX2_without 14 = .ok (.ior, 1) := D_128 yB_cX2_without rfl rfl
theorem dX2_without_15 : decode cX2_without 15 = .ok (.ireturn, 1) := D_172 yB_cX2_without rfl rfl
set_option maxHeartbeats 4000000 in
set_option maxRecDepth 100000 in
theorem c_X2_without (l : Launch) (D : va_G) (cA : Nat → ClassId) (ad : Nat → Nat) (o : Int64) (σ : Mem) (ln : Nat) (bt : Nat) (hln : ln < 128) (hbt : bt < 7) (sz : Nat) : Met l yX2_without (WY yX2_without cX2_without 2 (some .int)) (RM 0) (va_Pc [.int (nI ln), .int (nI bt)] (PW D cA ad o σ sz)) (va_Qi (fun r σ9 => r = nI (woN ln bt) ∧ σ9 = σ) (QW D cA ad o) (FA ad sz)) 0 0 (FA ad sz) := by
  refine ct_of (own := RX2) (k := 0) (Qf := va_Qi (fun r σ9 => r = nI (woN ln bt) ∧ σ9 = σ) (QW D cA ad o)) rfl (by decide) (Nat.le_of_ble_eq_true rfl) (fun p e s m below meth c ls C0 X hr hlk hP hl => ?_) sz
  have hS : va_S (FA ad s.heap.size) s.heap s.heap [] := va_S.rf
  have hl : lv_has ls 2 [(0, .int (nI ln)), (1, .int (nI bt))] := hl
  obtain ⟨hx, hb, hml, hown, hts⟩ := id C0
  refine lv_iload_n hx hb dX2_without_0 rfl (lv_at hl 0 rfl) ?_
  refine lv_iload_n hx hb dX2_without_1 rfl (lv_at hl 1 rfl) ?_
  refine lv_iconst (v := 1) hx hb dX2_without_2 (by decide) ?_
  refine lv_iadd hx hb dX2_without_3 ?_
  refine lv_ishr hx hb dX2_without_4 ?_
  refine lv_iload_n hx hb dX2_without_5 rfl (lv_at hl 1 rfl) ?_
  refine lv_ishl hx hb dX2_without_6 ?_
  refine lv_iload_n hx hb dX2_without_7 rfl (lv_at hl 0 rfl) ?_
  refine lv_iconst (v := 1) hx hb dX2_without_8 (by decide) ?_
  refine lv_iload_n hx hb dX2_without_9 rfl (lv_at hl 1 rfl) ?_
  refine lv_ishl hx hb dX2_without_10 ?_
  refine lv_iconst (v := 1) hx hb dX2_without_11 (by decide) ?_
  refine lv_isub hx hb dX2_without_12 ?_
  refine lv_iand hx hb dX2_without_13 ?_
  refine lv_ior hx hb dX2_without_14 ?_
  exact r_iret C0 X hP hS hr hlk dX2_without_15 ⟨wo_ok ln hln bt hbt, rfl⟩
def bB_cJ6_bitCount_0f7a4 : Nat := 0xac7e3f101a3b607c10101a1a3b607c08101a1a3b7e0b0113607c071a1a3b607e0a01137c051a7e0a01131a3b647e0901137c041a1a
theorem yB_cJ6_bitCount_0f7a4 : BYS cJ6_bitCount_0f7a4 53 bB_cJ6_bitCount_0f7a4 := BYS_of (by decide +kernel)
theorem dJ6_bitCount_0f7a4_0 : decode cJ6_bitCount_0f7a4 0 = .ok (.iload_n 0, 1) := D_26 yB_cJ6_bitCount_0f7a4 rfl rfl
theorem dJ6_bitCount_0f7a4_1 : decode cJ6_bitCount_0f7a4 1 = .ok (.iload_n 0, 1) := D_26 yB_cJ6_bitCount_0f7a4 rfl rfl
theorem dJ6_bitCount_0f7a4_2 : decode cJ6_bitCount_0f7a4 2 = .ok (.iconst 1, 1) := D_4 yB_cJ6_bitCount_0f7a4 rfl rfl
theorem dJ6_bitCount_0f7a4_3 : decode cJ6_bitCount_0f7a4 3 = .ok (.iushr, 1) := D_124 yB_cJ6_bitCount_0f7a4 rfl rfl
theorem dJ6_bitCount_0f7a4_4 : decode cJ6_bitCount_0f7a4 4 = .ok (.ldc_w 265, 3) := D_19 yB_cJ6_bitCount_0f7a4 rfl rfl rfl
theorem dJ6_bitCount_0f7a4_7 : decode cJ6_bitCount_0f7a4 7 = .ok (.iand, 1) := D_126 yB_cJ6_bitCount_0f7a4 rfl rfl
theorem dJ6_bitCount_0f7a4_8 : decode cJ6_bitCount_0f7a4 8 = .ok (.isub, 1) := D_100 yB_cJ6_bitCount_0f7a4 rfl rfl
theorem dJ6_bitCount_0f7a4_9 : decode cJ6_bitCount_0f7a4 9 = .ok (.istore_n 0, 1) := D_59 yB_cJ6_bitCount_0f7a4 rfl rfl
theorem dJ6_bitCount_0f7a4_10 : decode cJ6_bitCount_0f7a4 10 = .ok (.iload_n 0, 1) := D_26 yB_cJ6_bitCount_0f7a4 rfl rfl
theorem dJ6_bitCount_0f7a4_11 : decode cJ6_bitCount_0f7a4 11 = .ok (.ldc_w 266, 3) := D_19 yB_cJ6_bitCount_0f7a4 rfl rfl rfl
theorem dJ6_bitCount_0f7a4_14 : decode cJ6_bitCount_0f7a4 14 = .ok (.iand, 1) := D_126 yB_cJ6_bitCount_0f7a4 rfl rfl
theorem dJ6_bitCount_0f7a4_15 : decode cJ6_bitCount_0f7a4 15 = .ok (.iload_n 0, 1) := D_26 yB_cJ6_bitCount_0f7a4 rfl rfl
theorem dJ6_bitCount_0f7a4_16 : decode cJ6_bitCount_0f7a4 16 = .ok (.iconst 2, 1) := D_5 yB_cJ6_bitCount_0f7a4 rfl rfl
theorem dJ6_bitCount_0f7a4_17 : decode cJ6_bitCount_0f7a4 17 = .ok (.iushr, 1) := D_124 yB_cJ6_bitCount_0f7a4 rfl rfl
theorem dJ6_bitCount_0f7a4_18 : decode cJ6_bitCount_0f7a4 18 = .ok (.ldc_w 266, 3) := D_19 yB_cJ6_bitCount_0f7a4 rfl rfl rfl
theorem dJ6_bitCount_0f7a4_21 : decode cJ6_bitCount_0f7a4 21 = .ok (.iand, 1) := D_126 yB_cJ6_bitCount_0f7a4 rfl rfl
theorem dJ6_bitCount_0f7a4_22 : decode cJ6_bitCount_0f7a4 22 = .ok (.iadd, 1) := D_96 yB_cJ6_bitCount_0f7a4 rfl rfl
theorem dJ6_bitCount_0f7a4_23 : decode cJ6_bitCount_0f7a4 23 = .ok (.istore_n 0, 1) := D_59 yB_cJ6_bitCount_0f7a4 rfl rfl
theorem dJ6_bitCount_0f7a4_24 : decode cJ6_bitCount_0f7a4 24 = .ok (.iload_n 0, 1) := D_26 yB_cJ6_bitCount_0f7a4 rfl rfl
theorem dJ6_bitCount_0f7a4_25 : decode cJ6_bitCount_0f7a4 25 = .ok (.iload_n 0, 1) := D_26 yB_cJ6_bitCount_0f7a4 rfl rfl
theorem dJ6_bitCount_0f7a4_26 : decode cJ6_bitCount_0f7a4 26 = .ok (.iconst 4, 1) := D_7 yB_cJ6_bitCount_0f7a4 rfl rfl
theorem dJ6_bitCount_0f7a4_27 : decode cJ6_bitCount_0f7a4 27 = .ok (.iushr, 1) := D_124 yB_cJ6_bitCount_0f7a4 rfl rfl
theorem dJ6_bitCount_0f7a4_28 : decode cJ6_bitCount_0f7a4 28 = .ok (.iadd, 1) := D_96 yB_cJ6_bitCount_0f7a4 rfl rfl
theorem dJ6_bitCount_0f7a4_29 : decode cJ6_bitCount_0f7a4 29 = .ok (.ldc_w 267, 3) := D_19 yB_cJ6_bitCount_0f7a4 rfl rfl rfl
theorem dJ6_bitCount_0f7a4_32 : decode cJ6_bitCount_0f7a4 32 = .ok (.iand, 1) := D_126 yB_cJ6_bitCount_0f7a4 rfl rfl
theorem dJ6_bitCount_0f7a4_33 : decode cJ6_bitCount_0f7a4 33 = .ok (.istore_n 0, 1) := D_59 yB_cJ6_bitCount_0f7a4 rfl rfl
theorem dJ6_bitCount_0f7a4_34 : decode cJ6_bitCount_0f7a4 34 = .ok (.iload_n 0, 1) := D_26 yB_cJ6_bitCount_0f7a4 rfl rfl
theorem dJ6_bitCount_0f7a4_35 : decode cJ6_bitCount_0f7a4 35 = .ok (.iload_n 0, 1) := D_26 yB_cJ6_bitCount_0f7a4 rfl rfl
theorem dJ6_bitCount_0f7a4_36 : decode cJ6_bitCount_0f7a4 36 = .ok (.bipush 8, 2) := D_16 yB_cJ6_bitCount_0f7a4 rfl rfl (sg_p (m := 128) (N := 8) rfl rfl rfl)
theorem dJ6_bitCount_0f7a4_38 : decode cJ6_bitCount_0f7a4 38 = .ok (.iushr, 1) := D_124 yB_cJ6_bitCount_0f7a4 rfl rfl
theorem dJ6_bitCount_0f7a4_39 : decode cJ6_bitCount_0f7a4 39 = .ok (.iadd, 1) := D_96 yB_cJ6_bitCount_0f7a4 rfl rfl
theorem dJ6_bitCount_0f7a4_40 : decode cJ6_bitCount_0f7a4 40 = .ok (.istore_n 0, 1) := D_59 yB_cJ6_bitCount_0f7a4 rfl rfl
theorem dJ6_bitCount_0f7a4_41 : decode cJ6_bitCount_0f7a4 41 = .ok (.iload_n 0, 1) := D_26 yB_cJ6_bitCount_0f7a4 rfl rfl
theorem dJ6_bitCount_0f7a4_42 : decode cJ6_bitCount_0f7a4 42 = .ok (.iload_n 0, 1) := D_26 yB_cJ6_bitCount_0f7a4 rfl rfl
theorem dJ6_bitCount_0f7a4_43 : decode cJ6_bitCount_0f7a4 43 = .ok (.bipush 16, 2) := D_16 yB_cJ6_bitCount_0f7a4 rfl rfl (sg_p (m := 128) (N := 16) rfl rfl rfl)
theorem dJ6_bitCount_0f7a4_45 : decode cJ6_bitCount_0f7a4 45 = .ok (.iushr, 1) := D_124 yB_cJ6_bitCount_0f7a4 rfl rfl
theorem dJ6_bitCount_0f7a4_46 : decode cJ6_bitCount_0f7a4 46 = .ok (.iadd, 1) := D_96 yB_cJ6_bitCount_0f7a4 rfl rfl
theorem dJ6_bitCount_0f7a4_47 : decode cJ6_bitCount_0f7a4 47 = .ok (.istore_n 0, 1) := D_59 yB_cJ6_bitCount_0f7a4 rfl rfl
theorem dJ6_bitCount_0f7a4_48 : decode cJ6_bitCount_0f7a4 48 = .ok (.iload_n 0, 1) := D_26 yB_cJ6_bitCount_0f7a4 rfl rfl
theorem dJ6_bitCount_0f7a4_49 : decode cJ6_bitCount_0f7a4 49 = .ok (.bipush 63, 2) := D_16 yB_cJ6_bitCount_0f7a4 rfl rfl (sg_p (m := 128) (N := 63) rfl rfl rfl)
theorem dJ6_bitCount_0f7a4_51 : decode cJ6_bitCount_0f7a4 51 = .ok (.iand, 1) := D_126 yB_cJ6_bitCount_0f7a4 rfl rfl
theorem dJ6_bitCount_0f7a4_52 : decode cJ6_bitCount_0f7a4 52 = .ok (.ireturn, 1) := D_172 yB_cJ6_bitCount_0f7a4 rfl rfl
set_option maxHeartbeats 4000000 in
set_option maxRecDepth 100000 in
theorem c_J6_bitCount_0f7a4 (l : Launch) (D : va_G) (cA : Nat → ClassId) (ad : Nat → Nat) (o : Int64) (σ : Mem) (ln : Nat) (hln : ln < 128) (sz : Nat) : Met l yJ6_bitCount_0f7a4 (WY yJ6_bitCount_0f7a4 cJ6_bitCount_0f7a4 1 (some .int)) (RM 0) (va_Pc [.int (nI ln)] (PW D cA ad o σ sz)) (va_Qi (fun r σ9 => r = nI (pcN ln) ∧ σ9 = σ) (QW D cA ad o) (FA ad sz)) 0 0 (FA ad sz) := by
  refine ct_of (own := RJ6) (k := 0) (Qf := va_Qi (fun r σ9 => r = nI (pcN ln) ∧ σ9 = σ) (QW D cA ad o)) rfl (by decide) (Nat.le_of_ble_eq_true rfl) (fun p e s m below meth c ls C0 X hr hlk hP hl => ?_) sz
  have hS : va_S (FA ad s.heap.size) s.heap s.heap [] := va_S.rf
  have hl : lv_has ls 1 [(0, .int (nI ln))] := hl
  obtain ⟨hx, hb, hml, hown, hts⟩ := id C0
  refine lv_iload_n hx hb dJ6_bitCount_0f7a4_0 rfl (lv_at hl 0 rfl) ?_
  refine lv_iload_n hx hb dJ6_bitCount_0f7a4_1 rfl (lv_at hl 0 rfl) ?_
  refine lv_iconst (v := 1) hx hb dJ6_bitCount_0f7a4_2 (by decide) ?_
  refine lv_iushr (v := (((nI ln)).toUInt32 >>> ((1 : Int32).toUInt32 &&& Int32.toUInt32 31)).toInt32) hx hb dJ6_bitCount_0f7a4_3 rfl ?_
  refine lv_ldcw (own := RJ6) (index := 265) (v := 1431655765) hx hb hown (hts _ (tmc sb4 50 (by decide +kernel) (by decide +kernel))) dJ6_bitCount_0f7a4_4 ?_
  refine lv_iand hx hb dJ6_bitCount_0f7a4_7 ?_
  refine lv_isub hx hb dJ6_bitCount_0f7a4_8 ?_
  refine lv_topE (y := (bc1 (nI ln))) rfl ?_
  refine lv_istore_n (lv' := [(0, .int (bc1 (nI ln)))]) hx hb dJ6_bitCount_0f7a4_9 rfl hl (by decide) rfl (fun ls hl => ?_)
  refine lv_iload_n hx hb dJ6_bitCount_0f7a4_10 rfl (lv_at hl 0 rfl) ?_
  refine lv_ldcw (own := RJ6) (index := 266) (v := 858993459) hx hb hown (hts _ (tmc sb4 51 (by decide +kernel) (by decide +kernel))) dJ6_bitCount_0f7a4_11 ?_
  refine lv_iand hx hb dJ6_bitCount_0f7a4_14 ?_
  refine lv_iload_n hx hb dJ6_bitCount_0f7a4_15 rfl (lv_at hl 0 rfl) ?_
  refine lv_iconst (v := 2) hx hb dJ6_bitCount_0f7a4_16 (by decide) ?_
  refine lv_iushr (v := (((bc1 (nI ln))).toUInt32 >>> ((2 : Int32).toUInt32 &&& Int32.toUInt32 31)).toInt32) hx hb dJ6_bitCount_0f7a4_17 rfl ?_
  refine lv_ldcw (own := RJ6) (index := 266) (v := 858993459) hx hb hown (hts _ (tmc sb4 51 (by decide +kernel) (by decide +kernel))) dJ6_bitCount_0f7a4_18 ?_
  refine lv_iand hx hb dJ6_bitCount_0f7a4_21 ?_
  refine lv_iadd hx hb dJ6_bitCount_0f7a4_22 ?_
  refine lv_topE (y := (bc2 (bc1 (nI ln)))) rfl ?_
  refine lv_istore_n (lv' := [(0, .int (bc2 (bc1 (nI ln))))]) hx hb dJ6_bitCount_0f7a4_23 rfl hl (by decide) rfl (fun ls hl => ?_)
  refine lv_iload_n hx hb dJ6_bitCount_0f7a4_24 rfl (lv_at hl 0 rfl) ?_
  refine lv_iload_n hx hb dJ6_bitCount_0f7a4_25 rfl (lv_at hl 0 rfl) ?_
  refine lv_iconst (v := 4) hx hb dJ6_bitCount_0f7a4_26 (by decide) ?_
  refine lv_iushr (v := (((bc2 (bc1 (nI ln)))).toUInt32 >>> ((4 : Int32).toUInt32 &&& Int32.toUInt32 31)).toInt32) hx hb dJ6_bitCount_0f7a4_27 rfl ?_
  refine lv_iadd hx hb dJ6_bitCount_0f7a4_28 ?_
  refine lv_ldcw (own := RJ6) (index := 267) (v := 252645135) hx hb hown (hts _ (tmc sb4 52 (by decide +kernel) (by decide +kernel))) dJ6_bitCount_0f7a4_29 ?_
  refine lv_iand hx hb dJ6_bitCount_0f7a4_32 ?_
  refine lv_topE (y := (bc3 (bc2 (bc1 (nI ln))))) rfl ?_
  refine lv_istore_n (lv' := [(0, .int (bc3 (bc2 (bc1 (nI ln)))))]) hx hb dJ6_bitCount_0f7a4_33 rfl hl (by decide) rfl (fun ls hl => ?_)
  refine lv_iload_n hx hb dJ6_bitCount_0f7a4_34 rfl (lv_at hl 0 rfl) ?_
  refine lv_iload_n hx hb dJ6_bitCount_0f7a4_35 rfl (lv_at hl 0 rfl) ?_
  refine lv_bipush (v := 8) hx hb dJ6_bitCount_0f7a4_36 (by decide) ?_
  refine lv_iushr (v := (((bc3 (bc2 (bc1 (nI ln))))).toUInt32 >>> ((8 : Int32).toUInt32 &&& Int32.toUInt32 31)).toInt32) hx hb dJ6_bitCount_0f7a4_38 rfl ?_
  refine lv_iadd hx hb dJ6_bitCount_0f7a4_39 ?_
  refine lv_topE (y := (bc4 (bc3 (bc2 (bc1 (nI ln)))))) rfl ?_
  refine lv_istore_n (lv' := [(0, .int (bc4 (bc3 (bc2 (bc1 (nI ln))))))]) hx hb dJ6_bitCount_0f7a4_40 rfl hl (by decide) rfl (fun ls hl => ?_)
  refine lv_iload_n hx hb dJ6_bitCount_0f7a4_41 rfl (lv_at hl 0 rfl) ?_
  refine lv_iload_n hx hb dJ6_bitCount_0f7a4_42 rfl (lv_at hl 0 rfl) ?_
  refine lv_bipush (v := 16) hx hb dJ6_bitCount_0f7a4_43 (by decide) ?_
  refine lv_iushr (v := (((bc4 (bc3 (bc2 (bc1 (nI ln)))))).toUInt32 >>> ((16 : Int32).toUInt32 &&& Int32.toUInt32 31)).toInt32) hx hb dJ6_bitCount_0f7a4_45 rfl ?_
  refine lv_iadd hx hb dJ6_bitCount_0f7a4_46 ?_
  refine lv_topE (y := (bc5 (bc4 (bc3 (bc2 (bc1 (nI ln))))))) rfl ?_
  refine lv_istore_n (lv' := [(0, .int (bc5 (bc4 (bc3 (bc2 (bc1 (nI ln)))))))]) hx hb dJ6_bitCount_0f7a4_47 rfl hl (by decide) rfl (fun ls hl => ?_)
  refine lv_iload_n hx hb dJ6_bitCount_0f7a4_48 rfl (lv_at hl 0 rfl) ?_
  refine lv_bipush (v := 63) hx hb dJ6_bitCount_0f7a4_49 (by decide) ?_
  refine lv_iand hx hb dJ6_bitCount_0f7a4_51 ?_
  exact r_iret C0 X hP hS hr hlk dJ6_bitCount_0f7a4_52 ⟨bc_ok ln hln, rfl⟩
def bB_cX2_reach : Nat := 0xb12200b560042200b4592a4f04152200b42a0f00b42a4f1d04150b00b42ab10400a18003112200b42a0d00a0fc102e04150b00b42ab10400a18000111c0a009b1c0e00a207101b14009b1b0436601c688000111b
theorem yB_cX2_reach : BYS cX2_reach 84 bB_cX2_reach := BYS_of (by decide +kernel)
theorem dX2_reach_0 : decode cX2_reach 0 = .ok (.iload_n 1, 1) := D_27 yB_cX2_reach rfl rfl
theorem dX2_reach_1 : decode cX2_reach 1 = .ok (.sipush 128, 3) := D_17 yB_cX2_reach rfl rfl (sg_p (m := 32768) (N := 128) rfl rfl rfl)
theorem dX2_reach_4 : decode cX2_reach 4 = .ok (.imul, 1) := D_104 yB_cX2_reach rfl rfl
theorem dX2_reach_5 : decode cX2_reach 5 = .ok (.iload_n 2, 1) := D_28 yB_cX2_reach rfl rfl
theorem dX2_reach_6 : decode cX2_reach 6 = .ok (.iadd, 1) := D_96 yB_cX2_reach rfl rfl
theorem dX2_reach_7 : decode cX2_reach 7 = .ok (.istore 4, 2) := D_54 yB_cX2_reach rfl rfl rfl
theorem dX2_reach_9 : decode cX2_reach 9 = .ok (.iload_n 1, 1) := D_27 yB_cX2_reach rfl rfl
theorem dX2_reach_10 : decode cX2_reach 10 = .ok (.ifCond .lt 20, 3) := D_155 yB_cX2_reach rfl rfl (sg_p (m := 32768) (N := 20) rfl rfl rfl)
theorem dX2_reach_13 : decode cX2_reach 13 = .ok (.iload_n 1, 1) := D_27 yB_cX2_reach rfl rfl
theorem dX2_reach_14 : decode cX2_reach 14 = .ok (.bipush 7, 2) := D_16 yB_cX2_reach rfl rfl (sg_p (m := 128) (N := 7) rfl rfl rfl)
theorem dX2_reach_16 : decode cX2_reach 16 = .ok (.if_icmp .ge 14, 3) := D_162 yB_cX2_reach rfl rfl (sg_p (m := 32768) (N := 14) rfl rfl rfl)
theorem dX2_reach_19 : decode cX2_reach 19 = .ok (.iload_n 2, 1) := D_28 yB_cX2_reach rfl rfl
theorem dX2_reach_20 : decode cX2_reach 20 = .ok (.ifCond .lt 10, 3) := D_155 yB_cX2_reach rfl rfl (sg_p (m := 32768) (N := 10) rfl rfl rfl)
theorem dX2_reach_23 : decode cX2_reach 23 = .ok (.iload_n 2, 1) := D_28 yB_cX2_reach rfl rfl
theorem dX2_reach_24 : decode cX2_reach 24 = .ok (.sipush 128, 3) := D_17 yB_cX2_reach rfl rfl (sg_p (m := 32768) (N := 128) rfl rfl rfl)
theorem dX2_reach_27 : decode cX2_reach 27 = .ok (.if_icmp .lt 4, 3) := D_161 yB_cX2_reach rfl rfl (sg_p (m := 32768) (N := 4) rfl rfl rfl)
theorem dX2_reach_30 : decode cX2_reach 30 = .ok (.return_, 1) := D_177 yB_cX2_reach rfl rfl
theorem dX2_reach_31 : decode cX2_reach 31 = .ok (.aload_n 0, 1) := D_42 yB_cX2_reach rfl rfl
theorem dX2_reach_32 : decode cX2_reach 32 = .ok (.getfield 11, 3) := D_180 yB_cX2_reach rfl rfl rfl
theorem dX2_reach_35 : decode cX2_reach 35 = .ok (.iload 4, 2) := D_21 yB_cX2_reach rfl rfl rfl
theorem dX2_reach_37 : decode cX2_reach 37 = .ok (.iaload, 1) := D_46 yB_cX2_reach rfl rfl
theorem dX2_reach_38 : decode cX2_reach 38 = .ok (.bipush (-4), 2) := D_16 yB_cX2_reach rfl rfl (sg_n (m := 128) (N := 4) rfl rfl rfl)
theorem dX2_reach_40 : decode cX2_reach 40 = .ok (.if_icmp .ne 13, 3) := D_160 yB_cX2_reach rfl rfl (sg_p (m := 32768) (N := 13) rfl rfl rfl)
theorem dX2_reach_43 : decode cX2_reach 43 = .ok (.aload_n 0, 1) := D_42 yB_cX2_reach rfl rfl
theorem dX2_reach_44 : decode cX2_reach 44 = .ok (.getfield 34, 3) := D_180 yB_cX2_reach rfl rfl rfl
theorem dX2_reach_47 : decode cX2_reach 47 = .ok (.sipush 896, 3) := D_17 yB_cX2_reach rfl rfl (sg_p (m := 32768) (N := 896) rfl rfl rfl)
theorem dX2_reach_50 : decode cX2_reach 50 = .ok (.if_icmp .lt 4, 3) := D_161 yB_cX2_reach rfl rfl (sg_p (m := 32768) (N := 4) rfl rfl rfl)
theorem dX2_reach_53 : decode cX2_reach 53 = .ok (.return_, 1) := D_177 yB_cX2_reach rfl rfl
theorem dX2_reach_54 : decode cX2_reach 54 = .ok (.aload_n 0, 1) := D_42 yB_cX2_reach rfl rfl
theorem dX2_reach_55 : decode cX2_reach 55 = .ok (.getfield 11, 3) := D_180 yB_cX2_reach rfl rfl rfl
theorem dX2_reach_58 : decode cX2_reach 58 = .ok (.iload 4, 2) := D_21 yB_cX2_reach rfl rfl rfl
theorem dX2_reach_60 : decode cX2_reach 60 = .ok (.iload_n 3, 1) := D_29 yB_cX2_reach rfl rfl
theorem dX2_reach_61 : decode cX2_reach 61 = .ok (.iastore, 1) := D_79 yB_cX2_reach rfl rfl
theorem dX2_reach_62 : decode cX2_reach 62 = .ok (.aload_n 0, 1) := D_42 yB_cX2_reach rfl rfl
theorem dX2_reach_63 : decode cX2_reach 63 = .ok (.getfield 15, 3) := D_180 yB_cX2_reach rfl rfl rfl
theorem dX2_reach_66 : decode cX2_reach 66 = .ok (.aload_n 0, 1) := D_42 yB_cX2_reach rfl rfl
theorem dX2_reach_67 : decode cX2_reach 67 = .ok (.getfield 34, 3) := D_180 yB_cX2_reach rfl rfl rfl
theorem dX2_reach_70 : decode cX2_reach 70 = .ok (.iload 4, 2) := D_21 yB_cX2_reach rfl rfl rfl
theorem dX2_reach_72 : decode cX2_reach 72 = .ok (.iastore, 1) := D_79 yB_cX2_reach rfl rfl
theorem dX2_reach_73 : decode cX2_reach 73 = .ok (.aload_n 0, 1) := D_42 yB_cX2_reach rfl rfl
theorem dX2_reach_74 : decode cX2_reach 74 = .ok (.dup, 1) := D_89 yB_cX2_reach rfl rfl
theorem dX2_reach_75 : decode cX2_reach 75 = .ok (.getfield 34, 3) := D_180 yB_cX2_reach rfl rfl rfl
theorem dX2_reach_78 : decode cX2_reach 78 = .ok (.iconst 1, 1) := D_4 yB_cX2_reach rfl rfl
theorem dX2_reach_79 : decode cX2_reach 79 = .ok (.iadd, 1) := D_96 yB_cX2_reach rfl rfl
theorem dX2_reach_80 : decode cX2_reach 80 = .ok (.putfield 34, 3) := D_181 yB_cX2_reach rfl rfl rfl
theorem dX2_reach_83 : decode cX2_reach 83 = .ok (.return_, 1) := D_177 yB_cX2_reach rfl rfl
set_option maxHeartbeats 4000000 in
set_option maxRecDepth 100000 in
theorem c_X2_reach (l : Launch) (D : va_G) (cA : Nat → ClassId) (ad : Nat → Nat) (o : Int64) (σ : Mem) (Q : List (Nat × Nat)) (br : Nat) (ln : Nat) (d : Nat) (hR : RepC Q σ) (hbr : br < 7) (hln : ln < 128) (hd : d ≤ Q.length) (sz : Nat) : Met l yX2_reach (WY yX2_reach cX2_reach 5 none) (RM 0) (va_Pc [.ref (ad 88), .int (nI br), .int (nI ln), .int (nI d)] (PW D cA ad o σ sz)) (va_Qv (fun σ9 => RepC (pushQ Q (br * 128 + ln) d) σ9 ∧ FrP σ σ9) (QW D cA ad o) (FA ad sz)) 0 0 (FA ad sz) := by
  refine ct_of (own := RX2) (k := 0) (Qf := va_Qv (fun σ9 => RepC (pushQ Q (br * 128 + ln) d) σ9 ∧ FrP σ σ9) (QW D cA ad o)) rfl (by decide) (Nat.le_of_ble_eq_true rfl) (fun p e s m below meth c ls C0 X hr hlk hP hl => ?_) sz
  have hS : va_S (FA ad s.heap.size) s.heap s.heap [] := va_S.rf
  have hl : lv_has ls 5 [(0, .ref (ad 88)), (1, .int (nI br)), (2, .int (nI ln)), (3, .int (nI d))] := hl
  obtain ⟨hx, hb, hml, hown, hts⟩ := id C0
  refine lv_iload_n hx hb dX2_reach_0 rfl (lv_at hl 1 rfl) ?_
  refine lv_sipush (v := 128) hx hb dX2_reach_1 (by decide) ?_
  refine lv_imul hx hb dX2_reach_4 ?_
  refine lv_topE (y := (nI (br * 128))) (pk_mul br 128) ?_
  refine lv_iload_n hx hb dX2_reach_5 rfl (lv_at hl 2 rfl) ?_
  refine lv_iadd hx hb dX2_reach_6 ?_
  refine lv_topE (y := (nI (br * 128 + ln))) (nI_add _ _) ?_
  refine lv_istore (lv' := [(4, .int (nI (br * 128 + ln))), (0, .ref (ad 88)), (1, .int (nI br)), (2, .int (nI ln)), (3, .int (nI d))]) hx hb dX2_reach_7 hl (by decide) rfl (fun ls hl => ?_)
  refine lv_iload_n hx hb dX2_reach_9 rfl (lv_at hl 2 rfl) ?_
  refine lv_if_lt (tgt := 30) hx hb dX2_reach_10 (by decide) (fun c_1 => absurd c_1 (nI_pos (by omega))) (fun c_1 => ?_)
  refine lv_iload_n hx hb dX2_reach_13 rfl (lv_at hl 2 rfl) ?_
  refine lv_bipush (v := 7) hx hb dX2_reach_14 (by decide) ?_
  refine lv_icmp_ge (tgt := 30) hx hb dX2_reach_16 (by decide) (fun c_2 => absurd c_2 (nI_ge (a := br) (b := 7) hbr (by decide))) (fun c_2 => ?_)
  refine lv_iload_n hx hb dX2_reach_19 rfl (lv_at hl 3 rfl) ?_
  refine lv_if_lt (tgt := 30) hx hb dX2_reach_20 (by decide) (fun c_3 => absurd c_3 (nI_pos (by omega))) (fun c_3 => ?_)
  refine lv_iload_n hx hb dX2_reach_23 rfl (lv_at hl 3 rfl) ?_
  refine lv_sipush (v := 128) hx hb dX2_reach_24 (by decide) ?_
  refine lv_icmp_lt (tgt := 31) hx hb dX2_reach_27 (by decide) (fun c_4 => ?_) (fun c_4 => absurd (nI_lt (a := ln) (b := 128) hln (by decide)) c_4)
  refine lv_aload_n hx hb dX2_reach_31 rfl (lv_at hl 1 rfl) ?_
  refine gf_X2_11 C0 X hP 88 (q := 89) ⟨by decide, rfl⟩ (by omega) rfl dX2_reach_32 ?_
  refine lv_iload hx hb dX2_reach_35 (lv_at hl 0 rfl) ?_
  refine r_ialdN C0 X hP 89 (k := (br * 128 + ln)) ⟨by decide, rfl⟩ rfl (by omega) dX2_reach_37 ?_
  refine lv_bipush (v := (-4)) hx hb dX2_reach_38 (by decide) ?_
  refine lv_icmp_ne (tgt := 53) hx hb dX2_reach_40 (by decide) (fun c_5 => ?_) (fun c_5 => ?_)
  · exact r_vret C0 X hP hS hr hlk dX2_reach_53 ⟨by rw [pushQ, if_pos (Classical.byContradiction (fun q => c_5 ((RepC_iff hR (by omega)).mpr q)))]; exact hR, FrP_refl σ⟩
  · refine lv_aload_n hx hb dX2_reach_43 rfl (lv_at hl 1 rfl) ?_
    refine gf_X2_34 C0 X hP 88 ⟨by decide, rfl⟩ dX2_reach_44 ?_
    refine lv_topE (y := (nI Q.length)) hR.1 ?_
    refine lv_sipush (v := 896) hx hb dX2_reach_47 (by decide) ?_
    refine lv_icmp_lt (tgt := 54) hx hb dX2_reach_50 (by decide) (fun c_6 => ?_) (fun c_6 => absurd (nI_lt (a := Q.length) (b := 896) (RepC_new hR (by omega) ((RepC_iff hR (by omega)).mp c_5)) (by decide)) c_6)
    have hnq := (RepC_iff hR (c := br * 128 + ln) (by omega)).mp c_5
    refine lv_aload_n hx hb dX2_reach_54 rfl (lv_at hl 1 rfl) ?_
    refine gf_X2_11 C0 X hP 88 (q := 89) ⟨by decide, rfl⟩ (by omega) rfl dX2_reach_55 ?_
    refine lv_iload hx hb dX2_reach_58 (lv_at hl 0 rfl) ?_
    refine lv_iload_n hx hb dX2_reach_60 rfl (lv_at hl 4 rfl) ?_
    refine r_iastN C0 X hP hS 89 (k := (br * 128 + ln)) ⟨by decide, rfl⟩ rfl (by omega) dX2_reach_61 (fun H locs hP hS => ?_)
    refine lv_aload_n hx hb dX2_reach_62 rfl (lv_at hl 1 rfl) ?_
    refine gf_X2_15 C0 X hP 88 (q := 90) ⟨by decide, rfl⟩ (by omega) rfl dX2_reach_63 ?_
    refine lv_aload_n hx hb dX2_reach_66 rfl (lv_at hl 1 rfl) ?_
    refine gf_X2_34 C0 X hP 88 ⟨by decide, rfl⟩ dX2_reach_67 ?_
    refine lv_topE (y := (nI Q.length)) (by rw [stm_ne _ _ _ (by decide)]; exact hR.1) ?_
    refine lv_iload hx hb dX2_reach_70 (lv_at hl 0 rfl) ?_
    refine r_iastN C0 X hP hS 90 (k := Q.length) ⟨by decide, rfl⟩ rfl (RepC_new hR (by omega) hnq) dX2_reach_72 (fun H locs hP hS => ?_)
    refine lv_aload_n hx hb dX2_reach_73 rfl (lv_at hl 1 rfl) ?_
    refine lv_dup hx hb dX2_reach_74 rfl ?_
    refine gf_X2_34 C0 X hP 88 ⟨by decide, rfl⟩ dX2_reach_75 ?_
    refine lv_topE (y := (nI Q.length)) (by rw [stm_ne _ _ _ (by decide), stm_ne _ _ _ (by decide)]; exact hR.1) ?_
    refine lv_iconst (v := 1) hx hb dX2_reach_78 (by decide) ?_
    refine lv_iadd hx hb dX2_reach_79 ?_
    refine lv_topE (y := (nI (Q.length + 1))) (nI_1 _) ?_
    refine pf_X2_34 C0 X hP hS 88 ⟨by decide, rfl⟩ dX2_reach_80 (fun H locs hP hS => ?_)
    exact r_vret C0 X hP hS hr hlk dX2_reach_83 ⟨by rw [pushQ, if_neg hnq]; exact RepC_push hR (by omega) hnq hd, FrP_push _ _ _ _ _ _⟩
def mm1 (z br ln : Nat) : List Nat := if 0 < br ∧ Nat.log2 ln - br < z then [(br - 1) * 128 + ln] else []
def mm2 (x br ln : Nat) : List Nat := if 0 < Nat.log2 ln - br ∧ br < x then [(br + 1) * 128 + ln] else []
def mm3 (a b q br ln : Nat) : List Nat := if a + b - Nat.log2 ln < q ∧ 0 < br then [(br - 1) * 128 + woN ln (Nat.log2 ln - br)] else []
def mm4 (a b q br ln : Nat) : List Nat := if a + b - Nat.log2 ln < q ∧ 0 < Nat.log2 ln - br then [br * 128 + woN ln (Nat.log2 ln - br - 1)] else []
def cb1 (x br ln t : Nat) : List Nat := if br < x then [(br + 1) * 128 + lgN ln (Nat.log2 ln - br) t] else []
def cb2 (z br ln t : Nat) : List Nat := if Nat.log2 ln - br < z then [br * 128 + lgN ln (Nat.log2 ln - br) t] else []
def mm5 (a x z br ln : Nat) : List Nat := if pcN ln - 1 < a then cb1 x br ln 1 ++ cb2 z br ln 1 else []
def mm6 (b x z br ln : Nat) : List Nat := if Nat.log2 ln - (pcN ln - 1) < b then cb1 x br ln 0 ++ cb2 z br ln 0 else []
def nbrL (a b q x z br ln : Nat) : List Nat := mm1 z br ln ++ mm2 x br ln ++ mm3 a b q br ln ++ mm4 a b q br ln ++ mm5 a x z br ln ++ mm6 b x z br ln
theorem pushQ_len (Q : List (Nat × Nat)) (c d : Nat) : Q.length ≤ (pushQ Q c d).length := by
  unfold pushQ
  split
  · exact Nat.le_refl _
  · simp
theorem foldQ_len (cs : List Nat) (d : Nat) : ∀ Q : List (Nat × Nat), Q.length ≤ (foldQ Q cs d).length := by
  induction cs with
  | nil => intro Q; exact Nat.le_refl _
  | cons c r ih => intro Q; exact Nat.le_trans (pushQ_len Q c d) (ih (pushQ Q c d))
theorem nI_nlt_of {a b : Nat} (h : nI b ≤ nI a) (hb : b < 2 ^ 31) : ¬ a < b := fun q => nI_ge q hb h
theorem nI_lt_of {a b : Nat} (h : ¬ nI b ≤ nI a) (ha : a < 2 ^ 31) : a < b := nI_ltof h ha
def bB_cX2_comeBack : Nat := 0xb12500b6041506151b2a0c00a21f00b42a05152500b60415061560041b2a0e00a21c00b42a1b0636807e6404780515041c780515801d78047a05151c0536641b2d00b81c
theorem yB_cX2_comeBack : BYS cX2_comeBack 68 bB_cX2_comeBack := BYS_of (by decide +kernel)
theorem dX2_comeBack_0 : decode cX2_comeBack 0 = .ok (.iload_n 2, 1) := D_28 yB_cX2_comeBack rfl rfl
theorem dX2_comeBack_1 : decode cX2_comeBack 1 = .ok (.invokestatic 45, 3) := D_184 yB_cX2_comeBack rfl rfl rfl
theorem dX2_comeBack_4 : decode cX2_comeBack 4 = .ok (.iload_n 1, 1) := D_27 yB_cX2_comeBack rfl rfl
theorem dX2_comeBack_5 : decode cX2_comeBack 5 = .ok (.isub, 1) := D_100 yB_cX2_comeBack rfl rfl
theorem dX2_comeBack_6 : decode cX2_comeBack 6 = .ok (.istore 5, 2) := D_54 yB_cX2_comeBack rfl rfl rfl
theorem dX2_comeBack_8 : decode cX2_comeBack 8 = .ok (.iload_n 2, 1) := D_28 yB_cX2_comeBack rfl rfl
theorem dX2_comeBack_9 : decode cX2_comeBack 9 = .ok (.iload 5, 2) := D_21 yB_cX2_comeBack rfl rfl rfl
theorem dX2_comeBack_11 : decode cX2_comeBack 11 = .ok (.ishr, 1) := D_122 yB_cX2_comeBack rfl rfl
theorem dX2_comeBack_12 : decode cX2_comeBack 12 = .ok (.iconst 1, 1) := D_4 yB_cX2_comeBack rfl rfl
theorem dX2_comeBack_13 : decode cX2_comeBack 13 = .ok (.ishl, 1) := D_120 yB_cX2_comeBack rfl rfl
theorem dX2_comeBack_14 : decode cX2_comeBack 14 = .ok (.iload_n 3, 1) := D_29 yB_cX2_comeBack rfl rfl
theorem dX2_comeBack_15 : decode cX2_comeBack 15 = .ok (.ior, 1) := D_128 yB_cX2_comeBack rfl rfl
theorem dX2_comeBack_16 : decode cX2_comeBack 16 = .ok (.iload 5, 2) := D_21 yB_cX2_comeBack rfl rfl rfl
theorem dX2_comeBack_18 : decode cX2_comeBack 18 = .ok (.ishl, 1) := D_120 yB_cX2_comeBack rfl rfl
theorem dX2_comeBack_19 : decode cX2_comeBack 19 = .ok (.iload_n 2, 1) := D_28 yB_cX2_comeBack rfl rfl
theorem dX2_comeBack_20 : decode cX2_comeBack 20 = .ok (.iconst 1, 1) := D_4 yB_cX2_comeBack rfl rfl
theorem dX2_comeBack_21 : decode cX2_comeBack 21 = .ok (.iload 5, 2) := D_21 yB_cX2_comeBack rfl rfl rfl
theorem dX2_comeBack_23 : decode cX2_comeBack 23 = .ok (.ishl, 1) := D_120 yB_cX2_comeBack rfl rfl
theorem dX2_comeBack_24 : decode cX2_comeBack 24 = .ok (.iconst 1, 1) := D_4 yB_cX2_comeBack rfl rfl
theorem dX2_comeBack_25 : decode cX2_comeBack 25 = .ok (.isub, 1) := D_100 yB_cX2_comeBack rfl rfl
theorem dX2_comeBack_26 : decode cX2_comeBack 26 = .ok (.iand, 1) := D_126 yB_cX2_comeBack rfl rfl
theorem dX2_comeBack_27 : decode cX2_comeBack 27 = .ok (.ior, 1) := D_128 yB_cX2_comeBack rfl rfl
theorem dX2_comeBack_28 : decode cX2_comeBack 28 = .ok (.istore 6, 2) := D_54 yB_cX2_comeBack rfl rfl rfl
theorem dX2_comeBack_30 : decode cX2_comeBack 30 = .ok (.iload_n 1, 1) := D_27 yB_cX2_comeBack rfl rfl
theorem dX2_comeBack_31 : decode cX2_comeBack 31 = .ok (.aload_n 0, 1) := D_42 yB_cX2_comeBack rfl rfl
theorem dX2_comeBack_32 : decode cX2_comeBack 32 = .ok (.getfield 28, 3) := D_180 yB_cX2_comeBack rfl rfl rfl
theorem dX2_comeBack_35 : decode cX2_comeBack 35 = .ok (.if_icmp .ge 14, 3) := D_162 yB_cX2_comeBack rfl rfl (sg_p (m := 32768) (N := 14) rfl rfl rfl)
theorem dX2_comeBack_38 : decode cX2_comeBack 38 = .ok (.aload_n 0, 1) := D_42 yB_cX2_comeBack rfl rfl
theorem dX2_comeBack_39 : decode cX2_comeBack 39 = .ok (.iload_n 1, 1) := D_27 yB_cX2_comeBack rfl rfl
theorem dX2_comeBack_40 : decode cX2_comeBack 40 = .ok (.iconst 1, 1) := D_4 yB_cX2_comeBack rfl rfl
theorem dX2_comeBack_41 : decode cX2_comeBack 41 = .ok (.iadd, 1) := D_96 yB_cX2_comeBack rfl rfl
theorem dX2_comeBack_42 : decode cX2_comeBack 42 = .ok (.iload 6, 2) := D_21 yB_cX2_comeBack rfl rfl rfl
theorem dX2_comeBack_44 : decode cX2_comeBack 44 = .ok (.iload 4, 2) := D_21 yB_cX2_comeBack rfl rfl rfl
theorem dX2_comeBack_46 : decode cX2_comeBack 46 = .ok (.invokevirtual 37, 3) := D_182 yB_cX2_comeBack rfl rfl rfl
theorem dX2_comeBack_49 : decode cX2_comeBack 49 = .ok (.iload 5, 2) := D_21 yB_cX2_comeBack rfl rfl rfl
theorem dX2_comeBack_51 : decode cX2_comeBack 51 = .ok (.aload_n 0, 1) := D_42 yB_cX2_comeBack rfl rfl
theorem dX2_comeBack_52 : decode cX2_comeBack 52 = .ok (.getfield 31, 3) := D_180 yB_cX2_comeBack rfl rfl rfl
theorem dX2_comeBack_55 : decode cX2_comeBack 55 = .ok (.if_icmp .ge 12, 3) := D_162 yB_cX2_comeBack rfl rfl (sg_p (m := 32768) (N := 12) rfl rfl rfl)
theorem dX2_comeBack_58 : decode cX2_comeBack 58 = .ok (.aload_n 0, 1) := D_42 yB_cX2_comeBack rfl rfl
theorem dX2_comeBack_59 : decode cX2_comeBack 59 = .ok (.iload_n 1, 1) := D_27 yB_cX2_comeBack rfl rfl
theorem dX2_comeBack_60 : decode cX2_comeBack 60 = .ok (.iload 6, 2) := D_21 yB_cX2_comeBack rfl rfl rfl
theorem dX2_comeBack_62 : decode cX2_comeBack 62 = .ok (.iload 4, 2) := D_21 yB_cX2_comeBack rfl rfl rfl
theorem dX2_comeBack_64 : decode cX2_comeBack 64 = .ok (.invokevirtual 37, 3) := D_182 yB_cX2_comeBack rfl rfl rfl
theorem dX2_comeBack_67 : decode cX2_comeBack 67 = .ok (.return_, 1) := D_177 yB_cX2_comeBack rfl rfl
set_option maxHeartbeats 4000000 in
set_option maxRecDepth 100000 in
theorem c_X2_comeBack (l : Launch) (D : va_G) (cA : Nat → ClassId) (ad : Nat → Nat) (o : Int64) (σ : Mem) (Q : List (Nat × Nat)) (br : Nat) (ln : Nat) (t : Nat) (d : Nat) (x : Nat) (z : Nat) (hR : RepC Q σ) (hx6 : σ 88 6 = nI x) (hz7 : σ 88 7 = nI z) (hbl : br ≤ Nat.log2 ln) (hln : ln < 128) (hl1 : 1 ≤ ln) (h6 : Nat.log2 ln < 6) (ht : t < 2) (hd : d ≤ Q.length) (hxb : x ≤ 6) (hz : z ≤ 6) (sz : Nat) : Met l yX2_comeBack (WY yX2_comeBack cX2_comeBack 7 none) (RM 1) (va_Pc [.ref (ad 88), .int (nI br), .int (nI ln), .int (nI t), .int (nI d)] (PW D cA ad o σ sz)) (va_Qv (fun σ9 => RepC (foldQ Q (cb1 x br ln t ++ cb2 z br ln t) d) σ9 ∧ FrP σ σ9) (QW D cA ad o) (FA ad sz)) 0 0 (FA ad sz) := by
  refine ct_of (own := RX2) (k := 1) (Qf := va_Qv (fun σ9 => RepC (foldQ Q (cb1 x br ln t ++ cb2 z br ln t) d) σ9 ∧ FrP σ σ9) (QW D cA ad o)) rfl (by decide) (Nat.le_of_ble_eq_true rfl) (fun p e s m below meth c ls C0 X hr hlk hP hl => ?_) sz
  have hS : va_S (FA ad s.heap.size) s.heap s.heap [] := va_S.rf
  have hl : lv_has ls 7 [(0, .ref (ad 88)), (1, .int (nI br)), (2, .int (nI ln)), (3, .int (nI t)), (4, .int (nI d))] := hl
  obtain ⟨hx, hb, hml, hown, hts⟩ := id C0
  have hL := ln_f3 ln hln (Nat.log2 ln - br) (by omega) t ht ⟨hl1, by omega, h6⟩
  refine lv_iload_n hx hb dX2_comeBack_0 rfl (lv_at hl 2 rfl) ?_
  refine r_ci X hS (r_runS (As := [.int (nI ln)]) (rest := []) C0 X hP L_X2_45 (fun sz => c_X2_lengthOf l D cA ad o σ ln hln sz) ⟨Nat.le_of_ble_eq_true rfl, Nat.le_of_ble_eq_true rfl⟩ rfl hl.1 rfl (Nat.le_of_ble_eq_true rfl) dX2_comeBack_1 ⟨Nat.zero_le _, Nat.zero_le _⟩) (fun r σ9 H locs hw hP hS => ?_)
  rw [hw.2] at hP
  rw [hw.1]
  refine lv_iload_n hx hb dX2_comeBack_4 rfl (lv_at hl 1 rfl) ?_
  refine lv_isub hx hb dX2_comeBack_5 ?_
  refine lv_topE (y := (nI (Nat.log2 ln - br))) (pk_sub hbl) ?_
  refine lv_istore (lv' := [(5, .int (nI (Nat.log2 ln - br))), (0, .ref (ad 88)), (1, .int (nI br)), (2, .int (nI ln)), (3, .int (nI t)), (4, .int (nI d))]) hx hb dX2_comeBack_6 hl (by decide) rfl (fun ls hl => ?_)
  refine lv_iload_n hx hb dX2_comeBack_8 rfl (lv_at hl 3 rfl) ?_
  refine lv_iload hx hb dX2_comeBack_9 (lv_at hl 0 rfl) ?_
  refine lv_ishr hx hb dX2_comeBack_11 ?_
  refine lv_iconst (v := 1) hx hb dX2_comeBack_12 (by decide) ?_
  refine lv_ishl hx hb dX2_comeBack_13 ?_
  refine lv_iload_n hx hb dX2_comeBack_14 rfl (lv_at hl 4 rfl) ?_
  refine lv_ior hx hb dX2_comeBack_15 ?_
  refine lv_iload hx hb dX2_comeBack_16 (lv_at hl 0 rfl) ?_
  refine lv_ishl hx hb dX2_comeBack_18 ?_
  refine lv_iload_n hx hb dX2_comeBack_19 rfl (lv_at hl 3 rfl) ?_
  refine lv_iconst (v := 1) hx hb dX2_comeBack_20 (by decide) ?_
  refine lv_iload hx hb dX2_comeBack_21 (lv_at hl 0 rfl) ?_
  refine lv_ishl hx hb dX2_comeBack_23 ?_
  refine lv_iconst (v := 1) hx hb dX2_comeBack_24 (by decide) ?_
  refine lv_isub hx hb dX2_comeBack_25 ?_
  refine lv_iand hx hb dX2_comeBack_26 ?_
  refine lv_ior hx hb dX2_comeBack_27 ?_
  refine lv_topE (y := (nI (lgN ln (Nat.log2 ln - br) t))) (lg_ok ln hln _ (by omega) t ht) ?_
  refine lv_istore (lv' := [(6, .int (nI (lgN ln (Nat.log2 ln - br) t))), (5, .int (nI (Nat.log2 ln - br))), (0, .ref (ad 88)), (1, .int (nI br)), (2, .int (nI ln)), (3, .int (nI t)), (4, .int (nI d))]) hx hb dX2_comeBack_28 hl (by decide) rfl (fun ls hl => ?_)
  have jp_1 : ∀ (μ : Mem) (H : Heap) (locs : List Loc) (ls : Array Slot), RepC (foldQ Q (cb1 x br ln t) d) μ → FrP σ μ → WP D cA ad o μ H → va_S (FA ad s.heap.size) s.heap H locs → lv_has ls 7 [(0, .ref (ad 88)), (1, .int (nI br)), (2, .int (nI ln)), (4, .int (nI d)), (5, .int (nI (Nat.log2 ln - br))), (6, .int (nI (lgN ln (Nat.log2 ln - br) t)))] → W p l e (RM 1) s m ([.ref (ad 88), .int (nI br), .int (nI ln), .int (nI t), .int (nI d)] : List Value).toArray below meth c H locs 0 0 (MQ below (va_Qv (fun σ9 => RepC (foldQ Q (cb1 x br ln t ++ cb2 z br ln t) d) σ9 ∧ FrP σ σ9) (QW D cA ad o) (FA ad s.heap.size)) ([.ref (ad 88), .int (nI br), .int (nI ln), .int (nI t), .int (nI d)] : List Value).toArray s 0 0 (FA ad s.heap.size)) (F0 m 49 ls []) := by
    intro μ H locs ls hR1 hF1 hP hS hl
    refine lv_iload hx hb dX2_comeBack_49 (lv_at hl 4 rfl) ?_
    refine lv_aload_n hx hb dX2_comeBack_51 rfl (lv_at hl 0 rfl) ?_
    refine gf_X2_31 C0 X hP 88 ⟨by decide, rfl⟩ dX2_comeBack_52 ?_
    refine lv_topE (y := (nI z)) ((hF1.2 7 (by decide)).trans hz7) ?_
    refine lv_icmp_ge (tgt := 67) hx hb dX2_comeBack_55 (by decide) (fun c_2 => ?_) (fun c_2 => ?_)
    · exact r_vret C0 X hP hS hr hlk dX2_comeBack_67 ⟨by rw [foldQ_app, cb2, if_neg (nI_nlt_of c_2 (by omega))]; exact hR1, hF1⟩
    · refine lv_aload_n hx hb dX2_comeBack_58 rfl (lv_at hl 0 rfl) ?_
      refine lv_iload_n hx hb dX2_comeBack_59 rfl (lv_at hl 1 rfl) ?_
      refine lv_iload hx hb dX2_comeBack_60 (lv_at hl 5 rfl) ?_
      refine lv_iload hx hb dX2_comeBack_62 (lv_at hl 3 rfl) ?_
      refine r_cv X hS (r_runV (As := [.int (nI br), .int (nI (lgN ln (Nat.log2 ln - br) t)), .int (nI d)]) (rest := []) C0 X hP L_X2_37 (fun sz => c_X2_reach l D cA ad o μ (foldQ Q (cb1 x br ln t) d) br (lgN ln (Nat.log2 ln - br) t) d hR1 (by omega) hL.1 (Nat.le_trans hd (foldQ_len _ _ _)) sz) (show 88 < 106 ∧ kd 88 = (2, 8) from ⟨by decide, rfl⟩).1 (show 88 < 106 ∧ kd 88 = (2, 8) from ⟨by decide, rfl⟩).2 (by decide) rfl ⟨Nat.le_of_ble_eq_true rfl, Nat.le_of_ble_eq_true rfl⟩ rfl hl.1 rfl (Nat.le_of_ble_eq_true rfl) dX2_comeBack_64 ⟨Nat.zero_le _, Nat.zero_le _⟩) (fun σw_3 H locs hw_3 hP hS => ?_)
      exact r_vret C0 X hP hS hr hlk dX2_comeBack_67 ⟨by rw [foldQ_app, cb2, if_pos (nI_lt_of c_2 (by omega)), foldQ_one]; exact hw_3.1, FrP_trans hF1 hw_3.2⟩
  refine lv_iload_n hx hb dX2_comeBack_30 rfl (lv_at hl 3 rfl) ?_
  refine lv_aload_n hx hb dX2_comeBack_31 rfl (lv_at hl 2 rfl) ?_
  refine gf_X2_28 C0 X hP 88 ⟨by decide, rfl⟩ dX2_comeBack_32 ?_
  refine lv_topE (y := (nI x)) hx6 ?_
  refine lv_icmp_ge (tgt := 49) hx hb dX2_comeBack_35 (by decide) (fun c_4 => ?_) (fun c_4 => ?_)
  · exact jp_1 σ _ _ ls (by rw [cb1, if_neg (nI_nlt_of c_4 (by omega))]; exact hR) (FrP_refl σ) hP hS (lv_sub hl [2, 3, 4, 6, 1, 0] rfl)
  · refine lv_aload_n hx hb dX2_comeBack_38 rfl (lv_at hl 2 rfl) ?_
    refine lv_iload_n hx hb dX2_comeBack_39 rfl (lv_at hl 3 rfl) ?_
    refine lv_iconst (v := 1) hx hb dX2_comeBack_40 (by decide) ?_
    refine lv_iadd hx hb dX2_comeBack_41 ?_
    refine lv_topE (y := (nI (br + 1))) (nI_1 _) ?_
    refine lv_iload hx hb dX2_comeBack_42 (lv_at hl 0 rfl) ?_
    refine lv_iload hx hb dX2_comeBack_44 (lv_at hl 6 rfl) ?_
    refine r_cv X hS (r_runV (As := [.int (nI (br + 1)), .int (nI (lgN ln (Nat.log2 ln - br) t)), .int (nI d)]) (rest := []) C0 X hP L_X2_37 (fun sz => c_X2_reach l D cA ad o σ Q (br + 1) (lgN ln (Nat.log2 ln - br) t) d hR (by have := nI_lt_of c_4 (by omega); omega) hL.1 hd sz) (show 88 < 106 ∧ kd 88 = (2, 8) from ⟨by decide, rfl⟩).1 (show 88 < 106 ∧ kd 88 = (2, 8) from ⟨by decide, rfl⟩).2 (by decide) rfl ⟨Nat.le_of_ble_eq_true rfl, Nat.le_of_ble_eq_true rfl⟩ rfl hl.1 rfl (Nat.le_of_ble_eq_true rfl) dX2_comeBack_46 ⟨Nat.zero_le _, Nat.zero_le _⟩) (fun σw_5 H locs hw_5 hP hS => ?_)
    exact jp_1 σw_5 _ _ ls (by rw [cb1, if_pos (nI_lt_of c_4 (by omega)), foldQ_one]; exact hw_5.1) hw_5.2 hP hS (lv_sub hl [2, 3, 4, 6, 1, 0] rfl)
