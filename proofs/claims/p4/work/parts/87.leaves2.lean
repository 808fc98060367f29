/-! the reference's search: leaves -/
theorem mo_sh : ∀ v, v < 128 → ∀ k, k < 8 → nI (v / 2 ^ k) >>> ((1 : Int32) &&& 31) = nI (v / 2 ^ (k + 1)) := by decide +kernel
theorem mo_le : ∀ v, v < 128 → ∀ k, k < 8 → (nI (v / 2 ^ k) ≤ 1 ↔ Nat.log2 v ≤ k) := by decide +kernel
theorem enc_lt {a b c : Nat} (ha : a ≤ 3) (hb : b ≤ 3) (h : vcd a b c) : enc a b c < 2 ^ 18 := by
  have k := enc_b ha hb h
  unfold enc
  omega
def bB_cX8_manyOf : Nat := 0xac1bf4ffa73d7a041c0101840d00a4041c3d1a3c03
theorem yB_cX8_manyOf : BYS cX8_manyOf 21 bB_cX8_manyOf := BYS_of (by decide +kernel)
theorem dX8_manyOf_0 : decode cX8_manyOf 0 = .ok (.iconst 0, 1) := D_3 yB_cX8_manyOf rfl rfl
theorem dX8_manyOf_1 : decode cX8_manyOf 1 = .ok (.istore_n 1, 1) := D_60 yB_cX8_manyOf rfl rfl
theorem dX8_manyOf_2 : decode cX8_manyOf 2 = .ok (.iload_n 0, 1) := D_26 yB_cX8_manyOf rfl rfl
theorem dX8_manyOf_3 : decode cX8_manyOf 3 = .ok (.istore_n 2, 1) := D_61 yB_cX8_manyOf rfl rfl
theorem dX8_manyOf_4 : decode cX8_manyOf 4 = .ok (.iload_n 2, 1) := D_28 yB_cX8_manyOf rfl rfl
theorem dX8_manyOf_5 : decode cX8_manyOf 5 = .ok (.iconst 1, 1) := D_4 yB_cX8_manyOf rfl rfl
theorem dX8_manyOf_6 : decode cX8_manyOf 6 = .ok (.if_icmp .le 13, 3) := D_164 yB_cX8_manyOf rfl rfl (sg_p (m := 32768) (N := 13) rfl rfl rfl)
theorem dX8_manyOf_9 : decode cX8_manyOf 9 = .ok (.iinc 1 1, 3) := D_132 yB_cX8_manyOf rfl rfl rfl (sg_p (m := 128) (N := 1) rfl rfl rfl)
theorem dX8_manyOf_12 : decode cX8_manyOf 12 = .ok (.iload_n 2, 1) := D_28 yB_cX8_manyOf rfl rfl
theorem dX8_manyOf_13 : decode cX8_manyOf 13 = .ok (.iconst 1, 1) := D_4 yB_cX8_manyOf rfl rfl
theorem dX8_manyOf_14 : decode cX8_manyOf 14 = .ok (.ishr, 1) := D_122 yB_cX8_manyOf rfl rfl
theorem dX8_manyOf_15 : decode cX8_manyOf 15 = .ok (.istore_n 2, 1) := D_61 yB_cX8_manyOf rfl rfl
theorem dX8_manyOf_16 : decode cX8_manyOf 16 = .ok (.goto (-12), 3) := D_167 yB_cX8_manyOf rfl rfl (sg_n (m := 32768) (N := 12) rfl rfl rfl)
theorem dX8_manyOf_19 : decode cX8_manyOf 19 = .ok (.iload_n 1, 1) := D_27 yB_cX8_manyOf rfl rfl
theorem dX8_manyOf_20 : decode cX8_manyOf 20 = .ok (.ireturn, 1) := D_172 yB_cX8_manyOf rfl rfl
set_option maxHeartbeats 4000000 in
set_option maxRecDepth 100000 in
theorem c_X8_manyOf (l : Launch) (D : va_G) (cA : Nat → ClassId) (ad : Nat → Nat) (o : Int64) (σ : Mem) (v : Nat) (hv : v < 128) (sz : Nat) : Met l yX8_manyOf (WY yX8_manyOf cX8_manyOf 3 (some .int)) (RM 0) (va_Pc [.int (nI v)] (PW D cA ad o σ sz)) (va_Qi (fun r σ9 => r = nI (Nat.log2 v) ∧ σ9 = σ) (QW D cA ad o) (FA ad sz)) 0 0 (FA ad sz) := by
  refine ct_of (own := RX8) (k := 0) (Qf := va_Qi (fun r σ9 => r = nI (Nat.log2 v) ∧ σ9 = σ) (QW D cA ad o)) rfl (by decide) (Nat.le_of_ble_eq_true rfl) (fun p e s m below meth c ls C0 X hr hlk hP hl => ?_) sz
  have hS : va_S (FA ad s.heap.size) s.heap s.heap [] := va_S.rf
  have hl : lv_has ls 3 [(0, .int (nI v))] := hl
  obtain ⟨hx, hb, hml, hown, hts⟩ := id C0
  have h7 := ln_lt v hv
  refine lv_iconst (v := 0) hx hb dX8_manyOf_0 (by decide) ?_
  refine lv_istore_n (lv' := [(1, .int 0), (0, .int (nI v))]) hx hb dX8_manyOf_1 rfl hl (by decide) rfl (fun ls hl => ?_)
  refine lv_iload_n hx hb dX8_manyOf_2 rfl (lv_at hl 1 rfl) ?_
  refine lv_istore_n (lv' := [(2, .int (nI v)), (1, .int 0), (0, .int (nI v))]) hx hb dX8_manyOf_3 rfl hl (by decide) rfl (fun ls hl => ?_)
  have lp_1 : ∀ (nn : Nat) (k : Nat) (H : Heap) (locs : List Loc) (ls : Array Slot), k ≤ Nat.log2 v → WP D cA ad o σ H → va_S (FA ad s.heap.size) s.heap H locs → lv_has ls 3 [(1, .int (nI k)), (2, .int (nI (v / 2 ^ k)))] → (7 - k) < nn → W p l e (RM 0) s m ([.int (nI v)] : List Value).toArray below meth c H locs 0 0 (MQ below (va_Qi (fun r σ9 => r = nI (Nat.log2 v) ∧ σ9 = σ) (QW D cA ad o) (FA ad s.heap.size)) ([.int (nI v)] : List Value).toArray s 0 0 (FA ad s.heap.size)) (F0 m 4 ls []) := by
    intro nn
    induction nn with
    | zero => intro k H locs ls hk hP hS hl hn; exact absurd hn (Nat.not_lt_zero _)
    | succ nn ih =>
      intro k H locs ls hk hP hS hl hn
      refine lv_iload_n hx hb dX8_manyOf_4 rfl (lv_at hl 1 rfl) ?_
      refine lv_iconst (v := 1) hx hb dX8_manyOf_5 (by decide) ?_
      refine lv_icmp_le (tgt := 19) hx hb dX8_manyOf_6 (by decide) (fun c_2 => ?_) (fun c_2 => ?_)
      · refine lv_iload_n hx hb dX8_manyOf_19 rfl (lv_at hl 0 rfl) ?_
        exact r_iret C0 X hP hS hr hlk dX8_manyOf_20 ⟨by rw [Nat.le_antisymm hk ((mo_le v hv k (by omega)).mp c_2)], rfl⟩
      · refine lv_iinc (v := (nI (k + 1))) (lv' := [(1, .int (nI (k + 1))), (2, .int (nI (v / 2 ^ k)))]) hx hb dX8_manyOf_9 hl (k := 0) rfl (nI_1 _) (by decide) rfl (fun ls hl => ?_)
        refine lv_iload_n hx hb dX8_manyOf_12 rfl (lv_at hl 1 rfl) ?_
        refine lv_iconst (v := 1) hx hb dX8_manyOf_13 (by decide) ?_
        refine lv_ishr hx hb dX8_manyOf_14 ?_
        refine lv_topE (y := (nI (v / 2 ^ (k + 1)))) (mo_sh v hv k (by omega)) ?_
        refine lv_istore_n (lv' := [(2, .int (nI (v / 2 ^ (k + 1)))), (1, .int (nI (k + 1)))]) hx hb dX8_manyOf_15 rfl hl (by decide) rfl (fun ls hl => ?_)
        refine lv_goto (tgt := 4) hx hb dX8_manyOf_16 (by decide) ?_
        exact ih (k + 1) _ _ ls (by have h9 : ¬ Nat.log2 v ≤ k := (fun q => c_2 ((mo_le v hv k (by omega)).mpr q)); omega) hP hS (lv_sub hl [1, 0] rfl) (by omega)
  exact lp_1 ((7 - 0) + 1) 0 _ _ ls (Nat.zero_le _) hP hS (lv_sub hl [1, 0] (by simp only [Nat.pow_zero, Nat.div_one]; rfl)) (by omega)
def bB_cX8_reaches : Nat := 0xb10c01b560040c01b4592a4f06150c01b42a2e00b42a4f600405150c01b42a2b00b42ae7ffa7010784b10400a006152e07152e00b42a1600a20c01b42a071507360306366004156068071d681010601c688000111b
theorem yB_cX8_reaches : BYS cX8_reaches 85 bB_cX8_reaches := BYS_of (by decide +kernel)
theorem dX8_reaches_0 : decode cX8_reaches 0 = .ok (.iload_n 1, 1) := D_27 yB_cX8_reaches rfl rfl
theorem dX8_reaches_1 : decode cX8_reaches 1 = .ok (.sipush 128, 3) := D_17 yB_cX8_reaches rfl rfl (sg_p (m := 32768) (N := 128) rfl rfl rfl)
theorem dX8_reaches_4 : decode cX8_reaches 4 = .ok (.imul, 1) := D_104 yB_cX8_reaches rfl rfl
theorem dX8_reaches_5 : decode cX8_reaches 5 = .ok (.iload_n 2, 1) := D_28 yB_cX8_reaches rfl rfl
theorem dX8_reaches_6 : decode cX8_reaches 6 = .ok (.iadd, 1) := D_96 yB_cX8_reaches rfl rfl
theorem dX8_reaches_7 : decode cX8_reaches 7 = .ok (.bipush 16, 2) := D_16 yB_cX8_reaches rfl rfl (sg_p (m := 128) (N := 16) rfl rfl rfl)
theorem dX8_reaches_9 : decode cX8_reaches 9 = .ok (.imul, 1) := D_104 yB_cX8_reaches rfl rfl
theorem dX8_reaches_10 : decode cX8_reaches 10 = .ok (.iload_n 3, 1) := D_29 yB_cX8_reaches rfl rfl
theorem dX8_reaches_11 : decode cX8_reaches 11 = .ok (.iconst 4, 1) := D_7 yB_cX8_reaches rfl rfl
theorem dX8_reaches_12 : decode cX8_reaches 12 = .ok (.imul, 1) := D_104 yB_cX8_reaches rfl rfl
theorem dX8_reaches_13 : decode cX8_reaches 13 = .ok (.iadd, 1) := D_96 yB_cX8_reaches rfl rfl
theorem dX8_reaches_14 : decode cX8_reaches 14 = .ok (.iload 4, 2) := D_21 yB_cX8_reaches rfl rfl rfl
theorem dX8_reaches_16 : decode cX8_reaches 16 = .ok (.iadd, 1) := D_96 yB_cX8_reaches rfl rfl
theorem dX8_reaches_17 : decode cX8_reaches 17 = .ok (.istore 6, 2) := D_54 yB_cX8_reaches rfl rfl rfl
theorem dX8_reaches_19 : decode cX8_reaches 19 = .ok (.iconst 0, 1) := D_3 yB_cX8_reaches rfl rfl
theorem dX8_reaches_20 : decode cX8_reaches 20 = .ok (.istore 7, 2) := D_54 yB_cX8_reaches rfl rfl rfl
theorem dX8_reaches_22 : decode cX8_reaches 22 = .ok (.iload 7, 2) := D_21 yB_cX8_reaches rfl rfl rfl
theorem dX8_reaches_24 : decode cX8_reaches 24 = .ok (.aload_n 0, 1) := D_42 yB_cX8_reaches rfl rfl
theorem dX8_reaches_25 : decode cX8_reaches 25 = .ok (.getfield 268, 3) := D_180 yB_cX8_reaches rfl rfl rfl
theorem dX8_reaches_28 : decode cX8_reaches 28 = .ok (.if_icmp .ge 22, 3) := D_162 yB_cX8_reaches rfl rfl (sg_p (m := 32768) (N := 22) rfl rfl rfl)
theorem dX8_reaches_31 : decode cX8_reaches 31 = .ok (.aload_n 0, 1) := D_42 yB_cX8_reaches rfl rfl
theorem dX8_reaches_32 : decode cX8_reaches 32 = .ok (.getfield 46, 3) := D_180 yB_cX8_reaches rfl rfl rfl
theorem dX8_reaches_35 : decode cX8_reaches 35 = .ok (.iload 7, 2) := D_21 yB_cX8_reaches rfl rfl rfl
theorem dX8_reaches_37 : decode cX8_reaches 37 = .ok (.iaload, 1) := D_46 yB_cX8_reaches rfl rfl
theorem dX8_reaches_38 : decode cX8_reaches 38 = .ok (.iload 6, 2) := D_21 yB_cX8_reaches rfl rfl rfl
theorem dX8_reaches_40 : decode cX8_reaches 40 = .ok (.if_icmp .ne 4, 3) := D_160 yB_cX8_reaches rfl rfl (sg_p (m := 32768) (N := 4) rfl rfl rfl)
theorem dX8_reaches_43 : decode cX8_reaches 43 = .ok (.return_, 1) := D_177 yB_cX8_reaches rfl rfl
theorem dX8_reaches_44 : decode cX8_reaches 44 = .ok (.iinc 7 1, 3) := D_132 yB_cX8_reaches rfl rfl rfl (sg_p (m := 128) (N := 1) rfl rfl rfl)
theorem dX8_reaches_47 : decode cX8_reaches 47 = .ok (.goto (-25), 3) := D_167 yB_cX8_reaches rfl rfl (sg_n (m := 32768) (N := 25) rfl rfl rfl)
theorem dX8_reaches_50 : decode cX8_reaches 50 = .ok (.aload_n 0, 1) := D_42 yB_cX8_reaches rfl rfl
theorem dX8_reaches_51 : decode cX8_reaches 51 = .ok (.getfield 43, 3) := D_180 yB_cX8_reaches rfl rfl rfl
theorem dX8_reaches_54 : decode cX8_reaches 54 = .ok (.aload_n 0, 1) := D_42 yB_cX8_reaches rfl rfl
theorem dX8_reaches_55 : decode cX8_reaches 55 = .ok (.getfield 268, 3) := D_180 yB_cX8_reaches rfl rfl rfl
theorem dX8_reaches_58 : decode cX8_reaches 58 = .ok (.iload 5, 2) := D_21 yB_cX8_reaches rfl rfl rfl
theorem dX8_reaches_60 : decode cX8_reaches 60 = .ok (.iconst 1, 1) := D_4 yB_cX8_reaches rfl rfl
theorem dX8_reaches_61 : decode cX8_reaches 61 = .ok (.iadd, 1) := D_96 yB_cX8_reaches rfl rfl
theorem dX8_reaches_62 : decode cX8_reaches 62 = .ok (.iastore, 1) := D_79 yB_cX8_reaches rfl rfl
theorem dX8_reaches_63 : decode cX8_reaches 63 = .ok (.aload_n 0, 1) := D_42 yB_cX8_reaches rfl rfl
theorem dX8_reaches_64 : decode cX8_reaches 64 = .ok (.getfield 46, 3) := D_180 yB_cX8_reaches rfl rfl rfl
theorem dX8_reaches_67 : decode cX8_reaches 67 = .ok (.aload_n 0, 1) := D_42 yB_cX8_reaches rfl rfl
theorem dX8_reaches_68 : decode cX8_reaches 68 = .ok (.getfield 268, 3) := D_180 yB_cX8_reaches rfl rfl rfl
theorem dX8_reaches_71 : decode cX8_reaches 71 = .ok (.iload 6, 2) := D_21 yB_cX8_reaches rfl rfl rfl
theorem dX8_reaches_73 : decode cX8_reaches 73 = .ok (.iastore, 1) := D_79 yB_cX8_reaches rfl rfl
theorem dX8_reaches_74 : decode cX8_reaches 74 = .ok (.aload_n 0, 1) := D_42 yB_cX8_reaches rfl rfl
theorem dX8_reaches_75 : decode cX8_reaches 75 = .ok (.dup, 1) := D_89 yB_cX8_reaches rfl rfl
theorem dX8_reaches_76 : decode cX8_reaches 76 = .ok (.getfield 268, 3) := D_180 yB_cX8_reaches rfl rfl rfl
theorem dX8_reaches_79 : decode cX8_reaches 79 = .ok (.iconst 1, 1) := D_4 yB_cX8_reaches rfl rfl
theorem dX8_reaches_80 : decode cX8_reaches 80 = .ok (.iadd, 1) := D_96 yB_cX8_reaches rfl rfl
theorem dX8_reaches_81 : decode cX8_reaches 81 = .ok (.putfield 268, 3) := D_181 yB_cX8_reaches rfl rfl rfl
theorem dX8_reaches_84 : decode cX8_reaches 84 = .ok (.return_, 1) := D_177 yB_cX8_reaches rfl rfl
set_option maxHeartbeats 4000000 in
set_option maxRecDepth 100000 in
theorem c_X8_reaches (l : Launch) (D : va_G) (cA : Nat → ClassId) (ad : Nat → Nat) (o : Int64) (σ0 : Mem) (σ : Mem) (Q : List (Nat × Nat)) (on : Nat) (ot : Nat) (xx : Nat) (yy : Nat) (fr : Int32) (a : Nat) (b : Nat) (c0 : Nat) (d : Nat) (ha : a ≤ 3) (hb3 : b ≤ 3) (hR : RepR σ0 a b Q σ) (hQ : QG a b Q) (hc0 : vcd a b c0) (he : (on * 128 + ot) * 16 + xx * 4 + yy = enc a b c0) (hfr : fr + 1 = nI d) (sz : Nat) : Met l yX8_reaches (WY yX8_reaches cX8_reaches 8 none) (RM 0) (va_Pc [.ref (ad 91), .int (nI on), .int (nI ot), .int (nI xx), .int (nI yy), .int fr] (PW D cA ad o σ sz)) (va_Qv (fun σ9 => RepR σ0 a b (pushQ Q c0 d) σ9) (QW D cA ad o) (FA ad sz)) 0 0 (FA ad sz) := by
  refine ct_of (own := RX8) (k := 0) (Qf := va_Qv (fun σ9 => RepR σ0 a b (pushQ Q c0 d) σ9) (QW D cA ad o)) rfl (by decide) (Nat.le_of_ble_eq_true rfl) (fun p e s m below meth c ls C0 X hr hlk hP hl => ?_) sz
  have hS : va_S (FA ad s.heap.size) s.heap s.heap [] := va_S.rf
  have hl : lv_has ls 8 [(0, .ref (ad 91)), (1, .int (nI on)), (2, .int (nI ot)), (3, .int (nI xx)), (4, .int (nI yy)), (5, .int fr)] := hl
  obtain ⟨hx, hb, hml, hown, hts⟩ := id C0
  have hL9 := QG_len ha hb3 hQ
  refine lv_iload_n hx hb dX8_reaches_0 rfl (lv_at hl 1 rfl) ?_
  refine lv_sipush (v := 128) hx hb dX8_reaches_1 (by decide) ?_
  refine lv_imul hx hb dX8_reaches_4 ?_
  refine lv_topE (y := (nI (on * 128))) (pk_mul on 128) ?_
  refine lv_iload_n hx hb dX8_reaches_5 rfl (lv_at hl 2 rfl) ?_
  refine lv_iadd hx hb dX8_reaches_6 ?_
  refine lv_topE (y := (nI (on * 128 + ot))) (nI_add _ _) ?_
  refine lv_bipush (v := 16) hx hb dX8_reaches_7 (by decide) ?_
  refine lv_imul hx hb dX8_reaches_9 ?_
  refine lv_topE (y := (nI ((on * 128 + ot) * 16))) (pk_mul _ 16) ?_
  refine lv_iload_n hx hb dX8_reaches_10 rfl (lv_at hl 3 rfl) ?_
  refine lv_iconst (v := 4) hx hb dX8_reaches_11 (by decide) ?_
  refine lv_imul hx hb dX8_reaches_12 ?_
  refine lv_topE (y := (nI (xx * 4))) (pk_mul xx 4) ?_
  refine lv_iadd hx hb dX8_reaches_13 ?_
  refine lv_topE (y := (nI ((on * 128 + ot) * 16 + xx * 4))) (nI_add _ _) ?_
  refine lv_iload hx hb dX8_reaches_14 (lv_at hl 4 rfl) ?_
  refine lv_iadd hx hb dX8_reaches_16 ?_
  refine lv_topE (y := (nI (enc a b c0))) (by rw [nI_add, he]) ?_
  refine lv_istore (lv' := [(6, .int (nI (enc a b c0))), (0, .ref (ad 91)), (1, .int (nI on)), (2, .int (nI ot)), (3, .int (nI xx)), (4, .int (nI yy)), (5, .int fr)]) hx hb dX8_reaches_17 hl (by decide) rfl (fun ls hl => ?_)
  refine lv_iconst (v := 0) hx hb dX8_reaches_19 (by decide) ?_
  refine lv_istore (lv' := [(7, .int 0), (6, .int (nI (enc a b c0))), (0, .ref (ad 91)), (1, .int (nI on)), (2, .int (nI ot)), (3, .int (nI xx)), (4, .int (nI yy)), (5, .int fr)]) hx hb dX8_reaches_20 hl (by decide) rfl (fun ls hl => ?_)
  have lp_1 : ∀ (nn : Nat) (i : Nat) (H : Heap) (locs : List Loc) (ls : Array Slot), i ≤ Q.length → (∀ j c d : Nat, j < i → Q[j]? = some (c, d) → c ≠ c0) → WP D cA ad o σ H → va_S (FA ad s.heap.size) s.heap H locs → lv_has ls 8 [(0, .ref (ad 91)), (5, .int fr), (6, .int (nI (enc a b c0))), (7, .int (nI i))] → (513 - i) < nn → W p l e (RM 0) s m ([.ref (ad 91), .int (nI on), .int (nI ot), .int (nI xx), .int (nI yy), .int fr] : List Value).toArray below meth c H locs 0 0 (MQ below (va_Qv (fun σ9 => RepR σ0 a b (pushQ Q c0 d) σ9) (QW D cA ad o) (FA ad s.heap.size)) ([.ref (ad 91), .int (nI on), .int (nI ot), .int (nI xx), .int (nI yy), .int fr] : List Value).toArray s 0 0 (FA ad s.heap.size)) (F0 m 22 ls []) := by
    intro nn
    induction nn with
    | zero => intro i H locs ls hi hno hP hS hl hn; exact absurd hn (Nat.not_lt_zero _)
    | succ nn ih =>
      intro i H locs ls hi hno hP hS hl hn
      refine lv_iload hx hb dX8_reaches_22 (lv_at hl 3 rfl) ?_
      refine lv_aload_n hx hb dX8_reaches_24 rfl (lv_at hl 0 rfl) ?_
      refine gf_X8_268 C0 X hP 91 ⟨by decide, rfl⟩ dX8_reaches_25 ?_
      refine lv_topE (y := (nI Q.length)) hR.1.1 ?_
      refine lv_icmp_ge (tgt := 50) hx hb dX8_reaches_28 (by decide) (fun c_2 => ?_) (fun c_2 => ?_)
      · obtain rfl : i = Q.length := nI_geof c_2 hi (by omega)
        have hnq : c0 ∉ Q.map Prod.fst := fun hm => by obtain ⟨k9, d9, hg9⟩ := mem_fst hm; exact hno k9 c0 d9 (List.getElem?_eq_some_iff.mp hg9).1 hg9 rfl
        refine lv_aload_n hx hb dX8_reaches_50 rfl (lv_at hl 0 rfl) ?_
        refine gf_X8_43 C0 X hP 91 (q := 103) ⟨by decide, rfl⟩ (by omega) rfl dX8_reaches_51 ?_
        refine lv_aload_n hx hb dX8_reaches_54 rfl (lv_at hl 0 rfl) ?_
        refine gf_X8_268 C0 X hP 91 ⟨by decide, rfl⟩ dX8_reaches_55 ?_
        refine lv_topE (y := (nI Q.length)) hR.1.1 ?_
        refine lv_iload hx hb dX8_reaches_58 (lv_at hl 1 rfl) ?_
        refine lv_iconst (v := 1) hx hb dX8_reaches_60 (by decide) ?_
        refine lv_iadd hx hb dX8_reaches_61 ?_
        refine lv_topE (y := (nI d)) hfr ?_
        refine r_iastN C0 X hP hS 103 (k := Q.length) ⟨by decide, rfl⟩ rfl (by omega) dX8_reaches_62 (fun H locs hP hS => ?_)
        refine lv_aload_n hx hb dX8_reaches_63 rfl (lv_at hl 0 rfl) ?_
        refine gf_X8_46 C0 X hP 91 (q := 104) ⟨by decide, rfl⟩ (by omega) rfl dX8_reaches_64 ?_
        refine lv_aload_n hx hb dX8_reaches_67 rfl (lv_at hl 0 rfl) ?_
        refine gf_X8_268 C0 X hP 91 ⟨by decide, rfl⟩ dX8_reaches_68 ?_
        refine lv_topE (y := (nI Q.length)) (by rw [stm_ne _ _ _ (by decide)]; exact hR.1.1) ?_
        refine lv_iload hx hb dX8_reaches_71 (lv_at hl 2 rfl) ?_
        refine r_iastN C0 X hP hS 104 (k := Q.length) ⟨by decide, rfl⟩ rfl (by omega) dX8_reaches_73 (fun H locs hP hS => ?_)
        refine lv_aload_n hx hb dX8_reaches_74 rfl (lv_at hl 0 rfl) ?_
        refine lv_dup hx hb dX8_reaches_75 rfl ?_
        refine gf_X8_268 C0 X hP 91 ⟨by decide, rfl⟩ dX8_reaches_76 ?_
        refine lv_topE (y := (nI Q.length)) (by rw [stm_ne _ _ _ (by decide), stm_ne _ _ _ (by decide)]; exact hR.1.1) ?_
        refine lv_iconst (v := 1) hx hb dX8_reaches_79 (by decide) ?_
        refine lv_iadd hx hb dX8_reaches_80 ?_
        refine lv_topE (y := (nI (Q.length + 1))) (nI_1 _) ?_
        refine pf_X8_268 C0 X hP hS 91 ⟨by decide, rfl⟩ dX8_reaches_81 (fun H locs hP hS => ?_)
        exact r_vret C0 X hP hS hr hlk dX8_reaches_84 (by rw [pushQ, if_neg hnq]; exact RepR_push hR c0 d)
      · have hi2 : i < Q.length := nI_lt_of c_2 (by omega)
        obtain ⟨c9, d9, hg⟩ := getQ hi2
        have hk9 := hR.1.2 i c9 d9 hg
        have hv9 := hQ.2 c9 (List.mem_map.mpr ⟨(c9, d9), List.mem_of_getElem? hg, rfl⟩)
        refine lv_aload_n hx hb dX8_reaches_31 rfl (lv_at hl 0 rfl) ?_
        refine gf_X8_46 C0 X hP 91 (q := 104) ⟨by decide, rfl⟩ (by omega) rfl dX8_reaches_32 ?_
        refine lv_iload hx hb dX8_reaches_35 (lv_at hl 3 rfl) ?_
        refine r_ialdN C0 X hP 104 (k := i) ⟨by decide, rfl⟩ rfl (by omega) dX8_reaches_37 ?_
        refine lv_topE (y := (nI (enc a b c9))) hk9.1 ?_
        refine lv_iload hx hb dX8_reaches_38 (lv_at hl 2 rfl) ?_
        refine lv_icmp_ne (tgt := 44) hx hb dX8_reaches_40 (by decide) (fun c_3 => ?_) (fun c_3 => ?_)
        · have hne9 : c9 ≠ c0 := fun e9 => c_3 (by rw [e9])
          refine lv_iinc (v := (nI (i + 1))) (lv' := [(7, .int (nI (i + 1))), (0, .ref (ad 91)), (5, .int fr), (6, .int (nI (enc a b c0)))]) hx hb dX8_reaches_44 hl (k := 3) rfl (nI_1 _) (by decide) rfl (fun ls hl => ?_)
          refine lv_goto (tgt := 22) hx hb dX8_reaches_47 (by decide) ?_
          exact ih (i + 1) _ _ ls hi2 (fun j c d hj hg9 => by rcases (show j < i ∨ j = i by omega) with h | rfl; exact hno j c d h hg9; exact fun e9 => hne9 (by rw [hg] at hg9; rw [(Prod.mk.inj (Option.some.inj hg9)).1]; exact e9)) hP hS (lv_sub hl [1, 2, 3, 0] rfl) (by omega)
        · exact r_vret C0 X hP hS hr hlk dX8_reaches_43 (by rw [pushQ, if_pos (by rw [← enc_inj ha hb3 hv9 hc0 ((nI_eq (Nat.lt_trans (enc_lt ha hb3 hv9) (by decide)) (Nat.lt_trans (enc_lt ha hb3 hc0) (by decide))).mp c_3)]; exact List.mem_map.mpr ⟨(c9, d9), List.mem_of_getElem? hg, rfl⟩)]; exact hR)
  exact lp_1 ((513 - 0) + 1) 0 _ _ ls (Nat.zero_le _) (fun j c d h => absurd h (Nat.not_lt_zero _)) hP hS (lv_sub hl [2, 7, 1, 0] rfl) (by omega)
