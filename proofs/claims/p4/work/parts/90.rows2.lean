/-! distances are small: an answer below 0 is none -/
def DQ (Q : List (Nat × Nat)) : Prop := ∀ k c d : Nat, Q[k]? = some (c, d) → d ≤ k
theorem DQ_push {Q : List (Nat × Nat)} (h : DQ Q) (c : Nat) {e : Nat} (he : e ≤ Q.length) : DQ (pushQ Q c e) := by
  unfold pushQ
  split
  · exact h
  · intro k c' d' hk
    by_cases h1 : k < Q.length
    · rw [List.getElem?_append_left h1] at hk
      exact h k c' d' hk
    · have h2 : k = Q.length := by
        have := (List.getElem?_eq_some_iff.mp hk).1
        simp at this
        omega
      subst h2
      simp at hk
      omega
theorem DQ_fold (e : Nat) (cs : List Nat) : ∀ Q : List (Nat × Nat), DQ Q → e ≤ Q.length → DQ (foldQ Q cs e) := by
  induction cs with
  | nil => intro Q h _; exact h
  | cons c r ih => intro Q h he; exact ih _ (DQ_push h c he) (Nat.le_trans he (pushQ_len Q c e))
theorem DQ_QB (a b q x z : Nat) : ∀ i, DQ (QB a b q x z i) := by
  intro i
  induction i with
  | zero =>
    intro k c d hk
    rcases Nat.eq_zero_or_pos k with rfl | h
    · simp [QB] at hk
      omega
    · rw [QB, List.getElem?_eq_none (by simp; omega)] at hk
      cases hk
  | succ i ih =>
    rw [QB, procQ]
    split
    · exact ih
    · rename_i p hp
      exact DQ_fold _ _ _ ih (Nat.succ_le_of_lt (Nat.lt_of_le_of_lt (ih i p.1 p.2 hp) (List.getElem?_eq_some_iff.mp hp).1))
theorem RWn_neg {a b q x z : Nat} (ha : a ≤ 3) (hb : b ≤ 3) (hx : x ≤ 6) : RWn a b q x z < 0 ↔ RWn a b q x z = -4 := by
  unfold RWn resQ
  cases hf : (QB a b q x z 900).find? (fun r => r.1 == wtC a b) with
  | none => simp only []; decide
  | some p =>
    simp only []
    obtain ⟨k, hk⟩ := List.getElem?_of_mem (List.mem_of_find?_eq_some hf)
    have h1 := DQ_QB a b q x z 900 k p.1 p.2 hk
    have h2 := QG_len ha hb (QB_g (q := q) (z := z) ha hb hx 900)
    have h3 := (List.getElem?_eq_some_iff.mp hk).1
    constructor
    · intro h; exact absurd h (nI_pos (by omega))
    · intro h; exact absurd h (nI_nm4 (by omega))
def bB_cX8_isRows : Nat := 0xac030400a7040700993500b8160114851b851d1400993500b8160114851a851c2100993500b87d001409851b2d00993500b87d001409851a
theorem yB_cX8_isRows : BYS cX8_isRows 56 bB_cX8_isRows := BYS_of (by decide +kernel)
theorem dX8_isRows_0 : decode cX8_isRows 0 = .ok (.iload_n 0, 1) := D_26 yB_cX8_isRows rfl rfl
theorem dX8_isRows_1 : decode cX8_isRows 1 = .ok (.i2l, 1) := D_133 yB_cX8_isRows rfl rfl
theorem dX8_isRows_2 : decode cX8_isRows 2 = .ok (.lconst 0, 1) := D_9 yB_cX8_isRows rfl rfl
theorem dX8_isRows_3 : decode cX8_isRows 3 = .ok (.ldc2_w 125, 3) := D_20 yB_cX8_isRows rfl rfl rfl
theorem dX8_isRows_6 : decode cX8_isRows 6 = .ok (.invokestatic 53, 3) := D_184 yB_cX8_isRows rfl rfl rfl
theorem dX8_isRows_9 : decode cX8_isRows 9 = .ok (.ifCond .eq 45, 3) := D_153 yB_cX8_isRows rfl rfl (sg_p (m := 32768) (N := 45) rfl rfl rfl)
theorem dX8_isRows_12 : decode cX8_isRows 12 = .ok (.iload_n 1, 1) := D_27 yB_cX8_isRows rfl rfl
theorem dX8_isRows_13 : decode cX8_isRows 13 = .ok (.i2l, 1) := D_133 yB_cX8_isRows rfl rfl
theorem dX8_isRows_14 : decode cX8_isRows 14 = .ok (.lconst 0, 1) := D_9 yB_cX8_isRows rfl rfl
theorem dX8_isRows_15 : decode cX8_isRows 15 = .ok (.ldc2_w 125, 3) := D_20 yB_cX8_isRows rfl rfl rfl
theorem dX8_isRows_18 : decode cX8_isRows 18 = .ok (.invokestatic 53, 3) := D_184 yB_cX8_isRows rfl rfl rfl
theorem dX8_isRows_21 : decode cX8_isRows 21 = .ok (.ifCond .eq 33, 3) := D_153 yB_cX8_isRows rfl rfl (sg_p (m := 32768) (N := 33) rfl rfl rfl)
theorem dX8_isRows_24 : decode cX8_isRows 24 = .ok (.iload_n 2, 1) := D_28 yB_cX8_isRows rfl rfl
theorem dX8_isRows_25 : decode cX8_isRows 25 = .ok (.i2l, 1) := D_133 yB_cX8_isRows rfl rfl
theorem dX8_isRows_26 : decode cX8_isRows 26 = .ok (.iload_n 0, 1) := D_26 yB_cX8_isRows rfl rfl
theorem dX8_isRows_27 : decode cX8_isRows 27 = .ok (.i2l, 1) := D_133 yB_cX8_isRows rfl rfl
theorem dX8_isRows_28 : decode cX8_isRows 28 = .ok (.ldc2_w 278, 3) := D_20 yB_cX8_isRows rfl rfl rfl
theorem dX8_isRows_31 : decode cX8_isRows 31 = .ok (.invokestatic 53, 3) := D_184 yB_cX8_isRows rfl rfl rfl
theorem dX8_isRows_34 : decode cX8_isRows 34 = .ok (.ifCond .eq 20, 3) := D_153 yB_cX8_isRows rfl rfl (sg_p (m := 32768) (N := 20) rfl rfl rfl)
theorem dX8_isRows_37 : decode cX8_isRows 37 = .ok (.iload_n 3, 1) := D_29 yB_cX8_isRows rfl rfl
theorem dX8_isRows_38 : decode cX8_isRows 38 = .ok (.i2l, 1) := D_133 yB_cX8_isRows rfl rfl
theorem dX8_isRows_39 : decode cX8_isRows 39 = .ok (.iload_n 1, 1) := D_27 yB_cX8_isRows rfl rfl
theorem dX8_isRows_40 : decode cX8_isRows 40 = .ok (.i2l, 1) := D_133 yB_cX8_isRows rfl rfl
theorem dX8_isRows_41 : decode cX8_isRows 41 = .ok (.ldc2_w 278, 3) := D_20 yB_cX8_isRows rfl rfl rfl
theorem dX8_isRows_44 : decode cX8_isRows 44 = .ok (.invokestatic 53, 3) := D_184 yB_cX8_isRows rfl rfl rfl
theorem dX8_isRows_47 : decode cX8_isRows 47 = .ok (.ifCond .eq 7, 3) := D_153 yB_cX8_isRows rfl rfl (sg_p (m := 32768) (N := 7) rfl rfl rfl)
theorem dX8_isRows_50 : decode cX8_isRows 50 = .ok (.iconst 1, 1) := D_4 yB_cX8_isRows rfl rfl
theorem dX8_isRows_51 : decode cX8_isRows 51 = .ok (.goto 4, 3) := D_167 yB_cX8_isRows rfl rfl (sg_p (m := 32768) (N := 4) rfl rfl rfl)
theorem dX8_isRows_54 : decode cX8_isRows 54 = .ok (.iconst 0, 1) := D_3 yB_cX8_isRows rfl rfl
theorem dX8_isRows_55 : decode cX8_isRows 55 = .ok (.ireturn, 1) := D_172 yB_cX8_isRows rfl rfl
set_option maxHeartbeats 4000000 in
set_option maxRecDepth 100000 in
theorem c_X8_isRows (l : Launch) (D : va_G) (cA : Nat → ClassId) (ad : Nat → Nat) (o : Int64) (σ : Mem) (a : Int32) (b : Int32) (x : Int32) (z : Int32)  (sz : Nat) : Met l yX8_isRows (WY yX8_isRows cX8_isRows 4 (some .boolean)) (RM 1) (va_Pc [.int a, .int b, .int x, .int z] (PW D cA ad o σ sz)) (va_Qi (fun r σ9 => ((RWok a b x z ∧ r = 1) ∨ (¬ RWok a b x z ∧ r = 0)) ∧ σ9 = σ) (QW D cA ad o) (FA ad sz)) 0 0 (FA ad sz) := by
  refine ct_of (own := RX8) (k := 1) (Qf := va_Qi (fun r σ9 => ((RWok a b x z ∧ r = 1) ∨ (¬ RWok a b x z ∧ r = 0)) ∧ σ9 = σ) (QW D cA ad o)) rfl (by decide) (Nat.le_of_ble_eq_true rfl) (fun p e s m below meth c ls C0 X hr hlk hP hl => ?_) sz
  have hS : va_S (FA ad s.heap.size) s.heap s.heap [] := va_S.rf
  have hl : lv_has ls 4 [(0, .int a), (1, .int b), (2, .int x), (3, .int z)] := hl
  obtain ⟨hx, hb, hml, hown, hts⟩ := id C0
  refine lv_iload_n hx hb dX8_isRows_0 rfl (lv_at hl 0 rfl) ?_
  refine lv_i2l (v := (a.toInt64)) hx hb dX8_isRows_1 rfl ?_
  refine lv_lconst (v := ((0 : Int32).toInt64)) hx hb dX8_isRows_2 (by decide) ?_
  refine lv_ldc2 (own := RX8) (index := 125) (v := 3) hx hb hown (hts _ (tmc sb5 137 (by decide +kernel) (by decide +kernel))) dX8_isRows_3 ?_
  refine lv_topEl (y := ((3 : Int32).toInt64)) (by decide) ?_
  refine r_ci X hS (r_runS (As := [.long (a.toInt64), .long ((0 : Int32).toInt64), .long ((3 : Int32).toInt64)]) (rest := []) C0 X hP L_X8_53 (fun sz => c_X8_isIn l D cA ad o σ a 0 3 sz) ⟨Nat.le_of_ble_eq_true rfl, Nat.le_of_ble_eq_true rfl⟩ rfl hl.1 rfl (Nat.le_of_ble_eq_true rfl) dX8_isRows_6 ⟨Nat.zero_le _, Nat.zero_le _⟩) (fun r σ9 H locs hw hP hS => ?_)
  rw [hw.2] at hP
  obtain ⟨⟨b_1, rfl⟩ | ⟨b_1, rfl⟩, -⟩ := hw
  · have p_2 : ¬ a < 0 := Int32.not_lt.mpr b_1.1
    have p_3 : ¬ 3 < a := Int32.not_lt.mpr b_1.2
    have p_4 : ¬ 4 ≤ a := nsucc (by decide) p_3
    refine lv_if_eq (tgt := 54) hx hb dX8_isRows_9 (by decide) (fun c_5 => absurd c_5 (by decide)) (fun c_5 => ?_)
    refine lv_iload_n hx hb dX8_isRows_12 rfl (lv_at hl 1 rfl) ?_
    refine lv_i2l (v := (b.toInt64)) hx hb dX8_isRows_13 rfl ?_
    refine lv_lconst (v := ((0 : Int32).toInt64)) hx hb dX8_isRows_14 (by decide) ?_
    refine lv_ldc2 (own := RX8) (index := 125) (v := 3) hx hb hown (hts _ (tmc sb5 137 (by decide +kernel) (by decide +kernel))) dX8_isRows_15 ?_
    refine lv_topEl (y := ((3 : Int32).toInt64)) (by decide) ?_
    refine r_ci X hS (r_runS (As := [.long (b.toInt64), .long ((0 : Int32).toInt64), .long ((3 : Int32).toInt64)]) (rest := []) C0 X hP L_X8_53 (fun sz => c_X8_isIn l D cA ad o σ b 0 3 sz) ⟨Nat.le_of_ble_eq_true rfl, Nat.le_of_ble_eq_true rfl⟩ rfl hl.1 rfl (Nat.le_of_ble_eq_true rfl) dX8_isRows_18 ⟨Nat.zero_le _, Nat.zero_le _⟩) (fun r σ9 H locs hw hP hS => ?_)
    rw [hw.2] at hP
    obtain ⟨⟨b_6, rfl⟩ | ⟨b_6, rfl⟩, -⟩ := hw
    · have p_7 : ¬ b < 0 := Int32.not_lt.mpr b_6.1
      have p_8 : ¬ 3 < b := Int32.not_lt.mpr b_6.2
      have p_9 : ¬ 4 ≤ b := nsucc (by decide) p_8
      refine lv_if_eq (tgt := 54) hx hb dX8_isRows_21 (by decide) (fun c_10 => absurd c_10 (by decide)) (fun c_10 => ?_)
      refine lv_iload_n hx hb dX8_isRows_24 rfl (lv_at hl 2 rfl) ?_
      refine lv_i2l (v := (x.toInt64)) hx hb dX8_isRows_25 rfl ?_
      refine lv_iload_n hx hb dX8_isRows_26 rfl (lv_at hl 0 rfl) ?_
      refine lv_i2l (v := (a.toInt64)) hx hb dX8_isRows_27 rfl ?_
      refine lv_ldc2 (own := RX8) (index := 278) (v := 6) hx hb hown (hts _ (tmc sb6 127 (by decide +kernel) (by decide +kernel))) dX8_isRows_28 ?_
      refine lv_topEl (y := ((6 : Int32).toInt64)) (by decide) ?_
      refine r_ci X hS (r_runS (As := [.long (x.toInt64), .long (a.toInt64), .long ((6 : Int32).toInt64)]) (rest := []) C0 X hP L_X8_53 (fun sz => c_X8_isIn l D cA ad o σ x a 6 sz) ⟨Nat.le_of_ble_eq_true rfl, Nat.le_of_ble_eq_true rfl⟩ rfl hl.1 rfl (Nat.le_of_ble_eq_true rfl) dX8_isRows_31 ⟨Nat.zero_le _, Nat.zero_le _⟩) (fun r σ9 H locs hw hP hS => ?_)
      rw [hw.2] at hP
      obtain ⟨⟨b_11, rfl⟩ | ⟨b_11, rfl⟩, -⟩ := hw
      · have p_12 : ¬ x < a := Int32.not_lt.mpr b_11.1
        have p_13 : ¬ 6 < x := Int32.not_lt.mpr b_11.2
        have p_14 : ¬ 7 ≤ x := nsucc (by decide) p_13
        refine lv_if_eq (tgt := 54) hx hb dX8_isRows_34 (by decide) (fun c_15 => absurd c_15 (by decide)) (fun c_15 => ?_)
        refine lv_iload_n hx hb dX8_isRows_37 rfl (lv_at hl 3 rfl) ?_
        refine lv_i2l (v := (z.toInt64)) hx hb dX8_isRows_38 rfl ?_
        refine lv_iload_n hx hb dX8_isRows_39 rfl (lv_at hl 1 rfl) ?_
        refine lv_i2l (v := (b.toInt64)) hx hb dX8_isRows_40 rfl ?_
        refine lv_ldc2 (own := RX8) (index := 278) (v := 6) hx hb hown (hts _ (tmc sb6 127 (by decide +kernel) (by decide +kernel))) dX8_isRows_41 ?_
        refine lv_topEl (y := ((6 : Int32).toInt64)) (by decide) ?_
        refine r_ci X hS (r_runS (As := [.long (z.toInt64), .long (b.toInt64), .long ((6 : Int32).toInt64)]) (rest := []) C0 X hP L_X8_53 (fun sz => c_X8_isIn l D cA ad o σ z b 6 sz) ⟨Nat.le_of_ble_eq_true rfl, Nat.le_of_ble_eq_true rfl⟩ rfl hl.1 rfl (Nat.le_of_ble_eq_true rfl) dX8_isRows_44 ⟨Nat.zero_le _, Nat.zero_le _⟩) (fun r σ9 H locs hw hP hS => ?_)
        rw [hw.2] at hP
        obtain ⟨⟨b_16, rfl⟩ | ⟨b_16, rfl⟩, -⟩ := hw
        · have p_17 : ¬ z < b := Int32.not_lt.mpr b_16.1
          have p_18 : ¬ 6 < z := Int32.not_lt.mpr b_16.2
          have p_19 : ¬ 7 ≤ z := nsucc (by decide) p_18
          refine lv_if_eq (tgt := 54) hx hb dX8_isRows_47 (by decide) (fun c_20 => absurd c_20 (by decide)) (fun c_20 => ?_)
          refine lv_iconst (v := 1) hx hb dX8_isRows_50 (by decide) ?_
          refine lv_goto (tgt := 55) hx hb dX8_isRows_51 (by decide) ?_
          exact r_zret C0 X hP hS hr hlk dX8_isRows_55 (Or.inr rfl) ⟨Or.inl ⟨⟨p_2, p_3, p_7, p_8, p_12, p_13, p_17, p_18⟩, rfl⟩, rfl⟩
        · have p_21 : z < b ∨ 7 ≤ z := osucc (by decide) b_16
          refine lv_if_eq (tgt := 54) hx hb dX8_isRows_47 (by decide) (fun c_22 => ?_) (fun c_22 => absurd c_22 (by decide))
          refine lv_iconst (v := 0) hx hb dX8_isRows_54 (by decide) ?_
          exact r_zret C0 X hP hS hr hlk dX8_isRows_55 (Or.inl rfl) ⟨Or.inr ⟨fun h9 => b_16.elim (h9.2.2.2.2.2.2.1) (h9.2.2.2.2.2.2.2), rfl⟩, rfl⟩
      · have p_23 : x < a ∨ 7 ≤ x := osucc (by decide) b_11
        refine lv_if_eq (tgt := 54) hx hb dX8_isRows_34 (by decide) (fun c_24 => ?_) (fun c_24 => absurd c_24 (by decide))
        refine lv_iconst (v := 0) hx hb dX8_isRows_54 (by decide) ?_
        exact r_zret C0 X hP hS hr hlk dX8_isRows_55 (Or.inl rfl) ⟨Or.inr ⟨fun h9 => b_11.elim (h9.2.2.2.2.1) (h9.2.2.2.2.2.1), rfl⟩, rfl⟩
    · have p_25 : b < 0 ∨ 4 ≤ b := osucc (by decide) b_6
      refine lv_if_eq (tgt := 54) hx hb dX8_isRows_21 (by decide) (fun c_26 => ?_) (fun c_26 => absurd c_26 (by decide))
      refine lv_iconst (v := 0) hx hb dX8_isRows_54 (by decide) ?_
      exact r_zret C0 X hP hS hr hlk dX8_isRows_55 (Or.inl rfl) ⟨Or.inr ⟨fun h9 => b_6.elim (h9.2.2.1) (h9.2.2.2.1), rfl⟩, rfl⟩
  · have p_27 : a < 0 ∨ 4 ≤ a := osucc (by decide) b_1
    refine lv_if_eq (tgt := 54) hx hb dX8_isRows_9 (by decide) (fun c_28 => ?_) (fun c_28 => absurd c_28 (by decide))
    refine lv_iconst (v := 0) hx hb dX8_isRows_54 (by decide) ?_
    exact r_zret C0 X hP hS hr hlk dX8_isRows_55 (Or.inl rfl) ⟨Or.inr ⟨fun h9 => b_1.elim (h9.1) (h9.2.1), rfl⟩, rfl⟩
def bB_cX8_rows : Nat := 0xac020400a71c01b6051504151d1c1b2a1100993500b87d001409851d1d00991801b8051504151c1b
theorem yB_cX8_rows : BYS cX8_rows 40 bB_cX8_rows := BYS_of (by decide +kernel)
theorem dX8_rows_0 : decode cX8_rows 0 = .ok (.iload_n 1, 1) := D_27 yB_cX8_rows rfl rfl
theorem dX8_rows_1 : decode cX8_rows 1 = .ok (.iload_n 2, 1) := D_28 yB_cX8_rows rfl rfl
theorem dX8_rows_2 : decode cX8_rows 2 = .ok (.iload 4, 2) := D_21 yB_cX8_rows rfl rfl rfl
theorem dX8_rows_4 : decode cX8_rows 4 = .ok (.iload 5, 2) := D_21 yB_cX8_rows rfl rfl rfl
theorem dX8_rows_6 : decode cX8_rows 6 = .ok (.invokestatic 280, 3) := D_184 yB_cX8_rows rfl rfl rfl
theorem dX8_rows_9 : decode cX8_rows 9 = .ok (.ifCond .eq 29, 3) := D_153 yB_cX8_rows rfl rfl (sg_p (m := 32768) (N := 29) rfl rfl rfl)
theorem dX8_rows_12 : decode cX8_rows 12 = .ok (.iload_n 3, 1) := D_29 yB_cX8_rows rfl rfl
theorem dX8_rows_13 : decode cX8_rows 13 = .ok (.i2l, 1) := D_133 yB_cX8_rows rfl rfl
theorem dX8_rows_14 : decode cX8_rows 14 = .ok (.lconst 0, 1) := D_9 yB_cX8_rows rfl rfl
theorem dX8_rows_15 : decode cX8_rows 15 = .ok (.ldc2_w 125, 3) := D_20 yB_cX8_rows rfl rfl rfl
theorem dX8_rows_18 : decode cX8_rows 18 = .ok (.invokestatic 53, 3) := D_184 yB_cX8_rows rfl rfl rfl
theorem dX8_rows_21 : decode cX8_rows 21 = .ok (.ifCond .eq 17, 3) := D_153 yB_cX8_rows rfl rfl (sg_p (m := 32768) (N := 17) rfl rfl rfl)
theorem dX8_rows_24 : decode cX8_rows 24 = .ok (.aload_n 0, 1) := D_42 yB_cX8_rows rfl rfl
theorem dX8_rows_25 : decode cX8_rows 25 = .ok (.iload_n 1, 1) := D_27 yB_cX8_rows rfl rfl
theorem dX8_rows_26 : decode cX8_rows 26 = .ok (.iload_n 2, 1) := D_28 yB_cX8_rows rfl rfl
theorem dX8_rows_27 : decode cX8_rows 27 = .ok (.iload_n 3, 1) := D_29 yB_cX8_rows rfl rfl
theorem dX8_rows_28 : decode cX8_rows 28 = .ok (.iload 4, 2) := D_21 yB_cX8_rows rfl rfl rfl
theorem dX8_rows_30 : decode cX8_rows 30 = .ok (.iload 5, 2) := D_21 yB_cX8_rows rfl rfl rfl
theorem dX8_rows_32 : decode cX8_rows 32 = .ok (.invokevirtual 284, 3) := D_182 yB_cX8_rows rfl rfl rfl
theorem dX8_rows_35 : decode cX8_rows 35 = .ok (.goto 4, 3) := D_167 yB_cX8_rows rfl rfl (sg_p (m := 32768) (N := 4) rfl rfl rfl)
theorem dX8_rows_38 : decode cX8_rows 38 = .ok (.iconst (-1), 1) := D_2 yB_cX8_rows rfl rfl
theorem dX8_rows_39 : decode cX8_rows 39 = .ok (.ireturn, 1) := D_172 yB_cX8_rows rfl rfl
set_option maxHeartbeats 4000000 in
set_option maxRecDepth 100000 in
theorem c_X8_rows (l : Launch) (D : va_G) (cA : Nat → ClassId) (ad : Nat → Nat) (o : Int64) (σ : Mem) (a : Int32) (b : Int32) (q : Int32) (x : Int32) (z : Int32) (sz : Nat) : Met l yX8_rows (WY yX8_rows cX8_rows 6 (some .int)) (RM 2) (va_Pc [.ref (ad 91), .int a, .int b, .int q, .int x, .int z] (PW D cA ad o σ sz)) (va_Qi (fun r (σ9 : Mem) => r = RWv a b q x z ∧ Fr9 σ σ9) (QW D cA ad o) (FA ad sz)) 0 0 (FA ad sz) := by
  refine ct_of (own := RX8) (k := 2) (Qf := va_Qi (fun r (σ9 : Mem) => r = RWv a b q x z ∧ Fr9 σ σ9) (QW D cA ad o)) rfl (by decide) (Nat.le_of_ble_eq_true rfl) (fun p e s m below meth c ls C0 X hr hlk hP hl => ?_) sz
  have hS : va_S (FA ad s.heap.size) s.heap s.heap [] := va_S.rf
  have hl : lv_has ls 6 [(0, .ref (ad 91)), (1, .int a), (2, .int b), (3, .int q), (4, .int x), (5, .int z)] := hl
  obtain ⟨hx, hb, hml, hown, hts⟩ := id C0
  refine lv_iload_n hx hb dX8_rows_0 rfl (lv_at hl 1 rfl) ?_
  refine lv_iload_n hx hb dX8_rows_1 rfl (lv_at hl 2 rfl) ?_
  refine lv_iload hx hb dX8_rows_2 (lv_at hl 4 rfl) ?_
  refine lv_iload hx hb dX8_rows_4 (lv_at hl 5 rfl) ?_
  refine r_ci X hS (r_runS (As := [.int a, .int b, .int x, .int z]) (rest := []) C0 X hP L_X8_280 (fun sz => c_X8_isRows l D cA ad o σ a b x z sz) ⟨Nat.le_of_ble_eq_true rfl, Nat.le_of_ble_eq_true rfl⟩ rfl hl.1 rfl (Nat.le_of_ble_eq_true rfl) dX8_rows_6 ⟨Nat.zero_le _, Nat.zero_le _⟩) (fun r σ9 H locs hw hP hS => ?_)
  rw [hw.2] at hP
  obtain ⟨⟨b_1, rfl⟩ | ⟨b_1, rfl⟩, -⟩ := hw
  · refine lv_if_eq (tgt := 38) hx hb dX8_rows_9 (by decide) (fun c_2 => absurd c_2 (by decide)) (fun c_2 => ?_)
    refine lv_iload_n hx hb dX8_rows_12 rfl (lv_at hl 3 rfl) ?_
    refine lv_i2l (v := (q.toInt64)) hx hb dX8_rows_13 rfl ?_
    refine lv_lconst (v := ((0 : Int32).toInt64)) hx hb dX8_rows_14 (by decide) ?_
    refine lv_ldc2 (own := RX8) (index := 125) (v := 3) hx hb hown (hts _ (tmc sb5 137 (by decide +kernel) (by decide +kernel))) dX8_rows_15 ?_
    refine lv_topEl (y := ((3 : Int32).toInt64)) (by decide) ?_
    refine r_ci X hS (r_runS (As := [.long (q.toInt64), .long ((0 : Int32).toInt64), .long ((3 : Int32).toInt64)]) (rest := []) C0 X hP L_X8_53 (fun sz => c_X8_isIn l D cA ad o σ q 0 3 sz) ⟨Nat.le_of_ble_eq_true rfl, Nat.le_of_ble_eq_true rfl⟩ rfl hl.1 rfl (Nat.le_of_ble_eq_true rfl) dX8_rows_18 ⟨Nat.zero_le _, Nat.zero_le _⟩) (fun r σ9 H locs hw hP hS => ?_)
    rw [hw.2] at hP
    obtain ⟨⟨b_3, rfl⟩ | ⟨b_3, rfl⟩, -⟩ := hw
    · have p_4 : ¬ q < 0 := Int32.not_lt.mpr b_3.1
      have p_5 : ¬ 3 < q := Int32.not_lt.mpr b_3.2
      have p_6 : ¬ 4 ≤ q := nsucc (by decide) p_5
      refine lv_if_eq (tgt := 38) hx hb dX8_rows_21 (by decide) (fun c_7 => absurd c_7 (by decide)) (fun c_7 => ?_)
      obtain ⟨a1, ha1, rfl⟩ := in3 b_1.1 b_1.2.1
      obtain ⟨b1, hb1, rfl⟩ := in3 b_1.2.2.1 b_1.2.2.2.1
      obtain ⟨x1, hx1, rfl⟩ := in6 b_1.1 b_1.2.2.2.2.1 b_1.2.2.2.2.2.1
      obtain ⟨z1, hz1, rfl⟩ := in6 b_1.2.2.1 b_1.2.2.2.2.2.2.1 b_1.2.2.2.2.2.2.2
      obtain ⟨q1, hq1, rfl⟩ := in3 p_4 p_5
      refine lv_aload_n hx hb dX8_rows_24 rfl (lv_at hl 0 rfl) ?_
      refine lv_iload_n hx hb dX8_rows_25 rfl (lv_at hl 1 rfl) ?_
      refine lv_iload_n hx hb dX8_rows_26 rfl (lv_at hl 2 rfl) ?_
      refine lv_iload_n hx hb dX8_rows_27 rfl (lv_at hl 3 rfl) ?_
      refine lv_iload hx hb dX8_rows_28 (lv_at hl 4 rfl) ?_
      refine lv_iload hx hb dX8_rows_30 (lv_at hl 5 rfl) ?_
      refine r_ci X hS (r_runV (As := [.int (nI a1), .int (nI b1), .int (nI q1), .int (nI x1), .int (nI z1)]) (rest := []) C0 X hP L_X8_284 (fun sz => c_X8_rowsOf l D cA ad o σ a1 b1 q1 x1 z1 ha1 hb1 hq1 hx1 hz1 sz) (show 91 < 106 ∧ kd 91 = (8, 24) from ⟨by decide, rfl⟩).1 (show 91 < 106 ∧ kd 91 = (8, 24) from ⟨by decide, rfl⟩).2 (by decide) rfl ⟨Nat.le_of_ble_eq_true rfl, Nat.le_of_ble_eq_true rfl⟩ rfl hl.1 rfl (Nat.le_of_ble_eq_true rfl) dX8_rows_32 ⟨Nat.zero_le _, Nat.zero_le _⟩) (fun rw_8 σw_8 H locs hw_8 hP hS => ?_)
      refine lv_goto (tgt := 39) hx hb dX8_rows_35 (by decide) ?_
      exact r_iret C0 X hP hS hr hlk dX8_rows_39 ⟨(by rw [RW_eq ha1 hb1 hq1 hx1 hz1 b_1]; exact hw_8.1), hw_8.2⟩
    · have p_9 : q < 0 ∨ 4 ≤ q := osucc (by decide) b_3
      refine lv_if_eq (tgt := 38) hx hb dX8_rows_21 (by decide) (fun c_10 => ?_) (fun c_10 => absurd c_10 (by decide))
      refine lv_iconst (v := (-1)) hx hb dX8_rows_38 (by decide) ?_
      exact r_iret C0 X hP hS hr hlk dX8_rows_39 ⟨(by rw [RWv, if_neg (fun h9 => b_3.elim h9.2.1 h9.2.2)]), Fr9_rf _⟩
  · refine lv_if_eq (tgt := 38) hx hb dX8_rows_9 (by decide) (fun c_11 => ?_) (fun c_11 => absurd c_11 (by decide))
    refine lv_iconst (v := (-1)) hx hb dX8_rows_38 (by decide) ?_
    exact r_iret C0 X hP hS hr hlk dX8_rows_39 ⟨(by rw [RWv, if_neg (fun h9 => b_1 h9.1)]), Fr9_rf _⟩
def bB_cX8_aside : Nat := 0xacfc10e6ffa7010584ac051506009b1c01b604151d05151c1b2a1a00a2070515053603ac0205009a1801b804151d1c1b
theorem yB_cX8_aside : BYS cX8_aside 48 bB_cX8_aside := BYS_of (by decide +kernel)
theorem dX8_aside_0 : decode cX8_aside 0 = .ok (.iload_n 1, 1) := D_27 yB_cX8_aside rfl rfl
theorem dX8_aside_1 : decode cX8_aside 1 = .ok (.iload_n 2, 1) := D_28 yB_cX8_aside rfl rfl
theorem dX8_aside_2 : decode cX8_aside 2 = .ok (.iload_n 3, 1) := D_29 yB_cX8_aside rfl rfl
theorem dX8_aside_3 : decode cX8_aside 3 = .ok (.iload 4, 2) := D_21 yB_cX8_aside rfl rfl rfl
theorem dX8_aside_5 : decode cX8_aside 5 = .ok (.invokestatic 280, 3) := D_184 yB_cX8_aside rfl rfl rfl
theorem dX8_aside_8 : decode cX8_aside 8 = .ok (.ifCond .ne 5, 3) := D_154 yB_cX8_aside rfl rfl (sg_p (m := 32768) (N := 5) rfl rfl rfl)
theorem dX8_aside_11 : decode cX8_aside 11 = .ok (.iconst (-1), 1) := D_2 yB_cX8_aside rfl rfl
theorem dX8_aside_12 : decode cX8_aside 12 = .ok (.ireturn, 1) := D_172 yB_cX8_aside rfl rfl
theorem dX8_aside_13 : decode cX8_aside 13 = .ok (.iconst 0, 1) := D_3 yB_cX8_aside rfl rfl
theorem dX8_aside_14 : decode cX8_aside 14 = .ok (.istore 5, 2) := D_54 yB_cX8_aside rfl rfl rfl
theorem dX8_aside_16 : decode cX8_aside 16 = .ok (.iload 5, 2) := D_21 yB_cX8_aside rfl rfl rfl
theorem dX8_aside_18 : decode cX8_aside 18 = .ok (.iconst 4, 1) := D_7 yB_cX8_aside rfl rfl
theorem dX8_aside_19 : decode cX8_aside 19 = .ok (.if_icmp .ge 26, 3) := D_162 yB_cX8_aside rfl rfl (sg_p (m := 32768) (N := 26) rfl rfl rfl)
theorem dX8_aside_22 : decode cX8_aside 22 = .ok (.aload_n 0, 1) := D_42 yB_cX8_aside rfl rfl
theorem dX8_aside_23 : decode cX8_aside 23 = .ok (.iload_n 1, 1) := D_27 yB_cX8_aside rfl rfl
theorem dX8_aside_24 : decode cX8_aside 24 = .ok (.iload_n 2, 1) := D_28 yB_cX8_aside rfl rfl
theorem dX8_aside_25 : decode cX8_aside 25 = .ok (.iload 5, 2) := D_21 yB_cX8_aside rfl rfl rfl
theorem dX8_aside_27 : decode cX8_aside 27 = .ok (.iload_n 3, 1) := D_29 yB_cX8_aside rfl rfl
theorem dX8_aside_28 : decode cX8_aside 28 = .ok (.iload 4, 2) := D_21 yB_cX8_aside rfl rfl rfl
theorem dX8_aside_30 : decode cX8_aside 30 = .ok (.invokevirtual 284, 3) := D_182 yB_cX8_aside rfl rfl rfl
theorem dX8_aside_33 : decode cX8_aside 33 = .ok (.ifCond .lt 6, 3) := D_155 yB_cX8_aside rfl rfl (sg_p (m := 32768) (N := 6) rfl rfl rfl)
theorem dX8_aside_36 : decode cX8_aside 36 = .ok (.iload 5, 2) := D_21 yB_cX8_aside rfl rfl rfl
theorem dX8_aside_38 : decode cX8_aside 38 = .ok (.ireturn, 1) := D_172 yB_cX8_aside rfl rfl
theorem dX8_aside_39 : decode cX8_aside 39 = .ok (.iinc 5 1, 3) := D_132 yB_cX8_aside rfl rfl rfl (sg_p (m := 128) (N := 1) rfl rfl rfl)
theorem dX8_aside_42 : decode cX8_aside 42 = .ok (.goto (-26), 3) := D_167 yB_cX8_aside rfl rfl (sg_n (m := 32768) (N := 26) rfl rfl rfl)
theorem dX8_aside_45 : decode cX8_aside 45 = .ok (.bipush (-4), 2) := D_16 yB_cX8_aside rfl rfl (sg_n (m := 128) (N := 4) rfl rfl rfl)
theorem dX8_aside_47 : decode cX8_aside 47 = .ok (.ireturn, 1) := D_172 yB_cX8_aside rfl rfl
set_option maxHeartbeats 4000000 in
set_option maxRecDepth 100000 in
theorem c_X8_aside (l : Launch) (D : va_G) (cA : Nat → ClassId) (ad : Nat → Nat) (o : Int64) (σ : Mem) (a : Int32) (b : Int32) (x : Int32) (z : Int32) (sz : Nat) : Met l yX8_aside (WY yX8_aside cX8_aside 6 (some .int)) (RM 2) (va_Pc [.ref (ad 91), .int a, .int b, .int x, .int z] (PW D cA ad o σ sz)) (va_Qi (fun r (σ9 : Mem) => r = AS a b x z ∧ Fr9 σ σ9) (QW D cA ad o) (FA ad sz)) 0 0 (FA ad sz) := by
  refine ct_of (own := RX8) (k := 2) (Qf := va_Qi (fun r (σ9 : Mem) => r = AS a b x z ∧ Fr9 σ σ9) (QW D cA ad o)) rfl (by decide) (Nat.le_of_ble_eq_true rfl) (fun p e s m below meth c ls C0 X hr hlk hP hl => ?_) sz
  have hS : va_S (FA ad s.heap.size) s.heap s.heap [] := va_S.rf
  have hl : lv_has ls 6 [(0, .ref (ad 91)), (1, .int a), (2, .int b), (3, .int x), (4, .int z)] := hl
  obtain ⟨hx, hb, hml, hown, hts⟩ := id C0
  refine lv_iload_n hx hb dX8_aside_0 rfl (lv_at hl 1 rfl) ?_
  refine lv_iload_n hx hb dX8_aside_1 rfl (lv_at hl 2 rfl) ?_
  refine lv_iload_n hx hb dX8_aside_2 rfl (lv_at hl 3 rfl) ?_
  refine lv_iload hx hb dX8_aside_3 (lv_at hl 4 rfl) ?_
  refine r_ci X hS (r_runS (As := [.int a, .int b, .int x, .int z]) (rest := []) C0 X hP L_X8_280 (fun sz => c_X8_isRows l D cA ad o σ a b x z sz) ⟨Nat.le_of_ble_eq_true rfl, Nat.le_of_ble_eq_true rfl⟩ rfl hl.1 rfl (Nat.le_of_ble_eq_true rfl) dX8_aside_5 ⟨Nat.zero_le _, Nat.zero_le _⟩) (fun r σ9 H locs hw hP hS => ?_)
  rw [hw.2] at hP
  obtain ⟨⟨b_1, rfl⟩ | ⟨b_1, rfl⟩, -⟩ := hw
  · refine lv_if_ne (tgt := 13) hx hb dX8_aside_8 (by decide) (fun c_2 => ?_) (fun c_2 => absurd c_2 (by decide))
    obtain ⟨a1, ha1, rfl⟩ := in3 b_1.1 b_1.2.1
    obtain ⟨b1, hb1, rfl⟩ := in3 b_1.2.2.1 b_1.2.2.2.1
    obtain ⟨x1, hx1, rfl⟩ := in6 b_1.1 b_1.2.2.2.2.1 b_1.2.2.2.2.2.1
    obtain ⟨z1, hz1, rfl⟩ := in6 b_1.2.2.1 b_1.2.2.2.2.2.2.1 b_1.2.2.2.2.2.2.2
    refine lv_iconst (v := 0) hx hb dX8_aside_13 (by decide) ?_
    refine lv_istore (lv' := [(5, .int 0), (0, .ref (ad 91)), (1, .int (nI a1)), (2, .int (nI b1)), (3, .int (nI x1)), (4, .int (nI z1))]) hx hb dX8_aside_14 hl (by decide) rfl (fun ls hl => ?_)
    refine lv_iload hx hb dX8_aside_16 (lv_at hl 0 rfl) ?_
    refine lv_iconst (v := 4) hx hb dX8_aside_18 (by decide) ?_
    refine lv_icmp_ge (tgt := 45) hx hb dX8_aside_19 (by decide) (fun c_3 => absurd c_3 (by decide)) (fun c_3 => ?_)
    refine lv_aload_n hx hb dX8_aside_22 rfl (lv_at hl 1 rfl) ?_
    refine lv_iload_n hx hb dX8_aside_23 rfl (lv_at hl 2 rfl) ?_
    refine lv_iload_n hx hb dX8_aside_24 rfl (lv_at hl 3 rfl) ?_
    refine lv_iload hx hb dX8_aside_25 (lv_at hl 0 rfl) ?_
    refine lv_iload_n hx hb dX8_aside_27 rfl (lv_at hl 4 rfl) ?_
    refine lv_iload hx hb dX8_aside_28 (lv_at hl 5 rfl) ?_
    refine r_ci X hS (r_runV (As := [.int (nI a1), .int (nI b1), .int 0, .int (nI x1), .int (nI z1)]) (rest := []) C0 X hP L_X8_284 (fun sz => c_X8_rowsOf l D cA ad o σ a1 b1 0 x1 z1 ha1 hb1 (by decide) hx1 hz1 sz) (show 91 < 106 ∧ kd 91 = (8, 24) from ⟨by decide, rfl⟩).1 (show 91 < 106 ∧ kd 91 = (8, 24) from ⟨by decide, rfl⟩).2 (by decide) rfl ⟨Nat.le_of_ble_eq_true rfl, Nat.le_of_ble_eq_true rfl⟩ rfl hl.1 rfl (Nat.le_of_ble_eq_true rfl) dX8_aside_30 ⟨Nat.zero_le _, Nat.zero_le _⟩) (fun rw_4 σw_4 H locs hw_4 hP hS => ?_)
    refine lv_if_lt (tgt := 39) hx hb dX8_aside_33 (by decide) (fun c_5 => ?_) (fun c_5 => ?_)
    · refine lv_iinc (v := 1) (lv' := [(5, .int 1), (0, .ref (ad 91)), (1, .int (nI a1)), (2, .int (nI b1)), (3, .int (nI x1)), (4, .int (nI z1))]) hx hb dX8_aside_39 hl (k := 0) rfl (by decide) (by decide) rfl (fun ls hl => ?_)
      refine lv_goto (tgt := 16) hx hb dX8_aside_42 (by decide) ?_
      refine lv_iload hx hb dX8_aside_16 (lv_at hl 0 rfl) ?_
      refine lv_iconst (v := 4) hx hb dX8_aside_18 (by decide) ?_
      refine lv_icmp_ge (tgt := 45) hx hb dX8_aside_19 (by decide) (fun c_6 => absurd c_6 (by decide)) (fun c_6 => ?_)
      refine lv_aload_n hx hb dX8_aside_22 rfl (lv_at hl 1 rfl) ?_
      refine lv_iload_n hx hb dX8_aside_23 rfl (lv_at hl 2 rfl) ?_
      refine lv_iload_n hx hb dX8_aside_24 rfl (lv_at hl 3 rfl) ?_
      refine lv_iload hx hb dX8_aside_25 (lv_at hl 0 rfl) ?_
      refine lv_iload_n hx hb dX8_aside_27 rfl (lv_at hl 4 rfl) ?_
      refine lv_iload hx hb dX8_aside_28 (lv_at hl 5 rfl) ?_
      refine r_ci X hS (r_runV (As := [.int (nI a1), .int (nI b1), .int 1, .int (nI x1), .int (nI z1)]) (rest := []) C0 X hP L_X8_284 (fun sz => c_X8_rowsOf l D cA ad o σw_4 a1 b1 1 x1 z1 ha1 hb1 (by decide) hx1 hz1 sz) (show 91 < 106 ∧ kd 91 = (8, 24) from ⟨by decide, rfl⟩).1 (show 91 < 106 ∧ kd 91 = (8, 24) from ⟨by decide, rfl⟩).2 (by decide) rfl ⟨Nat.le_of_ble_eq_true rfl, Nat.le_of_ble_eq_true rfl⟩ rfl hl.1 rfl (Nat.le_of_ble_eq_true rfl) dX8_aside_30 ⟨Nat.zero_le _, Nat.zero_le _⟩) (fun rw_7 σw_7 H locs hw_7 hP hS => ?_)
      refine lv_if_lt (tgt := 39) hx hb dX8_aside_33 (by decide) (fun c_8 => ?_) (fun c_8 => ?_)
      · refine lv_iinc (v := 2) (lv' := [(5, .int 2), (0, .ref (ad 91)), (1, .int (nI a1)), (2, .int (nI b1)), (3, .int (nI x1)), (4, .int (nI z1))]) hx hb dX8_aside_39 hl (k := 0) rfl (by decide) (by decide) rfl (fun ls hl => ?_)
        refine lv_goto (tgt := 16) hx hb dX8_aside_42 (by decide) ?_
        refine lv_iload hx hb dX8_aside_16 (lv_at hl 0 rfl) ?_
        refine lv_iconst (v := 4) hx hb dX8_aside_18 (by decide) ?_
        refine lv_icmp_ge (tgt := 45) hx hb dX8_aside_19 (by decide) (fun c_9 => absurd c_9 (by decide)) (fun c_9 => ?_)
        refine lv_aload_n hx hb dX8_aside_22 rfl (lv_at hl 1 rfl) ?_
        refine lv_iload_n hx hb dX8_aside_23 rfl (lv_at hl 2 rfl) ?_
        refine lv_iload_n hx hb dX8_aside_24 rfl (lv_at hl 3 rfl) ?_
        refine lv_iload hx hb dX8_aside_25 (lv_at hl 0 rfl) ?_
        refine lv_iload_n hx hb dX8_aside_27 rfl (lv_at hl 4 rfl) ?_
        refine lv_iload hx hb dX8_aside_28 (lv_at hl 5 rfl) ?_
        refine r_ci X hS (r_runV (As := [.int (nI a1), .int (nI b1), .int 2, .int (nI x1), .int (nI z1)]) (rest := []) C0 X hP L_X8_284 (fun sz => c_X8_rowsOf l D cA ad o σw_7 a1 b1 2 x1 z1 ha1 hb1 (by decide) hx1 hz1 sz) (show 91 < 106 ∧ kd 91 = (8, 24) from ⟨by decide, rfl⟩).1 (show 91 < 106 ∧ kd 91 = (8, 24) from ⟨by decide, rfl⟩).2 (by decide) rfl ⟨Nat.le_of_ble_eq_true rfl, Nat.le_of_ble_eq_true rfl⟩ rfl hl.1 rfl (Nat.le_of_ble_eq_true rfl) dX8_aside_30 ⟨Nat.zero_le _, Nat.zero_le _⟩) (fun rw_10 σw_10 H locs hw_10 hP hS => ?_)
        refine lv_if_lt (tgt := 39) hx hb dX8_aside_33 (by decide) (fun c_11 => ?_) (fun c_11 => ?_)
        · refine lv_iinc (v := 3) (lv' := [(5, .int 3), (0, .ref (ad 91)), (1, .int (nI a1)), (2, .int (nI b1)), (3, .int (nI x1)), (4, .int (nI z1))]) hx hb dX8_aside_39 hl (k := 0) rfl (by decide) (by decide) rfl (fun ls hl => ?_)
          refine lv_goto (tgt := 16) hx hb dX8_aside_42 (by decide) ?_
          refine lv_iload hx hb dX8_aside_16 (lv_at hl 0 rfl) ?_
          refine lv_iconst (v := 4) hx hb dX8_aside_18 (by decide) ?_
          refine lv_icmp_ge (tgt := 45) hx hb dX8_aside_19 (by decide) (fun c_12 => absurd c_12 (by decide)) (fun c_12 => ?_)
          refine lv_aload_n hx hb dX8_aside_22 rfl (lv_at hl 1 rfl) ?_
          refine lv_iload_n hx hb dX8_aside_23 rfl (lv_at hl 2 rfl) ?_
          refine lv_iload_n hx hb dX8_aside_24 rfl (lv_at hl 3 rfl) ?_
          refine lv_iload hx hb dX8_aside_25 (lv_at hl 0 rfl) ?_
          refine lv_iload_n hx hb dX8_aside_27 rfl (lv_at hl 4 rfl) ?_
          refine lv_iload hx hb dX8_aside_28 (lv_at hl 5 rfl) ?_
          refine r_ci X hS (r_runV (As := [.int (nI a1), .int (nI b1), .int 3, .int (nI x1), .int (nI z1)]) (rest := []) C0 X hP L_X8_284 (fun sz => c_X8_rowsOf l D cA ad o σw_10 a1 b1 3 x1 z1 ha1 hb1 (by decide) hx1 hz1 sz) (show 91 < 106 ∧ kd 91 = (8, 24) from ⟨by decide, rfl⟩).1 (show 91 < 106 ∧ kd 91 = (8, 24) from ⟨by decide, rfl⟩).2 (by decide) rfl ⟨Nat.le_of_ble_eq_true rfl, Nat.le_of_ble_eq_true rfl⟩ rfl hl.1 rfl (Nat.le_of_ble_eq_true rfl) dX8_aside_30 ⟨Nat.zero_le _, Nat.zero_le _⟩) (fun rw_13 σw_13 H locs hw_13 hP hS => ?_)
          refine lv_if_lt (tgt := 39) hx hb dX8_aside_33 (by decide) (fun c_14 => ?_) (fun c_14 => ?_)
          · refine lv_iinc (v := 4) (lv' := [(5, .int 4), (0, .ref (ad 91)), (1, .int (nI a1)), (2, .int (nI b1)), (3, .int (nI x1)), (4, .int (nI z1))]) hx hb dX8_aside_39 hl (k := 0) rfl (by decide) (by decide) rfl (fun ls hl => ?_)
            refine lv_goto (tgt := 16) hx hb dX8_aside_42 (by decide) ?_
            refine lv_iload hx hb dX8_aside_16 (lv_at hl 0 rfl) ?_
            refine lv_iconst (v := 4) hx hb dX8_aside_18 (by decide) ?_
            refine lv_icmp_ge (tgt := 45) hx hb dX8_aside_19 (by decide) (fun c_15 => ?_) (fun c_15 => absurd c_15 (by decide))
            refine lv_bipush (v := (-4)) hx hb dX8_aside_45 (by decide) ?_
            exact r_iret C0 X hP hS hr hlk dX8_aside_47 ⟨(by rw [AS_eq ha1 hb1 hx1 hz1 b_1, ASn, if_neg (show ¬ ¬ RWn a1 b1 0 x1 z1 = -4 from fun h9 => h9 ((RWn_neg ha1 hb1 hx1).mp (by rw [← hw_4.1]; exact c_5))), if_neg (show ¬ ¬ RWn a1 b1 1 x1 z1 = -4 from fun h9 => h9 ((RWn_neg ha1 hb1 hx1).mp (by rw [← hw_7.1]; exact c_8))), if_neg (show ¬ ¬ RWn a1 b1 2 x1 z1 = -4 from fun h9 => h9 ((RWn_neg ha1 hb1 hx1).mp (by rw [← hw_10.1]; exact c_11))), if_neg (show ¬ ¬ RWn a1 b1 3 x1 z1 = -4 from fun h9 => h9 ((RWn_neg ha1 hb1 hx1).mp (by rw [← hw_13.1]; exact c_14)))]), Fr9_tr (Fr9_tr (Fr9_tr (hw_4.2) hw_7.2) hw_10.2) hw_13.2⟩
          · refine lv_iload hx hb dX8_aside_36 (lv_at hl 0 rfl) ?_
            exact r_iret C0 X hP hS hr hlk dX8_aside_38 ⟨(by rw [AS_eq ha1 hb1 hx1 hz1 b_1, ASn, if_neg (show ¬ ¬ RWn a1 b1 0 x1 z1 = -4 from fun h9 => h9 ((RWn_neg ha1 hb1 hx1).mp (by rw [← hw_4.1]; exact c_5))), if_neg (show ¬ ¬ RWn a1 b1 1 x1 z1 = -4 from fun h9 => h9 ((RWn_neg ha1 hb1 hx1).mp (by rw [← hw_7.1]; exact c_8))), if_neg (show ¬ ¬ RWn a1 b1 2 x1 z1 = -4 from fun h9 => h9 ((RWn_neg ha1 hb1 hx1).mp (by rw [← hw_10.1]; exact c_11))), if_pos (show ¬ RWn a1 b1 3 x1 z1 = -4 from fun h9 => c_14 (by rw [hw_13.1]; exact (RWn_neg ha1 hb1 hx1).mpr h9))]), Fr9_tr (Fr9_tr (Fr9_tr (hw_4.2) hw_7.2) hw_10.2) hw_13.2⟩
        · refine lv_iload hx hb dX8_aside_36 (lv_at hl 0 rfl) ?_
          exact r_iret C0 X hP hS hr hlk dX8_aside_38 ⟨(by rw [AS_eq ha1 hb1 hx1 hz1 b_1, ASn, if_neg (show ¬ ¬ RWn a1 b1 0 x1 z1 = -4 from fun h9 => h9 ((RWn_neg ha1 hb1 hx1).mp (by rw [← hw_4.1]; exact c_5))), if_neg (show ¬ ¬ RWn a1 b1 1 x1 z1 = -4 from fun h9 => h9 ((RWn_neg ha1 hb1 hx1).mp (by rw [← hw_7.1]; exact c_8))), if_pos (show ¬ RWn a1 b1 2 x1 z1 = -4 from fun h9 => c_11 (by rw [hw_10.1]; exact (RWn_neg ha1 hb1 hx1).mpr h9))]), Fr9_tr (Fr9_tr (hw_4.2) hw_7.2) hw_10.2⟩
      · refine lv_iload hx hb dX8_aside_36 (lv_at hl 0 rfl) ?_
        exact r_iret C0 X hP hS hr hlk dX8_aside_38 ⟨(by rw [AS_eq ha1 hb1 hx1 hz1 b_1, ASn, if_neg (show ¬ ¬ RWn a1 b1 0 x1 z1 = -4 from fun h9 => h9 ((RWn_neg ha1 hb1 hx1).mp (by rw [← hw_4.1]; exact c_5))), if_pos (show ¬ RWn a1 b1 1 x1 z1 = -4 from fun h9 => c_8 (by rw [hw_7.1]; exact (RWn_neg ha1 hb1 hx1).mpr h9))]), Fr9_tr (hw_4.2) hw_7.2⟩
    · refine lv_iload hx hb dX8_aside_36 (lv_at hl 0 rfl) ?_
      exact r_iret C0 X hP hS hr hlk dX8_aside_38 ⟨(by rw [AS_eq ha1 hb1 hx1 hz1 b_1, ASn, if_pos (show ¬ RWn a1 b1 0 x1 z1 = -4 from fun h9 => c_5 (by rw [hw_4.1]; exact (RWn_neg ha1 hb1 hx1).mpr h9))]), hw_4.2⟩
  · refine lv_if_ne (tgt := 13) hx hb dX8_aside_8 (by decide) (fun c_16 => absurd c_16 (by decide)) (fun c_16 => ?_)
    refine lv_iconst (v := (-1)) hx hb dX8_aside_11 (by decide) ?_
    exact r_iret C0 X hP hS hr hlk dX8_aside_12 ⟨(by rw [AS, if_neg b_1]), Fr9_rf _⟩
