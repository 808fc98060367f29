/-! toss on both sides; the reference's element -/
theorem call_toss (x : Int32) : CALR (fun σ => F_X7_toss σ x) (fun σ => F_X8_toss σ x) := by
  intro σ ρ I
  have S := I.2.2.2.2
  show ∃ r, F_X7_toss σ x = some r ∧ F_X8_toss ρ x = some r
  unfold F_X7_toss F_X8_toss F_X8_wrongRule
  rcases shelf_x (ρ := ρ) x with ⟨h1, h2⟩ | ⟨d, hd, rfl, h1, h2⟩
  · rw [if_pos h1, h2, Option.bind_some, if_pos rfl]; exact ⟨-1, rfl, rfl⟩
  · obtain ⟨⟨s1, s2⟩, s3, -, -, -⟩ := S d hd
    rw [if_neg h1, h2, ix_nI hd (by decide)]
    simp only [obs, i10, if_false]
    rw [s1]
    rcases s2 with q | q | q <;> rw [q]
    · exact ⟨-11, rfl, rfl⟩
    · obtain ⟨t1, t2, -, -⟩ := s3 q
      rw [t1, t2]
      obtain ⟨w, w1, w2⟩ := words_t (ρ 100 d) (ρ 101 d)
      rw [w1, w2]
      generalize ρ 100 d = K
      generalize ρ 101 d = F
      show ∃ r, (if K = 3 ∨ F = 0 then some (-15) else if K = 5 then some (200 + w) else if K = 6 then some (100 + F) else some F) = some r ∧ (if K = 3 then some (-15) else if F = 0 then some (-15) else if K = 6 then some (100 + F) else if K = 5 then some (200 + w) else some F) = some r
      by_cases k3 : K = 3
      · rw [if_pos (Or.inl k3), if_pos k3]; exact ⟨_, rfl, rfl⟩
      · by_cases f0 : F = 0
        · rw [if_pos (Or.inr f0), if_neg k3, if_pos f0]; exact ⟨_, rfl, rfl⟩
        · rw [if_neg (fun z => z.elim k3 f0), if_neg k3, if_neg f0]
          by_cases k5 : K = 5
          · have k6 : ¬ K = 6 := by rw [k5]; decide
            rw [if_pos k5, if_neg k6, if_pos k5]; exact ⟨_, rfl, rfl⟩
          · rw [if_neg k5]
            by_cases k6 : K = 6
            · rw [if_pos k6, if_pos k6]; exact ⟨_, rfl, rfl⟩
            · rw [if_neg k6, if_neg k6, if_neg k5]; exact ⟨_, rfl, rfl⟩
    · exact ⟨-12, rfl, rfl⟩
/-- the reference's element: what it writes, what it answers -/
def F_X8_element (σ : Mem) (x1 x2 : Int32) : Option (Mem × Int64) := (F_X8_isShelf σ x1).bind fun r => if r = 0 then some (stm σ 91 11 1, (0 : Int32).toInt64) else (ix 8 x1).bind fun k => if σ 96 k = 2 then (if 0 ≤ x2 ∧ x2 ≤ (σ 98 k) - 1 then (ix 800 (100 * x1 + x2)).bind fun q => some (stm σ 91 11 0, (σ 99 q).toInt64) else some (stm σ 91 11 2, (0 : Int32).toInt64)) else some (stm σ 91 11 2, (0 : Int32).toInt64)
def bB_cX8_element : Nat := 0xad090400a7852e601c681b64101f00b42a12009a3100b42a3100b5030400a70507009a3500b88564042e1b1c00b42a09851c1500a0052e1b1600b42a2400a70407009a6900b81b2a
theorem yB_cX8_element : BYS cX8_element 72 bB_cX8_element := BYS_of (by decide +kernel)
theorem dX8_element_0 : decode cX8_element 0 = .ok (.aload_n 0, 1) := D_42 yB_cX8_element rfl rfl
theorem dX8_element_1 : decode cX8_element 1 = .ok (.iload_n 1, 1) := D_27 yB_cX8_element rfl rfl
theorem dX8_element_2 : decode cX8_element 2 = .ok (.invokestatic 105, 3) := D_184 yB_cX8_element rfl rfl rfl
theorem dX8_element_5 : decode cX8_element 5 = .ok (.ifCond .ne 7, 3) := D_154 yB_cX8_element rfl rfl (sg_p (m := 32768) (N := 7) rfl rfl rfl)
theorem dX8_element_8 : decode cX8_element 8 = .ok (.iconst 1, 1) := D_4 yB_cX8_element rfl rfl
theorem dX8_element_9 : decode cX8_element 9 = .ok (.goto 36, 3) := D_167 yB_cX8_element rfl rfl (sg_p (m := 32768) (N := 36) rfl rfl rfl)
theorem dX8_element_12 : decode cX8_element 12 = .ok (.aload_n 0, 1) := D_42 yB_cX8_element rfl rfl
theorem dX8_element_13 : decode cX8_element 13 = .ok (.getfield 22, 3) := D_180 yB_cX8_element rfl rfl rfl
theorem dX8_element_16 : decode cX8_element 16 = .ok (.iload_n 1, 1) := D_27 yB_cX8_element rfl rfl
theorem dX8_element_17 : decode cX8_element 17 = .ok (.iaload, 1) := D_46 yB_cX8_element rfl rfl
theorem dX8_element_18 : decode cX8_element 18 = .ok (.iconst 2, 1) := D_5 yB_cX8_element rfl rfl
theorem dX8_element_19 : decode cX8_element 19 = .ok (.if_icmp .ne 21, 3) := D_160 yB_cX8_element rfl rfl (sg_p (m := 32768) (N := 21) rfl rfl rfl)
theorem dX8_element_22 : decode cX8_element 22 = .ok (.iload_n 2, 1) := D_28 yB_cX8_element rfl rfl
theorem dX8_element_23 : decode cX8_element 23 = .ok (.i2l, 1) := D_133 yB_cX8_element rfl rfl
theorem dX8_element_24 : decode cX8_element 24 = .ok (.lconst 0, 1) := D_9 yB_cX8_element rfl rfl
theorem dX8_element_25 : decode cX8_element 25 = .ok (.aload_n 0, 1) := D_42 yB_cX8_element rfl rfl
theorem dX8_element_26 : decode cX8_element 26 = .ok (.getfield 28, 3) := D_180 yB_cX8_element rfl rfl rfl
theorem dX8_element_29 : decode cX8_element 29 = .ok (.iload_n 1, 1) := D_27 yB_cX8_element rfl rfl
theorem dX8_element_30 : decode cX8_element 30 = .ok (.iaload, 1) := D_46 yB_cX8_element rfl rfl
theorem dX8_element_31 : decode cX8_element 31 = .ok (.iconst 1, 1) := D_4 yB_cX8_element rfl rfl
theorem dX8_element_32 : decode cX8_element 32 = .ok (.isub, 1) := D_100 yB_cX8_element rfl rfl
theorem dX8_element_33 : decode cX8_element 33 = .ok (.i2l, 1) := D_133 yB_cX8_element rfl rfl
theorem dX8_element_34 : decode cX8_element 34 = .ok (.invokestatic 53, 3) := D_184 yB_cX8_element rfl rfl rfl
theorem dX8_element_37 : decode cX8_element 37 = .ok (.ifCond .ne 7, 3) := D_154 yB_cX8_element rfl rfl (sg_p (m := 32768) (N := 7) rfl rfl rfl)
theorem dX8_element_40 : decode cX8_element 40 = .ok (.iconst 2, 1) := D_5 yB_cX8_element rfl rfl
theorem dX8_element_41 : decode cX8_element 41 = .ok (.goto 4, 3) := D_167 yB_cX8_element rfl rfl (sg_p (m := 32768) (N := 4) rfl rfl rfl)
theorem dX8_element_44 : decode cX8_element 44 = .ok (.iconst 0, 1) := D_3 yB_cX8_element rfl rfl
theorem dX8_element_45 : decode cX8_element 45 = .ok (.putfield 49, 3) := D_181 yB_cX8_element rfl rfl rfl
theorem dX8_element_48 : decode cX8_element 48 = .ok (.aload_n 0, 1) := D_42 yB_cX8_element rfl rfl
theorem dX8_element_49 : decode cX8_element 49 = .ok (.getfield 49, 3) := D_180 yB_cX8_element rfl rfl rfl
theorem dX8_element_52 : decode cX8_element 52 = .ok (.ifCond .ne 18, 3) := D_154 yB_cX8_element rfl rfl (sg_p (m := 32768) (N := 18) rfl rfl rfl)
theorem dX8_element_55 : decode cX8_element 55 = .ok (.aload_n 0, 1) := D_42 yB_cX8_element rfl rfl
theorem dX8_element_56 : decode cX8_element 56 = .ok (.getfield 31, 3) := D_180 yB_cX8_element rfl rfl rfl
theorem dX8_element_59 : decode cX8_element 59 = .ok (.bipush 100, 2) := D_16 yB_cX8_element rfl rfl (sg_p (m := 128) (N := 100) rfl rfl rfl)
theorem dX8_element_61 : decode cX8_element 61 = .ok (.iload_n 1, 1) := D_27 yB_cX8_element rfl rfl
theorem dX8_element_62 : decode cX8_element 62 = .ok (.imul, 1) := D_104 yB_cX8_element rfl rfl
theorem dX8_element_63 : decode cX8_element 63 = .ok (.iload_n 2, 1) := D_28 yB_cX8_element rfl rfl
theorem dX8_element_64 : decode cX8_element 64 = .ok (.iadd, 1) := D_96 yB_cX8_element rfl rfl
theorem dX8_element_65 : decode cX8_element 65 = .ok (.iaload, 1) := D_46 yB_cX8_element rfl rfl
theorem dX8_element_66 : decode cX8_element 66 = .ok (.i2l, 1) := D_133 yB_cX8_element rfl rfl
theorem dX8_element_67 : decode cX8_element 67 = .ok (.goto 4, 3) := D_167 yB_cX8_element rfl rfl (sg_p (m := 32768) (N := 4) rfl rfl rfl)
theorem dX8_element_70 : decode cX8_element 70 = .ok (.lconst 0, 1) := D_9 yB_cX8_element rfl rfl
theorem dX8_element_71 : decode cX8_element 71 = .ok (.lreturn, 1) := D_173 yB_cX8_element rfl rfl
set_option maxHeartbeats 4000000 in
set_option maxRecDepth 100000 in
theorem c_X8_element (l : Launch) (D : va_G) (cA : Nat → ClassId) (ad : Nat → Nat) (o : Int64) (σ : Mem) (x1 x2 : Int32) (res : Mem × Int64) (h : F_X8_element σ x1 x2 = some res) (sz : Nat) : Met l yX8_element (WY yX8_element cX8_element 3 (some .long)) (RM 2) (va_Pc [.ref (ad 91), .int x1, .int x2] (PW D cA ad o σ sz)) (va_Ql (fun r σ9 => r = res.2 ∧ σ9 = res.1) (QW D cA ad o) (FA ad sz)) 0 0 (FA ad sz) := by
  refine ct_of (own := RX8) (k := 2) (Qf := va_Ql (fun r σ9 => r = res.2 ∧ σ9 = res.1) (QW D cA ad o)) rfl (by decide) (Nat.le_of_ble_eq_true rfl) (fun p e s m below meth c ls C0 X hr hlk hP hl => ?_) sz
  have hS : va_S (FA ad s.heap.size) s.heap s.heap [] := va_S.rf
  have hl : lv_has ls 3 [(0, .ref (ad 91)), (1, .int x1), (2, .int x2)] := hl
  obtain ⟨hx, hb, hml, hown, hts⟩ := id C0
  unfold F_X8_element at h
  refine lv_aload_n hx hb dX8_element_0 rfl (lv_at hl 0 rfl) ?_
  refine lv_iload_n hx hb dX8_element_1 rfl (lv_at hl 1 rfl) ?_
  obtain ⟨r_1, er_1, h⟩ := bnd h
  refine r_ci X hS (r_runS (As := [.int x1]) (rest := [.ref (ad 91)]) C0 X hP L_X8_105 (fun sz => c_X8_isShelf l D cA ad o σ x1 r_1 er_1 sz) ⟨Nat.le_of_ble_eq_true rfl, Nat.le_of_ble_eq_true rfl⟩ rfl hl.1 rfl (Nat.le_of_ble_eq_true rfl) dX8_element_2 ⟨Nat.zero_le _, Nat.zero_le _⟩) (fun r9 σ9 H locs hw hP hS => ?_)
  rw [hw.2] at hP
  rw [hw.1]
  refine lv_if_ne (tgt := 12) hx hb dX8_element_5 (by decide) (fun c_2 => ?_) (fun c_2 => ?_)
  rotate_left
  · rw [if_pos c_2] at h
    refine lv_iconst (v := 1) hx hb dX8_element_8 (by decide) ?_
    refine lv_goto (tgt := 45) hx hb dX8_element_9 (by decide) ?_
    refine pf_X8_49 C0 X hP hS 91 ⟨by decide, rfl⟩ dX8_element_45 (fun H locs hP hS => ?_)
    refine lv_aload_n hx hb dX8_element_48 rfl (lv_at hl 0 rfl) ?_
    refine gf_X8_49 C0 X hP 91 ⟨by decide, rfl⟩ dX8_element_49 ?_
    refine lv_topE (y := 1) (by rw [stm_row, upd_at]) ?_
    refine lv_if_ne (tgt := 70) hx hb dX8_element_52 (by decide) (fun c_7 => ?_) (fun c_7 => absurd c_7 (by decide))
    refine lv_lconst (v := ((0 : Int32).toInt64)) hx hb dX8_element_70 (by decide) ?_
    exact r_lret C0 X hP hS hr hlk dX8_element_71 ⟨congrArg Prod.snd (Option.some.inj h), congrArg Prod.fst (Option.some.inj h)⟩
  rw [if_neg c_2] at h
  obtain ⟨k_3, ek_3, h⟩ := bnd h
  replace ek_3 := ix_s ek_3 (by decide)
  refine lv_aload_n hx hb dX8_element_12 rfl (lv_at hl 0 rfl) ?_
  refine gf_X8_22 C0 X hP 91 (q := 96) ⟨by decide, rfl⟩ (by omega) rfl dX8_element_13 ?_
  refine lv_iload_n hx hb dX8_element_16 rfl (lv_at hl 1 rfl) ?_
  refine r_ialdN C0 X hP 96 (k := k_3) ⟨by decide, rfl⟩ ek_3.1 ek_3.2 dX8_element_17 ?_
  refine lv_iconst (v := 2) hx hb dX8_element_18 (by decide) ?_
  refine lv_icmp_ne (tgt := 40) hx hb dX8_element_19 (by decide) (fun c_4 => ?_) (fun c_4 => ?_)
  · rw [if_neg c_4] at h
    refine lv_iconst (v := 2) hx hb dX8_element_40 (by decide) ?_
    refine lv_goto (tgt := 45) hx hb dX8_element_41 (by decide) ?_
    refine pf_X8_49 C0 X hP hS 91 ⟨by decide, rfl⟩ dX8_element_45 (fun H locs hP hS => ?_)
    refine lv_aload_n hx hb dX8_element_48 rfl (lv_at hl 0 rfl) ?_
    refine gf_X8_49 C0 X hP 91 ⟨by decide, rfl⟩ dX8_element_49 ?_
    refine lv_topE (y := 2) (by rw [stm_row, upd_at]) ?_
    refine lv_if_ne (tgt := 70) hx hb dX8_element_52 (by decide) (fun c_7 => ?_) (fun c_7 => absurd c_7 (by decide))
    refine lv_lconst (v := ((0 : Int32).toInt64)) hx hb dX8_element_70 (by decide) ?_
    exact r_lret C0 X hP hS hr hlk dX8_element_71 ⟨congrArg Prod.snd (Option.some.inj h), congrArg Prod.fst (Option.some.inj h)⟩
  rw [if_pos c_4] at h
  refine lv_iload_n hx hb dX8_element_22 rfl (lv_at hl 2 rfl) ?_
  refine lv_i2l (v := x2.toInt64) hx hb dX8_element_23 rfl ?_
  refine lv_lconst (v := ((0 : Int32).toInt64)) hx hb dX8_element_24 (by decide) ?_
  refine lv_aload_n hx hb dX8_element_25 rfl (lv_at hl 0 rfl) ?_
  refine gf_X8_28 C0 X hP 91 (q := 98) ⟨by decide, rfl⟩ (by omega) rfl dX8_element_26 ?_
  refine lv_iload_n hx hb dX8_element_29 rfl (lv_at hl 1 rfl) ?_
  refine r_ialdN C0 X hP 98 (k := k_3) ⟨by decide, rfl⟩ ek_3.1 ek_3.2 dX8_element_30 ?_
  refine lv_iconst (v := 1) hx hb dX8_element_31 (by decide) ?_
  refine lv_isub hx hb dX8_element_32 ?_
  refine lv_i2l (v := ((σ 98 k_3 - 1).toInt64)) hx hb dX8_element_33 rfl ?_
  refine r_ci X hS (r_runS (As := [.long (x2.toInt64), .long ((0 : Int32).toInt64), .long ((σ 98 k_3 - 1).toInt64)]) (rest := [.ref (ad 91)]) C0 X hP L_X8_53 (fun sz => c_X8_isIn l D cA ad o σ x2 0 (σ 98 k_3 - 1) sz) ⟨Nat.le_of_ble_eq_true rfl, Nat.le_of_ble_eq_true rfl⟩ rfl hl.1 rfl (Nat.le_of_ble_eq_true rfl) dX8_element_34 ⟨Nat.zero_le _, Nat.zero_le _⟩) (fun r9 σ9 H locs hw hP hS => ?_)
  rw [hw.2] at hP
  obtain ⟨⟨b_5, rfl⟩ | ⟨b_5, rfl⟩, -⟩ := hw
  · rw [if_pos b_5] at h
    obtain ⟨k_6, ek_6, h⟩ := bnd h
    replace ek_6 := ix_s ek_6 (by decide)
    refine lv_if_ne (tgt := 44) hx hb dX8_element_37 (by decide) (fun c_6 => ?_) (fun c_6 => absurd c_6 (by decide))
    refine lv_iconst (v := 0) hx hb dX8_element_44 (by decide) ?_
    refine pf_X8_49 C0 X hP hS 91 ⟨by decide, rfl⟩ dX8_element_45 (fun H locs hP hS => ?_)
    refine lv_aload_n hx hb dX8_element_48 rfl (lv_at hl 0 rfl) ?_
    refine gf_X8_49 C0 X hP 91 ⟨by decide, rfl⟩ dX8_element_49 ?_
    refine lv_topE (y := 0) (by rw [stm_row, upd_at]) ?_
    refine lv_if_ne (tgt := 70) hx hb dX8_element_52 (by decide) (fun c_7 => absurd rfl c_7) (fun c_7 => ?_)
    refine lv_aload_n hx hb dX8_element_55 rfl (lv_at hl 0 rfl) ?_
    refine gf_X8_31 C0 X hP 91 (q := 99) ⟨by decide, rfl⟩ (by omega) rfl dX8_element_56 ?_
    refine lv_bipush (v := 100) hx hb dX8_element_59 (by decide) ?_
    refine lv_iload_n hx hb dX8_element_61 rfl (lv_at hl 1 rfl) ?_
    refine lv_imul hx hb dX8_element_62 ?_
    refine lv_iload_n hx hb dX8_element_63 rfl (lv_at hl 2 rfl) ?_
    refine lv_iadd hx hb dX8_element_64 ?_
    refine r_ialdN C0 X hP 99 (k := k_6) ⟨by decide, rfl⟩ ek_6.1 ek_6.2 dX8_element_65 ?_
    refine lv_topE (y := σ 99 k_6) (by rw [stm_ne _ _ _ (by decide)]) ?_
    refine lv_i2l (v := (σ 99 k_6).toInt64) hx hb dX8_element_66 rfl ?_
    refine lv_goto (tgt := 71) hx hb dX8_element_67 (by decide) ?_
    exact r_lret C0 X hP hS hr hlk dX8_element_71 ⟨congrArg Prod.snd (Option.some.inj h), congrArg Prod.fst (Option.some.inj h)⟩
  · rw [if_neg (fun z => b_5.elim (Int32.not_lt.mpr z.1) (Int32.not_lt.mpr z.2))] at h
    refine lv_if_ne (tgt := 44) hx hb dX8_element_37 (by decide) (fun c_6 => absurd rfl c_6) (fun c_6 => ?_)
    refine lv_iconst (v := 2) hx hb dX8_element_40 (by decide) ?_
    refine lv_goto (tgt := 45) hx hb dX8_element_41 (by decide) ?_
    refine pf_X8_49 C0 X hP hS 91 ⟨by decide, rfl⟩ dX8_element_45 (fun H locs hP hS => ?_)
    refine lv_aload_n hx hb dX8_element_48 rfl (lv_at hl 0 rfl) ?_
    refine gf_X8_49 C0 X hP 91 ⟨by decide, rfl⟩ dX8_element_49 ?_
    refine lv_topE (y := 2) (by rw [stm_row, upd_at]) ?_
    refine lv_if_ne (tgt := 70) hx hb dX8_element_52 (by decide) (fun c_7 => ?_) (fun c_7 => absurd c_7 (by decide))
    refine lv_lconst (v := ((0 : Int32).toInt64)) hx hb dX8_element_70 (by decide) ?_
    exact r_lret C0 X hP hS hr hlk dX8_element_71 ⟨congrArg Prod.snd (Option.some.inj h), congrArg Prod.fst (Option.some.inj h)⟩
