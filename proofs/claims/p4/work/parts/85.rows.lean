abbrev RWok (a b x z : Int32) : Prop := ¬ a < 0 ∧ ¬ 3 < a ∧ ¬ b < 0 ∧ ¬ 3 < b ∧ ¬ x < a ∧ ¬ 6 < x ∧ ¬ z < b ∧ ¬ 6 < z
def RWv (a b q x z : Int32) : Int32 := if RWok a b x z ∧ ¬ q < 0 ∧ ¬ 3 < q then RWn a.toNatClampNeg b.toNatClampNeg q.toNatClampNeg x.toNatClampNeg z.toNatClampNeg else -1
def ASn (a b x z : Nat) : Int32 := if ¬ RWn a b 0 x z = -4 then 0 else if ¬ RWn a b 1 x z = -4 then 1 else if ¬ RWn a b 2 x z = -4 then 2 else if ¬ RWn a b 3 x z = -4 then 3 else -4
def AS (a b x z : Int32) : Int32 := if RWok a b x z then ASn a.toNatClampNeg b.toNatClampNeg x.toNatClampNeg z.toNatClampNeg else -1
theorem in3 {a : Int32} (h : ¬ a < 0) (h2 : ¬ 3 < a) : ∃ j : Nat, j ≤ 3 ∧ a = nI j := by
  obtain ⟨j, hj, e⟩ := ixN (x := a) (M := 4) (n := 4) (by decide) h (Int32.not_le.mp (nsucc (by decide) h2))
  exact ⟨j, by omega, e⟩
theorem in6 {a x : Int32} (h : ¬ a < 0) (h1 : ¬ x < a) (h2 : ¬ 6 < x) : ∃ j : Nat, j ≤ 6 ∧ x = nI j := by
  have h0 : ¬ x < 0 := fun q => by
    rw [Int32.lt_iff_toInt_lt] at h h1 q
    have e : (0 : Int32).toInt = 0 := by decide
    omega
  obtain ⟨j, hj, e⟩ := ixN (x := x) (M := 7) (n := 7) (by decide) h0 (Int32.not_le.mp (nsucc (by decide) h2))
  exact ⟨j, by omega, e⟩
theorem RW_eq {a b q x z : Nat} (ha : a ≤ 3) (hb : b ≤ 3) (hq : q ≤ 3) (hx : x ≤ 6) (hz : z ≤ 6) (h : RWok (nI a) (nI b) (nI x) (nI z)) : RWv (nI a) (nI b) (nI q) (nI x) (nI z) = RWn a b q x z := by
  rw [RWv, if_pos ⟨h, nI_pos (by omega), nI_nlt (a := 3) (b := q) hq (by decide)⟩, nI_clamp (by omega), nI_clamp (by omega), nI_clamp (by omega), nI_clamp (by omega), nI_clamp (by omega)]
theorem AS_eq {a b x z : Nat} (ha : a ≤ 3) (hb : b ≤ 3) (hx : x ≤ 6) (hz : z ≤ 6) (h : RWok (nI a) (nI b) (nI x) (nI z)) : AS (nI a) (nI b) (nI x) (nI z) = ASn a b x z := by
  rw [AS, if_pos h, nI_clamp (by omega), nI_clamp (by omega), nI_clamp (by omega), nI_clamp (by omega)]
theorem FrL_trans {σ σ' σ'' : Mem} (h : ∀ a9, a9 ≠ 88 → a9 ≠ 89 → a9 ≠ 90 → σ' a9 = σ a9) (k : ∀ a9, a9 ≠ 88 → a9 ≠ 89 → a9 ≠ 90 → σ'' a9 = σ' a9) : ∀ a9, a9 ≠ 88 → a9 ≠ 89 → a9 ≠ 90 → σ'' a9 = σ a9 := fun a9 h1 h2 h3 => (k a9 h1 h2 h3).trans (h a9 h1 h2 h3)
theorem FrL_91 {σ σ' : Mem} (h : ∀ a9, a9 ≠ 88 → a9 ≠ 89 → a9 ≠ 90 → σ' a9 = σ a9) : ∀ a9, 91 ≤ a9 → σ' a9 = σ a9 := fun a9 h9 => h a9 (by omega) (by omega) (by omega)
def bB_cX7_areRows : Nat := 0xac030400a7040700a306101d0d00a11b1d1200a306101c1800a11a1c1d00a3061b22009b1b2600a3061a2b009b1a
theorem yB_cX7_areRows : BYS cX7_areRows 46 bB_cX7_areRows := BYS_of (by decide +kernel)
theorem dX7_areRows_0 : decode cX7_areRows 0 = .ok (.iload_n 0, 1) := D_26 yB_cX7_areRows rfl rfl
theorem dX7_areRows_1 : decode cX7_areRows 1 = .ok (.ifCond .lt 43, 3) := D_155 yB_cX7_areRows rfl rfl (sg_p (m := 32768) (N := 43) rfl rfl rfl)
theorem dX7_areRows_4 : decode cX7_areRows 4 = .ok (.iload_n 0, 1) := D_26 yB_cX7_areRows rfl rfl
theorem dX7_areRows_5 : decode cX7_areRows 5 = .ok (.iconst 3, 1) := D_6 yB_cX7_areRows rfl rfl
theorem dX7_areRows_6 : decode cX7_areRows 6 = .ok (.if_icmp .gt 38, 3) := D_163 yB_cX7_areRows rfl rfl (sg_p (m := 32768) (N := 38) rfl rfl rfl)
theorem dX7_areRows_9 : decode cX7_areRows 9 = .ok (.iload_n 1, 1) := D_27 yB_cX7_areRows rfl rfl
theorem dX7_areRows_10 : decode cX7_areRows 10 = .ok (.ifCond .lt 34, 3) := D_155 yB_cX7_areRows rfl rfl (sg_p (m := 32768) (N := 34) rfl rfl rfl)
theorem dX7_areRows_13 : decode cX7_areRows 13 = .ok (.iload_n 1, 1) := D_27 yB_cX7_areRows rfl rfl
theorem dX7_areRows_14 : decode cX7_areRows 14 = .ok (.iconst 3, 1) := D_6 yB_cX7_areRows rfl rfl
theorem dX7_areRows_15 : decode cX7_areRows 15 = .ok (.if_icmp .gt 29, 3) := D_163 yB_cX7_areRows rfl rfl (sg_p (m := 32768) (N := 29) rfl rfl rfl)
theorem dX7_areRows_18 : decode cX7_areRows 18 = .ok (.iload_n 2, 1) := D_28 yB_cX7_areRows rfl rfl
theorem dX7_areRows_19 : decode cX7_areRows 19 = .ok (.iload_n 0, 1) := D_26 yB_cX7_areRows rfl rfl
theorem dX7_areRows_20 : decode cX7_areRows 20 = .ok (.if_icmp .lt 24, 3) := D_161 yB_cX7_areRows rfl rfl (sg_p (m := 32768) (N := 24) rfl rfl rfl)
theorem dX7_areRows_23 : decode cX7_areRows 23 = .ok (.iload_n 2, 1) := D_28 yB_cX7_areRows rfl rfl
theorem dX7_areRows_24 : decode cX7_areRows 24 = .ok (.bipush 6, 2) := D_16 yB_cX7_areRows rfl rfl (sg_p (m := 128) (N := 6) rfl rfl rfl)
theorem dX7_areRows_26 : decode cX7_areRows 26 = .ok (.if_icmp .gt 18, 3) := D_163 yB_cX7_areRows rfl rfl (sg_p (m := 32768) (N := 18) rfl rfl rfl)
theorem dX7_areRows_29 : decode cX7_areRows 29 = .ok (.iload_n 3, 1) := D_29 yB_cX7_areRows rfl rfl
theorem dX7_areRows_30 : decode cX7_areRows 30 = .ok (.iload_n 1, 1) := D_27 yB_cX7_areRows rfl rfl
theorem dX7_areRows_31 : decode cX7_areRows 31 = .ok (.if_icmp .lt 13, 3) := D_161 yB_cX7_areRows rfl rfl (sg_p (m := 32768) (N := 13) rfl rfl rfl)
theorem dX7_areRows_34 : decode cX7_areRows 34 = .ok (.iload_n 3, 1) := D_29 yB_cX7_areRows rfl rfl
theorem dX7_areRows_35 : decode cX7_areRows 35 = .ok (.bipush 6, 2) := D_16 yB_cX7_areRows rfl rfl (sg_p (m := 128) (N := 6) rfl rfl rfl)
theorem dX7_areRows_37 : decode cX7_areRows 37 = .ok (.if_icmp .gt 7, 3) := D_163 yB_cX7_areRows rfl rfl (sg_p (m := 32768) (N := 7) rfl rfl rfl)
theorem dX7_areRows_40 : decode cX7_areRows 40 = .ok (.iconst 1, 1) := D_4 yB_cX7_areRows rfl rfl
theorem dX7_areRows_41 : decode cX7_areRows 41 = .ok (.goto 4, 3) := D_167 yB_cX7_areRows rfl rfl (sg_p (m := 32768) (N := 4) rfl rfl rfl)
theorem dX7_areRows_44 : decode cX7_areRows 44 = .ok (.iconst 0, 1) := D_3 yB_cX7_areRows rfl rfl
theorem dX7_areRows_45 : decode cX7_areRows 45 = .ok (.ireturn, 1) := D_172 yB_cX7_areRows rfl rfl
set_option maxHeartbeats 4000000 in
set_option maxRecDepth 100000 in
theorem c_X7_areRows (l : Launch) (D : va_G) (cA : Nat → ClassId) (ad : Nat → Nat) (o : Int64) (σ : Mem) (a : Int32) (b : Int32) (x : Int32) (z : Int32)  (sz : Nat) : Met l yX7_areRows (WY yX7_areRows cX7_areRows 4 (some .boolean)) (RM 0) (va_Pc [.int a, .int b, .int x, .int z] (PW D cA ad o σ sz)) (va_Qi (fun r σ9 => ((RWok a b x z ∧ r = 1) ∨ (¬ RWok a b x z ∧ r = 0)) ∧ σ9 = σ) (QW D cA ad o) (FA ad sz)) 0 0 (FA ad sz) := by
  refine ct_of (own := RX7) (k := 0) (Qf := va_Qi (fun r σ9 => ((RWok a b x z ∧ r = 1) ∨ (¬ RWok a b x z ∧ r = 0)) ∧ σ9 = σ) (QW D cA ad o)) rfl (by decide) (Nat.le_of_ble_eq_true rfl) (fun p e s m below meth c ls C0 X hr hlk hP hl => ?_) sz
  have hS : va_S (FA ad s.heap.size) s.heap s.heap [] := va_S.rf
  have hl : lv_has ls 4 [(0, .int a), (1, .int b), (2, .int x), (3, .int z)] := hl
  obtain ⟨hx, hb, hml, hown, hts⟩ := id C0
  refine lv_iload_n hx hb dX7_areRows_0 rfl (lv_at hl 0 rfl) ?_
  refine lv_if_lt (tgt := 44) hx hb dX7_areRows_1 (by decide) (fun c_1 => ?_) (fun c_1 => ?_)
  · refine lv_iconst (v := 0) hx hb dX7_areRows_44 (by decide) ?_
    exact r_zret C0 X hP hS hr hlk dX7_areRows_45 (Or.inl rfl) ⟨Or.inr ⟨fun h9 => h9.1 c_1, rfl⟩, rfl⟩
  · refine lv_iload_n hx hb dX7_areRows_4 rfl (lv_at hl 0 rfl) ?_
    refine lv_iconst (v := 3) hx hb dX7_areRows_5 (by decide) ?_
    refine lv_icmp_gt (tgt := 44) hx hb dX7_areRows_6 (by decide) (fun c_2 => ?_) (fun c_2 => ?_)
    · refine lv_iconst (v := 0) hx hb dX7_areRows_44 (by decide) ?_
      exact r_zret C0 X hP hS hr hlk dX7_areRows_45 (Or.inl rfl) ⟨Or.inr ⟨fun h9 => h9.2.1 c_2, rfl⟩, rfl⟩
    · refine lv_iload_n hx hb dX7_areRows_9 rfl (lv_at hl 1 rfl) ?_
      refine lv_if_lt (tgt := 44) hx hb dX7_areRows_10 (by decide) (fun c_3 => ?_) (fun c_3 => ?_)
      · refine lv_iconst (v := 0) hx hb dX7_areRows_44 (by decide) ?_
        exact r_zret C0 X hP hS hr hlk dX7_areRows_45 (Or.inl rfl) ⟨Or.inr ⟨fun h9 => h9.2.2.1 c_3, rfl⟩, rfl⟩
      · refine lv_iload_n hx hb dX7_areRows_13 rfl (lv_at hl 1 rfl) ?_
        refine lv_iconst (v := 3) hx hb dX7_areRows_14 (by decide) ?_
        refine lv_icmp_gt (tgt := 44) hx hb dX7_areRows_15 (by decide) (fun c_4 => ?_) (fun c_4 => ?_)
        · refine lv_iconst (v := 0) hx hb dX7_areRows_44 (by decide) ?_
          exact r_zret C0 X hP hS hr hlk dX7_areRows_45 (Or.inl rfl) ⟨Or.inr ⟨fun h9 => h9.2.2.2.1 c_4, rfl⟩, rfl⟩
        · refine lv_iload_n hx hb dX7_areRows_18 rfl (lv_at hl 2 rfl) ?_
          refine lv_iload_n hx hb dX7_areRows_19 rfl (lv_at hl 0 rfl) ?_
          refine lv_icmp_lt (tgt := 44) hx hb dX7_areRows_20 (by decide) (fun c_5 => ?_) (fun c_5 => ?_)
          · refine lv_iconst (v := 0) hx hb dX7_areRows_44 (by decide) ?_
            exact r_zret C0 X hP hS hr hlk dX7_areRows_45 (Or.inl rfl) ⟨Or.inr ⟨fun h9 => h9.2.2.2.2.1 c_5, rfl⟩, rfl⟩
          · refine lv_iload_n hx hb dX7_areRows_23 rfl (lv_at hl 2 rfl) ?_
            refine lv_bipush (v := 6) hx hb dX7_areRows_24 (by decide) ?_
            refine lv_icmp_gt (tgt := 44) hx hb dX7_areRows_26 (by decide) (fun c_6 => ?_) (fun c_6 => ?_)
            · refine lv_iconst (v := 0) hx hb dX7_areRows_44 (by decide) ?_
              exact r_zret C0 X hP hS hr hlk dX7_areRows_45 (Or.inl rfl) ⟨Or.inr ⟨fun h9 => h9.2.2.2.2.2.1 c_6, rfl⟩, rfl⟩
            · refine lv_iload_n hx hb dX7_areRows_29 rfl (lv_at hl 3 rfl) ?_
              refine lv_iload_n hx hb dX7_areRows_30 rfl (lv_at hl 1 rfl) ?_
              refine lv_icmp_lt (tgt := 44) hx hb dX7_areRows_31 (by decide) (fun c_7 => ?_) (fun c_7 => ?_)
              · refine lv_iconst (v := 0) hx hb dX7_areRows_44 (by decide) ?_
                exact r_zret C0 X hP hS hr hlk dX7_areRows_45 (Or.inl rfl) ⟨Or.inr ⟨fun h9 => h9.2.2.2.2.2.2.1 c_7, rfl⟩, rfl⟩
              · refine lv_iload_n hx hb dX7_areRows_34 rfl (lv_at hl 3 rfl) ?_
                refine lv_bipush (v := 6) hx hb dX7_areRows_35 (by decide) ?_
                refine lv_icmp_gt (tgt := 44) hx hb dX7_areRows_37 (by decide) (fun c_8 => ?_) (fun c_8 => ?_)
                · refine lv_iconst (v := 0) hx hb dX7_areRows_44 (by decide) ?_
                  exact r_zret C0 X hP hS hr hlk dX7_areRows_45 (Or.inl rfl) ⟨Or.inr ⟨fun h9 => h9.2.2.2.2.2.2.2 c_8, rfl⟩, rfl⟩
                · refine lv_iconst (v := 1) hx hb dX7_areRows_40 (by decide) ?_
                  refine lv_goto (tgt := 45) hx hb dX7_areRows_41 (by decide) ?_
                  exact r_zret C0 X hP hS hr hlk dX7_areRows_45 (Or.inr rfl) ⟨Or.inl ⟨⟨c_1, c_2, c_3, c_4, c_5, c_6, c_7, c_8⟩, rfl⟩, rfl⟩
def bB_cX7_rows : Nat := 0xac0901b6051504151d1c1b2d00b42aac020500a4061d08009b1d0c00990501b8051504151c1b
theorem yB_cX7_rows : BYS cX7_rows 38 bB_cX7_rows := BYS_of (by decide +kernel)
theorem dX7_rows_0 : decode cX7_rows 0 = .ok (.iload_n 1, 1) := D_27 yB_cX7_rows rfl rfl
theorem dX7_rows_1 : decode cX7_rows 1 = .ok (.iload_n 2, 1) := D_28 yB_cX7_rows rfl rfl
theorem dX7_rows_2 : decode cX7_rows 2 = .ok (.iload 4, 2) := D_21 yB_cX7_rows rfl rfl rfl
theorem dX7_rows_4 : decode cX7_rows 4 = .ok (.iload 5, 2) := D_21 yB_cX7_rows rfl rfl rfl
theorem dX7_rows_6 : decode cX7_rows 6 = .ok (.invokestatic 261, 3) := D_184 yB_cX7_rows rfl rfl rfl
theorem dX7_rows_9 : decode cX7_rows 9 = .ok (.ifCond .eq 12, 3) := D_153 yB_cX7_rows rfl rfl (sg_p (m := 32768) (N := 12) rfl rfl rfl)
theorem dX7_rows_12 : decode cX7_rows 12 = .ok (.iload_n 3, 1) := D_29 yB_cX7_rows rfl rfl
theorem dX7_rows_13 : decode cX7_rows 13 = .ok (.ifCond .lt 8, 3) := D_155 yB_cX7_rows rfl rfl (sg_p (m := 32768) (N := 8) rfl rfl rfl)
theorem dX7_rows_16 : decode cX7_rows 16 = .ok (.iload_n 3, 1) := D_29 yB_cX7_rows rfl rfl
theorem dX7_rows_17 : decode cX7_rows 17 = .ok (.iconst 3, 1) := D_6 yB_cX7_rows rfl rfl
theorem dX7_rows_18 : decode cX7_rows 18 = .ok (.if_icmp .le 5, 3) := D_164 yB_cX7_rows rfl rfl (sg_p (m := 32768) (N := 5) rfl rfl rfl)
theorem dX7_rows_21 : decode cX7_rows 21 = .ok (.iconst (-1), 1) := D_2 yB_cX7_rows rfl rfl
theorem dX7_rows_22 : decode cX7_rows 22 = .ok (.ireturn, 1) := D_172 yB_cX7_rows rfl rfl
theorem dX7_rows_23 : decode cX7_rows 23 = .ok (.aload_n 0, 1) := D_42 yB_cX7_rows rfl rfl
theorem dX7_rows_24 : decode cX7_rows 24 = .ok (.getfield 45, 3) := D_180 yB_cX7_rows rfl rfl rfl
theorem dX7_rows_27 : decode cX7_rows 27 = .ok (.iload_n 1, 1) := D_27 yB_cX7_rows rfl rfl
theorem dX7_rows_28 : decode cX7_rows 28 = .ok (.iload_n 2, 1) := D_28 yB_cX7_rows rfl rfl
theorem dX7_rows_29 : decode cX7_rows 29 = .ok (.iload_n 3, 1) := D_29 yB_cX7_rows rfl rfl
theorem dX7_rows_30 : decode cX7_rows 30 = .ok (.iload 4, 2) := D_21 yB_cX7_rows rfl rfl rfl
theorem dX7_rows_32 : decode cX7_rows 32 = .ok (.iload 5, 2) := D_21 yB_cX7_rows rfl rfl rfl
theorem dX7_rows_34 : decode cX7_rows 34 = .ok (.invokevirtual 265, 3) := D_182 yB_cX7_rows rfl rfl rfl
theorem dX7_rows_37 : decode cX7_rows 37 = .ok (.ireturn, 1) := D_172 yB_cX7_rows rfl rfl
set_option maxHeartbeats 4000000 in
set_option maxRecDepth 100000 in
theorem c_X7_rows (l : Launch) (D : va_G) (cA : Nat → ClassId) (ad : Nat → Nat) (o : Int64) (σ : Mem) (a : Int32) (b : Int32) (q : Int32) (x : Int32) (z : Int32) (sz : Nat) : Met l yX7_rows (WY yX7_rows cX7_rows 6 (some .int)) (RM 4) (va_Pc [.ref (ad 66), .int a, .int b, .int q, .int x, .int z] (PW D cA ad o σ sz)) (va_Qi (fun r (σ9 : Mem) => r = RWv a b q x z ∧ ∀ a9, a9 ≠ 88 → a9 ≠ 89 → a9 ≠ 90 → σ9 a9 = σ a9) (QW D cA ad o) (FA ad sz)) 0 0 (FA ad sz) := by
  refine ct_of (own := RX7) (k := 4) (Qf := va_Qi (fun r (σ9 : Mem) => r = RWv a b q x z ∧ ∀ a9, a9 ≠ 88 → a9 ≠ 89 → a9 ≠ 90 → σ9 a9 = σ a9) (QW D cA ad o)) rfl (by decide) (Nat.le_of_ble_eq_true rfl) (fun p e s m below meth c ls C0 X hr hlk hP hl => ?_) sz
  have hS : va_S (FA ad s.heap.size) s.heap s.heap [] := va_S.rf
  have hl : lv_has ls 6 [(0, .ref (ad 66)), (1, .int a), (2, .int b), (3, .int q), (4, .int x), (5, .int z)] := hl
  obtain ⟨hx, hb, hml, hown, hts⟩ := id C0
  refine lv_iload_n hx hb dX7_rows_0 rfl (lv_at hl 1 rfl) ?_
  refine lv_iload_n hx hb dX7_rows_1 rfl (lv_at hl 2 rfl) ?_
  refine lv_iload hx hb dX7_rows_2 (lv_at hl 4 rfl) ?_
  refine lv_iload hx hb dX7_rows_4 (lv_at hl 5 rfl) ?_
  refine r_ci X hS (r_runS (As := [.int a, .int b, .int x, .int z]) (rest := []) C0 X hP L_X7_261 (fun sz => c_X7_areRows l D cA ad o σ a b x z sz) ⟨Nat.le_of_ble_eq_true rfl, Nat.le_of_ble_eq_true rfl⟩ rfl hl.1 rfl (Nat.le_of_ble_eq_true rfl) dX7_rows_6 ⟨Nat.zero_le _, Nat.zero_le _⟩) (fun r σ9 H locs hw hP hS => ?_)
  rw [hw.2] at hP
  obtain ⟨⟨b_1, rfl⟩ | ⟨b_1, rfl⟩, -⟩ := hw
  · refine lv_if_eq (tgt := 21) hx hb dX7_rows_9 (by decide) (fun c_2 => absurd c_2 (by decide)) (fun c_2 => ?_)
    refine lv_iload_n hx hb dX7_rows_12 rfl (lv_at hl 3 rfl) ?_
    refine lv_if_lt (tgt := 21) hx hb dX7_rows_13 (by decide) (fun c_3 => ?_) (fun c_3 => ?_)
    · refine lv_iconst (v := (-1)) hx hb dX7_rows_21 (by decide) ?_
      exact r_iret C0 X hP hS hr hlk dX7_rows_22 ⟨by rw [RWv, if_neg (fun h9 => h9.2.1 c_3)], fun _ _ _ _ => rfl⟩
    · refine lv_iload_n hx hb dX7_rows_16 rfl (lv_at hl 3 rfl) ?_
      refine lv_iconst (v := 3) hx hb dX7_rows_17 (by decide) ?_
      refine lv_icmp_le (tgt := 23) hx hb dX7_rows_18 (by decide) (fun c_4 => ?_) (fun c_4 => ?_)
      · obtain ⟨a1, ha1, rfl⟩ := in3 b_1.1 b_1.2.1
        obtain ⟨b1, hb1, rfl⟩ := in3 b_1.2.2.1 b_1.2.2.2.1
        obtain ⟨x1, hx1, rfl⟩ := in6 b_1.1 b_1.2.2.2.2.1 b_1.2.2.2.2.2.1
        obtain ⟨z1, hz1, rfl⟩ := in6 b_1.2.2.1 b_1.2.2.2.2.2.2.1 b_1.2.2.2.2.2.2.2
        obtain ⟨q1, hq1, rfl⟩ := in3 c_3 (Int32.not_lt.mpr c_4)
        refine lv_aload_n hx hb dX7_rows_23 rfl (lv_at hl 0 rfl) ?_
        refine gf_X7_45 C0 X hP 66 (q := 88) ⟨by decide, rfl⟩ (by omega) rfl dX7_rows_24 ?_
        refine lv_iload_n hx hb dX7_rows_27 rfl (lv_at hl 1 rfl) ?_
        refine lv_iload_n hx hb dX7_rows_28 rfl (lv_at hl 2 rfl) ?_
        refine lv_iload_n hx hb dX7_rows_29 rfl (lv_at hl 3 rfl) ?_
        refine lv_iload hx hb dX7_rows_30 (lv_at hl 4 rfl) ?_
        refine lv_iload hx hb dX7_rows_32 (lv_at hl 5 rfl) ?_
        refine r_ci X hS (r_runV (As := [.int (nI a1), .int (nI b1), .int (nI q1), .int (nI x1), .int (nI z1)]) (rest := []) C0 X hP L_X7_265 (fun sz => c_X2_leastMoves l D cA ad o σ a1 b1 q1 x1 z1 ha1 hb1 hq1 hx1 hz1 sz) (show 88 < 106 ∧ kd 88 = (2, 8) from ⟨by decide, rfl⟩).1 (show 88 < 106 ∧ kd 88 = (2, 8) from ⟨by decide, rfl⟩).2 (by decide) rfl ⟨Nat.le_of_ble_eq_true rfl, Nat.le_of_ble_eq_true rfl⟩ rfl hl.1 rfl (Nat.le_of_ble_eq_true rfl) dX7_rows_34 ⟨Nat.zero_le _, Nat.zero_le _⟩) (fun rw_5 σw_5 H locs hw_5 hP hS => ?_)
        exact r_iret C0 X hP hS hr hlk dX7_rows_37 ⟨by rw [RW_eq ha1 hb1 hq1 hx1 hz1 b_1]; exact hw_5.1, hw_5.2⟩
      · refine lv_iconst (v := (-1)) hx hb dX7_rows_21 (by decide) ?_
        exact r_iret C0 X hP hS hr hlk dX7_rows_22 ⟨by rw [RWv, if_neg (fun h9 => h9.2.2 (Int32.not_le.mp c_4))], fun _ _ _ _ => rfl⟩
  · refine lv_if_eq (tgt := 21) hx hb dX7_rows_9 (by decide) (fun c_6 => ?_) (fun c_6 => absurd c_6 (by decide))
    refine lv_iconst (v := (-1)) hx hb dX7_rows_21 (by decide) ?_
    exact r_iret C0 X hP hS hr hlk dX7_rows_22 ⟨by rw [RWv, if_neg (fun h9 => b_1 h9.1)], fun _ _ _ _ => rfl⟩
def bB_cX7_aside : Nat := 0xacfc10e1ffa7010584ac051506009ffc100901b604151d05151c1b2d00b42a1f00a3060515053603ac0205009a0501b804151d1c1b
theorem yB_cX7_aside : BYS cX7_aside 53 bB_cX7_aside := BYS_of (by decide +kernel)
theorem dX7_aside_0 : decode cX7_aside 0 = .ok (.iload_n 1, 1) := D_27 yB_cX7_aside rfl rfl
theorem dX7_aside_1 : decode cX7_aside 1 = .ok (.iload_n 2, 1) := D_28 yB_cX7_aside rfl rfl
theorem dX7_aside_2 : decode cX7_aside 2 = .ok (.iload_n 3, 1) := D_29 yB_cX7_aside rfl rfl
theorem dX7_aside_3 : decode cX7_aside 3 = .ok (.iload 4, 2) := D_21 yB_cX7_aside rfl rfl rfl
theorem dX7_aside_5 : decode cX7_aside 5 = .ok (.invokestatic 261, 3) := D_184 yB_cX7_aside rfl rfl rfl
theorem dX7_aside_8 : decode cX7_aside 8 = .ok (.ifCond .ne 5, 3) := D_154 yB_cX7_aside rfl rfl (sg_p (m := 32768) (N := 5) rfl rfl rfl)
theorem dX7_aside_11 : decode cX7_aside 11 = .ok (.iconst (-1), 1) := D_2 yB_cX7_aside rfl rfl
theorem dX7_aside_12 : decode cX7_aside 12 = .ok (.ireturn, 1) := D_172 yB_cX7_aside rfl rfl
theorem dX7_aside_13 : decode cX7_aside 13 = .ok (.iconst 0, 1) := D_3 yB_cX7_aside rfl rfl
theorem dX7_aside_14 : decode cX7_aside 14 = .ok (.istore 5, 2) := D_54 yB_cX7_aside rfl rfl rfl
theorem dX7_aside_16 : decode cX7_aside 16 = .ok (.iload 5, 2) := D_21 yB_cX7_aside rfl rfl rfl
theorem dX7_aside_18 : decode cX7_aside 18 = .ok (.iconst 3, 1) := D_6 yB_cX7_aside rfl rfl
theorem dX7_aside_19 : decode cX7_aside 19 = .ok (.if_icmp .gt 31, 3) := D_163 yB_cX7_aside rfl rfl (sg_p (m := 32768) (N := 31) rfl rfl rfl)
theorem dX7_aside_22 : decode cX7_aside 22 = .ok (.aload_n 0, 1) := D_42 yB_cX7_aside rfl rfl
theorem dX7_aside_23 : decode cX7_aside 23 = .ok (.getfield 45, 3) := D_180 yB_cX7_aside rfl rfl rfl
theorem dX7_aside_26 : decode cX7_aside 26 = .ok (.iload_n 1, 1) := D_27 yB_cX7_aside rfl rfl
theorem dX7_aside_27 : decode cX7_aside 27 = .ok (.iload_n 2, 1) := D_28 yB_cX7_aside rfl rfl
theorem dX7_aside_28 : decode cX7_aside 28 = .ok (.iload 5, 2) := D_21 yB_cX7_aside rfl rfl rfl
theorem dX7_aside_30 : decode cX7_aside 30 = .ok (.iload_n 3, 1) := D_29 yB_cX7_aside rfl rfl
theorem dX7_aside_31 : decode cX7_aside 31 = .ok (.iload 4, 2) := D_21 yB_cX7_aside rfl rfl rfl
theorem dX7_aside_33 : decode cX7_aside 33 = .ok (.invokevirtual 265, 3) := D_182 yB_cX7_aside rfl rfl rfl
theorem dX7_aside_36 : decode cX7_aside 36 = .ok (.bipush (-4), 2) := D_16 yB_cX7_aside rfl rfl (sg_n (m := 128) (N := 4) rfl rfl rfl)
theorem dX7_aside_38 : decode cX7_aside 38 = .ok (.if_icmp .eq 6, 3) := D_159 yB_cX7_aside rfl rfl (sg_p (m := 32768) (N := 6) rfl rfl rfl)
theorem dX7_aside_41 : decode cX7_aside 41 = .ok (.iload 5, 2) := D_21 yB_cX7_aside rfl rfl rfl
theorem dX7_aside_43 : decode cX7_aside 43 = .ok (.ireturn, 1) := D_172 yB_cX7_aside rfl rfl
theorem dX7_aside_44 : decode cX7_aside 44 = .ok (.iinc 5 1, 3) := D_132 yB_cX7_aside rfl rfl rfl (sg_p (m := 128) (N := 1) rfl rfl rfl)
theorem dX7_aside_47 : decode cX7_aside 47 = .ok (.goto (-31), 3) := D_167 yB_cX7_aside rfl rfl (sg_n (m := 32768) (N := 31) rfl rfl rfl)
theorem dX7_aside_50 : decode cX7_aside 50 = .ok (.bipush (-4), 2) := D_16 yB_cX7_aside rfl rfl (sg_n (m := 128) (N := 4) rfl rfl rfl)
theorem dX7_aside_52 : decode cX7_aside 52 = .ok (.ireturn, 1) := D_172 yB_cX7_aside rfl rfl
set_option maxHeartbeats 4000000 in
set_option maxRecDepth 100000 in
theorem c_X7_aside (l : Launch) (D : va_G) (cA : Nat → ClassId) (ad : Nat → Nat) (o : Int64) (σ : Mem) (a : Int32) (b : Int32) (x : Int32) (z : Int32) (sz : Nat) : Met l yX7_aside (WY yX7_aside cX7_aside 6 (some .int)) (RM 4) (va_Pc [.ref (ad 66), .int a, .int b, .int x, .int z] (PW D cA ad o σ sz)) (va_Qi (fun r (σ9 : Mem) => r = AS a b x z ∧ ∀ a9, a9 ≠ 88 → a9 ≠ 89 → a9 ≠ 90 → σ9 a9 = σ a9) (QW D cA ad o) (FA ad sz)) 0 0 (FA ad sz) := by
  refine ct_of (own := RX7) (k := 4) (Qf := va_Qi (fun r (σ9 : Mem) => r = AS a b x z ∧ ∀ a9, a9 ≠ 88 → a9 ≠ 89 → a9 ≠ 90 → σ9 a9 = σ a9) (QW D cA ad o)) rfl (by decide) (Nat.le_of_ble_eq_true rfl) (fun p e s m below meth c ls C0 X hr hlk hP hl => ?_) sz
  have hS : va_S (FA ad s.heap.size) s.heap s.heap [] := va_S.rf
  have hl : lv_has ls 6 [(0, .ref (ad 66)), (1, .int a), (2, .int b), (3, .int x), (4, .int z)] := hl
  obtain ⟨hx, hb, hml, hown, hts⟩ := id C0
  refine lv_iload_n hx hb dX7_aside_0 rfl (lv_at hl 1 rfl) ?_
  refine lv_iload_n hx hb dX7_aside_1 rfl (lv_at hl 2 rfl) ?_
  refine lv_iload_n hx hb dX7_aside_2 rfl (lv_at hl 3 rfl) ?_
  refine lv_iload hx hb dX7_aside_3 (lv_at hl 4 rfl) ?_
  refine r_ci X hS (r_runS (As := [.int a, .int b, .int x, .int z]) (rest := []) C0 X hP L_X7_261 (fun sz => c_X7_areRows l D cA ad o σ a b x z sz) ⟨Nat.le_of_ble_eq_true rfl, Nat.le_of_ble_eq_true rfl⟩ rfl hl.1 rfl (Nat.le_of_ble_eq_true rfl) dX7_aside_5 ⟨Nat.zero_le _, Nat.zero_le _⟩) (fun r σ9 H locs hw hP hS => ?_)
  rw [hw.2] at hP
  obtain ⟨⟨b_1, rfl⟩ | ⟨b_1, rfl⟩, -⟩ := hw
  · refine lv_if_ne (tgt := 13) hx hb dX7_aside_8 (by decide) (fun c_2 => ?_) (fun c_2 => absurd c_2 (by decide))
    obtain ⟨a1, ha1, rfl⟩ := in3 b_1.1 b_1.2.1
    obtain ⟨b1, hb1, rfl⟩ := in3 b_1.2.2.1 b_1.2.2.2.1
    obtain ⟨x1, hx1, rfl⟩ := in6 b_1.1 b_1.2.2.2.2.1 b_1.2.2.2.2.2.1
    obtain ⟨z1, hz1, rfl⟩ := in6 b_1.2.2.1 b_1.2.2.2.2.2.2.1 b_1.2.2.2.2.2.2.2
    refine lv_iconst (v := 0) hx hb dX7_aside_13 (by decide) ?_
    refine lv_istore (lv' := [(5, .int 0), (0, .ref (ad 66)), (1, .int (nI a1)), (2, .int (nI b1)), (3, .int (nI x1)), (4, .int (nI z1))]) hx hb dX7_aside_14 hl (by decide) rfl (fun ls hl => ?_)
    refine lv_iload hx hb dX7_aside_16 (lv_at hl 0 rfl) ?_
    refine lv_iconst (v := 3) hx hb dX7_aside_18 (by decide) ?_
    refine lv_icmp_gt (tgt := 50) hx hb dX7_aside_19 (by decide) (fun c_3 => absurd c_3 (by decide)) (fun c_3 => ?_)
    refine lv_aload_n hx hb dX7_aside_22 rfl (lv_at hl 1 rfl) ?_
    refine gf_X7_45 C0 X hP 66 (q := 88) ⟨by decide, rfl⟩ (by omega) rfl dX7_aside_23 ?_
    refine lv_iload_n hx hb dX7_aside_26 rfl (lv_at hl 2 rfl) ?_
    refine lv_iload_n hx hb dX7_aside_27 rfl (lv_at hl 3 rfl) ?_
    refine lv_iload hx hb dX7_aside_28 (lv_at hl 0 rfl) ?_
    refine lv_iload_n hx hb dX7_aside_30 rfl (lv_at hl 4 rfl) ?_
    refine lv_iload hx hb dX7_aside_31 (lv_at hl 5 rfl) ?_
    refine r_ci X hS (r_runV (As := [.int (nI a1), .int (nI b1), .int 0, .int (nI x1), .int (nI z1)]) (rest := []) C0 X hP L_X7_265 (fun sz => c_X2_leastMoves l D cA ad o σ a1 b1 0 x1 z1 ha1 hb1 (by decide) hx1 hz1 sz) (show 88 < 106 ∧ kd 88 = (2, 8) from ⟨by decide, rfl⟩).1 (show 88 < 106 ∧ kd 88 = (2, 8) from ⟨by decide, rfl⟩).2 (by decide) rfl ⟨Nat.le_of_ble_eq_true rfl, Nat.le_of_ble_eq_true rfl⟩ rfl hl.1 rfl (Nat.le_of_ble_eq_true rfl) dX7_aside_33 ⟨Nat.zero_le _, Nat.zero_le _⟩) (fun rw_4 σw_4 H locs hw_4 hP hS => ?_)
    refine lv_bipush (v := (-4)) hx hb dX7_aside_36 (by decide) ?_
    refine lv_icmp_eq (tgt := 44) hx hb dX7_aside_38 (by decide) (fun c_5 => ?_) (fun c_5 => ?_)
    · refine lv_iinc (v := 1) (lv' := [(5, .int 1), (0, .ref (ad 66)), (1, .int (nI a1)), (2, .int (nI b1)), (3, .int (nI x1)), (4, .int (nI z1))]) hx hb dX7_aside_44 hl (k := 0) rfl (by decide) (by decide) rfl (fun ls hl => ?_)
      refine lv_goto (tgt := 16) hx hb dX7_aside_47 (by decide) ?_
      refine lv_iload hx hb dX7_aside_16 (lv_at hl 0 rfl) ?_
      refine lv_iconst (v := 3) hx hb dX7_aside_18 (by decide) ?_
      refine lv_icmp_gt (tgt := 50) hx hb dX7_aside_19 (by decide) (fun c_6 => absurd c_6 (by decide)) (fun c_6 => ?_)
      refine lv_aload_n hx hb dX7_aside_22 rfl (lv_at hl 1 rfl) ?_
      refine gf_X7_45 C0 X hP 66 (q := 88) ⟨by decide, rfl⟩ (by omega) rfl dX7_aside_23 ?_
      refine lv_iload_n hx hb dX7_aside_26 rfl (lv_at hl 2 rfl) ?_
      refine lv_iload_n hx hb dX7_aside_27 rfl (lv_at hl 3 rfl) ?_
      refine lv_iload hx hb dX7_aside_28 (lv_at hl 0 rfl) ?_
      refine lv_iload_n hx hb dX7_aside_30 rfl (lv_at hl 4 rfl) ?_
      refine lv_iload hx hb dX7_aside_31 (lv_at hl 5 rfl) ?_
      refine r_ci X hS (r_runV (As := [.int (nI a1), .int (nI b1), .int 1, .int (nI x1), .int (nI z1)]) (rest := []) C0 X hP L_X7_265 (fun sz => c_X2_leastMoves l D cA ad o σw_4 a1 b1 1 x1 z1 ha1 hb1 (by decide) hx1 hz1 sz) (show 88 < 106 ∧ kd 88 = (2, 8) from ⟨by decide, rfl⟩).1 (show 88 < 106 ∧ kd 88 = (2, 8) from ⟨by decide, rfl⟩).2 (by decide) rfl ⟨Nat.le_of_ble_eq_true rfl, Nat.le_of_ble_eq_true rfl⟩ rfl hl.1 rfl (Nat.le_of_ble_eq_true rfl) dX7_aside_33 ⟨Nat.zero_le _, Nat.zero_le _⟩) (fun rw_7 σw_7 H locs hw_7 hP hS => ?_)
      refine lv_bipush (v := (-4)) hx hb dX7_aside_36 (by decide) ?_
      refine lv_icmp_eq (tgt := 44) hx hb dX7_aside_38 (by decide) (fun c_8 => ?_) (fun c_8 => ?_)
      · refine lv_iinc (v := 2) (lv' := [(5, .int 2), (0, .ref (ad 66)), (1, .int (nI a1)), (2, .int (nI b1)), (3, .int (nI x1)), (4, .int (nI z1))]) hx hb dX7_aside_44 hl (k := 0) rfl (by decide) (by decide) rfl (fun ls hl => ?_)
        refine lv_goto (tgt := 16) hx hb dX7_aside_47 (by decide) ?_
        refine lv_iload hx hb dX7_aside_16 (lv_at hl 0 rfl) ?_
        refine lv_iconst (v := 3) hx hb dX7_aside_18 (by decide) ?_
        refine lv_icmp_gt (tgt := 50) hx hb dX7_aside_19 (by decide) (fun c_9 => absurd c_9 (by decide)) (fun c_9 => ?_)
        refine lv_aload_n hx hb dX7_aside_22 rfl (lv_at hl 1 rfl) ?_
        refine gf_X7_45 C0 X hP 66 (q := 88) ⟨by decide, rfl⟩ (by omega) rfl dX7_aside_23 ?_
        refine lv_iload_n hx hb dX7_aside_26 rfl (lv_at hl 2 rfl) ?_
        refine lv_iload_n hx hb dX7_aside_27 rfl (lv_at hl 3 rfl) ?_
        refine lv_iload hx hb dX7_aside_28 (lv_at hl 0 rfl) ?_
        refine lv_iload_n hx hb dX7_aside_30 rfl (lv_at hl 4 rfl) ?_
        refine lv_iload hx hb dX7_aside_31 (lv_at hl 5 rfl) ?_
        refine r_ci X hS (r_runV (As := [.int (nI a1), .int (nI b1), .int 2, .int (nI x1), .int (nI z1)]) (rest := []) C0 X hP L_X7_265 (fun sz => c_X2_leastMoves l D cA ad o σw_7 a1 b1 2 x1 z1 ha1 hb1 (by decide) hx1 hz1 sz) (show 88 < 106 ∧ kd 88 = (2, 8) from ⟨by decide, rfl⟩).1 (show 88 < 106 ∧ kd 88 = (2, 8) from ⟨by decide, rfl⟩).2 (by decide) rfl ⟨Nat.le_of_ble_eq_true rfl, Nat.le_of_ble_eq_true rfl⟩ rfl hl.1 rfl (Nat.le_of_ble_eq_true rfl) dX7_aside_33 ⟨Nat.zero_le _, Nat.zero_le _⟩) (fun rw_10 σw_10 H locs hw_10 hP hS => ?_)
        refine lv_bipush (v := (-4)) hx hb dX7_aside_36 (by decide) ?_
        refine lv_icmp_eq (tgt := 44) hx hb dX7_aside_38 (by decide) (fun c_11 => ?_) (fun c_11 => ?_)
        · refine lv_iinc (v := 3) (lv' := [(5, .int 3), (0, .ref (ad 66)), (1, .int (nI a1)), (2, .int (nI b1)), (3, .int (nI x1)), (4, .int (nI z1))]) hx hb dX7_aside_44 hl (k := 0) rfl (by decide) (by decide) rfl (fun ls hl => ?_)
          refine lv_goto (tgt := 16) hx hb dX7_aside_47 (by decide) ?_
          refine lv_iload hx hb dX7_aside_16 (lv_at hl 0 rfl) ?_
          refine lv_iconst (v := 3) hx hb dX7_aside_18 (by decide) ?_
          refine lv_icmp_gt (tgt := 50) hx hb dX7_aside_19 (by decide) (fun c_12 => absurd c_12 (by decide)) (fun c_12 => ?_)
          refine lv_aload_n hx hb dX7_aside_22 rfl (lv_at hl 1 rfl) ?_
          refine gf_X7_45 C0 X hP 66 (q := 88) ⟨by decide, rfl⟩ (by omega) rfl dX7_aside_23 ?_
          refine lv_iload_n hx hb dX7_aside_26 rfl (lv_at hl 2 rfl) ?_
          refine lv_iload_n hx hb dX7_aside_27 rfl (lv_at hl 3 rfl) ?_
          refine lv_iload hx hb dX7_aside_28 (lv_at hl 0 rfl) ?_
          refine lv_iload_n hx hb dX7_aside_30 rfl (lv_at hl 4 rfl) ?_
          refine lv_iload hx hb dX7_aside_31 (lv_at hl 5 rfl) ?_
          refine r_ci X hS (r_runV (As := [.int (nI a1), .int (nI b1), .int 3, .int (nI x1), .int (nI z1)]) (rest := []) C0 X hP L_X7_265 (fun sz => c_X2_leastMoves l D cA ad o σw_10 a1 b1 3 x1 z1 ha1 hb1 (by decide) hx1 hz1 sz) (show 88 < 106 ∧ kd 88 = (2, 8) from ⟨by decide, rfl⟩).1 (show 88 < 106 ∧ kd 88 = (2, 8) from ⟨by decide, rfl⟩).2 (by decide) rfl ⟨Nat.le_of_ble_eq_true rfl, Nat.le_of_ble_eq_true rfl⟩ rfl hl.1 rfl (Nat.le_of_ble_eq_true rfl) dX7_aside_33 ⟨Nat.zero_le _, Nat.zero_le _⟩) (fun rw_13 σw_13 H locs hw_13 hP hS => ?_)
          refine lv_bipush (v := (-4)) hx hb dX7_aside_36 (by decide) ?_
          refine lv_icmp_eq (tgt := 44) hx hb dX7_aside_38 (by decide) (fun c_14 => ?_) (fun c_14 => ?_)
          · refine lv_iinc (v := 4) (lv' := [(5, .int 4), (0, .ref (ad 66)), (1, .int (nI a1)), (2, .int (nI b1)), (3, .int (nI x1)), (4, .int (nI z1))]) hx hb dX7_aside_44 hl (k := 0) rfl (by decide) (by decide) rfl (fun ls hl => ?_)
            refine lv_goto (tgt := 16) hx hb dX7_aside_47 (by decide) ?_
            refine lv_iload hx hb dX7_aside_16 (lv_at hl 0 rfl) ?_
            refine lv_iconst (v := 3) hx hb dX7_aside_18 (by decide) ?_
            refine lv_icmp_gt (tgt := 50) hx hb dX7_aside_19 (by decide) (fun c_15 => ?_) (fun c_15 => absurd c_15 (by decide))
            refine lv_bipush (v := (-4)) hx hb dX7_aside_50 (by decide) ?_
            exact r_iret C0 X hP hS hr hlk dX7_aside_52 ⟨by rw [AS_eq ha1 hb1 hx1 hz1 b_1, ASn, if_neg (show ¬ ¬ RWn a1 b1 0 x1 z1 = -4 from fun h9 => h9 (hw_4.1.symm.trans c_5)), if_neg (show ¬ ¬ RWn a1 b1 1 x1 z1 = -4 from fun h9 => h9 (hw_7.1.symm.trans c_8)), if_neg (show ¬ ¬ RWn a1 b1 2 x1 z1 = -4 from fun h9 => h9 (hw_10.1.symm.trans c_11)), if_neg (show ¬ ¬ RWn a1 b1 3 x1 z1 = -4 from fun h9 => h9 (hw_13.1.symm.trans c_14))], (FrL_trans (FrL_trans (FrL_trans hw_4.2 hw_7.2) hw_10.2) hw_13.2)⟩
          · refine lv_iload hx hb dX7_aside_41 (lv_at hl 0 rfl) ?_
            exact r_iret C0 X hP hS hr hlk dX7_aside_43 ⟨by rw [AS_eq ha1 hb1 hx1 hz1 b_1, ASn, if_neg (show ¬ ¬ RWn a1 b1 0 x1 z1 = -4 from fun h9 => h9 (hw_4.1.symm.trans c_5)), if_neg (show ¬ ¬ RWn a1 b1 1 x1 z1 = -4 from fun h9 => h9 (hw_7.1.symm.trans c_8)), if_neg (show ¬ ¬ RWn a1 b1 2 x1 z1 = -4 from fun h9 => h9 (hw_10.1.symm.trans c_11)), if_pos (show ¬ RWn a1 b1 3 x1 z1 = -4 from fun h9 => c_14 (hw_13.1.trans h9))], (FrL_trans (FrL_trans (FrL_trans hw_4.2 hw_7.2) hw_10.2) hw_13.2)⟩
        · refine lv_iload hx hb dX7_aside_41 (lv_at hl 0 rfl) ?_
          exact r_iret C0 X hP hS hr hlk dX7_aside_43 ⟨by rw [AS_eq ha1 hb1 hx1 hz1 b_1, ASn, if_neg (show ¬ ¬ RWn a1 b1 0 x1 z1 = -4 from fun h9 => h9 (hw_4.1.symm.trans c_5)), if_neg (show ¬ ¬ RWn a1 b1 1 x1 z1 = -4 from fun h9 => h9 (hw_7.1.symm.trans c_8)), if_pos (show ¬ RWn a1 b1 2 x1 z1 = -4 from fun h9 => c_11 (hw_10.1.trans h9))], (FrL_trans (FrL_trans hw_4.2 hw_7.2) hw_10.2)⟩
      · refine lv_iload hx hb dX7_aside_41 (lv_at hl 0 rfl) ?_
        exact r_iret C0 X hP hS hr hlk dX7_aside_43 ⟨by rw [AS_eq ha1 hb1 hx1 hz1 b_1, ASn, if_neg (show ¬ ¬ RWn a1 b1 0 x1 z1 = -4 from fun h9 => h9 (hw_4.1.symm.trans c_5)), if_pos (show ¬ RWn a1 b1 1 x1 z1 = -4 from fun h9 => c_8 (hw_7.1.trans h9))], (FrL_trans hw_4.2 hw_7.2)⟩
    · refine lv_iload hx hb dX7_aside_41 (lv_at hl 0 rfl) ?_
      exact r_iret C0 X hP hS hr hlk dX7_aside_43 ⟨by rw [AS_eq ha1 hb1 hx1 hz1 b_1, ASn, if_pos (show ¬ RWn a1 b1 0 x1 z1 = -4 from fun h9 => c_5 (hw_4.1.trans h9))], hw_4.2⟩
  · refine lv_if_ne (tgt := 13) hx hb dX7_aside_8 (by decide) (fun c_16 => absurd c_16 (by decide)) (fun c_16 => ?_)
    refine lv_iconst (v := (-1)) hx hb dX7_aside_11 (by decide) ?_
    exact r_iret C0 X hP hS hr hlk dX7_aside_12 ⟨by rw [AS, if_neg b_1], fun _ _ _ _ => rfl⟩
