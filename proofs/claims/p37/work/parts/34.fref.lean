def bB_cX8_isPiece : Nat := 0xac3500b88564042e030900b42a09851b
theorem yB_cX8_isPiece : BYS cX8_isPiece 16 bB_cX8_isPiece := BYS_of (by decide +kernel)
theorem dX8_isPiece_0 : decode cX8_isPiece 0 = .ok (.iload_n 1, 1) := D_27 yB_cX8_isPiece rfl rfl
theorem dX8_isPiece_1 : decode cX8_isPiece 1 = .ok (.i2l, 1) := D_133 yB_cX8_isPiece rfl rfl
theorem dX8_isPiece_2 : decode cX8_isPiece 2 = .ok (.lconst 0, 1) := D_9 yB_cX8_isPiece rfl rfl
theorem dX8_isPiece_3 : decode cX8_isPiece 3 = .ok (.aload_n 0, 1) := D_42 yB_cX8_isPiece rfl rfl
theorem dX8_isPiece_4 : decode cX8_isPiece 4 = .ok (.getfield 9, 3) := D_180 yB_cX8_isPiece rfl rfl rfl
theorem dX8_isPiece_7 : decode cX8_isPiece 7 = .ok (.iconst 0, 1) := D_3 yB_cX8_isPiece rfl rfl
theorem dX8_isPiece_8 : decode cX8_isPiece 8 = .ok (.iaload, 1) := D_46 yB_cX8_isPiece rfl rfl
theorem dX8_isPiece_9 : decode cX8_isPiece 9 = .ok (.iconst 1, 1) := D_4 yB_cX8_isPiece rfl rfl
theorem dX8_isPiece_10 : decode cX8_isPiece 10 = .ok (.isub, 1) := D_100 yB_cX8_isPiece rfl rfl
theorem dX8_isPiece_11 : decode cX8_isPiece 11 = .ok (.i2l, 1) := D_133 yB_cX8_isPiece rfl rfl
theorem dX8_isPiece_12 : decode cX8_isPiece 12 = .ok (.invokestatic 53, 3) := D_184 yB_cX8_isPiece rfl rfl rfl
theorem dX8_isPiece_15 : decode cX8_isPiece 15 = .ok (.ireturn, 1) := D_172 yB_cX8_isPiece rfl rfl
def F_X8_isPiece (σ : Mem) (x1 : Int32) : Option (Int32) := if x1 < 0 ∨ ((σ 92 0) - 1) < x1 then (some 0) else (some 1)
set_option maxHeartbeats 4000000 in
set_option maxRecDepth 100000 in
theorem c_X8_isPiece (l : Launch) (D : va_G) (cA : Nat → ClassId) (ad : Nat → Nat) (o : Int64) (σ : Mem) (x1 : Int32)  (res : Int32) (h : F_X8_isPiece σ x1 = some res) (sz : Nat) : Met l yX8_isPiece (WY yX8_isPiece cX8_isPiece 2 (some .boolean)) (RM 1) (va_Pc [.ref (ad 91), .int x1] (PW D cA ad o σ sz)) (va_Qi (fun r σ9 => r = res ∧ σ9 = σ) (QW D cA ad o) (FA ad sz)) 0 0 (FA ad sz) := by
  refine ct_of (own := RX8) (k := 1) (Qf := va_Qi (fun r σ9 => r = res ∧ σ9 = σ) (QW D cA ad o)) rfl (by decide) (Nat.le_of_ble_eq_true rfl) (fun p e s m below meth c ls C0 X hr hlk hP hl => ?_) sz
  have hS : va_S (FA ad s.heap.size) s.heap s.heap [] := va_S.rf
  have hl : lv_has ls 2 [(0, .ref (ad 91)), (1, .int x1)] := hl
  obtain ⟨hx, hb, hml, hown, hts⟩ := id C0
  unfold F_X8_isPiece at h
  refine lv_iload_n hx hb dX8_isPiece_0 rfl (lv_at hl 1 rfl) ?_
  refine lv_i2l (v := (x1.toInt64)) hx hb dX8_isPiece_1 rfl ?_
  refine lv_lconst (v := ((0 : Int32).toInt64)) hx hb dX8_isPiece_2 (by decide) ?_
  refine lv_aload_n hx hb dX8_isPiece_3 rfl (lv_at hl 0 rfl) ?_
  refine gf_X8_9 C0 X hP 91 (q := 92) ⟨by decide, rfl⟩ (by omega) rfl dX8_isPiece_4 ?_
  refine lv_iconst (v := 0) hx hb dX8_isPiece_7 (by decide) ?_
  refine r_ialdN C0 X hP 92 (k := 0) ⟨by decide, rfl⟩ rfl (by decide) dX8_isPiece_8 ?_
  refine lv_iconst (v := 1) hx hb dX8_isPiece_9 (by decide) ?_
  refine lv_isub hx hb dX8_isPiece_10 ?_
  refine lv_i2l (v := (((σ 92 0) - 1).toInt64)) hx hb dX8_isPiece_11 rfl ?_
  refine r_ci X hS (r_runS (As := [.long (x1.toInt64), .long ((0 : Int32).toInt64), .long (((σ 92 0) - 1).toInt64)]) (rest := []) C0 X hP L_X8_53 (fun sz => c_X8_isIn l D cA ad o σ x1 0 ((σ 92 0) - 1) sz) ⟨Nat.le_of_ble_eq_true rfl, Nat.le_of_ble_eq_true rfl⟩ rfl hl.1 rfl (Nat.le_of_ble_eq_true rfl) dX8_isPiece_12 ⟨Nat.zero_le _, Nat.zero_le _⟩) (fun r9 σ9 H locs hw hP hS => ?_)
  rw [hw.2] at hP
  obtain ⟨⟨b_1, rfl⟩ | ⟨b_1, rfl⟩, -⟩ := hw
  · replace h := it_f h (inn b_1)
    exact r_zret C0 X hP hS hr hlk dX8_isPiece_15 (Or.inr rfl) ⟨Option.some.inj h, rfl⟩
  · replace h := it_t h b_1
    exact r_zret C0 X hP hS hr hlk dX8_isPiece_15 (Or.inl rfl) ⟨Option.some.inj h, rfl⟩
def bB_cX8_isCart : Nat := 0xac3500b88564042e040900b42a09851b
theorem yB_cX8_isCart : BYS cX8_isCart 16 bB_cX8_isCart := BYS_of (by decide +kernel)
theorem dX8_isCart_0 : decode cX8_isCart 0 = .ok (.iload_n 1, 1) := D_27 yB_cX8_isCart rfl rfl
theorem dX8_isCart_1 : decode cX8_isCart 1 = .ok (.i2l, 1) := D_133 yB_cX8_isCart rfl rfl
theorem dX8_isCart_2 : decode cX8_isCart 2 = .ok (.lconst 0, 1) := D_9 yB_cX8_isCart rfl rfl
theorem dX8_isCart_3 : decode cX8_isCart 3 = .ok (.aload_n 0, 1) := D_42 yB_cX8_isCart rfl rfl
theorem dX8_isCart_4 : decode cX8_isCart 4 = .ok (.getfield 9, 3) := D_180 yB_cX8_isCart rfl rfl rfl
theorem dX8_isCart_7 : decode cX8_isCart 7 = .ok (.iconst 1, 1) := D_4 yB_cX8_isCart rfl rfl
theorem dX8_isCart_8 : decode cX8_isCart 8 = .ok (.iaload, 1) := D_46 yB_cX8_isCart rfl rfl
theorem dX8_isCart_9 : decode cX8_isCart 9 = .ok (.iconst 1, 1) := D_4 yB_cX8_isCart rfl rfl
theorem dX8_isCart_10 : decode cX8_isCart 10 = .ok (.isub, 1) := D_100 yB_cX8_isCart rfl rfl
theorem dX8_isCart_11 : decode cX8_isCart 11 = .ok (.i2l, 1) := D_133 yB_cX8_isCart rfl rfl
theorem dX8_isCart_12 : decode cX8_isCart 12 = .ok (.invokestatic 53, 3) := D_184 yB_cX8_isCart rfl rfl rfl
theorem dX8_isCart_15 : decode cX8_isCart 15 = .ok (.ireturn, 1) := D_172 yB_cX8_isCart rfl rfl
def F_X8_isCart (σ : Mem) (x1 : Int32) : Option (Int32) := if x1 < 0 ∨ ((σ 92 1) - 1) < x1 then (some 0) else (some 1)
set_option maxHeartbeats 4000000 in
set_option maxRecDepth 100000 in
theorem c_X8_isCart (l : Launch) (D : va_G) (cA : Nat → ClassId) (ad : Nat → Nat) (o : Int64) (σ : Mem) (x1 : Int32)  (res : Int32) (h : F_X8_isCart σ x1 = some res) (sz : Nat) : Met l yX8_isCart (WY yX8_isCart cX8_isCart 2 (some .boolean)) (RM 1) (va_Pc [.ref (ad 91), .int x1] (PW D cA ad o σ sz)) (va_Qi (fun r σ9 => r = res ∧ σ9 = σ) (QW D cA ad o) (FA ad sz)) 0 0 (FA ad sz) := by
  refine ct_of (own := RX8) (k := 1) (Qf := va_Qi (fun r σ9 => r = res ∧ σ9 = σ) (QW D cA ad o)) rfl (by decide) (Nat.le_of_ble_eq_true rfl) (fun p e s m below meth c ls C0 X hr hlk hP hl => ?_) sz
  have hS : va_S (FA ad s.heap.size) s.heap s.heap [] := va_S.rf
  have hl : lv_has ls 2 [(0, .ref (ad 91)), (1, .int x1)] := hl
  obtain ⟨hx, hb, hml, hown, hts⟩ := id C0
  unfold F_X8_isCart at h
  refine lv_iload_n hx hb dX8_isCart_0 rfl (lv_at hl 1 rfl) ?_
  refine lv_i2l (v := (x1.toInt64)) hx hb dX8_isCart_1 rfl ?_
  refine lv_lconst (v := ((0 : Int32).toInt64)) hx hb dX8_isCart_2 (by decide) ?_
  refine lv_aload_n hx hb dX8_isCart_3 rfl (lv_at hl 0 rfl) ?_
  refine gf_X8_9 C0 X hP 91 (q := 92) ⟨by decide, rfl⟩ (by omega) rfl dX8_isCart_4 ?_
  refine lv_iconst (v := 1) hx hb dX8_isCart_7 (by decide) ?_
  refine r_ialdN C0 X hP 92 (k := 1) ⟨by decide, rfl⟩ rfl (by decide) dX8_isCart_8 ?_
  refine lv_iconst (v := 1) hx hb dX8_isCart_9 (by decide) ?_
  refine lv_isub hx hb dX8_isCart_10 ?_
  refine lv_i2l (v := (((σ 92 1) - 1).toInt64)) hx hb dX8_isCart_11 rfl ?_
  refine r_ci X hS (r_runS (As := [.long (x1.toInt64), .long ((0 : Int32).toInt64), .long (((σ 92 1) - 1).toInt64)]) (rest := []) C0 X hP L_X8_53 (fun sz => c_X8_isIn l D cA ad o σ x1 0 ((σ 92 1) - 1) sz) ⟨Nat.le_of_ble_eq_true rfl, Nat.le_of_ble_eq_true rfl⟩ rfl hl.1 rfl (Nat.le_of_ble_eq_true rfl) dX8_isCart_12 ⟨Nat.zero_le _, Nat.zero_le _⟩) (fun r9 σ9 H locs hw hP hS => ?_)
  rw [hw.2] at hP
  obtain ⟨⟨b_1, rfl⟩ | ⟨b_1, rfl⟩, -⟩ := hw
  · replace h := it_f h (inn b_1)
    exact r_zret C0 X hP hS hr hlk dX8_isCart_15 (Or.inr rfl) ⟨Option.some.inj h, rfl⟩
  · replace h := it_t h b_1
    exact r_zret C0 X hP hS hr hlk dX8_isCart_15 (Or.inl rfl) ⟨Option.some.inj h, rfl⟩
def bB_cX8_isShelf : Nat := 0xac3500b839001409851a
theorem yB_cX8_isShelf : BYS cX8_isShelf 10 bB_cX8_isShelf := BYS_of (by decide +kernel)
theorem dX8_isShelf_0 : decode cX8_isShelf 0 = .ok (.iload_n 0, 1) := D_26 yB_cX8_isShelf rfl rfl
theorem dX8_isShelf_1 : decode cX8_isShelf 1 = .ok (.i2l, 1) := D_133 yB_cX8_isShelf rfl rfl
theorem dX8_isShelf_2 : decode cX8_isShelf 2 = .ok (.lconst 0, 1) := D_9 yB_cX8_isShelf rfl rfl
theorem dX8_isShelf_3 : decode cX8_isShelf 3 = .ok (.ldc2_w 57, 3) := D_20 yB_cX8_isShelf rfl rfl rfl
theorem dX8_isShelf_6 : decode cX8_isShelf 6 = .ok (.invokestatic 53, 3) := D_184 yB_cX8_isShelf rfl rfl rfl
theorem dX8_isShelf_9 : decode cX8_isShelf 9 = .ok (.ireturn, 1) := D_172 yB_cX8_isShelf rfl rfl
def F_X8_isShelf (σ : Mem) (x1 : Int32) : Option (Int32) := if x1 < 0 ∨ 7 < x1 then (some 0) else (some 1)
set_option maxHeartbeats 4000000 in
set_option maxRecDepth 100000 in
theorem c_X8_isShelf (l : Launch) (D : va_G) (cA : Nat → ClassId) (ad : Nat → Nat) (o : Int64) (σ : Mem) (x1 : Int32)  (res : Int32) (h : F_X8_isShelf σ x1 = some res) (sz : Nat) : Met l yX8_isShelf (WY yX8_isShelf cX8_isShelf 1 (some .boolean)) (RM 1) (va_Pc [.int x1] (PW D cA ad o σ sz)) (va_Qi (fun r σ9 => r = res ∧ σ9 = σ) (QW D cA ad o) (FA ad sz)) 0 0 (FA ad sz) := by
  refine ct_of (own := RX8) (k := 1) (Qf := va_Qi (fun r σ9 => r = res ∧ σ9 = σ) (QW D cA ad o)) rfl (by decide) (Nat.le_of_ble_eq_true rfl) (fun p e s m below meth c ls C0 X hr hlk hP hl => ?_) sz
  have hS : va_S (FA ad s.heap.size) s.heap s.heap [] := va_S.rf
  have hl : lv_has ls 1 [(0, .int x1)] := hl
  obtain ⟨hx, hb, hml, hown, hts⟩ := id C0
  unfold F_X8_isShelf at h
  refine lv_iload_n hx hb dX8_isShelf_0 rfl (lv_at hl 0 rfl) ?_
  refine lv_i2l (v := (x1.toInt64)) hx hb dX8_isShelf_1 rfl ?_
  refine lv_lconst (v := ((0 : Int32).toInt64)) hx hb dX8_isShelf_2 (by decide) ?_
  refine lv_ldc2 (own := RX8) (index := 57) (v := 7) hx hb hown (hts _ (tmc sb5_5 7 rfl (by decide +kernel))) dX8_isShelf_3 ?_
  refine lv_topEl (y := ((7 : Int32).toInt64)) (by decide) ?_
  refine r_ci X hS (r_runS (As := [.long (x1.toInt64), .long ((0 : Int32).toInt64), .long ((7 : Int32).toInt64)]) (rest := []) C0 X hP L_X8_53 (fun sz => c_X8_isIn l D cA ad o σ x1 0 7 sz) ⟨Nat.le_of_ble_eq_true rfl, Nat.le_of_ble_eq_true rfl⟩ rfl hl.1 rfl (Nat.le_of_ble_eq_true rfl) dX8_isShelf_6 ⟨Nat.zero_le _, Nat.zero_le _⟩) (fun r9 σ9 H locs hw hP hS => ?_)
  rw [hw.2] at hP
  obtain ⟨⟨b_1, rfl⟩ | ⟨b_1, rfl⟩, -⟩ := hw
  · replace h := it_f h (inn b_1)
    exact r_zret C0 X hP hS hr hlk dX8_isShelf_9 (Or.inr rfl) ⟨Option.some.inj h, rfl⟩
  · replace h := it_t h b_1
    exact r_zret C0 X hP hS hr hlk dX8_isShelf_9 (Or.inl rfl) ⟨Option.some.inj h, rfl⟩
def bB_cX8_isVillage : Nat := 0xac3500b83b001409851a
theorem yB_cX8_isVillage : BYS cX8_isVillage 10 bB_cX8_isVillage := BYS_of (by decide +kernel)
theorem dX8_isVillage_0 : decode cX8_isVillage 0 = .ok (.iload_n 0, 1) := D_26 yB_cX8_isVillage rfl rfl
theorem dX8_isVillage_1 : decode cX8_isVillage 1 = .ok (.i2l, 1) := D_133 yB_cX8_isVillage rfl rfl
theorem dX8_isVillage_2 : decode cX8_isVillage 2 = .ok (.lconst 0, 1) := D_9 yB_cX8_isVillage rfl rfl
theorem dX8_isVillage_3 : decode cX8_isVillage 3 = .ok (.ldc2_w 59, 3) := D_20 yB_cX8_isVillage rfl rfl rfl
theorem dX8_isVillage_6 : decode cX8_isVillage 6 = .ok (.invokestatic 53, 3) := D_184 yB_cX8_isVillage rfl rfl rfl
theorem dX8_isVillage_9 : decode cX8_isVillage 9 = .ok (.ireturn, 1) := D_172 yB_cX8_isVillage rfl rfl
def F_X8_isVillage (σ : Mem) (x1 : Int32) : Option (Int32) := if x1 < 0 ∨ 2 < x1 then (some 0) else (some 1)
set_option maxHeartbeats 4000000 in
set_option maxRecDepth 100000 in
theorem c_X8_isVillage (l : Launch) (D : va_G) (cA : Nat → ClassId) (ad : Nat → Nat) (o : Int64) (σ : Mem) (x1 : Int32)  (res : Int32) (h : F_X8_isVillage σ x1 = some res) (sz : Nat) : Met l yX8_isVillage (WY yX8_isVillage cX8_isVillage 1 (some .boolean)) (RM 1) (va_Pc [.int x1] (PW D cA ad o σ sz)) (va_Qi (fun r σ9 => r = res ∧ σ9 = σ) (QW D cA ad o) (FA ad sz)) 0 0 (FA ad sz) := by
  refine ct_of (own := RX8) (k := 1) (Qf := va_Qi (fun r σ9 => r = res ∧ σ9 = σ) (QW D cA ad o)) rfl (by decide) (Nat.le_of_ble_eq_true rfl) (fun p e s m below meth c ls C0 X hr hlk hP hl => ?_) sz
  have hS : va_S (FA ad s.heap.size) s.heap s.heap [] := va_S.rf
  have hl : lv_has ls 1 [(0, .int x1)] := hl
  obtain ⟨hx, hb, hml, hown, hts⟩ := id C0
  unfold F_X8_isVillage at h
  refine lv_iload_n hx hb dX8_isVillage_0 rfl (lv_at hl 0 rfl) ?_
  refine lv_i2l (v := (x1.toInt64)) hx hb dX8_isVillage_1 rfl ?_
  refine lv_lconst (v := ((0 : Int32).toInt64)) hx hb dX8_isVillage_2 (by decide) ?_
  refine lv_ldc2 (own := RX8) (index := 59) (v := 2) hx hb hown (hts _ (tmc sb5_7 9 rfl (by decide +kernel))) dX8_isVillage_3 ?_
  refine lv_topEl (y := ((2 : Int32).toInt64)) (by decide) ?_
  refine r_ci X hS (r_runS (As := [.long (x1.toInt64), .long ((0 : Int32).toInt64), .long ((2 : Int32).toInt64)]) (rest := []) C0 X hP L_X8_53 (fun sz => c_X8_isIn l D cA ad o σ x1 0 2 sz) ⟨Nat.le_of_ble_eq_true rfl, Nat.le_of_ble_eq_true rfl⟩ rfl hl.1 rfl (Nat.le_of_ble_eq_true rfl) dX8_isVillage_6 ⟨Nat.zero_le _, Nat.zero_le _⟩) (fun r9 σ9 H locs hw hP hS => ?_)
  rw [hw.2] at hP
  obtain ⟨⟨b_1, rfl⟩ | ⟨b_1, rfl⟩, -⟩ := hw
  · replace h := it_f h (inn b_1)
    exact r_zret C0 X hP hS hr hlk dX8_isVillage_9 (Or.inr rfl) ⟨Option.some.inj h, rfl⟩
  · replace h := it_t h b_1
    exact r_zret C0 X hP hS hr hlk dX8_isVillage_9 (Or.inl rfl) ⟨Option.some.inj h, rfl⟩
def bB_cX8_get : Nat := 0xac2e601c60681b0b102c102a
theorem yB_cX8_get : BYS cX8_get 12 bB_cX8_get := BYS_of (by decide +kernel)
theorem dX8_get_0 : decode cX8_get 0 = .ok (.aload_n 0, 1) := D_42 yB_cX8_get rfl rfl
theorem dX8_get_1 : decode cX8_get 1 = .ok (.bipush 44, 2) := D_16 yB_cX8_get rfl rfl (sg_p (m := 128) (N := 44) rfl rfl rfl)
theorem dX8_get_3 : decode cX8_get 3 = .ok (.bipush 11, 2) := D_16 yB_cX8_get rfl rfl (sg_p (m := 128) (N := 11) rfl rfl rfl)
theorem dX8_get_5 : decode cX8_get 5 = .ok (.iload_n 1, 1) := D_27 yB_cX8_get rfl rfl
theorem dX8_get_6 : decode cX8_get 6 = .ok (.imul, 1) := D_104 yB_cX8_get rfl rfl
theorem dX8_get_7 : decode cX8_get 7 = .ok (.iadd, 1) := D_96 yB_cX8_get rfl rfl
theorem dX8_get_8 : decode cX8_get 8 = .ok (.iload_n 2, 1) := D_28 yB_cX8_get rfl rfl
theorem dX8_get_9 : decode cX8_get 9 = .ok (.iadd, 1) := D_96 yB_cX8_get rfl rfl
theorem dX8_get_10 : decode cX8_get 10 = .ok (.iaload, 1) := D_46 yB_cX8_get rfl rfl
theorem dX8_get_11 : decode cX8_get 11 = .ok (.ireturn, 1) := D_172 yB_cX8_get rfl rfl
def F_X8_get (σ : Mem) (a1 : Nat) (x2 : Int32) (x3 : Int32) : Option (Int32) := (ix 121 ((44 + (11 * x2)) + x3)).bind fun k_1 => some (σ a1 k_1)
set_option maxHeartbeats 4000000 in
set_option maxRecDepth 100000 in
theorem c_X8_get (l : Launch) (D : va_G) (cA : Nat → ClassId) (ad : Nat → Nat) (o : Int64) (σ : Mem) (a1 : Nat) (x2 : Int32) (x3 : Int32) (ha1 : a1 < 106 ∧ kd a1 = (9, 121)) (res : Int32) (h : F_X8_get σ a1 x2 x3 = some res) (sz : Nat) : Met l yX8_get (WY yX8_get cX8_get 3 (some .int)) (RM 0) (va_Pc [.ref (ad a1), .int x2, .int x3] (PW D cA ad o σ sz)) (va_Qi (fun r σ9 => r = res ∧ σ9 = σ) (QW D cA ad o) (FA ad sz)) 0 0 (FA ad sz) := by
  refine ct_of (own := RX8) (k := 0) (Qf := va_Qi (fun r σ9 => r = res ∧ σ9 = σ) (QW D cA ad o)) rfl (by decide) (Nat.le_of_ble_eq_true rfl) (fun p e s m below meth c ls C0 X hr hlk hP hl => ?_) sz
  have hS : va_S (FA ad s.heap.size) s.heap s.heap [] := va_S.rf
  have hl : lv_has ls 3 [(0, .ref (ad a1)), (1, .int x2), (2, .int x3)] := hl
  obtain ⟨hx, hb, hml, hown, hts⟩ := id C0
  unfold F_X8_get at h
  refine lv_aload_n hx hb dX8_get_0 rfl (lv_at hl 0 rfl) ?_
  refine lv_bipush (v := 44) hx hb dX8_get_1 (by decide) ?_
  refine lv_bipush (v := 11) hx hb dX8_get_3 (by decide) ?_
  refine lv_iload_n hx hb dX8_get_5 rfl (lv_at hl 1 rfl) ?_
  refine lv_imul hx hb dX8_get_6 ?_
  refine lv_iadd hx hb dX8_get_7 ?_
  refine lv_iload_n hx hb dX8_get_8 rfl (lv_at hl 2 rfl) ?_
  refine lv_iadd hx hb dX8_get_9 ?_
  obtain ⟨k_1, ek_1, h⟩ := bnd h
  replace ek_1 := ix_s ek_1 (by decide)
  refine r_ialdN C0 X hP a1 (k := k_1) ha1 ek_1.1 ek_1.2 dX8_get_10 ?_
  exact r_iret C0 X hP hS hr hlk dX8_get_11 ⟨Option.some.inj h, rfl⟩
def bB_cX8_puts : Nat := 0xb14f1d601c60681b0b102c102a
theorem yB_cX8_puts : BYS cX8_puts 13 bB_cX8_puts := BYS_of (by decide +kernel)
theorem dX8_puts_0 : decode cX8_puts 0 = .ok (.aload_n 0, 1) := D_42 yB_cX8_puts rfl rfl
theorem dX8_puts_1 : decode cX8_puts 1 = .ok (.bipush 44, 2) := D_16 yB_cX8_puts rfl rfl (sg_p (m := 128) (N := 44) rfl rfl rfl)
theorem dX8_puts_3 : decode cX8_puts 3 = .ok (.bipush 11, 2) := D_16 yB_cX8_puts rfl rfl (sg_p (m := 128) (N := 11) rfl rfl rfl)
theorem dX8_puts_5 : decode cX8_puts 5 = .ok (.iload_n 1, 1) := D_27 yB_cX8_puts rfl rfl
theorem dX8_puts_6 : decode cX8_puts 6 = .ok (.imul, 1) := D_104 yB_cX8_puts rfl rfl
theorem dX8_puts_7 : decode cX8_puts 7 = .ok (.iadd, 1) := D_96 yB_cX8_puts rfl rfl
theorem dX8_puts_8 : decode cX8_puts 8 = .ok (.iload_n 2, 1) := D_28 yB_cX8_puts rfl rfl
theorem dX8_puts_9 : decode cX8_puts 9 = .ok (.iadd, 1) := D_96 yB_cX8_puts rfl rfl
theorem dX8_puts_10 : decode cX8_puts 10 = .ok (.iload_n 3, 1) := D_29 yB_cX8_puts rfl rfl
theorem dX8_puts_11 : decode cX8_puts 11 = .ok (.iastore, 1) := D_79 yB_cX8_puts rfl rfl
theorem dX8_puts_12 : decode cX8_puts 12 = .ok (.return_, 1) := D_177 yB_cX8_puts rfl rfl
def F_X8_puts (σ : Mem) (a1 : Nat) (x2 : Int32) (x3 : Int32) (x4 : Int32) : Option (Mem) := (ix 121 ((44 + (11 * x2)) + x3)).bind fun k_1 => some (stm σ a1 k_1 x4)
set_option maxHeartbeats 4000000 in
set_option maxRecDepth 100000 in
theorem c_X8_puts (l : Launch) (D : va_G) (cA : Nat → ClassId) (ad : Nat → Nat) (o : Int64) (σ : Mem) (a1 : Nat) (x2 : Int32) (x3 : Int32) (x4 : Int32) (ha1 : a1 < 106 ∧ kd a1 = (9, 121)) (res : Mem) (h : F_X8_puts σ a1 x2 x3 x4 = some res) (sz : Nat) : Met l yX8_puts (WY yX8_puts cX8_puts 4 none) (RM 0) (va_Pc [.ref (ad a1), .int x2, .int x3, .int x4] (PW D cA ad o σ sz)) (va_Qv (fun σ9 => σ9 = res) (QW D cA ad o) (FA ad sz)) 0 0 (FA ad sz) := by
  refine ct_of (own := RX8) (k := 0) (Qf := va_Qv (fun σ9 => σ9 = res) (QW D cA ad o)) rfl (by decide) (Nat.le_of_ble_eq_true rfl) (fun p e s m below meth c ls C0 X hr hlk hP hl => ?_) sz
  have hS : va_S (FA ad s.heap.size) s.heap s.heap [] := va_S.rf
  have hl : lv_has ls 4 [(0, .ref (ad a1)), (1, .int x2), (2, .int x3), (3, .int x4)] := hl
  obtain ⟨hx, hb, hml, hown, hts⟩ := id C0
  unfold F_X8_puts at h
  refine lv_aload_n hx hb dX8_puts_0 rfl (lv_at hl 0 rfl) ?_
  refine lv_bipush (v := 44) hx hb dX8_puts_1 (by decide) ?_
  refine lv_bipush (v := 11) hx hb dX8_puts_3 (by decide) ?_
  refine lv_iload_n hx hb dX8_puts_5 rfl (lv_at hl 1 rfl) ?_
  refine lv_imul hx hb dX8_puts_6 ?_
  refine lv_iadd hx hb dX8_puts_7 ?_
  refine lv_iload_n hx hb dX8_puts_8 rfl (lv_at hl 2 rfl) ?_
  refine lv_iadd hx hb dX8_puts_9 ?_
  refine lv_iload_n hx hb dX8_puts_10 rfl (lv_at hl 3 rfl) ?_
  obtain ⟨k_1, ek_1, h⟩ := bnd h
  replace ek_1 := ix_s ek_1 (by decide)
  refine r_iastN C0 X hP hS a1 (k := k_1) ha1 ek_1.1 ek_1.2 dX8_puts_11 (fun H locs hP hS => ?_)
  exact r_vret C0 X hP hS hr hlk dX8_puts_12 (Option.some.inj h)
def bB_cX8_here : Nat := 0xac18fc110600a72e603d00b42a4300b42a1f00b42a1400a24000b42a3d00b42a
theorem yB_cX8_here : BYS cX8_here 32 bB_cX8_here := BYS_of (by decide +kernel)
theorem dX8_here_0 : decode cX8_here 0 = .ok (.aload_n 0, 1) := D_42 yB_cX8_here rfl rfl
theorem dX8_here_1 : decode cX8_here 1 = .ok (.getfield 61, 3) := D_180 yB_cX8_here rfl rfl rfl
theorem dX8_here_4 : decode cX8_here 4 = .ok (.aload_n 0, 1) := D_42 yB_cX8_here rfl rfl
theorem dX8_here_5 : decode cX8_here 5 = .ok (.getfield 64, 3) := D_180 yB_cX8_here rfl rfl rfl
theorem dX8_here_8 : decode cX8_here 8 = .ok (.if_icmp .ge 20, 3) := D_162 yB_cX8_here rfl rfl (sg_p (m := 32768) (N := 20) rfl rfl rfl)
theorem dX8_here_11 : decode cX8_here 11 = .ok (.aload_n 0, 1) := D_42 yB_cX8_here rfl rfl
theorem dX8_here_12 : decode cX8_here 12 = .ok (.getfield 31, 3) := D_180 yB_cX8_here rfl rfl rfl
theorem dX8_here_15 : decode cX8_here 15 = .ok (.aload_n 0, 1) := D_42 yB_cX8_here rfl rfl
theorem dX8_here_16 : decode cX8_here 16 = .ok (.getfield 67, 3) := D_180 yB_cX8_here rfl rfl rfl
theorem dX8_here_19 : decode cX8_here 19 = .ok (.aload_n 0, 1) := D_42 yB_cX8_here rfl rfl
theorem dX8_here_20 : decode cX8_here 20 = .ok (.getfield 61, 3) := D_180 yB_cX8_here rfl rfl rfl
theorem dX8_here_23 : decode cX8_here 23 = .ok (.iadd, 1) := D_96 yB_cX8_here rfl rfl
theorem dX8_here_24 : decode cX8_here 24 = .ok (.iaload, 1) := D_46 yB_cX8_here rfl rfl
theorem dX8_here_25 : decode cX8_here 25 = .ok (.goto 6, 3) := D_167 yB_cX8_here rfl rfl (sg_p (m := 32768) (N := 6) rfl rfl rfl)
theorem dX8_here_28 : decode cX8_here 28 = .ok (.sipush (-1000), 3) := D_17 yB_cX8_here rfl rfl (sg_n (m := 32768) (N := 1000) rfl rfl rfl)
theorem dX8_here_31 : decode cX8_here 31 = .ok (.ireturn, 1) := D_172 yB_cX8_here rfl rfl
def F_X8_here (σ : Mem)  : Option (Int32) := if (σ 91 14) ≤ (σ 91 12) then (some (-1000)) else ((ix 800 ((σ 91 13) + (σ 91 12))).bind fun k_2 => some (σ 99 k_2))
set_option maxHeartbeats 4000000 in
set_option maxRecDepth 100000 in
theorem c_X8_here (l : Launch) (D : va_G) (cA : Nat → ClassId) (ad : Nat → Nat) (o : Int64) (σ : Mem)   (res : Int32) (h : F_X8_here σ  = some res) (sz : Nat) : Met l yX8_here (WY yX8_here cX8_here 1 (some .int)) (RM 0) (va_Pc [.ref (ad 91)] (PW D cA ad o σ sz)) (va_Qi (fun r σ9 => r = res ∧ σ9 = σ) (QW D cA ad o) (FA ad sz)) 0 0 (FA ad sz) := by
  refine ct_of (own := RX8) (k := 0) (Qf := va_Qi (fun r σ9 => r = res ∧ σ9 = σ) (QW D cA ad o)) rfl (by decide) (Nat.le_of_ble_eq_true rfl) (fun p e s m below meth c ls C0 X hr hlk hP hl => ?_) sz
  have hS : va_S (FA ad s.heap.size) s.heap s.heap [] := va_S.rf
  have hl : lv_has ls 1 [(0, .ref (ad 91))] := hl
  obtain ⟨hx, hb, hml, hown, hts⟩ := id C0
  unfold F_X8_here at h
  refine lv_aload_n hx hb dX8_here_0 rfl (lv_at hl 0 rfl) ?_
  refine gf_X8_61 C0 X hP 91 ⟨by decide, rfl⟩ dX8_here_1 ?_
  refine lv_aload_n hx hb dX8_here_4 rfl (lv_at hl 0 rfl) ?_
  refine gf_X8_64 C0 X hP 91 ⟨by decide, rfl⟩ dX8_here_5 ?_
  refine lv_icmp_ge (tgt := 28) hx hb dX8_here_8 (by decide) (fun c_1 => ?_) (fun c_1 => ?_)
  · replace h := it_t h c_1
    refine lv_sipush (v := (-1000)) hx hb dX8_here_28 (by decide) ?_
    exact r_iret C0 X hP hS hr hlk dX8_here_31 ⟨Option.some.inj h, rfl⟩
  · replace h := it_f h c_1
    refine lv_aload_n hx hb dX8_here_11 rfl (lv_at hl 0 rfl) ?_
    refine gf_X8_31 C0 X hP 91 (q := 99) ⟨by decide, rfl⟩ (by omega) rfl dX8_here_12 ?_
    refine lv_aload_n hx hb dX8_here_15 rfl (lv_at hl 0 rfl) ?_
    refine gf_X8_67 C0 X hP 91 ⟨by decide, rfl⟩ dX8_here_16 ?_
    refine lv_aload_n hx hb dX8_here_19 rfl (lv_at hl 0 rfl) ?_
    refine gf_X8_61 C0 X hP 91 ⟨by decide, rfl⟩ dX8_here_20 ?_
    refine lv_iadd hx hb dX8_here_23 ?_
    obtain ⟨k_2, ek_2, h⟩ := bnd h
    replace ek_2 := ix_s ek_2 (by decide)
    refine r_ialdN C0 X hP 99 (k := k_2) ⟨by decide, rfl⟩ ek_2.1 ek_2.2 dX8_here_24 ?_
    refine lv_goto (tgt := 31) hx hb dX8_here_25 (by decide) ?_
    exact r_iret C0 X hP hS hr hlk dX8_here_31 ⟨Option.some.inj h, rfl⟩
def bB_cX8_isDigit : Nat := 0xac3500b84c00144a0014854600b62a
theorem yB_cX8_isDigit : BYS cX8_isDigit 15 bB_cX8_isDigit := BYS_of (by decide +kernel)
theorem dX8_isDigit_0 : decode cX8_isDigit 0 = .ok (.aload_n 0, 1) := D_42 yB_cX8_isDigit rfl rfl
theorem dX8_isDigit_1 : decode cX8_isDigit 1 = .ok (.invokevirtual 70, 3) := D_182 yB_cX8_isDigit rfl rfl rfl
theorem dX8_isDigit_4 : decode cX8_isDigit 4 = .ok (.i2l, 1) := D_133 yB_cX8_isDigit rfl rfl
theorem dX8_isDigit_5 : decode cX8_isDigit 5 = .ok (.ldc2_w 74, 3) := D_20 yB_cX8_isDigit rfl rfl rfl
theorem dX8_isDigit_8 : decode cX8_isDigit 8 = .ok (.ldc2_w 76, 3) := D_20 yB_cX8_isDigit rfl rfl rfl
theorem dX8_isDigit_11 : decode cX8_isDigit 11 = .ok (.invokestatic 53, 3) := D_184 yB_cX8_isDigit rfl rfl rfl
theorem dX8_isDigit_14 : decode cX8_isDigit 14 = .ok (.ireturn, 1) := D_172 yB_cX8_isDigit rfl rfl
def F_X8_isDigit (σ : Mem)  : Option (Int32) := (F_X8_here σ ).bind fun r_1 => if r_1 < 48 ∨ 57 < r_1 then (some 0) else (some 1)
set_option maxHeartbeats 4000000 in
set_option maxRecDepth 100000 in
theorem c_X8_isDigit (l : Launch) (D : va_G) (cA : Nat → ClassId) (ad : Nat → Nat) (o : Int64) (σ : Mem)   (res : Int32) (h : F_X8_isDigit σ  = some res) (sz : Nat) : Met l yX8_isDigit (WY yX8_isDigit cX8_isDigit 1 (some .boolean)) (RM 1) (va_Pc [.ref (ad 91)] (PW D cA ad o σ sz)) (va_Qi (fun r σ9 => r = res ∧ σ9 = σ) (QW D cA ad o) (FA ad sz)) 0 0 (FA ad sz) := by
  refine ct_of (own := RX8) (k := 1) (Qf := va_Qi (fun r σ9 => r = res ∧ σ9 = σ) (QW D cA ad o)) rfl (by decide) (Nat.le_of_ble_eq_true rfl) (fun p e s m below meth c ls C0 X hr hlk hP hl => ?_) sz
  have hS : va_S (FA ad s.heap.size) s.heap s.heap [] := va_S.rf
  have hl : lv_has ls 1 [(0, .ref (ad 91))] := hl
  obtain ⟨hx, hb, hml, hown, hts⟩ := id C0
  unfold F_X8_isDigit at h
  refine lv_aload_n hx hb dX8_isDigit_0 rfl (lv_at hl 0 rfl) ?_
  obtain ⟨r_1, er_1, h⟩ := bnd h
  refine r_ci X hS (r_runV (As := []) (rest := []) C0 X hP L_X8_70 (fun sz => c_X8_here l D cA ad o σ   r_1 er_1 sz) (show 91 < 106 ∧ kd 91 = (8, 24) from ⟨by decide, rfl⟩).1 (show 91 < 106 ∧ kd 91 = (8, 24) from ⟨by decide, rfl⟩).2 (by decide) rfl ⟨Nat.le_of_ble_eq_true rfl, Nat.le_of_ble_eq_true rfl⟩ rfl hl.1 rfl (Nat.le_of_ble_eq_true rfl) dX8_isDigit_1 ⟨Nat.zero_le _, Nat.zero_le _⟩) (fun r9 σ9 H locs hw hP hS => ?_)
  rw [hw.2] at hP
  rw [hw.1]
  refine lv_i2l (v := (r_1.toInt64)) hx hb dX8_isDigit_4 rfl ?_
  refine lv_ldc2 (own := RX8) (index := 74) (v := 48) hx hb hown (hts _ (tmc sb5_6 11 rfl (by decide +kernel))) dX8_isDigit_5 ?_
  refine lv_topEl (y := ((48 : Int32).toInt64)) (by decide) ?_
  refine lv_ldc2 (own := RX8) (index := 76) (v := 57) hx hb hown (hts _ (tmc sb5_6 12 rfl (by decide +kernel))) dX8_isDigit_8 ?_
  refine lv_topEl (y := ((57 : Int32).toInt64)) (by decide) ?_
  refine r_ci X hS (r_runS (As := [.long (r_1.toInt64), .long ((48 : Int32).toInt64), .long ((57 : Int32).toInt64)]) (rest := []) C0 X hP L_X8_53 (fun sz => c_X8_isIn l D cA ad o σ r_1 48 57 sz) ⟨Nat.le_of_ble_eq_true rfl, Nat.le_of_ble_eq_true rfl⟩ rfl hl.1 rfl (Nat.le_of_ble_eq_true rfl) dX8_isDigit_11 ⟨Nat.zero_le _, Nat.zero_le _⟩) (fun r9 σ9 H locs hw hP hS => ?_)
  rw [hw.2] at hP
  obtain ⟨⟨b_2, rfl⟩ | ⟨b_2, rfl⟩, -⟩ := hw
  · replace h := it_f h (inn b_2)
    exact r_zret C0 X hP hS hr hlk dX8_isDigit_14 (Or.inr rfl) ⟨Option.some.inj h, rfl⟩
  · replace h := it_t h b_2
    exact r_zret C0 X hP hS hr hlk dX8_isDigit_14 (Or.inl rfl) ⟨Option.some.inj h, rfl⟩
def bB_cX8_takes : Nat := 0xac043d00b560043d00b4592aac0305009f1b4600b62a
theorem yB_cX8_takes : BYS cX8_takes 22 bB_cX8_takes := BYS_of (by decide +kernel)
theorem dX8_takes_0 : decode cX8_takes 0 = .ok (.aload_n 0, 1) := D_42 yB_cX8_takes rfl rfl
theorem dX8_takes_1 : decode cX8_takes 1 = .ok (.invokevirtual 70, 3) := D_182 yB_cX8_takes rfl rfl rfl
theorem dX8_takes_4 : decode cX8_takes 4 = .ok (.iload_n 1, 1) := D_27 yB_cX8_takes rfl rfl
theorem dX8_takes_5 : decode cX8_takes 5 = .ok (.if_icmp .eq 5, 3) := D_159 yB_cX8_takes rfl rfl (sg_p (m := 32768) (N := 5) rfl rfl rfl)
theorem dX8_takes_8 : decode cX8_takes 8 = .ok (.iconst 0, 1) := D_3 yB_cX8_takes rfl rfl
theorem dX8_takes_9 : decode cX8_takes 9 = .ok (.ireturn, 1) := D_172 yB_cX8_takes rfl rfl
theorem dX8_takes_10 : decode cX8_takes 10 = .ok (.aload_n 0, 1) := D_42 yB_cX8_takes rfl rfl
theorem dX8_takes_11 : decode cX8_takes 11 = .ok (.dup, 1) := D_89 yB_cX8_takes rfl rfl
theorem dX8_takes_12 : decode cX8_takes 12 = .ok (.getfield 61, 3) := D_180 yB_cX8_takes rfl rfl rfl
theorem dX8_takes_15 : decode cX8_takes 15 = .ok (.iconst 1, 1) := D_4 yB_cX8_takes rfl rfl
theorem dX8_takes_16 : decode cX8_takes 16 = .ok (.iadd, 1) := D_96 yB_cX8_takes rfl rfl
theorem dX8_takes_17 : decode cX8_takes 17 = .ok (.putfield 61, 3) := D_181 yB_cX8_takes rfl rfl rfl
theorem dX8_takes_20 : decode cX8_takes 20 = .ok (.iconst 1, 1) := D_4 yB_cX8_takes rfl rfl
theorem dX8_takes_21 : decode cX8_takes 21 = .ok (.ireturn, 1) := D_172 yB_cX8_takes rfl rfl
def F_X8_takes (σ : Mem) (x1 : Int32) : Option (Mem × Int32) := (F_X8_here σ ).bind fun r_1 => if r_1 = x1 then (some ((stm σ 91 12 ((σ 91 12) + 1)), 1)) else (some (σ, 0))
set_option maxHeartbeats 4000000 in
set_option maxRecDepth 100000 in
theorem c_X8_takes (l : Launch) (D : va_G) (cA : Nat → ClassId) (ad : Nat → Nat) (o : Int64) (σ : Mem) (x1 : Int32)  (res : Mem × Int32) (h : F_X8_takes σ x1 = some res) (sz : Nat) : Met l yX8_takes (WY yX8_takes cX8_takes 2 (some .boolean)) (RM 1) (va_Pc [.ref (ad 91), .int x1] (PW D cA ad o σ sz)) (va_Qi (fun r σ9 => r = res.2 ∧ σ9 = res.1) (QW D cA ad o) (FA ad sz)) 0 0 (FA ad sz) := by
  refine ct_of (own := RX8) (k := 1) (Qf := va_Qi (fun r σ9 => r = res.2 ∧ σ9 = res.1) (QW D cA ad o)) rfl (by decide) (Nat.le_of_ble_eq_true rfl) (fun p e s m below meth c ls C0 X hr hlk hP hl => ?_) sz
  have hS : va_S (FA ad s.heap.size) s.heap s.heap [] := va_S.rf
  have hl : lv_has ls 2 [(0, .ref (ad 91)), (1, .int x1)] := hl
  obtain ⟨hx, hb, hml, hown, hts⟩ := id C0
  unfold F_X8_takes at h
  refine lv_aload_n hx hb dX8_takes_0 rfl (lv_at hl 0 rfl) ?_
  obtain ⟨r_1, er_1, h⟩ := bnd h
  refine r_ci X hS (r_runV (As := []) (rest := []) C0 X hP L_X8_70 (fun sz => c_X8_here l D cA ad o σ   r_1 er_1 sz) (show 91 < 106 ∧ kd 91 = (8, 24) from ⟨by decide, rfl⟩).1 (show 91 < 106 ∧ kd 91 = (8, 24) from ⟨by decide, rfl⟩).2 (by decide) rfl ⟨Nat.le_of_ble_eq_true rfl, Nat.le_of_ble_eq_true rfl⟩ rfl hl.1 rfl (Nat.le_of_ble_eq_true rfl) dX8_takes_1 ⟨Nat.zero_le _, Nat.zero_le _⟩) (fun r9 σ9 H locs hw hP hS => ?_)
  rw [hw.2] at hP
  rw [hw.1]
  refine lv_iload_n hx hb dX8_takes_4 rfl (lv_at hl 1 rfl) ?_
  refine lv_icmp_eq (tgt := 10) hx hb dX8_takes_5 (by decide) (fun c_2 => ?_) (fun c_2 => ?_)
  · replace h := it_t h c_2
    refine lv_aload_n hx hb dX8_takes_10 rfl (lv_at hl 0 rfl) ?_
    refine lv_dup hx hb dX8_takes_11 rfl ?_
    refine gf_X8_61 C0 X hP 91 ⟨by decide, rfl⟩ dX8_takes_12 ?_
    refine lv_iconst (v := 1) hx hb dX8_takes_15 (by decide) ?_
    refine lv_iadd hx hb dX8_takes_16 ?_
    refine pf_X8_61 C0 X hP hS 91 ⟨by decide, rfl⟩ dX8_takes_17 (fun H locs hP hS => ?_)
    refine lv_iconst (v := 1) hx hb dX8_takes_20 (by decide) ?_
    exact r_zret C0 X hP hS hr hlk dX8_takes_21 (Or.inr rfl) (rt2 h)
  · replace h := it_f h c_2
    refine lv_iconst (v := 0) hx hb dX8_takes_8 (by decide) ?_
    exact r_zret C0 X hP hS hr hlk dX8_takes_9 (Or.inl rfl) (rt2 h)
def bB_cX8_readsDigit : Nat := 0xac043d00b560043d00b4592a5200b560045200b4592a4f6430104600b62a5200b42a2800b42aac0305009a4e00b62a
theorem yB_cX8_readsDigit : BYS cX8_readsDigit 47 bB_cX8_readsDigit := BYS_of (by decide +kernel)
theorem dX8_readsDigit_0 : decode cX8_readsDigit 0 = .ok (.aload_n 0, 1) := D_42 yB_cX8_readsDigit rfl rfl
theorem dX8_readsDigit_1 : decode cX8_readsDigit 1 = .ok (.invokevirtual 78, 3) := D_182 yB_cX8_readsDigit rfl rfl rfl
theorem dX8_readsDigit_4 : decode cX8_readsDigit 4 = .ok (.ifCond .ne 5, 3) := D_154 yB_cX8_readsDigit rfl rfl (sg_p (m := 32768) (N := 5) rfl rfl rfl)
theorem dX8_readsDigit_7 : decode cX8_readsDigit 7 = .ok (.iconst 0, 1) := D_3 yB_cX8_readsDigit rfl rfl
theorem dX8_readsDigit_8 : decode cX8_readsDigit 8 = .ok (.ireturn, 1) := D_172 yB_cX8_readsDigit rfl rfl
theorem dX8_readsDigit_9 : decode cX8_readsDigit 9 = .ok (.aload_n 0, 1) := D_42 yB_cX8_readsDigit rfl rfl
theorem dX8_readsDigit_10 : decode cX8_readsDigit 10 = .ok (.getfield 40, 3) := D_180 yB_cX8_readsDigit rfl rfl rfl
theorem dX8_readsDigit_13 : decode cX8_readsDigit 13 = .ok (.aload_n 0, 1) := D_42 yB_cX8_readsDigit rfl rfl
theorem dX8_readsDigit_14 : decode cX8_readsDigit 14 = .ok (.getfield 82, 3) := D_180 yB_cX8_readsDigit rfl rfl rfl
theorem dX8_readsDigit_17 : decode cX8_readsDigit 17 = .ok (.aload_n 0, 1) := D_42 yB_cX8_readsDigit rfl rfl
theorem dX8_readsDigit_18 : decode cX8_readsDigit 18 = .ok (.invokevirtual 70, 3) := D_182 yB_cX8_readsDigit rfl rfl rfl
theorem dX8_readsDigit_21 : decode cX8_readsDigit 21 = .ok (.bipush 48, 2) := D_16 yB_cX8_readsDigit rfl rfl (sg_p (m := 128) (N := 48) rfl rfl rfl)
theorem dX8_readsDigit_23 : decode cX8_readsDigit 23 = .ok (.isub, 1) := D_100 yB_cX8_readsDigit rfl rfl
theorem dX8_readsDigit_24 : decode cX8_readsDigit 24 = .ok (.iastore, 1) := D_79 yB_cX8_readsDigit rfl rfl
theorem dX8_readsDigit_25 : decode cX8_readsDigit 25 = .ok (.aload_n 0, 1) := D_42 yB_cX8_readsDigit rfl rfl
theorem dX8_readsDigit_26 : decode cX8_readsDigit 26 = .ok (.dup, 1) := D_89 yB_cX8_readsDigit rfl rfl
theorem dX8_readsDigit_27 : decode cX8_readsDigit 27 = .ok (.getfield 82, 3) := D_180 yB_cX8_readsDigit rfl rfl rfl
theorem dX8_readsDigit_30 : decode cX8_readsDigit 30 = .ok (.iconst 1, 1) := D_4 yB_cX8_readsDigit rfl rfl
theorem dX8_readsDigit_31 : decode cX8_readsDigit 31 = .ok (.iadd, 1) := D_96 yB_cX8_readsDigit rfl rfl
theorem dX8_readsDigit_32 : decode cX8_readsDigit 32 = .ok (.putfield 82, 3) := D_181 yB_cX8_readsDigit rfl rfl rfl
theorem dX8_readsDigit_35 : decode cX8_readsDigit 35 = .ok (.aload_n 0, 1) := D_42 yB_cX8_readsDigit rfl rfl
theorem dX8_readsDigit_36 : decode cX8_readsDigit 36 = .ok (.dup, 1) := D_89 yB_cX8_readsDigit rfl rfl
theorem dX8_readsDigit_37 : decode cX8_readsDigit 37 = .ok (.getfield 61, 3) := D_180 yB_cX8_readsDigit rfl rfl rfl
theorem dX8_readsDigit_40 : decode cX8_readsDigit 40 = .ok (.iconst 1, 1) := D_4 yB_cX8_readsDigit rfl rfl
theorem dX8_readsDigit_41 : decode cX8_readsDigit 41 = .ok (.iadd, 1) := D_96 yB_cX8_readsDigit rfl rfl
theorem dX8_readsDigit_42 : decode cX8_readsDigit 42 = .ok (.putfield 61, 3) := D_181 yB_cX8_readsDigit rfl rfl rfl
theorem dX8_readsDigit_45 : decode cX8_readsDigit 45 = .ok (.iconst 1, 1) := D_4 yB_cX8_readsDigit rfl rfl
theorem dX8_readsDigit_46 : decode cX8_readsDigit 46 = .ok (.ireturn, 1) := D_172 yB_cX8_readsDigit rfl rfl
def F_X8_readsDigit (σ : Mem)  : Option (Mem × Int32) := (F_X8_isDigit σ ).bind fun r_1 => if r_1 = 0 then (some (σ, 0)) else ((F_X8_here σ ).bind fun r_3 => (ix 5 (σ 91 15)).bind fun k_4 => some ((stm (stm (stm σ 102 k_4 (r_3 - 48)) 91 15 (((stm σ 102 k_4 (r_3 - 48)) 91 15) + 1)) 91 12 (((stm (stm σ 102 k_4 (r_3 - 48)) 91 15 (((stm σ 102 k_4 (r_3 - 48)) 91 15) + 1)) 91 12) + 1)), 1))
set_option maxHeartbeats 4000000 in
set_option maxRecDepth 100000 in
theorem c_X8_readsDigit (l : Launch) (D : va_G) (cA : Nat → ClassId) (ad : Nat → Nat) (o : Int64) (σ : Mem)   (res : Mem × Int32) (h : F_X8_readsDigit σ  = some res) (sz : Nat) : Met l yX8_readsDigit (WY yX8_readsDigit cX8_readsDigit 1 (some .boolean)) (RM 2) (va_Pc [.ref (ad 91)] (PW D cA ad o σ sz)) (va_Qi (fun r σ9 => r = res.2 ∧ σ9 = res.1) (QW D cA ad o) (FA ad sz)) 0 0 (FA ad sz) := by
  refine ct_of (own := RX8) (k := 2) (Qf := va_Qi (fun r σ9 => r = res.2 ∧ σ9 = res.1) (QW D cA ad o)) rfl (by decide) (Nat.le_of_ble_eq_true rfl) (fun p e s m below meth c ls C0 X hr hlk hP hl => ?_) sz
  have hS : va_S (FA ad s.heap.size) s.heap s.heap [] := va_S.rf
  have hl : lv_has ls 1 [(0, .ref (ad 91))] := hl
  obtain ⟨hx, hb, hml, hown, hts⟩ := id C0
  unfold F_X8_readsDigit at h
  refine lv_aload_n hx hb dX8_readsDigit_0 rfl (lv_at hl 0 rfl) ?_
  obtain ⟨r_1, er_1, h⟩ := bnd h
  refine r_ci X hS (r_runV (As := []) (rest := []) C0 X hP L_X8_78 (fun sz => c_X8_isDigit l D cA ad o σ   r_1 er_1 sz) (show 91 < 106 ∧ kd 91 = (8, 24) from ⟨by decide, rfl⟩).1 (show 91 < 106 ∧ kd 91 = (8, 24) from ⟨by decide, rfl⟩).2 (by decide) rfl ⟨Nat.le_of_ble_eq_true rfl, Nat.le_of_ble_eq_true rfl⟩ rfl hl.1 rfl (Nat.le_of_ble_eq_true rfl) dX8_readsDigit_1 ⟨Nat.zero_le _, Nat.zero_le _⟩) (fun r9 σ9 H locs hw hP hS => ?_)
  rw [hw.2] at hP
  rw [hw.1]
  refine lv_if_ne (tgt := 9) hx hb dX8_readsDigit_4 (by decide) (fun c_2 => ?_) (fun c_2 => ?_)
  · replace h := it_f h c_2
    refine lv_aload_n hx hb dX8_readsDigit_9 rfl (lv_at hl 0 rfl) ?_
    refine gf_X8_40 C0 X hP 91 (q := 102) ⟨by decide, rfl⟩ (by omega) rfl dX8_readsDigit_10 ?_
    refine lv_aload_n hx hb dX8_readsDigit_13 rfl (lv_at hl 0 rfl) ?_
    refine gf_X8_82 C0 X hP 91 ⟨by decide, rfl⟩ dX8_readsDigit_14 ?_
    refine lv_aload_n hx hb dX8_readsDigit_17 rfl (lv_at hl 0 rfl) ?_
    obtain ⟨r_3, er_3, h⟩ := bnd h
    refine r_ci X hS (r_runV (As := []) (rest := [.int (σ 91 15), .ref (ad 102)]) C0 X hP L_X8_70 (fun sz => c_X8_here l D cA ad o σ   r_3 er_3 sz) (show 91 < 106 ∧ kd 91 = (8, 24) from ⟨by decide, rfl⟩).1 (show 91 < 106 ∧ kd 91 = (8, 24) from ⟨by decide, rfl⟩).2 (by decide) rfl ⟨Nat.le_of_ble_eq_true rfl, Nat.le_of_ble_eq_true rfl⟩ rfl hl.1 rfl (Nat.le_of_ble_eq_true rfl) dX8_readsDigit_18 ⟨Nat.zero_le _, Nat.zero_le _⟩) (fun r9 σ9 H locs hw hP hS => ?_)
    rw [hw.2] at hP
    rw [hw.1]
    refine lv_bipush (v := 48) hx hb dX8_readsDigit_21 (by decide) ?_
    refine lv_isub hx hb dX8_readsDigit_23 ?_
    obtain ⟨k_4, ek_4, h⟩ := bnd h
    replace ek_4 := ix_s ek_4 (by decide)
    refine r_iastN C0 X hP hS 102 (k := k_4) ⟨by decide, rfl⟩ ek_4.1 ek_4.2 dX8_readsDigit_24 (fun H locs hP hS => ?_)
    refine lv_aload_n hx hb dX8_readsDigit_25 rfl (lv_at hl 0 rfl) ?_
    refine lv_dup hx hb dX8_readsDigit_26 rfl ?_
    refine gf_X8_82 C0 X hP 91 ⟨by decide, rfl⟩ dX8_readsDigit_27 ?_
    refine lv_iconst (v := 1) hx hb dX8_readsDigit_30 (by decide) ?_
    refine lv_iadd hx hb dX8_readsDigit_31 ?_
    refine pf_X8_82 C0 X hP hS 91 ⟨by decide, rfl⟩ dX8_readsDigit_32 (fun H locs hP hS => ?_)
    refine lv_aload_n hx hb dX8_readsDigit_35 rfl (lv_at hl 0 rfl) ?_
    refine lv_dup hx hb dX8_readsDigit_36 rfl ?_
    refine gf_X8_61 C0 X hP 91 ⟨by decide, rfl⟩ dX8_readsDigit_37 ?_
    refine lv_iconst (v := 1) hx hb dX8_readsDigit_40 (by decide) ?_
    refine lv_iadd hx hb dX8_readsDigit_41 ?_
    refine pf_X8_61 C0 X hP hS 91 ⟨by decide, rfl⟩ dX8_readsDigit_42 (fun H locs hP hS => ?_)
    refine lv_iconst (v := 1) hx hb dX8_readsDigit_45 (by decide) ?_
    exact r_zret C0 X hP hS hr hlk dX8_readsDigit_46 (Or.inr rfl) (rt2 h)
  · replace h := it_t h c_2
    refine lv_iconst (v := 0) hx hb dX8_readsDigit_7 (by decide) ?_
    exact r_zret C0 X hP hS hr hlk dX8_readsDigit_8 (Or.inl rfl) (rt2 h)
def bB_cX8_readsNumber : Nat := 0xac044f1b64045200b42a2800b42ad6ffa70102843d00b560043d00b4592a3c643010604600b62a681b0a102000994e00b62a27009e1b2b00a2061c3d043c2e64045200b42a2800b42aac0305009a5500b62a
theorem yB_cX8_readsNumber : BYS cX8_readsNumber 82 bB_cX8_readsNumber := BYS_of (by decide +kernel)
theorem dX8_readsNumber_0 : decode cX8_readsNumber 0 = .ok (.aload_n 0, 1) := D_42 yB_cX8_readsNumber rfl rfl
theorem dX8_readsNumber_1 : decode cX8_readsNumber 1 = .ok (.invokevirtual 85, 3) := D_182 yB_cX8_readsNumber rfl rfl rfl
theorem dX8_readsNumber_4 : decode cX8_readsNumber 4 = .ok (.ifCond .ne 5, 3) := D_154 yB_cX8_readsNumber rfl rfl (sg_p (m := 32768) (N := 5) rfl rfl rfl)
theorem dX8_readsNumber_7 : decode cX8_readsNumber 7 = .ok (.iconst 0, 1) := D_3 yB_cX8_readsNumber rfl rfl
theorem dX8_readsNumber_8 : decode cX8_readsNumber 8 = .ok (.ireturn, 1) := D_172 yB_cX8_readsNumber rfl rfl
theorem dX8_readsNumber_9 : decode cX8_readsNumber 9 = .ok (.aload_n 0, 1) := D_42 yB_cX8_readsNumber rfl rfl
theorem dX8_readsNumber_10 : decode cX8_readsNumber 10 = .ok (.getfield 40, 3) := D_180 yB_cX8_readsNumber rfl rfl rfl
theorem dX8_readsNumber_13 : decode cX8_readsNumber 13 = .ok (.aload_n 0, 1) := D_42 yB_cX8_readsNumber rfl rfl
theorem dX8_readsNumber_14 : decode cX8_readsNumber 14 = .ok (.getfield 82, 3) := D_180 yB_cX8_readsNumber rfl rfl rfl
theorem dX8_readsNumber_17 : decode cX8_readsNumber 17 = .ok (.iconst 1, 1) := D_4 yB_cX8_readsNumber rfl rfl
theorem dX8_readsNumber_18 : decode cX8_readsNumber 18 = .ok (.isub, 1) := D_100 yB_cX8_readsNumber rfl rfl
theorem dX8_readsNumber_19 : decode cX8_readsNumber 19 = .ok (.iaload, 1) := D_46 yB_cX8_readsNumber rfl rfl
theorem dX8_readsNumber_20 : decode cX8_readsNumber 20 = .ok (.istore_n 1, 1) := D_60 yB_cX8_readsNumber rfl rfl
theorem dX8_readsNumber_21 : decode cX8_readsNumber 21 = .ok (.iconst 1, 1) := D_4 yB_cX8_readsNumber rfl rfl
theorem dX8_readsNumber_22 : decode cX8_readsNumber 22 = .ok (.istore_n 2, 1) := D_61 yB_cX8_readsNumber rfl rfl
theorem dX8_readsNumber_23 : decode cX8_readsNumber 23 = .ok (.iload_n 2, 1) := D_28 yB_cX8_readsNumber rfl rfl
theorem dX8_readsNumber_24 : decode cX8_readsNumber 24 = .ok (.iconst 3, 1) := D_6 yB_cX8_readsNumber rfl rfl
theorem dX8_readsNumber_25 : decode cX8_readsNumber 25 = .ok (.if_icmp .ge 43, 3) := D_162 yB_cX8_readsNumber rfl rfl (sg_p (m := 32768) (N := 43) rfl rfl rfl)
theorem dX8_readsNumber_28 : decode cX8_readsNumber 28 = .ok (.iload_n 1, 1) := D_27 yB_cX8_readsNumber rfl rfl
theorem dX8_readsNumber_29 : decode cX8_readsNumber 29 = .ok (.ifCond .le 39, 3) := D_158 yB_cX8_readsNumber rfl rfl (sg_p (m := 32768) (N := 39) rfl rfl rfl)
theorem dX8_readsNumber_32 : decode cX8_readsNumber 32 = .ok (.aload_n 0, 1) := D_42 yB_cX8_readsNumber rfl rfl
theorem dX8_readsNumber_33 : decode cX8_readsNumber 33 = .ok (.invokevirtual 78, 3) := D_182 yB_cX8_readsNumber rfl rfl rfl
theorem dX8_readsNumber_36 : decode cX8_readsNumber 36 = .ok (.ifCond .eq 32, 3) := D_153 yB_cX8_readsNumber rfl rfl (sg_p (m := 32768) (N := 32) rfl rfl rfl)
theorem dX8_readsNumber_39 : decode cX8_readsNumber 39 = .ok (.bipush 10, 2) := D_16 yB_cX8_readsNumber rfl rfl (sg_p (m := 128) (N := 10) rfl rfl rfl)
theorem dX8_readsNumber_41 : decode cX8_readsNumber 41 = .ok (.iload_n 1, 1) := D_27 yB_cX8_readsNumber rfl rfl
theorem dX8_readsNumber_42 : decode cX8_readsNumber 42 = .ok (.imul, 1) := D_104 yB_cX8_readsNumber rfl rfl
theorem dX8_readsNumber_43 : decode cX8_readsNumber 43 = .ok (.aload_n 0, 1) := D_42 yB_cX8_readsNumber rfl rfl
theorem dX8_readsNumber_44 : decode cX8_readsNumber 44 = .ok (.invokevirtual 70, 3) := D_182 yB_cX8_readsNumber rfl rfl rfl
theorem dX8_readsNumber_47 : decode cX8_readsNumber 47 = .ok (.iadd, 1) := D_96 yB_cX8_readsNumber rfl rfl
theorem dX8_readsNumber_48 : decode cX8_readsNumber 48 = .ok (.bipush 48, 2) := D_16 yB_cX8_readsNumber rfl rfl (sg_p (m := 128) (N := 48) rfl rfl rfl)
theorem dX8_readsNumber_50 : decode cX8_readsNumber 50 = .ok (.isub, 1) := D_100 yB_cX8_readsNumber rfl rfl
theorem dX8_readsNumber_51 : decode cX8_readsNumber 51 = .ok (.istore_n 1, 1) := D_60 yB_cX8_readsNumber rfl rfl
theorem dX8_readsNumber_52 : decode cX8_readsNumber 52 = .ok (.aload_n 0, 1) := D_42 yB_cX8_readsNumber rfl rfl
theorem dX8_readsNumber_53 : decode cX8_readsNumber 53 = .ok (.dup, 1) := D_89 yB_cX8_readsNumber rfl rfl
theorem dX8_readsNumber_54 : decode cX8_readsNumber 54 = .ok (.getfield 61, 3) := D_180 yB_cX8_readsNumber rfl rfl rfl
theorem dX8_readsNumber_57 : decode cX8_readsNumber 57 = .ok (.iconst 1, 1) := D_4 yB_cX8_readsNumber rfl rfl
theorem dX8_readsNumber_58 : decode cX8_readsNumber 58 = .ok (.iadd, 1) := D_96 yB_cX8_readsNumber rfl rfl
theorem dX8_readsNumber_59 : decode cX8_readsNumber 59 = .ok (.putfield 61, 3) := D_181 yB_cX8_readsNumber rfl rfl rfl
theorem dX8_readsNumber_62 : decode cX8_readsNumber 62 = .ok (.iinc 2 1, 3) := D_132 yB_cX8_readsNumber rfl rfl rfl (sg_p (m := 128) (N := 1) rfl rfl rfl)
theorem dX8_readsNumber_65 : decode cX8_readsNumber 65 = .ok (.goto (-42), 3) := D_167 yB_cX8_readsNumber rfl rfl (sg_n (m := 32768) (N := 42) rfl rfl rfl)
theorem dX8_readsNumber_68 : decode cX8_readsNumber 68 = .ok (.aload_n 0, 1) := D_42 yB_cX8_readsNumber rfl rfl
theorem dX8_readsNumber_69 : decode cX8_readsNumber 69 = .ok (.getfield 40, 3) := D_180 yB_cX8_readsNumber rfl rfl rfl
theorem dX8_readsNumber_72 : decode cX8_readsNumber 72 = .ok (.aload_n 0, 1) := D_42 yB_cX8_readsNumber rfl rfl
theorem dX8_readsNumber_73 : decode cX8_readsNumber 73 = .ok (.getfield 82, 3) := D_180 yB_cX8_readsNumber rfl rfl rfl
theorem dX8_readsNumber_76 : decode cX8_readsNumber 76 = .ok (.iconst 1, 1) := D_4 yB_cX8_readsNumber rfl rfl
theorem dX8_readsNumber_77 : decode cX8_readsNumber 77 = .ok (.isub, 1) := D_100 yB_cX8_readsNumber rfl rfl
theorem dX8_readsNumber_78 : decode cX8_readsNumber 78 = .ok (.iload_n 1, 1) := D_27 yB_cX8_readsNumber rfl rfl
theorem dX8_readsNumber_79 : decode cX8_readsNumber 79 = .ok (.iastore, 1) := D_79 yB_cX8_readsNumber rfl rfl
theorem dX8_readsNumber_80 : decode cX8_readsNumber 80 = .ok (.iconst 1, 1) := D_4 yB_cX8_readsNumber rfl rfl
theorem dX8_readsNumber_81 : decode cX8_readsNumber 81 = .ok (.ireturn, 1) := D_172 yB_cX8_readsNumber rfl rfl
def F_X8_readsNumber_23   : Nat → Mem → Int32 → Int32 → Option (Mem × Int32)
  | 0, _, _, _ => none
  | nn + 1, σ, v2, v1 => if 3 ≤ v2 then ((ix 5 ((σ 91 15) - 1)).bind fun k_7 => some ((stm σ 102 k_7 v1), 1)) else (if v1 ≤ 0 then ((ix 5 ((σ 91 15) - 1)).bind fun k_9 => some ((stm σ 102 k_9 v1), 1)) else ((F_X8_isDigit σ ).bind fun r_10 => if r_10 = 0 then ((ix 5 ((σ 91 15) - 1)).bind fun k_12 => some ((stm σ 102 k_12 v1), 1)) else ((F_X8_here σ ).bind fun r_13 => F_X8_readsNumber_23 nn (stm σ 91 12 ((σ 91 12) + 1)) (v2 + 1) (((10 * v1) + r_13) - 48))))
def F_X8_readsNumber (σ : Mem)  : Option (Mem × Int32) := bd2 (F_X8_readsDigit σ ) fun σ_1 r_2 => if r_2 = 0 then (some (σ_1, 0)) else ((ix 5 ((σ_1 91 15) - 1)).bind fun k_4 => F_X8_readsNumber_23 FU σ_1 1 (σ_1 102 k_4))
set_option maxHeartbeats 4000000 in
set_option maxRecDepth 100000 in
theorem c_X8_readsNumber (l : Launch) (D : va_G) (cA : Nat → ClassId) (ad : Nat → Nat) (o : Int64) (σ : Mem)   (res : Mem × Int32) (h : F_X8_readsNumber σ  = some res) (sz : Nat) : Met l yX8_readsNumber (WY yX8_readsNumber cX8_readsNumber 3 (some .boolean)) (RM 3) (va_Pc [.ref (ad 91)] (PW D cA ad o σ sz)) (va_Qi (fun r σ9 => r = res.2 ∧ σ9 = res.1) (QW D cA ad o) (FA ad sz)) 0 0 (FA ad sz) := by
  refine ct_of (own := RX8) (k := 3) (Qf := va_Qi (fun r σ9 => r = res.2 ∧ σ9 = res.1) (QW D cA ad o)) rfl (by decide) (Nat.le_of_ble_eq_true rfl) (fun p e s m below meth c ls C0 X hr hlk hP hl => ?_) sz
  have hS : va_S (FA ad s.heap.size) s.heap s.heap [] := va_S.rf
  have hl : lv_has ls 3 [(0, .ref (ad 91))] := hl
  obtain ⟨hx, hb, hml, hown, hts⟩ := id C0
  unfold F_X8_readsNumber at h
  refine lv_aload_n hx hb dX8_readsNumber_0 rfl (lv_at hl 0 rfl) ?_
  obtain ⟨σ_1, r_2, eσ_1, h⟩ := bnd2 h
  refine r_ci X hS (r_runV (As := []) (rest := []) C0 X hP L_X8_85 (fun sz => c_X8_readsDigit l D cA ad o σ   (σ_1, r_2) eσ_1 sz) (show 91 < 106 ∧ kd 91 = (8, 24) from ⟨by decide, rfl⟩).1 (show 91 < 106 ∧ kd 91 = (8, 24) from ⟨by decide, rfl⟩).2 (by decide) rfl ⟨Nat.le_of_ble_eq_true rfl, Nat.le_of_ble_eq_true rfl⟩ rfl hl.1 rfl (Nat.le_of_ble_eq_true rfl) dX8_readsNumber_1 ⟨Nat.zero_le _, Nat.zero_le _⟩) (fun r9 σ9 H locs hw hP hS => ?_)
  rw [show σ9 = σ_1 from hw.2] at hP
  rw [show r9 = r_2 from hw.1]
  refine lv_if_ne (tgt := 9) hx hb dX8_readsNumber_4 (by decide) (fun c_3 => ?_) (fun c_3 => ?_)
  · replace h := it_f h c_3
    refine lv_aload_n hx hb dX8_readsNumber_9 rfl (lv_at hl 0 rfl) ?_
    refine gf_X8_40 C0 X hP 91 (q := 102) ⟨by decide, rfl⟩ (by omega) rfl dX8_readsNumber_10 ?_
    refine lv_aload_n hx hb dX8_readsNumber_13 rfl (lv_at hl 0 rfl) ?_
    refine gf_X8_82 C0 X hP 91 ⟨by decide, rfl⟩ dX8_readsNumber_14 ?_
    refine lv_iconst (v := 1) hx hb dX8_readsNumber_17 (by decide) ?_
    refine lv_isub hx hb dX8_readsNumber_18 ?_
    obtain ⟨k_4, ek_4, h⟩ := bnd h
    replace ek_4 := ix_s ek_4 (by decide)
    refine r_ialdN C0 X hP 102 (k := k_4) ⟨by decide, rfl⟩ ek_4.1 ek_4.2 dX8_readsNumber_19 ?_
    refine lv_istore_n (lv' := [(1, .int (σ_1 102 k_4)), (0, .ref (ad 91))]) hx hb dX8_readsNumber_20 rfl hl (by decide) rfl (fun ls hl => ?_)
    refine lv_iconst (v := 1) hx hb dX8_readsNumber_21 (by decide) ?_
    refine lv_istore_n (lv' := [(2, .int 1), (1, .int (σ_1 102 k_4)), (0, .ref (ad 91))]) hx hb dX8_readsNumber_22 rfl hl (by decide) rfl (fun ls hl => ?_)
    have lp_5 : ∀ (nn23 : Nat) (σ : Mem) (v2 : Int32) (v1 : Int32) (H : Heap) (locs : List Loc) (ls : Array Slot), F_X8_readsNumber_23 nn23 σ v2 v1 = some res → WP D cA ad o σ H → va_S (FA ad s.heap.size) s.heap H locs → lv_has ls 3 [(2, .int v2), (1, .int v1), (0, .ref (ad 91))] → W p l e (RM 3) s m ([.ref (ad 91)] : List Value).toArray below meth c H locs 0 0 (MQ below (va_Qi (fun r σ9 => r = res.2 ∧ σ9 = res.1) (QW D cA ad o) (FA ad s.heap.size)) ([.ref (ad 91)] : List Value).toArray s 0 0 (FA ad s.heap.size)) (F0 m 23 ls []) := by
      intro nn23
      induction nn23 with
      | zero => intro σ v2 v1 H locs ls h hP hS hl; exact absurd (show none = some res from h) nofun
      | succ nn23 ih23 =>
        intro σ v2 v1 H locs ls h hP hS hl
        replace h := (F_X8_readsNumber_23.eq_2 _ _ _ _).symm.trans h
        refine lv_iload_n hx hb dX8_readsNumber_23 rfl (lv_at hl 0 rfl) ?_
        refine lv_iconst (v := 3) hx hb dX8_readsNumber_24 (by decide) ?_
        refine lv_icmp_ge (tgt := 68) hx hb dX8_readsNumber_25 (by decide) (fun c_6 => ?_) (fun c_6 => ?_)
        · replace h := it_t h c_6
          refine lv_aload_n hx hb dX8_readsNumber_68 rfl (lv_at hl 2 rfl) ?_
          refine gf_X8_40 C0 X hP 91 (q := 102) ⟨by decide, rfl⟩ (by omega) rfl dX8_readsNumber_69 ?_
          refine lv_aload_n hx hb dX8_readsNumber_72 rfl (lv_at hl 2 rfl) ?_
          refine gf_X8_82 C0 X hP 91 ⟨by decide, rfl⟩ dX8_readsNumber_73 ?_
          refine lv_iconst (v := 1) hx hb dX8_readsNumber_76 (by decide) ?_
          refine lv_isub hx hb dX8_readsNumber_77 ?_
          refine lv_iload_n hx hb dX8_readsNumber_78 rfl (lv_at hl 1 rfl) ?_
          obtain ⟨k_7, ek_7, h⟩ := bnd h
          replace ek_7 := ix_s ek_7 (by decide)
          refine r_iastN C0 X hP hS 102 (k := k_7) ⟨by decide, rfl⟩ ek_7.1 ek_7.2 dX8_readsNumber_79 (fun H locs hP hS => ?_)
          refine lv_iconst (v := 1) hx hb dX8_readsNumber_80 (by decide) ?_
          exact r_zret C0 X hP hS hr hlk dX8_readsNumber_81 (Or.inr rfl) (rt2 h)
        · replace h := it_f h c_6
          refine lv_iload_n hx hb dX8_readsNumber_28 rfl (lv_at hl 1 rfl) ?_
          refine lv_if_le (tgt := 68) hx hb dX8_readsNumber_29 (by decide) (fun c_8 => ?_) (fun c_8 => ?_)
          · replace h := it_t h c_8
            refine lv_aload_n hx hb dX8_readsNumber_68 rfl (lv_at hl 2 rfl) ?_
            refine gf_X8_40 C0 X hP 91 (q := 102) ⟨by decide, rfl⟩ (by omega) rfl dX8_readsNumber_69 ?_
            refine lv_aload_n hx hb dX8_readsNumber_72 rfl (lv_at hl 2 rfl) ?_
            refine gf_X8_82 C0 X hP 91 ⟨by decide, rfl⟩ dX8_readsNumber_73 ?_
            refine lv_iconst (v := 1) hx hb dX8_readsNumber_76 (by decide) ?_
            refine lv_isub hx hb dX8_readsNumber_77 ?_
            refine lv_iload_n hx hb dX8_readsNumber_78 rfl (lv_at hl 1 rfl) ?_
            obtain ⟨k_9, ek_9, h⟩ := bnd h
            replace ek_9 := ix_s ek_9 (by decide)
            refine r_iastN C0 X hP hS 102 (k := k_9) ⟨by decide, rfl⟩ ek_9.1 ek_9.2 dX8_readsNumber_79 (fun H locs hP hS => ?_)
            refine lv_iconst (v := 1) hx hb dX8_readsNumber_80 (by decide) ?_
            exact r_zret C0 X hP hS hr hlk dX8_readsNumber_81 (Or.inr rfl) (rt2 h)
          · replace h := it_f h c_8
            refine lv_aload_n hx hb dX8_readsNumber_32 rfl (lv_at hl 2 rfl) ?_
            obtain ⟨r_10, er_10, h⟩ := bnd h
            refine r_ci X hS (r_runV (As := []) (rest := []) C0 X hP L_X8_78 (fun sz => c_X8_isDigit l D cA ad o σ   r_10 er_10 sz) (show 91 < 106 ∧ kd 91 = (8, 24) from ⟨by decide, rfl⟩).1 (show 91 < 106 ∧ kd 91 = (8, 24) from ⟨by decide, rfl⟩).2 (by decide) rfl ⟨Nat.le_of_ble_eq_true rfl, Nat.le_of_ble_eq_true rfl⟩ rfl hl.1 rfl (Nat.le_of_ble_eq_true rfl) dX8_readsNumber_33 ⟨Nat.zero_le _, Nat.zero_le _⟩) (fun r9 σ9 H locs hw hP hS => ?_)
            rw [hw.2] at hP
            rw [hw.1]
            refine lv_if_eq (tgt := 68) hx hb dX8_readsNumber_36 (by decide) (fun c_11 => ?_) (fun c_11 => ?_)
            · replace h := it_t h c_11
              refine lv_aload_n hx hb dX8_readsNumber_68 rfl (lv_at hl 2 rfl) ?_
              refine gf_X8_40 C0 X hP 91 (q := 102) ⟨by decide, rfl⟩ (by omega) rfl dX8_readsNumber_69 ?_
              refine lv_aload_n hx hb dX8_readsNumber_72 rfl (lv_at hl 2 rfl) ?_
              refine gf_X8_82 C0 X hP 91 ⟨by decide, rfl⟩ dX8_readsNumber_73 ?_
              refine lv_iconst (v := 1) hx hb dX8_readsNumber_76 (by decide) ?_
              refine lv_isub hx hb dX8_readsNumber_77 ?_
              refine lv_iload_n hx hb dX8_readsNumber_78 rfl (lv_at hl 1 rfl) ?_
              obtain ⟨k_12, ek_12, h⟩ := bnd h
              replace ek_12 := ix_s ek_12 (by decide)
              refine r_iastN C0 X hP hS 102 (k := k_12) ⟨by decide, rfl⟩ ek_12.1 ek_12.2 dX8_readsNumber_79 (fun H locs hP hS => ?_)
              refine lv_iconst (v := 1) hx hb dX8_readsNumber_80 (by decide) ?_
              exact r_zret C0 X hP hS hr hlk dX8_readsNumber_81 (Or.inr rfl) (rt2 h)
            · replace h := it_f h c_11
              refine lv_bipush (v := 10) hx hb dX8_readsNumber_39 (by decide) ?_
              refine lv_iload_n hx hb dX8_readsNumber_41 rfl (lv_at hl 1 rfl) ?_
              refine lv_imul hx hb dX8_readsNumber_42 ?_
              refine lv_aload_n hx hb dX8_readsNumber_43 rfl (lv_at hl 2 rfl) ?_
              obtain ⟨r_13, er_13, h⟩ := bnd h
              refine r_ci X hS (r_runV (As := []) (rest := [.int (10 * v1)]) C0 X hP L_X8_70 (fun sz => c_X8_here l D cA ad o σ   r_13 er_13 sz) (show 91 < 106 ∧ kd 91 = (8, 24) from ⟨by decide, rfl⟩).1 (show 91 < 106 ∧ kd 91 = (8, 24) from ⟨by decide, rfl⟩).2 (by decide) rfl ⟨Nat.le_of_ble_eq_true rfl, Nat.le_of_ble_eq_true rfl⟩ rfl hl.1 rfl (Nat.le_of_ble_eq_true rfl) dX8_readsNumber_44 ⟨Nat.zero_le _, Nat.zero_le _⟩) (fun r9 σ9 H locs hw hP hS => ?_)
              rw [hw.2] at hP
              rw [hw.1]
              refine lv_iadd hx hb dX8_readsNumber_47 ?_
              refine lv_bipush (v := 48) hx hb dX8_readsNumber_48 (by decide) ?_
              refine lv_isub hx hb dX8_readsNumber_50 ?_
              refine lv_istore_n (lv' := [(1, .int (((10 * v1) + r_13) - 48)), (2, .int v2), (0, .ref (ad 91))]) hx hb dX8_readsNumber_51 rfl hl (by decide) rfl (fun ls hl => ?_)
              refine lv_aload_n hx hb dX8_readsNumber_52 rfl (lv_at hl 2 rfl) ?_
              refine lv_dup hx hb dX8_readsNumber_53 rfl ?_
              refine gf_X8_61 C0 X hP 91 ⟨by decide, rfl⟩ dX8_readsNumber_54 ?_
              refine lv_iconst (v := 1) hx hb dX8_readsNumber_57 (by decide) ?_
              refine lv_iadd hx hb dX8_readsNumber_58 ?_
              refine pf_X8_61 C0 X hP hS 91 ⟨by decide, rfl⟩ dX8_readsNumber_59 (fun H locs hP hS => ?_)
              refine lv_iinc (v := (v2 + 1)) (lv' := [(2, .int (v2 + 1)), (1, .int (((10 * v1) + r_13) - 48)), (0, .ref (ad 91))]) hx hb dX8_readsNumber_62 hl (k := 1) rfl rfl (by decide) rfl (fun ls hl => ?_)
              refine lv_goto (tgt := 23) hx hb dX8_readsNumber_65 (by decide) ?_
              exact ih23 (stm σ 91 12 ((σ 91 12) + 1)) (v2 + 1) (((10 * v1) + r_13) - 48) _ _ ls  h hP hS (lv_sub hl [0, 1, 2] rfl)
    exact lp_5 FU σ_1 1 (σ_1 102 k_4) _ _ ls  h hP hS (lv_sub hl [0, 1, 2] rfl)
  · replace h := it_t h c_3
    refine lv_iconst (v := 0) hx hb dX8_readsNumber_7 (by decide) ?_
    exact r_zret C0 X hP hS hr hlk dX8_readsNumber_8 (Or.inl rfl) (rt2 h)
def bB_cX8_readsStatement : Nat := 0xac03ac5800b63b102aac0305009a5c00b62a0c00995800b677102a5200b5062a4f03062800b42a4f030400a7040700995800b66c102a052800b42aac0305009a5500b62a0a00995800b620102a1300995c00b62a3d00b560043d00b4592aac030400a7040700995800b63b102a1000995500b62a1700995500b62a1e00995800b620102a2700995500b62a3d00b560043d00b4592aac030400a7040700995800b63b102a1000995500b62a1700995800b620102a2000995500b62a3d00b560043d00b4592aac5800b63b102aac0305009a5500b62a0c00995800b668102a4f03042800b42aac0305009a5500b62a3d00b560043d00b4592a9c000000780000006c00000076000000d3000000750000006c000000720000003900000070000000d300000064000000060000002f010000ab1b5200b5032a3c4600b62a
set_option maxRecDepth 100000 in
theorem yB_cX8_readsStatement : BYS cX8_readsStatement 316 bB_cX8_readsStatement := BYS_of (by decide +kernel)
theorem dX8_readsStatement_0 : decode cX8_readsStatement 0 = .ok (.aload_n 0, 1) := D_42 yB_cX8_readsStatement rfl rfl
theorem dX8_readsStatement_1 : decode cX8_readsStatement 1 = .ok (.invokevirtual 70, 3) := D_182 yB_cX8_readsStatement rfl rfl rfl
theorem dX8_readsStatement_4 : decode cX8_readsStatement 4 = .ok (.istore_n 1, 1) := D_60 yB_cX8_readsStatement rfl rfl
theorem dX8_readsStatement_5 : decode cX8_readsStatement 5 = .ok (.aload_n 0, 1) := D_42 yB_cX8_readsStatement rfl rfl
theorem dX8_readsStatement_6 : decode cX8_readsStatement 6 = .ok (.iconst 0, 1) := D_3 yB_cX8_readsStatement rfl rfl
theorem dX8_readsStatement_7 : decode cX8_readsStatement 7 = .ok (.putfield 82, 3) := D_181 yB_cX8_readsStatement rfl rfl rfl
theorem dX8_readsStatement_10 : decode cX8_readsStatement 10 = .ok (.iload_n 1, 1) := D_27 yB_cX8_readsStatement rfl rfl
theorem dX8_readsStatement_11 : decode cX8_readsStatement 11 = .ok (.lookupswitch 303 #[(100, 211), (112, 57), (114, 108), (117, 211), (118, 108), (120, 156)], 57) := by decide +kernel
theorem dX8_readsStatement_68 : decode cX8_readsStatement 68 = .ok (.aload_n 0, 1) := D_42 yB_cX8_readsStatement rfl rfl
theorem dX8_readsStatement_69 : decode cX8_readsStatement 69 = .ok (.dup, 1) := D_89 yB_cX8_readsStatement rfl rfl
theorem dX8_readsStatement_70 : decode cX8_readsStatement 70 = .ok (.getfield 61, 3) := D_180 yB_cX8_readsStatement rfl rfl rfl
theorem dX8_readsStatement_73 : decode cX8_readsStatement 73 = .ok (.iconst 1, 1) := D_4 yB_cX8_readsStatement rfl rfl
theorem dX8_readsStatement_74 : decode cX8_readsStatement 74 = .ok (.iadd, 1) := D_96 yB_cX8_readsStatement rfl rfl
theorem dX8_readsStatement_75 : decode cX8_readsStatement 75 = .ok (.putfield 61, 3) := D_181 yB_cX8_readsStatement rfl rfl rfl
theorem dX8_readsStatement_78 : decode cX8_readsStatement 78 = .ok (.aload_n 0, 1) := D_42 yB_cX8_readsStatement rfl rfl
theorem dX8_readsStatement_79 : decode cX8_readsStatement 79 = .ok (.invokevirtual 85, 3) := D_182 yB_cX8_readsStatement rfl rfl rfl
theorem dX8_readsStatement_82 : decode cX8_readsStatement 82 = .ok (.ifCond .ne 5, 3) := D_154 yB_cX8_readsStatement rfl rfl (sg_p (m := 32768) (N := 5) rfl rfl rfl)
theorem dX8_readsStatement_85 : decode cX8_readsStatement 85 = .ok (.iconst 0, 1) := D_3 yB_cX8_readsStatement rfl rfl
theorem dX8_readsStatement_86 : decode cX8_readsStatement 86 = .ok (.ireturn, 1) := D_172 yB_cX8_readsStatement rfl rfl
theorem dX8_readsStatement_87 : decode cX8_readsStatement 87 = .ok (.aload_n 0, 1) := D_42 yB_cX8_readsStatement rfl rfl
theorem dX8_readsStatement_88 : decode cX8_readsStatement 88 = .ok (.getfield 40, 3) := D_180 yB_cX8_readsStatement rfl rfl rfl
theorem dX8_readsStatement_91 : decode cX8_readsStatement 91 = .ok (.iconst 1, 1) := D_4 yB_cX8_readsStatement rfl rfl
theorem dX8_readsStatement_92 : decode cX8_readsStatement 92 = .ok (.iconst 0, 1) := D_3 yB_cX8_readsStatement rfl rfl
theorem dX8_readsStatement_93 : decode cX8_readsStatement 93 = .ok (.iastore, 1) := D_79 yB_cX8_readsStatement rfl rfl
theorem dX8_readsStatement_94 : decode cX8_readsStatement 94 = .ok (.aload_n 0, 1) := D_42 yB_cX8_readsStatement rfl rfl
theorem dX8_readsStatement_95 : decode cX8_readsStatement 95 = .ok (.bipush 104, 2) := D_16 yB_cX8_readsStatement rfl rfl (sg_p (m := 128) (N := 104) rfl rfl rfl)
theorem dX8_readsStatement_97 : decode cX8_readsStatement 97 = .ok (.invokevirtual 88, 3) := D_182 yB_cX8_readsStatement rfl rfl rfl
theorem dX8_readsStatement_100 : decode cX8_readsStatement 100 = .ok (.ifCond .eq 12, 3) := D_153 yB_cX8_readsStatement rfl rfl (sg_p (m := 32768) (N := 12) rfl rfl rfl)
theorem dX8_readsStatement_103 : decode cX8_readsStatement 103 = .ok (.aload_n 0, 1) := D_42 yB_cX8_readsStatement rfl rfl
theorem dX8_readsStatement_104 : decode cX8_readsStatement 104 = .ok (.invokevirtual 85, 3) := D_182 yB_cX8_readsStatement rfl rfl rfl
theorem dX8_readsStatement_107 : decode cX8_readsStatement 107 = .ok (.ifCond .ne 5, 3) := D_154 yB_cX8_readsStatement rfl rfl (sg_p (m := 32768) (N := 5) rfl rfl rfl)
theorem dX8_readsStatement_110 : decode cX8_readsStatement 110 = .ok (.iconst 0, 1) := D_3 yB_cX8_readsStatement rfl rfl
theorem dX8_readsStatement_111 : decode cX8_readsStatement 111 = .ok (.ireturn, 1) := D_172 yB_cX8_readsStatement rfl rfl
theorem dX8_readsStatement_112 : decode cX8_readsStatement 112 = .ok (.aload_n 0, 1) := D_42 yB_cX8_readsStatement rfl rfl
theorem dX8_readsStatement_113 : decode cX8_readsStatement 113 = .ok (.bipush 59, 2) := D_16 yB_cX8_readsStatement rfl rfl (sg_p (m := 128) (N := 59) rfl rfl rfl)
theorem dX8_readsStatement_115 : decode cX8_readsStatement 115 = .ok (.invokevirtual 88, 3) := D_182 yB_cX8_readsStatement rfl rfl rfl
theorem dX8_readsStatement_118 : decode cX8_readsStatement 118 = .ok (.ireturn, 1) := D_172 yB_cX8_readsStatement rfl rfl
theorem dX8_readsStatement_119 : decode cX8_readsStatement 119 = .ok (.aload_n 0, 1) := D_42 yB_cX8_readsStatement rfl rfl
theorem dX8_readsStatement_120 : decode cX8_readsStatement 120 = .ok (.dup, 1) := D_89 yB_cX8_readsStatement rfl rfl
theorem dX8_readsStatement_121 : decode cX8_readsStatement 121 = .ok (.getfield 61, 3) := D_180 yB_cX8_readsStatement rfl rfl rfl
theorem dX8_readsStatement_124 : decode cX8_readsStatement 124 = .ok (.iconst 1, 1) := D_4 yB_cX8_readsStatement rfl rfl
theorem dX8_readsStatement_125 : decode cX8_readsStatement 125 = .ok (.iadd, 1) := D_96 yB_cX8_readsStatement rfl rfl
theorem dX8_readsStatement_126 : decode cX8_readsStatement 126 = .ok (.putfield 61, 3) := D_181 yB_cX8_readsStatement rfl rfl rfl
theorem dX8_readsStatement_129 : decode cX8_readsStatement 129 = .ok (.aload_n 0, 1) := D_42 yB_cX8_readsStatement rfl rfl
theorem dX8_readsStatement_130 : decode cX8_readsStatement 130 = .ok (.invokevirtual 85, 3) := D_182 yB_cX8_readsStatement rfl rfl rfl
theorem dX8_readsStatement_133 : decode cX8_readsStatement 133 = .ok (.ifCond .eq 32, 3) := D_153 yB_cX8_readsStatement rfl rfl (sg_p (m := 32768) (N := 32) rfl rfl rfl)
theorem dX8_readsStatement_136 : decode cX8_readsStatement 136 = .ok (.aload_n 0, 1) := D_42 yB_cX8_readsStatement rfl rfl
theorem dX8_readsStatement_137 : decode cX8_readsStatement 137 = .ok (.bipush 32, 2) := D_16 yB_cX8_readsStatement rfl rfl (sg_p (m := 128) (N := 32) rfl rfl rfl)
theorem dX8_readsStatement_139 : decode cX8_readsStatement 139 = .ok (.invokevirtual 88, 3) := D_182 yB_cX8_readsStatement rfl rfl rfl
theorem dX8_readsStatement_142 : decode cX8_readsStatement 142 = .ok (.ifCond .eq 23, 3) := D_153 yB_cX8_readsStatement rfl rfl (sg_p (m := 32768) (N := 23) rfl rfl rfl)
theorem dX8_readsStatement_145 : decode cX8_readsStatement 145 = .ok (.aload_n 0, 1) := D_42 yB_cX8_readsStatement rfl rfl
theorem dX8_readsStatement_146 : decode cX8_readsStatement 146 = .ok (.invokevirtual 85, 3) := D_182 yB_cX8_readsStatement rfl rfl rfl
theorem dX8_readsStatement_149 : decode cX8_readsStatement 149 = .ok (.ifCond .eq 16, 3) := D_153 yB_cX8_readsStatement rfl rfl (sg_p (m := 32768) (N := 16) rfl rfl rfl)
theorem dX8_readsStatement_152 : decode cX8_readsStatement 152 = .ok (.aload_n 0, 1) := D_42 yB_cX8_readsStatement rfl rfl
theorem dX8_readsStatement_153 : decode cX8_readsStatement 153 = .ok (.bipush 59, 2) := D_16 yB_cX8_readsStatement rfl rfl (sg_p (m := 128) (N := 59) rfl rfl rfl)
theorem dX8_readsStatement_155 : decode cX8_readsStatement 155 = .ok (.invokevirtual 88, 3) := D_182 yB_cX8_readsStatement rfl rfl rfl
theorem dX8_readsStatement_158 : decode cX8_readsStatement 158 = .ok (.ifCond .eq 7, 3) := D_153 yB_cX8_readsStatement rfl rfl (sg_p (m := 32768) (N := 7) rfl rfl rfl)
theorem dX8_readsStatement_161 : decode cX8_readsStatement 161 = .ok (.iconst 1, 1) := D_4 yB_cX8_readsStatement rfl rfl
theorem dX8_readsStatement_162 : decode cX8_readsStatement 162 = .ok (.goto 4, 3) := D_167 yB_cX8_readsStatement rfl rfl (sg_p (m := 32768) (N := 4) rfl rfl rfl)
theorem dX8_readsStatement_165 : decode cX8_readsStatement 165 = .ok (.iconst 0, 1) := D_3 yB_cX8_readsStatement rfl rfl
theorem dX8_readsStatement_166 : decode cX8_readsStatement 166 = .ok (.ireturn, 1) := D_172 yB_cX8_readsStatement rfl rfl
theorem dX8_readsStatement_167 : decode cX8_readsStatement 167 = .ok (.aload_n 0, 1) := D_42 yB_cX8_readsStatement rfl rfl
theorem dX8_readsStatement_168 : decode cX8_readsStatement 168 = .ok (.dup, 1) := D_89 yB_cX8_readsStatement rfl rfl
theorem dX8_readsStatement_169 : decode cX8_readsStatement 169 = .ok (.getfield 61, 3) := D_180 yB_cX8_readsStatement rfl rfl rfl
theorem dX8_readsStatement_172 : decode cX8_readsStatement 172 = .ok (.iconst 1, 1) := D_4 yB_cX8_readsStatement rfl rfl
theorem dX8_readsStatement_173 : decode cX8_readsStatement 173 = .ok (.iadd, 1) := D_96 yB_cX8_readsStatement rfl rfl
theorem dX8_readsStatement_174 : decode cX8_readsStatement 174 = .ok (.putfield 61, 3) := D_181 yB_cX8_readsStatement rfl rfl rfl
theorem dX8_readsStatement_177 : decode cX8_readsStatement 177 = .ok (.aload_n 0, 1) := D_42 yB_cX8_readsStatement rfl rfl
theorem dX8_readsStatement_178 : decode cX8_readsStatement 178 = .ok (.invokevirtual 85, 3) := D_182 yB_cX8_readsStatement rfl rfl rfl
theorem dX8_readsStatement_181 : decode cX8_readsStatement 181 = .ok (.ifCond .eq 39, 3) := D_153 yB_cX8_readsStatement rfl rfl (sg_p (m := 32768) (N := 39) rfl rfl rfl)
theorem dX8_readsStatement_184 : decode cX8_readsStatement 184 = .ok (.aload_n 0, 1) := D_42 yB_cX8_readsStatement rfl rfl
theorem dX8_readsStatement_185 : decode cX8_readsStatement 185 = .ok (.bipush 32, 2) := D_16 yB_cX8_readsStatement rfl rfl (sg_p (m := 128) (N := 32) rfl rfl rfl)
theorem dX8_readsStatement_187 : decode cX8_readsStatement 187 = .ok (.invokevirtual 88, 3) := D_182 yB_cX8_readsStatement rfl rfl rfl
theorem dX8_readsStatement_190 : decode cX8_readsStatement 190 = .ok (.ifCond .eq 30, 3) := D_153 yB_cX8_readsStatement rfl rfl (sg_p (m := 32768) (N := 30) rfl rfl rfl)
theorem dX8_readsStatement_193 : decode cX8_readsStatement 193 = .ok (.aload_n 0, 1) := D_42 yB_cX8_readsStatement rfl rfl
theorem dX8_readsStatement_194 : decode cX8_readsStatement 194 = .ok (.invokevirtual 85, 3) := D_182 yB_cX8_readsStatement rfl rfl rfl
theorem dX8_readsStatement_197 : decode cX8_readsStatement 197 = .ok (.ifCond .eq 23, 3) := D_153 yB_cX8_readsStatement rfl rfl (sg_p (m := 32768) (N := 23) rfl rfl rfl)
theorem dX8_readsStatement_200 : decode cX8_readsStatement 200 = .ok (.aload_n 0, 1) := D_42 yB_cX8_readsStatement rfl rfl
theorem dX8_readsStatement_201 : decode cX8_readsStatement 201 = .ok (.invokevirtual 85, 3) := D_182 yB_cX8_readsStatement rfl rfl rfl
theorem dX8_readsStatement_204 : decode cX8_readsStatement 204 = .ok (.ifCond .eq 16, 3) := D_153 yB_cX8_readsStatement rfl rfl (sg_p (m := 32768) (N := 16) rfl rfl rfl)
theorem dX8_readsStatement_207 : decode cX8_readsStatement 207 = .ok (.aload_n 0, 1) := D_42 yB_cX8_readsStatement rfl rfl
theorem dX8_readsStatement_208 : decode cX8_readsStatement 208 = .ok (.bipush 59, 2) := D_16 yB_cX8_readsStatement rfl rfl (sg_p (m := 128) (N := 59) rfl rfl rfl)
theorem dX8_readsStatement_210 : decode cX8_readsStatement 210 = .ok (.invokevirtual 88, 3) := D_182 yB_cX8_readsStatement rfl rfl rfl
theorem dX8_readsStatement_213 : decode cX8_readsStatement 213 = .ok (.ifCond .eq 7, 3) := D_153 yB_cX8_readsStatement rfl rfl (sg_p (m := 32768) (N := 7) rfl rfl rfl)
theorem dX8_readsStatement_216 : decode cX8_readsStatement 216 = .ok (.iconst 1, 1) := D_4 yB_cX8_readsStatement rfl rfl
theorem dX8_readsStatement_217 : decode cX8_readsStatement 217 = .ok (.goto 4, 3) := D_167 yB_cX8_readsStatement rfl rfl (sg_p (m := 32768) (N := 4) rfl rfl rfl)
theorem dX8_readsStatement_220 : decode cX8_readsStatement 220 = .ok (.iconst 0, 1) := D_3 yB_cX8_readsStatement rfl rfl
theorem dX8_readsStatement_221 : decode cX8_readsStatement 221 = .ok (.ireturn, 1) := D_172 yB_cX8_readsStatement rfl rfl
theorem dX8_readsStatement_222 : decode cX8_readsStatement 222 = .ok (.aload_n 0, 1) := D_42 yB_cX8_readsStatement rfl rfl
theorem dX8_readsStatement_223 : decode cX8_readsStatement 223 = .ok (.dup, 1) := D_89 yB_cX8_readsStatement rfl rfl
theorem dX8_readsStatement_224 : decode cX8_readsStatement 224 = .ok (.getfield 61, 3) := D_180 yB_cX8_readsStatement rfl rfl rfl
theorem dX8_readsStatement_227 : decode cX8_readsStatement 227 = .ok (.iconst 1, 1) := D_4 yB_cX8_readsStatement rfl rfl
theorem dX8_readsStatement_228 : decode cX8_readsStatement 228 = .ok (.iadd, 1) := D_96 yB_cX8_readsStatement rfl rfl
theorem dX8_readsStatement_229 : decode cX8_readsStatement 229 = .ok (.putfield 61, 3) := D_181 yB_cX8_readsStatement rfl rfl rfl
theorem dX8_readsStatement_232 : decode cX8_readsStatement 232 = .ok (.aload_n 0, 1) := D_42 yB_cX8_readsStatement rfl rfl
theorem dX8_readsStatement_233 : decode cX8_readsStatement 233 = .ok (.invokevirtual 92, 3) := D_182 yB_cX8_readsStatement rfl rfl rfl
theorem dX8_readsStatement_236 : decode cX8_readsStatement 236 = .ok (.ifCond .eq 19, 3) := D_153 yB_cX8_readsStatement rfl rfl (sg_p (m := 32768) (N := 19) rfl rfl rfl)
theorem dX8_readsStatement_239 : decode cX8_readsStatement 239 = .ok (.aload_n 0, 1) := D_42 yB_cX8_readsStatement rfl rfl
theorem dX8_readsStatement_240 : decode cX8_readsStatement 240 = .ok (.bipush 32, 2) := D_16 yB_cX8_readsStatement rfl rfl (sg_p (m := 128) (N := 32) rfl rfl rfl)
theorem dX8_readsStatement_242 : decode cX8_readsStatement 242 = .ok (.invokevirtual 88, 3) := D_182 yB_cX8_readsStatement rfl rfl rfl
theorem dX8_readsStatement_245 : decode cX8_readsStatement 245 = .ok (.ifCond .eq 10, 3) := D_153 yB_cX8_readsStatement rfl rfl (sg_p (m := 32768) (N := 10) rfl rfl rfl)
theorem dX8_readsStatement_248 : decode cX8_readsStatement 248 = .ok (.aload_n 0, 1) := D_42 yB_cX8_readsStatement rfl rfl
theorem dX8_readsStatement_249 : decode cX8_readsStatement 249 = .ok (.invokevirtual 85, 3) := D_182 yB_cX8_readsStatement rfl rfl rfl
theorem dX8_readsStatement_252 : decode cX8_readsStatement 252 = .ok (.ifCond .ne 5, 3) := D_154 yB_cX8_readsStatement rfl rfl (sg_p (m := 32768) (N := 5) rfl rfl rfl)
theorem dX8_readsStatement_255 : decode cX8_readsStatement 255 = .ok (.iconst 0, 1) := D_3 yB_cX8_readsStatement rfl rfl
theorem dX8_readsStatement_256 : decode cX8_readsStatement 256 = .ok (.ireturn, 1) := D_172 yB_cX8_readsStatement rfl rfl
theorem dX8_readsStatement_257 : decode cX8_readsStatement 257 = .ok (.aload_n 0, 1) := D_42 yB_cX8_readsStatement rfl rfl
theorem dX8_readsStatement_258 : decode cX8_readsStatement 258 = .ok (.getfield 40, 3) := D_180 yB_cX8_readsStatement rfl rfl rfl
theorem dX8_readsStatement_261 : decode cX8_readsStatement 261 = .ok (.iconst 2, 1) := D_5 yB_cX8_readsStatement rfl rfl
theorem dX8_readsStatement_262 : decode cX8_readsStatement 262 = .ok (.aload_n 0, 1) := D_42 yB_cX8_readsStatement rfl rfl
theorem dX8_readsStatement_263 : decode cX8_readsStatement 263 = .ok (.bipush 108, 2) := D_16 yB_cX8_readsStatement rfl rfl (sg_p (m := 128) (N := 108) rfl rfl rfl)
theorem dX8_readsStatement_265 : decode cX8_readsStatement 265 = .ok (.invokevirtual 88, 3) := D_182 yB_cX8_readsStatement rfl rfl rfl
theorem dX8_readsStatement_268 : decode cX8_readsStatement 268 = .ok (.ifCond .eq 7, 3) := D_153 yB_cX8_readsStatement rfl rfl (sg_p (m := 32768) (N := 7) rfl rfl rfl)
theorem dX8_readsStatement_271 : decode cX8_readsStatement 271 = .ok (.iconst 1, 1) := D_4 yB_cX8_readsStatement rfl rfl
theorem dX8_readsStatement_272 : decode cX8_readsStatement 272 = .ok (.goto 4, 3) := D_167 yB_cX8_readsStatement rfl rfl (sg_p (m := 32768) (N := 4) rfl rfl rfl)
theorem dX8_readsStatement_275 : decode cX8_readsStatement 275 = .ok (.iconst 0, 1) := D_3 yB_cX8_readsStatement rfl rfl
theorem dX8_readsStatement_276 : decode cX8_readsStatement 276 = .ok (.iastore, 1) := D_79 yB_cX8_readsStatement rfl rfl
theorem dX8_readsStatement_277 : decode cX8_readsStatement 277 = .ok (.aload_n 0, 1) := D_42 yB_cX8_readsStatement rfl rfl
theorem dX8_readsStatement_278 : decode cX8_readsStatement 278 = .ok (.getfield 40, 3) := D_180 yB_cX8_readsStatement rfl rfl rfl
theorem dX8_readsStatement_281 : decode cX8_readsStatement 281 = .ok (.iconst 3, 1) := D_6 yB_cX8_readsStatement rfl rfl
theorem dX8_readsStatement_282 : decode cX8_readsStatement 282 = .ok (.iconst 0, 1) := D_3 yB_cX8_readsStatement rfl rfl
theorem dX8_readsStatement_283 : decode cX8_readsStatement 283 = .ok (.iastore, 1) := D_79 yB_cX8_readsStatement rfl rfl
theorem dX8_readsStatement_284 : decode cX8_readsStatement 284 = .ok (.aload_n 0, 1) := D_42 yB_cX8_readsStatement rfl rfl
theorem dX8_readsStatement_285 : decode cX8_readsStatement 285 = .ok (.iconst 3, 1) := D_6 yB_cX8_readsStatement rfl rfl
theorem dX8_readsStatement_286 : decode cX8_readsStatement 286 = .ok (.putfield 82, 3) := D_181 yB_cX8_readsStatement rfl rfl rfl
theorem dX8_readsStatement_289 : decode cX8_readsStatement 289 = .ok (.aload_n 0, 1) := D_42 yB_cX8_readsStatement rfl rfl
theorem dX8_readsStatement_290 : decode cX8_readsStatement 290 = .ok (.bipush 119, 2) := D_16 yB_cX8_readsStatement rfl rfl (sg_p (m := 128) (N := 119) rfl rfl rfl)
theorem dX8_readsStatement_292 : decode cX8_readsStatement 292 = .ok (.invokevirtual 88, 3) := D_182 yB_cX8_readsStatement rfl rfl rfl
theorem dX8_readsStatement_295 : decode cX8_readsStatement 295 = .ok (.ifCond .eq 12, 3) := D_153 yB_cX8_readsStatement rfl rfl (sg_p (m := 32768) (N := 12) rfl rfl rfl)
theorem dX8_readsStatement_298 : decode cX8_readsStatement 298 = .ok (.aload_n 0, 1) := D_42 yB_cX8_readsStatement rfl rfl
theorem dX8_readsStatement_299 : decode cX8_readsStatement 299 = .ok (.invokevirtual 92, 3) := D_182 yB_cX8_readsStatement rfl rfl rfl
theorem dX8_readsStatement_302 : decode cX8_readsStatement 302 = .ok (.ifCond .ne 5, 3) := D_154 yB_cX8_readsStatement rfl rfl (sg_p (m := 32768) (N := 5) rfl rfl rfl)
theorem dX8_readsStatement_305 : decode cX8_readsStatement 305 = .ok (.iconst 0, 1) := D_3 yB_cX8_readsStatement rfl rfl
theorem dX8_readsStatement_306 : decode cX8_readsStatement 306 = .ok (.ireturn, 1) := D_172 yB_cX8_readsStatement rfl rfl
theorem dX8_readsStatement_307 : decode cX8_readsStatement 307 = .ok (.aload_n 0, 1) := D_42 yB_cX8_readsStatement rfl rfl
theorem dX8_readsStatement_308 : decode cX8_readsStatement 308 = .ok (.bipush 59, 2) := D_16 yB_cX8_readsStatement rfl rfl (sg_p (m := 128) (N := 59) rfl rfl rfl)
theorem dX8_readsStatement_310 : decode cX8_readsStatement 310 = .ok (.invokevirtual 88, 3) := D_182 yB_cX8_readsStatement rfl rfl rfl
theorem dX8_readsStatement_313 : decode cX8_readsStatement 313 = .ok (.ireturn, 1) := D_172 yB_cX8_readsStatement rfl rfl
theorem dX8_readsStatement_314 : decode cX8_readsStatement 314 = .ok (.iconst 0, 1) := D_3 yB_cX8_readsStatement rfl rfl
theorem dX8_readsStatement_315 : decode cX8_readsStatement 315 = .ok (.ireturn, 1) := D_172 yB_cX8_readsStatement rfl rfl
def F_X8_readsStatement (σ : Mem)  : Option (Mem × Int32) := (F_X8_here σ ).bind fun r_1 => if r_1 = 100 then (bd2 (F_X8_readsNumber (stm (stm σ 91 15 0) 91 12 (((stm σ 91 15 0) 91 12) + 1)) ) fun σ_3 r_4 => if r_4 = 0 then (some (σ_3, 0)) else (bd2 (F_X8_takes σ_3 32) fun σ_6 r_7 => if r_7 = 0 then (some (σ_6, 0)) else (bd2 (F_X8_readsDigit σ_6 ) fun σ_9 r_10 => if r_10 = 0 then (some (σ_9, 0)) else (bd2 (F_X8_takes σ_9 108) fun σ_12 r_13 => if r_13 = 0 then (bd2 (F_X8_takes (stm (stm (stm σ_12 102 2 0) 102 3 0) 91 15 3) 119) fun σ_15 r_16 => if r_16 = 0 then (bd2 (F_X8_takes σ_15 59) fun σ_18 r_19 => ck (r_19 = 0 ∨ r_19 = 1) <| some (σ_18, r_19)) else (bd2 (F_X8_readsNumber σ_15 ) fun σ_21 r_22 => if r_22 = 0 then (some (σ_21, 0)) else (bd2 (F_X8_takes σ_21 59) fun σ_24 r_25 => ck (r_25 = 0 ∨ r_25 = 1) <| some (σ_24, r_25)))) else (bd2 (F_X8_takes (stm (stm (stm σ_12 102 2 1) 102 3 0) 91 15 3) 119) fun σ_27 r_28 => if r_28 = 0 then (bd2 (F_X8_takes σ_27 59) fun σ_30 r_31 => ck (r_31 = 0 ∨ r_31 = 1) <| some (σ_30, r_31)) else (bd2 (F_X8_readsNumber σ_27 ) fun σ_33 r_34 => if r_34 = 0 then (some (σ_33, 0)) else (bd2 (F_X8_takes σ_33 59) fun σ_36 r_37 => ck (r_37 = 0 ∨ r_37 = 1) <| some (σ_36, r_37)))))))) else (if r_1 = 112 then (bd2 (F_X8_readsDigit (stm (stm σ 91 15 0) 91 12 (((stm σ 91 15 0) 91 12) + 1)) ) fun σ_40 r_41 => if r_41 = 0 then (some (σ_40, 0)) else (bd2 (F_X8_takes (stm σ_40 102 1 0) 104) fun σ_43 r_44 => if r_44 = 0 then (bd2 (F_X8_takes σ_43 59) fun σ_46 r_47 => ck (r_47 = 0 ∨ r_47 = 1) <| some (σ_46, r_47)) else (bd2 (F_X8_readsDigit σ_43 ) fun σ_49 r_50 => if r_50 = 0 then (some (σ_49, 0)) else (bd2 (F_X8_takes σ_49 59) fun σ_52 r_53 => ck (r_53 = 0 ∨ r_53 = 1) <| some (σ_52, r_53))))) else (if r_1 = 114 then (bd2 (F_X8_readsDigit (stm (stm σ 91 15 0) 91 12 (((stm σ 91 15 0) 91 12) + 1)) ) fun σ_56 r_57 => if r_57 = 0 then (some (σ_56, 0)) else (bd2 (F_X8_takes σ_56 32) fun σ_59 r_60 => if r_60 = 0 then (some (σ_59, 0)) else (bd2 (F_X8_readsDigit σ_59 ) fun σ_62 r_63 => if r_63 = 0 then (some (σ_62, 0)) else (bd2 (F_X8_takes σ_62 59) fun σ_65 r_66 => if r_66 = 0 then (some (σ_65, 0)) else (some (σ_65, 1)))))) else (if r_1 = 117 then (bd2 (F_X8_readsNumber (stm (stm σ 91 15 0) 91 12 (((stm σ 91 15 0) 91 12) + 1)) ) fun σ_69 r_70 => if r_70 = 0 then (some (σ_69, 0)) else (bd2 (F_X8_takes σ_69 32) fun σ_72 r_73 => if r_73 = 0 then (some (σ_72, 0)) else (bd2 (F_X8_readsDigit σ_72 ) fun σ_75 r_76 => if r_76 = 0 then (some (σ_75, 0)) else (bd2 (F_X8_takes σ_75 108) fun σ_78 r_79 => if r_79 = 0 then (bd2 (F_X8_takes (stm (stm (stm σ_78 102 2 0) 102 3 0) 91 15 3) 119) fun σ_81 r_82 => if r_82 = 0 then (bd2 (F_X8_takes σ_81 59) fun σ_84 r_85 => ck (r_85 = 0 ∨ r_85 = 1) <| some (σ_84, r_85)) else (bd2 (F_X8_readsNumber σ_81 ) fun σ_87 r_88 => if r_88 = 0 then (some (σ_87, 0)) else (bd2 (F_X8_takes σ_87 59) fun σ_90 r_91 => ck (r_91 = 0 ∨ r_91 = 1) <| some (σ_90, r_91)))) else (bd2 (F_X8_takes (stm (stm (stm σ_78 102 2 1) 102 3 0) 91 15 3) 119) fun σ_93 r_94 => if r_94 = 0 then (bd2 (F_X8_takes σ_93 59) fun σ_96 r_97 => ck (r_97 = 0 ∨ r_97 = 1) <| some (σ_96, r_97)) else (bd2 (F_X8_readsNumber σ_93 ) fun σ_99 r_100 => if r_100 = 0 then (some (σ_99, 0)) else (bd2 (F_X8_takes σ_99 59) fun σ_102 r_103 => ck (r_103 = 0 ∨ r_103 = 1) <| some (σ_102, r_103)))))))) else (if r_1 = 118 then (bd2 (F_X8_readsDigit (stm (stm σ 91 15 0) 91 12 (((stm σ 91 15 0) 91 12) + 1)) ) fun σ_106 r_107 => if r_107 = 0 then (some (σ_106, 0)) else (bd2 (F_X8_takes σ_106 32) fun σ_109 r_110 => if r_110 = 0 then (some (σ_109, 0)) else (bd2 (F_X8_readsDigit σ_109 ) fun σ_112 r_113 => if r_113 = 0 then (some (σ_112, 0)) else (bd2 (F_X8_takes σ_112 59) fun σ_115 r_116 => if r_116 = 0 then (some (σ_115, 0)) else (some (σ_115, 1)))))) else (if r_1 = 120 then (bd2 (F_X8_readsDigit (stm (stm σ 91 15 0) 91 12 (((stm σ 91 15 0) 91 12) + 1)) ) fun σ_119 r_120 => if r_120 = 0 then (some (σ_119, 0)) else (bd2 (F_X8_takes σ_119 32) fun σ_122 r_123 => if r_123 = 0 then (some (σ_122, 0)) else (bd2 (F_X8_readsDigit σ_122 ) fun σ_125 r_126 => if r_126 = 0 then (some (σ_125, 0)) else (bd2 (F_X8_readsDigit σ_125 ) fun σ_128 r_129 => if r_129 = 0 then (some (σ_128, 0)) else (bd2 (F_X8_takes σ_128 59) fun σ_131 r_132 => if r_132 = 0 then (some (σ_131, 0)) else (some (σ_131, 1))))))) else (some ((stm σ 91 15 0), 0)))))))
set_option maxHeartbeats 4000000 in
set_option maxRecDepth 100000 in
theorem c_X8_readsStatement (l : Launch) (D : va_G) (cA : Nat → ClassId) (ad : Nat → Nat) (o : Int64) (σ : Mem)   (res : Mem × Int32) (h : F_X8_readsStatement σ  = some res) (sz : Nat) : Met l yX8_readsStatement (WY yX8_readsStatement cX8_readsStatement 2 (some .boolean)) (RM 4) (va_Pc [.ref (ad 91)] (PW D cA ad o σ sz)) (va_Qi (fun r σ9 => r = res.2 ∧ σ9 = res.1) (QW D cA ad o) (FA ad sz)) 0 0 (FA ad sz) := by
  refine ct_of (own := RX8) (k := 4) (Qf := va_Qi (fun r σ9 => r = res.2 ∧ σ9 = res.1) (QW D cA ad o)) rfl (by decide) (Nat.le_of_ble_eq_true rfl) (fun p e s m below meth c ls C0 X hr hlk hP hl => ?_) sz
  have hS : va_S (FA ad s.heap.size) s.heap s.heap [] := va_S.rf
  have hl : lv_has ls 2 [(0, .ref (ad 91))] := hl
  obtain ⟨hx, hb, hml, hown, hts⟩ := id C0
  unfold F_X8_readsStatement at h
  refine lv_aload_n hx hb dX8_readsStatement_0 rfl (lv_at hl 0 rfl) ?_
  obtain ⟨r_1, er_1, h⟩ := bnd h
  refine r_ci X hS (r_runV (As := []) (rest := []) C0 X hP L_X8_70 (fun sz => c_X8_here l D cA ad o σ   r_1 er_1 sz) (show 91 < 106 ∧ kd 91 = (8, 24) from ⟨by decide, rfl⟩).1 (show 91 < 106 ∧ kd 91 = (8, 24) from ⟨by decide, rfl⟩).2 (by decide) rfl ⟨Nat.le_of_ble_eq_true rfl, Nat.le_of_ble_eq_true rfl⟩ rfl hl.1 rfl (Nat.le_of_ble_eq_true rfl) dX8_readsStatement_1 ⟨Nat.zero_le _, Nat.zero_le _⟩) (fun r9 σ9 H locs hw hP hS => ?_)
  rw [hw.2] at hP
  rw [hw.1]
  refine lv_istore_n (lv' := [(1, .int r_1), (0, .ref (ad 91))]) hx hb dX8_readsStatement_4 rfl hl (by decide) rfl (fun ls hl => ?_)
  refine lv_aload_n hx hb dX8_readsStatement_5 rfl (lv_at hl 1 rfl) ?_
  refine lv_iconst (v := 0) hx hb dX8_readsStatement_6 (by decide) ?_
  refine pf_X8_82 C0 X hP hS 91 ⟨by decide, rfl⟩ dX8_readsStatement_7 (fun H locs hP hS => ?_)
  refine lv_iload_n hx hb dX8_readsStatement_10 rfl (lv_at hl 0 rfl) ?_
  by_cases c_2 : r_1 = 100
  · replace h := it_t h c_2
    refine lv_lookup (off := 211) (tgt := 222) hx hb dX8_readsStatement_11 (by decide) (by rw [c_2]; decide) (by decide) ?_
    refine lv_aload_n hx hb dX8_readsStatement_222 rfl (lv_at hl 1 rfl) ?_
    refine lv_dup hx hb dX8_readsStatement_223 rfl ?_
    refine gf_X8_61 C0 X hP 91 ⟨by decide, rfl⟩ dX8_readsStatement_224 ?_
    refine lv_iconst (v := 1) hx hb dX8_readsStatement_227 (by decide) ?_
    refine lv_iadd hx hb dX8_readsStatement_228 ?_
    refine pf_X8_61 C0 X hP hS 91 ⟨by decide, rfl⟩ dX8_readsStatement_229 (fun H locs hP hS => ?_)
    refine lv_aload_n hx hb dX8_readsStatement_232 rfl (lv_at hl 1 rfl) ?_
    obtain ⟨σ_3, r_4, eσ_3, h⟩ := bnd2 h
    refine r_ci X hS (r_runV (As := []) (rest := []) C0 X hP L_X8_92 (fun sz => c_X8_readsNumber l D cA ad o (stm (stm σ 91 15 0) 91 12 (((stm σ 91 15 0) 91 12) + 1))   (σ_3, r_4) eσ_3 sz) (show 91 < 106 ∧ kd 91 = (8, 24) from ⟨by decide, rfl⟩).1 (show 91 < 106 ∧ kd 91 = (8, 24) from ⟨by decide, rfl⟩).2 (by decide) rfl ⟨Nat.le_of_ble_eq_true rfl, Nat.le_of_ble_eq_true rfl⟩ rfl hl.1 rfl (Nat.le_of_ble_eq_true rfl) dX8_readsStatement_233 ⟨Nat.zero_le _, Nat.zero_le _⟩) (fun r9 σ9 H locs hw hP hS => ?_)
    rw [show σ9 = σ_3 from hw.2] at hP
    rw [show r9 = r_4 from hw.1]
    refine lv_if_eq (tgt := 255) hx hb dX8_readsStatement_236 (by decide) (fun c_5 => ?_) (fun c_5 => ?_)
    · replace h := it_t h c_5
      refine lv_iconst (v := 0) hx hb dX8_readsStatement_255 (by decide) ?_
      exact r_zret C0 X hP hS hr hlk dX8_readsStatement_256 (Or.inl rfl) (rt2 h)
    · replace h := it_f h c_5
      refine lv_aload_n hx hb dX8_readsStatement_239 rfl (lv_at hl 1 rfl) ?_
      refine lv_bipush (v := 32) hx hb dX8_readsStatement_240 (by decide) ?_
      obtain ⟨σ_6, r_7, eσ_6, h⟩ := bnd2 h
      refine r_ci X hS (r_runV (As := [.int 32]) (rest := []) C0 X hP L_X8_88 (fun sz => c_X8_takes l D cA ad o σ_3 32  (σ_6, r_7) eσ_6 sz) (show 91 < 106 ∧ kd 91 = (8, 24) from ⟨by decide, rfl⟩).1 (show 91 < 106 ∧ kd 91 = (8, 24) from ⟨by decide, rfl⟩).2 (by decide) rfl ⟨Nat.le_of_ble_eq_true rfl, Nat.le_of_ble_eq_true rfl⟩ rfl hl.1 rfl (Nat.le_of_ble_eq_true rfl) dX8_readsStatement_242 ⟨Nat.zero_le _, Nat.zero_le _⟩) (fun r9 σ9 H locs hw hP hS => ?_)
      rw [show σ9 = σ_6 from hw.2] at hP
      rw [show r9 = r_7 from hw.1]
      refine lv_if_eq (tgt := 255) hx hb dX8_readsStatement_245 (by decide) (fun c_8 => ?_) (fun c_8 => ?_)
      · replace h := it_t h c_8
        refine lv_iconst (v := 0) hx hb dX8_readsStatement_255 (by decide) ?_
        exact r_zret C0 X hP hS hr hlk dX8_readsStatement_256 (Or.inl rfl) (rt2 h)
      · replace h := it_f h c_8
        refine lv_aload_n hx hb dX8_readsStatement_248 rfl (lv_at hl 1 rfl) ?_
        obtain ⟨σ_9, r_10, eσ_9, h⟩ := bnd2 h
        refine r_ci X hS (r_runV (As := []) (rest := []) C0 X hP L_X8_85 (fun sz => c_X8_readsDigit l D cA ad o σ_6   (σ_9, r_10) eσ_9 sz) (show 91 < 106 ∧ kd 91 = (8, 24) from ⟨by decide, rfl⟩).1 (show 91 < 106 ∧ kd 91 = (8, 24) from ⟨by decide, rfl⟩).2 (by decide) rfl ⟨Nat.le_of_ble_eq_true rfl, Nat.le_of_ble_eq_true rfl⟩ rfl hl.1 rfl (Nat.le_of_ble_eq_true rfl) dX8_readsStatement_249 ⟨Nat.zero_le _, Nat.zero_le _⟩) (fun r9 σ9 H locs hw hP hS => ?_)
        rw [show σ9 = σ_9 from hw.2] at hP
        rw [show r9 = r_10 from hw.1]
        refine lv_if_ne (tgt := 257) hx hb dX8_readsStatement_252 (by decide) (fun c_11 => ?_) (fun c_11 => ?_)
        · replace h := it_f h c_11
          refine lv_aload_n hx hb dX8_readsStatement_257 rfl (lv_at hl 1 rfl) ?_
          refine gf_X8_40 C0 X hP 91 (q := 102) ⟨by decide, rfl⟩ (by omega) rfl dX8_readsStatement_258 ?_
          refine lv_iconst (v := 2) hx hb dX8_readsStatement_261 (by decide) ?_
          refine lv_aload_n hx hb dX8_readsStatement_262 rfl (lv_at hl 1 rfl) ?_
          refine lv_bipush (v := 108) hx hb dX8_readsStatement_263 (by decide) ?_
          obtain ⟨σ_12, r_13, eσ_12, h⟩ := bnd2 h
          refine r_ci X hS (r_runV (As := [.int 108]) (rest := [.int 2, .ref (ad 102)]) C0 X hP L_X8_88 (fun sz => c_X8_takes l D cA ad o σ_9 108  (σ_12, r_13) eσ_12 sz) (show 91 < 106 ∧ kd 91 = (8, 24) from ⟨by decide, rfl⟩).1 (show 91 < 106 ∧ kd 91 = (8, 24) from ⟨by decide, rfl⟩).2 (by decide) rfl ⟨Nat.le_of_ble_eq_true rfl, Nat.le_of_ble_eq_true rfl⟩ rfl hl.1 rfl (Nat.le_of_ble_eq_true rfl) dX8_readsStatement_265 ⟨Nat.zero_le _, Nat.zero_le _⟩) (fun r9 σ9 H locs hw hP hS => ?_)
          rw [show σ9 = σ_12 from hw.2] at hP
          rw [show r9 = r_13 from hw.1]
          refine lv_if_eq (tgt := 275) hx hb dX8_readsStatement_268 (by decide) (fun c_14 => ?_) (fun c_14 => ?_)
          · replace h := it_t h c_14
            refine lv_iconst (v := 0) hx hb dX8_readsStatement_275 (by decide) ?_
            refine r_iastN C0 X hP hS 102 (k := 2) ⟨by decide, rfl⟩ rfl (by decide) dX8_readsStatement_276 (fun H locs hP hS => ?_)
            refine lv_aload_n hx hb dX8_readsStatement_277 rfl (lv_at hl 1 rfl) ?_
            refine gf_X8_40 C0 X hP 91 (q := 102) ⟨by decide, rfl⟩ (by omega) rfl dX8_readsStatement_278 ?_
            refine lv_iconst (v := 3) hx hb dX8_readsStatement_281 (by decide) ?_
            refine lv_iconst (v := 0) hx hb dX8_readsStatement_282 (by decide) ?_
            refine r_iastN C0 X hP hS 102 (k := 3) ⟨by decide, rfl⟩ rfl (by decide) dX8_readsStatement_283 (fun H locs hP hS => ?_)
            refine lv_aload_n hx hb dX8_readsStatement_284 rfl (lv_at hl 1 rfl) ?_
            refine lv_iconst (v := 3) hx hb dX8_readsStatement_285 (by decide) ?_
            refine pf_X8_82 C0 X hP hS 91 ⟨by decide, rfl⟩ dX8_readsStatement_286 (fun H locs hP hS => ?_)
            refine lv_aload_n hx hb dX8_readsStatement_289 rfl (lv_at hl 1 rfl) ?_
            refine lv_bipush (v := 119) hx hb dX8_readsStatement_290 (by decide) ?_
            obtain ⟨σ_15, r_16, eσ_15, h⟩ := bnd2 h
            refine r_ci X hS (r_runV (As := [.int 119]) (rest := []) C0 X hP L_X8_88 (fun sz => c_X8_takes l D cA ad o (stm (stm (stm σ_12 102 2 0) 102 3 0) 91 15 3) 119  (σ_15, r_16) eσ_15 sz) (show 91 < 106 ∧ kd 91 = (8, 24) from ⟨by decide, rfl⟩).1 (show 91 < 106 ∧ kd 91 = (8, 24) from ⟨by decide, rfl⟩).2 (by decide) rfl ⟨Nat.le_of_ble_eq_true rfl, Nat.le_of_ble_eq_true rfl⟩ rfl hl.1 rfl (Nat.le_of_ble_eq_true rfl) dX8_readsStatement_292 ⟨Nat.zero_le _, Nat.zero_le _⟩) (fun r9 σ9 H locs hw hP hS => ?_)
            rw [show σ9 = σ_15 from hw.2] at hP
            rw [show r9 = r_16 from hw.1]
            refine lv_if_eq (tgt := 307) hx hb dX8_readsStatement_295 (by decide) (fun c_17 => ?_) (fun c_17 => ?_)
            · replace h := it_t h c_17
              refine lv_aload_n hx hb dX8_readsStatement_307 rfl (lv_at hl 1 rfl) ?_
              refine lv_bipush (v := 59) hx hb dX8_readsStatement_308 (by decide) ?_
              obtain ⟨σ_18, r_19, eσ_18, h⟩ := bnd2 h
              refine r_ci X hS (r_runV (As := [.int 59]) (rest := []) C0 X hP L_X8_88 (fun sz => c_X8_takes l D cA ad o σ_15 59  (σ_18, r_19) eσ_18 sz) (show 91 < 106 ∧ kd 91 = (8, 24) from ⟨by decide, rfl⟩).1 (show 91 < 106 ∧ kd 91 = (8, 24) from ⟨by decide, rfl⟩).2 (by decide) rfl ⟨Nat.le_of_ble_eq_true rfl, Nat.le_of_ble_eq_true rfl⟩ rfl hl.1 rfl (Nat.le_of_ble_eq_true rfl) dX8_readsStatement_310 ⟨Nat.zero_le _, Nat.zero_le _⟩) (fun r9 σ9 H locs hw hP hS => ?_)
              rw [show σ9 = σ_18 from hw.2] at hP
              rw [show r9 = r_19 from hw.1]
              obtain ⟨q_20, h⟩ := ckp h
              exact r_zret C0 X hP hS hr hlk dX8_readsStatement_313 q_20 (rt2 h)
            · replace h := it_f h c_17
              refine lv_aload_n hx hb dX8_readsStatement_298 rfl (lv_at hl 1 rfl) ?_
              obtain ⟨σ_21, r_22, eσ_21, h⟩ := bnd2 h
              refine r_ci X hS (r_runV (As := []) (rest := []) C0 X hP L_X8_92 (fun sz => c_X8_readsNumber l D cA ad o σ_15   (σ_21, r_22) eσ_21 sz) (show 91 < 106 ∧ kd 91 = (8, 24) from ⟨by decide, rfl⟩).1 (show 91 < 106 ∧ kd 91 = (8, 24) from ⟨by decide, rfl⟩).2 (by decide) rfl ⟨Nat.le_of_ble_eq_true rfl, Nat.le_of_ble_eq_true rfl⟩ rfl hl.1 rfl (Nat.le_of_ble_eq_true rfl) dX8_readsStatement_299 ⟨Nat.zero_le _, Nat.zero_le _⟩) (fun r9 σ9 H locs hw hP hS => ?_)
              rw [show σ9 = σ_21 from hw.2] at hP
              rw [show r9 = r_22 from hw.1]
              refine lv_if_ne (tgt := 307) hx hb dX8_readsStatement_302 (by decide) (fun c_23 => ?_) (fun c_23 => ?_)
              · replace h := it_f h c_23
                refine lv_aload_n hx hb dX8_readsStatement_307 rfl (lv_at hl 1 rfl) ?_
                refine lv_bipush (v := 59) hx hb dX8_readsStatement_308 (by decide) ?_
                obtain ⟨σ_24, r_25, eσ_24, h⟩ := bnd2 h
                refine r_ci X hS (r_runV (As := [.int 59]) (rest := []) C0 X hP L_X8_88 (fun sz => c_X8_takes l D cA ad o σ_21 59  (σ_24, r_25) eσ_24 sz) (show 91 < 106 ∧ kd 91 = (8, 24) from ⟨by decide, rfl⟩).1 (show 91 < 106 ∧ kd 91 = (8, 24) from ⟨by decide, rfl⟩).2 (by decide) rfl ⟨Nat.le_of_ble_eq_true rfl, Nat.le_of_ble_eq_true rfl⟩ rfl hl.1 rfl (Nat.le_of_ble_eq_true rfl) dX8_readsStatement_310 ⟨Nat.zero_le _, Nat.zero_le _⟩) (fun r9 σ9 H locs hw hP hS => ?_)
                rw [show σ9 = σ_24 from hw.2] at hP
                rw [show r9 = r_25 from hw.1]
                obtain ⟨q_26, h⟩ := ckp h
                exact r_zret C0 X hP hS hr hlk dX8_readsStatement_313 q_26 (rt2 h)
              · replace h := it_t h c_23
                refine lv_iconst (v := 0) hx hb dX8_readsStatement_305 (by decide) ?_
                exact r_zret C0 X hP hS hr hlk dX8_readsStatement_306 (Or.inl rfl) (rt2 h)
          · replace h := it_f h c_14
            refine lv_iconst (v := 1) hx hb dX8_readsStatement_271 (by decide) ?_
            refine lv_goto (tgt := 276) hx hb dX8_readsStatement_272 (by decide) ?_
            refine r_iastN C0 X hP hS 102 (k := 2) ⟨by decide, rfl⟩ rfl (by decide) dX8_readsStatement_276 (fun H locs hP hS => ?_)
            refine lv_aload_n hx hb dX8_readsStatement_277 rfl (lv_at hl 1 rfl) ?_
            refine gf_X8_40 C0 X hP 91 (q := 102) ⟨by decide, rfl⟩ (by omega) rfl dX8_readsStatement_278 ?_
            refine lv_iconst (v := 3) hx hb dX8_readsStatement_281 (by decide) ?_
            refine lv_iconst (v := 0) hx hb dX8_readsStatement_282 (by decide) ?_
            refine r_iastN C0 X hP hS 102 (k := 3) ⟨by decide, rfl⟩ rfl (by decide) dX8_readsStatement_283 (fun H locs hP hS => ?_)
            refine lv_aload_n hx hb dX8_readsStatement_284 rfl (lv_at hl 1 rfl) ?_
            refine lv_iconst (v := 3) hx hb dX8_readsStatement_285 (by decide) ?_
            refine pf_X8_82 C0 X hP hS 91 ⟨by decide, rfl⟩ dX8_readsStatement_286 (fun H locs hP hS => ?_)
            refine lv_aload_n hx hb dX8_readsStatement_289 rfl (lv_at hl 1 rfl) ?_
            refine lv_bipush (v := 119) hx hb dX8_readsStatement_290 (by decide) ?_
            obtain ⟨σ_27, r_28, eσ_27, h⟩ := bnd2 h
            refine r_ci X hS (r_runV (As := [.int 119]) (rest := []) C0 X hP L_X8_88 (fun sz => c_X8_takes l D cA ad o (stm (stm (stm σ_12 102 2 1) 102 3 0) 91 15 3) 119  (σ_27, r_28) eσ_27 sz) (show 91 < 106 ∧ kd 91 = (8, 24) from ⟨by decide, rfl⟩).1 (show 91 < 106 ∧ kd 91 = (8, 24) from ⟨by decide, rfl⟩).2 (by decide) rfl ⟨Nat.le_of_ble_eq_true rfl, Nat.le_of_ble_eq_true rfl⟩ rfl hl.1 rfl (Nat.le_of_ble_eq_true rfl) dX8_readsStatement_292 ⟨Nat.zero_le _, Nat.zero_le _⟩) (fun r9 σ9 H locs hw hP hS => ?_)
            rw [show σ9 = σ_27 from hw.2] at hP
            rw [show r9 = r_28 from hw.1]
            refine lv_if_eq (tgt := 307) hx hb dX8_readsStatement_295 (by decide) (fun c_29 => ?_) (fun c_29 => ?_)
            · replace h := it_t h c_29
              refine lv_aload_n hx hb dX8_readsStatement_307 rfl (lv_at hl 1 rfl) ?_
              refine lv_bipush (v := 59) hx hb dX8_readsStatement_308 (by decide) ?_
              obtain ⟨σ_30, r_31, eσ_30, h⟩ := bnd2 h
              refine r_ci X hS (r_runV (As := [.int 59]) (rest := []) C0 X hP L_X8_88 (fun sz => c_X8_takes l D cA ad o σ_27 59  (σ_30, r_31) eσ_30 sz) (show 91 < 106 ∧ kd 91 = (8, 24) from ⟨by decide, rfl⟩).1 (show 91 < 106 ∧ kd 91 = (8, 24) from ⟨by decide, rfl⟩).2 (by decide) rfl ⟨Nat.le_of_ble_eq_true rfl, Nat.le_of_ble_eq_true rfl⟩ rfl hl.1 rfl (Nat.le_of_ble_eq_true rfl) dX8_readsStatement_310 ⟨Nat.zero_le _, Nat.zero_le _⟩) (fun r9 σ9 H locs hw hP hS => ?_)
              rw [show σ9 = σ_30 from hw.2] at hP
              rw [show r9 = r_31 from hw.1]
              obtain ⟨q_32, h⟩ := ckp h
              exact r_zret C0 X hP hS hr hlk dX8_readsStatement_313 q_32 (rt2 h)
            · replace h := it_f h c_29
              refine lv_aload_n hx hb dX8_readsStatement_298 rfl (lv_at hl 1 rfl) ?_
              obtain ⟨σ_33, r_34, eσ_33, h⟩ := bnd2 h
              refine r_ci X hS (r_runV (As := []) (rest := []) C0 X hP L_X8_92 (fun sz => c_X8_readsNumber l D cA ad o σ_27   (σ_33, r_34) eσ_33 sz) (show 91 < 106 ∧ kd 91 = (8, 24) from ⟨by decide, rfl⟩).1 (show 91 < 106 ∧ kd 91 = (8, 24) from ⟨by decide, rfl⟩).2 (by decide) rfl ⟨Nat.le_of_ble_eq_true rfl, Nat.le_of_ble_eq_true rfl⟩ rfl hl.1 rfl (Nat.le_of_ble_eq_true rfl) dX8_readsStatement_299 ⟨Nat.zero_le _, Nat.zero_le _⟩) (fun r9 σ9 H locs hw hP hS => ?_)
              rw [show σ9 = σ_33 from hw.2] at hP
              rw [show r9 = r_34 from hw.1]
              refine lv_if_ne (tgt := 307) hx hb dX8_readsStatement_302 (by decide) (fun c_35 => ?_) (fun c_35 => ?_)
              · replace h := it_f h c_35
                refine lv_aload_n hx hb dX8_readsStatement_307 rfl (lv_at hl 1 rfl) ?_
                refine lv_bipush (v := 59) hx hb dX8_readsStatement_308 (by decide) ?_
                obtain ⟨σ_36, r_37, eσ_36, h⟩ := bnd2 h
                refine r_ci X hS (r_runV (As := [.int 59]) (rest := []) C0 X hP L_X8_88 (fun sz => c_X8_takes l D cA ad o σ_33 59  (σ_36, r_37) eσ_36 sz) (show 91 < 106 ∧ kd 91 = (8, 24) from ⟨by decide, rfl⟩).1 (show 91 < 106 ∧ kd 91 = (8, 24) from ⟨by decide, rfl⟩).2 (by decide) rfl ⟨Nat.le_of_ble_eq_true rfl, Nat.le_of_ble_eq_true rfl⟩ rfl hl.1 rfl (Nat.le_of_ble_eq_true rfl) dX8_readsStatement_310 ⟨Nat.zero_le _, Nat.zero_le _⟩) (fun r9 σ9 H locs hw hP hS => ?_)
                rw [show σ9 = σ_36 from hw.2] at hP
                rw [show r9 = r_37 from hw.1]
                obtain ⟨q_38, h⟩ := ckp h
                exact r_zret C0 X hP hS hr hlk dX8_readsStatement_313 q_38 (rt2 h)
              · replace h := it_t h c_35
                refine lv_iconst (v := 0) hx hb dX8_readsStatement_305 (by decide) ?_
                exact r_zret C0 X hP hS hr hlk dX8_readsStatement_306 (Or.inl rfl) (rt2 h)
        · replace h := it_t h c_11
          refine lv_iconst (v := 0) hx hb dX8_readsStatement_255 (by decide) ?_
          exact r_zret C0 X hP hS hr hlk dX8_readsStatement_256 (Or.inl rfl) (rt2 h)
  · replace h := it_f h c_2
    by_cases c_39 : r_1 = 112
    · replace h := it_t h c_39
      refine lv_lookup (off := 57) (tgt := 68) hx hb dX8_readsStatement_11 (by decide) (by rw [c_39]; decide) (by decide) ?_
      refine lv_aload_n hx hb dX8_readsStatement_68 rfl (lv_at hl 1 rfl) ?_
      refine lv_dup hx hb dX8_readsStatement_69 rfl ?_
      refine gf_X8_61 C0 X hP 91 ⟨by decide, rfl⟩ dX8_readsStatement_70 ?_
      refine lv_iconst (v := 1) hx hb dX8_readsStatement_73 (by decide) ?_
      refine lv_iadd hx hb dX8_readsStatement_74 ?_
      refine pf_X8_61 C0 X hP hS 91 ⟨by decide, rfl⟩ dX8_readsStatement_75 (fun H locs hP hS => ?_)
      refine lv_aload_n hx hb dX8_readsStatement_78 rfl (lv_at hl 1 rfl) ?_
      obtain ⟨σ_40, r_41, eσ_40, h⟩ := bnd2 h
      refine r_ci X hS (r_runV (As := []) (rest := []) C0 X hP L_X8_85 (fun sz => c_X8_readsDigit l D cA ad o (stm (stm σ 91 15 0) 91 12 (((stm σ 91 15 0) 91 12) + 1))   (σ_40, r_41) eσ_40 sz) (show 91 < 106 ∧ kd 91 = (8, 24) from ⟨by decide, rfl⟩).1 (show 91 < 106 ∧ kd 91 = (8, 24) from ⟨by decide, rfl⟩).2 (by decide) rfl ⟨Nat.le_of_ble_eq_true rfl, Nat.le_of_ble_eq_true rfl⟩ rfl hl.1 rfl (Nat.le_of_ble_eq_true rfl) dX8_readsStatement_79 ⟨Nat.zero_le _, Nat.zero_le _⟩) (fun r9 σ9 H locs hw hP hS => ?_)
      rw [show σ9 = σ_40 from hw.2] at hP
      rw [show r9 = r_41 from hw.1]
      refine lv_if_ne (tgt := 87) hx hb dX8_readsStatement_82 (by decide) (fun c_42 => ?_) (fun c_42 => ?_)
      · replace h := it_f h c_42
        refine lv_aload_n hx hb dX8_readsStatement_87 rfl (lv_at hl 1 rfl) ?_
        refine gf_X8_40 C0 X hP 91 (q := 102) ⟨by decide, rfl⟩ (by omega) rfl dX8_readsStatement_88 ?_
        refine lv_iconst (v := 1) hx hb dX8_readsStatement_91 (by decide) ?_
        refine lv_iconst (v := 0) hx hb dX8_readsStatement_92 (by decide) ?_
        refine r_iastN C0 X hP hS 102 (k := 1) ⟨by decide, rfl⟩ rfl (by decide) dX8_readsStatement_93 (fun H locs hP hS => ?_)
        refine lv_aload_n hx hb dX8_readsStatement_94 rfl (lv_at hl 1 rfl) ?_
        refine lv_bipush (v := 104) hx hb dX8_readsStatement_95 (by decide) ?_
        obtain ⟨σ_43, r_44, eσ_43, h⟩ := bnd2 h
        refine r_ci X hS (r_runV (As := [.int 104]) (rest := []) C0 X hP L_X8_88 (fun sz => c_X8_takes l D cA ad o (stm σ_40 102 1 0) 104  (σ_43, r_44) eσ_43 sz) (show 91 < 106 ∧ kd 91 = (8, 24) from ⟨by decide, rfl⟩).1 (show 91 < 106 ∧ kd 91 = (8, 24) from ⟨by decide, rfl⟩).2 (by decide) rfl ⟨Nat.le_of_ble_eq_true rfl, Nat.le_of_ble_eq_true rfl⟩ rfl hl.1 rfl (Nat.le_of_ble_eq_true rfl) dX8_readsStatement_97 ⟨Nat.zero_le _, Nat.zero_le _⟩) (fun r9 σ9 H locs hw hP hS => ?_)
        rw [show σ9 = σ_43 from hw.2] at hP
        rw [show r9 = r_44 from hw.1]
        refine lv_if_eq (tgt := 112) hx hb dX8_readsStatement_100 (by decide) (fun c_45 => ?_) (fun c_45 => ?_)
        · replace h := it_t h c_45
          refine lv_aload_n hx hb dX8_readsStatement_112 rfl (lv_at hl 1 rfl) ?_
          refine lv_bipush (v := 59) hx hb dX8_readsStatement_113 (by decide) ?_
          obtain ⟨σ_46, r_47, eσ_46, h⟩ := bnd2 h
          refine r_ci X hS (r_runV (As := [.int 59]) (rest := []) C0 X hP L_X8_88 (fun sz => c_X8_takes l D cA ad o σ_43 59  (σ_46, r_47) eσ_46 sz) (show 91 < 106 ∧ kd 91 = (8, 24) from ⟨by decide, rfl⟩).1 (show 91 < 106 ∧ kd 91 = (8, 24) from ⟨by decide, rfl⟩).2 (by decide) rfl ⟨Nat.le_of_ble_eq_true rfl, Nat.le_of_ble_eq_true rfl⟩ rfl hl.1 rfl (Nat.le_of_ble_eq_true rfl) dX8_readsStatement_115 ⟨Nat.zero_le _, Nat.zero_le _⟩) (fun r9 σ9 H locs hw hP hS => ?_)
          rw [show σ9 = σ_46 from hw.2] at hP
          rw [show r9 = r_47 from hw.1]
          obtain ⟨q_48, h⟩ := ckp h
          exact r_zret C0 X hP hS hr hlk dX8_readsStatement_118 q_48 (rt2 h)
        · replace h := it_f h c_45
          refine lv_aload_n hx hb dX8_readsStatement_103 rfl (lv_at hl 1 rfl) ?_
          obtain ⟨σ_49, r_50, eσ_49, h⟩ := bnd2 h
          refine r_ci X hS (r_runV (As := []) (rest := []) C0 X hP L_X8_85 (fun sz => c_X8_readsDigit l D cA ad o σ_43   (σ_49, r_50) eσ_49 sz) (show 91 < 106 ∧ kd 91 = (8, 24) from ⟨by decide, rfl⟩).1 (show 91 < 106 ∧ kd 91 = (8, 24) from ⟨by decide, rfl⟩).2 (by decide) rfl ⟨Nat.le_of_ble_eq_true rfl, Nat.le_of_ble_eq_true rfl⟩ rfl hl.1 rfl (Nat.le_of_ble_eq_true rfl) dX8_readsStatement_104 ⟨Nat.zero_le _, Nat.zero_le _⟩) (fun r9 σ9 H locs hw hP hS => ?_)
          rw [show σ9 = σ_49 from hw.2] at hP
          rw [show r9 = r_50 from hw.1]
          refine lv_if_ne (tgt := 112) hx hb dX8_readsStatement_107 (by decide) (fun c_51 => ?_) (fun c_51 => ?_)
          · replace h := it_f h c_51
            refine lv_aload_n hx hb dX8_readsStatement_112 rfl (lv_at hl 1 rfl) ?_
            refine lv_bipush (v := 59) hx hb dX8_readsStatement_113 (by decide) ?_
            obtain ⟨σ_52, r_53, eσ_52, h⟩ := bnd2 h
            refine r_ci X hS (r_runV (As := [.int 59]) (rest := []) C0 X hP L_X8_88 (fun sz => c_X8_takes l D cA ad o σ_49 59  (σ_52, r_53) eσ_52 sz) (show 91 < 106 ∧ kd 91 = (8, 24) from ⟨by decide, rfl⟩).1 (show 91 < 106 ∧ kd 91 = (8, 24) from ⟨by decide, rfl⟩).2 (by decide) rfl ⟨Nat.le_of_ble_eq_true rfl, Nat.le_of_ble_eq_true rfl⟩ rfl hl.1 rfl (Nat.le_of_ble_eq_true rfl) dX8_readsStatement_115 ⟨Nat.zero_le _, Nat.zero_le _⟩) (fun r9 σ9 H locs hw hP hS => ?_)
            rw [show σ9 = σ_52 from hw.2] at hP
            rw [show r9 = r_53 from hw.1]
            obtain ⟨q_54, h⟩ := ckp h
            exact r_zret C0 X hP hS hr hlk dX8_readsStatement_118 q_54 (rt2 h)
          · replace h := it_t h c_51
            refine lv_iconst (v := 0) hx hb dX8_readsStatement_110 (by decide) ?_
            exact r_zret C0 X hP hS hr hlk dX8_readsStatement_111 (Or.inl rfl) (rt2 h)
      · replace h := it_t h c_42
        refine lv_iconst (v := 0) hx hb dX8_readsStatement_85 (by decide) ?_
        exact r_zret C0 X hP hS hr hlk dX8_readsStatement_86 (Or.inl rfl) (rt2 h)
    · replace h := it_f h c_39
      by_cases c_55 : r_1 = 114
      · replace h := it_t h c_55
        refine lv_lookup (off := 108) (tgt := 119) hx hb dX8_readsStatement_11 (by decide) (by rw [c_55]; decide) (by decide) ?_
        refine lv_aload_n hx hb dX8_readsStatement_119 rfl (lv_at hl 1 rfl) ?_
        refine lv_dup hx hb dX8_readsStatement_120 rfl ?_
        refine gf_X8_61 C0 X hP 91 ⟨by decide, rfl⟩ dX8_readsStatement_121 ?_
        refine lv_iconst (v := 1) hx hb dX8_readsStatement_124 (by decide) ?_
        refine lv_iadd hx hb dX8_readsStatement_125 ?_
        refine pf_X8_61 C0 X hP hS 91 ⟨by decide, rfl⟩ dX8_readsStatement_126 (fun H locs hP hS => ?_)
        refine lv_aload_n hx hb dX8_readsStatement_129 rfl (lv_at hl 1 rfl) ?_
        obtain ⟨σ_56, r_57, eσ_56, h⟩ := bnd2 h
        refine r_ci X hS (r_runV (As := []) (rest := []) C0 X hP L_X8_85 (fun sz => c_X8_readsDigit l D cA ad o (stm (stm σ 91 15 0) 91 12 (((stm σ 91 15 0) 91 12) + 1))   (σ_56, r_57) eσ_56 sz) (show 91 < 106 ∧ kd 91 = (8, 24) from ⟨by decide, rfl⟩).1 (show 91 < 106 ∧ kd 91 = (8, 24) from ⟨by decide, rfl⟩).2 (by decide) rfl ⟨Nat.le_of_ble_eq_true rfl, Nat.le_of_ble_eq_true rfl⟩ rfl hl.1 rfl (Nat.le_of_ble_eq_true rfl) dX8_readsStatement_130 ⟨Nat.zero_le _, Nat.zero_le _⟩) (fun r9 σ9 H locs hw hP hS => ?_)
        rw [show σ9 = σ_56 from hw.2] at hP
        rw [show r9 = r_57 from hw.1]
        refine lv_if_eq (tgt := 165) hx hb dX8_readsStatement_133 (by decide) (fun c_58 => ?_) (fun c_58 => ?_)
        · replace h := it_t h c_58
          refine lv_iconst (v := 0) hx hb dX8_readsStatement_165 (by decide) ?_
          exact r_zret C0 X hP hS hr hlk dX8_readsStatement_166 (Or.inl rfl) (rt2 h)
        · replace h := it_f h c_58
          refine lv_aload_n hx hb dX8_readsStatement_136 rfl (lv_at hl 1 rfl) ?_
          refine lv_bipush (v := 32) hx hb dX8_readsStatement_137 (by decide) ?_
          obtain ⟨σ_59, r_60, eσ_59, h⟩ := bnd2 h
          refine r_ci X hS (r_runV (As := [.int 32]) (rest := []) C0 X hP L_X8_88 (fun sz => c_X8_takes l D cA ad o σ_56 32  (σ_59, r_60) eσ_59 sz) (show 91 < 106 ∧ kd 91 = (8, 24) from ⟨by decide, rfl⟩).1 (show 91 < 106 ∧ kd 91 = (8, 24) from ⟨by decide, rfl⟩).2 (by decide) rfl ⟨Nat.le_of_ble_eq_true rfl, Nat.le_of_ble_eq_true rfl⟩ rfl hl.1 rfl (Nat.le_of_ble_eq_true rfl) dX8_readsStatement_139 ⟨Nat.zero_le _, Nat.zero_le _⟩) (fun r9 σ9 H locs hw hP hS => ?_)
          rw [show σ9 = σ_59 from hw.2] at hP
          rw [show r9 = r_60 from hw.1]
          refine lv_if_eq (tgt := 165) hx hb dX8_readsStatement_142 (by decide) (fun c_61 => ?_) (fun c_61 => ?_)
          · replace h := it_t h c_61
            refine lv_iconst (v := 0) hx hb dX8_readsStatement_165 (by decide) ?_
            exact r_zret C0 X hP hS hr hlk dX8_readsStatement_166 (Or.inl rfl) (rt2 h)
          · replace h := it_f h c_61
            refine lv_aload_n hx hb dX8_readsStatement_145 rfl (lv_at hl 1 rfl) ?_
            obtain ⟨σ_62, r_63, eσ_62, h⟩ := bnd2 h
            refine r_ci X hS (r_runV (As := []) (rest := []) C0 X hP L_X8_85 (fun sz => c_X8_readsDigit l D cA ad o σ_59   (σ_62, r_63) eσ_62 sz) (show 91 < 106 ∧ kd 91 = (8, 24) from ⟨by decide, rfl⟩).1 (show 91 < 106 ∧ kd 91 = (8, 24) from ⟨by decide, rfl⟩).2 (by decide) rfl ⟨Nat.le_of_ble_eq_true rfl, Nat.le_of_ble_eq_true rfl⟩ rfl hl.1 rfl (Nat.le_of_ble_eq_true rfl) dX8_readsStatement_146 ⟨Nat.zero_le _, Nat.zero_le _⟩) (fun r9 σ9 H locs hw hP hS => ?_)
            rw [show σ9 = σ_62 from hw.2] at hP
            rw [show r9 = r_63 from hw.1]
            refine lv_if_eq (tgt := 165) hx hb dX8_readsStatement_149 (by decide) (fun c_64 => ?_) (fun c_64 => ?_)
            · replace h := it_t h c_64
              refine lv_iconst (v := 0) hx hb dX8_readsStatement_165 (by decide) ?_
              exact r_zret C0 X hP hS hr hlk dX8_readsStatement_166 (Or.inl rfl) (rt2 h)
            · replace h := it_f h c_64
              refine lv_aload_n hx hb dX8_readsStatement_152 rfl (lv_at hl 1 rfl) ?_
              refine lv_bipush (v := 59) hx hb dX8_readsStatement_153 (by decide) ?_
              obtain ⟨σ_65, r_66, eσ_65, h⟩ := bnd2 h
              refine r_ci X hS (r_runV (As := [.int 59]) (rest := []) C0 X hP L_X8_88 (fun sz => c_X8_takes l D cA ad o σ_62 59  (σ_65, r_66) eσ_65 sz) (show 91 < 106 ∧ kd 91 = (8, 24) from ⟨by decide, rfl⟩).1 (show 91 < 106 ∧ kd 91 = (8, 24) from ⟨by decide, rfl⟩).2 (by decide) rfl ⟨Nat.le_of_ble_eq_true rfl, Nat.le_of_ble_eq_true rfl⟩ rfl hl.1 rfl (Nat.le_of_ble_eq_true rfl) dX8_readsStatement_155 ⟨Nat.zero_le _, Nat.zero_le _⟩) (fun r9 σ9 H locs hw hP hS => ?_)
              rw [show σ9 = σ_65 from hw.2] at hP
              rw [show r9 = r_66 from hw.1]
              refine lv_if_eq (tgt := 165) hx hb dX8_readsStatement_158 (by decide) (fun c_67 => ?_) (fun c_67 => ?_)
              · replace h := it_t h c_67
                refine lv_iconst (v := 0) hx hb dX8_readsStatement_165 (by decide) ?_
                exact r_zret C0 X hP hS hr hlk dX8_readsStatement_166 (Or.inl rfl) (rt2 h)
              · replace h := it_f h c_67
                refine lv_iconst (v := 1) hx hb dX8_readsStatement_161 (by decide) ?_
                refine lv_goto (tgt := 166) hx hb dX8_readsStatement_162 (by decide) ?_
                exact r_zret C0 X hP hS hr hlk dX8_readsStatement_166 (Or.inr rfl) (rt2 h)
      · replace h := it_f h c_55
        by_cases c_68 : r_1 = 117
        · replace h := it_t h c_68
          refine lv_lookup (off := 211) (tgt := 222) hx hb dX8_readsStatement_11 (by decide) (by rw [c_68]; decide) (by decide) ?_
          refine lv_aload_n hx hb dX8_readsStatement_222 rfl (lv_at hl 1 rfl) ?_
          refine lv_dup hx hb dX8_readsStatement_223 rfl ?_
          refine gf_X8_61 C0 X hP 91 ⟨by decide, rfl⟩ dX8_readsStatement_224 ?_
          refine lv_iconst (v := 1) hx hb dX8_readsStatement_227 (by decide) ?_
          refine lv_iadd hx hb dX8_readsStatement_228 ?_
          refine pf_X8_61 C0 X hP hS 91 ⟨by decide, rfl⟩ dX8_readsStatement_229 (fun H locs hP hS => ?_)
          refine lv_aload_n hx hb dX8_readsStatement_232 rfl (lv_at hl 1 rfl) ?_
          obtain ⟨σ_69, r_70, eσ_69, h⟩ := bnd2 h
          refine r_ci X hS (r_runV (As := []) (rest := []) C0 X hP L_X8_92 (fun sz => c_X8_readsNumber l D cA ad o (stm (stm σ 91 15 0) 91 12 (((stm σ 91 15 0) 91 12) + 1))   (σ_69, r_70) eσ_69 sz) (show 91 < 106 ∧ kd 91 = (8, 24) from ⟨by decide, rfl⟩).1 (show 91 < 106 ∧ kd 91 = (8, 24) from ⟨by decide, rfl⟩).2 (by decide) rfl ⟨Nat.le_of_ble_eq_true rfl, Nat.le_of_ble_eq_true rfl⟩ rfl hl.1 rfl (Nat.le_of_ble_eq_true rfl) dX8_readsStatement_233 ⟨Nat.zero_le _, Nat.zero_le _⟩) (fun r9 σ9 H locs hw hP hS => ?_)
          rw [show σ9 = σ_69 from hw.2] at hP
          rw [show r9 = r_70 from hw.1]
          refine lv_if_eq (tgt := 255) hx hb dX8_readsStatement_236 (by decide) (fun c_71 => ?_) (fun c_71 => ?_)
          · replace h := it_t h c_71
            refine lv_iconst (v := 0) hx hb dX8_readsStatement_255 (by decide) ?_
            exact r_zret C0 X hP hS hr hlk dX8_readsStatement_256 (Or.inl rfl) (rt2 h)
          · replace h := it_f h c_71
            refine lv_aload_n hx hb dX8_readsStatement_239 rfl (lv_at hl 1 rfl) ?_
            refine lv_bipush (v := 32) hx hb dX8_readsStatement_240 (by decide) ?_
            obtain ⟨σ_72, r_73, eσ_72, h⟩ := bnd2 h
            refine r_ci X hS (r_runV (As := [.int 32]) (rest := []) C0 X hP L_X8_88 (fun sz => c_X8_takes l D cA ad o σ_69 32  (σ_72, r_73) eσ_72 sz) (show 91 < 106 ∧ kd 91 = (8, 24) from ⟨by decide, rfl⟩).1 (show 91 < 106 ∧ kd 91 = (8, 24) from ⟨by decide, rfl⟩).2 (by decide) rfl ⟨Nat.le_of_ble_eq_true rfl, Nat.le_of_ble_eq_true rfl⟩ rfl hl.1 rfl (Nat.le_of_ble_eq_true rfl) dX8_readsStatement_242 ⟨Nat.zero_le _, Nat.zero_le _⟩) (fun r9 σ9 H locs hw hP hS => ?_)
            rw [show σ9 = σ_72 from hw.2] at hP
            rw [show r9 = r_73 from hw.1]
            refine lv_if_eq (tgt := 255) hx hb dX8_readsStatement_245 (by decide) (fun c_74 => ?_) (fun c_74 => ?_)
            · replace h := it_t h c_74
              refine lv_iconst (v := 0) hx hb dX8_readsStatement_255 (by decide) ?_
              exact r_zret C0 X hP hS hr hlk dX8_readsStatement_256 (Or.inl rfl) (rt2 h)
            · replace h := it_f h c_74
              refine lv_aload_n hx hb dX8_readsStatement_248 rfl (lv_at hl 1 rfl) ?_
              obtain ⟨σ_75, r_76, eσ_75, h⟩ := bnd2 h
              refine r_ci X hS (r_runV (As := []) (rest := []) C0 X hP L_X8_85 (fun sz => c_X8_readsDigit l D cA ad o σ_72   (σ_75, r_76) eσ_75 sz) (show 91 < 106 ∧ kd 91 = (8, 24) from ⟨by decide, rfl⟩).1 (show 91 < 106 ∧ kd 91 = (8, 24) from ⟨by decide, rfl⟩).2 (by decide) rfl ⟨Nat.le_of_ble_eq_true rfl, Nat.le_of_ble_eq_true rfl⟩ rfl hl.1 rfl (Nat.le_of_ble_eq_true rfl) dX8_readsStatement_249 ⟨Nat.zero_le _, Nat.zero_le _⟩) (fun r9 σ9 H locs hw hP hS => ?_)
              rw [show σ9 = σ_75 from hw.2] at hP
              rw [show r9 = r_76 from hw.1]
              refine lv_if_ne (tgt := 257) hx hb dX8_readsStatement_252 (by decide) (fun c_77 => ?_) (fun c_77 => ?_)
              · replace h := it_f h c_77
                refine lv_aload_n hx hb dX8_readsStatement_257 rfl (lv_at hl 1 rfl) ?_
                refine gf_X8_40 C0 X hP 91 (q := 102) ⟨by decide, rfl⟩ (by omega) rfl dX8_readsStatement_258 ?_
                refine lv_iconst (v := 2) hx hb dX8_readsStatement_261 (by decide) ?_
                refine lv_aload_n hx hb dX8_readsStatement_262 rfl (lv_at hl 1 rfl) ?_
                refine lv_bipush (v := 108) hx hb dX8_readsStatement_263 (by decide) ?_
                obtain ⟨σ_78, r_79, eσ_78, h⟩ := bnd2 h
                refine r_ci X hS (r_runV (As := [.int 108]) (rest := [.int 2, .ref (ad 102)]) C0 X hP L_X8_88 (fun sz => c_X8_takes l D cA ad o σ_75 108  (σ_78, r_79) eσ_78 sz) (show 91 < 106 ∧ kd 91 = (8, 24) from ⟨by decide, rfl⟩).1 (show 91 < 106 ∧ kd 91 = (8, 24) from ⟨by decide, rfl⟩).2 (by decide) rfl ⟨Nat.le_of_ble_eq_true rfl, Nat.le_of_ble_eq_true rfl⟩ rfl hl.1 rfl (Nat.le_of_ble_eq_true rfl) dX8_readsStatement_265 ⟨Nat.zero_le _, Nat.zero_le _⟩) (fun r9 σ9 H locs hw hP hS => ?_)
                rw [show σ9 = σ_78 from hw.2] at hP
                rw [show r9 = r_79 from hw.1]
                refine lv_if_eq (tgt := 275) hx hb dX8_readsStatement_268 (by decide) (fun c_80 => ?_) (fun c_80 => ?_)
                · replace h := it_t h c_80
                  refine lv_iconst (v := 0) hx hb dX8_readsStatement_275 (by decide) ?_
                  refine r_iastN C0 X hP hS 102 (k := 2) ⟨by decide, rfl⟩ rfl (by decide) dX8_readsStatement_276 (fun H locs hP hS => ?_)
                  refine lv_aload_n hx hb dX8_readsStatement_277 rfl (lv_at hl 1 rfl) ?_
                  refine gf_X8_40 C0 X hP 91 (q := 102) ⟨by decide, rfl⟩ (by omega) rfl dX8_readsStatement_278 ?_
                  refine lv_iconst (v := 3) hx hb dX8_readsStatement_281 (by decide) ?_
                  refine lv_iconst (v := 0) hx hb dX8_readsStatement_282 (by decide) ?_
                  refine r_iastN C0 X hP hS 102 (k := 3) ⟨by decide, rfl⟩ rfl (by decide) dX8_readsStatement_283 (fun H locs hP hS => ?_)
                  refine lv_aload_n hx hb dX8_readsStatement_284 rfl (lv_at hl 1 rfl) ?_
                  refine lv_iconst (v := 3) hx hb dX8_readsStatement_285 (by decide) ?_
                  refine pf_X8_82 C0 X hP hS 91 ⟨by decide, rfl⟩ dX8_readsStatement_286 (fun H locs hP hS => ?_)
                  refine lv_aload_n hx hb dX8_readsStatement_289 rfl (lv_at hl 1 rfl) ?_
                  refine lv_bipush (v := 119) hx hb dX8_readsStatement_290 (by decide) ?_
                  obtain ⟨σ_81, r_82, eσ_81, h⟩ := bnd2 h
                  refine r_ci X hS (r_runV (As := [.int 119]) (rest := []) C0 X hP L_X8_88 (fun sz => c_X8_takes l D cA ad o (stm (stm (stm σ_78 102 2 0) 102 3 0) 91 15 3) 119  (σ_81, r_82) eσ_81 sz) (show 91 < 106 ∧ kd 91 = (8, 24) from ⟨by decide, rfl⟩).1 (show 91 < 106 ∧ kd 91 = (8, 24) from ⟨by decide, rfl⟩).2 (by decide) rfl ⟨Nat.le_of_ble_eq_true rfl, Nat.le_of_ble_eq_true rfl⟩ rfl hl.1 rfl (Nat.le_of_ble_eq_true rfl) dX8_readsStatement_292 ⟨Nat.zero_le _, Nat.zero_le _⟩) (fun r9 σ9 H locs hw hP hS => ?_)
                  rw [show σ9 = σ_81 from hw.2] at hP
                  rw [show r9 = r_82 from hw.1]
                  refine lv_if_eq (tgt := 307) hx hb dX8_readsStatement_295 (by decide) (fun c_83 => ?_) (fun c_83 => ?_)
                  · replace h := it_t h c_83
                    refine lv_aload_n hx hb dX8_readsStatement_307 rfl (lv_at hl 1 rfl) ?_
                    refine lv_bipush (v := 59) hx hb dX8_readsStatement_308 (by decide) ?_
                    obtain ⟨σ_84, r_85, eσ_84, h⟩ := bnd2 h
                    refine r_ci X hS (r_runV (As := [.int 59]) (rest := []) C0 X hP L_X8_88 (fun sz => c_X8_takes l D cA ad o σ_81 59  (σ_84, r_85) eσ_84 sz) (show 91 < 106 ∧ kd 91 = (8, 24) from ⟨by decide, rfl⟩).1 (show 91 < 106 ∧ kd 91 = (8, 24) from ⟨by decide, rfl⟩).2 (by decide) rfl ⟨Nat.le_of_ble_eq_true rfl, Nat.le_of_ble_eq_true rfl⟩ rfl hl.1 rfl (Nat.le_of_ble_eq_true rfl) dX8_readsStatement_310 ⟨Nat.zero_le _, Nat.zero_le _⟩) (fun r9 σ9 H locs hw hP hS => ?_)
                    rw [show σ9 = σ_84 from hw.2] at hP
                    rw [show r9 = r_85 from hw.1]
                    obtain ⟨q_86, h⟩ := ckp h
                    exact r_zret C0 X hP hS hr hlk dX8_readsStatement_313 q_86 (rt2 h)
                  · replace h := it_f h c_83
                    refine lv_aload_n hx hb dX8_readsStatement_298 rfl (lv_at hl 1 rfl) ?_
                    obtain ⟨σ_87, r_88, eσ_87, h⟩ := bnd2 h
                    refine r_ci X hS (r_runV (As := []) (rest := []) C0 X hP L_X8_92 (fun sz => c_X8_readsNumber l D cA ad o σ_81   (σ_87, r_88) eσ_87 sz) (show 91 < 106 ∧ kd 91 = (8, 24) from ⟨by decide, rfl⟩).1 (show 91 < 106 ∧ kd 91 = (8, 24) from ⟨by decide, rfl⟩).2 (by decide) rfl ⟨Nat.le_of_ble_eq_true rfl, Nat.le_of_ble_eq_true rfl⟩ rfl hl.1 rfl (Nat.le_of_ble_eq_true rfl) dX8_readsStatement_299 ⟨Nat.zero_le _, Nat.zero_le _⟩) (fun r9 σ9 H locs hw hP hS => ?_)
                    rw [show σ9 = σ_87 from hw.2] at hP
                    rw [show r9 = r_88 from hw.1]
                    refine lv_if_ne (tgt := 307) hx hb dX8_readsStatement_302 (by decide) (fun c_89 => ?_) (fun c_89 => ?_)
                    · replace h := it_f h c_89
                      refine lv_aload_n hx hb dX8_readsStatement_307 rfl (lv_at hl 1 rfl) ?_
                      refine lv_bipush (v := 59) hx hb dX8_readsStatement_308 (by decide) ?_
                      obtain ⟨σ_90, r_91, eσ_90, h⟩ := bnd2 h
                      refine r_ci X hS (r_runV (As := [.int 59]) (rest := []) C0 X hP L_X8_88 (fun sz => c_X8_takes l D cA ad o σ_87 59  (σ_90, r_91) eσ_90 sz) (show 91 < 106 ∧ kd 91 = (8, 24) from ⟨by decide, rfl⟩).1 (show 91 < 106 ∧ kd 91 = (8, 24) from ⟨by decide, rfl⟩).2 (by decide) rfl ⟨Nat.le_of_ble_eq_true rfl, Nat.le_of_ble_eq_true rfl⟩ rfl hl.1 rfl (Nat.le_of_ble_eq_true rfl) dX8_readsStatement_310 ⟨Nat.zero_le _, Nat.zero_le _⟩) (fun r9 σ9 H locs hw hP hS => ?_)
                      rw [show σ9 = σ_90 from hw.2] at hP
                      rw [show r9 = r_91 from hw.1]
                      obtain ⟨q_92, h⟩ := ckp h
                      exact r_zret C0 X hP hS hr hlk dX8_readsStatement_313 q_92 (rt2 h)
                    · replace h := it_t h c_89
                      refine lv_iconst (v := 0) hx hb dX8_readsStatement_305 (by decide) ?_
                      exact r_zret C0 X hP hS hr hlk dX8_readsStatement_306 (Or.inl rfl) (rt2 h)
                · replace h := it_f h c_80
                  refine lv_iconst (v := 1) hx hb dX8_readsStatement_271 (by decide) ?_
                  refine lv_goto (tgt := 276) hx hb dX8_readsStatement_272 (by decide) ?_
                  refine r_iastN C0 X hP hS 102 (k := 2) ⟨by decide, rfl⟩ rfl (by decide) dX8_readsStatement_276 (fun H locs hP hS => ?_)
                  refine lv_aload_n hx hb dX8_readsStatement_277 rfl (lv_at hl 1 rfl) ?_
                  refine gf_X8_40 C0 X hP 91 (q := 102) ⟨by decide, rfl⟩ (by omega) rfl dX8_readsStatement_278 ?_
                  refine lv_iconst (v := 3) hx hb dX8_readsStatement_281 (by decide) ?_
                  refine lv_iconst (v := 0) hx hb dX8_readsStatement_282 (by decide) ?_
                  refine r_iastN C0 X hP hS 102 (k := 3) ⟨by decide, rfl⟩ rfl (by decide) dX8_readsStatement_283 (fun H locs hP hS => ?_)
                  refine lv_aload_n hx hb dX8_readsStatement_284 rfl (lv_at hl 1 rfl) ?_
                  refine lv_iconst (v := 3) hx hb dX8_readsStatement_285 (by decide) ?_
                  refine pf_X8_82 C0 X hP hS 91 ⟨by decide, rfl⟩ dX8_readsStatement_286 (fun H locs hP hS => ?_)
                  refine lv_aload_n hx hb dX8_readsStatement_289 rfl (lv_at hl 1 rfl) ?_
                  refine lv_bipush (v := 119) hx hb dX8_readsStatement_290 (by decide) ?_
                  obtain ⟨σ_93, r_94, eσ_93, h⟩ := bnd2 h
                  refine r_ci X hS (r_runV (As := [.int 119]) (rest := []) C0 X hP L_X8_88 (fun sz => c_X8_takes l D cA ad o (stm (stm (stm σ_78 102 2 1) 102 3 0) 91 15 3) 119  (σ_93, r_94) eσ_93 sz) (show 91 < 106 ∧ kd 91 = (8, 24) from ⟨by decide, rfl⟩).1 (show 91 < 106 ∧ kd 91 = (8, 24) from ⟨by decide, rfl⟩).2 (by decide) rfl ⟨Nat.le_of_ble_eq_true rfl, Nat.le_of_ble_eq_true rfl⟩ rfl hl.1 rfl (Nat.le_of_ble_eq_true rfl) dX8_readsStatement_292 ⟨Nat.zero_le _, Nat.zero_le _⟩) (fun r9 σ9 H locs hw hP hS => ?_)
                  rw [show σ9 = σ_93 from hw.2] at hP
                  rw [show r9 = r_94 from hw.1]
                  refine lv_if_eq (tgt := 307) hx hb dX8_readsStatement_295 (by decide) (fun c_95 => ?_) (fun c_95 => ?_)
                  · replace h := it_t h c_95
                    refine lv_aload_n hx hb dX8_readsStatement_307 rfl (lv_at hl 1 rfl) ?_
                    refine lv_bipush (v := 59) hx hb dX8_readsStatement_308 (by decide) ?_
                    obtain ⟨σ_96, r_97, eσ_96, h⟩ := bnd2 h
                    refine r_ci X hS (r_runV (As := [.int 59]) (rest := []) C0 X hP L_X8_88 (fun sz => c_X8_takes l D cA ad o σ_93 59  (σ_96, r_97) eσ_96 sz) (show 91 < 106 ∧ kd 91 = (8, 24) from ⟨by decide, rfl⟩).1 (show 91 < 106 ∧ kd 91 = (8, 24) from ⟨by decide, rfl⟩).2 (by decide) rfl ⟨Nat.le_of_ble_eq_true rfl, Nat.le_of_ble_eq_true rfl⟩ rfl hl.1 rfl (Nat.le_of_ble_eq_true rfl) dX8_readsStatement_310 ⟨Nat.zero_le _, Nat.zero_le _⟩) (fun r9 σ9 H locs hw hP hS => ?_)
                    rw [show σ9 = σ_96 from hw.2] at hP
                    rw [show r9 = r_97 from hw.1]
                    obtain ⟨q_98, h⟩ := ckp h
                    exact r_zret C0 X hP hS hr hlk dX8_readsStatement_313 q_98 (rt2 h)
                  · replace h := it_f h c_95
                    refine lv_aload_n hx hb dX8_readsStatement_298 rfl (lv_at hl 1 rfl) ?_
                    obtain ⟨σ_99, r_100, eσ_99, h⟩ := bnd2 h
                    refine r_ci X hS (r_runV (As := []) (rest := []) C0 X hP L_X8_92 (fun sz => c_X8_readsNumber l D cA ad o σ_93   (σ_99, r_100) eσ_99 sz) (show 91 < 106 ∧ kd 91 = (8, 24) from ⟨by decide, rfl⟩).1 (show 91 < 106 ∧ kd 91 = (8, 24) from ⟨by decide, rfl⟩).2 (by decide) rfl ⟨Nat.le_of_ble_eq_true rfl, Nat.le_of_ble_eq_true rfl⟩ rfl hl.1 rfl (Nat.le_of_ble_eq_true rfl) dX8_readsStatement_299 ⟨Nat.zero_le _, Nat.zero_le _⟩) (fun r9 σ9 H locs hw hP hS => ?_)
                    rw [show σ9 = σ_99 from hw.2] at hP
                    rw [show r9 = r_100 from hw.1]
                    refine lv_if_ne (tgt := 307) hx hb dX8_readsStatement_302 (by decide) (fun c_101 => ?_) (fun c_101 => ?_)
                    · replace h := it_f h c_101
                      refine lv_aload_n hx hb dX8_readsStatement_307 rfl (lv_at hl 1 rfl) ?_
                      refine lv_bipush (v := 59) hx hb dX8_readsStatement_308 (by decide) ?_
                      obtain ⟨σ_102, r_103, eσ_102, h⟩ := bnd2 h
                      refine r_ci X hS (r_runV (As := [.int 59]) (rest := []) C0 X hP L_X8_88 (fun sz => c_X8_takes l D cA ad o σ_99 59  (σ_102, r_103) eσ_102 sz) (show 91 < 106 ∧ kd 91 = (8, 24) from ⟨by decide, rfl⟩).1 (show 91 < 106 ∧ kd 91 = (8, 24) from ⟨by decide, rfl⟩).2 (by decide) rfl ⟨Nat.le_of_ble_eq_true rfl, Nat.le_of_ble_eq_true rfl⟩ rfl hl.1 rfl (Nat.le_of_ble_eq_true rfl) dX8_readsStatement_310 ⟨Nat.zero_le _, Nat.zero_le _⟩) (fun r9 σ9 H locs hw hP hS => ?_)
                      rw [show σ9 = σ_102 from hw.2] at hP
                      rw [show r9 = r_103 from hw.1]
                      obtain ⟨q_104, h⟩ := ckp h
                      exact r_zret C0 X hP hS hr hlk dX8_readsStatement_313 q_104 (rt2 h)
                    · replace h := it_t h c_101
                      refine lv_iconst (v := 0) hx hb dX8_readsStatement_305 (by decide) ?_
                      exact r_zret C0 X hP hS hr hlk dX8_readsStatement_306 (Or.inl rfl) (rt2 h)
              · replace h := it_t h c_77
                refine lv_iconst (v := 0) hx hb dX8_readsStatement_255 (by decide) ?_
                exact r_zret C0 X hP hS hr hlk dX8_readsStatement_256 (Or.inl rfl) (rt2 h)
        · replace h := it_f h c_68
          by_cases c_105 : r_1 = 118
          · replace h := it_t h c_105
            refine lv_lookup (off := 108) (tgt := 119) hx hb dX8_readsStatement_11 (by decide) (by rw [c_105]; decide) (by decide) ?_
            refine lv_aload_n hx hb dX8_readsStatement_119 rfl (lv_at hl 1 rfl) ?_
            refine lv_dup hx hb dX8_readsStatement_120 rfl ?_
            refine gf_X8_61 C0 X hP 91 ⟨by decide, rfl⟩ dX8_readsStatement_121 ?_
            refine lv_iconst (v := 1) hx hb dX8_readsStatement_124 (by decide) ?_
            refine lv_iadd hx hb dX8_readsStatement_125 ?_
            refine pf_X8_61 C0 X hP hS 91 ⟨by decide, rfl⟩ dX8_readsStatement_126 (fun H locs hP hS => ?_)
            refine lv_aload_n hx hb dX8_readsStatement_129 rfl (lv_at hl 1 rfl) ?_
            obtain ⟨σ_106, r_107, eσ_106, h⟩ := bnd2 h
            refine r_ci X hS (r_runV (As := []) (rest := []) C0 X hP L_X8_85 (fun sz => c_X8_readsDigit l D cA ad o (stm (stm σ 91 15 0) 91 12 (((stm σ 91 15 0) 91 12) + 1))   (σ_106, r_107) eσ_106 sz) (show 91 < 106 ∧ kd 91 = (8, 24) from ⟨by decide, rfl⟩).1 (show 91 < 106 ∧ kd 91 = (8, 24) from ⟨by decide, rfl⟩).2 (by decide) rfl ⟨Nat.le_of_ble_eq_true rfl, Nat.le_of_ble_eq_true rfl⟩ rfl hl.1 rfl (Nat.le_of_ble_eq_true rfl) dX8_readsStatement_130 ⟨Nat.zero_le _, Nat.zero_le _⟩) (fun r9 σ9 H locs hw hP hS => ?_)
            rw [show σ9 = σ_106 from hw.2] at hP
            rw [show r9 = r_107 from hw.1]
            refine lv_if_eq (tgt := 165) hx hb dX8_readsStatement_133 (by decide) (fun c_108 => ?_) (fun c_108 => ?_)
            · replace h := it_t h c_108
              refine lv_iconst (v := 0) hx hb dX8_readsStatement_165 (by decide) ?_
              exact r_zret C0 X hP hS hr hlk dX8_readsStatement_166 (Or.inl rfl) (rt2 h)
            · replace h := it_f h c_108
              refine lv_aload_n hx hb dX8_readsStatement_136 rfl (lv_at hl 1 rfl) ?_
              refine lv_bipush (v := 32) hx hb dX8_readsStatement_137 (by decide) ?_
              obtain ⟨σ_109, r_110, eσ_109, h⟩ := bnd2 h
              refine r_ci X hS (r_runV (As := [.int 32]) (rest := []) C0 X hP L_X8_88 (fun sz => c_X8_takes l D cA ad o σ_106 32  (σ_109, r_110) eσ_109 sz) (show 91 < 106 ∧ kd 91 = (8, 24) from ⟨by decide, rfl⟩).1 (show 91 < 106 ∧ kd 91 = (8, 24) from ⟨by decide, rfl⟩).2 (by decide) rfl ⟨Nat.le_of_ble_eq_true rfl, Nat.le_of_ble_eq_true rfl⟩ rfl hl.1 rfl (Nat.le_of_ble_eq_true rfl) dX8_readsStatement_139 ⟨Nat.zero_le _, Nat.zero_le _⟩) (fun r9 σ9 H locs hw hP hS => ?_)
              rw [show σ9 = σ_109 from hw.2] at hP
              rw [show r9 = r_110 from hw.1]
              refine lv_if_eq (tgt := 165) hx hb dX8_readsStatement_142 (by decide) (fun c_111 => ?_) (fun c_111 => ?_)
              · replace h := it_t h c_111
                refine lv_iconst (v := 0) hx hb dX8_readsStatement_165 (by decide) ?_
                exact r_zret C0 X hP hS hr hlk dX8_readsStatement_166 (Or.inl rfl) (rt2 h)
              · replace h := it_f h c_111
                refine lv_aload_n hx hb dX8_readsStatement_145 rfl (lv_at hl 1 rfl) ?_
                obtain ⟨σ_112, r_113, eσ_112, h⟩ := bnd2 h
                refine r_ci X hS (r_runV (As := []) (rest := []) C0 X hP L_X8_85 (fun sz => c_X8_readsDigit l D cA ad o σ_109   (σ_112, r_113) eσ_112 sz) (show 91 < 106 ∧ kd 91 = (8, 24) from ⟨by decide, rfl⟩).1 (show 91 < 106 ∧ kd 91 = (8, 24) from ⟨by decide, rfl⟩).2 (by decide) rfl ⟨Nat.le_of_ble_eq_true rfl, Nat.le_of_ble_eq_true rfl⟩ rfl hl.1 rfl (Nat.le_of_ble_eq_true rfl) dX8_readsStatement_146 ⟨Nat.zero_le _, Nat.zero_le _⟩) (fun r9 σ9 H locs hw hP hS => ?_)
                rw [show σ9 = σ_112 from hw.2] at hP
                rw [show r9 = r_113 from hw.1]
                refine lv_if_eq (tgt := 165) hx hb dX8_readsStatement_149 (by decide) (fun c_114 => ?_) (fun c_114 => ?_)
                · replace h := it_t h c_114
                  refine lv_iconst (v := 0) hx hb dX8_readsStatement_165 (by decide) ?_
                  exact r_zret C0 X hP hS hr hlk dX8_readsStatement_166 (Or.inl rfl) (rt2 h)
                · replace h := it_f h c_114
                  refine lv_aload_n hx hb dX8_readsStatement_152 rfl (lv_at hl 1 rfl) ?_
                  refine lv_bipush (v := 59) hx hb dX8_readsStatement_153 (by decide) ?_
                  obtain ⟨σ_115, r_116, eσ_115, h⟩ := bnd2 h
                  refine r_ci X hS (r_runV (As := [.int 59]) (rest := []) C0 X hP L_X8_88 (fun sz => c_X8_takes l D cA ad o σ_112 59  (σ_115, r_116) eσ_115 sz) (show 91 < 106 ∧ kd 91 = (8, 24) from ⟨by decide, rfl⟩).1 (show 91 < 106 ∧ kd 91 = (8, 24) from ⟨by decide, rfl⟩).2 (by decide) rfl ⟨Nat.le_of_ble_eq_true rfl, Nat.le_of_ble_eq_true rfl⟩ rfl hl.1 rfl (Nat.le_of_ble_eq_true rfl) dX8_readsStatement_155 ⟨Nat.zero_le _, Nat.zero_le _⟩) (fun r9 σ9 H locs hw hP hS => ?_)
                  rw [show σ9 = σ_115 from hw.2] at hP
                  rw [show r9 = r_116 from hw.1]
                  refine lv_if_eq (tgt := 165) hx hb dX8_readsStatement_158 (by decide) (fun c_117 => ?_) (fun c_117 => ?_)
                  · replace h := it_t h c_117
                    refine lv_iconst (v := 0) hx hb dX8_readsStatement_165 (by decide) ?_
                    exact r_zret C0 X hP hS hr hlk dX8_readsStatement_166 (Or.inl rfl) (rt2 h)
                  · replace h := it_f h c_117
                    refine lv_iconst (v := 1) hx hb dX8_readsStatement_161 (by decide) ?_
                    refine lv_goto (tgt := 166) hx hb dX8_readsStatement_162 (by decide) ?_
                    exact r_zret C0 X hP hS hr hlk dX8_readsStatement_166 (Or.inr rfl) (rt2 h)
          · replace h := it_f h c_105
            by_cases c_118 : r_1 = 120
            · replace h := it_t h c_118
              refine lv_lookup (off := 156) (tgt := 167) hx hb dX8_readsStatement_11 (by decide) (by rw [c_118]; decide) (by decide) ?_
              refine lv_aload_n hx hb dX8_readsStatement_167 rfl (lv_at hl 1 rfl) ?_
              refine lv_dup hx hb dX8_readsStatement_168 rfl ?_
              refine gf_X8_61 C0 X hP 91 ⟨by decide, rfl⟩ dX8_readsStatement_169 ?_
              refine lv_iconst (v := 1) hx hb dX8_readsStatement_172 (by decide) ?_
              refine lv_iadd hx hb dX8_readsStatement_173 ?_
              refine pf_X8_61 C0 X hP hS 91 ⟨by decide, rfl⟩ dX8_readsStatement_174 (fun H locs hP hS => ?_)
              refine lv_aload_n hx hb dX8_readsStatement_177 rfl (lv_at hl 1 rfl) ?_
              obtain ⟨σ_119, r_120, eσ_119, h⟩ := bnd2 h
              refine r_ci X hS (r_runV (As := []) (rest := []) C0 X hP L_X8_85 (fun sz => c_X8_readsDigit l D cA ad o (stm (stm σ 91 15 0) 91 12 (((stm σ 91 15 0) 91 12) + 1))   (σ_119, r_120) eσ_119 sz) (show 91 < 106 ∧ kd 91 = (8, 24) from ⟨by decide, rfl⟩).1 (show 91 < 106 ∧ kd 91 = (8, 24) from ⟨by decide, rfl⟩).2 (by decide) rfl ⟨Nat.le_of_ble_eq_true rfl, Nat.le_of_ble_eq_true rfl⟩ rfl hl.1 rfl (Nat.le_of_ble_eq_true rfl) dX8_readsStatement_178 ⟨Nat.zero_le _, Nat.zero_le _⟩) (fun r9 σ9 H locs hw hP hS => ?_)
              rw [show σ9 = σ_119 from hw.2] at hP
              rw [show r9 = r_120 from hw.1]
              refine lv_if_eq (tgt := 220) hx hb dX8_readsStatement_181 (by decide) (fun c_121 => ?_) (fun c_121 => ?_)
              · replace h := it_t h c_121
                refine lv_iconst (v := 0) hx hb dX8_readsStatement_220 (by decide) ?_
                exact r_zret C0 X hP hS hr hlk dX8_readsStatement_221 (Or.inl rfl) (rt2 h)
              · replace h := it_f h c_121
                refine lv_aload_n hx hb dX8_readsStatement_184 rfl (lv_at hl 1 rfl) ?_
                refine lv_bipush (v := 32) hx hb dX8_readsStatement_185 (by decide) ?_
                obtain ⟨σ_122, r_123, eσ_122, h⟩ := bnd2 h
                refine r_ci X hS (r_runV (As := [.int 32]) (rest := []) C0 X hP L_X8_88 (fun sz => c_X8_takes l D cA ad o σ_119 32  (σ_122, r_123) eσ_122 sz) (show 91 < 106 ∧ kd 91 = (8, 24) from ⟨by decide, rfl⟩).1 (show 91 < 106 ∧ kd 91 = (8, 24) from ⟨by decide, rfl⟩).2 (by decide) rfl ⟨Nat.le_of_ble_eq_true rfl, Nat.le_of_ble_eq_true rfl⟩ rfl hl.1 rfl (Nat.le_of_ble_eq_true rfl) dX8_readsStatement_187 ⟨Nat.zero_le _, Nat.zero_le _⟩) (fun r9 σ9 H locs hw hP hS => ?_)
                rw [show σ9 = σ_122 from hw.2] at hP
                rw [show r9 = r_123 from hw.1]
                refine lv_if_eq (tgt := 220) hx hb dX8_readsStatement_190 (by decide) (fun c_124 => ?_) (fun c_124 => ?_)
                · replace h := it_t h c_124
                  refine lv_iconst (v := 0) hx hb dX8_readsStatement_220 (by decide) ?_
                  exact r_zret C0 X hP hS hr hlk dX8_readsStatement_221 (Or.inl rfl) (rt2 h)
                · replace h := it_f h c_124
                  refine lv_aload_n hx hb dX8_readsStatement_193 rfl (lv_at hl 1 rfl) ?_
                  obtain ⟨σ_125, r_126, eσ_125, h⟩ := bnd2 h
                  refine r_ci X hS (r_runV (As := []) (rest := []) C0 X hP L_X8_85 (fun sz => c_X8_readsDigit l D cA ad o σ_122   (σ_125, r_126) eσ_125 sz) (show 91 < 106 ∧ kd 91 = (8, 24) from ⟨by decide, rfl⟩).1 (show 91 < 106 ∧ kd 91 = (8, 24) from ⟨by decide, rfl⟩).2 (by decide) rfl ⟨Nat.le_of_ble_eq_true rfl, Nat.le_of_ble_eq_true rfl⟩ rfl hl.1 rfl (Nat.le_of_ble_eq_true rfl) dX8_readsStatement_194 ⟨Nat.zero_le _, Nat.zero_le _⟩) (fun r9 σ9 H locs hw hP hS => ?_)
                  rw [show σ9 = σ_125 from hw.2] at hP
                  rw [show r9 = r_126 from hw.1]
                  refine lv_if_eq (tgt := 220) hx hb dX8_readsStatement_197 (by decide) (fun c_127 => ?_) (fun c_127 => ?_)
                  · replace h := it_t h c_127
                    refine lv_iconst (v := 0) hx hb dX8_readsStatement_220 (by decide) ?_
                    exact r_zret C0 X hP hS hr hlk dX8_readsStatement_221 (Or.inl rfl) (rt2 h)
                  · replace h := it_f h c_127
                    refine lv_aload_n hx hb dX8_readsStatement_200 rfl (lv_at hl 1 rfl) ?_
                    obtain ⟨σ_128, r_129, eσ_128, h⟩ := bnd2 h
                    refine r_ci X hS (r_runV (As := []) (rest := []) C0 X hP L_X8_85 (fun sz => c_X8_readsDigit l D cA ad o σ_125   (σ_128, r_129) eσ_128 sz) (show 91 < 106 ∧ kd 91 = (8, 24) from ⟨by decide, rfl⟩).1 (show 91 < 106 ∧ kd 91 = (8, 24) from ⟨by decide, rfl⟩).2 (by decide) rfl ⟨Nat.le_of_ble_eq_true rfl, Nat.le_of_ble_eq_true rfl⟩ rfl hl.1 rfl (Nat.le_of_ble_eq_true rfl) dX8_readsStatement_201 ⟨Nat.zero_le _, Nat.zero_le _⟩) (fun r9 σ9 H locs hw hP hS => ?_)
                    rw [show σ9 = σ_128 from hw.2] at hP
                    rw [show r9 = r_129 from hw.1]
                    refine lv_if_eq (tgt := 220) hx hb dX8_readsStatement_204 (by decide) (fun c_130 => ?_) (fun c_130 => ?_)
                    · replace h := it_t h c_130
                      refine lv_iconst (v := 0) hx hb dX8_readsStatement_220 (by decide) ?_
                      exact r_zret C0 X hP hS hr hlk dX8_readsStatement_221 (Or.inl rfl) (rt2 h)
                    · replace h := it_f h c_130
                      refine lv_aload_n hx hb dX8_readsStatement_207 rfl (lv_at hl 1 rfl) ?_
                      refine lv_bipush (v := 59) hx hb dX8_readsStatement_208 (by decide) ?_
                      obtain ⟨σ_131, r_132, eσ_131, h⟩ := bnd2 h
                      refine r_ci X hS (r_runV (As := [.int 59]) (rest := []) C0 X hP L_X8_88 (fun sz => c_X8_takes l D cA ad o σ_128 59  (σ_131, r_132) eσ_131 sz) (show 91 < 106 ∧ kd 91 = (8, 24) from ⟨by decide, rfl⟩).1 (show 91 < 106 ∧ kd 91 = (8, 24) from ⟨by decide, rfl⟩).2 (by decide) rfl ⟨Nat.le_of_ble_eq_true rfl, Nat.le_of_ble_eq_true rfl⟩ rfl hl.1 rfl (Nat.le_of_ble_eq_true rfl) dX8_readsStatement_210 ⟨Nat.zero_le _, Nat.zero_le _⟩) (fun r9 σ9 H locs hw hP hS => ?_)
                      rw [show σ9 = σ_131 from hw.2] at hP
                      rw [show r9 = r_132 from hw.1]
                      refine lv_if_eq (tgt := 220) hx hb dX8_readsStatement_213 (by decide) (fun c_133 => ?_) (fun c_133 => ?_)
                      · replace h := it_t h c_133
                        refine lv_iconst (v := 0) hx hb dX8_readsStatement_220 (by decide) ?_
                        exact r_zret C0 X hP hS hr hlk dX8_readsStatement_221 (Or.inl rfl) (rt2 h)
                      · replace h := it_f h c_133
                        refine lv_iconst (v := 1) hx hb dX8_readsStatement_216 (by decide) ?_
                        refine lv_goto (tgt := 221) hx hb dX8_readsStatement_217 (by decide) ?_
                        exact r_zret C0 X hP hS hr hlk dX8_readsStatement_221 (Or.inr rfl) (rt2 h)
            · replace h := it_f h c_118
              refine lv_lookup (off := 303) (tgt := 314) hx hb dX8_readsStatement_11 (by decide) ((lv_osw (k := 100) (a := 100) c_2 (by decide)).trans ((lv_osw (k := 112) (a := 112) c_39 (by decide)).trans ((lv_osw (k := 114) (a := 114) c_55 (by decide)).trans ((lv_osw (k := 117) (a := 117) c_68 (by decide)).trans ((lv_osw (k := 118) (a := 118) c_105 (by decide)).trans ((lv_osw (k := 120) (a := 120) c_118 (by decide)).trans rfl)))))) (by decide) ?_
              refine lv_iconst (v := 0) hx hb dX8_readsStatement_314 (by decide) ?_
              exact r_zret C0 X hP hS hr hlk dX8_readsStatement_315 (Or.inl rfl) (rt2 h)
def bB_cX8_begins : Nat := 0xb1f0ffa70102846100b8031c1b2a1000a309101c3d06106100b8fe10081b2a
theorem yB_cX8_begins : BYS cX8_begins 31 bB_cX8_begins := BYS_of (by decide +kernel)
theorem dX8_begins_0 : decode cX8_begins 0 = .ok (.aload_n 0, 1) := D_42 yB_cX8_begins rfl rfl
theorem dX8_begins_1 : decode cX8_begins 1 = .ok (.iload_n 1, 1) := D_27 yB_cX8_begins rfl rfl
theorem dX8_begins_2 : decode cX8_begins 2 = .ok (.iconst 5, 1) := D_8 yB_cX8_begins rfl rfl
theorem dX8_begins_3 : decode cX8_begins 3 = .ok (.bipush (-2), 2) := D_16 yB_cX8_begins rfl rfl (sg_n (m := 128) (N := 2) rfl rfl rfl)
theorem dX8_begins_5 : decode cX8_begins 5 = .ok (.invokestatic 97, 3) := D_184 yB_cX8_begins rfl rfl rfl
theorem dX8_begins_8 : decode cX8_begins 8 = .ok (.bipush 6, 2) := D_16 yB_cX8_begins rfl rfl (sg_p (m := 128) (N := 6) rfl rfl rfl)
theorem dX8_begins_10 : decode cX8_begins 10 = .ok (.istore_n 2, 1) := D_61 yB_cX8_begins rfl rfl
theorem dX8_begins_11 : decode cX8_begins 11 = .ok (.iload_n 2, 1) := D_28 yB_cX8_begins rfl rfl
theorem dX8_begins_12 : decode cX8_begins 12 = .ok (.bipush 9, 2) := D_16 yB_cX8_begins rfl rfl (sg_p (m := 128) (N := 9) rfl rfl rfl)
theorem dX8_begins_14 : decode cX8_begins 14 = .ok (.if_icmp .gt 16, 3) := D_163 yB_cX8_begins rfl rfl (sg_p (m := 32768) (N := 16) rfl rfl rfl)
theorem dX8_begins_17 : decode cX8_begins 17 = .ok (.aload_n 0, 1) := D_42 yB_cX8_begins rfl rfl
theorem dX8_begins_18 : decode cX8_begins 18 = .ok (.iload_n 1, 1) := D_27 yB_cX8_begins rfl rfl
theorem dX8_begins_19 : decode cX8_begins 19 = .ok (.iload_n 2, 1) := D_28 yB_cX8_begins rfl rfl
theorem dX8_begins_20 : decode cX8_begins 20 = .ok (.iconst 0, 1) := D_3 yB_cX8_begins rfl rfl
theorem dX8_begins_21 : decode cX8_begins 21 = .ok (.invokestatic 97, 3) := D_184 yB_cX8_begins rfl rfl rfl
theorem dX8_begins_24 : decode cX8_begins 24 = .ok (.iinc 2 1, 3) := D_132 yB_cX8_begins rfl rfl rfl (sg_p (m := 128) (N := 1) rfl rfl rfl)
theorem dX8_begins_27 : decode cX8_begins 27 = .ok (.goto (-16), 3) := D_167 yB_cX8_begins rfl rfl (sg_n (m := 32768) (N := 16) rfl rfl rfl)
theorem dX8_begins_30 : decode cX8_begins 30 = .ok (.return_, 1) := D_177 yB_cX8_begins rfl rfl
def F_X8_begins_11 (a1 : Nat) (x2 : Int32)  : Nat → Mem → Int32 → Option (Mem)
  | 0, _, _ => none
  | nn + 1, σ, v2 => if 9 < v2 then (some σ) else ((F_X8_puts σ a1 x2 v2 0).bind fun σ_4 => F_X8_begins_11 a1 x2 nn σ_4 (v2 + 1))
def F_X8_begins (σ : Mem) (a1 : Nat) (x2 : Int32) : Option (Mem) := (F_X8_puts σ a1 x2 5 (-2)).bind fun σ_1 => F_X8_begins_11 a1 x2 FU σ_1 6
set_option maxHeartbeats 4000000 in
set_option maxRecDepth 100000 in
theorem c_X8_begins (l : Launch) (D : va_G) (cA : Nat → ClassId) (ad : Nat → Nat) (o : Int64) (σ : Mem) (a1 : Nat) (x2 : Int32) (ha1 : a1 < 106 ∧ kd a1 = (9, 121)) (res : Mem) (h : F_X8_begins σ a1 x2 = some res) (sz : Nat) : Met l yX8_begins (WY yX8_begins cX8_begins 3 none) (RM 1) (va_Pc [.ref (ad a1), .int x2] (PW D cA ad o σ sz)) (va_Qv (fun σ9 => σ9 = res) (QW D cA ad o) (FA ad sz)) 0 0 (FA ad sz) := by
  refine ct_of (own := RX8) (k := 1) (Qf := va_Qv (fun σ9 => σ9 = res) (QW D cA ad o)) rfl (by decide) (Nat.le_of_ble_eq_true rfl) (fun p e s m below meth c ls C0 X hr hlk hP hl => ?_) sz
  have hS : va_S (FA ad s.heap.size) s.heap s.heap [] := va_S.rf
  have hl : lv_has ls 3 [(0, .ref (ad a1)), (1, .int x2)] := hl
  obtain ⟨hx, hb, hml, hown, hts⟩ := id C0
  unfold F_X8_begins at h
  refine lv_aload_n hx hb dX8_begins_0 rfl (lv_at hl 0 rfl) ?_
  refine lv_iload_n hx hb dX8_begins_1 rfl (lv_at hl 1 rfl) ?_
  refine lv_iconst (v := 5) hx hb dX8_begins_2 (by decide) ?_
  refine lv_bipush (v := (-2)) hx hb dX8_begins_3 (by decide) ?_
  obtain ⟨σ_1, eσ_1, h⟩ := bnd h
  refine r_cv X hS (r_runS (As := [.ref (ad a1), .int x2, .int 5, .int (-2)]) (rest := []) C0 X hP L_X8_97 (fun sz => c_X8_puts l D cA ad o σ a1 x2 5 (-2) ha1 σ_1 eσ_1 sz) ⟨Nat.le_of_ble_eq_true rfl, Nat.le_of_ble_eq_true rfl⟩ rfl hl.1 rfl (Nat.le_of_ble_eq_true rfl) dX8_begins_5 ⟨Nat.zero_le _, Nat.zero_le _⟩) (fun σ9 H locs hw hP hS => ?_)
  rw [show σ9 = σ_1 from hw] at hP
  refine lv_bipush (v := 6) hx hb dX8_begins_8 (by decide) ?_
  refine lv_istore_n (lv' := [(2, .int 6), (0, .ref (ad a1)), (1, .int x2)]) hx hb dX8_begins_10 rfl hl (by decide) rfl (fun ls hl => ?_)
  have lp_2 : ∀ (nn11 : Nat) (σ : Mem) (v2 : Int32) (H : Heap) (locs : List Loc) (ls : Array Slot), F_X8_begins_11 a1 x2 nn11 σ v2 = some res → WP D cA ad o σ H → va_S (FA ad s.heap.size) s.heap H locs → lv_has ls 3 [(2, .int v2), (0, .ref (ad a1)), (1, .int x2)] → W p l e (RM 1) s m ([.ref (ad a1), .int x2] : List Value).toArray below meth c H locs 0 0 (MQ below (va_Qv (fun σ9 => σ9 = res) (QW D cA ad o) (FA ad s.heap.size)) ([.ref (ad a1), .int x2] : List Value).toArray s 0 0 (FA ad s.heap.size)) (F0 m 11 ls []) := by
    intro nn11
    induction nn11 with
    | zero => intro σ v2 H locs ls h hP hS hl; exact absurd (show none = some res from h) nofun
    | succ nn11 ih11 =>
      intro σ v2 H locs ls h hP hS hl
      replace h := (F_X8_begins_11.eq_2 _ _ _ _ _).symm.trans h
      refine lv_iload_n hx hb dX8_begins_11 rfl (lv_at hl 0 rfl) ?_
      refine lv_bipush (v := 9) hx hb dX8_begins_12 (by decide) ?_
      refine lv_icmp_gt (tgt := 30) hx hb dX8_begins_14 (by decide) (fun c_3 => ?_) (fun c_3 => ?_)
      · replace h := it_t h c_3
        exact r_vret C0 X hP hS hr hlk dX8_begins_30 (Option.some.inj h)
      · replace h := it_f h c_3
        refine lv_aload_n hx hb dX8_begins_17 rfl (lv_at hl 1 rfl) ?_
        refine lv_iload_n hx hb dX8_begins_18 rfl (lv_at hl 2 rfl) ?_
        refine lv_iload_n hx hb dX8_begins_19 rfl (lv_at hl 0 rfl) ?_
        refine lv_iconst (v := 0) hx hb dX8_begins_20 (by decide) ?_
        obtain ⟨σ_4, eσ_4, h⟩ := bnd h
        refine r_cv X hS (r_runS (As := [.ref (ad a1), .int x2, .int v2, .int 0]) (rest := []) C0 X hP L_X8_97 (fun sz => c_X8_puts l D cA ad o σ a1 x2 v2 0 ha1 σ_4 eσ_4 sz) ⟨Nat.le_of_ble_eq_true rfl, Nat.le_of_ble_eq_true rfl⟩ rfl hl.1 rfl (Nat.le_of_ble_eq_true rfl) dX8_begins_21 ⟨Nat.zero_le _, Nat.zero_le _⟩) (fun σ9 H locs hw hP hS => ?_)
        rw [show σ9 = σ_4 from hw] at hP
        refine lv_iinc (v := (v2 + 1)) (lv' := [(2, .int (v2 + 1)), (0, .ref (ad a1)), (1, .int x2)]) hx hb dX8_begins_24 hl (k := 0) rfl rfl (by decide) rfl (fun ls hl => ?_)
        refine lv_goto (tgt := 11) hx hb dX8_begins_27 (by decide) ?_
        exact ih11 σ_4 (v2 + 1) _ _ ls  h hP hS (lv_sub hl [0, 1, 2] rfl)
  exact lp_2 FU σ_1 6 _ _ ls  h hP hS (lv_sub hl [0, 1, 2] rfl)
def bB_cX8_comes : Nat := 0xac044f60042e5c041300b42a6500b805151300b42a6100b8030a1005151300b42a6100b82e062800b42a0705151300b42a6100b82e052800b42a0505151300b42a6100b804150605151300b42a6100b81d0405151300b42a6100b8020400a7040700a075101b0305151300b42a05362e041300b42aac030500a007102e041300b42a0e00a363102e062800b42a1900a30604151f00a3c700111d26009a1cac044f2e052800b42a600460681d0526101300b42a4f041560681d0526101300b42aac030500a4071004150a00a3051dac044f0415600560681d060e101300b42aac030500a40504150900a22e031300b42a1dac044f0415601d081300b42aac030500a40704150900993500b88564042e031300b42a0a851d1b009a1cac044f60042e5c031300b42a4f03600505151300b42a4f0415600405151300b42a4f1d05151300b42a053660682e031300b42a060e10ac030500a008102e031300b42a0e00a30504151400993500b85f00143b0014851d22009a1cd900000009010000b60000000901000009010000090100008c0000000901000031000000780000007000000009010000aa1b04362e042800b42a3e2e032800b42a3d030400a70407009e2e051300b42a
set_option maxRecDepth 100000 in
theorem yB_cX8_comes : BYS cX8_comes 454 bB_cX8_comes := BYS_of (by decide +kernel)
theorem dX8_comes_0 : decode cX8_comes 0 = .ok (.aload_n 0, 1) := D_42 yB_cX8_comes rfl rfl
theorem dX8_comes_1 : decode cX8_comes 1 = .ok (.getfield 19, 3) := D_180 yB_cX8_comes rfl rfl rfl
theorem dX8_comes_4 : decode cX8_comes 4 = .ok (.iconst 2, 1) := D_5 yB_cX8_comes rfl rfl
theorem dX8_comes_5 : decode cX8_comes 5 = .ok (.iaload, 1) := D_46 yB_cX8_comes rfl rfl
theorem dX8_comes_6 : decode cX8_comes 6 = .ok (.ifCond .le 7, 3) := D_158 yB_cX8_comes rfl rfl (sg_p (m := 32768) (N := 7) rfl rfl rfl)
theorem dX8_comes_9 : decode cX8_comes 9 = .ok (.iconst 1, 1) := D_4 yB_cX8_comes rfl rfl
theorem dX8_comes_10 : decode cX8_comes 10 = .ok (.goto 4, 3) := D_167 yB_cX8_comes rfl rfl (sg_p (m := 32768) (N := 4) rfl rfl rfl)
theorem dX8_comes_13 : decode cX8_comes 13 = .ok (.iconst 0, 1) := D_3 yB_cX8_comes rfl rfl
theorem dX8_comes_14 : decode cX8_comes 14 = .ok (.istore_n 2, 1) := D_61 yB_cX8_comes rfl rfl
theorem dX8_comes_15 : decode cX8_comes 15 = .ok (.aload_n 0, 1) := D_42 yB_cX8_comes rfl rfl
theorem dX8_comes_16 : decode cX8_comes 16 = .ok (.getfield 40, 3) := D_180 yB_cX8_comes rfl rfl rfl
theorem dX8_comes_19 : decode cX8_comes 19 = .ok (.iconst 0, 1) := D_3 yB_cX8_comes rfl rfl
theorem dX8_comes_20 : decode cX8_comes 20 = .ok (.iaload, 1) := D_46 yB_cX8_comes rfl rfl
theorem dX8_comes_21 : decode cX8_comes 21 = .ok (.istore_n 3, 1) := D_62 yB_cX8_comes rfl rfl
theorem dX8_comes_22 : decode cX8_comes 22 = .ok (.aload_n 0, 1) := D_42 yB_cX8_comes rfl rfl
theorem dX8_comes_23 : decode cX8_comes 23 = .ok (.getfield 40, 3) := D_180 yB_cX8_comes rfl rfl rfl
theorem dX8_comes_26 : decode cX8_comes 26 = .ok (.iconst 1, 1) := D_4 yB_cX8_comes rfl rfl
theorem dX8_comes_27 : decode cX8_comes 27 = .ok (.iaload, 1) := D_46 yB_cX8_comes rfl rfl
theorem dX8_comes_28 : decode cX8_comes 28 = .ok (.istore 4, 2) := D_54 yB_cX8_comes rfl rfl rfl
theorem dX8_comes_30 : decode cX8_comes 30 = .ok (.iload_n 1, 1) := D_27 yB_cX8_comes rfl rfl
theorem dX8_comes_31 : decode cX8_comes 31 = .ok (.tableswitch 265 112 120 #[49, 265, 140, 265, 265, 265, 182, 265, 217], 49) := by decide +kernel
theorem dX8_comes_80 : decode cX8_comes 80 = .ok (.iload_n 2, 1) := D_28 yB_cX8_comes rfl rfl
theorem dX8_comes_81 : decode cX8_comes 81 = .ok (.ifCond .ne 34, 3) := D_154 yB_cX8_comes rfl rfl (sg_p (m := 32768) (N := 34) rfl rfl rfl)
theorem dX8_comes_84 : decode cX8_comes 84 = .ok (.iload_n 3, 1) := D_29 yB_cX8_comes rfl rfl
theorem dX8_comes_85 : decode cX8_comes 85 = .ok (.i2l, 1) := D_133 yB_cX8_comes rfl rfl
theorem dX8_comes_86 : decode cX8_comes 86 = .ok (.ldc2_w 59, 3) := D_20 yB_cX8_comes rfl rfl rfl
theorem dX8_comes_89 : decode cX8_comes 89 = .ok (.ldc2_w 95, 3) := D_20 yB_cX8_comes rfl rfl rfl
theorem dX8_comes_92 : decode cX8_comes 92 = .ok (.invokestatic 53, 3) := D_184 yB_cX8_comes rfl rfl rfl
theorem dX8_comes_95 : decode cX8_comes 95 = .ok (.ifCond .eq 20, 3) := D_153 yB_cX8_comes rfl rfl (sg_p (m := 32768) (N := 20) rfl rfl rfl)
theorem dX8_comes_98 : decode cX8_comes 98 = .ok (.iload 4, 2) := D_21 yB_cX8_comes rfl rfl rfl
theorem dX8_comes_100 : decode cX8_comes 100 = .ok (.iconst 2, 1) := D_5 yB_cX8_comes rfl rfl
theorem dX8_comes_101 : decode cX8_comes 101 = .ok (.if_icmp .gt 14, 3) := D_163 yB_cX8_comes rfl rfl (sg_p (m := 32768) (N := 14) rfl rfl rfl)
theorem dX8_comes_104 : decode cX8_comes 104 = .ok (.aload_n 0, 1) := D_42 yB_cX8_comes rfl rfl
theorem dX8_comes_105 : decode cX8_comes 105 = .ok (.getfield 19, 3) := D_180 yB_cX8_comes rfl rfl rfl
theorem dX8_comes_108 : decode cX8_comes 108 = .ok (.iconst 0, 1) := D_3 yB_cX8_comes rfl rfl
theorem dX8_comes_109 : decode cX8_comes 109 = .ok (.iaload, 1) := D_46 yB_cX8_comes rfl rfl
theorem dX8_comes_110 : decode cX8_comes 110 = .ok (.bipush 8, 2) := D_16 yB_cX8_comes rfl rfl (sg_p (m := 128) (N := 8) rfl rfl rfl)
theorem dX8_comes_112 : decode cX8_comes 112 = .ok (.if_icmp .ne 5, 3) := D_160 yB_cX8_comes rfl rfl (sg_p (m := 32768) (N := 5) rfl rfl rfl)
theorem dX8_comes_115 : decode cX8_comes 115 = .ok (.iconst 0, 1) := D_3 yB_cX8_comes rfl rfl
theorem dX8_comes_116 : decode cX8_comes 116 = .ok (.ireturn, 1) := D_172 yB_cX8_comes rfl rfl
theorem dX8_comes_117 : decode cX8_comes 117 = .ok (.bipush 14, 2) := D_16 yB_cX8_comes rfl rfl (sg_p (m := 128) (N := 14) rfl rfl rfl)
theorem dX8_comes_119 : decode cX8_comes 119 = .ok (.iconst 3, 1) := D_6 yB_cX8_comes rfl rfl
theorem dX8_comes_120 : decode cX8_comes 120 = .ok (.aload_n 0, 1) := D_42 yB_cX8_comes rfl rfl
theorem dX8_comes_121 : decode cX8_comes 121 = .ok (.getfield 19, 3) := D_180 yB_cX8_comes rfl rfl rfl
theorem dX8_comes_124 : decode cX8_comes 124 = .ok (.iconst 0, 1) := D_3 yB_cX8_comes rfl rfl
theorem dX8_comes_125 : decode cX8_comes 125 = .ok (.iaload, 1) := D_46 yB_cX8_comes rfl rfl
theorem dX8_comes_126 : decode cX8_comes 126 = .ok (.imul, 1) := D_104 yB_cX8_comes rfl rfl
theorem dX8_comes_127 : decode cX8_comes 127 = .ok (.iadd, 1) := D_96 yB_cX8_comes rfl rfl
theorem dX8_comes_128 : decode cX8_comes 128 = .ok (.istore 5, 2) := D_54 yB_cX8_comes rfl rfl rfl
theorem dX8_comes_130 : decode cX8_comes 130 = .ok (.aload_n 0, 1) := D_42 yB_cX8_comes rfl rfl
theorem dX8_comes_131 : decode cX8_comes 131 = .ok (.getfield 19, 3) := D_180 yB_cX8_comes rfl rfl rfl
theorem dX8_comes_134 : decode cX8_comes 134 = .ok (.iload 5, 2) := D_21 yB_cX8_comes rfl rfl rfl
theorem dX8_comes_136 : decode cX8_comes 136 = .ok (.iload_n 3, 1) := D_29 yB_cX8_comes rfl rfl
theorem dX8_comes_137 : decode cX8_comes 137 = .ok (.iastore, 1) := D_79 yB_cX8_comes rfl rfl
theorem dX8_comes_138 : decode cX8_comes 138 = .ok (.aload_n 0, 1) := D_42 yB_cX8_comes rfl rfl
theorem dX8_comes_139 : decode cX8_comes 139 = .ok (.getfield 19, 3) := D_180 yB_cX8_comes rfl rfl rfl
theorem dX8_comes_142 : decode cX8_comes 142 = .ok (.iload 5, 2) := D_21 yB_cX8_comes rfl rfl rfl
theorem dX8_comes_144 : decode cX8_comes 144 = .ok (.iconst 1, 1) := D_4 yB_cX8_comes rfl rfl
theorem dX8_comes_145 : decode cX8_comes 145 = .ok (.iadd, 1) := D_96 yB_cX8_comes rfl rfl
theorem dX8_comes_146 : decode cX8_comes 146 = .ok (.iload 4, 2) := D_21 yB_cX8_comes rfl rfl rfl
theorem dX8_comes_148 : decode cX8_comes 148 = .ok (.iastore, 1) := D_79 yB_cX8_comes rfl rfl
theorem dX8_comes_149 : decode cX8_comes 149 = .ok (.aload_n 0, 1) := D_42 yB_cX8_comes rfl rfl
theorem dX8_comes_150 : decode cX8_comes 150 = .ok (.getfield 19, 3) := D_180 yB_cX8_comes rfl rfl rfl
theorem dX8_comes_153 : decode cX8_comes 153 = .ok (.iload 5, 2) := D_21 yB_cX8_comes rfl rfl rfl
theorem dX8_comes_155 : decode cX8_comes 155 = .ok (.iconst 2, 1) := D_5 yB_cX8_comes rfl rfl
theorem dX8_comes_156 : decode cX8_comes 156 = .ok (.iadd, 1) := D_96 yB_cX8_comes rfl rfl
theorem dX8_comes_157 : decode cX8_comes 157 = .ok (.iconst 0, 1) := D_3 yB_cX8_comes rfl rfl
theorem dX8_comes_158 : decode cX8_comes 158 = .ok (.iastore, 1) := D_79 yB_cX8_comes rfl rfl
theorem dX8_comes_159 : decode cX8_comes 159 = .ok (.aload_n 0, 1) := D_42 yB_cX8_comes rfl rfl
theorem dX8_comes_160 : decode cX8_comes 160 = .ok (.getfield 19, 3) := D_180 yB_cX8_comes rfl rfl rfl
theorem dX8_comes_163 : decode cX8_comes 163 = .ok (.iconst 0, 1) := D_3 yB_cX8_comes rfl rfl
theorem dX8_comes_164 : decode cX8_comes 164 = .ok (.dup2, 1) := D_92 yB_cX8_comes rfl rfl
theorem dX8_comes_165 : decode cX8_comes 165 = .ok (.iaload, 1) := D_46 yB_cX8_comes rfl rfl
theorem dX8_comes_166 : decode cX8_comes 166 = .ok (.iconst 1, 1) := D_4 yB_cX8_comes rfl rfl
theorem dX8_comes_167 : decode cX8_comes 167 = .ok (.iadd, 1) := D_96 yB_cX8_comes rfl rfl
theorem dX8_comes_168 : decode cX8_comes 168 = .ok (.iastore, 1) := D_79 yB_cX8_comes rfl rfl
theorem dX8_comes_169 : decode cX8_comes 169 = .ok (.iconst 1, 1) := D_4 yB_cX8_comes rfl rfl
theorem dX8_comes_170 : decode cX8_comes 170 = .ok (.ireturn, 1) := D_172 yB_cX8_comes rfl rfl
theorem dX8_comes_171 : decode cX8_comes 171 = .ok (.iload_n 2, 1) := D_28 yB_cX8_comes rfl rfl
theorem dX8_comes_172 : decode cX8_comes 172 = .ok (.ifCond .ne 27, 3) := D_154 yB_cX8_comes rfl rfl (sg_p (m := 32768) (N := 27) rfl rfl rfl)
theorem dX8_comes_175 : decode cX8_comes 175 = .ok (.iload_n 3, 1) := D_29 yB_cX8_comes rfl rfl
theorem dX8_comes_176 : decode cX8_comes 176 = .ok (.i2l, 1) := D_133 yB_cX8_comes rfl rfl
theorem dX8_comes_177 : decode cX8_comes 177 = .ok (.lconst 1, 1) := D_10 yB_cX8_comes rfl rfl
theorem dX8_comes_178 : decode cX8_comes 178 = .ok (.aload_n 0, 1) := D_42 yB_cX8_comes rfl rfl
theorem dX8_comes_179 : decode cX8_comes 179 = .ok (.getfield 19, 3) := D_180 yB_cX8_comes rfl rfl rfl
theorem dX8_comes_182 : decode cX8_comes 182 = .ok (.iconst 0, 1) := D_3 yB_cX8_comes rfl rfl
theorem dX8_comes_183 : decode cX8_comes 183 = .ok (.iaload, 1) := D_46 yB_cX8_comes rfl rfl
theorem dX8_comes_184 : decode cX8_comes 184 = .ok (.iconst 1, 1) := D_4 yB_cX8_comes rfl rfl
theorem dX8_comes_185 : decode cX8_comes 185 = .ok (.isub, 1) := D_100 yB_cX8_comes rfl rfl
theorem dX8_comes_186 : decode cX8_comes 186 = .ok (.i2l, 1) := D_133 yB_cX8_comes rfl rfl
theorem dX8_comes_187 : decode cX8_comes 187 = .ok (.invokestatic 53, 3) := D_184 yB_cX8_comes rfl rfl rfl
theorem dX8_comes_190 : decode cX8_comes 190 = .ok (.ifCond .eq 9, 3) := D_153 yB_cX8_comes rfl rfl (sg_p (m := 32768) (N := 9) rfl rfl rfl)
theorem dX8_comes_193 : decode cX8_comes 193 = .ok (.iload 4, 2) := D_21 yB_cX8_comes rfl rfl rfl
theorem dX8_comes_195 : decode cX8_comes 195 = .ok (.iconst 4, 1) := D_7 yB_cX8_comes rfl rfl
theorem dX8_comes_196 : decode cX8_comes 196 = .ok (.if_icmp .le 5, 3) := D_164 yB_cX8_comes rfl rfl (sg_p (m := 32768) (N := 5) rfl rfl rfl)
theorem dX8_comes_199 : decode cX8_comes 199 = .ok (.iconst 0, 1) := D_3 yB_cX8_comes rfl rfl
theorem dX8_comes_200 : decode cX8_comes 200 = .ok (.ireturn, 1) := D_172 yB_cX8_comes rfl rfl
theorem dX8_comes_201 : decode cX8_comes 201 = .ok (.aload_n 0, 1) := D_42 yB_cX8_comes rfl rfl
theorem dX8_comes_202 : decode cX8_comes 202 = .ok (.getfield 19, 3) := D_180 yB_cX8_comes rfl rfl rfl
theorem dX8_comes_205 : decode cX8_comes 205 = .ok (.iconst 5, 1) := D_8 yB_cX8_comes rfl rfl
theorem dX8_comes_206 : decode cX8_comes 206 = .ok (.iload_n 3, 1) := D_29 yB_cX8_comes rfl rfl
theorem dX8_comes_207 : decode cX8_comes 207 = .ok (.iadd, 1) := D_96 yB_cX8_comes rfl rfl
theorem dX8_comes_208 : decode cX8_comes 208 = .ok (.iload 4, 2) := D_21 yB_cX8_comes rfl rfl rfl
theorem dX8_comes_210 : decode cX8_comes 210 = .ok (.iastore, 1) := D_79 yB_cX8_comes rfl rfl
theorem dX8_comes_211 : decode cX8_comes 211 = .ok (.iconst 1, 1) := D_4 yB_cX8_comes rfl rfl
theorem dX8_comes_212 : decode cX8_comes 212 = .ok (.ireturn, 1) := D_172 yB_cX8_comes rfl rfl
theorem dX8_comes_213 : decode cX8_comes 213 = .ok (.iload_n 3, 1) := D_29 yB_cX8_comes rfl rfl
theorem dX8_comes_214 : decode cX8_comes 214 = .ok (.aload_n 0, 1) := D_42 yB_cX8_comes rfl rfl
theorem dX8_comes_215 : decode cX8_comes 215 = .ok (.getfield 19, 3) := D_180 yB_cX8_comes rfl rfl rfl
theorem dX8_comes_218 : decode cX8_comes 218 = .ok (.iconst 0, 1) := D_3 yB_cX8_comes rfl rfl
theorem dX8_comes_219 : decode cX8_comes 219 = .ok (.iaload, 1) := D_46 yB_cX8_comes rfl rfl
theorem dX8_comes_220 : decode cX8_comes 220 = .ok (.if_icmp .ge 9, 3) := D_162 yB_cX8_comes rfl rfl (sg_p (m := 32768) (N := 9) rfl rfl rfl)
theorem dX8_comes_223 : decode cX8_comes 223 = .ok (.iload 4, 2) := D_21 yB_cX8_comes rfl rfl rfl
theorem dX8_comes_225 : decode cX8_comes 225 = .ok (.iconst 2, 1) := D_5 yB_cX8_comes rfl rfl
theorem dX8_comes_226 : decode cX8_comes 226 = .ok (.if_icmp .le 5, 3) := D_164 yB_cX8_comes rfl rfl (sg_p (m := 32768) (N := 5) rfl rfl rfl)
theorem dX8_comes_229 : decode cX8_comes 229 = .ok (.iconst 0, 1) := D_3 yB_cX8_comes rfl rfl
theorem dX8_comes_230 : decode cX8_comes 230 = .ok (.ireturn, 1) := D_172 yB_cX8_comes rfl rfl
theorem dX8_comes_231 : decode cX8_comes 231 = .ok (.aload_n 0, 1) := D_42 yB_cX8_comes rfl rfl
theorem dX8_comes_232 : decode cX8_comes 232 = .ok (.getfield 19, 3) := D_180 yB_cX8_comes rfl rfl rfl
theorem dX8_comes_235 : decode cX8_comes 235 = .ok (.bipush 14, 2) := D_16 yB_cX8_comes rfl rfl (sg_p (m := 128) (N := 14) rfl rfl rfl)
theorem dX8_comes_237 : decode cX8_comes 237 = .ok (.iconst 3, 1) := D_6 yB_cX8_comes rfl rfl
theorem dX8_comes_238 : decode cX8_comes 238 = .ok (.iload_n 3, 1) := D_29 yB_cX8_comes rfl rfl
theorem dX8_comes_239 : decode cX8_comes 239 = .ok (.imul, 1) := D_104 yB_cX8_comes rfl rfl
theorem dX8_comes_240 : decode cX8_comes 240 = .ok (.iadd, 1) := D_96 yB_cX8_comes rfl rfl
theorem dX8_comes_241 : decode cX8_comes 241 = .ok (.iconst 2, 1) := D_5 yB_cX8_comes rfl rfl
theorem dX8_comes_242 : decode cX8_comes 242 = .ok (.iadd, 1) := D_96 yB_cX8_comes rfl rfl
theorem dX8_comes_243 : decode cX8_comes 243 = .ok (.iload 4, 2) := D_21 yB_cX8_comes rfl rfl rfl
theorem dX8_comes_245 : decode cX8_comes 245 = .ok (.iastore, 1) := D_79 yB_cX8_comes rfl rfl
theorem dX8_comes_246 : decode cX8_comes 246 = .ok (.iconst 1, 1) := D_4 yB_cX8_comes rfl rfl
theorem dX8_comes_247 : decode cX8_comes 247 = .ok (.ireturn, 1) := D_172 yB_cX8_comes rfl rfl
theorem dX8_comes_248 : decode cX8_comes 248 = .ok (.iload_n 3, 1) := D_29 yB_cX8_comes rfl rfl
theorem dX8_comes_249 : decode cX8_comes 249 = .ok (.iconst 2, 1) := D_5 yB_cX8_comes rfl rfl
theorem dX8_comes_250 : decode cX8_comes 250 = .ok (.if_icmp .gt 10, 3) := D_163 yB_cX8_comes rfl rfl (sg_p (m := 32768) (N := 10) rfl rfl rfl)
theorem dX8_comes_253 : decode cX8_comes 253 = .ok (.iload 4, 2) := D_21 yB_cX8_comes rfl rfl rfl
theorem dX8_comes_255 : decode cX8_comes 255 = .ok (.bipush 7, 2) := D_16 yB_cX8_comes rfl rfl (sg_p (m := 128) (N := 7) rfl rfl rfl)
theorem dX8_comes_257 : decode cX8_comes 257 = .ok (.if_icmp .le 5, 3) := D_164 yB_cX8_comes rfl rfl (sg_p (m := 32768) (N := 5) rfl rfl rfl)
theorem dX8_comes_260 : decode cX8_comes 260 = .ok (.iconst 0, 1) := D_3 yB_cX8_comes rfl rfl
theorem dX8_comes_261 : decode cX8_comes 261 = .ok (.ireturn, 1) := D_172 yB_cX8_comes rfl rfl
theorem dX8_comes_262 : decode cX8_comes 262 = .ok (.aload_n 0, 1) := D_42 yB_cX8_comes rfl rfl
theorem dX8_comes_263 : decode cX8_comes 263 = .ok (.getfield 19, 3) := D_180 yB_cX8_comes rfl rfl rfl
theorem dX8_comes_266 : decode cX8_comes 266 = .ok (.bipush 38, 2) := D_16 yB_cX8_comes rfl rfl (sg_p (m := 128) (N := 38) rfl rfl rfl)
theorem dX8_comes_268 : decode cX8_comes 268 = .ok (.iconst 2, 1) := D_5 yB_cX8_comes rfl rfl
theorem dX8_comes_269 : decode cX8_comes 269 = .ok (.iload_n 3, 1) := D_29 yB_cX8_comes rfl rfl
theorem dX8_comes_270 : decode cX8_comes 270 = .ok (.imul, 1) := D_104 yB_cX8_comes rfl rfl
theorem dX8_comes_271 : decode cX8_comes 271 = .ok (.iadd, 1) := D_96 yB_cX8_comes rfl rfl
theorem dX8_comes_272 : decode cX8_comes 272 = .ok (.iload 4, 2) := D_21 yB_cX8_comes rfl rfl rfl
theorem dX8_comes_274 : decode cX8_comes 274 = .ok (.iastore, 1) := D_79 yB_cX8_comes rfl rfl
theorem dX8_comes_275 : decode cX8_comes 275 = .ok (.aload_n 0, 1) := D_42 yB_cX8_comes rfl rfl
theorem dX8_comes_276 : decode cX8_comes 276 = .ok (.getfield 19, 3) := D_180 yB_cX8_comes rfl rfl rfl
theorem dX8_comes_279 : decode cX8_comes 279 = .ok (.bipush 38, 2) := D_16 yB_cX8_comes rfl rfl (sg_p (m := 128) (N := 38) rfl rfl rfl)
theorem dX8_comes_281 : decode cX8_comes 281 = .ok (.iconst 2, 1) := D_5 yB_cX8_comes rfl rfl
theorem dX8_comes_282 : decode cX8_comes 282 = .ok (.iload_n 3, 1) := D_29 yB_cX8_comes rfl rfl
theorem dX8_comes_283 : decode cX8_comes 283 = .ok (.imul, 1) := D_104 yB_cX8_comes rfl rfl
theorem dX8_comes_284 : decode cX8_comes 284 = .ok (.iadd, 1) := D_96 yB_cX8_comes rfl rfl
theorem dX8_comes_285 : decode cX8_comes 285 = .ok (.iconst 1, 1) := D_4 yB_cX8_comes rfl rfl
theorem dX8_comes_286 : decode cX8_comes 286 = .ok (.iadd, 1) := D_96 yB_cX8_comes rfl rfl
theorem dX8_comes_287 : decode cX8_comes 287 = .ok (.aload_n 0, 1) := D_42 yB_cX8_comes rfl rfl
theorem dX8_comes_288 : decode cX8_comes 288 = .ok (.getfield 40, 3) := D_180 yB_cX8_comes rfl rfl rfl
theorem dX8_comes_291 : decode cX8_comes 291 = .ok (.iconst 2, 1) := D_5 yB_cX8_comes rfl rfl
theorem dX8_comes_292 : decode cX8_comes 292 = .ok (.iaload, 1) := D_46 yB_cX8_comes rfl rfl
theorem dX8_comes_293 : decode cX8_comes 293 = .ok (.iastore, 1) := D_79 yB_cX8_comes rfl rfl
theorem dX8_comes_294 : decode cX8_comes 294 = .ok (.iconst 1, 1) := D_4 yB_cX8_comes rfl rfl
theorem dX8_comes_295 : decode cX8_comes 295 = .ok (.ireturn, 1) := D_172 yB_cX8_comes rfl rfl
theorem dX8_comes_296 : decode cX8_comes 296 = .ok (.iload_n 2, 1) := D_28 yB_cX8_comes rfl rfl
theorem dX8_comes_297 : decode cX8_comes 297 = .ok (.ifCond .ne 38, 3) := D_154 yB_cX8_comes rfl rfl (sg_p (m := 32768) (N := 38) rfl rfl rfl)
theorem dX8_comes_300 : decode cX8_comes 300 = .ok (.iload_n 3, 1) := D_29 yB_cX8_comes rfl rfl
theorem dX8_comes_301 : decode cX8_comes 301 = .ok (.sipush 199, 3) := D_17 yB_cX8_comes rfl rfl (sg_p (m := 32768) (N := 199) rfl rfl rfl)
theorem dX8_comes_304 : decode cX8_comes 304 = .ok (.if_icmp .gt 31, 3) := D_163 yB_cX8_comes rfl rfl (sg_p (m := 32768) (N := 31) rfl rfl rfl)
theorem dX8_comes_307 : decode cX8_comes 307 = .ok (.iload 4, 2) := D_21 yB_cX8_comes rfl rfl rfl
theorem dX8_comes_309 : decode cX8_comes 309 = .ok (.iconst 3, 1) := D_6 yB_cX8_comes rfl rfl
theorem dX8_comes_310 : decode cX8_comes 310 = .ok (.if_icmp .gt 25, 3) := D_163 yB_cX8_comes rfl rfl (sg_p (m := 32768) (N := 25) rfl rfl rfl)
theorem dX8_comes_313 : decode cX8_comes 313 = .ok (.aload_n 0, 1) := D_42 yB_cX8_comes rfl rfl
theorem dX8_comes_314 : decode cX8_comes 314 = .ok (.getfield 40, 3) := D_180 yB_cX8_comes rfl rfl rfl
theorem dX8_comes_317 : decode cX8_comes 317 = .ok (.iconst 3, 1) := D_6 yB_cX8_comes rfl rfl
theorem dX8_comes_318 : decode cX8_comes 318 = .ok (.iaload, 1) := D_46 yB_cX8_comes rfl rfl
theorem dX8_comes_319 : decode cX8_comes 319 = .ok (.bipush 99, 2) := D_16 yB_cX8_comes rfl rfl (sg_p (m := 128) (N := 99) rfl rfl rfl)
theorem dX8_comes_321 : decode cX8_comes 321 = .ok (.if_icmp .gt 14, 3) := D_163 yB_cX8_comes rfl rfl (sg_p (m := 32768) (N := 14) rfl rfl rfl)
theorem dX8_comes_324 : decode cX8_comes 324 = .ok (.aload_n 0, 1) := D_42 yB_cX8_comes rfl rfl
theorem dX8_comes_325 : decode cX8_comes 325 = .ok (.getfield 19, 3) := D_180 yB_cX8_comes rfl rfl rfl
theorem dX8_comes_328 : decode cX8_comes 328 = .ok (.iconst 1, 1) := D_4 yB_cX8_comes rfl rfl
theorem dX8_comes_329 : decode cX8_comes 329 = .ok (.iaload, 1) := D_46 yB_cX8_comes rfl rfl
theorem dX8_comes_330 : decode cX8_comes 330 = .ok (.bipush 7, 2) := D_16 yB_cX8_comes rfl rfl (sg_p (m := 128) (N := 7) rfl rfl rfl)
theorem dX8_comes_332 : decode cX8_comes 332 = .ok (.if_icmp .ne 5, 3) := D_160 yB_cX8_comes rfl rfl (sg_p (m := 32768) (N := 5) rfl rfl rfl)
theorem dX8_comes_335 : decode cX8_comes 335 = .ok (.iconst 0, 1) := D_3 yB_cX8_comes rfl rfl
theorem dX8_comes_336 : decode cX8_comes 336 = .ok (.ireturn, 1) := D_172 yB_cX8_comes rfl rfl
theorem dX8_comes_337 : decode cX8_comes 337 = .ok (.aload_n 0, 1) := D_42 yB_cX8_comes rfl rfl
theorem dX8_comes_338 : decode cX8_comes 338 = .ok (.getfield 19, 3) := D_180 yB_cX8_comes rfl rfl rfl
theorem dX8_comes_341 : decode cX8_comes 341 = .ok (.iconst 1, 1) := D_4 yB_cX8_comes rfl rfl
theorem dX8_comes_342 : decode cX8_comes 342 = .ok (.iaload, 1) := D_46 yB_cX8_comes rfl rfl
theorem dX8_comes_343 : decode cX8_comes 343 = .ok (.istore 5, 2) := D_54 yB_cX8_comes rfl rfl rfl
theorem dX8_comes_345 : decode cX8_comes 345 = .ok (.aload_n 0, 1) := D_42 yB_cX8_comes rfl rfl
theorem dX8_comes_346 : decode cX8_comes 346 = .ok (.getfield 19, 3) := D_180 yB_cX8_comes rfl rfl rfl
theorem dX8_comes_349 : decode cX8_comes 349 = .ok (.iload 5, 2) := D_21 yB_cX8_comes rfl rfl rfl
theorem dX8_comes_351 : decode cX8_comes 351 = .ok (.iconst 0, 1) := D_3 yB_cX8_comes rfl rfl
theorem dX8_comes_352 : decode cX8_comes 352 = .ok (.iload_n 1, 1) := D_27 yB_cX8_comes rfl rfl
theorem dX8_comes_353 : decode cX8_comes 353 = .ok (.bipush 117, 2) := D_16 yB_cX8_comes rfl rfl (sg_p (m := 128) (N := 117) rfl rfl rfl)
theorem dX8_comes_355 : decode cX8_comes 355 = .ok (.if_icmp .ne 7, 3) := D_160 yB_cX8_comes rfl rfl (sg_p (m := 32768) (N := 7) rfl rfl rfl)
theorem dX8_comes_358 : decode cX8_comes 358 = .ok (.iconst 1, 1) := D_4 yB_cX8_comes rfl rfl
theorem dX8_comes_359 : decode cX8_comes 359 = .ok (.goto 4, 3) := D_167 yB_cX8_comes rfl rfl (sg_p (m := 32768) (N := 4) rfl rfl rfl)
theorem dX8_comes_362 : decode cX8_comes 362 = .ok (.iconst (-1), 1) := D_2 yB_cX8_comes rfl rfl
theorem dX8_comes_363 : decode cX8_comes 363 = .ok (.invokestatic 97, 3) := D_184 yB_cX8_comes rfl rfl rfl
theorem dX8_comes_366 : decode cX8_comes 366 = .ok (.aload_n 0, 1) := D_42 yB_cX8_comes rfl rfl
theorem dX8_comes_367 : decode cX8_comes 367 = .ok (.getfield 19, 3) := D_180 yB_cX8_comes rfl rfl rfl
theorem dX8_comes_370 : decode cX8_comes 370 = .ok (.iload 5, 2) := D_21 yB_cX8_comes rfl rfl rfl
theorem dX8_comes_372 : decode cX8_comes 372 = .ok (.iconst 1, 1) := D_4 yB_cX8_comes rfl rfl
theorem dX8_comes_373 : decode cX8_comes 373 = .ok (.iload_n 3, 1) := D_29 yB_cX8_comes rfl rfl
theorem dX8_comes_374 : decode cX8_comes 374 = .ok (.invokestatic 97, 3) := D_184 yB_cX8_comes rfl rfl rfl
theorem dX8_comes_377 : decode cX8_comes 377 = .ok (.aload_n 0, 1) := D_42 yB_cX8_comes rfl rfl
theorem dX8_comes_378 : decode cX8_comes 378 = .ok (.getfield 19, 3) := D_180 yB_cX8_comes rfl rfl rfl
theorem dX8_comes_381 : decode cX8_comes 381 = .ok (.iload 5, 2) := D_21 yB_cX8_comes rfl rfl rfl
theorem dX8_comes_383 : decode cX8_comes 383 = .ok (.iconst 3, 1) := D_6 yB_cX8_comes rfl rfl
theorem dX8_comes_384 : decode cX8_comes 384 = .ok (.iload 4, 2) := D_21 yB_cX8_comes rfl rfl rfl
theorem dX8_comes_386 : decode cX8_comes 386 = .ok (.invokestatic 97, 3) := D_184 yB_cX8_comes rfl rfl rfl
theorem dX8_comes_389 : decode cX8_comes 389 = .ok (.aload_n 0, 1) := D_42 yB_cX8_comes rfl rfl
theorem dX8_comes_390 : decode cX8_comes 390 = .ok (.getfield 19, 3) := D_180 yB_cX8_comes rfl rfl rfl
theorem dX8_comes_393 : decode cX8_comes 393 = .ok (.iload 5, 2) := D_21 yB_cX8_comes rfl rfl rfl
theorem dX8_comes_395 : decode cX8_comes 395 = .ok (.iconst 2, 1) := D_5 yB_cX8_comes rfl rfl
theorem dX8_comes_396 : decode cX8_comes 396 = .ok (.aload_n 0, 1) := D_42 yB_cX8_comes rfl rfl
theorem dX8_comes_397 : decode cX8_comes 397 = .ok (.getfield 40, 3) := D_180 yB_cX8_comes rfl rfl rfl
theorem dX8_comes_400 : decode cX8_comes 400 = .ok (.iconst 2, 1) := D_5 yB_cX8_comes rfl rfl
theorem dX8_comes_401 : decode cX8_comes 401 = .ok (.iaload, 1) := D_46 yB_cX8_comes rfl rfl
theorem dX8_comes_402 : decode cX8_comes 402 = .ok (.invokestatic 97, 3) := D_184 yB_cX8_comes rfl rfl rfl
theorem dX8_comes_405 : decode cX8_comes 405 = .ok (.aload_n 0, 1) := D_42 yB_cX8_comes rfl rfl
theorem dX8_comes_406 : decode cX8_comes 406 = .ok (.getfield 19, 3) := D_180 yB_cX8_comes rfl rfl rfl
theorem dX8_comes_409 : decode cX8_comes 409 = .ok (.iload 5, 2) := D_21 yB_cX8_comes rfl rfl rfl
theorem dX8_comes_411 : decode cX8_comes 411 = .ok (.iconst 4, 1) := D_7 yB_cX8_comes rfl rfl
theorem dX8_comes_412 : decode cX8_comes 412 = .ok (.aload_n 0, 1) := D_42 yB_cX8_comes rfl rfl
theorem dX8_comes_413 : decode cX8_comes 413 = .ok (.getfield 40, 3) := D_180 yB_cX8_comes rfl rfl rfl
theorem dX8_comes_416 : decode cX8_comes 416 = .ok (.iconst 3, 1) := D_6 yB_cX8_comes rfl rfl
theorem dX8_comes_417 : decode cX8_comes 417 = .ok (.iaload, 1) := D_46 yB_cX8_comes rfl rfl
theorem dX8_comes_418 : decode cX8_comes 418 = .ok (.invokestatic 97, 3) := D_184 yB_cX8_comes rfl rfl rfl
theorem dX8_comes_421 : decode cX8_comes 421 = .ok (.aload_n 0, 1) := D_42 yB_cX8_comes rfl rfl
theorem dX8_comes_422 : decode cX8_comes 422 = .ok (.getfield 19, 3) := D_180 yB_cX8_comes rfl rfl rfl
theorem dX8_comes_425 : decode cX8_comes 425 = .ok (.iload 5, 2) := D_21 yB_cX8_comes rfl rfl rfl
theorem dX8_comes_427 : decode cX8_comes 427 = .ok (.bipush 10, 2) := D_16 yB_cX8_comes rfl rfl (sg_p (m := 128) (N := 10) rfl rfl rfl)
theorem dX8_comes_429 : decode cX8_comes 429 = .ok (.iconst 0, 1) := D_3 yB_cX8_comes rfl rfl
theorem dX8_comes_430 : decode cX8_comes 430 = .ok (.invokestatic 97, 3) := D_184 yB_cX8_comes rfl rfl rfl
theorem dX8_comes_433 : decode cX8_comes 433 = .ok (.aload_n 0, 1) := D_42 yB_cX8_comes rfl rfl
theorem dX8_comes_434 : decode cX8_comes 434 = .ok (.getfield 19, 3) := D_180 yB_cX8_comes rfl rfl rfl
theorem dX8_comes_437 : decode cX8_comes 437 = .ok (.iload 5, 2) := D_21 yB_cX8_comes rfl rfl rfl
theorem dX8_comes_439 : decode cX8_comes 439 = .ok (.invokestatic 101, 3) := D_184 yB_cX8_comes rfl rfl rfl
theorem dX8_comes_442 : decode cX8_comes 442 = .ok (.aload_n 0, 1) := D_42 yB_cX8_comes rfl rfl
theorem dX8_comes_443 : decode cX8_comes 443 = .ok (.getfield 19, 3) := D_180 yB_cX8_comes rfl rfl rfl
theorem dX8_comes_446 : decode cX8_comes 446 = .ok (.iconst 1, 1) := D_4 yB_cX8_comes rfl rfl
theorem dX8_comes_447 : decode cX8_comes 447 = .ok (.dup2, 1) := D_92 yB_cX8_comes rfl rfl
theorem dX8_comes_448 : decode cX8_comes 448 = .ok (.iaload, 1) := D_46 yB_cX8_comes rfl rfl
theorem dX8_comes_449 : decode cX8_comes 449 = .ok (.iconst 1, 1) := D_4 yB_cX8_comes rfl rfl
theorem dX8_comes_450 : decode cX8_comes 450 = .ok (.iadd, 1) := D_96 yB_cX8_comes rfl rfl
theorem dX8_comes_451 : decode cX8_comes 451 = .ok (.iastore, 1) := D_79 yB_cX8_comes rfl rfl
theorem dX8_comes_452 : decode cX8_comes 452 = .ok (.iconst 1, 1) := D_4 yB_cX8_comes rfl rfl
theorem dX8_comes_453 : decode cX8_comes 453 = .ok (.ireturn, 1) := D_172 yB_cX8_comes rfl rfl
def F_X8_comes (σ : Mem) (x1 : Int32) : Option (Mem × Int32) := if (σ 95 2) ≤ 0 then (if x1 = 112 then (if (σ 102 0) < 2 ∨ 9 < (σ 102 0) then (some (σ, 0)) else (if 2 < (σ 102 1) then (some (σ, 0)) else (if (σ 95 0) = 8 then (some (σ, 0)) else ((ix 121 (14 + (3 * (σ 95 0)))).bind fun k_29 => (ix 121 ((14 + (3 * (σ 95 0))) + 1)).bind fun k_30 => (ix 121 ((14 + (3 * (σ 95 0))) + 2)).bind fun k_31 => some ((stm (stm (stm (stm σ 95 k_29 (σ 102 0)) 95 k_30 (σ 102 1)) 95 k_31 0) 95 0 (((stm (stm (stm σ 95 k_29 (σ 102 0)) 95 k_30 (σ 102 1)) 95 k_31 0) 95 0) + 1)), 1))))) else (if x1 = 114 then (if (σ 102 0) < 1 ∨ ((σ 95 0) - 1) < (σ 102 0) then (some (σ, 0)) else (if (σ 102 1) ≤ 4 then ((ix 121 (5 + (σ 102 0))).bind fun k_59 => some ((stm σ 95 k_59 (σ 102 1)), 1)) else (some (σ, 0)))) else (if x1 = 118 then (if (σ 95 0) ≤ (σ 102 0) then (some (σ, 0)) else (if (σ 102 1) ≤ 2 then ((ix 121 ((14 + (3 * (σ 102 0))) + 2)).bind fun k_127 => some ((stm σ 95 k_127 (σ 102 1)), 1)) else (some (σ, 0)))) else (if x1 = 120 then (if 2 < (σ 102 0) then (some (σ, 0)) else (if (σ 102 1) ≤ 7 then ((ix 121 (38 + (2 * (σ 102 0)))).bind fun k_152 => (ix 121 ((38 + (2 * (σ 102 0))) + 1)).bind fun k_153 => some ((stm (stm σ 95 k_152 (σ 102 1)) 95 k_153 ((stm σ 95 k_152 (σ 102 1)) 102 2)), 1)) else (some (σ, 0)))) else (if 199 < (σ 102 0) then (some (σ, 0)) else (if 3 < (σ 102 1) then (some (σ, 0)) else (if 99 < (σ 102 3) then (some (σ, 0)) else (if (σ 95 1) = 7 then (some (σ, 0)) else (if x1 = 117 then ((F_X8_puts σ 95 (σ 95 1) 0 1).bind fun σ_16 => (F_X8_puts σ_16 95 (σ 95 1) 1 (σ 102 0)).bind fun σ_17 => (F_X8_puts σ_17 95 (σ 95 1) 3 (σ 102 1)).bind fun σ_18 => (F_X8_puts σ_18 95 (σ 95 1) 2 (σ_18 102 2)).bind fun σ_19 => (F_X8_puts σ_19 95 (σ 95 1) 4 (σ_19 102 3)).bind fun σ_20 => (F_X8_puts σ_20 95 (σ 95 1) 10 0).bind fun σ_21 => (F_X8_begins σ_21 95 (σ 95 1)).bind fun σ_22 => some ((stm σ_22 95 1 ((σ_22 95 1) + 1)), 1)) else ((F_X8_puts σ 95 (σ 95 1) 0 (-1)).bind fun σ_9 => (F_X8_puts σ_9 95 (σ 95 1) 1 (σ 102 0)).bind fun σ_10 => (F_X8_puts σ_10 95 (σ 95 1) 3 (σ 102 1)).bind fun σ_11 => (F_X8_puts σ_11 95 (σ 95 1) 2 (σ_11 102 2)).bind fun σ_12 => (F_X8_puts σ_12 95 (σ 95 1) 4 (σ_12 102 3)).bind fun σ_13 => (F_X8_puts σ_13 95 (σ 95 1) 10 0).bind fun σ_14 => (F_X8_begins σ_14 95 (σ 95 1)).bind fun σ_15 => some ((stm σ_15 95 1 ((σ_15 95 1) + 1)), 1))))))))))) else (if x1 = 112 then (some (σ, 0)) else (if x1 = 114 then (some (σ, 0)) else (if x1 = 118 then (if (σ 95 0) ≤ (σ 102 0) then (some (σ, 0)) else (if (σ 102 1) ≤ 2 then ((ix 121 ((14 + (3 * (σ 102 0))) + 2)).bind fun k_171 => some ((stm σ 95 k_171 (σ 102 1)), 1)) else (some (σ, 0)))) else (if x1 = 120 then (if 2 < (σ 102 0) then (some (σ, 0)) else (if (σ 102 1) ≤ 7 then ((ix 121 (38 + (2 * (σ 102 0)))).bind fun k_177 => (ix 121 ((38 + (2 * (σ 102 0))) + 1)).bind fun k_178 => some ((stm (stm σ 95 k_177 (σ 102 1)) 95 k_178 ((stm σ 95 k_177 (σ 102 1)) 102 2)), 1)) else (some (σ, 0)))) else (some (σ, 0))))))
set_option maxHeartbeats 4000000 in
set_option maxRecDepth 100000 in
theorem c_X8_comes (l : Launch) (D : va_G) (cA : Nat → ClassId) (ad : Nat → Nat) (o : Int64) (σ : Mem) (x1 : Int32)  (res : Mem × Int32) (h : F_X8_comes σ x1 = some res) (sz : Nat) : Met l yX8_comes (WY yX8_comes cX8_comes 6 (some .boolean)) (RM 2) (va_Pc [.ref (ad 91), .int x1] (PW D cA ad o σ sz)) (va_Qi (fun r σ9 => r = res.2 ∧ σ9 = res.1) (QW D cA ad o) (FA ad sz)) 0 0 (FA ad sz) := by
  refine ct_of (own := RX8) (k := 2) (Qf := va_Qi (fun r σ9 => r = res.2 ∧ σ9 = res.1) (QW D cA ad o)) rfl (by decide) (Nat.le_of_ble_eq_true rfl) (fun p e s m below meth c ls C0 X hr hlk hP hl => ?_) sz
  have hS : va_S (FA ad s.heap.size) s.heap s.heap [] := va_S.rf
  have hl : lv_has ls 6 [(0, .ref (ad 91)), (1, .int x1)] := hl
  obtain ⟨hx, hb, hml, hown, hts⟩ := id C0
  unfold F_X8_comes at h
  refine lv_aload_n hx hb dX8_comes_0 rfl (lv_at hl 0 rfl) ?_
  refine gf_X8_19 C0 X hP 91 (q := 95) ⟨by decide, rfl⟩ (by omega) rfl dX8_comes_1 ?_
  refine lv_iconst (v := 2) hx hb dX8_comes_4 (by decide) ?_
  refine r_ialdN C0 X hP 95 (k := 2) ⟨by decide, rfl⟩ rfl (by decide) dX8_comes_5 ?_
  refine lv_if_le (tgt := 13) hx hb dX8_comes_6 (by decide) (fun c_1 => ?_) (fun c_1 => ?_)
  · replace h := it_t h c_1
    refine lv_iconst (v := 0) hx hb dX8_comes_13 (by decide) ?_
    refine lv_istore_n (lv' := [(2, .int 0), (0, .ref (ad 91)), (1, .int x1)]) hx hb dX8_comes_14 rfl hl (by decide) rfl (fun ls hl => ?_)
    refine lv_aload_n hx hb dX8_comes_15 rfl (lv_at hl 1 rfl) ?_
    refine gf_X8_40 C0 X hP 91 (q := 102) ⟨by decide, rfl⟩ (by omega) rfl dX8_comes_16 ?_
    refine lv_iconst (v := 0) hx hb dX8_comes_19 (by decide) ?_
    refine r_ialdN C0 X hP 102 (k := 0) ⟨by decide, rfl⟩ rfl (by decide) dX8_comes_20 ?_
    refine lv_istore_n (lv' := [(3, .int (σ 102 0)), (2, .int 0), (0, .ref (ad 91)), (1, .int x1)]) hx hb dX8_comes_21 rfl hl (by decide) rfl (fun ls hl => ?_)
    refine lv_aload_n hx hb dX8_comes_22 rfl (lv_at hl 2 rfl) ?_
    refine gf_X8_40 C0 X hP 91 (q := 102) ⟨by decide, rfl⟩ (by omega) rfl dX8_comes_23 ?_
    refine lv_iconst (v := 1) hx hb dX8_comes_26 (by decide) ?_
    refine r_ialdN C0 X hP 102 (k := 1) ⟨by decide, rfl⟩ rfl (by decide) dX8_comes_27 ?_
    refine lv_istore (lv' := [(4, .int (σ 102 1)), (3, .int (σ 102 0)), (2, .int 0), (0, .ref (ad 91)), (1, .int x1)]) hx hb dX8_comes_28 hl (by decide) rfl (fun ls hl => ?_)
    refine lv_iload_n hx hb dX8_comes_30 rfl (lv_at hl 4 rfl) ?_
    rcases sw_in (x := x1) (lo := 112) (n := 9) with c_2 | ⟨j, hj, c_2⟩
    · replace h := it_f h (sw_ne (v := 112) c_2 (by decide))
      replace h := it_f h (sw_ne (v := 114) c_2 (by decide))
      replace h := it_f h (sw_ne (v := 118) c_2 (by decide))
      replace h := it_f h (sw_ne (v := 120) c_2 (by decide))
      refine lv_tableOut (tgt := 296) hx hb dX8_comes_31 (by omega) (by decide) ?_
      refine lv_iload_n hx hb dX8_comes_296 rfl (lv_at hl 2 rfl) ?_
      refine lv_if_ne (tgt := 335) hx hb dX8_comes_297 (by decide) (fun c_3 => absurd c_3 (by decide)) (fun _ => ?_)
      refine lv_iload_n hx hb dX8_comes_300 rfl (lv_at hl 1 rfl) ?_
      refine lv_sipush (v := 199) hx hb dX8_comes_301 (by decide) ?_
      refine lv_icmp_gt (tgt := 335) hx hb dX8_comes_304 (by decide) (fun c_4 => ?_) (fun c_4 => ?_)
      · replace h := it_t h c_4
        refine lv_iconst (v := 0) hx hb dX8_comes_335 (by decide) ?_
        exact r_zret C0 X hP hS hr hlk dX8_comes_336 (Or.inl rfl) (rt2 h)
      · replace h := it_f h c_4
        refine lv_iload hx hb dX8_comes_307 (lv_at hl 0 rfl) ?_
        refine lv_iconst (v := 3) hx hb dX8_comes_309 (by decide) ?_
        refine lv_icmp_gt (tgt := 335) hx hb dX8_comes_310 (by decide) (fun c_5 => ?_) (fun c_5 => ?_)
        · replace h := it_t h c_5
          refine lv_iconst (v := 0) hx hb dX8_comes_335 (by decide) ?_
          exact r_zret C0 X hP hS hr hlk dX8_comes_336 (Or.inl rfl) (rt2 h)
        · replace h := it_f h c_5
          refine lv_aload_n hx hb dX8_comes_313 rfl (lv_at hl 3 rfl) ?_
          refine gf_X8_40 C0 X hP 91 (q := 102) ⟨by decide, rfl⟩ (by omega) rfl dX8_comes_314 ?_
          refine lv_iconst (v := 3) hx hb dX8_comes_317 (by decide) ?_
          refine r_ialdN C0 X hP 102 (k := 3) ⟨by decide, rfl⟩ rfl (by decide) dX8_comes_318 ?_
          refine lv_bipush (v := 99) hx hb dX8_comes_319 (by decide) ?_
          refine lv_icmp_gt (tgt := 335) hx hb dX8_comes_321 (by decide) (fun c_6 => ?_) (fun c_6 => ?_)
          · replace h := it_t h c_6
            refine lv_iconst (v := 0) hx hb dX8_comes_335 (by decide) ?_
            exact r_zret C0 X hP hS hr hlk dX8_comes_336 (Or.inl rfl) (rt2 h)
          · replace h := it_f h c_6
            refine lv_aload_n hx hb dX8_comes_324 rfl (lv_at hl 3 rfl) ?_
            refine gf_X8_19 C0 X hP 91 (q := 95) ⟨by decide, rfl⟩ (by omega) rfl dX8_comes_325 ?_
            refine lv_iconst (v := 1) hx hb dX8_comes_328 (by decide) ?_
            refine r_ialdN C0 X hP 95 (k := 1) ⟨by decide, rfl⟩ rfl (by decide) dX8_comes_329 ?_
            refine lv_bipush (v := 7) hx hb dX8_comes_330 (by decide) ?_
            refine lv_icmp_ne (tgt := 337) hx hb dX8_comes_332 (by decide) (fun c_7 => ?_) (fun c_7 => ?_)
            · replace h := it_f h c_7
              refine lv_aload_n hx hb dX8_comes_337 rfl (lv_at hl 3 rfl) ?_
              refine gf_X8_19 C0 X hP 91 (q := 95) ⟨by decide, rfl⟩ (by omega) rfl dX8_comes_338 ?_
              refine lv_iconst (v := 1) hx hb dX8_comes_341 (by decide) ?_
              refine r_ialdN C0 X hP 95 (k := 1) ⟨by decide, rfl⟩ rfl (by decide) dX8_comes_342 ?_
              refine lv_istore (lv' := [(5, .int (σ 95 1)), (4, .int (σ 102 1)), (3, .int (σ 102 0)), (2, .int 0), (0, .ref (ad 91)), (1, .int x1)]) hx hb dX8_comes_343 hl (by decide) rfl (fun ls hl => ?_)
              refine lv_aload_n hx hb dX8_comes_345 rfl (lv_at hl 4 rfl) ?_
              refine gf_X8_19 C0 X hP 91 (q := 95) ⟨by decide, rfl⟩ (by omega) rfl dX8_comes_346 ?_
              refine lv_iload hx hb dX8_comes_349 (lv_at hl 0 rfl) ?_
              refine lv_iconst (v := 0) hx hb dX8_comes_351 (by decide) ?_
              refine lv_iload_n hx hb dX8_comes_352 rfl (lv_at hl 5 rfl) ?_
              refine lv_bipush (v := 117) hx hb dX8_comes_353 (by decide) ?_
              refine lv_icmp_ne (tgt := 362) hx hb dX8_comes_355 (by decide) (fun c_8 => ?_) (fun c_8 => ?_)
              · replace h := it_f h c_8
                refine lv_iconst (v := (-1)) hx hb dX8_comes_362 (by decide) ?_
                obtain ⟨σ_9, eσ_9, h⟩ := bnd h
                refine r_cv X hS (r_runS (As := [.ref (ad 95), .int (σ 95 1), .int 0, .int (-1)]) (rest := []) C0 X hP L_X8_97 (fun sz => c_X8_puts l D cA ad o σ 95 (σ 95 1) 0 (-1) ⟨by decide, rfl⟩ σ_9 eσ_9 sz) ⟨Nat.le_of_ble_eq_true rfl, Nat.le_of_ble_eq_true rfl⟩ rfl hl.1 rfl (Nat.le_of_ble_eq_true rfl) dX8_comes_363 ⟨Nat.zero_le _, Nat.zero_le _⟩) (fun σ9 H locs hw hP hS => ?_)
                rw [show σ9 = σ_9 from hw] at hP
                refine lv_aload_n hx hb dX8_comes_366 rfl (lv_at hl 4 rfl) ?_
                refine gf_X8_19 C0 X hP 91 (q := 95) ⟨by decide, rfl⟩ (by omega) rfl dX8_comes_367 ?_
                refine lv_iload hx hb dX8_comes_370 (lv_at hl 0 rfl) ?_
                refine lv_iconst (v := 1) hx hb dX8_comes_372 (by decide) ?_
                refine lv_iload_n hx hb dX8_comes_373 rfl (lv_at hl 2 rfl) ?_
                obtain ⟨σ_10, eσ_10, h⟩ := bnd h
                refine r_cv X hS (r_runS (As := [.ref (ad 95), .int (σ 95 1), .int 1, .int (σ 102 0)]) (rest := []) C0 X hP L_X8_97 (fun sz => c_X8_puts l D cA ad o σ_9 95 (σ 95 1) 1 (σ 102 0) ⟨by decide, rfl⟩ σ_10 eσ_10 sz) ⟨Nat.le_of_ble_eq_true rfl, Nat.le_of_ble_eq_true rfl⟩ rfl hl.1 rfl (Nat.le_of_ble_eq_true rfl) dX8_comes_374 ⟨Nat.zero_le _, Nat.zero_le _⟩) (fun σ9 H locs hw hP hS => ?_)
                rw [show σ9 = σ_10 from hw] at hP
                refine lv_aload_n hx hb dX8_comes_377 rfl (lv_at hl 4 rfl) ?_
                refine gf_X8_19 C0 X hP 91 (q := 95) ⟨by decide, rfl⟩ (by omega) rfl dX8_comes_378 ?_
                refine lv_iload hx hb dX8_comes_381 (lv_at hl 0 rfl) ?_
                refine lv_iconst (v := 3) hx hb dX8_comes_383 (by decide) ?_
                refine lv_iload hx hb dX8_comes_384 (lv_at hl 1 rfl) ?_
                obtain ⟨σ_11, eσ_11, h⟩ := bnd h
                refine r_cv X hS (r_runS (As := [.ref (ad 95), .int (σ 95 1), .int 3, .int (σ 102 1)]) (rest := []) C0 X hP L_X8_97 (fun sz => c_X8_puts l D cA ad o σ_10 95 (σ 95 1) 3 (σ 102 1) ⟨by decide, rfl⟩ σ_11 eσ_11 sz) ⟨Nat.le_of_ble_eq_true rfl, Nat.le_of_ble_eq_true rfl⟩ rfl hl.1 rfl (Nat.le_of_ble_eq_true rfl) dX8_comes_386 ⟨Nat.zero_le _, Nat.zero_le _⟩) (fun σ9 H locs hw hP hS => ?_)
                rw [show σ9 = σ_11 from hw] at hP
                refine lv_aload_n hx hb dX8_comes_389 rfl (lv_at hl 4 rfl) ?_
                refine gf_X8_19 C0 X hP 91 (q := 95) ⟨by decide, rfl⟩ (by omega) rfl dX8_comes_390 ?_
                refine lv_iload hx hb dX8_comes_393 (lv_at hl 0 rfl) ?_
                refine lv_iconst (v := 2) hx hb dX8_comes_395 (by decide) ?_
                refine lv_aload_n hx hb dX8_comes_396 rfl (lv_at hl 4 rfl) ?_
                refine gf_X8_40 C0 X hP 91 (q := 102) ⟨by decide, rfl⟩ (by omega) rfl dX8_comes_397 ?_
                refine lv_iconst (v := 2) hx hb dX8_comes_400 (by decide) ?_
                refine r_ialdN C0 X hP 102 (k := 2) ⟨by decide, rfl⟩ rfl (by decide) dX8_comes_401 ?_
                obtain ⟨σ_12, eσ_12, h⟩ := bnd h
                refine r_cv X hS (r_runS (As := [.ref (ad 95), .int (σ 95 1), .int 2, .int (σ_11 102 2)]) (rest := []) C0 X hP L_X8_97 (fun sz => c_X8_puts l D cA ad o σ_11 95 (σ 95 1) 2 (σ_11 102 2) ⟨by decide, rfl⟩ σ_12 eσ_12 sz) ⟨Nat.le_of_ble_eq_true rfl, Nat.le_of_ble_eq_true rfl⟩ rfl hl.1 rfl (Nat.le_of_ble_eq_true rfl) dX8_comes_402 ⟨Nat.zero_le _, Nat.zero_le _⟩) (fun σ9 H locs hw hP hS => ?_)
                rw [show σ9 = σ_12 from hw] at hP
                refine lv_aload_n hx hb dX8_comes_405 rfl (lv_at hl 4 rfl) ?_
                refine gf_X8_19 C0 X hP 91 (q := 95) ⟨by decide, rfl⟩ (by omega) rfl dX8_comes_406 ?_
                refine lv_iload hx hb dX8_comes_409 (lv_at hl 0 rfl) ?_
                refine lv_iconst (v := 4) hx hb dX8_comes_411 (by decide) ?_
                refine lv_aload_n hx hb dX8_comes_412 rfl (lv_at hl 4 rfl) ?_
                refine gf_X8_40 C0 X hP 91 (q := 102) ⟨by decide, rfl⟩ (by omega) rfl dX8_comes_413 ?_
                refine lv_iconst (v := 3) hx hb dX8_comes_416 (by decide) ?_
                refine r_ialdN C0 X hP 102 (k := 3) ⟨by decide, rfl⟩ rfl (by decide) dX8_comes_417 ?_
                obtain ⟨σ_13, eσ_13, h⟩ := bnd h
                refine r_cv X hS (r_runS (As := [.ref (ad 95), .int (σ 95 1), .int 4, .int (σ_12 102 3)]) (rest := []) C0 X hP L_X8_97 (fun sz => c_X8_puts l D cA ad o σ_12 95 (σ 95 1) 4 (σ_12 102 3) ⟨by decide, rfl⟩ σ_13 eσ_13 sz) ⟨Nat.le_of_ble_eq_true rfl, Nat.le_of_ble_eq_true rfl⟩ rfl hl.1 rfl (Nat.le_of_ble_eq_true rfl) dX8_comes_418 ⟨Nat.zero_le _, Nat.zero_le _⟩) (fun σ9 H locs hw hP hS => ?_)
                rw [show σ9 = σ_13 from hw] at hP
                refine lv_aload_n hx hb dX8_comes_421 rfl (lv_at hl 4 rfl) ?_
                refine gf_X8_19 C0 X hP 91 (q := 95) ⟨by decide, rfl⟩ (by omega) rfl dX8_comes_422 ?_
                refine lv_iload hx hb dX8_comes_425 (lv_at hl 0 rfl) ?_
                refine lv_bipush (v := 10) hx hb dX8_comes_427 (by decide) ?_
                refine lv_iconst (v := 0) hx hb dX8_comes_429 (by decide) ?_
                obtain ⟨σ_14, eσ_14, h⟩ := bnd h
                refine r_cv X hS (r_runS (As := [.ref (ad 95), .int (σ 95 1), .int 10, .int 0]) (rest := []) C0 X hP L_X8_97 (fun sz => c_X8_puts l D cA ad o σ_13 95 (σ 95 1) 10 0 ⟨by decide, rfl⟩ σ_14 eσ_14 sz) ⟨Nat.le_of_ble_eq_true rfl, Nat.le_of_ble_eq_true rfl⟩ rfl hl.1 rfl (Nat.le_of_ble_eq_true rfl) dX8_comes_430 ⟨Nat.zero_le _, Nat.zero_le _⟩) (fun σ9 H locs hw hP hS => ?_)
                rw [show σ9 = σ_14 from hw] at hP
                refine lv_aload_n hx hb dX8_comes_433 rfl (lv_at hl 4 rfl) ?_
                refine gf_X8_19 C0 X hP 91 (q := 95) ⟨by decide, rfl⟩ (by omega) rfl dX8_comes_434 ?_
                refine lv_iload hx hb dX8_comes_437 (lv_at hl 0 rfl) ?_
                obtain ⟨σ_15, eσ_15, h⟩ := bnd h
                refine r_cv X hS (r_runS (As := [.ref (ad 95), .int (σ 95 1)]) (rest := []) C0 X hP L_X8_101 (fun sz => c_X8_begins l D cA ad o σ_14 95 (σ 95 1) ⟨by decide, rfl⟩ σ_15 eσ_15 sz) ⟨Nat.le_of_ble_eq_true rfl, Nat.le_of_ble_eq_true rfl⟩ rfl hl.1 rfl (Nat.le_of_ble_eq_true rfl) dX8_comes_439 ⟨Nat.zero_le _, Nat.zero_le _⟩) (fun σ9 H locs hw hP hS => ?_)
                rw [show σ9 = σ_15 from hw] at hP
                refine lv_aload_n hx hb dX8_comes_442 rfl (lv_at hl 4 rfl) ?_
                refine gf_X8_19 C0 X hP 91 (q := 95) ⟨by decide, rfl⟩ (by omega) rfl dX8_comes_443 ?_
                refine lv_iconst (v := 1) hx hb dX8_comes_446 (by decide) ?_
                refine lv_dup2_11 hx hb dX8_comes_447 rfl rfl ?_
                refine r_ialdN C0 X hP 95 (k := 1) ⟨by decide, rfl⟩ rfl (by decide) dX8_comes_448 ?_
                refine lv_iconst (v := 1) hx hb dX8_comes_449 (by decide) ?_
                refine lv_iadd hx hb dX8_comes_450 ?_
                refine r_iastN C0 X hP hS 95 (k := 1) ⟨by decide, rfl⟩ rfl (by decide) dX8_comes_451 (fun H locs hP hS => ?_)
                refine lv_iconst (v := 1) hx hb dX8_comes_452 (by decide) ?_
                exact r_zret C0 X hP hS hr hlk dX8_comes_453 (Or.inr rfl) (rt2 h)
              · replace h := it_t h c_8
                refine lv_iconst (v := 1) hx hb dX8_comes_358 (by decide) ?_
                refine lv_goto (tgt := 363) hx hb dX8_comes_359 (by decide) ?_
                obtain ⟨σ_16, eσ_16, h⟩ := bnd h
                refine r_cv X hS (r_runS (As := [.ref (ad 95), .int (σ 95 1), .int 0, .int 1]) (rest := []) C0 X hP L_X8_97 (fun sz => c_X8_puts l D cA ad o σ 95 (σ 95 1) 0 1 ⟨by decide, rfl⟩ σ_16 eσ_16 sz) ⟨Nat.le_of_ble_eq_true rfl, Nat.le_of_ble_eq_true rfl⟩ rfl hl.1 rfl (Nat.le_of_ble_eq_true rfl) dX8_comes_363 ⟨Nat.zero_le _, Nat.zero_le _⟩) (fun σ9 H locs hw hP hS => ?_)
                rw [show σ9 = σ_16 from hw] at hP
                refine lv_aload_n hx hb dX8_comes_366 rfl (lv_at hl 4 rfl) ?_
                refine gf_X8_19 C0 X hP 91 (q := 95) ⟨by decide, rfl⟩ (by omega) rfl dX8_comes_367 ?_
                refine lv_iload hx hb dX8_comes_370 (lv_at hl 0 rfl) ?_
                refine lv_iconst (v := 1) hx hb dX8_comes_372 (by decide) ?_
                refine lv_iload_n hx hb dX8_comes_373 rfl (lv_at hl 2 rfl) ?_
                obtain ⟨σ_17, eσ_17, h⟩ := bnd h
                refine r_cv X hS (r_runS (As := [.ref (ad 95), .int (σ 95 1), .int 1, .int (σ 102 0)]) (rest := []) C0 X hP L_X8_97 (fun sz => c_X8_puts l D cA ad o σ_16 95 (σ 95 1) 1 (σ 102 0) ⟨by decide, rfl⟩ σ_17 eσ_17 sz) ⟨Nat.le_of_ble_eq_true rfl, Nat.le_of_ble_eq_true rfl⟩ rfl hl.1 rfl (Nat.le_of_ble_eq_true rfl) dX8_comes_374 ⟨Nat.zero_le _, Nat.zero_le _⟩) (fun σ9 H locs hw hP hS => ?_)
                rw [show σ9 = σ_17 from hw] at hP
                refine lv_aload_n hx hb dX8_comes_377 rfl (lv_at hl 4 rfl) ?_
                refine gf_X8_19 C0 X hP 91 (q := 95) ⟨by decide, rfl⟩ (by omega) rfl dX8_comes_378 ?_
                refine lv_iload hx hb dX8_comes_381 (lv_at hl 0 rfl) ?_
                refine lv_iconst (v := 3) hx hb dX8_comes_383 (by decide) ?_
                refine lv_iload hx hb dX8_comes_384 (lv_at hl 1 rfl) ?_
                obtain ⟨σ_18, eσ_18, h⟩ := bnd h
                refine r_cv X hS (r_runS (As := [.ref (ad 95), .int (σ 95 1), .int 3, .int (σ 102 1)]) (rest := []) C0 X hP L_X8_97 (fun sz => c_X8_puts l D cA ad o σ_17 95 (σ 95 1) 3 (σ 102 1) ⟨by decide, rfl⟩ σ_18 eσ_18 sz) ⟨Nat.le_of_ble_eq_true rfl, Nat.le_of_ble_eq_true rfl⟩ rfl hl.1 rfl (Nat.le_of_ble_eq_true rfl) dX8_comes_386 ⟨Nat.zero_le _, Nat.zero_le _⟩) (fun σ9 H locs hw hP hS => ?_)
                rw [show σ9 = σ_18 from hw] at hP
                refine lv_aload_n hx hb dX8_comes_389 rfl (lv_at hl 4 rfl) ?_
                refine gf_X8_19 C0 X hP 91 (q := 95) ⟨by decide, rfl⟩ (by omega) rfl dX8_comes_390 ?_
                refine lv_iload hx hb dX8_comes_393 (lv_at hl 0 rfl) ?_
                refine lv_iconst (v := 2) hx hb dX8_comes_395 (by decide) ?_
                refine lv_aload_n hx hb dX8_comes_396 rfl (lv_at hl 4 rfl) ?_
                refine gf_X8_40 C0 X hP 91 (q := 102) ⟨by decide, rfl⟩ (by omega) rfl dX8_comes_397 ?_
                refine lv_iconst (v := 2) hx hb dX8_comes_400 (by decide) ?_
                refine r_ialdN C0 X hP 102 (k := 2) ⟨by decide, rfl⟩ rfl (by decide) dX8_comes_401 ?_
                obtain ⟨σ_19, eσ_19, h⟩ := bnd h
                refine r_cv X hS (r_runS (As := [.ref (ad 95), .int (σ 95 1), .int 2, .int (σ_18 102 2)]) (rest := []) C0 X hP L_X8_97 (fun sz => c_X8_puts l D cA ad o σ_18 95 (σ 95 1) 2 (σ_18 102 2) ⟨by decide, rfl⟩ σ_19 eσ_19 sz) ⟨Nat.le_of_ble_eq_true rfl, Nat.le_of_ble_eq_true rfl⟩ rfl hl.1 rfl (Nat.le_of_ble_eq_true rfl) dX8_comes_402 ⟨Nat.zero_le _, Nat.zero_le _⟩) (fun σ9 H locs hw hP hS => ?_)
                rw [show σ9 = σ_19 from hw] at hP
                refine lv_aload_n hx hb dX8_comes_405 rfl (lv_at hl 4 rfl) ?_
                refine gf_X8_19 C0 X hP 91 (q := 95) ⟨by decide, rfl⟩ (by omega) rfl dX8_comes_406 ?_
                refine lv_iload hx hb dX8_comes_409 (lv_at hl 0 rfl) ?_
                refine lv_iconst (v := 4) hx hb dX8_comes_411 (by decide) ?_
                refine lv_aload_n hx hb dX8_comes_412 rfl (lv_at hl 4 rfl) ?_
                refine gf_X8_40 C0 X hP 91 (q := 102) ⟨by decide, rfl⟩ (by omega) rfl dX8_comes_413 ?_
                refine lv_iconst (v := 3) hx hb dX8_comes_416 (by decide) ?_
                refine r_ialdN C0 X hP 102 (k := 3) ⟨by decide, rfl⟩ rfl (by decide) dX8_comes_417 ?_
                obtain ⟨σ_20, eσ_20, h⟩ := bnd h
                refine r_cv X hS (r_runS (As := [.ref (ad 95), .int (σ 95 1), .int 4, .int (σ_19 102 3)]) (rest := []) C0 X hP L_X8_97 (fun sz => c_X8_puts l D cA ad o σ_19 95 (σ 95 1) 4 (σ_19 102 3) ⟨by decide, rfl⟩ σ_20 eσ_20 sz) ⟨Nat.le_of_ble_eq_true rfl, Nat.le_of_ble_eq_true rfl⟩ rfl hl.1 rfl (Nat.le_of_ble_eq_true rfl) dX8_comes_418 ⟨Nat.zero_le _, Nat.zero_le _⟩) (fun σ9 H locs hw hP hS => ?_)
                rw [show σ9 = σ_20 from hw] at hP
                refine lv_aload_n hx hb dX8_comes_421 rfl (lv_at hl 4 rfl) ?_
                refine gf_X8_19 C0 X hP 91 (q := 95) ⟨by decide, rfl⟩ (by omega) rfl dX8_comes_422 ?_
                refine lv_iload hx hb dX8_comes_425 (lv_at hl 0 rfl) ?_
                refine lv_bipush (v := 10) hx hb dX8_comes_427 (by decide) ?_
                refine lv_iconst (v := 0) hx hb dX8_comes_429 (by decide) ?_
                obtain ⟨σ_21, eσ_21, h⟩ := bnd h
                refine r_cv X hS (r_runS (As := [.ref (ad 95), .int (σ 95 1), .int 10, .int 0]) (rest := []) C0 X hP L_X8_97 (fun sz => c_X8_puts l D cA ad o σ_20 95 (σ 95 1) 10 0 ⟨by decide, rfl⟩ σ_21 eσ_21 sz) ⟨Nat.le_of_ble_eq_true rfl, Nat.le_of_ble_eq_true rfl⟩ rfl hl.1 rfl (Nat.le_of_ble_eq_true rfl) dX8_comes_430 ⟨Nat.zero_le _, Nat.zero_le _⟩) (fun σ9 H locs hw hP hS => ?_)
                rw [show σ9 = σ_21 from hw] at hP
                refine lv_aload_n hx hb dX8_comes_433 rfl (lv_at hl 4 rfl) ?_
                refine gf_X8_19 C0 X hP 91 (q := 95) ⟨by decide, rfl⟩ (by omega) rfl dX8_comes_434 ?_
                refine lv_iload hx hb dX8_comes_437 (lv_at hl 0 rfl) ?_
                obtain ⟨σ_22, eσ_22, h⟩ := bnd h
                refine r_cv X hS (r_runS (As := [.ref (ad 95), .int (σ 95 1)]) (rest := []) C0 X hP L_X8_101 (fun sz => c_X8_begins l D cA ad o σ_21 95 (σ 95 1) ⟨by decide, rfl⟩ σ_22 eσ_22 sz) ⟨Nat.le_of_ble_eq_true rfl, Nat.le_of_ble_eq_true rfl⟩ rfl hl.1 rfl (Nat.le_of_ble_eq_true rfl) dX8_comes_439 ⟨Nat.zero_le _, Nat.zero_le _⟩) (fun σ9 H locs hw hP hS => ?_)
                rw [show σ9 = σ_22 from hw] at hP
                refine lv_aload_n hx hb dX8_comes_442 rfl (lv_at hl 4 rfl) ?_
                refine gf_X8_19 C0 X hP 91 (q := 95) ⟨by decide, rfl⟩ (by omega) rfl dX8_comes_443 ?_
                refine lv_iconst (v := 1) hx hb dX8_comes_446 (by decide) ?_
                refine lv_dup2_11 hx hb dX8_comes_447 rfl rfl ?_
                refine r_ialdN C0 X hP 95 (k := 1) ⟨by decide, rfl⟩ rfl (by decide) dX8_comes_448 ?_
                refine lv_iconst (v := 1) hx hb dX8_comes_449 (by decide) ?_
                refine lv_iadd hx hb dX8_comes_450 ?_
                refine r_iastN C0 X hP hS 95 (k := 1) ⟨by decide, rfl⟩ rfl (by decide) dX8_comes_451 (fun H locs hP hS => ?_)
                refine lv_iconst (v := 1) hx hb dX8_comes_452 (by decide) ?_
                exact r_zret C0 X hP hS hr hlk dX8_comes_453 (Or.inr rfl) (rt2 h)
            · replace h := it_t h c_7
              refine lv_iconst (v := 0) hx hb dX8_comes_335 (by decide) ?_
              exact r_zret C0 X hP hS hr hlk dX8_comes_336 (Or.inl rfl) (rt2 h)
    · rcases (show j = 0 ∨ j = 1 ∨ j = 2 ∨ j = 3 ∨ j = 4 ∨ j = 5 ∨ j = 6 ∨ j = 7 ∨ j = 8 by omega) with rfl | rfl | rfl | rfl | rfl | rfl | rfl | rfl | rfl
      · have e_23 : x1 = 112 := sw_eq c_2 (by decide)
        replace h := it_t h e_23
        refine lv_tableIn (off := 49) (tgt := 80) hx hb dX8_comes_31 (by rw [e_23]; decide) (by rw [e_23]; decide) (by rw [e_23]; rfl) (by decide) ?_
        refine lv_iload_n hx hb dX8_comes_80 rfl (lv_at hl 2 rfl) ?_
        refine lv_if_ne (tgt := 115) hx hb dX8_comes_81 (by decide) (fun c_24 => absurd c_24 (by decide)) (fun _ => ?_)
        refine lv_iload_n hx hb dX8_comes_84 rfl (lv_at hl 1 rfl) ?_
        refine lv_i2l (v := ((σ 102 0).toInt64)) hx hb dX8_comes_85 rfl ?_
        refine lv_ldc2 (own := RX8) (index := 59) (v := 2) hx hb hown (hts _ (tmc sb5_7 9 rfl (by decide +kernel))) dX8_comes_86 ?_
        refine lv_topEl (y := ((2 : Int32).toInt64)) (by decide) ?_
        refine lv_ldc2 (own := RX8) (index := 95) (v := 9) hx hb hown (hts _ (tmc sb5_7 10 rfl (by decide +kernel))) dX8_comes_89 ?_
        refine lv_topEl (y := ((9 : Int32).toInt64)) (by decide) ?_
        refine r_ci X hS (r_runS (As := [.long ((σ 102 0).toInt64), .long ((2 : Int32).toInt64), .long ((9 : Int32).toInt64)]) (rest := []) C0 X hP L_X8_53 (fun sz => c_X8_isIn l D cA ad o σ (σ 102 0) 2 9 sz) ⟨Nat.le_of_ble_eq_true rfl, Nat.le_of_ble_eq_true rfl⟩ rfl hl.1 rfl (Nat.le_of_ble_eq_true rfl) dX8_comes_92 ⟨Nat.zero_le _, Nat.zero_le _⟩) (fun r9 σ9 H locs hw hP hS => ?_)
        rw [hw.2] at hP
        obtain ⟨⟨b_25, rfl⟩ | ⟨b_25, rfl⟩, -⟩ := hw
        · replace h := it_f h (inn b_25)
          refine lv_if_eq (tgt := 115) hx hb dX8_comes_95 (by decide) (fun c_26 => absurd c_26 (by decide)) (fun _ => ?_)
          refine lv_iload hx hb dX8_comes_98 (lv_at hl 0 rfl) ?_
          refine lv_iconst (v := 2) hx hb dX8_comes_100 (by decide) ?_
          refine lv_icmp_gt (tgt := 115) hx hb dX8_comes_101 (by decide) (fun c_27 => ?_) (fun c_27 => ?_)
          · replace h := it_t h c_27
            refine lv_iconst (v := 0) hx hb dX8_comes_115 (by decide) ?_
            exact r_zret C0 X hP hS hr hlk dX8_comes_116 (Or.inl rfl) (rt2 h)
          · replace h := it_f h c_27
            refine lv_aload_n hx hb dX8_comes_104 rfl (lv_at hl 3 rfl) ?_
            refine gf_X8_19 C0 X hP 91 (q := 95) ⟨by decide, rfl⟩ (by omega) rfl dX8_comes_105 ?_
            refine lv_iconst (v := 0) hx hb dX8_comes_108 (by decide) ?_
            refine r_ialdN C0 X hP 95 (k := 0) ⟨by decide, rfl⟩ rfl (by decide) dX8_comes_109 ?_
            refine lv_bipush (v := 8) hx hb dX8_comes_110 (by decide) ?_
            refine lv_icmp_ne (tgt := 117) hx hb dX8_comes_112 (by decide) (fun c_28 => ?_) (fun c_28 => ?_)
            · replace h := it_f h c_28
              refine lv_bipush (v := 14) hx hb dX8_comes_117 (by decide) ?_
              refine lv_iconst (v := 3) hx hb dX8_comes_119 (by decide) ?_
              refine lv_aload_n hx hb dX8_comes_120 rfl (lv_at hl 3 rfl) ?_
              refine gf_X8_19 C0 X hP 91 (q := 95) ⟨by decide, rfl⟩ (by omega) rfl dX8_comes_121 ?_
              refine lv_iconst (v := 0) hx hb dX8_comes_124 (by decide) ?_
              refine r_ialdN C0 X hP 95 (k := 0) ⟨by decide, rfl⟩ rfl (by decide) dX8_comes_125 ?_
              refine lv_imul hx hb dX8_comes_126 ?_
              refine lv_iadd hx hb dX8_comes_127 ?_
              refine lv_istore (lv' := [(5, .int (14 + (3 * (σ 95 0)))), (4, .int (σ 102 1)), (3, .int (σ 102 0)), (2, .int 0), (0, .ref (ad 91)), (1, .int x1)]) hx hb dX8_comes_128 hl (by decide) rfl (fun ls hl => ?_)
              refine lv_aload_n hx hb dX8_comes_130 rfl (lv_at hl 4 rfl) ?_
              refine gf_X8_19 C0 X hP 91 (q := 95) ⟨by decide, rfl⟩ (by omega) rfl dX8_comes_131 ?_
              refine lv_iload hx hb dX8_comes_134 (lv_at hl 0 rfl) ?_
              refine lv_iload_n hx hb dX8_comes_136 rfl (lv_at hl 2 rfl) ?_
              obtain ⟨k_29, ek_29, h⟩ := bnd h
              replace ek_29 := ix_s ek_29 (by decide)
              refine r_iastN C0 X hP hS 95 (k := k_29) ⟨by decide, rfl⟩ ek_29.1 ek_29.2 dX8_comes_137 (fun H locs hP hS => ?_)
              refine lv_aload_n hx hb dX8_comes_138 rfl (lv_at hl 4 rfl) ?_
              refine gf_X8_19 C0 X hP 91 (q := 95) ⟨by decide, rfl⟩ (by omega) rfl dX8_comes_139 ?_
              refine lv_iload hx hb dX8_comes_142 (lv_at hl 0 rfl) ?_
              refine lv_iconst (v := 1) hx hb dX8_comes_144 (by decide) ?_
              refine lv_iadd hx hb dX8_comes_145 ?_
              refine lv_iload hx hb dX8_comes_146 (lv_at hl 1 rfl) ?_
              obtain ⟨k_30, ek_30, h⟩ := bnd h
              replace ek_30 := ix_s ek_30 (by decide)
              refine r_iastN C0 X hP hS 95 (k := k_30) ⟨by decide, rfl⟩ ek_30.1 ek_30.2 dX8_comes_148 (fun H locs hP hS => ?_)
              refine lv_aload_n hx hb dX8_comes_149 rfl (lv_at hl 4 rfl) ?_
              refine gf_X8_19 C0 X hP 91 (q := 95) ⟨by decide, rfl⟩ (by omega) rfl dX8_comes_150 ?_
              refine lv_iload hx hb dX8_comes_153 (lv_at hl 0 rfl) ?_
              refine lv_iconst (v := 2) hx hb dX8_comes_155 (by decide) ?_
              refine lv_iadd hx hb dX8_comes_156 ?_
              refine lv_iconst (v := 0) hx hb dX8_comes_157 (by decide) ?_
              obtain ⟨k_31, ek_31, h⟩ := bnd h
              replace ek_31 := ix_s ek_31 (by decide)
              refine r_iastN C0 X hP hS 95 (k := k_31) ⟨by decide, rfl⟩ ek_31.1 ek_31.2 dX8_comes_158 (fun H locs hP hS => ?_)
              refine lv_aload_n hx hb dX8_comes_159 rfl (lv_at hl 4 rfl) ?_
              refine gf_X8_19 C0 X hP 91 (q := 95) ⟨by decide, rfl⟩ (by omega) rfl dX8_comes_160 ?_
              refine lv_iconst (v := 0) hx hb dX8_comes_163 (by decide) ?_
              refine lv_dup2_11 hx hb dX8_comes_164 rfl rfl ?_
              refine r_ialdN C0 X hP 95 (k := 0) ⟨by decide, rfl⟩ rfl (by decide) dX8_comes_165 ?_
              refine lv_iconst (v := 1) hx hb dX8_comes_166 (by decide) ?_
              refine lv_iadd hx hb dX8_comes_167 ?_
              refine r_iastN C0 X hP hS 95 (k := 0) ⟨by decide, rfl⟩ rfl (by decide) dX8_comes_168 (fun H locs hP hS => ?_)
              refine lv_iconst (v := 1) hx hb dX8_comes_169 (by decide) ?_
              exact r_zret C0 X hP hS hr hlk dX8_comes_170 (Or.inr rfl) (rt2 h)
            · replace h := it_t h c_28
              refine lv_iconst (v := 0) hx hb dX8_comes_115 (by decide) ?_
              exact r_zret C0 X hP hS hr hlk dX8_comes_116 (Or.inl rfl) (rt2 h)
        · replace h := it_t h b_25
          refine lv_if_eq (tgt := 115) hx hb dX8_comes_95 (by decide) (fun _ => ?_) (fun c_32 => absurd c_32 (by decide))
          refine lv_iconst (v := 0) hx hb dX8_comes_115 (by decide) ?_
          exact r_zret C0 X hP hS hr hlk dX8_comes_116 (Or.inl rfl) (rt2 h)
      · have e_33 : x1 = 113 := sw_eq c_2 (by decide)
        replace h := it_f h (show ¬ x1 = 112 by rw [e_33]; decide)
        replace h := it_f h (show ¬ x1 = 114 by rw [e_33]; decide)
        replace h := it_f h (show ¬ x1 = 118 by rw [e_33]; decide)
        replace h := it_f h (show ¬ x1 = 120 by rw [e_33]; decide)
        refine lv_tableIn (off := 265) (tgt := 296) hx hb dX8_comes_31 (by rw [e_33]; decide) (by rw [e_33]; decide) (by rw [e_33]; rfl) (by decide) ?_
        refine lv_iload_n hx hb dX8_comes_296 rfl (lv_at hl 2 rfl) ?_
        refine lv_if_ne (tgt := 335) hx hb dX8_comes_297 (by decide) (fun c_34 => absurd c_34 (by decide)) (fun _ => ?_)
        refine lv_iload_n hx hb dX8_comes_300 rfl (lv_at hl 1 rfl) ?_
        refine lv_sipush (v := 199) hx hb dX8_comes_301 (by decide) ?_
        refine lv_icmp_gt (tgt := 335) hx hb dX8_comes_304 (by decide) (fun c_35 => ?_) (fun c_35 => ?_)
        · replace h := it_t h c_35
          refine lv_iconst (v := 0) hx hb dX8_comes_335 (by decide) ?_
          exact r_zret C0 X hP hS hr hlk dX8_comes_336 (Or.inl rfl) (rt2 h)
        · replace h := it_f h c_35
          refine lv_iload hx hb dX8_comes_307 (lv_at hl 0 rfl) ?_
          refine lv_iconst (v := 3) hx hb dX8_comes_309 (by decide) ?_
          refine lv_icmp_gt (tgt := 335) hx hb dX8_comes_310 (by decide) (fun c_36 => ?_) (fun c_36 => ?_)
          · replace h := it_t h c_36
            refine lv_iconst (v := 0) hx hb dX8_comes_335 (by decide) ?_
            exact r_zret C0 X hP hS hr hlk dX8_comes_336 (Or.inl rfl) (rt2 h)
          · replace h := it_f h c_36
            refine lv_aload_n hx hb dX8_comes_313 rfl (lv_at hl 3 rfl) ?_
            refine gf_X8_40 C0 X hP 91 (q := 102) ⟨by decide, rfl⟩ (by omega) rfl dX8_comes_314 ?_
            refine lv_iconst (v := 3) hx hb dX8_comes_317 (by decide) ?_
            refine r_ialdN C0 X hP 102 (k := 3) ⟨by decide, rfl⟩ rfl (by decide) dX8_comes_318 ?_
            refine lv_bipush (v := 99) hx hb dX8_comes_319 (by decide) ?_
            refine lv_icmp_gt (tgt := 335) hx hb dX8_comes_321 (by decide) (fun c_37 => ?_) (fun c_37 => ?_)
            · replace h := it_t h c_37
              refine lv_iconst (v := 0) hx hb dX8_comes_335 (by decide) ?_
              exact r_zret C0 X hP hS hr hlk dX8_comes_336 (Or.inl rfl) (rt2 h)
            · replace h := it_f h c_37
              refine lv_aload_n hx hb dX8_comes_324 rfl (lv_at hl 3 rfl) ?_
              refine gf_X8_19 C0 X hP 91 (q := 95) ⟨by decide, rfl⟩ (by omega) rfl dX8_comes_325 ?_
              refine lv_iconst (v := 1) hx hb dX8_comes_328 (by decide) ?_
              refine r_ialdN C0 X hP 95 (k := 1) ⟨by decide, rfl⟩ rfl (by decide) dX8_comes_329 ?_
              refine lv_bipush (v := 7) hx hb dX8_comes_330 (by decide) ?_
              refine lv_icmp_ne (tgt := 337) hx hb dX8_comes_332 (by decide) (fun c_38 => ?_) (fun c_38 => ?_)
              · replace h := it_f h c_38
                refine lv_aload_n hx hb dX8_comes_337 rfl (lv_at hl 3 rfl) ?_
                refine gf_X8_19 C0 X hP 91 (q := 95) ⟨by decide, rfl⟩ (by omega) rfl dX8_comes_338 ?_
                refine lv_iconst (v := 1) hx hb dX8_comes_341 (by decide) ?_
                refine r_ialdN C0 X hP 95 (k := 1) ⟨by decide, rfl⟩ rfl (by decide) dX8_comes_342 ?_
                refine lv_istore (lv' := [(5, .int (σ 95 1)), (4, .int (σ 102 1)), (3, .int (σ 102 0)), (2, .int 0), (0, .ref (ad 91)), (1, .int x1)]) hx hb dX8_comes_343 hl (by decide) rfl (fun ls hl => ?_)
                refine lv_aload_n hx hb dX8_comes_345 rfl (lv_at hl 4 rfl) ?_
                refine gf_X8_19 C0 X hP 91 (q := 95) ⟨by decide, rfl⟩ (by omega) rfl dX8_comes_346 ?_
                refine lv_iload hx hb dX8_comes_349 (lv_at hl 0 rfl) ?_
                refine lv_iconst (v := 0) hx hb dX8_comes_351 (by decide) ?_
                refine lv_iload_n hx hb dX8_comes_352 rfl (lv_at hl 5 rfl) ?_
                refine lv_bipush (v := 117) hx hb dX8_comes_353 (by decide) ?_
                refine lv_icmp_ne (tgt := 362) hx hb dX8_comes_355 (by decide) (fun c_39 => ?_) (fun c_39 => ?_)
                · replace h := it_f h c_39
                  refine lv_iconst (v := (-1)) hx hb dX8_comes_362 (by decide) ?_
                  obtain ⟨σ_40, eσ_40, h⟩ := bnd h
                  refine r_cv X hS (r_runS (As := [.ref (ad 95), .int (σ 95 1), .int 0, .int (-1)]) (rest := []) C0 X hP L_X8_97 (fun sz => c_X8_puts l D cA ad o σ 95 (σ 95 1) 0 (-1) ⟨by decide, rfl⟩ σ_40 eσ_40 sz) ⟨Nat.le_of_ble_eq_true rfl, Nat.le_of_ble_eq_true rfl⟩ rfl hl.1 rfl (Nat.le_of_ble_eq_true rfl) dX8_comes_363 ⟨Nat.zero_le _, Nat.zero_le _⟩) (fun σ9 H locs hw hP hS => ?_)
                  rw [show σ9 = σ_40 from hw] at hP
                  refine lv_aload_n hx hb dX8_comes_366 rfl (lv_at hl 4 rfl) ?_
                  refine gf_X8_19 C0 X hP 91 (q := 95) ⟨by decide, rfl⟩ (by omega) rfl dX8_comes_367 ?_
                  refine lv_iload hx hb dX8_comes_370 (lv_at hl 0 rfl) ?_
                  refine lv_iconst (v := 1) hx hb dX8_comes_372 (by decide) ?_
                  refine lv_iload_n hx hb dX8_comes_373 rfl (lv_at hl 2 rfl) ?_
                  obtain ⟨σ_41, eσ_41, h⟩ := bnd h
                  refine r_cv X hS (r_runS (As := [.ref (ad 95), .int (σ 95 1), .int 1, .int (σ 102 0)]) (rest := []) C0 X hP L_X8_97 (fun sz => c_X8_puts l D cA ad o σ_40 95 (σ 95 1) 1 (σ 102 0) ⟨by decide, rfl⟩ σ_41 eσ_41 sz) ⟨Nat.le_of_ble_eq_true rfl, Nat.le_of_ble_eq_true rfl⟩ rfl hl.1 rfl (Nat.le_of_ble_eq_true rfl) dX8_comes_374 ⟨Nat.zero_le _, Nat.zero_le _⟩) (fun σ9 H locs hw hP hS => ?_)
                  rw [show σ9 = σ_41 from hw] at hP
                  refine lv_aload_n hx hb dX8_comes_377 rfl (lv_at hl 4 rfl) ?_
                  refine gf_X8_19 C0 X hP 91 (q := 95) ⟨by decide, rfl⟩ (by omega) rfl dX8_comes_378 ?_
                  refine lv_iload hx hb dX8_comes_381 (lv_at hl 0 rfl) ?_
                  refine lv_iconst (v := 3) hx hb dX8_comes_383 (by decide) ?_
                  refine lv_iload hx hb dX8_comes_384 (lv_at hl 1 rfl) ?_
                  obtain ⟨σ_42, eσ_42, h⟩ := bnd h
                  refine r_cv X hS (r_runS (As := [.ref (ad 95), .int (σ 95 1), .int 3, .int (σ 102 1)]) (rest := []) C0 X hP L_X8_97 (fun sz => c_X8_puts l D cA ad o σ_41 95 (σ 95 1) 3 (σ 102 1) ⟨by decide, rfl⟩ σ_42 eσ_42 sz) ⟨Nat.le_of_ble_eq_true rfl, Nat.le_of_ble_eq_true rfl⟩ rfl hl.1 rfl (Nat.le_of_ble_eq_true rfl) dX8_comes_386 ⟨Nat.zero_le _, Nat.zero_le _⟩) (fun σ9 H locs hw hP hS => ?_)
                  rw [show σ9 = σ_42 from hw] at hP
                  refine lv_aload_n hx hb dX8_comes_389 rfl (lv_at hl 4 rfl) ?_
                  refine gf_X8_19 C0 X hP 91 (q := 95) ⟨by decide, rfl⟩ (by omega) rfl dX8_comes_390 ?_
                  refine lv_iload hx hb dX8_comes_393 (lv_at hl 0 rfl) ?_
                  refine lv_iconst (v := 2) hx hb dX8_comes_395 (by decide) ?_
                  refine lv_aload_n hx hb dX8_comes_396 rfl (lv_at hl 4 rfl) ?_
                  refine gf_X8_40 C0 X hP 91 (q := 102) ⟨by decide, rfl⟩ (by omega) rfl dX8_comes_397 ?_
                  refine lv_iconst (v := 2) hx hb dX8_comes_400 (by decide) ?_
                  refine r_ialdN C0 X hP 102 (k := 2) ⟨by decide, rfl⟩ rfl (by decide) dX8_comes_401 ?_
                  obtain ⟨σ_43, eσ_43, h⟩ := bnd h
                  refine r_cv X hS (r_runS (As := [.ref (ad 95), .int (σ 95 1), .int 2, .int (σ_42 102 2)]) (rest := []) C0 X hP L_X8_97 (fun sz => c_X8_puts l D cA ad o σ_42 95 (σ 95 1) 2 (σ_42 102 2) ⟨by decide, rfl⟩ σ_43 eσ_43 sz) ⟨Nat.le_of_ble_eq_true rfl, Nat.le_of_ble_eq_true rfl⟩ rfl hl.1 rfl (Nat.le_of_ble_eq_true rfl) dX8_comes_402 ⟨Nat.zero_le _, Nat.zero_le _⟩) (fun σ9 H locs hw hP hS => ?_)
                  rw [show σ9 = σ_43 from hw] at hP
                  refine lv_aload_n hx hb dX8_comes_405 rfl (lv_at hl 4 rfl) ?_
                  refine gf_X8_19 C0 X hP 91 (q := 95) ⟨by decide, rfl⟩ (by omega) rfl dX8_comes_406 ?_
                  refine lv_iload hx hb dX8_comes_409 (lv_at hl 0 rfl) ?_
                  refine lv_iconst (v := 4) hx hb dX8_comes_411 (by decide) ?_
                  refine lv_aload_n hx hb dX8_comes_412 rfl (lv_at hl 4 rfl) ?_
                  refine gf_X8_40 C0 X hP 91 (q := 102) ⟨by decide, rfl⟩ (by omega) rfl dX8_comes_413 ?_
                  refine lv_iconst (v := 3) hx hb dX8_comes_416 (by decide) ?_
                  refine r_ialdN C0 X hP 102 (k := 3) ⟨by decide, rfl⟩ rfl (by decide) dX8_comes_417 ?_
                  obtain ⟨σ_44, eσ_44, h⟩ := bnd h
                  refine r_cv X hS (r_runS (As := [.ref (ad 95), .int (σ 95 1), .int 4, .int (σ_43 102 3)]) (rest := []) C0 X hP L_X8_97 (fun sz => c_X8_puts l D cA ad o σ_43 95 (σ 95 1) 4 (σ_43 102 3) ⟨by decide, rfl⟩ σ_44 eσ_44 sz) ⟨Nat.le_of_ble_eq_true rfl, Nat.le_of_ble_eq_true rfl⟩ rfl hl.1 rfl (Nat.le_of_ble_eq_true rfl) dX8_comes_418 ⟨Nat.zero_le _, Nat.zero_le _⟩) (fun σ9 H locs hw hP hS => ?_)
                  rw [show σ9 = σ_44 from hw] at hP
                  refine lv_aload_n hx hb dX8_comes_421 rfl (lv_at hl 4 rfl) ?_
                  refine gf_X8_19 C0 X hP 91 (q := 95) ⟨by decide, rfl⟩ (by omega) rfl dX8_comes_422 ?_
                  refine lv_iload hx hb dX8_comes_425 (lv_at hl 0 rfl) ?_
                  refine lv_bipush (v := 10) hx hb dX8_comes_427 (by decide) ?_
                  refine lv_iconst (v := 0) hx hb dX8_comes_429 (by decide) ?_
                  obtain ⟨σ_45, eσ_45, h⟩ := bnd h
                  refine r_cv X hS (r_runS (As := [.ref (ad 95), .int (σ 95 1), .int 10, .int 0]) (rest := []) C0 X hP L_X8_97 (fun sz => c_X8_puts l D cA ad o σ_44 95 (σ 95 1) 10 0 ⟨by decide, rfl⟩ σ_45 eσ_45 sz) ⟨Nat.le_of_ble_eq_true rfl, Nat.le_of_ble_eq_true rfl⟩ rfl hl.1 rfl (Nat.le_of_ble_eq_true rfl) dX8_comes_430 ⟨Nat.zero_le _, Nat.zero_le _⟩) (fun σ9 H locs hw hP hS => ?_)
                  rw [show σ9 = σ_45 from hw] at hP
                  refine lv_aload_n hx hb dX8_comes_433 rfl (lv_at hl 4 rfl) ?_
                  refine gf_X8_19 C0 X hP 91 (q := 95) ⟨by decide, rfl⟩ (by omega) rfl dX8_comes_434 ?_
                  refine lv_iload hx hb dX8_comes_437 (lv_at hl 0 rfl) ?_
                  obtain ⟨σ_46, eσ_46, h⟩ := bnd h
                  refine r_cv X hS (r_runS (As := [.ref (ad 95), .int (σ 95 1)]) (rest := []) C0 X hP L_X8_101 (fun sz => c_X8_begins l D cA ad o σ_45 95 (σ 95 1) ⟨by decide, rfl⟩ σ_46 eσ_46 sz) ⟨Nat.le_of_ble_eq_true rfl, Nat.le_of_ble_eq_true rfl⟩ rfl hl.1 rfl (Nat.le_of_ble_eq_true rfl) dX8_comes_439 ⟨Nat.zero_le _, Nat.zero_le _⟩) (fun σ9 H locs hw hP hS => ?_)
                  rw [show σ9 = σ_46 from hw] at hP
                  refine lv_aload_n hx hb dX8_comes_442 rfl (lv_at hl 4 rfl) ?_
                  refine gf_X8_19 C0 X hP 91 (q := 95) ⟨by decide, rfl⟩ (by omega) rfl dX8_comes_443 ?_
                  refine lv_iconst (v := 1) hx hb dX8_comes_446 (by decide) ?_
                  refine lv_dup2_11 hx hb dX8_comes_447 rfl rfl ?_
                  refine r_ialdN C0 X hP 95 (k := 1) ⟨by decide, rfl⟩ rfl (by decide) dX8_comes_448 ?_
                  refine lv_iconst (v := 1) hx hb dX8_comes_449 (by decide) ?_
                  refine lv_iadd hx hb dX8_comes_450 ?_
                  refine r_iastN C0 X hP hS 95 (k := 1) ⟨by decide, rfl⟩ rfl (by decide) dX8_comes_451 (fun H locs hP hS => ?_)
                  refine lv_iconst (v := 1) hx hb dX8_comes_452 (by decide) ?_
                  exact r_zret C0 X hP hS hr hlk dX8_comes_453 (Or.inr rfl) (rt2 h)
                · replace h := it_t h c_39
                  refine lv_iconst (v := 1) hx hb dX8_comes_358 (by decide) ?_
                  refine lv_goto (tgt := 363) hx hb dX8_comes_359 (by decide) ?_
                  obtain ⟨σ_47, eσ_47, h⟩ := bnd h
                  refine r_cv X hS (r_runS (As := [.ref (ad 95), .int (σ 95 1), .int 0, .int 1]) (rest := []) C0 X hP L_X8_97 (fun sz => c_X8_puts l D cA ad o σ 95 (σ 95 1) 0 1 ⟨by decide, rfl⟩ σ_47 eσ_47 sz) ⟨Nat.le_of_ble_eq_true rfl, Nat.le_of_ble_eq_true rfl⟩ rfl hl.1 rfl (Nat.le_of_ble_eq_true rfl) dX8_comes_363 ⟨Nat.zero_le _, Nat.zero_le _⟩) (fun σ9 H locs hw hP hS => ?_)
                  rw [show σ9 = σ_47 from hw] at hP
                  refine lv_aload_n hx hb dX8_comes_366 rfl (lv_at hl 4 rfl) ?_
                  refine gf_X8_19 C0 X hP 91 (q := 95) ⟨by decide, rfl⟩ (by omega) rfl dX8_comes_367 ?_
                  refine lv_iload hx hb dX8_comes_370 (lv_at hl 0 rfl) ?_
                  refine lv_iconst (v := 1) hx hb dX8_comes_372 (by decide) ?_
                  refine lv_iload_n hx hb dX8_comes_373 rfl (lv_at hl 2 rfl) ?_
                  obtain ⟨σ_48, eσ_48, h⟩ := bnd h
                  refine r_cv X hS (r_runS (As := [.ref (ad 95), .int (σ 95 1), .int 1, .int (σ 102 0)]) (rest := []) C0 X hP L_X8_97 (fun sz => c_X8_puts l D cA ad o σ_47 95 (σ 95 1) 1 (σ 102 0) ⟨by decide, rfl⟩ σ_48 eσ_48 sz) ⟨Nat.le_of_ble_eq_true rfl, Nat.le_of_ble_eq_true rfl⟩ rfl hl.1 rfl (Nat.le_of_ble_eq_true rfl) dX8_comes_374 ⟨Nat.zero_le _, Nat.zero_le _⟩) (fun σ9 H locs hw hP hS => ?_)
                  rw [show σ9 = σ_48 from hw] at hP
                  refine lv_aload_n hx hb dX8_comes_377 rfl (lv_at hl 4 rfl) ?_
                  refine gf_X8_19 C0 X hP 91 (q := 95) ⟨by decide, rfl⟩ (by omega) rfl dX8_comes_378 ?_
                  refine lv_iload hx hb dX8_comes_381 (lv_at hl 0 rfl) ?_
                  refine lv_iconst (v := 3) hx hb dX8_comes_383 (by decide) ?_
                  refine lv_iload hx hb dX8_comes_384 (lv_at hl 1 rfl) ?_
                  obtain ⟨σ_49, eσ_49, h⟩ := bnd h
                  refine r_cv X hS (r_runS (As := [.ref (ad 95), .int (σ 95 1), .int 3, .int (σ 102 1)]) (rest := []) C0 X hP L_X8_97 (fun sz => c_X8_puts l D cA ad o σ_48 95 (σ 95 1) 3 (σ 102 1) ⟨by decide, rfl⟩ σ_49 eσ_49 sz) ⟨Nat.le_of_ble_eq_true rfl, Nat.le_of_ble_eq_true rfl⟩ rfl hl.1 rfl (Nat.le_of_ble_eq_true rfl) dX8_comes_386 ⟨Nat.zero_le _, Nat.zero_le _⟩) (fun σ9 H locs hw hP hS => ?_)
                  rw [show σ9 = σ_49 from hw] at hP
                  refine lv_aload_n hx hb dX8_comes_389 rfl (lv_at hl 4 rfl) ?_
                  refine gf_X8_19 C0 X hP 91 (q := 95) ⟨by decide, rfl⟩ (by omega) rfl dX8_comes_390 ?_
                  refine lv_iload hx hb dX8_comes_393 (lv_at hl 0 rfl) ?_
                  refine lv_iconst (v := 2) hx hb dX8_comes_395 (by decide) ?_
                  refine lv_aload_n hx hb dX8_comes_396 rfl (lv_at hl 4 rfl) ?_
                  refine gf_X8_40 C0 X hP 91 (q := 102) ⟨by decide, rfl⟩ (by omega) rfl dX8_comes_397 ?_
                  refine lv_iconst (v := 2) hx hb dX8_comes_400 (by decide) ?_
                  refine r_ialdN C0 X hP 102 (k := 2) ⟨by decide, rfl⟩ rfl (by decide) dX8_comes_401 ?_
                  obtain ⟨σ_50, eσ_50, h⟩ := bnd h
                  refine r_cv X hS (r_runS (As := [.ref (ad 95), .int (σ 95 1), .int 2, .int (σ_49 102 2)]) (rest := []) C0 X hP L_X8_97 (fun sz => c_X8_puts l D cA ad o σ_49 95 (σ 95 1) 2 (σ_49 102 2) ⟨by decide, rfl⟩ σ_50 eσ_50 sz) ⟨Nat.le_of_ble_eq_true rfl, Nat.le_of_ble_eq_true rfl⟩ rfl hl.1 rfl (Nat.le_of_ble_eq_true rfl) dX8_comes_402 ⟨Nat.zero_le _, Nat.zero_le _⟩) (fun σ9 H locs hw hP hS => ?_)
                  rw [show σ9 = σ_50 from hw] at hP
                  refine lv_aload_n hx hb dX8_comes_405 rfl (lv_at hl 4 rfl) ?_
                  refine gf_X8_19 C0 X hP 91 (q := 95) ⟨by decide, rfl⟩ (by omega) rfl dX8_comes_406 ?_
                  refine lv_iload hx hb dX8_comes_409 (lv_at hl 0 rfl) ?_
                  refine lv_iconst (v := 4) hx hb dX8_comes_411 (by decide) ?_
                  refine lv_aload_n hx hb dX8_comes_412 rfl (lv_at hl 4 rfl) ?_
                  refine gf_X8_40 C0 X hP 91 (q := 102) ⟨by decide, rfl⟩ (by omega) rfl dX8_comes_413 ?_
                  refine lv_iconst (v := 3) hx hb dX8_comes_416 (by decide) ?_
                  refine r_ialdN C0 X hP 102 (k := 3) ⟨by decide, rfl⟩ rfl (by decide) dX8_comes_417 ?_
                  obtain ⟨σ_51, eσ_51, h⟩ := bnd h
                  refine r_cv X hS (r_runS (As := [.ref (ad 95), .int (σ 95 1), .int 4, .int (σ_50 102 3)]) (rest := []) C0 X hP L_X8_97 (fun sz => c_X8_puts l D cA ad o σ_50 95 (σ 95 1) 4 (σ_50 102 3) ⟨by decide, rfl⟩ σ_51 eσ_51 sz) ⟨Nat.le_of_ble_eq_true rfl, Nat.le_of_ble_eq_true rfl⟩ rfl hl.1 rfl (Nat.le_of_ble_eq_true rfl) dX8_comes_418 ⟨Nat.zero_le _, Nat.zero_le _⟩) (fun σ9 H locs hw hP hS => ?_)
                  rw [show σ9 = σ_51 from hw] at hP
                  refine lv_aload_n hx hb dX8_comes_421 rfl (lv_at hl 4 rfl) ?_
                  refine gf_X8_19 C0 X hP 91 (q := 95) ⟨by decide, rfl⟩ (by omega) rfl dX8_comes_422 ?_
                  refine lv_iload hx hb dX8_comes_425 (lv_at hl 0 rfl) ?_
                  refine lv_bipush (v := 10) hx hb dX8_comes_427 (by decide) ?_
                  refine lv_iconst (v := 0) hx hb dX8_comes_429 (by decide) ?_
                  obtain ⟨σ_52, eσ_52, h⟩ := bnd h
                  refine r_cv X hS (r_runS (As := [.ref (ad 95), .int (σ 95 1), .int 10, .int 0]) (rest := []) C0 X hP L_X8_97 (fun sz => c_X8_puts l D cA ad o σ_51 95 (σ 95 1) 10 0 ⟨by decide, rfl⟩ σ_52 eσ_52 sz) ⟨Nat.le_of_ble_eq_true rfl, Nat.le_of_ble_eq_true rfl⟩ rfl hl.1 rfl (Nat.le_of_ble_eq_true rfl) dX8_comes_430 ⟨Nat.zero_le _, Nat.zero_le _⟩) (fun σ9 H locs hw hP hS => ?_)
                  rw [show σ9 = σ_52 from hw] at hP
                  refine lv_aload_n hx hb dX8_comes_433 rfl (lv_at hl 4 rfl) ?_
                  refine gf_X8_19 C0 X hP 91 (q := 95) ⟨by decide, rfl⟩ (by omega) rfl dX8_comes_434 ?_
                  refine lv_iload hx hb dX8_comes_437 (lv_at hl 0 rfl) ?_
                  obtain ⟨σ_53, eσ_53, h⟩ := bnd h
                  refine r_cv X hS (r_runS (As := [.ref (ad 95), .int (σ 95 1)]) (rest := []) C0 X hP L_X8_101 (fun sz => c_X8_begins l D cA ad o σ_52 95 (σ 95 1) ⟨by decide, rfl⟩ σ_53 eσ_53 sz) ⟨Nat.le_of_ble_eq_true rfl, Nat.le_of_ble_eq_true rfl⟩ rfl hl.1 rfl (Nat.le_of_ble_eq_true rfl) dX8_comes_439 ⟨Nat.zero_le _, Nat.zero_le _⟩) (fun σ9 H locs hw hP hS => ?_)
                  rw [show σ9 = σ_53 from hw] at hP
                  refine lv_aload_n hx hb dX8_comes_442 rfl (lv_at hl 4 rfl) ?_
                  refine gf_X8_19 C0 X hP 91 (q := 95) ⟨by decide, rfl⟩ (by omega) rfl dX8_comes_443 ?_
                  refine lv_iconst (v := 1) hx hb dX8_comes_446 (by decide) ?_
                  refine lv_dup2_11 hx hb dX8_comes_447 rfl rfl ?_
                  refine r_ialdN C0 X hP 95 (k := 1) ⟨by decide, rfl⟩ rfl (by decide) dX8_comes_448 ?_
                  refine lv_iconst (v := 1) hx hb dX8_comes_449 (by decide) ?_
                  refine lv_iadd hx hb dX8_comes_450 ?_
                  refine r_iastN C0 X hP hS 95 (k := 1) ⟨by decide, rfl⟩ rfl (by decide) dX8_comes_451 (fun H locs hP hS => ?_)
                  refine lv_iconst (v := 1) hx hb dX8_comes_452 (by decide) ?_
                  exact r_zret C0 X hP hS hr hlk dX8_comes_453 (Or.inr rfl) (rt2 h)
              · replace h := it_t h c_38
                refine lv_iconst (v := 0) hx hb dX8_comes_335 (by decide) ?_
                exact r_zret C0 X hP hS hr hlk dX8_comes_336 (Or.inl rfl) (rt2 h)
      · have e_54 : x1 = 114 := sw_eq c_2 (by decide)
        replace h := it_f h (show ¬ x1 = 112 by rw [e_54]; decide)
        replace h := it_t h e_54
        refine lv_tableIn (off := 140) (tgt := 171) hx hb dX8_comes_31 (by rw [e_54]; decide) (by rw [e_54]; decide) (by rw [e_54]; rfl) (by decide) ?_
        refine lv_iload_n hx hb dX8_comes_171 rfl (lv_at hl 2 rfl) ?_
        refine lv_if_ne (tgt := 199) hx hb dX8_comes_172 (by decide) (fun c_55 => absurd c_55 (by decide)) (fun _ => ?_)
        refine lv_iload_n hx hb dX8_comes_175 rfl (lv_at hl 1 rfl) ?_
        refine lv_i2l (v := ((σ 102 0).toInt64)) hx hb dX8_comes_176 rfl ?_
        refine lv_lconst (v := ((1 : Int32).toInt64)) hx hb dX8_comes_177 (by decide) ?_
        refine lv_aload_n hx hb dX8_comes_178 rfl (lv_at hl 3 rfl) ?_
        refine gf_X8_19 C0 X hP 91 (q := 95) ⟨by decide, rfl⟩ (by omega) rfl dX8_comes_179 ?_
        refine lv_iconst (v := 0) hx hb dX8_comes_182 (by decide) ?_
        refine r_ialdN C0 X hP 95 (k := 0) ⟨by decide, rfl⟩ rfl (by decide) dX8_comes_183 ?_
        refine lv_iconst (v := 1) hx hb dX8_comes_184 (by decide) ?_
        refine lv_isub hx hb dX8_comes_185 ?_
        refine lv_i2l (v := (((σ 95 0) - 1).toInt64)) hx hb dX8_comes_186 rfl ?_
        refine r_ci X hS (r_runS (As := [.long ((σ 102 0).toInt64), .long ((1 : Int32).toInt64), .long (((σ 95 0) - 1).toInt64)]) (rest := []) C0 X hP L_X8_53 (fun sz => c_X8_isIn l D cA ad o σ (σ 102 0) 1 ((σ 95 0) - 1) sz) ⟨Nat.le_of_ble_eq_true rfl, Nat.le_of_ble_eq_true rfl⟩ rfl hl.1 rfl (Nat.le_of_ble_eq_true rfl) dX8_comes_187 ⟨Nat.zero_le _, Nat.zero_le _⟩) (fun r9 σ9 H locs hw hP hS => ?_)
        rw [hw.2] at hP
        obtain ⟨⟨b_56, rfl⟩ | ⟨b_56, rfl⟩, -⟩ := hw
        · replace h := it_f h (inn b_56)
          refine lv_if_eq (tgt := 199) hx hb dX8_comes_190 (by decide) (fun c_57 => absurd c_57 (by decide)) (fun _ => ?_)
          refine lv_iload hx hb dX8_comes_193 (lv_at hl 0 rfl) ?_
          refine lv_iconst (v := 4) hx hb dX8_comes_195 (by decide) ?_
          refine lv_icmp_le (tgt := 201) hx hb dX8_comes_196 (by decide) (fun c_58 => ?_) (fun c_58 => ?_)
          · replace h := it_t h c_58
            refine lv_aload_n hx hb dX8_comes_201 rfl (lv_at hl 3 rfl) ?_
            refine gf_X8_19 C0 X hP 91 (q := 95) ⟨by decide, rfl⟩ (by omega) rfl dX8_comes_202 ?_
            refine lv_iconst (v := 5) hx hb dX8_comes_205 (by decide) ?_
            refine lv_iload_n hx hb dX8_comes_206 rfl (lv_at hl 1 rfl) ?_
            refine lv_iadd hx hb dX8_comes_207 ?_
            refine lv_iload hx hb dX8_comes_208 (lv_at hl 0 rfl) ?_
            obtain ⟨k_59, ek_59, h⟩ := bnd h
            replace ek_59 := ix_s ek_59 (by decide)
            refine r_iastN C0 X hP hS 95 (k := k_59) ⟨by decide, rfl⟩ ek_59.1 ek_59.2 dX8_comes_210 (fun H locs hP hS => ?_)
            refine lv_iconst (v := 1) hx hb dX8_comes_211 (by decide) ?_
            exact r_zret C0 X hP hS hr hlk dX8_comes_212 (Or.inr rfl) (rt2 h)
          · replace h := it_f h c_58
            refine lv_iconst (v := 0) hx hb dX8_comes_199 (by decide) ?_
            exact r_zret C0 X hP hS hr hlk dX8_comes_200 (Or.inl rfl) (rt2 h)
        · replace h := it_t h b_56
          refine lv_if_eq (tgt := 199) hx hb dX8_comes_190 (by decide) (fun _ => ?_) (fun c_60 => absurd c_60 (by decide))
          refine lv_iconst (v := 0) hx hb dX8_comes_199 (by decide) ?_
          exact r_zret C0 X hP hS hr hlk dX8_comes_200 (Or.inl rfl) (rt2 h)
      · have e_61 : x1 = 115 := sw_eq c_2 (by decide)
        replace h := it_f h (show ¬ x1 = 112 by rw [e_61]; decide)
        replace h := it_f h (show ¬ x1 = 114 by rw [e_61]; decide)
        replace h := it_f h (show ¬ x1 = 118 by rw [e_61]; decide)
        replace h := it_f h (show ¬ x1 = 120 by rw [e_61]; decide)
        refine lv_tableIn (off := 265) (tgt := 296) hx hb dX8_comes_31 (by rw [e_61]; decide) (by rw [e_61]; decide) (by rw [e_61]; rfl) (by decide) ?_
        refine lv_iload_n hx hb dX8_comes_296 rfl (lv_at hl 2 rfl) ?_
        refine lv_if_ne (tgt := 335) hx hb dX8_comes_297 (by decide) (fun c_62 => absurd c_62 (by decide)) (fun _ => ?_)
        refine lv_iload_n hx hb dX8_comes_300 rfl (lv_at hl 1 rfl) ?_
        refine lv_sipush (v := 199) hx hb dX8_comes_301 (by decide) ?_
        refine lv_icmp_gt (tgt := 335) hx hb dX8_comes_304 (by decide) (fun c_63 => ?_) (fun c_63 => ?_)
        · replace h := it_t h c_63
          refine lv_iconst (v := 0) hx hb dX8_comes_335 (by decide) ?_
          exact r_zret C0 X hP hS hr hlk dX8_comes_336 (Or.inl rfl) (rt2 h)
        · replace h := it_f h c_63
          refine lv_iload hx hb dX8_comes_307 (lv_at hl 0 rfl) ?_
          refine lv_iconst (v := 3) hx hb dX8_comes_309 (by decide) ?_
          refine lv_icmp_gt (tgt := 335) hx hb dX8_comes_310 (by decide) (fun c_64 => ?_) (fun c_64 => ?_)
          · replace h := it_t h c_64
            refine lv_iconst (v := 0) hx hb dX8_comes_335 (by decide) ?_
            exact r_zret C0 X hP hS hr hlk dX8_comes_336 (Or.inl rfl) (rt2 h)
          · replace h := it_f h c_64
            refine lv_aload_n hx hb dX8_comes_313 rfl (lv_at hl 3 rfl) ?_
            refine gf_X8_40 C0 X hP 91 (q := 102) ⟨by decide, rfl⟩ (by omega) rfl dX8_comes_314 ?_
            refine lv_iconst (v := 3) hx hb dX8_comes_317 (by decide) ?_
            refine r_ialdN C0 X hP 102 (k := 3) ⟨by decide, rfl⟩ rfl (by decide) dX8_comes_318 ?_
            refine lv_bipush (v := 99) hx hb dX8_comes_319 (by decide) ?_
            refine lv_icmp_gt (tgt := 335) hx hb dX8_comes_321 (by decide) (fun c_65 => ?_) (fun c_65 => ?_)
            · replace h := it_t h c_65
              refine lv_iconst (v := 0) hx hb dX8_comes_335 (by decide) ?_
              exact r_zret C0 X hP hS hr hlk dX8_comes_336 (Or.inl rfl) (rt2 h)
            · replace h := it_f h c_65
              refine lv_aload_n hx hb dX8_comes_324 rfl (lv_at hl 3 rfl) ?_
              refine gf_X8_19 C0 X hP 91 (q := 95) ⟨by decide, rfl⟩ (by omega) rfl dX8_comes_325 ?_
              refine lv_iconst (v := 1) hx hb dX8_comes_328 (by decide) ?_
              refine r_ialdN C0 X hP 95 (k := 1) ⟨by decide, rfl⟩ rfl (by decide) dX8_comes_329 ?_
              refine lv_bipush (v := 7) hx hb dX8_comes_330 (by decide) ?_
              refine lv_icmp_ne (tgt := 337) hx hb dX8_comes_332 (by decide) (fun c_66 => ?_) (fun c_66 => ?_)
              · replace h := it_f h c_66
                refine lv_aload_n hx hb dX8_comes_337 rfl (lv_at hl 3 rfl) ?_
                refine gf_X8_19 C0 X hP 91 (q := 95) ⟨by decide, rfl⟩ (by omega) rfl dX8_comes_338 ?_
                refine lv_iconst (v := 1) hx hb dX8_comes_341 (by decide) ?_
                refine r_ialdN C0 X hP 95 (k := 1) ⟨by decide, rfl⟩ rfl (by decide) dX8_comes_342 ?_
                refine lv_istore (lv' := [(5, .int (σ 95 1)), (4, .int (σ 102 1)), (3, .int (σ 102 0)), (2, .int 0), (0, .ref (ad 91)), (1, .int x1)]) hx hb dX8_comes_343 hl (by decide) rfl (fun ls hl => ?_)
                refine lv_aload_n hx hb dX8_comes_345 rfl (lv_at hl 4 rfl) ?_
                refine gf_X8_19 C0 X hP 91 (q := 95) ⟨by decide, rfl⟩ (by omega) rfl dX8_comes_346 ?_
                refine lv_iload hx hb dX8_comes_349 (lv_at hl 0 rfl) ?_
                refine lv_iconst (v := 0) hx hb dX8_comes_351 (by decide) ?_
                refine lv_iload_n hx hb dX8_comes_352 rfl (lv_at hl 5 rfl) ?_
                refine lv_bipush (v := 117) hx hb dX8_comes_353 (by decide) ?_
                refine lv_icmp_ne (tgt := 362) hx hb dX8_comes_355 (by decide) (fun c_67 => ?_) (fun c_67 => ?_)
                · replace h := it_f h c_67
                  refine lv_iconst (v := (-1)) hx hb dX8_comes_362 (by decide) ?_
                  obtain ⟨σ_68, eσ_68, h⟩ := bnd h
                  refine r_cv X hS (r_runS (As := [.ref (ad 95), .int (σ 95 1), .int 0, .int (-1)]) (rest := []) C0 X hP L_X8_97 (fun sz => c_X8_puts l D cA ad o σ 95 (σ 95 1) 0 (-1) ⟨by decide, rfl⟩ σ_68 eσ_68 sz) ⟨Nat.le_of_ble_eq_true rfl, Nat.le_of_ble_eq_true rfl⟩ rfl hl.1 rfl (Nat.le_of_ble_eq_true rfl) dX8_comes_363 ⟨Nat.zero_le _, Nat.zero_le _⟩) (fun σ9 H locs hw hP hS => ?_)
                  rw [show σ9 = σ_68 from hw] at hP
                  refine lv_aload_n hx hb dX8_comes_366 rfl (lv_at hl 4 rfl) ?_
                  refine gf_X8_19 C0 X hP 91 (q := 95) ⟨by decide, rfl⟩ (by omega) rfl dX8_comes_367 ?_
                  refine lv_iload hx hb dX8_comes_370 (lv_at hl 0 rfl) ?_
                  refine lv_iconst (v := 1) hx hb dX8_comes_372 (by decide) ?_
                  refine lv_iload_n hx hb dX8_comes_373 rfl (lv_at hl 2 rfl) ?_
                  obtain ⟨σ_69, eσ_69, h⟩ := bnd h
                  refine r_cv X hS (r_runS (As := [.ref (ad 95), .int (σ 95 1), .int 1, .int (σ 102 0)]) (rest := []) C0 X hP L_X8_97 (fun sz => c_X8_puts l D cA ad o σ_68 95 (σ 95 1) 1 (σ 102 0) ⟨by decide, rfl⟩ σ_69 eσ_69 sz) ⟨Nat.le_of_ble_eq_true rfl, Nat.le_of_ble_eq_true rfl⟩ rfl hl.1 rfl (Nat.le_of_ble_eq_true rfl) dX8_comes_374 ⟨Nat.zero_le _, Nat.zero_le _⟩) (fun σ9 H locs hw hP hS => ?_)
                  rw [show σ9 = σ_69 from hw] at hP
                  refine lv_aload_n hx hb dX8_comes_377 rfl (lv_at hl 4 rfl) ?_
                  refine gf_X8_19 C0 X hP 91 (q := 95) ⟨by decide, rfl⟩ (by omega) rfl dX8_comes_378 ?_
                  refine lv_iload hx hb dX8_comes_381 (lv_at hl 0 rfl) ?_
                  refine lv_iconst (v := 3) hx hb dX8_comes_383 (by decide) ?_
                  refine lv_iload hx hb dX8_comes_384 (lv_at hl 1 rfl) ?_
                  obtain ⟨σ_70, eσ_70, h⟩ := bnd h
                  refine r_cv X hS (r_runS (As := [.ref (ad 95), .int (σ 95 1), .int 3, .int (σ 102 1)]) (rest := []) C0 X hP L_X8_97 (fun sz => c_X8_puts l D cA ad o σ_69 95 (σ 95 1) 3 (σ 102 1) ⟨by decide, rfl⟩ σ_70 eσ_70 sz) ⟨Nat.le_of_ble_eq_true rfl, Nat.le_of_ble_eq_true rfl⟩ rfl hl.1 rfl (Nat.le_of_ble_eq_true rfl) dX8_comes_386 ⟨Nat.zero_le _, Nat.zero_le _⟩) (fun σ9 H locs hw hP hS => ?_)
                  rw [show σ9 = σ_70 from hw] at hP
                  refine lv_aload_n hx hb dX8_comes_389 rfl (lv_at hl 4 rfl) ?_
                  refine gf_X8_19 C0 X hP 91 (q := 95) ⟨by decide, rfl⟩ (by omega) rfl dX8_comes_390 ?_
                  refine lv_iload hx hb dX8_comes_393 (lv_at hl 0 rfl) ?_
                  refine lv_iconst (v := 2) hx hb dX8_comes_395 (by decide) ?_
                  refine lv_aload_n hx hb dX8_comes_396 rfl (lv_at hl 4 rfl) ?_
                  refine gf_X8_40 C0 X hP 91 (q := 102) ⟨by decide, rfl⟩ (by omega) rfl dX8_comes_397 ?_
                  refine lv_iconst (v := 2) hx hb dX8_comes_400 (by decide) ?_
                  refine r_ialdN C0 X hP 102 (k := 2) ⟨by decide, rfl⟩ rfl (by decide) dX8_comes_401 ?_
                  obtain ⟨σ_71, eσ_71, h⟩ := bnd h
                  refine r_cv X hS (r_runS (As := [.ref (ad 95), .int (σ 95 1), .int 2, .int (σ_70 102 2)]) (rest := []) C0 X hP L_X8_97 (fun sz => c_X8_puts l D cA ad o σ_70 95 (σ 95 1) 2 (σ_70 102 2) ⟨by decide, rfl⟩ σ_71 eσ_71 sz) ⟨Nat.le_of_ble_eq_true rfl, Nat.le_of_ble_eq_true rfl⟩ rfl hl.1 rfl (Nat.le_of_ble_eq_true rfl) dX8_comes_402 ⟨Nat.zero_le _, Nat.zero_le _⟩) (fun σ9 H locs hw hP hS => ?_)
                  rw [show σ9 = σ_71 from hw] at hP
                  refine lv_aload_n hx hb dX8_comes_405 rfl (lv_at hl 4 rfl) ?_
                  refine gf_X8_19 C0 X hP 91 (q := 95) ⟨by decide, rfl⟩ (by omega) rfl dX8_comes_406 ?_
                  refine lv_iload hx hb dX8_comes_409 (lv_at hl 0 rfl) ?_
                  refine lv_iconst (v := 4) hx hb dX8_comes_411 (by decide) ?_
                  refine lv_aload_n hx hb dX8_comes_412 rfl (lv_at hl 4 rfl) ?_
                  refine gf_X8_40 C0 X hP 91 (q := 102) ⟨by decide, rfl⟩ (by omega) rfl dX8_comes_413 ?_
                  refine lv_iconst (v := 3) hx hb dX8_comes_416 (by decide) ?_
                  refine r_ialdN C0 X hP 102 (k := 3) ⟨by decide, rfl⟩ rfl (by decide) dX8_comes_417 ?_
                  obtain ⟨σ_72, eσ_72, h⟩ := bnd h
                  refine r_cv X hS (r_runS (As := [.ref (ad 95), .int (σ 95 1), .int 4, .int (σ_71 102 3)]) (rest := []) C0 X hP L_X8_97 (fun sz => c_X8_puts l D cA ad o σ_71 95 (σ 95 1) 4 (σ_71 102 3) ⟨by decide, rfl⟩ σ_72 eσ_72 sz) ⟨Nat.le_of_ble_eq_true rfl, Nat.le_of_ble_eq_true rfl⟩ rfl hl.1 rfl (Nat.le_of_ble_eq_true rfl) dX8_comes_418 ⟨Nat.zero_le _, Nat.zero_le _⟩) (fun σ9 H locs hw hP hS => ?_)
                  rw [show σ9 = σ_72 from hw] at hP
                  refine lv_aload_n hx hb dX8_comes_421 rfl (lv_at hl 4 rfl) ?_
                  refine gf_X8_19 C0 X hP 91 (q := 95) ⟨by decide, rfl⟩ (by omega) rfl dX8_comes_422 ?_
                  refine lv_iload hx hb dX8_comes_425 (lv_at hl 0 rfl) ?_
                  refine lv_bipush (v := 10) hx hb dX8_comes_427 (by decide) ?_
                  refine lv_iconst (v := 0) hx hb dX8_comes_429 (by decide) ?_
                  obtain ⟨σ_73, eσ_73, h⟩ := bnd h
                  refine r_cv X hS (r_runS (As := [.ref (ad 95), .int (σ 95 1), .int 10, .int 0]) (rest := []) C0 X hP L_X8_97 (fun sz => c_X8_puts l D cA ad o σ_72 95 (σ 95 1) 10 0 ⟨by decide, rfl⟩ σ_73 eσ_73 sz) ⟨Nat.le_of_ble_eq_true rfl, Nat.le_of_ble_eq_true rfl⟩ rfl hl.1 rfl (Nat.le_of_ble_eq_true rfl) dX8_comes_430 ⟨Nat.zero_le _, Nat.zero_le _⟩) (fun σ9 H locs hw hP hS => ?_)
                  rw [show σ9 = σ_73 from hw] at hP
                  refine lv_aload_n hx hb dX8_comes_433 rfl (lv_at hl 4 rfl) ?_
                  refine gf_X8_19 C0 X hP 91 (q := 95) ⟨by decide, rfl⟩ (by omega) rfl dX8_comes_434 ?_
                  refine lv_iload hx hb dX8_comes_437 (lv_at hl 0 rfl) ?_
                  obtain ⟨σ_74, eσ_74, h⟩ := bnd h
                  refine r_cv X hS (r_runS (As := [.ref (ad 95), .int (σ 95 1)]) (rest := []) C0 X hP L_X8_101 (fun sz => c_X8_begins l D cA ad o σ_73 95 (σ 95 1) ⟨by decide, rfl⟩ σ_74 eσ_74 sz) ⟨Nat.le_of_ble_eq_true rfl, Nat.le_of_ble_eq_true rfl⟩ rfl hl.1 rfl (Nat.le_of_ble_eq_true rfl) dX8_comes_439 ⟨Nat.zero_le _, Nat.zero_le _⟩) (fun σ9 H locs hw hP hS => ?_)
                  rw [show σ9 = σ_74 from hw] at hP
                  refine lv_aload_n hx hb dX8_comes_442 rfl (lv_at hl 4 rfl) ?_
                  refine gf_X8_19 C0 X hP 91 (q := 95) ⟨by decide, rfl⟩ (by omega) rfl dX8_comes_443 ?_
                  refine lv_iconst (v := 1) hx hb dX8_comes_446 (by decide) ?_
                  refine lv_dup2_11 hx hb dX8_comes_447 rfl rfl ?_
                  refine r_ialdN C0 X hP 95 (k := 1) ⟨by decide, rfl⟩ rfl (by decide) dX8_comes_448 ?_
                  refine lv_iconst (v := 1) hx hb dX8_comes_449 (by decide) ?_
                  refine lv_iadd hx hb dX8_comes_450 ?_
                  refine r_iastN C0 X hP hS 95 (k := 1) ⟨by decide, rfl⟩ rfl (by decide) dX8_comes_451 (fun H locs hP hS => ?_)
                  refine lv_iconst (v := 1) hx hb dX8_comes_452 (by decide) ?_
                  exact r_zret C0 X hP hS hr hlk dX8_comes_453 (Or.inr rfl) (rt2 h)
                · replace h := it_t h c_67
                  refine lv_iconst (v := 1) hx hb dX8_comes_358 (by decide) ?_
                  refine lv_goto (tgt := 363) hx hb dX8_comes_359 (by decide) ?_
                  obtain ⟨σ_75, eσ_75, h⟩ := bnd h
                  refine r_cv X hS (r_runS (As := [.ref (ad 95), .int (σ 95 1), .int 0, .int 1]) (rest := []) C0 X hP L_X8_97 (fun sz => c_X8_puts l D cA ad o σ 95 (σ 95 1) 0 1 ⟨by decide, rfl⟩ σ_75 eσ_75 sz) ⟨Nat.le_of_ble_eq_true rfl, Nat.le_of_ble_eq_true rfl⟩ rfl hl.1 rfl (Nat.le_of_ble_eq_true rfl) dX8_comes_363 ⟨Nat.zero_le _, Nat.zero_le _⟩) (fun σ9 H locs hw hP hS => ?_)
                  rw [show σ9 = σ_75 from hw] at hP
                  refine lv_aload_n hx hb dX8_comes_366 rfl (lv_at hl 4 rfl) ?_
                  refine gf_X8_19 C0 X hP 91 (q := 95) ⟨by decide, rfl⟩ (by omega) rfl dX8_comes_367 ?_
                  refine lv_iload hx hb dX8_comes_370 (lv_at hl 0 rfl) ?_
                  refine lv_iconst (v := 1) hx hb dX8_comes_372 (by decide) ?_
                  refine lv_iload_n hx hb dX8_comes_373 rfl (lv_at hl 2 rfl) ?_
                  obtain ⟨σ_76, eσ_76, h⟩ := bnd h
                  refine r_cv X hS (r_runS (As := [.ref (ad 95), .int (σ 95 1), .int 1, .int (σ 102 0)]) (rest := []) C0 X hP L_X8_97 (fun sz => c_X8_puts l D cA ad o σ_75 95 (σ 95 1) 1 (σ 102 0) ⟨by decide, rfl⟩ σ_76 eσ_76 sz) ⟨Nat.le_of_ble_eq_true rfl, Nat.le_of_ble_eq_true rfl⟩ rfl hl.1 rfl (Nat.le_of_ble_eq_true rfl) dX8_comes_374 ⟨Nat.zero_le _, Nat.zero_le _⟩) (fun σ9 H locs hw hP hS => ?_)
                  rw [show σ9 = σ_76 from hw] at hP
                  refine lv_aload_n hx hb dX8_comes_377 rfl (lv_at hl 4 rfl) ?_
                  refine gf_X8_19 C0 X hP 91 (q := 95) ⟨by decide, rfl⟩ (by omega) rfl dX8_comes_378 ?_
                  refine lv_iload hx hb dX8_comes_381 (lv_at hl 0 rfl) ?_
                  refine lv_iconst (v := 3) hx hb dX8_comes_383 (by decide) ?_
                  refine lv_iload hx hb dX8_comes_384 (lv_at hl 1 rfl) ?_
                  obtain ⟨σ_77, eσ_77, h⟩ := bnd h
                  refine r_cv X hS (r_runS (As := [.ref (ad 95), .int (σ 95 1), .int 3, .int (σ 102 1)]) (rest := []) C0 X hP L_X8_97 (fun sz => c_X8_puts l D cA ad o σ_76 95 (σ 95 1) 3 (σ 102 1) ⟨by decide, rfl⟩ σ_77 eσ_77 sz) ⟨Nat.le_of_ble_eq_true rfl, Nat.le_of_ble_eq_true rfl⟩ rfl hl.1 rfl (Nat.le_of_ble_eq_true rfl) dX8_comes_386 ⟨Nat.zero_le _, Nat.zero_le _⟩) (fun σ9 H locs hw hP hS => ?_)
                  rw [show σ9 = σ_77 from hw] at hP
                  refine lv_aload_n hx hb dX8_comes_389 rfl (lv_at hl 4 rfl) ?_
                  refine gf_X8_19 C0 X hP 91 (q := 95) ⟨by decide, rfl⟩ (by omega) rfl dX8_comes_390 ?_
                  refine lv_iload hx hb dX8_comes_393 (lv_at hl 0 rfl) ?_
                  refine lv_iconst (v := 2) hx hb dX8_comes_395 (by decide) ?_
                  refine lv_aload_n hx hb dX8_comes_396 rfl (lv_at hl 4 rfl) ?_
                  refine gf_X8_40 C0 X hP 91 (q := 102) ⟨by decide, rfl⟩ (by omega) rfl dX8_comes_397 ?_
                  refine lv_iconst (v := 2) hx hb dX8_comes_400 (by decide) ?_
                  refine r_ialdN C0 X hP 102 (k := 2) ⟨by decide, rfl⟩ rfl (by decide) dX8_comes_401 ?_
                  obtain ⟨σ_78, eσ_78, h⟩ := bnd h
                  refine r_cv X hS (r_runS (As := [.ref (ad 95), .int (σ 95 1), .int 2, .int (σ_77 102 2)]) (rest := []) C0 X hP L_X8_97 (fun sz => c_X8_puts l D cA ad o σ_77 95 (σ 95 1) 2 (σ_77 102 2) ⟨by decide, rfl⟩ σ_78 eσ_78 sz) ⟨Nat.le_of_ble_eq_true rfl, Nat.le_of_ble_eq_true rfl⟩ rfl hl.1 rfl (Nat.le_of_ble_eq_true rfl) dX8_comes_402 ⟨Nat.zero_le _, Nat.zero_le _⟩) (fun σ9 H locs hw hP hS => ?_)
                  rw [show σ9 = σ_78 from hw] at hP
                  refine lv_aload_n hx hb dX8_comes_405 rfl (lv_at hl 4 rfl) ?_
                  refine gf_X8_19 C0 X hP 91 (q := 95) ⟨by decide, rfl⟩ (by omega) rfl dX8_comes_406 ?_
                  refine lv_iload hx hb dX8_comes_409 (lv_at hl 0 rfl) ?_
                  refine lv_iconst (v := 4) hx hb dX8_comes_411 (by decide) ?_
                  refine lv_aload_n hx hb dX8_comes_412 rfl (lv_at hl 4 rfl) ?_
                  refine gf_X8_40 C0 X hP 91 (q := 102) ⟨by decide, rfl⟩ (by omega) rfl dX8_comes_413 ?_
                  refine lv_iconst (v := 3) hx hb dX8_comes_416 (by decide) ?_
                  refine r_ialdN C0 X hP 102 (k := 3) ⟨by decide, rfl⟩ rfl (by decide) dX8_comes_417 ?_
                  obtain ⟨σ_79, eσ_79, h⟩ := bnd h
                  refine r_cv X hS (r_runS (As := [.ref (ad 95), .int (σ 95 1), .int 4, .int (σ_78 102 3)]) (rest := []) C0 X hP L_X8_97 (fun sz => c_X8_puts l D cA ad o σ_78 95 (σ 95 1) 4 (σ_78 102 3) ⟨by decide, rfl⟩ σ_79 eσ_79 sz) ⟨Nat.le_of_ble_eq_true rfl, Nat.le_of_ble_eq_true rfl⟩ rfl hl.1 rfl (Nat.le_of_ble_eq_true rfl) dX8_comes_418 ⟨Nat.zero_le _, Nat.zero_le _⟩) (fun σ9 H locs hw hP hS => ?_)
                  rw [show σ9 = σ_79 from hw] at hP
                  refine lv_aload_n hx hb dX8_comes_421 rfl (lv_at hl 4 rfl) ?_
                  refine gf_X8_19 C0 X hP 91 (q := 95) ⟨by decide, rfl⟩ (by omega) rfl dX8_comes_422 ?_
                  refine lv_iload hx hb dX8_comes_425 (lv_at hl 0 rfl) ?_
                  refine lv_bipush (v := 10) hx hb dX8_comes_427 (by decide) ?_
                  refine lv_iconst (v := 0) hx hb dX8_comes_429 (by decide) ?_
                  obtain ⟨σ_80, eσ_80, h⟩ := bnd h
                  refine r_cv X hS (r_runS (As := [.ref (ad 95), .int (σ 95 1), .int 10, .int 0]) (rest := []) C0 X hP L_X8_97 (fun sz => c_X8_puts l D cA ad o σ_79 95 (σ 95 1) 10 0 ⟨by decide, rfl⟩ σ_80 eσ_80 sz) ⟨Nat.le_of_ble_eq_true rfl, Nat.le_of_ble_eq_true rfl⟩ rfl hl.1 rfl (Nat.le_of_ble_eq_true rfl) dX8_comes_430 ⟨Nat.zero_le _, Nat.zero_le _⟩) (fun σ9 H locs hw hP hS => ?_)
                  rw [show σ9 = σ_80 from hw] at hP
                  refine lv_aload_n hx hb dX8_comes_433 rfl (lv_at hl 4 rfl) ?_
                  refine gf_X8_19 C0 X hP 91 (q := 95) ⟨by decide, rfl⟩ (by omega) rfl dX8_comes_434 ?_
                  refine lv_iload hx hb dX8_comes_437 (lv_at hl 0 rfl) ?_
                  obtain ⟨σ_81, eσ_81, h⟩ := bnd h
                  refine r_cv X hS (r_runS (As := [.ref (ad 95), .int (σ 95 1)]) (rest := []) C0 X hP L_X8_101 (fun sz => c_X8_begins l D cA ad o σ_80 95 (σ 95 1) ⟨by decide, rfl⟩ σ_81 eσ_81 sz) ⟨Nat.le_of_ble_eq_true rfl, Nat.le_of_ble_eq_true rfl⟩ rfl hl.1 rfl (Nat.le_of_ble_eq_true rfl) dX8_comes_439 ⟨Nat.zero_le _, Nat.zero_le _⟩) (fun σ9 H locs hw hP hS => ?_)
                  rw [show σ9 = σ_81 from hw] at hP
                  refine lv_aload_n hx hb dX8_comes_442 rfl (lv_at hl 4 rfl) ?_
                  refine gf_X8_19 C0 X hP 91 (q := 95) ⟨by decide, rfl⟩ (by omega) rfl dX8_comes_443 ?_
                  refine lv_iconst (v := 1) hx hb dX8_comes_446 (by decide) ?_
                  refine lv_dup2_11 hx hb dX8_comes_447 rfl rfl ?_
                  refine r_ialdN C0 X hP 95 (k := 1) ⟨by decide, rfl⟩ rfl (by decide) dX8_comes_448 ?_
                  refine lv_iconst (v := 1) hx hb dX8_comes_449 (by decide) ?_
                  refine lv_iadd hx hb dX8_comes_450 ?_
                  refine r_iastN C0 X hP hS 95 (k := 1) ⟨by decide, rfl⟩ rfl (by decide) dX8_comes_451 (fun H locs hP hS => ?_)
                  refine lv_iconst (v := 1) hx hb dX8_comes_452 (by decide) ?_
                  exact r_zret C0 X hP hS hr hlk dX8_comes_453 (Or.inr rfl) (rt2 h)
              · replace h := it_t h c_66
                refine lv_iconst (v := 0) hx hb dX8_comes_335 (by decide) ?_
                exact r_zret C0 X hP hS hr hlk dX8_comes_336 (Or.inl rfl) (rt2 h)
      · have e_82 : x1 = 116 := sw_eq c_2 (by decide)
        replace h := it_f h (show ¬ x1 = 112 by rw [e_82]; decide)
        replace h := it_f h (show ¬ x1 = 114 by rw [e_82]; decide)
        replace h := it_f h (show ¬ x1 = 118 by rw [e_82]; decide)
        replace h := it_f h (show ¬ x1 = 120 by rw [e_82]; decide)
        refine lv_tableIn (off := 265) (tgt := 296) hx hb dX8_comes_31 (by rw [e_82]; decide) (by rw [e_82]; decide) (by rw [e_82]; rfl) (by decide) ?_
        refine lv_iload_n hx hb dX8_comes_296 rfl (lv_at hl 2 rfl) ?_
        refine lv_if_ne (tgt := 335) hx hb dX8_comes_297 (by decide) (fun c_83 => absurd c_83 (by decide)) (fun _ => ?_)
        refine lv_iload_n hx hb dX8_comes_300 rfl (lv_at hl 1 rfl) ?_
        refine lv_sipush (v := 199) hx hb dX8_comes_301 (by decide) ?_
        refine lv_icmp_gt (tgt := 335) hx hb dX8_comes_304 (by decide) (fun c_84 => ?_) (fun c_84 => ?_)
        · replace h := it_t h c_84
          refine lv_iconst (v := 0) hx hb dX8_comes_335 (by decide) ?_
          exact r_zret C0 X hP hS hr hlk dX8_comes_336 (Or.inl rfl) (rt2 h)
        · replace h := it_f h c_84
          refine lv_iload hx hb dX8_comes_307 (lv_at hl 0 rfl) ?_
          refine lv_iconst (v := 3) hx hb dX8_comes_309 (by decide) ?_
          refine lv_icmp_gt (tgt := 335) hx hb dX8_comes_310 (by decide) (fun c_85 => ?_) (fun c_85 => ?_)
          · replace h := it_t h c_85
            refine lv_iconst (v := 0) hx hb dX8_comes_335 (by decide) ?_
            exact r_zret C0 X hP hS hr hlk dX8_comes_336 (Or.inl rfl) (rt2 h)
          · replace h := it_f h c_85
            refine lv_aload_n hx hb dX8_comes_313 rfl (lv_at hl 3 rfl) ?_
            refine gf_X8_40 C0 X hP 91 (q := 102) ⟨by decide, rfl⟩ (by omega) rfl dX8_comes_314 ?_
            refine lv_iconst (v := 3) hx hb dX8_comes_317 (by decide) ?_
            refine r_ialdN C0 X hP 102 (k := 3) ⟨by decide, rfl⟩ rfl (by decide) dX8_comes_318 ?_
            refine lv_bipush (v := 99) hx hb dX8_comes_319 (by decide) ?_
            refine lv_icmp_gt (tgt := 335) hx hb dX8_comes_321 (by decide) (fun c_86 => ?_) (fun c_86 => ?_)
            · replace h := it_t h c_86
              refine lv_iconst (v := 0) hx hb dX8_comes_335 (by decide) ?_
              exact r_zret C0 X hP hS hr hlk dX8_comes_336 (Or.inl rfl) (rt2 h)
            · replace h := it_f h c_86
              refine lv_aload_n hx hb dX8_comes_324 rfl (lv_at hl 3 rfl) ?_
              refine gf_X8_19 C0 X hP 91 (q := 95) ⟨by decide, rfl⟩ (by omega) rfl dX8_comes_325 ?_
              refine lv_iconst (v := 1) hx hb dX8_comes_328 (by decide) ?_
              refine r_ialdN C0 X hP 95 (k := 1) ⟨by decide, rfl⟩ rfl (by decide) dX8_comes_329 ?_
              refine lv_bipush (v := 7) hx hb dX8_comes_330 (by decide) ?_
              refine lv_icmp_ne (tgt := 337) hx hb dX8_comes_332 (by decide) (fun c_87 => ?_) (fun c_87 => ?_)
              · replace h := it_f h c_87
                refine lv_aload_n hx hb dX8_comes_337 rfl (lv_at hl 3 rfl) ?_
                refine gf_X8_19 C0 X hP 91 (q := 95) ⟨by decide, rfl⟩ (by omega) rfl dX8_comes_338 ?_
                refine lv_iconst (v := 1) hx hb dX8_comes_341 (by decide) ?_
                refine r_ialdN C0 X hP 95 (k := 1) ⟨by decide, rfl⟩ rfl (by decide) dX8_comes_342 ?_
                refine lv_istore (lv' := [(5, .int (σ 95 1)), (4, .int (σ 102 1)), (3, .int (σ 102 0)), (2, .int 0), (0, .ref (ad 91)), (1, .int x1)]) hx hb dX8_comes_343 hl (by decide) rfl (fun ls hl => ?_)
                refine lv_aload_n hx hb dX8_comes_345 rfl (lv_at hl 4 rfl) ?_
                refine gf_X8_19 C0 X hP 91 (q := 95) ⟨by decide, rfl⟩ (by omega) rfl dX8_comes_346 ?_
                refine lv_iload hx hb dX8_comes_349 (lv_at hl 0 rfl) ?_
                refine lv_iconst (v := 0) hx hb dX8_comes_351 (by decide) ?_
                refine lv_iload_n hx hb dX8_comes_352 rfl (lv_at hl 5 rfl) ?_
                refine lv_bipush (v := 117) hx hb dX8_comes_353 (by decide) ?_
                refine lv_icmp_ne (tgt := 362) hx hb dX8_comes_355 (by decide) (fun c_88 => ?_) (fun c_88 => ?_)
                · replace h := it_f h c_88
                  refine lv_iconst (v := (-1)) hx hb dX8_comes_362 (by decide) ?_
                  obtain ⟨σ_89, eσ_89, h⟩ := bnd h
                  refine r_cv X hS (r_runS (As := [.ref (ad 95), .int (σ 95 1), .int 0, .int (-1)]) (rest := []) C0 X hP L_X8_97 (fun sz => c_X8_puts l D cA ad o σ 95 (σ 95 1) 0 (-1) ⟨by decide, rfl⟩ σ_89 eσ_89 sz) ⟨Nat.le_of_ble_eq_true rfl, Nat.le_of_ble_eq_true rfl⟩ rfl hl.1 rfl (Nat.le_of_ble_eq_true rfl) dX8_comes_363 ⟨Nat.zero_le _, Nat.zero_le _⟩) (fun σ9 H locs hw hP hS => ?_)
                  rw [show σ9 = σ_89 from hw] at hP
                  refine lv_aload_n hx hb dX8_comes_366 rfl (lv_at hl 4 rfl) ?_
                  refine gf_X8_19 C0 X hP 91 (q := 95) ⟨by decide, rfl⟩ (by omega) rfl dX8_comes_367 ?_
                  refine lv_iload hx hb dX8_comes_370 (lv_at hl 0 rfl) ?_
                  refine lv_iconst (v := 1) hx hb dX8_comes_372 (by decide) ?_
                  refine lv_iload_n hx hb dX8_comes_373 rfl (lv_at hl 2 rfl) ?_
                  obtain ⟨σ_90, eσ_90, h⟩ := bnd h
                  refine r_cv X hS (r_runS (As := [.ref (ad 95), .int (σ 95 1), .int 1, .int (σ 102 0)]) (rest := []) C0 X hP L_X8_97 (fun sz => c_X8_puts l D cA ad o σ_89 95 (σ 95 1) 1 (σ 102 0) ⟨by decide, rfl⟩ σ_90 eσ_90 sz) ⟨Nat.le_of_ble_eq_true rfl, Nat.le_of_ble_eq_true rfl⟩ rfl hl.1 rfl (Nat.le_of_ble_eq_true rfl) dX8_comes_374 ⟨Nat.zero_le _, Nat.zero_le _⟩) (fun σ9 H locs hw hP hS => ?_)
                  rw [show σ9 = σ_90 from hw] at hP
                  refine lv_aload_n hx hb dX8_comes_377 rfl (lv_at hl 4 rfl) ?_
                  refine gf_X8_19 C0 X hP 91 (q := 95) ⟨by decide, rfl⟩ (by omega) rfl dX8_comes_378 ?_
                  refine lv_iload hx hb dX8_comes_381 (lv_at hl 0 rfl) ?_
                  refine lv_iconst (v := 3) hx hb dX8_comes_383 (by decide) ?_
                  refine lv_iload hx hb dX8_comes_384 (lv_at hl 1 rfl) ?_
                  obtain ⟨σ_91, eσ_91, h⟩ := bnd h
                  refine r_cv X hS (r_runS (As := [.ref (ad 95), .int (σ 95 1), .int 3, .int (σ 102 1)]) (rest := []) C0 X hP L_X8_97 (fun sz => c_X8_puts l D cA ad o σ_90 95 (σ 95 1) 3 (σ 102 1) ⟨by decide, rfl⟩ σ_91 eσ_91 sz) ⟨Nat.le_of_ble_eq_true rfl, Nat.le_of_ble_eq_true rfl⟩ rfl hl.1 rfl (Nat.le_of_ble_eq_true rfl) dX8_comes_386 ⟨Nat.zero_le _, Nat.zero_le _⟩) (fun σ9 H locs hw hP hS => ?_)
                  rw [show σ9 = σ_91 from hw] at hP
                  refine lv_aload_n hx hb dX8_comes_389 rfl (lv_at hl 4 rfl) ?_
                  refine gf_X8_19 C0 X hP 91 (q := 95) ⟨by decide, rfl⟩ (by omega) rfl dX8_comes_390 ?_
                  refine lv_iload hx hb dX8_comes_393 (lv_at hl 0 rfl) ?_
                  refine lv_iconst (v := 2) hx hb dX8_comes_395 (by decide) ?_
                  refine lv_aload_n hx hb dX8_comes_396 rfl (lv_at hl 4 rfl) ?_
                  refine gf_X8_40 C0 X hP 91 (q := 102) ⟨by decide, rfl⟩ (by omega) rfl dX8_comes_397 ?_
                  refine lv_iconst (v := 2) hx hb dX8_comes_400 (by decide) ?_
                  refine r_ialdN C0 X hP 102 (k := 2) ⟨by decide, rfl⟩ rfl (by decide) dX8_comes_401 ?_
                  obtain ⟨σ_92, eσ_92, h⟩ := bnd h
                  refine r_cv X hS (r_runS (As := [.ref (ad 95), .int (σ 95 1), .int 2, .int (σ_91 102 2)]) (rest := []) C0 X hP L_X8_97 (fun sz => c_X8_puts l D cA ad o σ_91 95 (σ 95 1) 2 (σ_91 102 2) ⟨by decide, rfl⟩ σ_92 eσ_92 sz) ⟨Nat.le_of_ble_eq_true rfl, Nat.le_of_ble_eq_true rfl⟩ rfl hl.1 rfl (Nat.le_of_ble_eq_true rfl) dX8_comes_402 ⟨Nat.zero_le _, Nat.zero_le _⟩) (fun σ9 H locs hw hP hS => ?_)
                  rw [show σ9 = σ_92 from hw] at hP
                  refine lv_aload_n hx hb dX8_comes_405 rfl (lv_at hl 4 rfl) ?_
                  refine gf_X8_19 C0 X hP 91 (q := 95) ⟨by decide, rfl⟩ (by omega) rfl dX8_comes_406 ?_
                  refine lv_iload hx hb dX8_comes_409 (lv_at hl 0 rfl) ?_
                  refine lv_iconst (v := 4) hx hb dX8_comes_411 (by decide) ?_
                  refine lv_aload_n hx hb dX8_comes_412 rfl (lv_at hl 4 rfl) ?_
                  refine gf_X8_40 C0 X hP 91 (q := 102) ⟨by decide, rfl⟩ (by omega) rfl dX8_comes_413 ?_
                  refine lv_iconst (v := 3) hx hb dX8_comes_416 (by decide) ?_
                  refine r_ialdN C0 X hP 102 (k := 3) ⟨by decide, rfl⟩ rfl (by decide) dX8_comes_417 ?_
                  obtain ⟨σ_93, eσ_93, h⟩ := bnd h
                  refine r_cv X hS (r_runS (As := [.ref (ad 95), .int (σ 95 1), .int 4, .int (σ_92 102 3)]) (rest := []) C0 X hP L_X8_97 (fun sz => c_X8_puts l D cA ad o σ_92 95 (σ 95 1) 4 (σ_92 102 3) ⟨by decide, rfl⟩ σ_93 eσ_93 sz) ⟨Nat.le_of_ble_eq_true rfl, Nat.le_of_ble_eq_true rfl⟩ rfl hl.1 rfl (Nat.le_of_ble_eq_true rfl) dX8_comes_418 ⟨Nat.zero_le _, Nat.zero_le _⟩) (fun σ9 H locs hw hP hS => ?_)
                  rw [show σ9 = σ_93 from hw] at hP
                  refine lv_aload_n hx hb dX8_comes_421 rfl (lv_at hl 4 rfl) ?_
                  refine gf_X8_19 C0 X hP 91 (q := 95) ⟨by decide, rfl⟩ (by omega) rfl dX8_comes_422 ?_
                  refine lv_iload hx hb dX8_comes_425 (lv_at hl 0 rfl) ?_
                  refine lv_bipush (v := 10) hx hb dX8_comes_427 (by decide) ?_
                  refine lv_iconst (v := 0) hx hb dX8_comes_429 (by decide) ?_
                  obtain ⟨σ_94, eσ_94, h⟩ := bnd h
                  refine r_cv X hS (r_runS (As := [.ref (ad 95), .int (σ 95 1), .int 10, .int 0]) (rest := []) C0 X hP L_X8_97 (fun sz => c_X8_puts l D cA ad o σ_93 95 (σ 95 1) 10 0 ⟨by decide, rfl⟩ σ_94 eσ_94 sz) ⟨Nat.le_of_ble_eq_true rfl, Nat.le_of_ble_eq_true rfl⟩ rfl hl.1 rfl (Nat.le_of_ble_eq_true rfl) dX8_comes_430 ⟨Nat.zero_le _, Nat.zero_le _⟩) (fun σ9 H locs hw hP hS => ?_)
                  rw [show σ9 = σ_94 from hw] at hP
                  refine lv_aload_n hx hb dX8_comes_433 rfl (lv_at hl 4 rfl) ?_
                  refine gf_X8_19 C0 X hP 91 (q := 95) ⟨by decide, rfl⟩ (by omega) rfl dX8_comes_434 ?_
                  refine lv_iload hx hb dX8_comes_437 (lv_at hl 0 rfl) ?_
                  obtain ⟨σ_95, eσ_95, h⟩ := bnd h
                  refine r_cv X hS (r_runS (As := [.ref (ad 95), .int (σ 95 1)]) (rest := []) C0 X hP L_X8_101 (fun sz => c_X8_begins l D cA ad o σ_94 95 (σ 95 1) ⟨by decide, rfl⟩ σ_95 eσ_95 sz) ⟨Nat.le_of_ble_eq_true rfl, Nat.le_of_ble_eq_true rfl⟩ rfl hl.1 rfl (Nat.le_of_ble_eq_true rfl) dX8_comes_439 ⟨Nat.zero_le _, Nat.zero_le _⟩) (fun σ9 H locs hw hP hS => ?_)
                  rw [show σ9 = σ_95 from hw] at hP
                  refine lv_aload_n hx hb dX8_comes_442 rfl (lv_at hl 4 rfl) ?_
                  refine gf_X8_19 C0 X hP 91 (q := 95) ⟨by decide, rfl⟩ (by omega) rfl dX8_comes_443 ?_
                  refine lv_iconst (v := 1) hx hb dX8_comes_446 (by decide) ?_
                  refine lv_dup2_11 hx hb dX8_comes_447 rfl rfl ?_
                  refine r_ialdN C0 X hP 95 (k := 1) ⟨by decide, rfl⟩ rfl (by decide) dX8_comes_448 ?_
                  refine lv_iconst (v := 1) hx hb dX8_comes_449 (by decide) ?_
                  refine lv_iadd hx hb dX8_comes_450 ?_
                  refine r_iastN C0 X hP hS 95 (k := 1) ⟨by decide, rfl⟩ rfl (by decide) dX8_comes_451 (fun H locs hP hS => ?_)
                  refine lv_iconst (v := 1) hx hb dX8_comes_452 (by decide) ?_
                  exact r_zret C0 X hP hS hr hlk dX8_comes_453 (Or.inr rfl) (rt2 h)
                · replace h := it_t h c_88
                  refine lv_iconst (v := 1) hx hb dX8_comes_358 (by decide) ?_
                  refine lv_goto (tgt := 363) hx hb dX8_comes_359 (by decide) ?_
                  obtain ⟨σ_96, eσ_96, h⟩ := bnd h
                  refine r_cv X hS (r_runS (As := [.ref (ad 95), .int (σ 95 1), .int 0, .int 1]) (rest := []) C0 X hP L_X8_97 (fun sz => c_X8_puts l D cA ad o σ 95 (σ 95 1) 0 1 ⟨by decide, rfl⟩ σ_96 eσ_96 sz) ⟨Nat.le_of_ble_eq_true rfl, Nat.le_of_ble_eq_true rfl⟩ rfl hl.1 rfl (Nat.le_of_ble_eq_true rfl) dX8_comes_363 ⟨Nat.zero_le _, Nat.zero_le _⟩) (fun σ9 H locs hw hP hS => ?_)
                  rw [show σ9 = σ_96 from hw] at hP
                  refine lv_aload_n hx hb dX8_comes_366 rfl (lv_at hl 4 rfl) ?_
                  refine gf_X8_19 C0 X hP 91 (q := 95) ⟨by decide, rfl⟩ (by omega) rfl dX8_comes_367 ?_
                  refine lv_iload hx hb dX8_comes_370 (lv_at hl 0 rfl) ?_
                  refine lv_iconst (v := 1) hx hb dX8_comes_372 (by decide) ?_
                  refine lv_iload_n hx hb dX8_comes_373 rfl (lv_at hl 2 rfl) ?_
                  obtain ⟨σ_97, eσ_97, h⟩ := bnd h
                  refine r_cv X hS (r_runS (As := [.ref (ad 95), .int (σ 95 1), .int 1, .int (σ 102 0)]) (rest := []) C0 X hP L_X8_97 (fun sz => c_X8_puts l D cA ad o σ_96 95 (σ 95 1) 1 (σ 102 0) ⟨by decide, rfl⟩ σ_97 eσ_97 sz) ⟨Nat.le_of_ble_eq_true rfl, Nat.le_of_ble_eq_true rfl⟩ rfl hl.1 rfl (Nat.le_of_ble_eq_true rfl) dX8_comes_374 ⟨Nat.zero_le _, Nat.zero_le _⟩) (fun σ9 H locs hw hP hS => ?_)
                  rw [show σ9 = σ_97 from hw] at hP
                  refine lv_aload_n hx hb dX8_comes_377 rfl (lv_at hl 4 rfl) ?_
                  refine gf_X8_19 C0 X hP 91 (q := 95) ⟨by decide, rfl⟩ (by omega) rfl dX8_comes_378 ?_
                  refine lv_iload hx hb dX8_comes_381 (lv_at hl 0 rfl) ?_
                  refine lv_iconst (v := 3) hx hb dX8_comes_383 (by decide) ?_
                  refine lv_iload hx hb dX8_comes_384 (lv_at hl 1 rfl) ?_
                  obtain ⟨σ_98, eσ_98, h⟩ := bnd h
                  refine r_cv X hS (r_runS (As := [.ref (ad 95), .int (σ 95 1), .int 3, .int (σ 102 1)]) (rest := []) C0 X hP L_X8_97 (fun sz => c_X8_puts l D cA ad o σ_97 95 (σ 95 1) 3 (σ 102 1) ⟨by decide, rfl⟩ σ_98 eσ_98 sz) ⟨Nat.le_of_ble_eq_true rfl, Nat.le_of_ble_eq_true rfl⟩ rfl hl.1 rfl (Nat.le_of_ble_eq_true rfl) dX8_comes_386 ⟨Nat.zero_le _, Nat.zero_le _⟩) (fun σ9 H locs hw hP hS => ?_)
                  rw [show σ9 = σ_98 from hw] at hP
                  refine lv_aload_n hx hb dX8_comes_389 rfl (lv_at hl 4 rfl) ?_
                  refine gf_X8_19 C0 X hP 91 (q := 95) ⟨by decide, rfl⟩ (by omega) rfl dX8_comes_390 ?_
                  refine lv_iload hx hb dX8_comes_393 (lv_at hl 0 rfl) ?_
                  refine lv_iconst (v := 2) hx hb dX8_comes_395 (by decide) ?_
                  refine lv_aload_n hx hb dX8_comes_396 rfl (lv_at hl 4 rfl) ?_
                  refine gf_X8_40 C0 X hP 91 (q := 102) ⟨by decide, rfl⟩ (by omega) rfl dX8_comes_397 ?_
                  refine lv_iconst (v := 2) hx hb dX8_comes_400 (by decide) ?_
                  refine r_ialdN C0 X hP 102 (k := 2) ⟨by decide, rfl⟩ rfl (by decide) dX8_comes_401 ?_
                  obtain ⟨σ_99, eσ_99, h⟩ := bnd h
                  refine r_cv X hS (r_runS (As := [.ref (ad 95), .int (σ 95 1), .int 2, .int (σ_98 102 2)]) (rest := []) C0 X hP L_X8_97 (fun sz => c_X8_puts l D cA ad o σ_98 95 (σ 95 1) 2 (σ_98 102 2) ⟨by decide, rfl⟩ σ_99 eσ_99 sz) ⟨Nat.le_of_ble_eq_true rfl, Nat.le_of_ble_eq_true rfl⟩ rfl hl.1 rfl (Nat.le_of_ble_eq_true rfl) dX8_comes_402 ⟨Nat.zero_le _, Nat.zero_le _⟩) (fun σ9 H locs hw hP hS => ?_)
                  rw [show σ9 = σ_99 from hw] at hP
                  refine lv_aload_n hx hb dX8_comes_405 rfl (lv_at hl 4 rfl) ?_
                  refine gf_X8_19 C0 X hP 91 (q := 95) ⟨by decide, rfl⟩ (by omega) rfl dX8_comes_406 ?_
                  refine lv_iload hx hb dX8_comes_409 (lv_at hl 0 rfl) ?_
                  refine lv_iconst (v := 4) hx hb dX8_comes_411 (by decide) ?_
                  refine lv_aload_n hx hb dX8_comes_412 rfl (lv_at hl 4 rfl) ?_
                  refine gf_X8_40 C0 X hP 91 (q := 102) ⟨by decide, rfl⟩ (by omega) rfl dX8_comes_413 ?_
                  refine lv_iconst (v := 3) hx hb dX8_comes_416 (by decide) ?_
                  refine r_ialdN C0 X hP 102 (k := 3) ⟨by decide, rfl⟩ rfl (by decide) dX8_comes_417 ?_
                  obtain ⟨σ_100, eσ_100, h⟩ := bnd h
                  refine r_cv X hS (r_runS (As := [.ref (ad 95), .int (σ 95 1), .int 4, .int (σ_99 102 3)]) (rest := []) C0 X hP L_X8_97 (fun sz => c_X8_puts l D cA ad o σ_99 95 (σ 95 1) 4 (σ_99 102 3) ⟨by decide, rfl⟩ σ_100 eσ_100 sz) ⟨Nat.le_of_ble_eq_true rfl, Nat.le_of_ble_eq_true rfl⟩ rfl hl.1 rfl (Nat.le_of_ble_eq_true rfl) dX8_comes_418 ⟨Nat.zero_le _, Nat.zero_le _⟩) (fun σ9 H locs hw hP hS => ?_)
                  rw [show σ9 = σ_100 from hw] at hP
                  refine lv_aload_n hx hb dX8_comes_421 rfl (lv_at hl 4 rfl) ?_
                  refine gf_X8_19 C0 X hP 91 (q := 95) ⟨by decide, rfl⟩ (by omega) rfl dX8_comes_422 ?_
                  refine lv_iload hx hb dX8_comes_425 (lv_at hl 0 rfl) ?_
                  refine lv_bipush (v := 10) hx hb dX8_comes_427 (by decide) ?_
                  refine lv_iconst (v := 0) hx hb dX8_comes_429 (by decide) ?_
                  obtain ⟨σ_101, eσ_101, h⟩ := bnd h
                  refine r_cv X hS (r_runS (As := [.ref (ad 95), .int (σ 95 1), .int 10, .int 0]) (rest := []) C0 X hP L_X8_97 (fun sz => c_X8_puts l D cA ad o σ_100 95 (σ 95 1) 10 0 ⟨by decide, rfl⟩ σ_101 eσ_101 sz) ⟨Nat.le_of_ble_eq_true rfl, Nat.le_of_ble_eq_true rfl⟩ rfl hl.1 rfl (Nat.le_of_ble_eq_true rfl) dX8_comes_430 ⟨Nat.zero_le _, Nat.zero_le _⟩) (fun σ9 H locs hw hP hS => ?_)
                  rw [show σ9 = σ_101 from hw] at hP
                  refine lv_aload_n hx hb dX8_comes_433 rfl (lv_at hl 4 rfl) ?_
                  refine gf_X8_19 C0 X hP 91 (q := 95) ⟨by decide, rfl⟩ (by omega) rfl dX8_comes_434 ?_
                  refine lv_iload hx hb dX8_comes_437 (lv_at hl 0 rfl) ?_
                  obtain ⟨σ_102, eσ_102, h⟩ := bnd h
                  refine r_cv X hS (r_runS (As := [.ref (ad 95), .int (σ 95 1)]) (rest := []) C0 X hP L_X8_101 (fun sz => c_X8_begins l D cA ad o σ_101 95 (σ 95 1) ⟨by decide, rfl⟩ σ_102 eσ_102 sz) ⟨Nat.le_of_ble_eq_true rfl, Nat.le_of_ble_eq_true rfl⟩ rfl hl.1 rfl (Nat.le_of_ble_eq_true rfl) dX8_comes_439 ⟨Nat.zero_le _, Nat.zero_le _⟩) (fun σ9 H locs hw hP hS => ?_)
                  rw [show σ9 = σ_102 from hw] at hP
                  refine lv_aload_n hx hb dX8_comes_442 rfl (lv_at hl 4 rfl) ?_
                  refine gf_X8_19 C0 X hP 91 (q := 95) ⟨by decide, rfl⟩ (by omega) rfl dX8_comes_443 ?_
                  refine lv_iconst (v := 1) hx hb dX8_comes_446 (by decide) ?_
                  refine lv_dup2_11 hx hb dX8_comes_447 rfl rfl ?_
                  refine r_ialdN C0 X hP 95 (k := 1) ⟨by decide, rfl⟩ rfl (by decide) dX8_comes_448 ?_
                  refine lv_iconst (v := 1) hx hb dX8_comes_449 (by decide) ?_
                  refine lv_iadd hx hb dX8_comes_450 ?_
                  refine r_iastN C0 X hP hS 95 (k := 1) ⟨by decide, rfl⟩ rfl (by decide) dX8_comes_451 (fun H locs hP hS => ?_)
                  refine lv_iconst (v := 1) hx hb dX8_comes_452 (by decide) ?_
                  exact r_zret C0 X hP hS hr hlk dX8_comes_453 (Or.inr rfl) (rt2 h)
              · replace h := it_t h c_87
                refine lv_iconst (v := 0) hx hb dX8_comes_335 (by decide) ?_
                exact r_zret C0 X hP hS hr hlk dX8_comes_336 (Or.inl rfl) (rt2 h)
      · have e_103 : x1 = 117 := sw_eq c_2 (by decide)
        replace h := it_f h (show ¬ x1 = 112 by rw [e_103]; decide)
        replace h := it_f h (show ¬ x1 = 114 by rw [e_103]; decide)
        replace h := it_f h (show ¬ x1 = 118 by rw [e_103]; decide)
        replace h := it_f h (show ¬ x1 = 120 by rw [e_103]; decide)
        refine lv_tableIn (off := 265) (tgt := 296) hx hb dX8_comes_31 (by rw [e_103]; decide) (by rw [e_103]; decide) (by rw [e_103]; rfl) (by decide) ?_
        refine lv_iload_n hx hb dX8_comes_296 rfl (lv_at hl 2 rfl) ?_
        refine lv_if_ne (tgt := 335) hx hb dX8_comes_297 (by decide) (fun c_104 => absurd c_104 (by decide)) (fun _ => ?_)
        refine lv_iload_n hx hb dX8_comes_300 rfl (lv_at hl 1 rfl) ?_
        refine lv_sipush (v := 199) hx hb dX8_comes_301 (by decide) ?_
        refine lv_icmp_gt (tgt := 335) hx hb dX8_comes_304 (by decide) (fun c_105 => ?_) (fun c_105 => ?_)
        · replace h := it_t h c_105
          refine lv_iconst (v := 0) hx hb dX8_comes_335 (by decide) ?_
          exact r_zret C0 X hP hS hr hlk dX8_comes_336 (Or.inl rfl) (rt2 h)
        · replace h := it_f h c_105
          refine lv_iload hx hb dX8_comes_307 (lv_at hl 0 rfl) ?_
          refine lv_iconst (v := 3) hx hb dX8_comes_309 (by decide) ?_
          refine lv_icmp_gt (tgt := 335) hx hb dX8_comes_310 (by decide) (fun c_106 => ?_) (fun c_106 => ?_)
          · replace h := it_t h c_106
            refine lv_iconst (v := 0) hx hb dX8_comes_335 (by decide) ?_
            exact r_zret C0 X hP hS hr hlk dX8_comes_336 (Or.inl rfl) (rt2 h)
          · replace h := it_f h c_106
            refine lv_aload_n hx hb dX8_comes_313 rfl (lv_at hl 3 rfl) ?_
            refine gf_X8_40 C0 X hP 91 (q := 102) ⟨by decide, rfl⟩ (by omega) rfl dX8_comes_314 ?_
            refine lv_iconst (v := 3) hx hb dX8_comes_317 (by decide) ?_
            refine r_ialdN C0 X hP 102 (k := 3) ⟨by decide, rfl⟩ rfl (by decide) dX8_comes_318 ?_
            refine lv_bipush (v := 99) hx hb dX8_comes_319 (by decide) ?_
            refine lv_icmp_gt (tgt := 335) hx hb dX8_comes_321 (by decide) (fun c_107 => ?_) (fun c_107 => ?_)
            · replace h := it_t h c_107
              refine lv_iconst (v := 0) hx hb dX8_comes_335 (by decide) ?_
              exact r_zret C0 X hP hS hr hlk dX8_comes_336 (Or.inl rfl) (rt2 h)
            · replace h := it_f h c_107
              refine lv_aload_n hx hb dX8_comes_324 rfl (lv_at hl 3 rfl) ?_
              refine gf_X8_19 C0 X hP 91 (q := 95) ⟨by decide, rfl⟩ (by omega) rfl dX8_comes_325 ?_
              refine lv_iconst (v := 1) hx hb dX8_comes_328 (by decide) ?_
              refine r_ialdN C0 X hP 95 (k := 1) ⟨by decide, rfl⟩ rfl (by decide) dX8_comes_329 ?_
              refine lv_bipush (v := 7) hx hb dX8_comes_330 (by decide) ?_
              refine lv_icmp_ne (tgt := 337) hx hb dX8_comes_332 (by decide) (fun c_108 => ?_) (fun c_108 => ?_)
              · replace h := it_f h c_108
                refine lv_aload_n hx hb dX8_comes_337 rfl (lv_at hl 3 rfl) ?_
                refine gf_X8_19 C0 X hP 91 (q := 95) ⟨by decide, rfl⟩ (by omega) rfl dX8_comes_338 ?_
                refine lv_iconst (v := 1) hx hb dX8_comes_341 (by decide) ?_
                refine r_ialdN C0 X hP 95 (k := 1) ⟨by decide, rfl⟩ rfl (by decide) dX8_comes_342 ?_
                refine lv_istore (lv' := [(5, .int (σ 95 1)), (4, .int (σ 102 1)), (3, .int (σ 102 0)), (2, .int 0), (0, .ref (ad 91)), (1, .int x1)]) hx hb dX8_comes_343 hl (by decide) rfl (fun ls hl => ?_)
                refine lv_aload_n hx hb dX8_comes_345 rfl (lv_at hl 4 rfl) ?_
                refine gf_X8_19 C0 X hP 91 (q := 95) ⟨by decide, rfl⟩ (by omega) rfl dX8_comes_346 ?_
                refine lv_iload hx hb dX8_comes_349 (lv_at hl 0 rfl) ?_
                refine lv_iconst (v := 0) hx hb dX8_comes_351 (by decide) ?_
                refine lv_iload_n hx hb dX8_comes_352 rfl (lv_at hl 5 rfl) ?_
                refine lv_bipush (v := 117) hx hb dX8_comes_353 (by decide) ?_
                refine lv_icmp_ne (tgt := 362) hx hb dX8_comes_355 (by decide) (fun c_109 => ?_) (fun c_109 => ?_)
                · replace h := it_f h c_109
                  refine lv_iconst (v := (-1)) hx hb dX8_comes_362 (by decide) ?_
                  obtain ⟨σ_110, eσ_110, h⟩ := bnd h
                  refine r_cv X hS (r_runS (As := [.ref (ad 95), .int (σ 95 1), .int 0, .int (-1)]) (rest := []) C0 X hP L_X8_97 (fun sz => c_X8_puts l D cA ad o σ 95 (σ 95 1) 0 (-1) ⟨by decide, rfl⟩ σ_110 eσ_110 sz) ⟨Nat.le_of_ble_eq_true rfl, Nat.le_of_ble_eq_true rfl⟩ rfl hl.1 rfl (Nat.le_of_ble_eq_true rfl) dX8_comes_363 ⟨Nat.zero_le _, Nat.zero_le _⟩) (fun σ9 H locs hw hP hS => ?_)
                  rw [show σ9 = σ_110 from hw] at hP
                  refine lv_aload_n hx hb dX8_comes_366 rfl (lv_at hl 4 rfl) ?_
                  refine gf_X8_19 C0 X hP 91 (q := 95) ⟨by decide, rfl⟩ (by omega) rfl dX8_comes_367 ?_
                  refine lv_iload hx hb dX8_comes_370 (lv_at hl 0 rfl) ?_
                  refine lv_iconst (v := 1) hx hb dX8_comes_372 (by decide) ?_
                  refine lv_iload_n hx hb dX8_comes_373 rfl (lv_at hl 2 rfl) ?_
                  obtain ⟨σ_111, eσ_111, h⟩ := bnd h
                  refine r_cv X hS (r_runS (As := [.ref (ad 95), .int (σ 95 1), .int 1, .int (σ 102 0)]) (rest := []) C0 X hP L_X8_97 (fun sz => c_X8_puts l D cA ad o σ_110 95 (σ 95 1) 1 (σ 102 0) ⟨by decide, rfl⟩ σ_111 eσ_111 sz) ⟨Nat.le_of_ble_eq_true rfl, Nat.le_of_ble_eq_true rfl⟩ rfl hl.1 rfl (Nat.le_of_ble_eq_true rfl) dX8_comes_374 ⟨Nat.zero_le _, Nat.zero_le _⟩) (fun σ9 H locs hw hP hS => ?_)
                  rw [show σ9 = σ_111 from hw] at hP
                  refine lv_aload_n hx hb dX8_comes_377 rfl (lv_at hl 4 rfl) ?_
                  refine gf_X8_19 C0 X hP 91 (q := 95) ⟨by decide, rfl⟩ (by omega) rfl dX8_comes_378 ?_
                  refine lv_iload hx hb dX8_comes_381 (lv_at hl 0 rfl) ?_
                  refine lv_iconst (v := 3) hx hb dX8_comes_383 (by decide) ?_
                  refine lv_iload hx hb dX8_comes_384 (lv_at hl 1 rfl) ?_
                  obtain ⟨σ_112, eσ_112, h⟩ := bnd h
                  refine r_cv X hS (r_runS (As := [.ref (ad 95), .int (σ 95 1), .int 3, .int (σ 102 1)]) (rest := []) C0 X hP L_X8_97 (fun sz => c_X8_puts l D cA ad o σ_111 95 (σ 95 1) 3 (σ 102 1) ⟨by decide, rfl⟩ σ_112 eσ_112 sz) ⟨Nat.le_of_ble_eq_true rfl, Nat.le_of_ble_eq_true rfl⟩ rfl hl.1 rfl (Nat.le_of_ble_eq_true rfl) dX8_comes_386 ⟨Nat.zero_le _, Nat.zero_le _⟩) (fun σ9 H locs hw hP hS => ?_)
                  rw [show σ9 = σ_112 from hw] at hP
                  refine lv_aload_n hx hb dX8_comes_389 rfl (lv_at hl 4 rfl) ?_
                  refine gf_X8_19 C0 X hP 91 (q := 95) ⟨by decide, rfl⟩ (by omega) rfl dX8_comes_390 ?_
                  refine lv_iload hx hb dX8_comes_393 (lv_at hl 0 rfl) ?_
                  refine lv_iconst (v := 2) hx hb dX8_comes_395 (by decide) ?_
                  refine lv_aload_n hx hb dX8_comes_396 rfl (lv_at hl 4 rfl) ?_
                  refine gf_X8_40 C0 X hP 91 (q := 102) ⟨by decide, rfl⟩ (by omega) rfl dX8_comes_397 ?_
                  refine lv_iconst (v := 2) hx hb dX8_comes_400 (by decide) ?_
                  refine r_ialdN C0 X hP 102 (k := 2) ⟨by decide, rfl⟩ rfl (by decide) dX8_comes_401 ?_
                  obtain ⟨σ_113, eσ_113, h⟩ := bnd h
                  refine r_cv X hS (r_runS (As := [.ref (ad 95), .int (σ 95 1), .int 2, .int (σ_112 102 2)]) (rest := []) C0 X hP L_X8_97 (fun sz => c_X8_puts l D cA ad o σ_112 95 (σ 95 1) 2 (σ_112 102 2) ⟨by decide, rfl⟩ σ_113 eσ_113 sz) ⟨Nat.le_of_ble_eq_true rfl, Nat.le_of_ble_eq_true rfl⟩ rfl hl.1 rfl (Nat.le_of_ble_eq_true rfl) dX8_comes_402 ⟨Nat.zero_le _, Nat.zero_le _⟩) (fun σ9 H locs hw hP hS => ?_)
                  rw [show σ9 = σ_113 from hw] at hP
                  refine lv_aload_n hx hb dX8_comes_405 rfl (lv_at hl 4 rfl) ?_
                  refine gf_X8_19 C0 X hP 91 (q := 95) ⟨by decide, rfl⟩ (by omega) rfl dX8_comes_406 ?_
                  refine lv_iload hx hb dX8_comes_409 (lv_at hl 0 rfl) ?_
                  refine lv_iconst (v := 4) hx hb dX8_comes_411 (by decide) ?_
                  refine lv_aload_n hx hb dX8_comes_412 rfl (lv_at hl 4 rfl) ?_
                  refine gf_X8_40 C0 X hP 91 (q := 102) ⟨by decide, rfl⟩ (by omega) rfl dX8_comes_413 ?_
                  refine lv_iconst (v := 3) hx hb dX8_comes_416 (by decide) ?_
                  refine r_ialdN C0 X hP 102 (k := 3) ⟨by decide, rfl⟩ rfl (by decide) dX8_comes_417 ?_
                  obtain ⟨σ_114, eσ_114, h⟩ := bnd h
                  refine r_cv X hS (r_runS (As := [.ref (ad 95), .int (σ 95 1), .int 4, .int (σ_113 102 3)]) (rest := []) C0 X hP L_X8_97 (fun sz => c_X8_puts l D cA ad o σ_113 95 (σ 95 1) 4 (σ_113 102 3) ⟨by decide, rfl⟩ σ_114 eσ_114 sz) ⟨Nat.le_of_ble_eq_true rfl, Nat.le_of_ble_eq_true rfl⟩ rfl hl.1 rfl (Nat.le_of_ble_eq_true rfl) dX8_comes_418 ⟨Nat.zero_le _, Nat.zero_le _⟩) (fun σ9 H locs hw hP hS => ?_)
                  rw [show σ9 = σ_114 from hw] at hP
                  refine lv_aload_n hx hb dX8_comes_421 rfl (lv_at hl 4 rfl) ?_
                  refine gf_X8_19 C0 X hP 91 (q := 95) ⟨by decide, rfl⟩ (by omega) rfl dX8_comes_422 ?_
                  refine lv_iload hx hb dX8_comes_425 (lv_at hl 0 rfl) ?_
                  refine lv_bipush (v := 10) hx hb dX8_comes_427 (by decide) ?_
                  refine lv_iconst (v := 0) hx hb dX8_comes_429 (by decide) ?_
                  obtain ⟨σ_115, eσ_115, h⟩ := bnd h
                  refine r_cv X hS (r_runS (As := [.ref (ad 95), .int (σ 95 1), .int 10, .int 0]) (rest := []) C0 X hP L_X8_97 (fun sz => c_X8_puts l D cA ad o σ_114 95 (σ 95 1) 10 0 ⟨by decide, rfl⟩ σ_115 eσ_115 sz) ⟨Nat.le_of_ble_eq_true rfl, Nat.le_of_ble_eq_true rfl⟩ rfl hl.1 rfl (Nat.le_of_ble_eq_true rfl) dX8_comes_430 ⟨Nat.zero_le _, Nat.zero_le _⟩) (fun σ9 H locs hw hP hS => ?_)
                  rw [show σ9 = σ_115 from hw] at hP
                  refine lv_aload_n hx hb dX8_comes_433 rfl (lv_at hl 4 rfl) ?_
                  refine gf_X8_19 C0 X hP 91 (q := 95) ⟨by decide, rfl⟩ (by omega) rfl dX8_comes_434 ?_
                  refine lv_iload hx hb dX8_comes_437 (lv_at hl 0 rfl) ?_
                  obtain ⟨σ_116, eσ_116, h⟩ := bnd h
                  refine r_cv X hS (r_runS (As := [.ref (ad 95), .int (σ 95 1)]) (rest := []) C0 X hP L_X8_101 (fun sz => c_X8_begins l D cA ad o σ_115 95 (σ 95 1) ⟨by decide, rfl⟩ σ_116 eσ_116 sz) ⟨Nat.le_of_ble_eq_true rfl, Nat.le_of_ble_eq_true rfl⟩ rfl hl.1 rfl (Nat.le_of_ble_eq_true rfl) dX8_comes_439 ⟨Nat.zero_le _, Nat.zero_le _⟩) (fun σ9 H locs hw hP hS => ?_)
                  rw [show σ9 = σ_116 from hw] at hP
                  refine lv_aload_n hx hb dX8_comes_442 rfl (lv_at hl 4 rfl) ?_
                  refine gf_X8_19 C0 X hP 91 (q := 95) ⟨by decide, rfl⟩ (by omega) rfl dX8_comes_443 ?_
                  refine lv_iconst (v := 1) hx hb dX8_comes_446 (by decide) ?_
                  refine lv_dup2_11 hx hb dX8_comes_447 rfl rfl ?_
                  refine r_ialdN C0 X hP 95 (k := 1) ⟨by decide, rfl⟩ rfl (by decide) dX8_comes_448 ?_
                  refine lv_iconst (v := 1) hx hb dX8_comes_449 (by decide) ?_
                  refine lv_iadd hx hb dX8_comes_450 ?_
                  refine r_iastN C0 X hP hS 95 (k := 1) ⟨by decide, rfl⟩ rfl (by decide) dX8_comes_451 (fun H locs hP hS => ?_)
                  refine lv_iconst (v := 1) hx hb dX8_comes_452 (by decide) ?_
                  exact r_zret C0 X hP hS hr hlk dX8_comes_453 (Or.inr rfl) (rt2 h)
                · replace h := it_t h c_109
                  refine lv_iconst (v := 1) hx hb dX8_comes_358 (by decide) ?_
                  refine lv_goto (tgt := 363) hx hb dX8_comes_359 (by decide) ?_
                  obtain ⟨σ_117, eσ_117, h⟩ := bnd h
                  refine r_cv X hS (r_runS (As := [.ref (ad 95), .int (σ 95 1), .int 0, .int 1]) (rest := []) C0 X hP L_X8_97 (fun sz => c_X8_puts l D cA ad o σ 95 (σ 95 1) 0 1 ⟨by decide, rfl⟩ σ_117 eσ_117 sz) ⟨Nat.le_of_ble_eq_true rfl, Nat.le_of_ble_eq_true rfl⟩ rfl hl.1 rfl (Nat.le_of_ble_eq_true rfl) dX8_comes_363 ⟨Nat.zero_le _, Nat.zero_le _⟩) (fun σ9 H locs hw hP hS => ?_)
                  rw [show σ9 = σ_117 from hw] at hP
                  refine lv_aload_n hx hb dX8_comes_366 rfl (lv_at hl 4 rfl) ?_
                  refine gf_X8_19 C0 X hP 91 (q := 95) ⟨by decide, rfl⟩ (by omega) rfl dX8_comes_367 ?_
                  refine lv_iload hx hb dX8_comes_370 (lv_at hl 0 rfl) ?_
                  refine lv_iconst (v := 1) hx hb dX8_comes_372 (by decide) ?_
                  refine lv_iload_n hx hb dX8_comes_373 rfl (lv_at hl 2 rfl) ?_
                  obtain ⟨σ_118, eσ_118, h⟩ := bnd h
                  refine r_cv X hS (r_runS (As := [.ref (ad 95), .int (σ 95 1), .int 1, .int (σ 102 0)]) (rest := []) C0 X hP L_X8_97 (fun sz => c_X8_puts l D cA ad o σ_117 95 (σ 95 1) 1 (σ 102 0) ⟨by decide, rfl⟩ σ_118 eσ_118 sz) ⟨Nat.le_of_ble_eq_true rfl, Nat.le_of_ble_eq_true rfl⟩ rfl hl.1 rfl (Nat.le_of_ble_eq_true rfl) dX8_comes_374 ⟨Nat.zero_le _, Nat.zero_le _⟩) (fun σ9 H locs hw hP hS => ?_)
                  rw [show σ9 = σ_118 from hw] at hP
                  refine lv_aload_n hx hb dX8_comes_377 rfl (lv_at hl 4 rfl) ?_
                  refine gf_X8_19 C0 X hP 91 (q := 95) ⟨by decide, rfl⟩ (by omega) rfl dX8_comes_378 ?_
                  refine lv_iload hx hb dX8_comes_381 (lv_at hl 0 rfl) ?_
                  refine lv_iconst (v := 3) hx hb dX8_comes_383 (by decide) ?_
                  refine lv_iload hx hb dX8_comes_384 (lv_at hl 1 rfl) ?_
                  obtain ⟨σ_119, eσ_119, h⟩ := bnd h
                  refine r_cv X hS (r_runS (As := [.ref (ad 95), .int (σ 95 1), .int 3, .int (σ 102 1)]) (rest := []) C0 X hP L_X8_97 (fun sz => c_X8_puts l D cA ad o σ_118 95 (σ 95 1) 3 (σ 102 1) ⟨by decide, rfl⟩ σ_119 eσ_119 sz) ⟨Nat.le_of_ble_eq_true rfl, Nat.le_of_ble_eq_true rfl⟩ rfl hl.1 rfl (Nat.le_of_ble_eq_true rfl) dX8_comes_386 ⟨Nat.zero_le _, Nat.zero_le _⟩) (fun σ9 H locs hw hP hS => ?_)
                  rw [show σ9 = σ_119 from hw] at hP
                  refine lv_aload_n hx hb dX8_comes_389 rfl (lv_at hl 4 rfl) ?_
                  refine gf_X8_19 C0 X hP 91 (q := 95) ⟨by decide, rfl⟩ (by omega) rfl dX8_comes_390 ?_
                  refine lv_iload hx hb dX8_comes_393 (lv_at hl 0 rfl) ?_
                  refine lv_iconst (v := 2) hx hb dX8_comes_395 (by decide) ?_
                  refine lv_aload_n hx hb dX8_comes_396 rfl (lv_at hl 4 rfl) ?_
                  refine gf_X8_40 C0 X hP 91 (q := 102) ⟨by decide, rfl⟩ (by omega) rfl dX8_comes_397 ?_
                  refine lv_iconst (v := 2) hx hb dX8_comes_400 (by decide) ?_
                  refine r_ialdN C0 X hP 102 (k := 2) ⟨by decide, rfl⟩ rfl (by decide) dX8_comes_401 ?_
                  obtain ⟨σ_120, eσ_120, h⟩ := bnd h
                  refine r_cv X hS (r_runS (As := [.ref (ad 95), .int (σ 95 1), .int 2, .int (σ_119 102 2)]) (rest := []) C0 X hP L_X8_97 (fun sz => c_X8_puts l D cA ad o σ_119 95 (σ 95 1) 2 (σ_119 102 2) ⟨by decide, rfl⟩ σ_120 eσ_120 sz) ⟨Nat.le_of_ble_eq_true rfl, Nat.le_of_ble_eq_true rfl⟩ rfl hl.1 rfl (Nat.le_of_ble_eq_true rfl) dX8_comes_402 ⟨Nat.zero_le _, Nat.zero_le _⟩) (fun σ9 H locs hw hP hS => ?_)
                  rw [show σ9 = σ_120 from hw] at hP
                  refine lv_aload_n hx hb dX8_comes_405 rfl (lv_at hl 4 rfl) ?_
                  refine gf_X8_19 C0 X hP 91 (q := 95) ⟨by decide, rfl⟩ (by omega) rfl dX8_comes_406 ?_
                  refine lv_iload hx hb dX8_comes_409 (lv_at hl 0 rfl) ?_
                  refine lv_iconst (v := 4) hx hb dX8_comes_411 (by decide) ?_
                  refine lv_aload_n hx hb dX8_comes_412 rfl (lv_at hl 4 rfl) ?_
                  refine gf_X8_40 C0 X hP 91 (q := 102) ⟨by decide, rfl⟩ (by omega) rfl dX8_comes_413 ?_
                  refine lv_iconst (v := 3) hx hb dX8_comes_416 (by decide) ?_
                  refine r_ialdN C0 X hP 102 (k := 3) ⟨by decide, rfl⟩ rfl (by decide) dX8_comes_417 ?_
                  obtain ⟨σ_121, eσ_121, h⟩ := bnd h
                  refine r_cv X hS (r_runS (As := [.ref (ad 95), .int (σ 95 1), .int 4, .int (σ_120 102 3)]) (rest := []) C0 X hP L_X8_97 (fun sz => c_X8_puts l D cA ad o σ_120 95 (σ 95 1) 4 (σ_120 102 3) ⟨by decide, rfl⟩ σ_121 eσ_121 sz) ⟨Nat.le_of_ble_eq_true rfl, Nat.le_of_ble_eq_true rfl⟩ rfl hl.1 rfl (Nat.le_of_ble_eq_true rfl) dX8_comes_418 ⟨Nat.zero_le _, Nat.zero_le _⟩) (fun σ9 H locs hw hP hS => ?_)
                  rw [show σ9 = σ_121 from hw] at hP
                  refine lv_aload_n hx hb dX8_comes_421 rfl (lv_at hl 4 rfl) ?_
                  refine gf_X8_19 C0 X hP 91 (q := 95) ⟨by decide, rfl⟩ (by omega) rfl dX8_comes_422 ?_
                  refine lv_iload hx hb dX8_comes_425 (lv_at hl 0 rfl) ?_
                  refine lv_bipush (v := 10) hx hb dX8_comes_427 (by decide) ?_
                  refine lv_iconst (v := 0) hx hb dX8_comes_429 (by decide) ?_
                  obtain ⟨σ_122, eσ_122, h⟩ := bnd h
                  refine r_cv X hS (r_runS (As := [.ref (ad 95), .int (σ 95 1), .int 10, .int 0]) (rest := []) C0 X hP L_X8_97 (fun sz => c_X8_puts l D cA ad o σ_121 95 (σ 95 1) 10 0 ⟨by decide, rfl⟩ σ_122 eσ_122 sz) ⟨Nat.le_of_ble_eq_true rfl, Nat.le_of_ble_eq_true rfl⟩ rfl hl.1 rfl (Nat.le_of_ble_eq_true rfl) dX8_comes_430 ⟨Nat.zero_le _, Nat.zero_le _⟩) (fun σ9 H locs hw hP hS => ?_)
                  rw [show σ9 = σ_122 from hw] at hP
                  refine lv_aload_n hx hb dX8_comes_433 rfl (lv_at hl 4 rfl) ?_
                  refine gf_X8_19 C0 X hP 91 (q := 95) ⟨by decide, rfl⟩ (by omega) rfl dX8_comes_434 ?_
                  refine lv_iload hx hb dX8_comes_437 (lv_at hl 0 rfl) ?_
                  obtain ⟨σ_123, eσ_123, h⟩ := bnd h
                  refine r_cv X hS (r_runS (As := [.ref (ad 95), .int (σ 95 1)]) (rest := []) C0 X hP L_X8_101 (fun sz => c_X8_begins l D cA ad o σ_122 95 (σ 95 1) ⟨by decide, rfl⟩ σ_123 eσ_123 sz) ⟨Nat.le_of_ble_eq_true rfl, Nat.le_of_ble_eq_true rfl⟩ rfl hl.1 rfl (Nat.le_of_ble_eq_true rfl) dX8_comes_439 ⟨Nat.zero_le _, Nat.zero_le _⟩) (fun σ9 H locs hw hP hS => ?_)
                  rw [show σ9 = σ_123 from hw] at hP
                  refine lv_aload_n hx hb dX8_comes_442 rfl (lv_at hl 4 rfl) ?_
                  refine gf_X8_19 C0 X hP 91 (q := 95) ⟨by decide, rfl⟩ (by omega) rfl dX8_comes_443 ?_
                  refine lv_iconst (v := 1) hx hb dX8_comes_446 (by decide) ?_
                  refine lv_dup2_11 hx hb dX8_comes_447 rfl rfl ?_
                  refine r_ialdN C0 X hP 95 (k := 1) ⟨by decide, rfl⟩ rfl (by decide) dX8_comes_448 ?_
                  refine lv_iconst (v := 1) hx hb dX8_comes_449 (by decide) ?_
                  refine lv_iadd hx hb dX8_comes_450 ?_
                  refine r_iastN C0 X hP hS 95 (k := 1) ⟨by decide, rfl⟩ rfl (by decide) dX8_comes_451 (fun H locs hP hS => ?_)
                  refine lv_iconst (v := 1) hx hb dX8_comes_452 (by decide) ?_
                  exact r_zret C0 X hP hS hr hlk dX8_comes_453 (Or.inr rfl) (rt2 h)
              · replace h := it_t h c_108
                refine lv_iconst (v := 0) hx hb dX8_comes_335 (by decide) ?_
                exact r_zret C0 X hP hS hr hlk dX8_comes_336 (Or.inl rfl) (rt2 h)
      · have e_124 : x1 = 118 := sw_eq c_2 (by decide)
        replace h := it_f h (show ¬ x1 = 112 by rw [e_124]; decide)
        replace h := it_f h (show ¬ x1 = 114 by rw [e_124]; decide)
        replace h := it_t h e_124
        refine lv_tableIn (off := 182) (tgt := 213) hx hb dX8_comes_31 (by rw [e_124]; decide) (by rw [e_124]; decide) (by rw [e_124]; rfl) (by decide) ?_
        refine lv_iload_n hx hb dX8_comes_213 rfl (lv_at hl 1 rfl) ?_
        refine lv_aload_n hx hb dX8_comes_214 rfl (lv_at hl 3 rfl) ?_
        refine gf_X8_19 C0 X hP 91 (q := 95) ⟨by decide, rfl⟩ (by omega) rfl dX8_comes_215 ?_
        refine lv_iconst (v := 0) hx hb dX8_comes_218 (by decide) ?_
        refine r_ialdN C0 X hP 95 (k := 0) ⟨by decide, rfl⟩ rfl (by decide) dX8_comes_219 ?_
        refine lv_icmp_ge (tgt := 229) hx hb dX8_comes_220 (by decide) (fun c_125 => ?_) (fun c_125 => ?_)
        · replace h := it_t h c_125
          refine lv_iconst (v := 0) hx hb dX8_comes_229 (by decide) ?_
          exact r_zret C0 X hP hS hr hlk dX8_comes_230 (Or.inl rfl) (rt2 h)
        · replace h := it_f h c_125
          refine lv_iload hx hb dX8_comes_223 (lv_at hl 0 rfl) ?_
          refine lv_iconst (v := 2) hx hb dX8_comes_225 (by decide) ?_
          refine lv_icmp_le (tgt := 231) hx hb dX8_comes_226 (by decide) (fun c_126 => ?_) (fun c_126 => ?_)
          · replace h := it_t h c_126
            refine lv_aload_n hx hb dX8_comes_231 rfl (lv_at hl 3 rfl) ?_
            refine gf_X8_19 C0 X hP 91 (q := 95) ⟨by decide, rfl⟩ (by omega) rfl dX8_comes_232 ?_
            refine lv_bipush (v := 14) hx hb dX8_comes_235 (by decide) ?_
            refine lv_iconst (v := 3) hx hb dX8_comes_237 (by decide) ?_
            refine lv_iload_n hx hb dX8_comes_238 rfl (lv_at hl 1 rfl) ?_
            refine lv_imul hx hb dX8_comes_239 ?_
            refine lv_iadd hx hb dX8_comes_240 ?_
            refine lv_iconst (v := 2) hx hb dX8_comes_241 (by decide) ?_
            refine lv_iadd hx hb dX8_comes_242 ?_
            refine lv_iload hx hb dX8_comes_243 (lv_at hl 0 rfl) ?_
            obtain ⟨k_127, ek_127, h⟩ := bnd h
            replace ek_127 := ix_s ek_127 (by decide)
            refine r_iastN C0 X hP hS 95 (k := k_127) ⟨by decide, rfl⟩ ek_127.1 ek_127.2 dX8_comes_245 (fun H locs hP hS => ?_)
            refine lv_iconst (v := 1) hx hb dX8_comes_246 (by decide) ?_
            exact r_zret C0 X hP hS hr hlk dX8_comes_247 (Or.inr rfl) (rt2 h)
          · replace h := it_f h c_126
            refine lv_iconst (v := 0) hx hb dX8_comes_229 (by decide) ?_
            exact r_zret C0 X hP hS hr hlk dX8_comes_230 (Or.inl rfl) (rt2 h)
      · have e_128 : x1 = 119 := sw_eq c_2 (by decide)
        replace h := it_f h (show ¬ x1 = 112 by rw [e_128]; decide)
        replace h := it_f h (show ¬ x1 = 114 by rw [e_128]; decide)
        replace h := it_f h (show ¬ x1 = 118 by rw [e_128]; decide)
        replace h := it_f h (show ¬ x1 = 120 by rw [e_128]; decide)
        refine lv_tableIn (off := 265) (tgt := 296) hx hb dX8_comes_31 (by rw [e_128]; decide) (by rw [e_128]; decide) (by rw [e_128]; rfl) (by decide) ?_
        refine lv_iload_n hx hb dX8_comes_296 rfl (lv_at hl 2 rfl) ?_
        refine lv_if_ne (tgt := 335) hx hb dX8_comes_297 (by decide) (fun c_129 => absurd c_129 (by decide)) (fun _ => ?_)
        refine lv_iload_n hx hb dX8_comes_300 rfl (lv_at hl 1 rfl) ?_
        refine lv_sipush (v := 199) hx hb dX8_comes_301 (by decide) ?_
        refine lv_icmp_gt (tgt := 335) hx hb dX8_comes_304 (by decide) (fun c_130 => ?_) (fun c_130 => ?_)
        · replace h := it_t h c_130
          refine lv_iconst (v := 0) hx hb dX8_comes_335 (by decide) ?_
          exact r_zret C0 X hP hS hr hlk dX8_comes_336 (Or.inl rfl) (rt2 h)
        · replace h := it_f h c_130
          refine lv_iload hx hb dX8_comes_307 (lv_at hl 0 rfl) ?_
          refine lv_iconst (v := 3) hx hb dX8_comes_309 (by decide) ?_
          refine lv_icmp_gt (tgt := 335) hx hb dX8_comes_310 (by decide) (fun c_131 => ?_) (fun c_131 => ?_)
          · replace h := it_t h c_131
            refine lv_iconst (v := 0) hx hb dX8_comes_335 (by decide) ?_
            exact r_zret C0 X hP hS hr hlk dX8_comes_336 (Or.inl rfl) (rt2 h)
          · replace h := it_f h c_131
            refine lv_aload_n hx hb dX8_comes_313 rfl (lv_at hl 3 rfl) ?_
            refine gf_X8_40 C0 X hP 91 (q := 102) ⟨by decide, rfl⟩ (by omega) rfl dX8_comes_314 ?_
            refine lv_iconst (v := 3) hx hb dX8_comes_317 (by decide) ?_
            refine r_ialdN C0 X hP 102 (k := 3) ⟨by decide, rfl⟩ rfl (by decide) dX8_comes_318 ?_
            refine lv_bipush (v := 99) hx hb dX8_comes_319 (by decide) ?_
            refine lv_icmp_gt (tgt := 335) hx hb dX8_comes_321 (by decide) (fun c_132 => ?_) (fun c_132 => ?_)
            · replace h := it_t h c_132
              refine lv_iconst (v := 0) hx hb dX8_comes_335 (by decide) ?_
              exact r_zret C0 X hP hS hr hlk dX8_comes_336 (Or.inl rfl) (rt2 h)
            · replace h := it_f h c_132
              refine lv_aload_n hx hb dX8_comes_324 rfl (lv_at hl 3 rfl) ?_
              refine gf_X8_19 C0 X hP 91 (q := 95) ⟨by decide, rfl⟩ (by omega) rfl dX8_comes_325 ?_
              refine lv_iconst (v := 1) hx hb dX8_comes_328 (by decide) ?_
              refine r_ialdN C0 X hP 95 (k := 1) ⟨by decide, rfl⟩ rfl (by decide) dX8_comes_329 ?_
              refine lv_bipush (v := 7) hx hb dX8_comes_330 (by decide) ?_
              refine lv_icmp_ne (tgt := 337) hx hb dX8_comes_332 (by decide) (fun c_133 => ?_) (fun c_133 => ?_)
              · replace h := it_f h c_133
                refine lv_aload_n hx hb dX8_comes_337 rfl (lv_at hl 3 rfl) ?_
                refine gf_X8_19 C0 X hP 91 (q := 95) ⟨by decide, rfl⟩ (by omega) rfl dX8_comes_338 ?_
                refine lv_iconst (v := 1) hx hb dX8_comes_341 (by decide) ?_
                refine r_ialdN C0 X hP 95 (k := 1) ⟨by decide, rfl⟩ rfl (by decide) dX8_comes_342 ?_
                refine lv_istore (lv' := [(5, .int (σ 95 1)), (4, .int (σ 102 1)), (3, .int (σ 102 0)), (2, .int 0), (0, .ref (ad 91)), (1, .int x1)]) hx hb dX8_comes_343 hl (by decide) rfl (fun ls hl => ?_)
                refine lv_aload_n hx hb dX8_comes_345 rfl (lv_at hl 4 rfl) ?_
                refine gf_X8_19 C0 X hP 91 (q := 95) ⟨by decide, rfl⟩ (by omega) rfl dX8_comes_346 ?_
                refine lv_iload hx hb dX8_comes_349 (lv_at hl 0 rfl) ?_
                refine lv_iconst (v := 0) hx hb dX8_comes_351 (by decide) ?_
                refine lv_iload_n hx hb dX8_comes_352 rfl (lv_at hl 5 rfl) ?_
                refine lv_bipush (v := 117) hx hb dX8_comes_353 (by decide) ?_
                refine lv_icmp_ne (tgt := 362) hx hb dX8_comes_355 (by decide) (fun c_134 => ?_) (fun c_134 => ?_)
                · replace h := it_f h c_134
                  refine lv_iconst (v := (-1)) hx hb dX8_comes_362 (by decide) ?_
                  obtain ⟨σ_135, eσ_135, h⟩ := bnd h
                  refine r_cv X hS (r_runS (As := [.ref (ad 95), .int (σ 95 1), .int 0, .int (-1)]) (rest := []) C0 X hP L_X8_97 (fun sz => c_X8_puts l D cA ad o σ 95 (σ 95 1) 0 (-1) ⟨by decide, rfl⟩ σ_135 eσ_135 sz) ⟨Nat.le_of_ble_eq_true rfl, Nat.le_of_ble_eq_true rfl⟩ rfl hl.1 rfl (Nat.le_of_ble_eq_true rfl) dX8_comes_363 ⟨Nat.zero_le _, Nat.zero_le _⟩) (fun σ9 H locs hw hP hS => ?_)
                  rw [show σ9 = σ_135 from hw] at hP
                  refine lv_aload_n hx hb dX8_comes_366 rfl (lv_at hl 4 rfl) ?_
                  refine gf_X8_19 C0 X hP 91 (q := 95) ⟨by decide, rfl⟩ (by omega) rfl dX8_comes_367 ?_
                  refine lv_iload hx hb dX8_comes_370 (lv_at hl 0 rfl) ?_
                  refine lv_iconst (v := 1) hx hb dX8_comes_372 (by decide) ?_
                  refine lv_iload_n hx hb dX8_comes_373 rfl (lv_at hl 2 rfl) ?_
                  obtain ⟨σ_136, eσ_136, h⟩ := bnd h
                  refine r_cv X hS (r_runS (As := [.ref (ad 95), .int (σ 95 1), .int 1, .int (σ 102 0)]) (rest := []) C0 X hP L_X8_97 (fun sz => c_X8_puts l D cA ad o σ_135 95 (σ 95 1) 1 (σ 102 0) ⟨by decide, rfl⟩ σ_136 eσ_136 sz) ⟨Nat.le_of_ble_eq_true rfl, Nat.le_of_ble_eq_true rfl⟩ rfl hl.1 rfl (Nat.le_of_ble_eq_true rfl) dX8_comes_374 ⟨Nat.zero_le _, Nat.zero_le _⟩) (fun σ9 H locs hw hP hS => ?_)
                  rw [show σ9 = σ_136 from hw] at hP
                  refine lv_aload_n hx hb dX8_comes_377 rfl (lv_at hl 4 rfl) ?_
                  refine gf_X8_19 C0 X hP 91 (q := 95) ⟨by decide, rfl⟩ (by omega) rfl dX8_comes_378 ?_
                  refine lv_iload hx hb dX8_comes_381 (lv_at hl 0 rfl) ?_
                  refine lv_iconst (v := 3) hx hb dX8_comes_383 (by decide) ?_
                  refine lv_iload hx hb dX8_comes_384 (lv_at hl 1 rfl) ?_
                  obtain ⟨σ_137, eσ_137, h⟩ := bnd h
                  refine r_cv X hS (r_runS (As := [.ref (ad 95), .int (σ 95 1), .int 3, .int (σ 102 1)]) (rest := []) C0 X hP L_X8_97 (fun sz => c_X8_puts l D cA ad o σ_136 95 (σ 95 1) 3 (σ 102 1) ⟨by decide, rfl⟩ σ_137 eσ_137 sz) ⟨Nat.le_of_ble_eq_true rfl, Nat.le_of_ble_eq_true rfl⟩ rfl hl.1 rfl (Nat.le_of_ble_eq_true rfl) dX8_comes_386 ⟨Nat.zero_le _, Nat.zero_le _⟩) (fun σ9 H locs hw hP hS => ?_)
                  rw [show σ9 = σ_137 from hw] at hP
                  refine lv_aload_n hx hb dX8_comes_389 rfl (lv_at hl 4 rfl) ?_
                  refine gf_X8_19 C0 X hP 91 (q := 95) ⟨by decide, rfl⟩ (by omega) rfl dX8_comes_390 ?_
                  refine lv_iload hx hb dX8_comes_393 (lv_at hl 0 rfl) ?_
                  refine lv_iconst (v := 2) hx hb dX8_comes_395 (by decide) ?_
                  refine lv_aload_n hx hb dX8_comes_396 rfl (lv_at hl 4 rfl) ?_
                  refine gf_X8_40 C0 X hP 91 (q := 102) ⟨by decide, rfl⟩ (by omega) rfl dX8_comes_397 ?_
                  refine lv_iconst (v := 2) hx hb dX8_comes_400 (by decide) ?_
                  refine r_ialdN C0 X hP 102 (k := 2) ⟨by decide, rfl⟩ rfl (by decide) dX8_comes_401 ?_
                  obtain ⟨σ_138, eσ_138, h⟩ := bnd h
                  refine r_cv X hS (r_runS (As := [.ref (ad 95), .int (σ 95 1), .int 2, .int (σ_137 102 2)]) (rest := []) C0 X hP L_X8_97 (fun sz => c_X8_puts l D cA ad o σ_137 95 (σ 95 1) 2 (σ_137 102 2) ⟨by decide, rfl⟩ σ_138 eσ_138 sz) ⟨Nat.le_of_ble_eq_true rfl, Nat.le_of_ble_eq_true rfl⟩ rfl hl.1 rfl (Nat.le_of_ble_eq_true rfl) dX8_comes_402 ⟨Nat.zero_le _, Nat.zero_le _⟩) (fun σ9 H locs hw hP hS => ?_)
                  rw [show σ9 = σ_138 from hw] at hP
                  refine lv_aload_n hx hb dX8_comes_405 rfl (lv_at hl 4 rfl) ?_
                  refine gf_X8_19 C0 X hP 91 (q := 95) ⟨by decide, rfl⟩ (by omega) rfl dX8_comes_406 ?_
                  refine lv_iload hx hb dX8_comes_409 (lv_at hl 0 rfl) ?_
                  refine lv_iconst (v := 4) hx hb dX8_comes_411 (by decide) ?_
                  refine lv_aload_n hx hb dX8_comes_412 rfl (lv_at hl 4 rfl) ?_
                  refine gf_X8_40 C0 X hP 91 (q := 102) ⟨by decide, rfl⟩ (by omega) rfl dX8_comes_413 ?_
                  refine lv_iconst (v := 3) hx hb dX8_comes_416 (by decide) ?_
                  refine r_ialdN C0 X hP 102 (k := 3) ⟨by decide, rfl⟩ rfl (by decide) dX8_comes_417 ?_
                  obtain ⟨σ_139, eσ_139, h⟩ := bnd h
                  refine r_cv X hS (r_runS (As := [.ref (ad 95), .int (σ 95 1), .int 4, .int (σ_138 102 3)]) (rest := []) C0 X hP L_X8_97 (fun sz => c_X8_puts l D cA ad o σ_138 95 (σ 95 1) 4 (σ_138 102 3) ⟨by decide, rfl⟩ σ_139 eσ_139 sz) ⟨Nat.le_of_ble_eq_true rfl, Nat.le_of_ble_eq_true rfl⟩ rfl hl.1 rfl (Nat.le_of_ble_eq_true rfl) dX8_comes_418 ⟨Nat.zero_le _, Nat.zero_le _⟩) (fun σ9 H locs hw hP hS => ?_)
                  rw [show σ9 = σ_139 from hw] at hP
                  refine lv_aload_n hx hb dX8_comes_421 rfl (lv_at hl 4 rfl) ?_
                  refine gf_X8_19 C0 X hP 91 (q := 95) ⟨by decide, rfl⟩ (by omega) rfl dX8_comes_422 ?_
                  refine lv_iload hx hb dX8_comes_425 (lv_at hl 0 rfl) ?_
                  refine lv_bipush (v := 10) hx hb dX8_comes_427 (by decide) ?_
                  refine lv_iconst (v := 0) hx hb dX8_comes_429 (by decide) ?_
                  obtain ⟨σ_140, eσ_140, h⟩ := bnd h
                  refine r_cv X hS (r_runS (As := [.ref (ad 95), .int (σ 95 1), .int 10, .int 0]) (rest := []) C0 X hP L_X8_97 (fun sz => c_X8_puts l D cA ad o σ_139 95 (σ 95 1) 10 0 ⟨by decide, rfl⟩ σ_140 eσ_140 sz) ⟨Nat.le_of_ble_eq_true rfl, Nat.le_of_ble_eq_true rfl⟩ rfl hl.1 rfl (Nat.le_of_ble_eq_true rfl) dX8_comes_430 ⟨Nat.zero_le _, Nat.zero_le _⟩) (fun σ9 H locs hw hP hS => ?_)
                  rw [show σ9 = σ_140 from hw] at hP
                  refine lv_aload_n hx hb dX8_comes_433 rfl (lv_at hl 4 rfl) ?_
                  refine gf_X8_19 C0 X hP 91 (q := 95) ⟨by decide, rfl⟩ (by omega) rfl dX8_comes_434 ?_
                  refine lv_iload hx hb dX8_comes_437 (lv_at hl 0 rfl) ?_
                  obtain ⟨σ_141, eσ_141, h⟩ := bnd h
                  refine r_cv X hS (r_runS (As := [.ref (ad 95), .int (σ 95 1)]) (rest := []) C0 X hP L_X8_101 (fun sz => c_X8_begins l D cA ad o σ_140 95 (σ 95 1) ⟨by decide, rfl⟩ σ_141 eσ_141 sz) ⟨Nat.le_of_ble_eq_true rfl, Nat.le_of_ble_eq_true rfl⟩ rfl hl.1 rfl (Nat.le_of_ble_eq_true rfl) dX8_comes_439 ⟨Nat.zero_le _, Nat.zero_le _⟩) (fun σ9 H locs hw hP hS => ?_)
                  rw [show σ9 = σ_141 from hw] at hP
                  refine lv_aload_n hx hb dX8_comes_442 rfl (lv_at hl 4 rfl) ?_
                  refine gf_X8_19 C0 X hP 91 (q := 95) ⟨by decide, rfl⟩ (by omega) rfl dX8_comes_443 ?_
                  refine lv_iconst (v := 1) hx hb dX8_comes_446 (by decide) ?_
                  refine lv_dup2_11 hx hb dX8_comes_447 rfl rfl ?_
                  refine r_ialdN C0 X hP 95 (k := 1) ⟨by decide, rfl⟩ rfl (by decide) dX8_comes_448 ?_
                  refine lv_iconst (v := 1) hx hb dX8_comes_449 (by decide) ?_
                  refine lv_iadd hx hb dX8_comes_450 ?_
                  refine r_iastN C0 X hP hS 95 (k := 1) ⟨by decide, rfl⟩ rfl (by decide) dX8_comes_451 (fun H locs hP hS => ?_)
                  refine lv_iconst (v := 1) hx hb dX8_comes_452 (by decide) ?_
                  exact r_zret C0 X hP hS hr hlk dX8_comes_453 (Or.inr rfl) (rt2 h)
                · replace h := it_t h c_134
                  refine lv_iconst (v := 1) hx hb dX8_comes_358 (by decide) ?_
                  refine lv_goto (tgt := 363) hx hb dX8_comes_359 (by decide) ?_
                  obtain ⟨σ_142, eσ_142, h⟩ := bnd h
                  refine r_cv X hS (r_runS (As := [.ref (ad 95), .int (σ 95 1), .int 0, .int 1]) (rest := []) C0 X hP L_X8_97 (fun sz => c_X8_puts l D cA ad o σ 95 (σ 95 1) 0 1 ⟨by decide, rfl⟩ σ_142 eσ_142 sz) ⟨Nat.le_of_ble_eq_true rfl, Nat.le_of_ble_eq_true rfl⟩ rfl hl.1 rfl (Nat.le_of_ble_eq_true rfl) dX8_comes_363 ⟨Nat.zero_le _, Nat.zero_le _⟩) (fun σ9 H locs hw hP hS => ?_)
                  rw [show σ9 = σ_142 from hw] at hP
                  refine lv_aload_n hx hb dX8_comes_366 rfl (lv_at hl 4 rfl) ?_
                  refine gf_X8_19 C0 X hP 91 (q := 95) ⟨by decide, rfl⟩ (by omega) rfl dX8_comes_367 ?_
                  refine lv_iload hx hb dX8_comes_370 (lv_at hl 0 rfl) ?_
                  refine lv_iconst (v := 1) hx hb dX8_comes_372 (by decide) ?_
                  refine lv_iload_n hx hb dX8_comes_373 rfl (lv_at hl 2 rfl) ?_
                  obtain ⟨σ_143, eσ_143, h⟩ := bnd h
                  refine r_cv X hS (r_runS (As := [.ref (ad 95), .int (σ 95 1), .int 1, .int (σ 102 0)]) (rest := []) C0 X hP L_X8_97 (fun sz => c_X8_puts l D cA ad o σ_142 95 (σ 95 1) 1 (σ 102 0) ⟨by decide, rfl⟩ σ_143 eσ_143 sz) ⟨Nat.le_of_ble_eq_true rfl, Nat.le_of_ble_eq_true rfl⟩ rfl hl.1 rfl (Nat.le_of_ble_eq_true rfl) dX8_comes_374 ⟨Nat.zero_le _, Nat.zero_le _⟩) (fun σ9 H locs hw hP hS => ?_)
                  rw [show σ9 = σ_143 from hw] at hP
                  refine lv_aload_n hx hb dX8_comes_377 rfl (lv_at hl 4 rfl) ?_
                  refine gf_X8_19 C0 X hP 91 (q := 95) ⟨by decide, rfl⟩ (by omega) rfl dX8_comes_378 ?_
                  refine lv_iload hx hb dX8_comes_381 (lv_at hl 0 rfl) ?_
                  refine lv_iconst (v := 3) hx hb dX8_comes_383 (by decide) ?_
                  refine lv_iload hx hb dX8_comes_384 (lv_at hl 1 rfl) ?_
                  obtain ⟨σ_144, eσ_144, h⟩ := bnd h
                  refine r_cv X hS (r_runS (As := [.ref (ad 95), .int (σ 95 1), .int 3, .int (σ 102 1)]) (rest := []) C0 X hP L_X8_97 (fun sz => c_X8_puts l D cA ad o σ_143 95 (σ 95 1) 3 (σ 102 1) ⟨by decide, rfl⟩ σ_144 eσ_144 sz) ⟨Nat.le_of_ble_eq_true rfl, Nat.le_of_ble_eq_true rfl⟩ rfl hl.1 rfl (Nat.le_of_ble_eq_true rfl) dX8_comes_386 ⟨Nat.zero_le _, Nat.zero_le _⟩) (fun σ9 H locs hw hP hS => ?_)
                  rw [show σ9 = σ_144 from hw] at hP
                  refine lv_aload_n hx hb dX8_comes_389 rfl (lv_at hl 4 rfl) ?_
                  refine gf_X8_19 C0 X hP 91 (q := 95) ⟨by decide, rfl⟩ (by omega) rfl dX8_comes_390 ?_
                  refine lv_iload hx hb dX8_comes_393 (lv_at hl 0 rfl) ?_
                  refine lv_iconst (v := 2) hx hb dX8_comes_395 (by decide) ?_
                  refine lv_aload_n hx hb dX8_comes_396 rfl (lv_at hl 4 rfl) ?_
                  refine gf_X8_40 C0 X hP 91 (q := 102) ⟨by decide, rfl⟩ (by omega) rfl dX8_comes_397 ?_
                  refine lv_iconst (v := 2) hx hb dX8_comes_400 (by decide) ?_
                  refine r_ialdN C0 X hP 102 (k := 2) ⟨by decide, rfl⟩ rfl (by decide) dX8_comes_401 ?_
                  obtain ⟨σ_145, eσ_145, h⟩ := bnd h
                  refine r_cv X hS (r_runS (As := [.ref (ad 95), .int (σ 95 1), .int 2, .int (σ_144 102 2)]) (rest := []) C0 X hP L_X8_97 (fun sz => c_X8_puts l D cA ad o σ_144 95 (σ 95 1) 2 (σ_144 102 2) ⟨by decide, rfl⟩ σ_145 eσ_145 sz) ⟨Nat.le_of_ble_eq_true rfl, Nat.le_of_ble_eq_true rfl⟩ rfl hl.1 rfl (Nat.le_of_ble_eq_true rfl) dX8_comes_402 ⟨Nat.zero_le _, Nat.zero_le _⟩) (fun σ9 H locs hw hP hS => ?_)
                  rw [show σ9 = σ_145 from hw] at hP
                  refine lv_aload_n hx hb dX8_comes_405 rfl (lv_at hl 4 rfl) ?_
                  refine gf_X8_19 C0 X hP 91 (q := 95) ⟨by decide, rfl⟩ (by omega) rfl dX8_comes_406 ?_
                  refine lv_iload hx hb dX8_comes_409 (lv_at hl 0 rfl) ?_
                  refine lv_iconst (v := 4) hx hb dX8_comes_411 (by decide) ?_
                  refine lv_aload_n hx hb dX8_comes_412 rfl (lv_at hl 4 rfl) ?_
                  refine gf_X8_40 C0 X hP 91 (q := 102) ⟨by decide, rfl⟩ (by omega) rfl dX8_comes_413 ?_
                  refine lv_iconst (v := 3) hx hb dX8_comes_416 (by decide) ?_
                  refine r_ialdN C0 X hP 102 (k := 3) ⟨by decide, rfl⟩ rfl (by decide) dX8_comes_417 ?_
                  obtain ⟨σ_146, eσ_146, h⟩ := bnd h
                  refine r_cv X hS (r_runS (As := [.ref (ad 95), .int (σ 95 1), .int 4, .int (σ_145 102 3)]) (rest := []) C0 X hP L_X8_97 (fun sz => c_X8_puts l D cA ad o σ_145 95 (σ 95 1) 4 (σ_145 102 3) ⟨by decide, rfl⟩ σ_146 eσ_146 sz) ⟨Nat.le_of_ble_eq_true rfl, Nat.le_of_ble_eq_true rfl⟩ rfl hl.1 rfl (Nat.le_of_ble_eq_true rfl) dX8_comes_418 ⟨Nat.zero_le _, Nat.zero_le _⟩) (fun σ9 H locs hw hP hS => ?_)
                  rw [show σ9 = σ_146 from hw] at hP
                  refine lv_aload_n hx hb dX8_comes_421 rfl (lv_at hl 4 rfl) ?_
                  refine gf_X8_19 C0 X hP 91 (q := 95) ⟨by decide, rfl⟩ (by omega) rfl dX8_comes_422 ?_
                  refine lv_iload hx hb dX8_comes_425 (lv_at hl 0 rfl) ?_
                  refine lv_bipush (v := 10) hx hb dX8_comes_427 (by decide) ?_
                  refine lv_iconst (v := 0) hx hb dX8_comes_429 (by decide) ?_
                  obtain ⟨σ_147, eσ_147, h⟩ := bnd h
                  refine r_cv X hS (r_runS (As := [.ref (ad 95), .int (σ 95 1), .int 10, .int 0]) (rest := []) C0 X hP L_X8_97 (fun sz => c_X8_puts l D cA ad o σ_146 95 (σ 95 1) 10 0 ⟨by decide, rfl⟩ σ_147 eσ_147 sz) ⟨Nat.le_of_ble_eq_true rfl, Nat.le_of_ble_eq_true rfl⟩ rfl hl.1 rfl (Nat.le_of_ble_eq_true rfl) dX8_comes_430 ⟨Nat.zero_le _, Nat.zero_le _⟩) (fun σ9 H locs hw hP hS => ?_)
                  rw [show σ9 = σ_147 from hw] at hP
                  refine lv_aload_n hx hb dX8_comes_433 rfl (lv_at hl 4 rfl) ?_
                  refine gf_X8_19 C0 X hP 91 (q := 95) ⟨by decide, rfl⟩ (by omega) rfl dX8_comes_434 ?_
                  refine lv_iload hx hb dX8_comes_437 (lv_at hl 0 rfl) ?_
                  obtain ⟨σ_148, eσ_148, h⟩ := bnd h
                  refine r_cv X hS (r_runS (As := [.ref (ad 95), .int (σ 95 1)]) (rest := []) C0 X hP L_X8_101 (fun sz => c_X8_begins l D cA ad o σ_147 95 (σ 95 1) ⟨by decide, rfl⟩ σ_148 eσ_148 sz) ⟨Nat.le_of_ble_eq_true rfl, Nat.le_of_ble_eq_true rfl⟩ rfl hl.1 rfl (Nat.le_of_ble_eq_true rfl) dX8_comes_439 ⟨Nat.zero_le _, Nat.zero_le _⟩) (fun σ9 H locs hw hP hS => ?_)
                  rw [show σ9 = σ_148 from hw] at hP
                  refine lv_aload_n hx hb dX8_comes_442 rfl (lv_at hl 4 rfl) ?_
                  refine gf_X8_19 C0 X hP 91 (q := 95) ⟨by decide, rfl⟩ (by omega) rfl dX8_comes_443 ?_
                  refine lv_iconst (v := 1) hx hb dX8_comes_446 (by decide) ?_
                  refine lv_dup2_11 hx hb dX8_comes_447 rfl rfl ?_
                  refine r_ialdN C0 X hP 95 (k := 1) ⟨by decide, rfl⟩ rfl (by decide) dX8_comes_448 ?_
                  refine lv_iconst (v := 1) hx hb dX8_comes_449 (by decide) ?_
                  refine lv_iadd hx hb dX8_comes_450 ?_
                  refine r_iastN C0 X hP hS 95 (k := 1) ⟨by decide, rfl⟩ rfl (by decide) dX8_comes_451 (fun H locs hP hS => ?_)
                  refine lv_iconst (v := 1) hx hb dX8_comes_452 (by decide) ?_
                  exact r_zret C0 X hP hS hr hlk dX8_comes_453 (Or.inr rfl) (rt2 h)
              · replace h := it_t h c_133
                refine lv_iconst (v := 0) hx hb dX8_comes_335 (by decide) ?_
                exact r_zret C0 X hP hS hr hlk dX8_comes_336 (Or.inl rfl) (rt2 h)
      · have e_149 : x1 = 120 := sw_eq c_2 (by decide)
        replace h := it_f h (show ¬ x1 = 112 by rw [e_149]; decide)
        replace h := it_f h (show ¬ x1 = 114 by rw [e_149]; decide)
        replace h := it_f h (show ¬ x1 = 118 by rw [e_149]; decide)
        replace h := it_t h e_149
        refine lv_tableIn (off := 217) (tgt := 248) hx hb dX8_comes_31 (by rw [e_149]; decide) (by rw [e_149]; decide) (by rw [e_149]; rfl) (by decide) ?_
        refine lv_iload_n hx hb dX8_comes_248 rfl (lv_at hl 1 rfl) ?_
        refine lv_iconst (v := 2) hx hb dX8_comes_249 (by decide) ?_
        refine lv_icmp_gt (tgt := 260) hx hb dX8_comes_250 (by decide) (fun c_150 => ?_) (fun c_150 => ?_)
        · replace h := it_t h c_150
          refine lv_iconst (v := 0) hx hb dX8_comes_260 (by decide) ?_
          exact r_zret C0 X hP hS hr hlk dX8_comes_261 (Or.inl rfl) (rt2 h)
        · replace h := it_f h c_150
          refine lv_iload hx hb dX8_comes_253 (lv_at hl 0 rfl) ?_
          refine lv_bipush (v := 7) hx hb dX8_comes_255 (by decide) ?_
          refine lv_icmp_le (tgt := 262) hx hb dX8_comes_257 (by decide) (fun c_151 => ?_) (fun c_151 => ?_)
          · replace h := it_t h c_151
            refine lv_aload_n hx hb dX8_comes_262 rfl (lv_at hl 3 rfl) ?_
            refine gf_X8_19 C0 X hP 91 (q := 95) ⟨by decide, rfl⟩ (by omega) rfl dX8_comes_263 ?_
            refine lv_bipush (v := 38) hx hb dX8_comes_266 (by decide) ?_
            refine lv_iconst (v := 2) hx hb dX8_comes_268 (by decide) ?_
            refine lv_iload_n hx hb dX8_comes_269 rfl (lv_at hl 1 rfl) ?_
            refine lv_imul hx hb dX8_comes_270 ?_
            refine lv_iadd hx hb dX8_comes_271 ?_
            refine lv_iload hx hb dX8_comes_272 (lv_at hl 0 rfl) ?_
            obtain ⟨k_152, ek_152, h⟩ := bnd h
            replace ek_152 := ix_s ek_152 (by decide)
            refine r_iastN C0 X hP hS 95 (k := k_152) ⟨by decide, rfl⟩ ek_152.1 ek_152.2 dX8_comes_274 (fun H locs hP hS => ?_)
            refine lv_aload_n hx hb dX8_comes_275 rfl (lv_at hl 3 rfl) ?_
            refine gf_X8_19 C0 X hP 91 (q := 95) ⟨by decide, rfl⟩ (by omega) rfl dX8_comes_276 ?_
            refine lv_bipush (v := 38) hx hb dX8_comes_279 (by decide) ?_
            refine lv_iconst (v := 2) hx hb dX8_comes_281 (by decide) ?_
            refine lv_iload_n hx hb dX8_comes_282 rfl (lv_at hl 1 rfl) ?_
            refine lv_imul hx hb dX8_comes_283 ?_
            refine lv_iadd hx hb dX8_comes_284 ?_
            refine lv_iconst (v := 1) hx hb dX8_comes_285 (by decide) ?_
            refine lv_iadd hx hb dX8_comes_286 ?_
            refine lv_aload_n hx hb dX8_comes_287 rfl (lv_at hl 3 rfl) ?_
            refine gf_X8_40 C0 X hP 91 (q := 102) ⟨by decide, rfl⟩ (by omega) rfl dX8_comes_288 ?_
            refine lv_iconst (v := 2) hx hb dX8_comes_291 (by decide) ?_
            refine r_ialdN C0 X hP 102 (k := 2) ⟨by decide, rfl⟩ rfl (by decide) dX8_comes_292 ?_
            obtain ⟨k_153, ek_153, h⟩ := bnd h
            replace ek_153 := ix_s ek_153 (by decide)
            refine r_iastN C0 X hP hS 95 (k := k_153) ⟨by decide, rfl⟩ ek_153.1 ek_153.2 dX8_comes_293 (fun H locs hP hS => ?_)
            refine lv_iconst (v := 1) hx hb dX8_comes_294 (by decide) ?_
            exact r_zret C0 X hP hS hr hlk dX8_comes_295 (Or.inr rfl) (rt2 h)
          · replace h := it_f h c_151
            refine lv_iconst (v := 0) hx hb dX8_comes_260 (by decide) ?_
            exact r_zret C0 X hP hS hr hlk dX8_comes_261 (Or.inl rfl) (rt2 h)
  · replace h := it_f h c_1
    refine lv_iconst (v := 1) hx hb dX8_comes_9 (by decide) ?_
    refine lv_goto (tgt := 14) hx hb dX8_comes_10 (by decide) ?_
    refine lv_istore_n (lv' := [(2, .int 1), (0, .ref (ad 91)), (1, .int x1)]) hx hb dX8_comes_14 rfl hl (by decide) rfl (fun ls hl => ?_)
    refine lv_aload_n hx hb dX8_comes_15 rfl (lv_at hl 1 rfl) ?_
    refine gf_X8_40 C0 X hP 91 (q := 102) ⟨by decide, rfl⟩ (by omega) rfl dX8_comes_16 ?_
    refine lv_iconst (v := 0) hx hb dX8_comes_19 (by decide) ?_
    refine r_ialdN C0 X hP 102 (k := 0) ⟨by decide, rfl⟩ rfl (by decide) dX8_comes_20 ?_
    refine lv_istore_n (lv' := [(3, .int (σ 102 0)), (2, .int 1), (0, .ref (ad 91)), (1, .int x1)]) hx hb dX8_comes_21 rfl hl (by decide) rfl (fun ls hl => ?_)
    refine lv_aload_n hx hb dX8_comes_22 rfl (lv_at hl 2 rfl) ?_
    refine gf_X8_40 C0 X hP 91 (q := 102) ⟨by decide, rfl⟩ (by omega) rfl dX8_comes_23 ?_
    refine lv_iconst (v := 1) hx hb dX8_comes_26 (by decide) ?_
    refine r_ialdN C0 X hP 102 (k := 1) ⟨by decide, rfl⟩ rfl (by decide) dX8_comes_27 ?_
    refine lv_istore (lv' := [(4, .int (σ 102 1)), (3, .int (σ 102 0)), (2, .int 1), (0, .ref (ad 91)), (1, .int x1)]) hx hb dX8_comes_28 hl (by decide) rfl (fun ls hl => ?_)
    refine lv_iload_n hx hb dX8_comes_30 rfl (lv_at hl 4 rfl) ?_
    rcases sw_in (x := x1) (lo := 112) (n := 9) with c_154 | ⟨j, hj, c_154⟩
    · replace h := it_f h (sw_ne (v := 112) c_154 (by decide))
      replace h := it_f h (sw_ne (v := 114) c_154 (by decide))
      replace h := it_f h (sw_ne (v := 118) c_154 (by decide))
      replace h := it_f h (sw_ne (v := 120) c_154 (by decide))
      refine lv_tableOut (tgt := 296) hx hb dX8_comes_31 (by omega) (by decide) ?_
      refine lv_iload_n hx hb dX8_comes_296 rfl (lv_at hl 2 rfl) ?_
      refine lv_if_ne (tgt := 335) hx hb dX8_comes_297 (by decide) (fun _ => ?_) (fun c_155 => absurd c_155 (by decide))
      refine lv_iconst (v := 0) hx hb dX8_comes_335 (by decide) ?_
      exact r_zret C0 X hP hS hr hlk dX8_comes_336 (Or.inl rfl) (rt2 h)
    · rcases (show j = 0 ∨ j = 1 ∨ j = 2 ∨ j = 3 ∨ j = 4 ∨ j = 5 ∨ j = 6 ∨ j = 7 ∨ j = 8 by omega) with rfl | rfl | rfl | rfl | rfl | rfl | rfl | rfl | rfl
      · have e_156 : x1 = 112 := sw_eq c_154 (by decide)
        replace h := it_t h e_156
        refine lv_tableIn (off := 49) (tgt := 80) hx hb dX8_comes_31 (by rw [e_156]; decide) (by rw [e_156]; decide) (by rw [e_156]; rfl) (by decide) ?_
        refine lv_iload_n hx hb dX8_comes_80 rfl (lv_at hl 2 rfl) ?_
        refine lv_if_ne (tgt := 115) hx hb dX8_comes_81 (by decide) (fun _ => ?_) (fun c_157 => absurd c_157 (by decide))
        refine lv_iconst (v := 0) hx hb dX8_comes_115 (by decide) ?_
        exact r_zret C0 X hP hS hr hlk dX8_comes_116 (Or.inl rfl) (rt2 h)
      · have e_158 : x1 = 113 := sw_eq c_154 (by decide)
        replace h := it_f h (show ¬ x1 = 112 by rw [e_158]; decide)
        replace h := it_f h (show ¬ x1 = 114 by rw [e_158]; decide)
        replace h := it_f h (show ¬ x1 = 118 by rw [e_158]; decide)
        replace h := it_f h (show ¬ x1 = 120 by rw [e_158]; decide)
        refine lv_tableIn (off := 265) (tgt := 296) hx hb dX8_comes_31 (by rw [e_158]; decide) (by rw [e_158]; decide) (by rw [e_158]; rfl) (by decide) ?_
        refine lv_iload_n hx hb dX8_comes_296 rfl (lv_at hl 2 rfl) ?_
        refine lv_if_ne (tgt := 335) hx hb dX8_comes_297 (by decide) (fun _ => ?_) (fun c_159 => absurd c_159 (by decide))
        refine lv_iconst (v := 0) hx hb dX8_comes_335 (by decide) ?_
        exact r_zret C0 X hP hS hr hlk dX8_comes_336 (Or.inl rfl) (rt2 h)
      · have e_160 : x1 = 114 := sw_eq c_154 (by decide)
        replace h := it_f h (show ¬ x1 = 112 by rw [e_160]; decide)
        replace h := it_t h e_160
        refine lv_tableIn (off := 140) (tgt := 171) hx hb dX8_comes_31 (by rw [e_160]; decide) (by rw [e_160]; decide) (by rw [e_160]; rfl) (by decide) ?_
        refine lv_iload_n hx hb dX8_comes_171 rfl (lv_at hl 2 rfl) ?_
        refine lv_if_ne (tgt := 199) hx hb dX8_comes_172 (by decide) (fun _ => ?_) (fun c_161 => absurd c_161 (by decide))
        refine lv_iconst (v := 0) hx hb dX8_comes_199 (by decide) ?_
        exact r_zret C0 X hP hS hr hlk dX8_comes_200 (Or.inl rfl) (rt2 h)
      · have e_162 : x1 = 115 := sw_eq c_154 (by decide)
        replace h := it_f h (show ¬ x1 = 112 by rw [e_162]; decide)
        replace h := it_f h (show ¬ x1 = 114 by rw [e_162]; decide)
        replace h := it_f h (show ¬ x1 = 118 by rw [e_162]; decide)
        replace h := it_f h (show ¬ x1 = 120 by rw [e_162]; decide)
        refine lv_tableIn (off := 265) (tgt := 296) hx hb dX8_comes_31 (by rw [e_162]; decide) (by rw [e_162]; decide) (by rw [e_162]; rfl) (by decide) ?_
        refine lv_iload_n hx hb dX8_comes_296 rfl (lv_at hl 2 rfl) ?_
        refine lv_if_ne (tgt := 335) hx hb dX8_comes_297 (by decide) (fun _ => ?_) (fun c_163 => absurd c_163 (by decide))
        refine lv_iconst (v := 0) hx hb dX8_comes_335 (by decide) ?_
        exact r_zret C0 X hP hS hr hlk dX8_comes_336 (Or.inl rfl) (rt2 h)
      · have e_164 : x1 = 116 := sw_eq c_154 (by decide)
        replace h := it_f h (show ¬ x1 = 112 by rw [e_164]; decide)
        replace h := it_f h (show ¬ x1 = 114 by rw [e_164]; decide)
        replace h := it_f h (show ¬ x1 = 118 by rw [e_164]; decide)
        replace h := it_f h (show ¬ x1 = 120 by rw [e_164]; decide)
        refine lv_tableIn (off := 265) (tgt := 296) hx hb dX8_comes_31 (by rw [e_164]; decide) (by rw [e_164]; decide) (by rw [e_164]; rfl) (by decide) ?_
        refine lv_iload_n hx hb dX8_comes_296 rfl (lv_at hl 2 rfl) ?_
        refine lv_if_ne (tgt := 335) hx hb dX8_comes_297 (by decide) (fun _ => ?_) (fun c_165 => absurd c_165 (by decide))
        refine lv_iconst (v := 0) hx hb dX8_comes_335 (by decide) ?_
        exact r_zret C0 X hP hS hr hlk dX8_comes_336 (Or.inl rfl) (rt2 h)
      · have e_166 : x1 = 117 := sw_eq c_154 (by decide)
        replace h := it_f h (show ¬ x1 = 112 by rw [e_166]; decide)
        replace h := it_f h (show ¬ x1 = 114 by rw [e_166]; decide)
        replace h := it_f h (show ¬ x1 = 118 by rw [e_166]; decide)
        replace h := it_f h (show ¬ x1 = 120 by rw [e_166]; decide)
        refine lv_tableIn (off := 265) (tgt := 296) hx hb dX8_comes_31 (by rw [e_166]; decide) (by rw [e_166]; decide) (by rw [e_166]; rfl) (by decide) ?_
        refine lv_iload_n hx hb dX8_comes_296 rfl (lv_at hl 2 rfl) ?_
        refine lv_if_ne (tgt := 335) hx hb dX8_comes_297 (by decide) (fun _ => ?_) (fun c_167 => absurd c_167 (by decide))
        refine lv_iconst (v := 0) hx hb dX8_comes_335 (by decide) ?_
        exact r_zret C0 X hP hS hr hlk dX8_comes_336 (Or.inl rfl) (rt2 h)
      · have e_168 : x1 = 118 := sw_eq c_154 (by decide)
        replace h := it_f h (show ¬ x1 = 112 by rw [e_168]; decide)
        replace h := it_f h (show ¬ x1 = 114 by rw [e_168]; decide)
        replace h := it_t h e_168
        refine lv_tableIn (off := 182) (tgt := 213) hx hb dX8_comes_31 (by rw [e_168]; decide) (by rw [e_168]; decide) (by rw [e_168]; rfl) (by decide) ?_
        refine lv_iload_n hx hb dX8_comes_213 rfl (lv_at hl 1 rfl) ?_
        refine lv_aload_n hx hb dX8_comes_214 rfl (lv_at hl 3 rfl) ?_
        refine gf_X8_19 C0 X hP 91 (q := 95) ⟨by decide, rfl⟩ (by omega) rfl dX8_comes_215 ?_
        refine lv_iconst (v := 0) hx hb dX8_comes_218 (by decide) ?_
        refine r_ialdN C0 X hP 95 (k := 0) ⟨by decide, rfl⟩ rfl (by decide) dX8_comes_219 ?_
        refine lv_icmp_ge (tgt := 229) hx hb dX8_comes_220 (by decide) (fun c_169 => ?_) (fun c_169 => ?_)
        · replace h := it_t h c_169
          refine lv_iconst (v := 0) hx hb dX8_comes_229 (by decide) ?_
          exact r_zret C0 X hP hS hr hlk dX8_comes_230 (Or.inl rfl) (rt2 h)
        · replace h := it_f h c_169
          refine lv_iload hx hb dX8_comes_223 (lv_at hl 0 rfl) ?_
          refine lv_iconst (v := 2) hx hb dX8_comes_225 (by decide) ?_
          refine lv_icmp_le (tgt := 231) hx hb dX8_comes_226 (by decide) (fun c_170 => ?_) (fun c_170 => ?_)
          · replace h := it_t h c_170
            refine lv_aload_n hx hb dX8_comes_231 rfl (lv_at hl 3 rfl) ?_
            refine gf_X8_19 C0 X hP 91 (q := 95) ⟨by decide, rfl⟩ (by omega) rfl dX8_comes_232 ?_
            refine lv_bipush (v := 14) hx hb dX8_comes_235 (by decide) ?_
            refine lv_iconst (v := 3) hx hb dX8_comes_237 (by decide) ?_
            refine lv_iload_n hx hb dX8_comes_238 rfl (lv_at hl 1 rfl) ?_
            refine lv_imul hx hb dX8_comes_239 ?_
            refine lv_iadd hx hb dX8_comes_240 ?_
            refine lv_iconst (v := 2) hx hb dX8_comes_241 (by decide) ?_
            refine lv_iadd hx hb dX8_comes_242 ?_
            refine lv_iload hx hb dX8_comes_243 (lv_at hl 0 rfl) ?_
            obtain ⟨k_171, ek_171, h⟩ := bnd h
            replace ek_171 := ix_s ek_171 (by decide)
            refine r_iastN C0 X hP hS 95 (k := k_171) ⟨by decide, rfl⟩ ek_171.1 ek_171.2 dX8_comes_245 (fun H locs hP hS => ?_)
            refine lv_iconst (v := 1) hx hb dX8_comes_246 (by decide) ?_
            exact r_zret C0 X hP hS hr hlk dX8_comes_247 (Or.inr rfl) (rt2 h)
          · replace h := it_f h c_170
            refine lv_iconst (v := 0) hx hb dX8_comes_229 (by decide) ?_
            exact r_zret C0 X hP hS hr hlk dX8_comes_230 (Or.inl rfl) (rt2 h)
      · have e_172 : x1 = 119 := sw_eq c_154 (by decide)
        replace h := it_f h (show ¬ x1 = 112 by rw [e_172]; decide)
        replace h := it_f h (show ¬ x1 = 114 by rw [e_172]; decide)
        replace h := it_f h (show ¬ x1 = 118 by rw [e_172]; decide)
        replace h := it_f h (show ¬ x1 = 120 by rw [e_172]; decide)
        refine lv_tableIn (off := 265) (tgt := 296) hx hb dX8_comes_31 (by rw [e_172]; decide) (by rw [e_172]; decide) (by rw [e_172]; rfl) (by decide) ?_
        refine lv_iload_n hx hb dX8_comes_296 rfl (lv_at hl 2 rfl) ?_
        refine lv_if_ne (tgt := 335) hx hb dX8_comes_297 (by decide) (fun _ => ?_) (fun c_173 => absurd c_173 (by decide))
        refine lv_iconst (v := 0) hx hb dX8_comes_335 (by decide) ?_
        exact r_zret C0 X hP hS hr hlk dX8_comes_336 (Or.inl rfl) (rt2 h)
      · have e_174 : x1 = 120 := sw_eq c_154 (by decide)
        replace h := it_f h (show ¬ x1 = 112 by rw [e_174]; decide)
        replace h := it_f h (show ¬ x1 = 114 by rw [e_174]; decide)
        replace h := it_f h (show ¬ x1 = 118 by rw [e_174]; decide)
        replace h := it_t h e_174
        refine lv_tableIn (off := 217) (tgt := 248) hx hb dX8_comes_31 (by rw [e_174]; decide) (by rw [e_174]; decide) (by rw [e_174]; rfl) (by decide) ?_
        refine lv_iload_n hx hb dX8_comes_248 rfl (lv_at hl 1 rfl) ?_
        refine lv_iconst (v := 2) hx hb dX8_comes_249 (by decide) ?_
        refine lv_icmp_gt (tgt := 260) hx hb dX8_comes_250 (by decide) (fun c_175 => ?_) (fun c_175 => ?_)
        · replace h := it_t h c_175
          refine lv_iconst (v := 0) hx hb dX8_comes_260 (by decide) ?_
          exact r_zret C0 X hP hS hr hlk dX8_comes_261 (Or.inl rfl) (rt2 h)
        · replace h := it_f h c_175
          refine lv_iload hx hb dX8_comes_253 (lv_at hl 0 rfl) ?_
          refine lv_bipush (v := 7) hx hb dX8_comes_255 (by decide) ?_
          refine lv_icmp_le (tgt := 262) hx hb dX8_comes_257 (by decide) (fun c_176 => ?_) (fun c_176 => ?_)
          · replace h := it_t h c_176
            refine lv_aload_n hx hb dX8_comes_262 rfl (lv_at hl 3 rfl) ?_
            refine gf_X8_19 C0 X hP 91 (q := 95) ⟨by decide, rfl⟩ (by omega) rfl dX8_comes_263 ?_
            refine lv_bipush (v := 38) hx hb dX8_comes_266 (by decide) ?_
            refine lv_iconst (v := 2) hx hb dX8_comes_268 (by decide) ?_
            refine lv_iload_n hx hb dX8_comes_269 rfl (lv_at hl 1 rfl) ?_
            refine lv_imul hx hb dX8_comes_270 ?_
            refine lv_iadd hx hb dX8_comes_271 ?_
            refine lv_iload hx hb dX8_comes_272 (lv_at hl 0 rfl) ?_
            obtain ⟨k_177, ek_177, h⟩ := bnd h
            replace ek_177 := ix_s ek_177 (by decide)
            refine r_iastN C0 X hP hS 95 (k := k_177) ⟨by decide, rfl⟩ ek_177.1 ek_177.2 dX8_comes_274 (fun H locs hP hS => ?_)
            refine lv_aload_n hx hb dX8_comes_275 rfl (lv_at hl 3 rfl) ?_
            refine gf_X8_19 C0 X hP 91 (q := 95) ⟨by decide, rfl⟩ (by omega) rfl dX8_comes_276 ?_
            refine lv_bipush (v := 38) hx hb dX8_comes_279 (by decide) ?_
            refine lv_iconst (v := 2) hx hb dX8_comes_281 (by decide) ?_
            refine lv_iload_n hx hb dX8_comes_282 rfl (lv_at hl 1 rfl) ?_
            refine lv_imul hx hb dX8_comes_283 ?_
            refine lv_iadd hx hb dX8_comes_284 ?_
            refine lv_iconst (v := 1) hx hb dX8_comes_285 (by decide) ?_
            refine lv_iadd hx hb dX8_comes_286 ?_
            refine lv_aload_n hx hb dX8_comes_287 rfl (lv_at hl 3 rfl) ?_
            refine gf_X8_40 C0 X hP 91 (q := 102) ⟨by decide, rfl⟩ (by omega) rfl dX8_comes_288 ?_
            refine lv_iconst (v := 2) hx hb dX8_comes_291 (by decide) ?_
            refine r_ialdN C0 X hP 102 (k := 2) ⟨by decide, rfl⟩ rfl (by decide) dX8_comes_292 ?_
            obtain ⟨k_178, ek_178, h⟩ := bnd h
            replace ek_178 := ix_s ek_178 (by decide)
            refine r_iastN C0 X hP hS 95 (k := k_178) ⟨by decide, rfl⟩ ek_178.1 ek_178.2 dX8_comes_293 (fun H locs hP hS => ?_)
            refine lv_iconst (v := 1) hx hb dX8_comes_294 (by decide) ?_
            exact r_zret C0 X hP hS hr hlk dX8_comes_295 (Or.inr rfl) (rt2 h)
          · replace h := it_f h c_176
            refine lv_iconst (v := 0) hx hb dX8_comes_260 (by decide) ?_
            exact r_zret C0 X hP hS hr hlk dX8_comes_261 (Or.inl rfl) (rt2 h)
def bB_cX8_wrongRow : Nat := 0xac030400a7f41008009f1c2e1b1900b42a12009b1c1100a0052e1b1600b42a2100a7f51008009a2e1b1600b42a2f00a70207009a6900b81b
theorem yB_cX8_wrongRow : BYS cX8_wrongRow 56 bB_cX8_wrongRow := BYS_of (by decide +kernel)
theorem dX8_wrongRow_0 : decode cX8_wrongRow 0 = .ok (.iload_n 1, 1) := D_27 yB_cX8_wrongRow rfl rfl
theorem dX8_wrongRow_1 : decode cX8_wrongRow 1 = .ok (.invokestatic 105, 3) := D_184 yB_cX8_wrongRow rfl rfl rfl
theorem dX8_wrongRow_4 : decode cX8_wrongRow 4 = .ok (.ifCond .ne 7, 3) := D_154 yB_cX8_wrongRow rfl rfl (sg_p (m := 32768) (N := 7) rfl rfl rfl)
theorem dX8_wrongRow_7 : decode cX8_wrongRow 7 = .ok (.iconst (-1), 1) := D_2 yB_cX8_wrongRow rfl rfl
theorem dX8_wrongRow_8 : decode cX8_wrongRow 8 = .ok (.goto 47, 3) := D_167 yB_cX8_wrongRow rfl rfl (sg_p (m := 32768) (N := 47) rfl rfl rfl)
theorem dX8_wrongRow_11 : decode cX8_wrongRow 11 = .ok (.aload_n 0, 1) := D_42 yB_cX8_wrongRow rfl rfl
theorem dX8_wrongRow_12 : decode cX8_wrongRow 12 = .ok (.getfield 22, 3) := D_180 yB_cX8_wrongRow rfl rfl rfl
theorem dX8_wrongRow_15 : decode cX8_wrongRow 15 = .ok (.iload_n 1, 1) := D_27 yB_cX8_wrongRow rfl rfl
theorem dX8_wrongRow_16 : decode cX8_wrongRow 16 = .ok (.iaload, 1) := D_46 yB_cX8_wrongRow rfl rfl
theorem dX8_wrongRow_17 : decode cX8_wrongRow 17 = .ok (.ifCond .ne 8, 3) := D_154 yB_cX8_wrongRow rfl rfl (sg_p (m := 32768) (N := 8) rfl rfl rfl)
theorem dX8_wrongRow_20 : decode cX8_wrongRow 20 = .ok (.bipush (-11), 2) := D_16 yB_cX8_wrongRow rfl rfl (sg_n (m := 128) (N := 11) rfl rfl rfl)
theorem dX8_wrongRow_22 : decode cX8_wrongRow 22 = .ok (.goto 33, 3) := D_167 yB_cX8_wrongRow rfl rfl (sg_p (m := 32768) (N := 33) rfl rfl rfl)
theorem dX8_wrongRow_25 : decode cX8_wrongRow 25 = .ok (.aload_n 0, 1) := D_42 yB_cX8_wrongRow rfl rfl
theorem dX8_wrongRow_26 : decode cX8_wrongRow 26 = .ok (.getfield 22, 3) := D_180 yB_cX8_wrongRow rfl rfl rfl
theorem dX8_wrongRow_29 : decode cX8_wrongRow 29 = .ok (.iload_n 1, 1) := D_27 yB_cX8_wrongRow rfl rfl
theorem dX8_wrongRow_30 : decode cX8_wrongRow 30 = .ok (.iaload, 1) := D_46 yB_cX8_wrongRow rfl rfl
theorem dX8_wrongRow_31 : decode cX8_wrongRow 31 = .ok (.iconst 2, 1) := D_5 yB_cX8_wrongRow rfl rfl
theorem dX8_wrongRow_32 : decode cX8_wrongRow 32 = .ok (.if_icmp .ne 17, 3) := D_160 yB_cX8_wrongRow rfl rfl (sg_p (m := 32768) (N := 17) rfl rfl rfl)
theorem dX8_wrongRow_35 : decode cX8_wrongRow 35 = .ok (.iload_n 2, 1) := D_28 yB_cX8_wrongRow rfl rfl
theorem dX8_wrongRow_36 : decode cX8_wrongRow 36 = .ok (.ifCond .lt 18, 3) := D_155 yB_cX8_wrongRow rfl rfl (sg_p (m := 32768) (N := 18) rfl rfl rfl)
theorem dX8_wrongRow_39 : decode cX8_wrongRow 39 = .ok (.aload_n 0, 1) := D_42 yB_cX8_wrongRow rfl rfl
theorem dX8_wrongRow_40 : decode cX8_wrongRow 40 = .ok (.getfield 25, 3) := D_180 yB_cX8_wrongRow rfl rfl rfl
theorem dX8_wrongRow_43 : decode cX8_wrongRow 43 = .ok (.iload_n 1, 1) := D_27 yB_cX8_wrongRow rfl rfl
theorem dX8_wrongRow_44 : decode cX8_wrongRow 44 = .ok (.iaload, 1) := D_46 yB_cX8_wrongRow rfl rfl
theorem dX8_wrongRow_45 : decode cX8_wrongRow 45 = .ok (.iload_n 2, 1) := D_28 yB_cX8_wrongRow rfl rfl
theorem dX8_wrongRow_46 : decode cX8_wrongRow 46 = .ok (.if_icmp .eq 8, 3) := D_159 yB_cX8_wrongRow rfl rfl (sg_p (m := 32768) (N := 8) rfl rfl rfl)
theorem dX8_wrongRow_49 : decode cX8_wrongRow 49 = .ok (.bipush (-12), 2) := D_16 yB_cX8_wrongRow rfl rfl (sg_n (m := 128) (N := 12) rfl rfl rfl)
theorem dX8_wrongRow_51 : decode cX8_wrongRow 51 = .ok (.goto 4, 3) := D_167 yB_cX8_wrongRow rfl rfl (sg_p (m := 32768) (N := 4) rfl rfl rfl)
theorem dX8_wrongRow_54 : decode cX8_wrongRow 54 = .ok (.iconst 0, 1) := D_3 yB_cX8_wrongRow rfl rfl
theorem dX8_wrongRow_55 : decode cX8_wrongRow 55 = .ok (.ireturn, 1) := D_172 yB_cX8_wrongRow rfl rfl
def F_X8_wrongRow (σ : Mem) (x1 : Int32) (x2 : Int32) : Option (Int32) := (F_X8_isShelf σ x1).bind fun r_1 => if r_1 = 0 then (some (-1)) else ((ix 8 x1).bind fun k_3 => if (σ 96 k_3) = 0 then (some (-11)) else ((ix 8 x1).bind fun k_5 => if (σ 96 k_5) = 2 then (if x2 < 0 then (some 0) else ((ix 8 x1).bind fun k_8 => if (σ 97 k_8) = x2 then (some 0) else (some (-12)))) else (some (-12))))
set_option maxHeartbeats 4000000 in
set_option maxRecDepth 100000 in
theorem c_X8_wrongRow (l : Launch) (D : va_G) (cA : Nat → ClassId) (ad : Nat → Nat) (o : Int64) (σ : Mem) (x1 : Int32) (x2 : Int32)  (res : Int32) (h : F_X8_wrongRow σ x1 x2 = some res) (sz : Nat) : Met l yX8_wrongRow (WY yX8_wrongRow cX8_wrongRow 3 (some .int)) (RM 2) (va_Pc [.ref (ad 91), .int x1, .int x2] (PW D cA ad o σ sz)) (va_Qi (fun r σ9 => r = res ∧ σ9 = σ) (QW D cA ad o) (FA ad sz)) 0 0 (FA ad sz) := by
  refine ct_of (own := RX8) (k := 2) (Qf := va_Qi (fun r σ9 => r = res ∧ σ9 = σ) (QW D cA ad o)) rfl (by decide) (Nat.le_of_ble_eq_true rfl) (fun p e s m below meth c ls C0 X hr hlk hP hl => ?_) sz
  have hS : va_S (FA ad s.heap.size) s.heap s.heap [] := va_S.rf
  have hl : lv_has ls 3 [(0, .ref (ad 91)), (1, .int x1), (2, .int x2)] := hl
  obtain ⟨hx, hb, hml, hown, hts⟩ := id C0
  unfold F_X8_wrongRow at h
  refine lv_iload_n hx hb dX8_wrongRow_0 rfl (lv_at hl 1 rfl) ?_
  obtain ⟨r_1, er_1, h⟩ := bnd h
  refine r_ci X hS (r_runS (As := [.int x1]) (rest := []) C0 X hP L_X8_105 (fun sz => c_X8_isShelf l D cA ad o σ x1  r_1 er_1 sz) ⟨Nat.le_of_ble_eq_true rfl, Nat.le_of_ble_eq_true rfl⟩ rfl hl.1 rfl (Nat.le_of_ble_eq_true rfl) dX8_wrongRow_1 ⟨Nat.zero_le _, Nat.zero_le _⟩) (fun r9 σ9 H locs hw hP hS => ?_)
  rw [hw.2] at hP
  rw [hw.1]
  refine lv_if_ne (tgt := 11) hx hb dX8_wrongRow_4 (by decide) (fun c_2 => ?_) (fun c_2 => ?_)
  · replace h := it_f h c_2
    refine lv_aload_n hx hb dX8_wrongRow_11 rfl (lv_at hl 0 rfl) ?_
    refine gf_X8_22 C0 X hP 91 (q := 96) ⟨by decide, rfl⟩ (by omega) rfl dX8_wrongRow_12 ?_
    refine lv_iload_n hx hb dX8_wrongRow_15 rfl (lv_at hl 1 rfl) ?_
    obtain ⟨k_3, ek_3, h⟩ := bnd h
    replace ek_3 := ix_s ek_3 (by decide)
    refine r_ialdN C0 X hP 96 (k := k_3) ⟨by decide, rfl⟩ ek_3.1 ek_3.2 dX8_wrongRow_16 ?_
    refine lv_if_ne (tgt := 25) hx hb dX8_wrongRow_17 (by decide) (fun c_4 => ?_) (fun c_4 => ?_)
    · replace h := it_f h c_4
      refine lv_aload_n hx hb dX8_wrongRow_25 rfl (lv_at hl 0 rfl) ?_
      refine gf_X8_22 C0 X hP 91 (q := 96) ⟨by decide, rfl⟩ (by omega) rfl dX8_wrongRow_26 ?_
      refine lv_iload_n hx hb dX8_wrongRow_29 rfl (lv_at hl 1 rfl) ?_
      obtain ⟨k_5, ek_5, h⟩ := bnd h
      replace ek_5 := ix_s ek_5 (by decide)
      refine r_ialdN C0 X hP 96 (k := k_5) ⟨by decide, rfl⟩ ek_5.1 ek_5.2 dX8_wrongRow_30 ?_
      refine lv_iconst (v := 2) hx hb dX8_wrongRow_31 (by decide) ?_
      refine lv_icmp_ne (tgt := 49) hx hb dX8_wrongRow_32 (by decide) (fun c_6 => ?_) (fun c_6 => ?_)
      · replace h := it_f h c_6
        refine lv_bipush (v := (-12)) hx hb dX8_wrongRow_49 (by decide) ?_
        refine lv_goto (tgt := 55) hx hb dX8_wrongRow_51 (by decide) ?_
        exact r_iret C0 X hP hS hr hlk dX8_wrongRow_55 ⟨Option.some.inj h, rfl⟩
      · replace h := it_t h c_6
        refine lv_iload_n hx hb dX8_wrongRow_35 rfl (lv_at hl 2 rfl) ?_
        refine lv_if_lt (tgt := 54) hx hb dX8_wrongRow_36 (by decide) (fun c_7 => ?_) (fun c_7 => ?_)
        · replace h := it_t h c_7
          refine lv_iconst (v := 0) hx hb dX8_wrongRow_54 (by decide) ?_
          exact r_iret C0 X hP hS hr hlk dX8_wrongRow_55 ⟨Option.some.inj h, rfl⟩
        · replace h := it_f h c_7
          refine lv_aload_n hx hb dX8_wrongRow_39 rfl (lv_at hl 0 rfl) ?_
          refine gf_X8_25 C0 X hP 91 (q := 97) ⟨by decide, rfl⟩ (by omega) rfl dX8_wrongRow_40 ?_
          refine lv_iload_n hx hb dX8_wrongRow_43 rfl (lv_at hl 1 rfl) ?_
          obtain ⟨k_8, ek_8, h⟩ := bnd h
          replace ek_8 := ix_s ek_8 (by decide)
          refine r_ialdN C0 X hP 97 (k := k_8) ⟨by decide, rfl⟩ ek_8.1 ek_8.2 dX8_wrongRow_44 ?_
          refine lv_iload_n hx hb dX8_wrongRow_45 rfl (lv_at hl 2 rfl) ?_
          refine lv_icmp_eq (tgt := 54) hx hb dX8_wrongRow_46 (by decide) (fun c_9 => ?_) (fun c_9 => ?_)
          · replace h := it_t h c_9
            refine lv_iconst (v := 0) hx hb dX8_wrongRow_54 (by decide) ?_
            exact r_iret C0 X hP hS hr hlk dX8_wrongRow_55 ⟨Option.some.inj h, rfl⟩
          · replace h := it_f h c_9
            refine lv_bipush (v := (-12)) hx hb dX8_wrongRow_49 (by decide) ?_
            refine lv_goto (tgt := 55) hx hb dX8_wrongRow_51 (by decide) ?_
            exact r_iret C0 X hP hS hr hlk dX8_wrongRow_55 ⟨Option.some.inj h, rfl⟩
    · replace h := it_t h c_4
      refine lv_bipush (v := (-11)) hx hb dX8_wrongRow_20 (by decide) ?_
      refine lv_goto (tgt := 55) hx hb dX8_wrongRow_22 (by decide) ?_
      exact r_iret C0 X hP hS hr hlk dX8_wrongRow_55 ⟨Option.some.inj h, rfl⟩
  · replace h := it_t h c_2
    refine lv_iconst (v := (-1)) hx hb dX8_wrongRow_7 (by decide) ?_
    refine lv_goto (tgt := 55) hx hb dX8_wrongRow_8 (by decide) ?_
    exact r_iret C0 X hP hS hr hlk dX8_wrongRow_55 ⟨Option.some.inj h, rfl⟩
def bB_cX8_spotOf : Nat := 0xac1cedffa70103843d602e60681d060e102a1c1400a21b1d3e033d03
theorem yB_cX8_spotOf : BYS cX8_spotOf 28 bB_cX8_spotOf := BYS_of (by decide +kernel)
theorem dX8_spotOf_0 : decode cX8_spotOf 0 = .ok (.iconst 0, 1) := D_3 yB_cX8_spotOf rfl rfl
theorem dX8_spotOf_1 : decode cX8_spotOf 1 = .ok (.istore_n 2, 1) := D_61 yB_cX8_spotOf rfl rfl
theorem dX8_spotOf_2 : decode cX8_spotOf 2 = .ok (.iconst 0, 1) := D_3 yB_cX8_spotOf rfl rfl
theorem dX8_spotOf_3 : decode cX8_spotOf 3 = .ok (.istore_n 3, 1) := D_62 yB_cX8_spotOf rfl rfl
theorem dX8_spotOf_4 : decode cX8_spotOf 4 = .ok (.iload_n 3, 1) := D_29 yB_cX8_spotOf rfl rfl
theorem dX8_spotOf_5 : decode cX8_spotOf 5 = .ok (.iload_n 1, 1) := D_27 yB_cX8_spotOf rfl rfl
theorem dX8_spotOf_6 : decode cX8_spotOf 6 = .ok (.if_icmp .ge 20, 3) := D_162 yB_cX8_spotOf rfl rfl (sg_p (m := 32768) (N := 20) rfl rfl rfl)
theorem dX8_spotOf_9 : decode cX8_spotOf 9 = .ok (.iload_n 2, 1) := D_28 yB_cX8_spotOf rfl rfl
theorem dX8_spotOf_10 : decode cX8_spotOf 10 = .ok (.aload_n 0, 1) := D_42 yB_cX8_spotOf rfl rfl
theorem dX8_spotOf_11 : decode cX8_spotOf 11 = .ok (.bipush 14, 2) := D_16 yB_cX8_spotOf rfl rfl (sg_p (m := 128) (N := 14) rfl rfl rfl)
theorem dX8_spotOf_13 : decode cX8_spotOf 13 = .ok (.iconst 3, 1) := D_6 yB_cX8_spotOf rfl rfl
theorem dX8_spotOf_14 : decode cX8_spotOf 14 = .ok (.iload_n 3, 1) := D_29 yB_cX8_spotOf rfl rfl
theorem dX8_spotOf_15 : decode cX8_spotOf 15 = .ok (.imul, 1) := D_104 yB_cX8_spotOf rfl rfl
theorem dX8_spotOf_16 : decode cX8_spotOf 16 = .ok (.iadd, 1) := D_96 yB_cX8_spotOf rfl rfl
theorem dX8_spotOf_17 : decode cX8_spotOf 17 = .ok (.iaload, 1) := D_46 yB_cX8_spotOf rfl rfl
theorem dX8_spotOf_18 : decode cX8_spotOf 18 = .ok (.iadd, 1) := D_96 yB_cX8_spotOf rfl rfl
theorem dX8_spotOf_19 : decode cX8_spotOf 19 = .ok (.istore_n 2, 1) := D_61 yB_cX8_spotOf rfl rfl
theorem dX8_spotOf_20 : decode cX8_spotOf 20 = .ok (.iinc 3 1, 3) := D_132 yB_cX8_spotOf rfl rfl rfl (sg_p (m := 128) (N := 1) rfl rfl rfl)
theorem dX8_spotOf_23 : decode cX8_spotOf 23 = .ok (.goto (-19), 3) := D_167 yB_cX8_spotOf rfl rfl (sg_n (m := 32768) (N := 19) rfl rfl rfl)
theorem dX8_spotOf_26 : decode cX8_spotOf 26 = .ok (.iload_n 2, 1) := D_28 yB_cX8_spotOf rfl rfl
theorem dX8_spotOf_27 : decode cX8_spotOf 27 = .ok (.ireturn, 1) := D_172 yB_cX8_spotOf rfl rfl
def F_X8_spotOf_4 (σ : Mem) (a1 : Nat) (x2 : Int32)  : Nat → Int32 → Int32 → Option (Int32)
  | 0, _, _ => none
  | nn + 1, v3, v2 => if x2 ≤ v3 then (some v2) else ((ix 121 (14 + (3 * v3))).bind fun k_3 => F_X8_spotOf_4 σ a1 x2 nn (v3 + 1) (v2 + (σ a1 k_3)))
def F_X8_spotOf (σ : Mem) (a1 : Nat) (x2 : Int32) : Option (Int32) := F_X8_spotOf_4 σ a1 x2 FU 0 0
set_option maxHeartbeats 4000000 in
set_option maxRecDepth 100000 in
theorem c_X8_spotOf (l : Launch) (D : va_G) (cA : Nat → ClassId) (ad : Nat → Nat) (o : Int64) (σ : Mem) (a1 : Nat) (x2 : Int32) (ha1 : a1 < 106 ∧ kd a1 = (9, 121)) (res : Int32) (h : F_X8_spotOf σ a1 x2 = some res) (sz : Nat) : Met l yX8_spotOf (WY yX8_spotOf cX8_spotOf 4 (some .int)) (RM 0) (va_Pc [.ref (ad a1), .int x2] (PW D cA ad o σ sz)) (va_Qi (fun r σ9 => r = res ∧ σ9 = σ) (QW D cA ad o) (FA ad sz)) 0 0 (FA ad sz) := by
  refine ct_of (own := RX8) (k := 0) (Qf := va_Qi (fun r σ9 => r = res ∧ σ9 = σ) (QW D cA ad o)) rfl (by decide) (Nat.le_of_ble_eq_true rfl) (fun p e s m below meth c ls C0 X hr hlk hP hl => ?_) sz
  have hS : va_S (FA ad s.heap.size) s.heap s.heap [] := va_S.rf
  have hl : lv_has ls 4 [(0, .ref (ad a1)), (1, .int x2)] := hl
  obtain ⟨hx, hb, hml, hown, hts⟩ := id C0
  unfold F_X8_spotOf at h
  refine lv_iconst (v := 0) hx hb dX8_spotOf_0 (by decide) ?_
  refine lv_istore_n (lv' := [(2, .int 0), (0, .ref (ad a1)), (1, .int x2)]) hx hb dX8_spotOf_1 rfl hl (by decide) rfl (fun ls hl => ?_)
  refine lv_iconst (v := 0) hx hb dX8_spotOf_2 (by decide) ?_
  refine lv_istore_n (lv' := [(3, .int 0), (2, .int 0), (0, .ref (ad a1)), (1, .int x2)]) hx hb dX8_spotOf_3 rfl hl (by decide) rfl (fun ls hl => ?_)
  have lp_1 : ∀ (nn4 : Nat) (v3 : Int32) (v2 : Int32) (H : Heap) (locs : List Loc) (ls : Array Slot), F_X8_spotOf_4 σ a1 x2 nn4 v3 v2 = some res → WP D cA ad o σ H → va_S (FA ad s.heap.size) s.heap H locs → lv_has ls 4 [(3, .int v3), (2, .int v2), (0, .ref (ad a1)), (1, .int x2)] → W p l e (RM 0) s m ([.ref (ad a1), .int x2] : List Value).toArray below meth c H locs 0 0 (MQ below (va_Qi (fun r σ9 => r = res ∧ σ9 = σ) (QW D cA ad o) (FA ad s.heap.size)) ([.ref (ad a1), .int x2] : List Value).toArray s 0 0 (FA ad s.heap.size)) (F0 m 4 ls []) := by
    intro nn4
    induction nn4 with
    | zero => intro v3 v2 H locs ls h hP hS hl; exact absurd (show none = some res from h) nofun
    | succ nn4 ih4 =>
      intro v3 v2 H locs ls h hP hS hl
      replace h := (F_X8_spotOf_4.eq_2 _ _ _ _ _ _).symm.trans h
      refine lv_iload_n hx hb dX8_spotOf_4 rfl (lv_at hl 0 rfl) ?_
      refine lv_iload_n hx hb dX8_spotOf_5 rfl (lv_at hl 3 rfl) ?_
      refine lv_icmp_ge (tgt := 26) hx hb dX8_spotOf_6 (by decide) (fun c_2 => ?_) (fun c_2 => ?_)
      · replace h := it_t h c_2
        refine lv_iload_n hx hb dX8_spotOf_26 rfl (lv_at hl 1 rfl) ?_
        exact r_iret C0 X hP hS hr hlk dX8_spotOf_27 ⟨Option.some.inj h, rfl⟩
      · replace h := it_f h c_2
        refine lv_iload_n hx hb dX8_spotOf_9 rfl (lv_at hl 1 rfl) ?_
        refine lv_aload_n hx hb dX8_spotOf_10 rfl (lv_at hl 2 rfl) ?_
        refine lv_bipush (v := 14) hx hb dX8_spotOf_11 (by decide) ?_
        refine lv_iconst (v := 3) hx hb dX8_spotOf_13 (by decide) ?_
        refine lv_iload_n hx hb dX8_spotOf_14 rfl (lv_at hl 0 rfl) ?_
        refine lv_imul hx hb dX8_spotOf_15 ?_
        refine lv_iadd hx hb dX8_spotOf_16 ?_
        obtain ⟨k_3, ek_3, h⟩ := bnd h
        replace ek_3 := ix_s ek_3 (by decide)
        refine r_ialdN C0 X hP a1 (k := k_3) ha1 ek_3.1 ek_3.2 dX8_spotOf_17 ?_
        refine lv_iadd hx hb dX8_spotOf_18 ?_
        refine lv_istore_n (lv' := [(2, .int (v2 + (σ a1 k_3))), (3, .int v3), (0, .ref (ad a1)), (1, .int x2)]) hx hb dX8_spotOf_19 rfl hl (by decide) rfl (fun ls hl => ?_)
        refine lv_iinc (v := (v3 + 1)) (lv' := [(3, .int (v3 + 1)), (2, .int (v2 + (σ a1 k_3))), (0, .ref (ad a1)), (1, .int x2)]) hx hb dX8_spotOf_20 hl (k := 1) rfl rfl (by decide) rfl (fun ls hl => ?_)
        refine lv_goto (tgt := 4) hx hb dX8_spotOf_23 (by decide) ?_
        exact ih4 (v3 + 1) (v2 + (σ a1 k_3)) _ _ ls  h hP hS (lv_sub hl [0, 1, 2, 3] rfl)
  exact lp_1 FU 0 0 _ _ ls  h hP hS (lv_sub hl [0, 1, 2, 3] rfl)
def bB_cX8_endOf : Nat := 0xac7600b82e032a2a
theorem yB_cX8_endOf : BYS cX8_endOf 8 bB_cX8_endOf := BYS_of (by decide +kernel)
theorem dX8_endOf_0 : decode cX8_endOf 0 = .ok (.aload_n 0, 1) := D_42 yB_cX8_endOf rfl rfl
theorem dX8_endOf_1 : decode cX8_endOf 1 = .ok (.aload_n 0, 1) := D_42 yB_cX8_endOf rfl rfl
theorem dX8_endOf_2 : decode cX8_endOf 2 = .ok (.iconst 0, 1) := D_3 yB_cX8_endOf rfl rfl
theorem dX8_endOf_3 : decode cX8_endOf 3 = .ok (.iaload, 1) := D_46 yB_cX8_endOf rfl rfl
theorem dX8_endOf_4 : decode cX8_endOf 4 = .ok (.invokestatic 118, 3) := D_184 yB_cX8_endOf rfl rfl rfl
theorem dX8_endOf_7 : decode cX8_endOf 7 = .ok (.ireturn, 1) := D_172 yB_cX8_endOf rfl rfl
def F_X8_endOf (σ : Mem) (a1 : Nat) : Option (Int32) := (F_X8_spotOf σ a1 (σ a1 0)).bind fun r_1 => some r_1
set_option maxHeartbeats 4000000 in
set_option maxRecDepth 100000 in
theorem c_X8_endOf (l : Launch) (D : va_G) (cA : Nat → ClassId) (ad : Nat → Nat) (o : Int64) (σ : Mem) (a1 : Nat) (ha1 : a1 < 106 ∧ kd a1 = (9, 121)) (res : Int32) (h : F_X8_endOf σ a1 = some res) (sz : Nat) : Met l yX8_endOf (WY yX8_endOf cX8_endOf 1 (some .int)) (RM 1) (va_Pc [.ref (ad a1)] (PW D cA ad o σ sz)) (va_Qi (fun r σ9 => r = res ∧ σ9 = σ) (QW D cA ad o) (FA ad sz)) 0 0 (FA ad sz) := by
  refine ct_of (own := RX8) (k := 1) (Qf := va_Qi (fun r σ9 => r = res ∧ σ9 = σ) (QW D cA ad o)) rfl (by decide) (Nat.le_of_ble_eq_true rfl) (fun p e s m below meth c ls C0 X hr hlk hP hl => ?_) sz
  have hS : va_S (FA ad s.heap.size) s.heap s.heap [] := va_S.rf
  have hl : lv_has ls 1 [(0, .ref (ad a1))] := hl
  obtain ⟨hx, hb, hml, hown, hts⟩ := id C0
  unfold F_X8_endOf at h
  refine lv_aload_n hx hb dX8_endOf_0 rfl (lv_at hl 0 rfl) ?_
  refine lv_aload_n hx hb dX8_endOf_1 rfl (lv_at hl 0 rfl) ?_
  refine lv_iconst (v := 0) hx hb dX8_endOf_2 (by decide) ?_
  refine r_ialdN C0 X hP a1 (k := 0) ha1 rfl (by decide) dX8_endOf_3 ?_
  obtain ⟨r_1, er_1, h⟩ := bnd h
  refine r_ci X hS (r_runS (As := [.ref (ad a1), .int (σ a1 0)]) (rest := []) C0 X hP L_X8_118 (fun sz => c_X8_spotOf l D cA ad o σ a1 (σ a1 0) ha1 r_1 er_1 sz) ⟨Nat.le_of_ble_eq_true rfl, Nat.le_of_ble_eq_true rfl⟩ rfl hl.1 rfl (Nat.le_of_ble_eq_true rfl) dX8_endOf_4 ⟨Nat.zero_le _, Nat.zero_le _⟩) (fun r9 σ9 H locs hw hP hS => ?_)
  rw [hw.2] at hP
  rw [hw.1]
  exact r_iret C0 X hP hS hr hlk dX8_endOf_7 ⟨Option.some.inj h, rfl⟩
def bB_cX8_road : Nat := 0xac1de8ffa70104844f2e04151300b42a04150900b42a1700a279100415043603d3ffa7ac64041530f8110a009a7300b605152a06367000b62a05364600b62a04363d00b42a2800a24000b42a3d00b42a3d00b5032ae8ffa70104844f2e04150900b42a04151300b42a1700a279100415043603e5ffa14000b42a3d00b42a010384ac643d00b42a18fc110c009a7000b62a3e033d00b5032a4000b52e1b1c00b42a2a4300b5681b64102aac1c0500991c3d6c00b6031b2a
theorem yB_cX8_road : BYS cX8_road 183 bB_cX8_road := BYS_of (by decide +kernel)
theorem dX8_road_0 : decode cX8_road 0 = .ok (.aload_n 0, 1) := D_42 yB_cX8_road rfl rfl
theorem dX8_road_1 : decode cX8_road 1 = .ok (.iload_n 1, 1) := D_27 yB_cX8_road rfl rfl
theorem dX8_road_2 : decode cX8_road 2 = .ok (.iconst 0, 1) := D_3 yB_cX8_road rfl rfl
theorem dX8_road_3 : decode cX8_road 3 = .ok (.invokevirtual 108, 3) := D_182 yB_cX8_road rfl rfl rfl
theorem dX8_road_6 : decode cX8_road 6 = .ok (.istore_n 2, 1) := D_61 yB_cX8_road rfl rfl
theorem dX8_road_7 : decode cX8_road 7 = .ok (.iload_n 2, 1) := D_28 yB_cX8_road rfl rfl
theorem dX8_road_8 : decode cX8_road 8 = .ok (.ifCond .eq 5, 3) := D_153 yB_cX8_road rfl rfl (sg_p (m := 32768) (N := 5) rfl rfl rfl)
theorem dX8_road_11 : decode cX8_road 11 = .ok (.iload_n 2, 1) := D_28 yB_cX8_road rfl rfl
theorem dX8_road_12 : decode cX8_road 12 = .ok (.ireturn, 1) := D_172 yB_cX8_road rfl rfl
theorem dX8_road_13 : decode cX8_road 13 = .ok (.aload_n 0, 1) := D_42 yB_cX8_road rfl rfl
theorem dX8_road_14 : decode cX8_road 14 = .ok (.bipush 100, 2) := D_16 yB_cX8_road rfl rfl (sg_p (m := 128) (N := 100) rfl rfl rfl)
theorem dX8_road_16 : decode cX8_road 16 = .ok (.iload_n 1, 1) := D_27 yB_cX8_road rfl rfl
theorem dX8_road_17 : decode cX8_road 17 = .ok (.imul, 1) := D_104 yB_cX8_road rfl rfl
theorem dX8_road_18 : decode cX8_road 18 = .ok (.putfield 67, 3) := D_181 yB_cX8_road rfl rfl rfl
theorem dX8_road_21 : decode cX8_road 21 = .ok (.aload_n 0, 1) := D_42 yB_cX8_road rfl rfl
theorem dX8_road_22 : decode cX8_road 22 = .ok (.aload_n 0, 1) := D_42 yB_cX8_road rfl rfl
theorem dX8_road_23 : decode cX8_road 23 = .ok (.getfield 28, 3) := D_180 yB_cX8_road rfl rfl rfl
theorem dX8_road_26 : decode cX8_road 26 = .ok (.iload_n 1, 1) := D_27 yB_cX8_road rfl rfl
theorem dX8_road_27 : decode cX8_road 27 = .ok (.iaload, 1) := D_46 yB_cX8_road rfl rfl
theorem dX8_road_28 : decode cX8_road 28 = .ok (.putfield 64, 3) := D_181 yB_cX8_road rfl rfl rfl
theorem dX8_road_31 : decode cX8_road 31 = .ok (.aload_n 0, 1) := D_42 yB_cX8_road rfl rfl
theorem dX8_road_32 : decode cX8_road 32 = .ok (.iconst 0, 1) := D_3 yB_cX8_road rfl rfl
theorem dX8_road_33 : decode cX8_road 33 = .ok (.putfield 61, 3) := D_181 yB_cX8_road rfl rfl rfl
theorem dX8_road_36 : decode cX8_road 36 = .ok (.iconst 0, 1) := D_3 yB_cX8_road rfl rfl
theorem dX8_road_37 : decode cX8_road 37 = .ok (.istore_n 3, 1) := D_62 yB_cX8_road rfl rfl
theorem dX8_road_38 : decode cX8_road 38 = .ok (.aload_n 0, 1) := D_42 yB_cX8_road rfl rfl
theorem dX8_road_39 : decode cX8_road 39 = .ok (.invokevirtual 112, 3) := D_182 yB_cX8_road rfl rfl rfl
theorem dX8_road_42 : decode cX8_road 42 = .ok (.ifCond .ne 12, 3) := D_154 yB_cX8_road rfl rfl (sg_p (m := 32768) (N := 12) rfl rfl rfl)
theorem dX8_road_45 : decode cX8_road 45 = .ok (.sipush (-1000), 3) := D_17 yB_cX8_road rfl rfl (sg_n (m := 32768) (N := 1000) rfl rfl rfl)
theorem dX8_road_48 : decode cX8_road 48 = .ok (.aload_n 0, 1) := D_42 yB_cX8_road rfl rfl
theorem dX8_road_49 : decode cX8_road 49 = .ok (.getfield 61, 3) := D_180 yB_cX8_road rfl rfl rfl
theorem dX8_road_52 : decode cX8_road 52 = .ok (.isub, 1) := D_100 yB_cX8_road rfl rfl
theorem dX8_road_53 : decode cX8_road 53 = .ok (.ireturn, 1) := D_172 yB_cX8_road rfl rfl
theorem dX8_road_54 : decode cX8_road 54 = .ok (.iinc 3 1, 3) := D_132 yB_cX8_road rfl rfl rfl (sg_p (m := 128) (N := 1) rfl rfl rfl)
theorem dX8_road_57 : decode cX8_road 57 = .ok (.aload_n 0, 1) := D_42 yB_cX8_road rfl rfl
theorem dX8_road_58 : decode cX8_road 58 = .ok (.getfield 61, 3) := D_180 yB_cX8_road rfl rfl rfl
theorem dX8_road_61 : decode cX8_road 61 = .ok (.aload_n 0, 1) := D_42 yB_cX8_road rfl rfl
theorem dX8_road_62 : decode cX8_road 62 = .ok (.getfield 64, 3) := D_180 yB_cX8_road rfl rfl rfl
theorem dX8_road_65 : decode cX8_road 65 = .ok (.if_icmp .lt (-27), 3) := D_161 yB_cX8_road rfl rfl (sg_n (m := 32768) (N := 27) rfl rfl rfl)
theorem dX8_road_68 : decode cX8_road 68 = .ok (.iconst 0, 1) := D_3 yB_cX8_road rfl rfl
theorem dX8_road_69 : decode cX8_road 69 = .ok (.istore 4, 2) := D_54 yB_cX8_road rfl rfl rfl
theorem dX8_road_71 : decode cX8_road 71 = .ok (.iload 4, 2) := D_21 yB_cX8_road rfl rfl rfl
theorem dX8_road_73 : decode cX8_road 73 = .ok (.bipush 121, 2) := D_16 yB_cX8_road rfl rfl (sg_p (m := 128) (N := 121) rfl rfl rfl)
theorem dX8_road_75 : decode cX8_road 75 = .ok (.if_icmp .ge 23, 3) := D_162 yB_cX8_road rfl rfl (sg_p (m := 32768) (N := 23) rfl rfl rfl)
theorem dX8_road_78 : decode cX8_road 78 = .ok (.aload_n 0, 1) := D_42 yB_cX8_road rfl rfl
theorem dX8_road_79 : decode cX8_road 79 = .ok (.getfield 19, 3) := D_180 yB_cX8_road rfl rfl rfl
theorem dX8_road_82 : decode cX8_road 82 = .ok (.iload 4, 2) := D_21 yB_cX8_road rfl rfl rfl
theorem dX8_road_84 : decode cX8_road 84 = .ok (.aload_n 0, 1) := D_42 yB_cX8_road rfl rfl
theorem dX8_road_85 : decode cX8_road 85 = .ok (.getfield 9, 3) := D_180 yB_cX8_road rfl rfl rfl
theorem dX8_road_88 : decode cX8_road 88 = .ok (.iload 4, 2) := D_21 yB_cX8_road rfl rfl rfl
theorem dX8_road_90 : decode cX8_road 90 = .ok (.iaload, 1) := D_46 yB_cX8_road rfl rfl
theorem dX8_road_91 : decode cX8_road 91 = .ok (.iastore, 1) := D_79 yB_cX8_road rfl rfl
theorem dX8_road_92 : decode cX8_road 92 = .ok (.iinc 4 1, 3) := D_132 yB_cX8_road rfl rfl rfl (sg_p (m := 128) (N := 1) rfl rfl rfl)
theorem dX8_road_95 : decode cX8_road 95 = .ok (.goto (-24), 3) := D_167 yB_cX8_road rfl rfl (sg_n (m := 32768) (N := 24) rfl rfl rfl)
theorem dX8_road_98 : decode cX8_road 98 = .ok (.aload_n 0, 1) := D_42 yB_cX8_road rfl rfl
theorem dX8_road_99 : decode cX8_road 99 = .ok (.iconst 0, 1) := D_3 yB_cX8_road rfl rfl
theorem dX8_road_100 : decode cX8_road 100 = .ok (.putfield 61, 3) := D_181 yB_cX8_road rfl rfl rfl
theorem dX8_road_103 : decode cX8_road 103 = .ok (.aload_n 0, 1) := D_42 yB_cX8_road rfl rfl
theorem dX8_road_104 : decode cX8_road 104 = .ok (.getfield 61, 3) := D_180 yB_cX8_road rfl rfl rfl
theorem dX8_road_107 : decode cX8_road 107 = .ok (.aload_n 0, 1) := D_42 yB_cX8_road rfl rfl
theorem dX8_road_108 : decode cX8_road 108 = .ok (.getfield 64, 3) := D_180 yB_cX8_road rfl rfl rfl
theorem dX8_road_111 : decode cX8_road 111 = .ok (.if_icmp .ge 40, 3) := D_162 yB_cX8_road rfl rfl (sg_p (m := 32768) (N := 40) rfl rfl rfl)
theorem dX8_road_114 : decode cX8_road 114 = .ok (.aload_n 0, 1) := D_42 yB_cX8_road rfl rfl
theorem dX8_road_115 : decode cX8_road 115 = .ok (.getfield 61, 3) := D_180 yB_cX8_road rfl rfl rfl
theorem dX8_road_118 : decode cX8_road 118 = .ok (.istore 4, 2) := D_54 yB_cX8_road rfl rfl rfl
theorem dX8_road_120 : decode cX8_road 120 = .ok (.aload_n 0, 1) := D_42 yB_cX8_road rfl rfl
theorem dX8_road_121 : decode cX8_road 121 = .ok (.invokevirtual 70, 3) := D_182 yB_cX8_road rfl rfl rfl
theorem dX8_road_124 : decode cX8_road 124 = .ok (.istore 5, 2) := D_54 yB_cX8_road rfl rfl rfl
theorem dX8_road_126 : decode cX8_road 126 = .ok (.aload_n 0, 1) := D_42 yB_cX8_road rfl rfl
theorem dX8_road_127 : decode cX8_road 127 = .ok (.invokevirtual 112, 3) := D_182 yB_cX8_road rfl rfl rfl
theorem dX8_road_130 : decode cX8_road 130 = .ok (.istore 6, 2) := D_54 yB_cX8_road rfl rfl rfl
theorem dX8_road_132 : decode cX8_road 132 = .ok (.aload_n 0, 1) := D_42 yB_cX8_road rfl rfl
theorem dX8_road_133 : decode cX8_road 133 = .ok (.iload 5, 2) := D_21 yB_cX8_road rfl rfl rfl
theorem dX8_road_135 : decode cX8_road 135 = .ok (.invokevirtual 115, 3) := D_182 yB_cX8_road rfl rfl rfl
theorem dX8_road_138 : decode cX8_road 138 = .ok (.ifCond .ne 10, 3) := D_154 yB_cX8_road rfl rfl (sg_p (m := 32768) (N := 10) rfl rfl rfl)
theorem dX8_road_141 : decode cX8_road 141 = .ok (.sipush (-2000), 3) := D_17 yB_cX8_road rfl rfl (sg_n (m := 32768) (N := 2000) rfl rfl rfl)
theorem dX8_road_144 : decode cX8_road 144 = .ok (.iload 4, 2) := D_21 yB_cX8_road rfl rfl rfl
theorem dX8_road_146 : decode cX8_road 146 = .ok (.isub, 1) := D_100 yB_cX8_road rfl rfl
theorem dX8_road_147 : decode cX8_road 147 = .ok (.ireturn, 1) := D_172 yB_cX8_road rfl rfl
theorem dX8_road_148 : decode cX8_road 148 = .ok (.goto (-45), 3) := D_167 yB_cX8_road rfl rfl (sg_n (m := 32768) (N := 45) rfl rfl rfl)
theorem dX8_road_151 : decode cX8_road 151 = .ok (.iconst 0, 1) := D_3 yB_cX8_road rfl rfl
theorem dX8_road_152 : decode cX8_road 152 = .ok (.istore 4, 2) := D_54 yB_cX8_road rfl rfl rfl
theorem dX8_road_154 : decode cX8_road 154 = .ok (.iload 4, 2) := D_21 yB_cX8_road rfl rfl rfl
theorem dX8_road_156 : decode cX8_road 156 = .ok (.bipush 121, 2) := D_16 yB_cX8_road rfl rfl (sg_p (m := 128) (N := 121) rfl rfl rfl)
theorem dX8_road_158 : decode cX8_road 158 = .ok (.if_icmp .ge 23, 3) := D_162 yB_cX8_road rfl rfl (sg_p (m := 32768) (N := 23) rfl rfl rfl)
theorem dX8_road_161 : decode cX8_road 161 = .ok (.aload_n 0, 1) := D_42 yB_cX8_road rfl rfl
theorem dX8_road_162 : decode cX8_road 162 = .ok (.getfield 9, 3) := D_180 yB_cX8_road rfl rfl rfl
theorem dX8_road_165 : decode cX8_road 165 = .ok (.iload 4, 2) := D_21 yB_cX8_road rfl rfl rfl
theorem dX8_road_167 : decode cX8_road 167 = .ok (.aload_n 0, 1) := D_42 yB_cX8_road rfl rfl
theorem dX8_road_168 : decode cX8_road 168 = .ok (.getfield 19, 3) := D_180 yB_cX8_road rfl rfl rfl
theorem dX8_road_171 : decode cX8_road 171 = .ok (.iload 4, 2) := D_21 yB_cX8_road rfl rfl rfl
theorem dX8_road_173 : decode cX8_road 173 = .ok (.iaload, 1) := D_46 yB_cX8_road rfl rfl
theorem dX8_road_174 : decode cX8_road 174 = .ok (.iastore, 1) := D_79 yB_cX8_road rfl rfl
theorem dX8_road_175 : decode cX8_road 175 = .ok (.iinc 4 1, 3) := D_132 yB_cX8_road rfl rfl rfl (sg_p (m := 128) (N := 1) rfl rfl rfl)
theorem dX8_road_178 : decode cX8_road 178 = .ok (.goto (-24), 3) := D_167 yB_cX8_road rfl rfl (sg_n (m := 32768) (N := 24) rfl rfl rfl)
theorem dX8_road_181 : decode cX8_road 181 = .ok (.iload_n 3, 1) := D_29 yB_cX8_road rfl rfl
theorem dX8_road_182 : decode cX8_road 182 = .ok (.ireturn, 1) := D_172 yB_cX8_road rfl rfl
def F_X8_road_154 (x1 : Int32)  : Nat → Mem → Int32 → Int32 → Int32 → Option (Mem × Int32)
  | 0, _, _, _, _ => none
  | nn + 1, σ, v4, v3, v2 => if 121 ≤ v4 then (some (σ, v3)) else ((ix 121 v4).bind fun k_15 => (ix 121 v4).bind fun k_16 => F_X8_road_154 x1 nn (stm σ 92 k_16 (σ 95 k_15)) (v4 + 1) v3 v2)
def F_X8_road_103 (x1 : Int32)  : Nat → Mem → Int32 → Int32 → Int32 → Option (Mem × Int32)
  | 0, _, _, _, _ => none
  | nn + 1, σ, v4, v3, v2 => if (σ 91 14) ≤ (σ 91 12) then (F_X8_road_154 x1 FU σ 0 v3 v2) else ((F_X8_here σ ).bind fun r_17 => bd2 (F_X8_readsStatement σ ) fun σ_18 r_19 => bd2 (F_X8_comes σ_18 r_17) fun σ_20 r_21 => if r_21 = 0 then (some (σ_20, ((-2000) - (σ 91 12)))) else (F_X8_road_103 x1 nn σ_20 (σ 91 12) v3 v2))
def F_X8_road_71 (x1 : Int32)  : Nat → Mem → Int32 → Int32 → Int32 → Option (Mem × Int32)
  | 0, _, _, _, _ => none
  | nn + 1, σ, v4, v3, v2 => if 121 ≤ v4 then (F_X8_road_103 x1 FU (stm σ 91 12 0) v4 v3 v2) else ((ix 121 v4).bind fun k_23 => (ix 121 v4).bind fun k_24 => F_X8_road_71 x1 nn (stm σ 95 k_24 (σ 92 k_23)) (v4 + 1) v3 v2)
def F_X8_road_38 (x1 : Int32)  : Nat → Mem → Int32 → Int32 → Option (Mem × Int32)
  | 0, _, _, _ => none
  | nn + 1, σ, v3, v2 => bd2 (F_X8_readsStatement σ ) fun σ_5 r_6 => if r_6 = 0 then (some (σ_5, ((-1000) - (σ_5 91 12)))) else (if (σ_5 91 12) < (σ_5 91 14) then (F_X8_road_38 x1 nn σ_5 (v3 + 1) v2) else (F_X8_road_71 x1 FU σ_5 0 (v3 + 1) v2))
def F_X8_road (σ : Mem) (x1 : Int32) : Option (Mem × Int32) := (F_X8_wrongRow σ x1 0).bind fun r_1 => if r_1 = 0 then ((ix 8 x1).bind fun k_3 => F_X8_road_38 x1 FU (stm (stm (stm σ 91 13 (100 * x1)) 91 14 ((stm σ 91 13 (100 * x1)) 98 k_3)) 91 12 0) 0 r_1) else (some (σ, r_1))
set_option maxHeartbeats 4000000 in
set_option maxRecDepth 100000 in
theorem c_X8_road (l : Launch) (D : va_G) (cA : Nat → ClassId) (ad : Nat → Nat) (o : Int64) (σ : Mem) (x1 : Int32)  (res : Mem × Int32) (h : F_X8_road σ x1 = some res) (sz : Nat) : Met l yX8_road (WY yX8_road cX8_road 7 (some .int)) (RM 5) (va_Pc [.ref (ad 91), .int x1] (PW D cA ad o σ sz)) (va_Qi (fun r σ9 => r = res.2 ∧ σ9 = res.1) (QW D cA ad o) (FA ad sz)) 0 0 (FA ad sz) := by
  refine ct_of (own := RX8) (k := 5) (Qf := va_Qi (fun r σ9 => r = res.2 ∧ σ9 = res.1) (QW D cA ad o)) rfl (by decide) (Nat.le_of_ble_eq_true rfl) (fun p e s m below meth c ls C0 X hr hlk hP hl => ?_) sz
  have hS : va_S (FA ad s.heap.size) s.heap s.heap [] := va_S.rf
  have hl : lv_has ls 7 [(0, .ref (ad 91)), (1, .int x1)] := hl
  obtain ⟨hx, hb, hml, hown, hts⟩ := id C0
  unfold F_X8_road at h
  refine lv_aload_n hx hb dX8_road_0 rfl (lv_at hl 0 rfl) ?_
  refine lv_iload_n hx hb dX8_road_1 rfl (lv_at hl 1 rfl) ?_
  refine lv_iconst (v := 0) hx hb dX8_road_2 (by decide) ?_
  obtain ⟨r_1, er_1, h⟩ := bnd h
  refine r_ci X hS (r_runV (As := [.int x1, .int 0]) (rest := []) C0 X hP L_X8_108 (fun sz => c_X8_wrongRow l D cA ad o σ x1 0  r_1 er_1 sz) (show 91 < 106 ∧ kd 91 = (8, 24) from ⟨by decide, rfl⟩).1 (show 91 < 106 ∧ kd 91 = (8, 24) from ⟨by decide, rfl⟩).2 (by decide) rfl ⟨Nat.le_of_ble_eq_true rfl, Nat.le_of_ble_eq_true rfl⟩ rfl hl.1 rfl (Nat.le_of_ble_eq_true rfl) dX8_road_3 ⟨Nat.zero_le _, Nat.zero_le _⟩) (fun r9 σ9 H locs hw hP hS => ?_)
  rw [hw.2] at hP
  rw [hw.1]
  refine lv_istore_n (lv' := [(2, .int r_1), (0, .ref (ad 91)), (1, .int x1)]) hx hb dX8_road_6 rfl hl (by decide) rfl (fun ls hl => ?_)
  refine lv_iload_n hx hb dX8_road_7 rfl (lv_at hl 0 rfl) ?_
  refine lv_if_eq (tgt := 13) hx hb dX8_road_8 (by decide) (fun c_2 => ?_) (fun c_2 => ?_)
  · replace h := it_t h c_2
    refine lv_aload_n hx hb dX8_road_13 rfl (lv_at hl 1 rfl) ?_
    refine lv_bipush (v := 100) hx hb dX8_road_14 (by decide) ?_
    refine lv_iload_n hx hb dX8_road_16 rfl (lv_at hl 2 rfl) ?_
    refine lv_imul hx hb dX8_road_17 ?_
    refine pf_X8_67 C0 X hP hS 91 ⟨by decide, rfl⟩ dX8_road_18 (fun H locs hP hS => ?_)
    refine lv_aload_n hx hb dX8_road_21 rfl (lv_at hl 1 rfl) ?_
    refine lv_aload_n hx hb dX8_road_22 rfl (lv_at hl 1 rfl) ?_
    refine gf_X8_28 C0 X hP 91 (q := 98) ⟨by decide, rfl⟩ (by omega) rfl dX8_road_23 ?_
    refine lv_iload_n hx hb dX8_road_26 rfl (lv_at hl 2 rfl) ?_
    obtain ⟨k_3, ek_3, h⟩ := bnd h
    replace ek_3 := ix_s ek_3 (by decide)
    refine r_ialdN C0 X hP 98 (k := k_3) ⟨by decide, rfl⟩ ek_3.1 ek_3.2 dX8_road_27 ?_
    refine pf_X8_64 C0 X hP hS 91 ⟨by decide, rfl⟩ dX8_road_28 (fun H locs hP hS => ?_)
    refine lv_aload_n hx hb dX8_road_31 rfl (lv_at hl 1 rfl) ?_
    refine lv_iconst (v := 0) hx hb dX8_road_32 (by decide) ?_
    refine pf_X8_61 C0 X hP hS 91 ⟨by decide, rfl⟩ dX8_road_33 (fun H locs hP hS => ?_)
    refine lv_iconst (v := 0) hx hb dX8_road_36 (by decide) ?_
    refine lv_istore_n (lv' := [(3, .int 0), (2, .int r_1), (0, .ref (ad 91)), (1, .int x1)]) hx hb dX8_road_37 rfl hl (by decide) rfl (fun ls hl => ?_)
    have lp_4 : ∀ (nn38 : Nat) (σ : Mem) (v3 : Int32) (v2 : Int32) (H : Heap) (locs : List Loc) (ls : Array Slot), F_X8_road_38 x1 nn38 σ v3 v2 = some res → WP D cA ad o σ H → va_S (FA ad s.heap.size) s.heap H locs → lv_has ls 7 [(3, .int v3), (2, .int v2), (0, .ref (ad 91)), (1, .int x1)] → W p l e (RM 5) s m ([.ref (ad 91), .int x1] : List Value).toArray below meth c H locs 0 0 (MQ below (va_Qi (fun r σ9 => r = res.2 ∧ σ9 = res.1) (QW D cA ad o) (FA ad s.heap.size)) ([.ref (ad 91), .int x1] : List Value).toArray s 0 0 (FA ad s.heap.size)) (F0 m 38 ls []) := by
      intro nn38
      induction nn38 with
      | zero => intro σ v3 v2 H locs ls h hP hS hl; exact absurd (show none = some res from h) nofun
      | succ nn38 ih38 =>
        intro σ v3 v2 H locs ls h hP hS hl
        replace h := (F_X8_road_38.eq_2 _ _ _ _ _).symm.trans h
        refine lv_aload_n hx hb dX8_road_38 rfl (lv_at hl 2 rfl) ?_
        obtain ⟨σ_5, r_6, eσ_5, h⟩ := bnd2 h
        refine r_ci X hS (r_runV (As := []) (rest := []) C0 X hP L_X8_112 (fun sz => c_X8_readsStatement l D cA ad o σ   (σ_5, r_6) eσ_5 sz) (show 91 < 106 ∧ kd 91 = (8, 24) from ⟨by decide, rfl⟩).1 (show 91 < 106 ∧ kd 91 = (8, 24) from ⟨by decide, rfl⟩).2 (by decide) rfl ⟨Nat.le_of_ble_eq_true rfl, Nat.le_of_ble_eq_true rfl⟩ rfl hl.1 rfl (Nat.le_of_ble_eq_true rfl) dX8_road_39 ⟨Nat.zero_le _, Nat.zero_le _⟩) (fun r9 σ9 H locs hw hP hS => ?_)
        rw [show σ9 = σ_5 from hw.2] at hP
        rw [show r9 = r_6 from hw.1]
        refine lv_if_ne (tgt := 54) hx hb dX8_road_42 (by decide) (fun c_7 => ?_) (fun c_7 => ?_)
        · replace h := it_f h c_7
          refine lv_iinc (v := (v3 + 1)) (lv' := [(3, .int (v3 + 1)), (2, .int v2), (0, .ref (ad 91)), (1, .int x1)]) hx hb dX8_road_54 hl (k := 0) rfl rfl (by decide) rfl (fun ls hl => ?_)
          refine lv_aload_n hx hb dX8_road_57 rfl (lv_at hl 2 rfl) ?_
          refine gf_X8_61 C0 X hP 91 ⟨by decide, rfl⟩ dX8_road_58 ?_
          refine lv_aload_n hx hb dX8_road_61 rfl (lv_at hl 2 rfl) ?_
          refine gf_X8_64 C0 X hP 91 ⟨by decide, rfl⟩ dX8_road_62 ?_
          refine lv_icmp_lt (tgt := 38) hx hb dX8_road_65 (by decide) (fun c_8 => ?_) (fun c_8 => ?_)
          · replace h := it_t h c_8
            exact ih38 σ_5 (v3 + 1) v2 _ _ ls  h hP hS (lv_sub hl [0, 1, 2, 3] rfl)
          · replace h := it_f h c_8
            refine lv_iconst (v := 0) hx hb dX8_road_68 (by decide) ?_
            refine lv_istore (lv' := [(4, .int 0), (3, .int (v3 + 1)), (2, .int v2), (0, .ref (ad 91)), (1, .int x1)]) hx hb dX8_road_69 hl (by decide) rfl (fun ls hl => ?_)
            have lp_9 : ∀ (nn71 : Nat) (σ : Mem) (v4 : Int32) (v3 : Int32) (v2 : Int32) (H : Heap) (locs : List Loc) (ls : Array Slot), F_X8_road_71 x1 nn71 σ v4 v3 v2 = some res → WP D cA ad o σ H → va_S (FA ad s.heap.size) s.heap H locs → lv_has ls 7 [(4, .int v4), (3, .int v3), (2, .int v2), (0, .ref (ad 91)), (1, .int x1)] → W p l e (RM 5) s m ([.ref (ad 91), .int x1] : List Value).toArray below meth c H locs 0 0 (MQ below (va_Qi (fun r σ9 => r = res.2 ∧ σ9 = res.1) (QW D cA ad o) (FA ad s.heap.size)) ([.ref (ad 91), .int x1] : List Value).toArray s 0 0 (FA ad s.heap.size)) (F0 m 71 ls []) := by
              intro nn71
              induction nn71 with
              | zero => intro σ v4 v3 v2 H locs ls h hP hS hl; exact absurd (show none = some res from h) nofun
              | succ nn71 ih71 =>
                intro σ v4 v3 v2 H locs ls h hP hS hl
                replace h := (F_X8_road_71.eq_2 _ _ _ _ _ _).symm.trans h
                refine lv_iload hx hb dX8_road_71 (lv_at hl 0 rfl) ?_
                refine lv_bipush (v := 121) hx hb dX8_road_73 (by decide) ?_
                refine lv_icmp_ge (tgt := 98) hx hb dX8_road_75 (by decide) (fun c_10 => ?_) (fun c_10 => ?_)
                · replace h := it_t h c_10
                  refine lv_aload_n hx hb dX8_road_98 rfl (lv_at hl 3 rfl) ?_
                  refine lv_iconst (v := 0) hx hb dX8_road_99 (by decide) ?_
                  refine pf_X8_61 C0 X hP hS 91 ⟨by decide, rfl⟩ dX8_road_100 (fun H locs hP hS => ?_)
                  have lp_11 : ∀ (nn103 : Nat) (σ : Mem) (v4 : Int32) (v3 : Int32) (v2 : Int32) (H : Heap) (locs : List Loc) (ls : Array Slot), F_X8_road_103 x1 nn103 σ v4 v3 v2 = some res → WP D cA ad o σ H → va_S (FA ad s.heap.size) s.heap H locs → lv_has ls 7 [(4, .int v4), (3, .int v3), (2, .int v2), (0, .ref (ad 91)), (1, .int x1)] → W p l e (RM 5) s m ([.ref (ad 91), .int x1] : List Value).toArray below meth c H locs 0 0 (MQ below (va_Qi (fun r σ9 => r = res.2 ∧ σ9 = res.1) (QW D cA ad o) (FA ad s.heap.size)) ([.ref (ad 91), .int x1] : List Value).toArray s 0 0 (FA ad s.heap.size)) (F0 m 103 ls []) := by
                    intro nn103
                    induction nn103 with
                    | zero => intro σ v4 v3 v2 H locs ls h hP hS hl; exact absurd (show none = some res from h) nofun
                    | succ nn103 ih103 =>
                      intro σ v4 v3 v2 H locs ls h hP hS hl
                      replace h := (F_X8_road_103.eq_2 _ _ _ _ _ _).symm.trans h
                      refine lv_aload_n hx hb dX8_road_103 rfl (lv_at hl 3 rfl) ?_
                      refine gf_X8_61 C0 X hP 91 ⟨by decide, rfl⟩ dX8_road_104 ?_
                      refine lv_aload_n hx hb dX8_road_107 rfl (lv_at hl 3 rfl) ?_
                      refine gf_X8_64 C0 X hP 91 ⟨by decide, rfl⟩ dX8_road_108 ?_
                      refine lv_icmp_ge (tgt := 151) hx hb dX8_road_111 (by decide) (fun c_12 => ?_) (fun c_12 => ?_)
                      · replace h := it_t h c_12
                        refine lv_iconst (v := 0) hx hb dX8_road_151 (by decide) ?_
                        refine lv_istore (lv' := [(4, .int 0), (3, .int v3), (2, .int v2), (0, .ref (ad 91)), (1, .int x1)]) hx hb dX8_road_152 hl (by decide) rfl (fun ls hl => ?_)
                        have lp_13 : ∀ (nn154 : Nat) (σ : Mem) (v4 : Int32) (v3 : Int32) (v2 : Int32) (H : Heap) (locs : List Loc) (ls : Array Slot), F_X8_road_154 x1 nn154 σ v4 v3 v2 = some res → WP D cA ad o σ H → va_S (FA ad s.heap.size) s.heap H locs → lv_has ls 7 [(4, .int v4), (3, .int v3), (2, .int v2), (0, .ref (ad 91)), (1, .int x1)] → W p l e (RM 5) s m ([.ref (ad 91), .int x1] : List Value).toArray below meth c H locs 0 0 (MQ below (va_Qi (fun r σ9 => r = res.2 ∧ σ9 = res.1) (QW D cA ad o) (FA ad s.heap.size)) ([.ref (ad 91), .int x1] : List Value).toArray s 0 0 (FA ad s.heap.size)) (F0 m 154 ls []) := by
                          intro nn154
                          induction nn154 with
                          | zero => intro σ v4 v3 v2 H locs ls h hP hS hl; exact absurd (show none = some res from h) nofun
                          | succ nn154 ih154 =>
                            intro σ v4 v3 v2 H locs ls h hP hS hl
                            replace h := (F_X8_road_154.eq_2 _ _ _ _ _ _).symm.trans h
                            refine lv_iload hx hb dX8_road_154 (lv_at hl 0 rfl) ?_
                            refine lv_bipush (v := 121) hx hb dX8_road_156 (by decide) ?_
                            refine lv_icmp_ge (tgt := 181) hx hb dX8_road_158 (by decide) (fun c_14 => ?_) (fun c_14 => ?_)
                            · replace h := it_t h c_14
                              refine lv_iload_n hx hb dX8_road_181 rfl (lv_at hl 1 rfl) ?_
                              exact r_iret C0 X hP hS hr hlk dX8_road_182 (rt2 h)
                            · replace h := it_f h c_14
                              refine lv_aload_n hx hb dX8_road_161 rfl (lv_at hl 3 rfl) ?_
                              refine gf_X8_9 C0 X hP 91 (q := 92) ⟨by decide, rfl⟩ (by omega) rfl dX8_road_162 ?_
                              refine lv_iload hx hb dX8_road_165 (lv_at hl 0 rfl) ?_
                              refine lv_aload_n hx hb dX8_road_167 rfl (lv_at hl 3 rfl) ?_
                              refine gf_X8_19 C0 X hP 91 (q := 95) ⟨by decide, rfl⟩ (by omega) rfl dX8_road_168 ?_
                              refine lv_iload hx hb dX8_road_171 (lv_at hl 0 rfl) ?_
                              obtain ⟨k_15, ek_15, h⟩ := bnd h
                              replace ek_15 := ix_s ek_15 (by decide)
                              refine r_ialdN C0 X hP 95 (k := k_15) ⟨by decide, rfl⟩ ek_15.1 ek_15.2 dX8_road_173 ?_
                              obtain ⟨k_16, ek_16, h⟩ := bnd h
                              replace ek_16 := ix_s ek_16 (by decide)
                              refine r_iastN C0 X hP hS 92 (k := k_16) ⟨by decide, rfl⟩ ek_16.1 ek_16.2 dX8_road_174 (fun H locs hP hS => ?_)
                              refine lv_iinc (v := (v4 + 1)) (lv' := [(4, .int (v4 + 1)), (3, .int v3), (2, .int v2), (0, .ref (ad 91)), (1, .int x1)]) hx hb dX8_road_175 hl (k := 0) rfl rfl (by decide) rfl (fun ls hl => ?_)
                              refine lv_goto (tgt := 154) hx hb dX8_road_178 (by decide) ?_
                              exact ih154 (stm σ 92 k_16 (σ 95 k_15)) (v4 + 1) v3 v2 _ _ ls  h hP hS (lv_sub hl [0, 1, 2, 3, 4] rfl)
                        exact lp_13 FU σ 0 v3 v2 _ _ ls  h hP hS (lv_sub hl [0, 1, 2, 3, 4] rfl)
                      · replace h := it_f h c_12
                        refine lv_aload_n hx hb dX8_road_114 rfl (lv_at hl 3 rfl) ?_
                        refine gf_X8_61 C0 X hP 91 ⟨by decide, rfl⟩ dX8_road_115 ?_
                        refine lv_istore (lv' := [(4, .int (σ 91 12)), (3, .int v3), (2, .int v2), (0, .ref (ad 91)), (1, .int x1)]) hx hb dX8_road_118 hl (by decide) rfl (fun ls hl => ?_)
                        refine lv_aload_n hx hb dX8_road_120 rfl (lv_at hl 3 rfl) ?_
                        obtain ⟨r_17, er_17, h⟩ := bnd h
                        refine r_ci X hS (r_runV (As := []) (rest := []) C0 X hP L_X8_70 (fun sz => c_X8_here l D cA ad o σ   r_17 er_17 sz) (show 91 < 106 ∧ kd 91 = (8, 24) from ⟨by decide, rfl⟩).1 (show 91 < 106 ∧ kd 91 = (8, 24) from ⟨by decide, rfl⟩).2 (by decide) rfl ⟨Nat.le_of_ble_eq_true rfl, Nat.le_of_ble_eq_true rfl⟩ rfl hl.1 rfl (Nat.le_of_ble_eq_true rfl) dX8_road_121 ⟨Nat.zero_le _, Nat.zero_le _⟩) (fun r9 σ9 H locs hw hP hS => ?_)
                        rw [hw.2] at hP
                        rw [hw.1]
                        refine lv_istore (lv' := [(5, .int r_17), (4, .int (σ 91 12)), (3, .int v3), (2, .int v2), (0, .ref (ad 91)), (1, .int x1)]) hx hb dX8_road_124 hl (by decide) rfl (fun ls hl => ?_)
                        refine lv_aload_n hx hb dX8_road_126 rfl (lv_at hl 4 rfl) ?_
                        obtain ⟨σ_18, r_19, eσ_18, h⟩ := bnd2 h
                        refine r_ci X hS (r_runV (As := []) (rest := []) C0 X hP L_X8_112 (fun sz => c_X8_readsStatement l D cA ad o σ   (σ_18, r_19) eσ_18 sz) (show 91 < 106 ∧ kd 91 = (8, 24) from ⟨by decide, rfl⟩).1 (show 91 < 106 ∧ kd 91 = (8, 24) from ⟨by decide, rfl⟩).2 (by decide) rfl ⟨Nat.le_of_ble_eq_true rfl, Nat.le_of_ble_eq_true rfl⟩ rfl hl.1 rfl (Nat.le_of_ble_eq_true rfl) dX8_road_127 ⟨Nat.zero_le _, Nat.zero_le _⟩) (fun r9 σ9 H locs hw hP hS => ?_)
                        rw [show σ9 = σ_18 from hw.2] at hP
                        rw [show r9 = r_19 from hw.1]
                        refine lv_istore (lv' := [(6, .int r_19), (5, .int r_17), (4, .int (σ 91 12)), (3, .int v3), (2, .int v2), (0, .ref (ad 91)), (1, .int x1)]) hx hb dX8_road_130 hl (by decide) rfl (fun ls hl => ?_)
                        refine lv_aload_n hx hb dX8_road_132 rfl (lv_at hl 5 rfl) ?_
                        refine lv_iload hx hb dX8_road_133 (lv_at hl 1 rfl) ?_
                        obtain ⟨σ_20, r_21, eσ_20, h⟩ := bnd2 h
                        refine r_ci X hS (r_runV (As := [.int r_17]) (rest := []) C0 X hP L_X8_115 (fun sz => c_X8_comes l D cA ad o σ_18 r_17  (σ_20, r_21) eσ_20 sz) (show 91 < 106 ∧ kd 91 = (8, 24) from ⟨by decide, rfl⟩).1 (show 91 < 106 ∧ kd 91 = (8, 24) from ⟨by decide, rfl⟩).2 (by decide) rfl ⟨Nat.le_of_ble_eq_true rfl, Nat.le_of_ble_eq_true rfl⟩ rfl hl.1 rfl (Nat.le_of_ble_eq_true rfl) dX8_road_135 ⟨Nat.zero_le _, Nat.zero_le _⟩) (fun r9 σ9 H locs hw hP hS => ?_)
                        rw [show σ9 = σ_20 from hw.2] at hP
                        rw [show r9 = r_21 from hw.1]
                        refine lv_if_ne (tgt := 148) hx hb dX8_road_138 (by decide) (fun c_22 => ?_) (fun c_22 => ?_)
                        · replace h := it_f h c_22
                          refine lv_goto (tgt := 103) hx hb dX8_road_148 (by decide) ?_
                          exact ih103 σ_20 (σ 91 12) v3 v2 _ _ ls  h hP hS (lv_sub hl [2, 3, 4, 5, 6] rfl)
                        · replace h := it_t h c_22
                          refine lv_sipush (v := (-2000)) hx hb dX8_road_141 (by decide) ?_
                          refine lv_iload hx hb dX8_road_144 (lv_at hl 2 rfl) ?_
                          refine lv_isub hx hb dX8_road_146 ?_
                          exact r_iret C0 X hP hS hr hlk dX8_road_147 (rt2 h)
                  exact lp_11 FU (stm σ 91 12 0) v4 v3 v2 _ _ ls  h hP hS (lv_sub hl [0, 1, 2, 3, 4] rfl)
                · replace h := it_f h c_10
                  refine lv_aload_n hx hb dX8_road_78 rfl (lv_at hl 3 rfl) ?_
                  refine gf_X8_19 C0 X hP 91 (q := 95) ⟨by decide, rfl⟩ (by omega) rfl dX8_road_79 ?_
                  refine lv_iload hx hb dX8_road_82 (lv_at hl 0 rfl) ?_
                  refine lv_aload_n hx hb dX8_road_84 rfl (lv_at hl 3 rfl) ?_
                  refine gf_X8_9 C0 X hP 91 (q := 92) ⟨by decide, rfl⟩ (by omega) rfl dX8_road_85 ?_
                  refine lv_iload hx hb dX8_road_88 (lv_at hl 0 rfl) ?_
                  obtain ⟨k_23, ek_23, h⟩ := bnd h
                  replace ek_23 := ix_s ek_23 (by decide)
                  refine r_ialdN C0 X hP 92 (k := k_23) ⟨by decide, rfl⟩ ek_23.1 ek_23.2 dX8_road_90 ?_
                  obtain ⟨k_24, ek_24, h⟩ := bnd h
                  replace ek_24 := ix_s ek_24 (by decide)
                  refine r_iastN C0 X hP hS 95 (k := k_24) ⟨by decide, rfl⟩ ek_24.1 ek_24.2 dX8_road_91 (fun H locs hP hS => ?_)
                  refine lv_iinc (v := (v4 + 1)) (lv' := [(4, .int (v4 + 1)), (3, .int v3), (2, .int v2), (0, .ref (ad 91)), (1, .int x1)]) hx hb dX8_road_92 hl (k := 0) rfl rfl (by decide) rfl (fun ls hl => ?_)
                  refine lv_goto (tgt := 71) hx hb dX8_road_95 (by decide) ?_
                  exact ih71 (stm σ 95 k_24 (σ 92 k_23)) (v4 + 1) v3 v2 _ _ ls  h hP hS (lv_sub hl [0, 1, 2, 3, 4] rfl)
            exact lp_9 FU σ_5 0 (v3 + 1) v2 _ _ ls  h hP hS (lv_sub hl [0, 1, 2, 3, 4] rfl)
        · replace h := it_t h c_7
          refine lv_sipush (v := (-1000)) hx hb dX8_road_45 (by decide) ?_
          refine lv_aload_n hx hb dX8_road_48 rfl (lv_at hl 2 rfl) ?_
          refine gf_X8_61 C0 X hP 91 ⟨by decide, rfl⟩ dX8_road_49 ?_
          refine lv_isub hx hb dX8_road_52 ?_
          exact r_iret C0 X hP hS hr hlk dX8_road_53 (rt2 h)
    exact lp_4 FU (stm (stm (stm σ 91 13 (100 * x1)) 91 14 ((stm σ 91 13 (100 * x1)) 98 k_3)) 91 12 0) 0 r_1 _ _ ls  h hP hS (lv_sub hl [0, 1, 2, 3] rfl)
  · replace h := it_f h c_2
    refine lv_iload_n hx hb dX8_road_11 rfl (lv_at hl 0 rfl) ?_
    exact r_iret C0 X hP hS hr hlk dX8_road_12 (rt2 h)
def bB_cX8_piece : Nat := 0xac2e601c60681b060e100900b42a1000a77600b81b0900b42a0e00a0061c2000a70207009a3500b87d001409851c0f00997a00b61b2a
theorem yB_cX8_piece : BYS cX8_piece 54 bB_cX8_piece := BYS_of (by decide +kernel)
theorem dX8_piece_0 : decode cX8_piece 0 = .ok (.aload_n 0, 1) := D_42 yB_cX8_piece rfl rfl
theorem dX8_piece_1 : decode cX8_piece 1 = .ok (.iload_n 1, 1) := D_27 yB_cX8_piece rfl rfl
theorem dX8_piece_2 : decode cX8_piece 2 = .ok (.invokevirtual 122, 3) := D_182 yB_cX8_piece rfl rfl rfl
theorem dX8_piece_5 : decode cX8_piece 5 = .ok (.ifCond .eq 15, 3) := D_153 yB_cX8_piece rfl rfl (sg_p (m := 32768) (N := 15) rfl rfl rfl)
theorem dX8_piece_8 : decode cX8_piece 8 = .ok (.iload_n 2, 1) := D_28 yB_cX8_piece rfl rfl
theorem dX8_piece_9 : decode cX8_piece 9 = .ok (.i2l, 1) := D_133 yB_cX8_piece rfl rfl
theorem dX8_piece_10 : decode cX8_piece 10 = .ok (.lconst 0, 1) := D_9 yB_cX8_piece rfl rfl
theorem dX8_piece_11 : decode cX8_piece 11 = .ok (.ldc2_w 125, 3) := D_20 yB_cX8_piece rfl rfl rfl
theorem dX8_piece_14 : decode cX8_piece 14 = .ok (.invokestatic 53, 3) := D_184 yB_cX8_piece rfl rfl rfl
theorem dX8_piece_17 : decode cX8_piece 17 = .ok (.ifCond .ne 7, 3) := D_154 yB_cX8_piece rfl rfl (sg_p (m := 32768) (N := 7) rfl rfl rfl)
theorem dX8_piece_20 : decode cX8_piece 20 = .ok (.iconst (-1), 1) := D_2 yB_cX8_piece rfl rfl
theorem dX8_piece_21 : decode cX8_piece 21 = .ok (.goto 32, 3) := D_167 yB_cX8_piece rfl rfl (sg_p (m := 32768) (N := 32) rfl rfl rfl)
theorem dX8_piece_24 : decode cX8_piece 24 = .ok (.iload_n 2, 1) := D_28 yB_cX8_piece rfl rfl
theorem dX8_piece_25 : decode cX8_piece 25 = .ok (.iconst 3, 1) := D_6 yB_cX8_piece rfl rfl
theorem dX8_piece_26 : decode cX8_piece 26 = .ok (.if_icmp .ne 14, 3) := D_160 yB_cX8_piece rfl rfl (sg_p (m := 32768) (N := 14) rfl rfl rfl)
theorem dX8_piece_29 : decode cX8_piece 29 = .ok (.aload_n 0, 1) := D_42 yB_cX8_piece rfl rfl
theorem dX8_piece_30 : decode cX8_piece 30 = .ok (.getfield 9, 3) := D_180 yB_cX8_piece rfl rfl rfl
theorem dX8_piece_33 : decode cX8_piece 33 = .ok (.iload_n 1, 1) := D_27 yB_cX8_piece rfl rfl
theorem dX8_piece_34 : decode cX8_piece 34 = .ok (.invokestatic 118, 3) := D_184 yB_cX8_piece rfl rfl rfl
theorem dX8_piece_37 : decode cX8_piece 37 = .ok (.goto 16, 3) := D_167 yB_cX8_piece rfl rfl (sg_p (m := 32768) (N := 16) rfl rfl rfl)
theorem dX8_piece_40 : decode cX8_piece 40 = .ok (.aload_n 0, 1) := D_42 yB_cX8_piece rfl rfl
theorem dX8_piece_41 : decode cX8_piece 41 = .ok (.getfield 9, 3) := D_180 yB_cX8_piece rfl rfl rfl
theorem dX8_piece_44 : decode cX8_piece 44 = .ok (.bipush 14, 2) := D_16 yB_cX8_piece rfl rfl (sg_p (m := 128) (N := 14) rfl rfl rfl)
theorem dX8_piece_46 : decode cX8_piece 46 = .ok (.iconst 3, 1) := D_6 yB_cX8_piece rfl rfl
theorem dX8_piece_47 : decode cX8_piece 47 = .ok (.iload_n 1, 1) := D_27 yB_cX8_piece rfl rfl
theorem dX8_piece_48 : decode cX8_piece 48 = .ok (.imul, 1) := D_104 yB_cX8_piece rfl rfl
theorem dX8_piece_49 : decode cX8_piece 49 = .ok (.iadd, 1) := D_96 yB_cX8_piece rfl rfl
theorem dX8_piece_50 : decode cX8_piece 50 = .ok (.iload_n 2, 1) := D_28 yB_cX8_piece rfl rfl
theorem dX8_piece_51 : decode cX8_piece 51 = .ok (.iadd, 1) := D_96 yB_cX8_piece rfl rfl
theorem dX8_piece_52 : decode cX8_piece 52 = .ok (.iaload, 1) := D_46 yB_cX8_piece rfl rfl
theorem dX8_piece_53 : decode cX8_piece 53 = .ok (.ireturn, 1) := D_172 yB_cX8_piece rfl rfl
def F_X8_piece (σ : Mem) (x1 : Int32) (x2 : Int32) : Option (Int32) := (F_X8_isPiece σ x1).bind fun r_1 => if r_1 = 0 then (some (-1)) else (if x2 < 0 ∨ 3 < x2 then (some (-1)) else (if x2 = 3 then ((F_X8_spotOf σ 92 x1).bind fun r_7 => some r_7) else ((ix 121 ((14 + (3 * x1)) + x2)).bind fun k_6 => some (σ 92 k_6))))
set_option maxHeartbeats 4000000 in
set_option maxRecDepth 100000 in
theorem c_X8_piece (l : Launch) (D : va_G) (cA : Nat → ClassId) (ad : Nat → Nat) (o : Int64) (σ : Mem) (x1 : Int32) (x2 : Int32)  (res : Int32) (h : F_X8_piece σ x1 x2 = some res) (sz : Nat) : Met l yX8_piece (WY yX8_piece cX8_piece 3 (some .int)) (RM 2) (va_Pc [.ref (ad 91), .int x1, .int x2] (PW D cA ad o σ sz)) (va_Qi (fun r σ9 => r = res ∧ σ9 = σ) (QW D cA ad o) (FA ad sz)) 0 0 (FA ad sz) := by
  refine ct_of (own := RX8) (k := 2) (Qf := va_Qi (fun r σ9 => r = res ∧ σ9 = σ) (QW D cA ad o)) rfl (by decide) (Nat.le_of_ble_eq_true rfl) (fun p e s m below meth c ls C0 X hr hlk hP hl => ?_) sz
  have hS : va_S (FA ad s.heap.size) s.heap s.heap [] := va_S.rf
  have hl : lv_has ls 3 [(0, .ref (ad 91)), (1, .int x1), (2, .int x2)] := hl
  obtain ⟨hx, hb, hml, hown, hts⟩ := id C0
  unfold F_X8_piece at h
  refine lv_aload_n hx hb dX8_piece_0 rfl (lv_at hl 0 rfl) ?_
  refine lv_iload_n hx hb dX8_piece_1 rfl (lv_at hl 1 rfl) ?_
  obtain ⟨r_1, er_1, h⟩ := bnd h
  refine r_ci X hS (r_runV (As := [.int x1]) (rest := []) C0 X hP L_X8_122 (fun sz => c_X8_isPiece l D cA ad o σ x1  r_1 er_1 sz) (show 91 < 106 ∧ kd 91 = (8, 24) from ⟨by decide, rfl⟩).1 (show 91 < 106 ∧ kd 91 = (8, 24) from ⟨by decide, rfl⟩).2 (by decide) rfl ⟨Nat.le_of_ble_eq_true rfl, Nat.le_of_ble_eq_true rfl⟩ rfl hl.1 rfl (Nat.le_of_ble_eq_true rfl) dX8_piece_2 ⟨Nat.zero_le _, Nat.zero_le _⟩) (fun r9 σ9 H locs hw hP hS => ?_)
  rw [hw.2] at hP
  rw [hw.1]
  refine lv_if_eq (tgt := 20) hx hb dX8_piece_5 (by decide) (fun c_2 => ?_) (fun c_2 => ?_)
  · replace h := it_t h c_2
    refine lv_iconst (v := (-1)) hx hb dX8_piece_20 (by decide) ?_
    refine lv_goto (tgt := 53) hx hb dX8_piece_21 (by decide) ?_
    exact r_iret C0 X hP hS hr hlk dX8_piece_53 ⟨Option.some.inj h, rfl⟩
  · replace h := it_f h c_2
    refine lv_iload_n hx hb dX8_piece_8 rfl (lv_at hl 2 rfl) ?_
    refine lv_i2l (v := (x2.toInt64)) hx hb dX8_piece_9 rfl ?_
    refine lv_lconst (v := ((0 : Int32).toInt64)) hx hb dX8_piece_10 (by decide) ?_
    refine lv_ldc2 (own := RX8) (index := 125) (v := 3) hx hb hown (hts _ (tmc sb5_8 9 rfl (by decide +kernel))) dX8_piece_11 ?_
    refine lv_topEl (y := ((3 : Int32).toInt64)) (by decide) ?_
    refine r_ci X hS (r_runS (As := [.long (x2.toInt64), .long ((0 : Int32).toInt64), .long ((3 : Int32).toInt64)]) (rest := []) C0 X hP L_X8_53 (fun sz => c_X8_isIn l D cA ad o σ x2 0 3 sz) ⟨Nat.le_of_ble_eq_true rfl, Nat.le_of_ble_eq_true rfl⟩ rfl hl.1 rfl (Nat.le_of_ble_eq_true rfl) dX8_piece_14 ⟨Nat.zero_le _, Nat.zero_le _⟩) (fun r9 σ9 H locs hw hP hS => ?_)
    rw [hw.2] at hP
    obtain ⟨⟨b_3, rfl⟩ | ⟨b_3, rfl⟩, -⟩ := hw
    · replace h := it_f h (inn b_3)
      refine lv_if_ne (tgt := 24) hx hb dX8_piece_17 (by decide) (fun _ => ?_) (fun c_4 => absurd c_4 (by decide))
      refine lv_iload_n hx hb dX8_piece_24 rfl (lv_at hl 2 rfl) ?_
      refine lv_iconst (v := 3) hx hb dX8_piece_25 (by decide) ?_
      refine lv_icmp_ne (tgt := 40) hx hb dX8_piece_26 (by decide) (fun c_5 => ?_) (fun c_5 => ?_)
      · replace h := it_f h c_5
        refine lv_aload_n hx hb dX8_piece_40 rfl (lv_at hl 0 rfl) ?_
        refine gf_X8_9 C0 X hP 91 (q := 92) ⟨by decide, rfl⟩ (by omega) rfl dX8_piece_41 ?_
        refine lv_bipush (v := 14) hx hb dX8_piece_44 (by decide) ?_
        refine lv_iconst (v := 3) hx hb dX8_piece_46 (by decide) ?_
        refine lv_iload_n hx hb dX8_piece_47 rfl (lv_at hl 1 rfl) ?_
        refine lv_imul hx hb dX8_piece_48 ?_
        refine lv_iadd hx hb dX8_piece_49 ?_
        refine lv_iload_n hx hb dX8_piece_50 rfl (lv_at hl 2 rfl) ?_
        refine lv_iadd hx hb dX8_piece_51 ?_
        obtain ⟨k_6, ek_6, h⟩ := bnd h
        replace ek_6 := ix_s ek_6 (by decide)
        refine r_ialdN C0 X hP 92 (k := k_6) ⟨by decide, rfl⟩ ek_6.1 ek_6.2 dX8_piece_52 ?_
        exact r_iret C0 X hP hS hr hlk dX8_piece_53 ⟨Option.some.inj h, rfl⟩
      · replace h := it_t h c_5
        refine lv_aload_n hx hb dX8_piece_29 rfl (lv_at hl 0 rfl) ?_
        refine gf_X8_9 C0 X hP 91 (q := 92) ⟨by decide, rfl⟩ (by omega) rfl dX8_piece_30 ?_
        refine lv_iload_n hx hb dX8_piece_33 rfl (lv_at hl 1 rfl) ?_
        obtain ⟨r_7, er_7, h⟩ := bnd h
        refine r_ci X hS (r_runS (As := [.ref (ad 92), .int x1]) (rest := []) C0 X hP L_X8_118 (fun sz => c_X8_spotOf l D cA ad o σ 92 x1 ⟨by decide, rfl⟩ r_7 er_7 sz) ⟨Nat.le_of_ble_eq_true rfl, Nat.le_of_ble_eq_true rfl⟩ rfl hl.1 rfl (Nat.le_of_ble_eq_true rfl) dX8_piece_34 ⟨Nat.zero_le _, Nat.zero_le _⟩) (fun r9 σ9 H locs hw hP hS => ?_)
        rw [hw.2] at hP
        rw [hw.1]
        refine lv_goto (tgt := 53) hx hb dX8_piece_37 (by decide) ?_
        exact r_iret C0 X hP hS hr hlk dX8_piece_53 ⟨Option.some.inj h, rfl⟩
    · replace h := it_t h b_3
      refine lv_if_ne (tgt := 24) hx hb dX8_piece_17 (by decide) (fun c_8 => absurd c_8 (by decide)) (fun _ => ?_)
      refine lv_iconst (v := (-1)) hx hb dX8_piece_20 (by decide) ?_
      refine lv_goto (tgt := 53) hx hb dX8_piece_21 (by decide) ?_
      exact r_iret C0 X hP hS hr hlk dX8_piece_53 ⟨Option.some.inj h, rfl⟩
def bB_cX8_room : Nat := 0xac2e601b080900b42a0b00a7fc100800a02e030900b42a1b0d00991b1e00a70207009a3500b8852e030900b42a09851b1300992e030900b42a
theorem yB_cX8_room : BYS cX8_room 57 bB_cX8_room := BYS_of (by decide +kernel)
theorem dX8_room_0 : decode cX8_room 0 = .ok (.aload_n 0, 1) := D_42 yB_cX8_room rfl rfl
theorem dX8_room_1 : decode cX8_room 1 = .ok (.getfield 9, 3) := D_180 yB_cX8_room rfl rfl rfl
theorem dX8_room_4 : decode cX8_room 4 = .ok (.iconst 0, 1) := D_3 yB_cX8_room rfl rfl
theorem dX8_room_5 : decode cX8_room 5 = .ok (.iaload, 1) := D_46 yB_cX8_room rfl rfl
theorem dX8_room_6 : decode cX8_room 6 = .ok (.ifCond .eq 19, 3) := D_153 yB_cX8_room rfl rfl (sg_p (m := 32768) (N := 19) rfl rfl rfl)
theorem dX8_room_9 : decode cX8_room 9 = .ok (.iload_n 1, 1) := D_27 yB_cX8_room rfl rfl
theorem dX8_room_10 : decode cX8_room 10 = .ok (.i2l, 1) := D_133 yB_cX8_room rfl rfl
theorem dX8_room_11 : decode cX8_room 11 = .ok (.lconst 0, 1) := D_9 yB_cX8_room rfl rfl
theorem dX8_room_12 : decode cX8_room 12 = .ok (.aload_n 0, 1) := D_42 yB_cX8_room rfl rfl
theorem dX8_room_13 : decode cX8_room 13 = .ok (.getfield 9, 3) := D_180 yB_cX8_room rfl rfl rfl
theorem dX8_room_16 : decode cX8_room 16 = .ok (.iconst 0, 1) := D_3 yB_cX8_room rfl rfl
theorem dX8_room_17 : decode cX8_room 17 = .ok (.iaload, 1) := D_46 yB_cX8_room rfl rfl
theorem dX8_room_18 : decode cX8_room 18 = .ok (.i2l, 1) := D_133 yB_cX8_room rfl rfl
theorem dX8_room_19 : decode cX8_room 19 = .ok (.invokestatic 53, 3) := D_184 yB_cX8_room rfl rfl rfl
theorem dX8_room_22 : decode cX8_room 22 = .ok (.ifCond .ne 7, 3) := D_154 yB_cX8_room rfl rfl (sg_p (m := 32768) (N := 7) rfl rfl rfl)
theorem dX8_room_25 : decode cX8_room 25 = .ok (.iconst (-1), 1) := D_2 yB_cX8_room rfl rfl
theorem dX8_room_26 : decode cX8_room 26 = .ok (.goto 30, 3) := D_167 yB_cX8_room rfl rfl (sg_p (m := 32768) (N := 30) rfl rfl rfl)
theorem dX8_room_29 : decode cX8_room 29 = .ok (.iload_n 1, 1) := D_27 yB_cX8_room rfl rfl
theorem dX8_room_30 : decode cX8_room 30 = .ok (.ifCond .eq 13, 3) := D_153 yB_cX8_room rfl rfl (sg_p (m := 32768) (N := 13) rfl rfl rfl)
theorem dX8_room_33 : decode cX8_room 33 = .ok (.iload_n 1, 1) := D_27 yB_cX8_room rfl rfl
theorem dX8_room_34 : decode cX8_room 34 = .ok (.aload_n 0, 1) := D_42 yB_cX8_room rfl rfl
theorem dX8_room_35 : decode cX8_room 35 = .ok (.getfield 9, 3) := D_180 yB_cX8_room rfl rfl rfl
theorem dX8_room_38 : decode cX8_room 38 = .ok (.iconst 0, 1) := D_3 yB_cX8_room rfl rfl
theorem dX8_room_39 : decode cX8_room 39 = .ok (.iaload, 1) := D_46 yB_cX8_room rfl rfl
theorem dX8_room_40 : decode cX8_room 40 = .ok (.if_icmp .ne 8, 3) := D_160 yB_cX8_room rfl rfl (sg_p (m := 32768) (N := 8) rfl rfl rfl)
theorem dX8_room_43 : decode cX8_room 43 = .ok (.bipush (-4), 2) := D_16 yB_cX8_room rfl rfl (sg_n (m := 128) (N := 4) rfl rfl rfl)
theorem dX8_room_45 : decode cX8_room 45 = .ok (.goto 11, 3) := D_167 yB_cX8_room rfl rfl (sg_p (m := 32768) (N := 11) rfl rfl rfl)
theorem dX8_room_48 : decode cX8_room 48 = .ok (.aload_n 0, 1) := D_42 yB_cX8_room rfl rfl
theorem dX8_room_49 : decode cX8_room 49 = .ok (.getfield 9, 3) := D_180 yB_cX8_room rfl rfl rfl
theorem dX8_room_52 : decode cX8_room 52 = .ok (.iconst 5, 1) := D_8 yB_cX8_room rfl rfl
theorem dX8_room_53 : decode cX8_room 53 = .ok (.iload_n 1, 1) := D_27 yB_cX8_room rfl rfl
theorem dX8_room_54 : decode cX8_room 54 = .ok (.iadd, 1) := D_96 yB_cX8_room rfl rfl
theorem dX8_room_55 : decode cX8_room 55 = .ok (.iaload, 1) := D_46 yB_cX8_room rfl rfl
theorem dX8_room_56 : decode cX8_room 56 = .ok (.ireturn, 1) := D_172 yB_cX8_room rfl rfl
def F_X8_room (σ : Mem) (x1 : Int32) : Option (Int32) := if (σ 92 0) = 0 then (some (-1)) else (if x1 < 0 ∨ (σ 92 0) < x1 then (some (-1)) else (if x1 = 0 then (some (-4)) else (if x1 = (σ 92 0) then (some (-4)) else ((ix 121 (5 + x1)).bind fun k_6 => some (σ 92 k_6)))))
set_option maxHeartbeats 4000000 in
set_option maxRecDepth 100000 in
theorem c_X8_room (l : Launch) (D : va_G) (cA : Nat → ClassId) (ad : Nat → Nat) (o : Int64) (σ : Mem) (x1 : Int32)  (res : Int32) (h : F_X8_room σ x1 = some res) (sz : Nat) : Met l yX8_room (WY yX8_room cX8_room 2 (some .int)) (RM 1) (va_Pc [.ref (ad 91), .int x1] (PW D cA ad o σ sz)) (va_Qi (fun r σ9 => r = res ∧ σ9 = σ) (QW D cA ad o) (FA ad sz)) 0 0 (FA ad sz) := by
  refine ct_of (own := RX8) (k := 1) (Qf := va_Qi (fun r σ9 => r = res ∧ σ9 = σ) (QW D cA ad o)) rfl (by decide) (Nat.le_of_ble_eq_true rfl) (fun p e s m below meth c ls C0 X hr hlk hP hl => ?_) sz
  have hS : va_S (FA ad s.heap.size) s.heap s.heap [] := va_S.rf
  have hl : lv_has ls 2 [(0, .ref (ad 91)), (1, .int x1)] := hl
  obtain ⟨hx, hb, hml, hown, hts⟩ := id C0
  unfold F_X8_room at h
  refine lv_aload_n hx hb dX8_room_0 rfl (lv_at hl 0 rfl) ?_
  refine gf_X8_9 C0 X hP 91 (q := 92) ⟨by decide, rfl⟩ (by omega) rfl dX8_room_1 ?_
  refine lv_iconst (v := 0) hx hb dX8_room_4 (by decide) ?_
  refine r_ialdN C0 X hP 92 (k := 0) ⟨by decide, rfl⟩ rfl (by decide) dX8_room_5 ?_
  refine lv_if_eq (tgt := 25) hx hb dX8_room_6 (by decide) (fun c_1 => ?_) (fun c_1 => ?_)
  · replace h := it_t h c_1
    refine lv_iconst (v := (-1)) hx hb dX8_room_25 (by decide) ?_
    refine lv_goto (tgt := 56) hx hb dX8_room_26 (by decide) ?_
    exact r_iret C0 X hP hS hr hlk dX8_room_56 ⟨Option.some.inj h, rfl⟩
  · replace h := it_f h c_1
    refine lv_iload_n hx hb dX8_room_9 rfl (lv_at hl 1 rfl) ?_
    refine lv_i2l (v := (x1.toInt64)) hx hb dX8_room_10 rfl ?_
    refine lv_lconst (v := ((0 : Int32).toInt64)) hx hb dX8_room_11 (by decide) ?_
    refine lv_aload_n hx hb dX8_room_12 rfl (lv_at hl 0 rfl) ?_
    refine gf_X8_9 C0 X hP 91 (q := 92) ⟨by decide, rfl⟩ (by omega) rfl dX8_room_13 ?_
    refine lv_iconst (v := 0) hx hb dX8_room_16 (by decide) ?_
    refine r_ialdN C0 X hP 92 (k := 0) ⟨by decide, rfl⟩ rfl (by decide) dX8_room_17 ?_
    refine lv_i2l (v := ((σ 92 0).toInt64)) hx hb dX8_room_18 rfl ?_
    refine r_ci X hS (r_runS (As := [.long (x1.toInt64), .long ((0 : Int32).toInt64), .long ((σ 92 0).toInt64)]) (rest := []) C0 X hP L_X8_53 (fun sz => c_X8_isIn l D cA ad o σ x1 0 (σ 92 0) sz) ⟨Nat.le_of_ble_eq_true rfl, Nat.le_of_ble_eq_true rfl⟩ rfl hl.1 rfl (Nat.le_of_ble_eq_true rfl) dX8_room_19 ⟨Nat.zero_le _, Nat.zero_le _⟩) (fun r9 σ9 H locs hw hP hS => ?_)
    rw [hw.2] at hP
    obtain ⟨⟨b_2, rfl⟩ | ⟨b_2, rfl⟩, -⟩ := hw
    · replace h := it_f h (inn b_2)
      refine lv_if_ne (tgt := 29) hx hb dX8_room_22 (by decide) (fun _ => ?_) (fun c_3 => absurd c_3 (by decide))
      refine lv_iload_n hx hb dX8_room_29 rfl (lv_at hl 1 rfl) ?_
      refine lv_if_eq (tgt := 43) hx hb dX8_room_30 (by decide) (fun c_4 => ?_) (fun c_4 => ?_)
      · replace h := it_t h c_4
        refine lv_bipush (v := (-4)) hx hb dX8_room_43 (by decide) ?_
        refine lv_goto (tgt := 56) hx hb dX8_room_45 (by decide) ?_
        exact r_iret C0 X hP hS hr hlk dX8_room_56 ⟨Option.some.inj h, rfl⟩
      · replace h := it_f h c_4
        refine lv_iload_n hx hb dX8_room_33 rfl (lv_at hl 1 rfl) ?_
        refine lv_aload_n hx hb dX8_room_34 rfl (lv_at hl 0 rfl) ?_
        refine gf_X8_9 C0 X hP 91 (q := 92) ⟨by decide, rfl⟩ (by omega) rfl dX8_room_35 ?_
        refine lv_iconst (v := 0) hx hb dX8_room_38 (by decide) ?_
        refine r_ialdN C0 X hP 92 (k := 0) ⟨by decide, rfl⟩ rfl (by decide) dX8_room_39 ?_
        refine lv_icmp_ne (tgt := 48) hx hb dX8_room_40 (by decide) (fun c_5 => ?_) (fun c_5 => ?_)
        · replace h := it_f h c_5
          refine lv_aload_n hx hb dX8_room_48 rfl (lv_at hl 0 rfl) ?_
          refine gf_X8_9 C0 X hP 91 (q := 92) ⟨by decide, rfl⟩ (by omega) rfl dX8_room_49 ?_
          refine lv_iconst (v := 5) hx hb dX8_room_52 (by decide) ?_
          refine lv_iload_n hx hb dX8_room_53 rfl (lv_at hl 1 rfl) ?_
          refine lv_iadd hx hb dX8_room_54 ?_
          obtain ⟨k_6, ek_6, h⟩ := bnd h
          replace ek_6 := ix_s ek_6 (by decide)
          refine r_ialdN C0 X hP 92 (k := k_6) ⟨by decide, rfl⟩ ek_6.1 ek_6.2 dX8_room_55 ?_
          exact r_iret C0 X hP hS hr hlk dX8_room_56 ⟨Option.some.inj h, rfl⟩
        · replace h := it_t h c_5
          refine lv_bipush (v := (-4)) hx hb dX8_room_43 (by decide) ?_
          refine lv_goto (tgt := 56) hx hb dX8_room_45 (by decide) ?_
          exact r_iret C0 X hP hS hr hlk dX8_room_56 ⟨Option.some.inj h, rfl⟩
    · replace h := it_t h b_2
      refine lv_if_ne (tgt := 29) hx hb dX8_room_22 (by decide) (fun c_7 => absurd c_7 (by decide)) (fun _ => ?_)
      refine lv_iconst (v := (-1)) hx hb dX8_room_25 (by decide) ?_
      refine lv_goto (tgt := 56) hx hb dX8_room_26 (by decide) ?_
      exact r_iret C0 X hP hS hr hlk dX8_room_56 ⟨Option.some.inj h, rfl⟩
def bB_cX8_cart : Nat := 0xac02ac8200b8071b0900b42aac8200b8061b0900b42aac8200b8051b0900b42aac8200b8041b0900b42aac030400a70407009e8200b8031b0900b42a51000000470000003d000000330000002100000004000000000000005b000000aa1cac0205009a7f00b61b2a
theorem yB_cX8_cart : BYS cX8_cart 104 bB_cX8_cart := BYS_of (by decide +kernel)
theorem dX8_cart_0 : decode cX8_cart 0 = .ok (.aload_n 0, 1) := D_42 yB_cX8_cart rfl rfl
theorem dX8_cart_1 : decode cX8_cart 1 = .ok (.iload_n 1, 1) := D_27 yB_cX8_cart rfl rfl
theorem dX8_cart_2 : decode cX8_cart 2 = .ok (.invokevirtual 127, 3) := D_182 yB_cX8_cart rfl rfl rfl
theorem dX8_cart_5 : decode cX8_cart 5 = .ok (.ifCond .ne 5, 3) := D_154 yB_cX8_cart rfl rfl (sg_p (m := 32768) (N := 5) rfl rfl rfl)
theorem dX8_cart_8 : decode cX8_cart 8 = .ok (.iconst (-1), 1) := D_2 yB_cX8_cart rfl rfl
theorem dX8_cart_9 : decode cX8_cart 9 = .ok (.ireturn, 1) := D_172 yB_cX8_cart rfl rfl
theorem dX8_cart_10 : decode cX8_cart 10 = .ok (.iload_n 2, 1) := D_28 yB_cX8_cart rfl rfl
theorem dX8_cart_11 : decode cX8_cart 11 = .ok (.tableswitch 91 0 4 #[33, 51, 61, 71, 81], 33) := by decide +kernel
theorem dX8_cart_44 : decode cX8_cart 44 = .ok (.aload_n 0, 1) := D_42 yB_cX8_cart rfl rfl
theorem dX8_cart_45 : decode cX8_cart 45 = .ok (.getfield 9, 3) := D_180 yB_cX8_cart rfl rfl rfl
theorem dX8_cart_48 : decode cX8_cart 48 = .ok (.iload_n 1, 1) := D_27 yB_cX8_cart rfl rfl
theorem dX8_cart_49 : decode cX8_cart 49 = .ok (.iconst 0, 1) := D_3 yB_cX8_cart rfl rfl
theorem dX8_cart_50 : decode cX8_cart 50 = .ok (.invokestatic 130, 3) := D_184 yB_cX8_cart rfl rfl rfl
theorem dX8_cart_53 : decode cX8_cart 53 = .ok (.ifCond .le 7, 3) := D_158 yB_cX8_cart rfl rfl (sg_p (m := 32768) (N := 7) rfl rfl rfl)
theorem dX8_cart_56 : decode cX8_cart 56 = .ok (.iconst 1, 1) := D_4 yB_cX8_cart rfl rfl
theorem dX8_cart_57 : decode cX8_cart 57 = .ok (.goto 4, 3) := D_167 yB_cX8_cart rfl rfl (sg_p (m := 32768) (N := 4) rfl rfl rfl)
theorem dX8_cart_60 : decode cX8_cart 60 = .ok (.iconst 0, 1) := D_3 yB_cX8_cart rfl rfl
theorem dX8_cart_61 : decode cX8_cart 61 = .ok (.ireturn, 1) := D_172 yB_cX8_cart rfl rfl
theorem dX8_cart_62 : decode cX8_cart 62 = .ok (.aload_n 0, 1) := D_42 yB_cX8_cart rfl rfl
theorem dX8_cart_63 : decode cX8_cart 63 = .ok (.getfield 9, 3) := D_180 yB_cX8_cart rfl rfl rfl
theorem dX8_cart_66 : decode cX8_cart 66 = .ok (.iload_n 1, 1) := D_27 yB_cX8_cart rfl rfl
theorem dX8_cart_67 : decode cX8_cart 67 = .ok (.iconst 1, 1) := D_4 yB_cX8_cart rfl rfl
theorem dX8_cart_68 : decode cX8_cart 68 = .ok (.invokestatic 130, 3) := D_184 yB_cX8_cart rfl rfl rfl
theorem dX8_cart_71 : decode cX8_cart 71 = .ok (.ireturn, 1) := D_172 yB_cX8_cart rfl rfl
theorem dX8_cart_72 : decode cX8_cart 72 = .ok (.aload_n 0, 1) := D_42 yB_cX8_cart rfl rfl
theorem dX8_cart_73 : decode cX8_cart 73 = .ok (.getfield 9, 3) := D_180 yB_cX8_cart rfl rfl rfl
theorem dX8_cart_76 : decode cX8_cart 76 = .ok (.iload_n 1, 1) := D_27 yB_cX8_cart rfl rfl
theorem dX8_cart_77 : decode cX8_cart 77 = .ok (.iconst 2, 1) := D_5 yB_cX8_cart rfl rfl
theorem dX8_cart_78 : decode cX8_cart 78 = .ok (.invokestatic 130, 3) := D_184 yB_cX8_cart rfl rfl rfl
theorem dX8_cart_81 : decode cX8_cart 81 = .ok (.ireturn, 1) := D_172 yB_cX8_cart rfl rfl
theorem dX8_cart_82 : decode cX8_cart 82 = .ok (.aload_n 0, 1) := D_42 yB_cX8_cart rfl rfl
theorem dX8_cart_83 : decode cX8_cart 83 = .ok (.getfield 9, 3) := D_180 yB_cX8_cart rfl rfl rfl
theorem dX8_cart_86 : decode cX8_cart 86 = .ok (.iload_n 1, 1) := D_27 yB_cX8_cart rfl rfl
theorem dX8_cart_87 : decode cX8_cart 87 = .ok (.iconst 3, 1) := D_6 yB_cX8_cart rfl rfl
theorem dX8_cart_88 : decode cX8_cart 88 = .ok (.invokestatic 130, 3) := D_184 yB_cX8_cart rfl rfl rfl
theorem dX8_cart_91 : decode cX8_cart 91 = .ok (.ireturn, 1) := D_172 yB_cX8_cart rfl rfl
theorem dX8_cart_92 : decode cX8_cart 92 = .ok (.aload_n 0, 1) := D_42 yB_cX8_cart rfl rfl
theorem dX8_cart_93 : decode cX8_cart 93 = .ok (.getfield 9, 3) := D_180 yB_cX8_cart rfl rfl rfl
theorem dX8_cart_96 : decode cX8_cart 96 = .ok (.iload_n 1, 1) := D_27 yB_cX8_cart rfl rfl
theorem dX8_cart_97 : decode cX8_cart 97 = .ok (.iconst 4, 1) := D_7 yB_cX8_cart rfl rfl
theorem dX8_cart_98 : decode cX8_cart 98 = .ok (.invokestatic 130, 3) := D_184 yB_cX8_cart rfl rfl rfl
theorem dX8_cart_101 : decode cX8_cart 101 = .ok (.ireturn, 1) := D_172 yB_cX8_cart rfl rfl
theorem dX8_cart_102 : decode cX8_cart 102 = .ok (.iconst (-1), 1) := D_2 yB_cX8_cart rfl rfl
theorem dX8_cart_103 : decode cX8_cart 103 = .ok (.ireturn, 1) := D_172 yB_cX8_cart rfl rfl
def F_X8_cart (σ : Mem) (x1 : Int32) (x2 : Int32) : Option (Int32) := (F_X8_isCart σ x1).bind fun r_1 => if r_1 = 0 then (some (-1)) else (if x2 = 0 then ((F_X8_get σ 92 x1 0).bind fun r_5 => if r_5 ≤ 0 then (some 0) else (some 1)) else (if x2 = 1 then ((F_X8_get σ 92 x1 1).bind fun r_8 => some r_8) else (if x2 = 2 then ((F_X8_get σ 92 x1 2).bind fun r_10 => some r_10) else (if x2 = 3 then ((F_X8_get σ 92 x1 3).bind fun r_12 => some r_12) else (if x2 = 4 then ((F_X8_get σ 92 x1 4).bind fun r_14 => some r_14) else (some (-1)))))))
set_option maxHeartbeats 4000000 in
set_option maxRecDepth 100000 in
theorem c_X8_cart (l : Launch) (D : va_G) (cA : Nat → ClassId) (ad : Nat → Nat) (o : Int64) (σ : Mem) (x1 : Int32) (x2 : Int32)  (res : Int32) (h : F_X8_cart σ x1 x2 = some res) (sz : Nat) : Met l yX8_cart (WY yX8_cart cX8_cart 3 (some .int)) (RM 2) (va_Pc [.ref (ad 91), .int x1, .int x2] (PW D cA ad o σ sz)) (va_Qi (fun r σ9 => r = res ∧ σ9 = σ) (QW D cA ad o) (FA ad sz)) 0 0 (FA ad sz) := by
  refine ct_of (own := RX8) (k := 2) (Qf := va_Qi (fun r σ9 => r = res ∧ σ9 = σ) (QW D cA ad o)) rfl (by decide) (Nat.le_of_ble_eq_true rfl) (fun p e s m below meth c ls C0 X hr hlk hP hl => ?_) sz
  have hS : va_S (FA ad s.heap.size) s.heap s.heap [] := va_S.rf
  have hl : lv_has ls 3 [(0, .ref (ad 91)), (1, .int x1), (2, .int x2)] := hl
  obtain ⟨hx, hb, hml, hown, hts⟩ := id C0
  unfold F_X8_cart at h
  refine lv_aload_n hx hb dX8_cart_0 rfl (lv_at hl 0 rfl) ?_
  refine lv_iload_n hx hb dX8_cart_1 rfl (lv_at hl 1 rfl) ?_
  obtain ⟨r_1, er_1, h⟩ := bnd h
  refine r_ci X hS (r_runV (As := [.int x1]) (rest := []) C0 X hP L_X8_127 (fun sz => c_X8_isCart l D cA ad o σ x1  r_1 er_1 sz) (show 91 < 106 ∧ kd 91 = (8, 24) from ⟨by decide, rfl⟩).1 (show 91 < 106 ∧ kd 91 = (8, 24) from ⟨by decide, rfl⟩).2 (by decide) rfl ⟨Nat.le_of_ble_eq_true rfl, Nat.le_of_ble_eq_true rfl⟩ rfl hl.1 rfl (Nat.le_of_ble_eq_true rfl) dX8_cart_2 ⟨Nat.zero_le _, Nat.zero_le _⟩) (fun r9 σ9 H locs hw hP hS => ?_)
  rw [hw.2] at hP
  rw [hw.1]
  refine lv_if_ne (tgt := 10) hx hb dX8_cart_5 (by decide) (fun c_2 => ?_) (fun c_2 => ?_)
  · replace h := it_f h c_2
    refine lv_iload_n hx hb dX8_cart_10 rfl (lv_at hl 2 rfl) ?_
    rcases sw_in (x := x2) (lo := 0) (n := 5) with c_3 | ⟨j, hj, c_3⟩
    · replace h := it_f h (sw_ne (v := 0) c_3 (by decide))
      replace h := it_f h (sw_ne (v := 1) c_3 (by decide))
      replace h := it_f h (sw_ne (v := 2) c_3 (by decide))
      replace h := it_f h (sw_ne (v := 3) c_3 (by decide))
      replace h := it_f h (sw_ne (v := 4) c_3 (by decide))
      refine lv_tableOut (tgt := 102) hx hb dX8_cart_11 (by omega) (by decide) ?_
      refine lv_iconst (v := (-1)) hx hb dX8_cart_102 (by decide) ?_
      exact r_iret C0 X hP hS hr hlk dX8_cart_103 ⟨Option.some.inj h, rfl⟩
    · rcases (show j = 0 ∨ j = 1 ∨ j = 2 ∨ j = 3 ∨ j = 4 by omega) with rfl | rfl | rfl | rfl | rfl
      · have e_4 : x2 = 0 := sw_eq c_3 (by decide)
        replace h := it_t h e_4
        refine lv_tableIn (off := 33) (tgt := 44) hx hb dX8_cart_11 (by rw [e_4]; decide) (by rw [e_4]; decide) (by rw [e_4]; rfl) (by decide) ?_
        refine lv_aload_n hx hb dX8_cart_44 rfl (lv_at hl 0 rfl) ?_
        refine gf_X8_9 C0 X hP 91 (q := 92) ⟨by decide, rfl⟩ (by omega) rfl dX8_cart_45 ?_
        refine lv_iload_n hx hb dX8_cart_48 rfl (lv_at hl 1 rfl) ?_
        refine lv_iconst (v := 0) hx hb dX8_cart_49 (by decide) ?_
        obtain ⟨r_5, er_5, h⟩ := bnd h
        refine r_ci X hS (r_runS (As := [.ref (ad 92), .int x1, .int 0]) (rest := []) C0 X hP L_X8_130 (fun sz => c_X8_get l D cA ad o σ 92 x1 0 ⟨by decide, rfl⟩ r_5 er_5 sz) ⟨Nat.le_of_ble_eq_true rfl, Nat.le_of_ble_eq_true rfl⟩ rfl hl.1 rfl (Nat.le_of_ble_eq_true rfl) dX8_cart_50 ⟨Nat.zero_le _, Nat.zero_le _⟩) (fun r9 σ9 H locs hw hP hS => ?_)
        rw [hw.2] at hP
        rw [hw.1]
        refine lv_if_le (tgt := 60) hx hb dX8_cart_53 (by decide) (fun c_6 => ?_) (fun c_6 => ?_)
        · replace h := it_t h c_6
          refine lv_iconst (v := 0) hx hb dX8_cart_60 (by decide) ?_
          exact r_iret C0 X hP hS hr hlk dX8_cart_61 ⟨Option.some.inj h, rfl⟩
        · replace h := it_f h c_6
          refine lv_iconst (v := 1) hx hb dX8_cart_56 (by decide) ?_
          refine lv_goto (tgt := 61) hx hb dX8_cart_57 (by decide) ?_
          exact r_iret C0 X hP hS hr hlk dX8_cart_61 ⟨Option.some.inj h, rfl⟩
      · have e_7 : x2 = 1 := sw_eq c_3 (by decide)
        replace h := it_f h (show ¬ x2 = 0 by rw [e_7]; decide)
        replace h := it_t h e_7
        refine lv_tableIn (off := 51) (tgt := 62) hx hb dX8_cart_11 (by rw [e_7]; decide) (by rw [e_7]; decide) (by rw [e_7]; rfl) (by decide) ?_
        refine lv_aload_n hx hb dX8_cart_62 rfl (lv_at hl 0 rfl) ?_
        refine gf_X8_9 C0 X hP 91 (q := 92) ⟨by decide, rfl⟩ (by omega) rfl dX8_cart_63 ?_
        refine lv_iload_n hx hb dX8_cart_66 rfl (lv_at hl 1 rfl) ?_
        refine lv_iconst (v := 1) hx hb dX8_cart_67 (by decide) ?_
        obtain ⟨r_8, er_8, h⟩ := bnd h
        refine r_ci X hS (r_runS (As := [.ref (ad 92), .int x1, .int 1]) (rest := []) C0 X hP L_X8_130 (fun sz => c_X8_get l D cA ad o σ 92 x1 1 ⟨by decide, rfl⟩ r_8 er_8 sz) ⟨Nat.le_of_ble_eq_true rfl, Nat.le_of_ble_eq_true rfl⟩ rfl hl.1 rfl (Nat.le_of_ble_eq_true rfl) dX8_cart_68 ⟨Nat.zero_le _, Nat.zero_le _⟩) (fun r9 σ9 H locs hw hP hS => ?_)
        rw [hw.2] at hP
        rw [hw.1]
        exact r_iret C0 X hP hS hr hlk dX8_cart_71 ⟨Option.some.inj h, rfl⟩
      · have e_9 : x2 = 2 := sw_eq c_3 (by decide)
        replace h := it_f h (show ¬ x2 = 0 by rw [e_9]; decide)
        replace h := it_f h (show ¬ x2 = 1 by rw [e_9]; decide)
        replace h := it_t h e_9
        refine lv_tableIn (off := 61) (tgt := 72) hx hb dX8_cart_11 (by rw [e_9]; decide) (by rw [e_9]; decide) (by rw [e_9]; rfl) (by decide) ?_
        refine lv_aload_n hx hb dX8_cart_72 rfl (lv_at hl 0 rfl) ?_
        refine gf_X8_9 C0 X hP 91 (q := 92) ⟨by decide, rfl⟩ (by omega) rfl dX8_cart_73 ?_
        refine lv_iload_n hx hb dX8_cart_76 rfl (lv_at hl 1 rfl) ?_
        refine lv_iconst (v := 2) hx hb dX8_cart_77 (by decide) ?_
        obtain ⟨r_10, er_10, h⟩ := bnd h
        refine r_ci X hS (r_runS (As := [.ref (ad 92), .int x1, .int 2]) (rest := []) C0 X hP L_X8_130 (fun sz => c_X8_get l D cA ad o σ 92 x1 2 ⟨by decide, rfl⟩ r_10 er_10 sz) ⟨Nat.le_of_ble_eq_true rfl, Nat.le_of_ble_eq_true rfl⟩ rfl hl.1 rfl (Nat.le_of_ble_eq_true rfl) dX8_cart_78 ⟨Nat.zero_le _, Nat.zero_le _⟩) (fun r9 σ9 H locs hw hP hS => ?_)
        rw [hw.2] at hP
        rw [hw.1]
        exact r_iret C0 X hP hS hr hlk dX8_cart_81 ⟨Option.some.inj h, rfl⟩
      · have e_11 : x2 = 3 := sw_eq c_3 (by decide)
        replace h := it_f h (show ¬ x2 = 0 by rw [e_11]; decide)
        replace h := it_f h (show ¬ x2 = 1 by rw [e_11]; decide)
        replace h := it_f h (show ¬ x2 = 2 by rw [e_11]; decide)
        replace h := it_t h e_11
        refine lv_tableIn (off := 71) (tgt := 82) hx hb dX8_cart_11 (by rw [e_11]; decide) (by rw [e_11]; decide) (by rw [e_11]; rfl) (by decide) ?_
        refine lv_aload_n hx hb dX8_cart_82 rfl (lv_at hl 0 rfl) ?_
        refine gf_X8_9 C0 X hP 91 (q := 92) ⟨by decide, rfl⟩ (by omega) rfl dX8_cart_83 ?_
        refine lv_iload_n hx hb dX8_cart_86 rfl (lv_at hl 1 rfl) ?_
        refine lv_iconst (v := 3) hx hb dX8_cart_87 (by decide) ?_
        obtain ⟨r_12, er_12, h⟩ := bnd h
        refine r_ci X hS (r_runS (As := [.ref (ad 92), .int x1, .int 3]) (rest := []) C0 X hP L_X8_130 (fun sz => c_X8_get l D cA ad o σ 92 x1 3 ⟨by decide, rfl⟩ r_12 er_12 sz) ⟨Nat.le_of_ble_eq_true rfl, Nat.le_of_ble_eq_true rfl⟩ rfl hl.1 rfl (Nat.le_of_ble_eq_true rfl) dX8_cart_88 ⟨Nat.zero_le _, Nat.zero_le _⟩) (fun r9 σ9 H locs hw hP hS => ?_)
        rw [hw.2] at hP
        rw [hw.1]
        exact r_iret C0 X hP hS hr hlk dX8_cart_91 ⟨Option.some.inj h, rfl⟩
      · have e_13 : x2 = 4 := sw_eq c_3 (by decide)
        replace h := it_f h (show ¬ x2 = 0 by rw [e_13]; decide)
        replace h := it_f h (show ¬ x2 = 1 by rw [e_13]; decide)
        replace h := it_f h (show ¬ x2 = 2 by rw [e_13]; decide)
        replace h := it_f h (show ¬ x2 = 3 by rw [e_13]; decide)
        replace h := it_t h e_13
        refine lv_tableIn (off := 81) (tgt := 92) hx hb dX8_cart_11 (by rw [e_13]; decide) (by rw [e_13]; decide) (by rw [e_13]; rfl) (by decide) ?_
        refine lv_aload_n hx hb dX8_cart_92 rfl (lv_at hl 0 rfl) ?_
        refine gf_X8_9 C0 X hP 91 (q := 92) ⟨by decide, rfl⟩ (by omega) rfl dX8_cart_93 ?_
        refine lv_iload_n hx hb dX8_cart_96 rfl (lv_at hl 1 rfl) ?_
        refine lv_iconst (v := 4) hx hb dX8_cart_97 (by decide) ?_
        obtain ⟨r_14, er_14, h⟩ := bnd h
        refine r_ci X hS (r_runS (As := [.ref (ad 92), .int x1, .int 4]) (rest := []) C0 X hP L_X8_130 (fun sz => c_X8_get l D cA ad o σ 92 x1 4 ⟨by decide, rfl⟩ r_14 er_14 sz) ⟨Nat.le_of_ble_eq_true rfl, Nat.le_of_ble_eq_true rfl⟩ rfl hl.1 rfl (Nat.le_of_ble_eq_true rfl) dX8_cart_98 ⟨Nat.zero_le _, Nat.zero_le _⟩) (fun r9 σ9 H locs hw hP hS => ?_)
        rw [hw.2] at hP
        rw [hw.1]
        exact r_iret C0 X hP hS hr hlk dX8_cart_101 ⟨Option.some.inj h, rfl⟩
  · replace h := it_t h c_2
    refine lv_iconst (v := (-1)) hx hb dX8_cart_8 (by decide) ?_
    exact r_iret C0 X hP hS hr hlk dX8_cart_9 ⟨Option.some.inj h, rfl⟩
def bB_cX8_backs : Nat := 0xac1d6100b81c061b0900b42a3e8200b8061b0900b42aac0205009a3500b87d001409851c0f00997f00b61b2a
theorem yB_cX8_backs : BYS cX8_backs 44 bB_cX8_backs := BYS_of (by decide +kernel)
theorem dX8_backs_0 : decode cX8_backs 0 = .ok (.aload_n 0, 1) := D_42 yB_cX8_backs rfl rfl
theorem dX8_backs_1 : decode cX8_backs 1 = .ok (.iload_n 1, 1) := D_27 yB_cX8_backs rfl rfl
theorem dX8_backs_2 : decode cX8_backs 2 = .ok (.invokevirtual 127, 3) := D_182 yB_cX8_backs rfl rfl rfl
theorem dX8_backs_5 : decode cX8_backs 5 = .ok (.ifCond .eq 15, 3) := D_153 yB_cX8_backs rfl rfl (sg_p (m := 32768) (N := 15) rfl rfl rfl)
theorem dX8_backs_8 : decode cX8_backs 8 = .ok (.iload_n 2, 1) := D_28 yB_cX8_backs rfl rfl
theorem dX8_backs_9 : decode cX8_backs 9 = .ok (.i2l, 1) := D_133 yB_cX8_backs rfl rfl
theorem dX8_backs_10 : decode cX8_backs 10 = .ok (.lconst 0, 1) := D_9 yB_cX8_backs rfl rfl
theorem dX8_backs_11 : decode cX8_backs 11 = .ok (.ldc2_w 125, 3) := D_20 yB_cX8_backs rfl rfl rfl
theorem dX8_backs_14 : decode cX8_backs 14 = .ok (.invokestatic 53, 3) := D_184 yB_cX8_backs rfl rfl rfl
theorem dX8_backs_17 : decode cX8_backs 17 = .ok (.ifCond .ne 5, 3) := D_154 yB_cX8_backs rfl rfl (sg_p (m := 32768) (N := 5) rfl rfl rfl)
theorem dX8_backs_20 : decode cX8_backs 20 = .ok (.iconst (-1), 1) := D_2 yB_cX8_backs rfl rfl
theorem dX8_backs_21 : decode cX8_backs 21 = .ok (.ireturn, 1) := D_172 yB_cX8_backs rfl rfl
theorem dX8_backs_22 : decode cX8_backs 22 = .ok (.aload_n 0, 1) := D_42 yB_cX8_backs rfl rfl
theorem dX8_backs_23 : decode cX8_backs 23 = .ok (.getfield 9, 3) := D_180 yB_cX8_backs rfl rfl rfl
theorem dX8_backs_26 : decode cX8_backs 26 = .ok (.iload_n 1, 1) := D_27 yB_cX8_backs rfl rfl
theorem dX8_backs_27 : decode cX8_backs 27 = .ok (.iconst 3, 1) := D_6 yB_cX8_backs rfl rfl
theorem dX8_backs_28 : decode cX8_backs 28 = .ok (.invokestatic 130, 3) := D_184 yB_cX8_backs rfl rfl rfl
theorem dX8_backs_31 : decode cX8_backs 31 = .ok (.istore_n 3, 1) := D_62 yB_cX8_backs rfl rfl
theorem dX8_backs_32 : decode cX8_backs 32 = .ok (.aload_n 0, 1) := D_42 yB_cX8_backs rfl rfl
theorem dX8_backs_33 : decode cX8_backs 33 = .ok (.getfield 9, 3) := D_180 yB_cX8_backs rfl rfl rfl
theorem dX8_backs_36 : decode cX8_backs 36 = .ok (.iload_n 1, 1) := D_27 yB_cX8_backs rfl rfl
theorem dX8_backs_37 : decode cX8_backs 37 = .ok (.iconst 3, 1) := D_6 yB_cX8_backs rfl rfl
theorem dX8_backs_38 : decode cX8_backs 38 = .ok (.iload_n 2, 1) := D_28 yB_cX8_backs rfl rfl
theorem dX8_backs_39 : decode cX8_backs 39 = .ok (.invokestatic 97, 3) := D_184 yB_cX8_backs rfl rfl rfl
theorem dX8_backs_42 : decode cX8_backs 42 = .ok (.iload_n 3, 1) := D_29 yB_cX8_backs rfl rfl
theorem dX8_backs_43 : decode cX8_backs 43 = .ok (.ireturn, 1) := D_172 yB_cX8_backs rfl rfl
def F_X8_backs (σ : Mem) (x1 : Int32) (x2 : Int32) : Option (Mem × Int32) := (F_X8_isCart σ x1).bind fun r_1 => if r_1 = 0 then (some (σ, (-1))) else (if x2 < 0 ∨ 3 < x2 then (some (σ, (-1))) else ((F_X8_get σ 92 x1 3).bind fun r_5 => (F_X8_puts σ 92 x1 3 x2).bind fun σ_6 => some (σ_6, r_5)))
set_option maxHeartbeats 4000000 in
set_option maxRecDepth 100000 in
theorem c_X8_backs (l : Launch) (D : va_G) (cA : Nat → ClassId) (ad : Nat → Nat) (o : Int64) (σ : Mem) (x1 : Int32) (x2 : Int32)  (res : Mem × Int32) (h : F_X8_backs σ x1 x2 = some res) (sz : Nat) : Met l yX8_backs (WY yX8_backs cX8_backs 4 (some .int)) (RM 2) (va_Pc [.ref (ad 91), .int x1, .int x2] (PW D cA ad o σ sz)) (va_Qi (fun r σ9 => r = res.2 ∧ σ9 = res.1) (QW D cA ad o) (FA ad sz)) 0 0 (FA ad sz) := by
  refine ct_of (own := RX8) (k := 2) (Qf := va_Qi (fun r σ9 => r = res.2 ∧ σ9 = res.1) (QW D cA ad o)) rfl (by decide) (Nat.le_of_ble_eq_true rfl) (fun p e s m below meth c ls C0 X hr hlk hP hl => ?_) sz
  have hS : va_S (FA ad s.heap.size) s.heap s.heap [] := va_S.rf
  have hl : lv_has ls 4 [(0, .ref (ad 91)), (1, .int x1), (2, .int x2)] := hl
  obtain ⟨hx, hb, hml, hown, hts⟩ := id C0
  unfold F_X8_backs at h
  refine lv_aload_n hx hb dX8_backs_0 rfl (lv_at hl 0 rfl) ?_
  refine lv_iload_n hx hb dX8_backs_1 rfl (lv_at hl 1 rfl) ?_
  obtain ⟨r_1, er_1, h⟩ := bnd h
  refine r_ci X hS (r_runV (As := [.int x1]) (rest := []) C0 X hP L_X8_127 (fun sz => c_X8_isCart l D cA ad o σ x1  r_1 er_1 sz) (show 91 < 106 ∧ kd 91 = (8, 24) from ⟨by decide, rfl⟩).1 (show 91 < 106 ∧ kd 91 = (8, 24) from ⟨by decide, rfl⟩).2 (by decide) rfl ⟨Nat.le_of_ble_eq_true rfl, Nat.le_of_ble_eq_true rfl⟩ rfl hl.1 rfl (Nat.le_of_ble_eq_true rfl) dX8_backs_2 ⟨Nat.zero_le _, Nat.zero_le _⟩) (fun r9 σ9 H locs hw hP hS => ?_)
  rw [hw.2] at hP
  rw [hw.1]
  refine lv_if_eq (tgt := 20) hx hb dX8_backs_5 (by decide) (fun c_2 => ?_) (fun c_2 => ?_)
  · replace h := it_t h c_2
    refine lv_iconst (v := (-1)) hx hb dX8_backs_20 (by decide) ?_
    exact r_iret C0 X hP hS hr hlk dX8_backs_21 (rt2 h)
  · replace h := it_f h c_2
    refine lv_iload_n hx hb dX8_backs_8 rfl (lv_at hl 2 rfl) ?_
    refine lv_i2l (v := (x2.toInt64)) hx hb dX8_backs_9 rfl ?_
    refine lv_lconst (v := ((0 : Int32).toInt64)) hx hb dX8_backs_10 (by decide) ?_
    refine lv_ldc2 (own := RX8) (index := 125) (v := 3) hx hb hown (hts _ (tmc sb5_8 9 rfl (by decide +kernel))) dX8_backs_11 ?_
    refine lv_topEl (y := ((3 : Int32).toInt64)) (by decide) ?_
    refine r_ci X hS (r_runS (As := [.long (x2.toInt64), .long ((0 : Int32).toInt64), .long ((3 : Int32).toInt64)]) (rest := []) C0 X hP L_X8_53 (fun sz => c_X8_isIn l D cA ad o σ x2 0 3 sz) ⟨Nat.le_of_ble_eq_true rfl, Nat.le_of_ble_eq_true rfl⟩ rfl hl.1 rfl (Nat.le_of_ble_eq_true rfl) dX8_backs_14 ⟨Nat.zero_le _, Nat.zero_le _⟩) (fun r9 σ9 H locs hw hP hS => ?_)
    rw [hw.2] at hP
    obtain ⟨⟨b_3, rfl⟩ | ⟨b_3, rfl⟩, -⟩ := hw
    · replace h := it_f h (inn b_3)
      refine lv_if_ne (tgt := 22) hx hb dX8_backs_17 (by decide) (fun _ => ?_) (fun c_4 => absurd c_4 (by decide))
      refine lv_aload_n hx hb dX8_backs_22 rfl (lv_at hl 0 rfl) ?_
      refine gf_X8_9 C0 X hP 91 (q := 92) ⟨by decide, rfl⟩ (by omega) rfl dX8_backs_23 ?_
      refine lv_iload_n hx hb dX8_backs_26 rfl (lv_at hl 1 rfl) ?_
      refine lv_iconst (v := 3) hx hb dX8_backs_27 (by decide) ?_
      obtain ⟨r_5, er_5, h⟩ := bnd h
      refine r_ci X hS (r_runS (As := [.ref (ad 92), .int x1, .int 3]) (rest := []) C0 X hP L_X8_130 (fun sz => c_X8_get l D cA ad o σ 92 x1 3 ⟨by decide, rfl⟩ r_5 er_5 sz) ⟨Nat.le_of_ble_eq_true rfl, Nat.le_of_ble_eq_true rfl⟩ rfl hl.1 rfl (Nat.le_of_ble_eq_true rfl) dX8_backs_28 ⟨Nat.zero_le _, Nat.zero_le _⟩) (fun r9 σ9 H locs hw hP hS => ?_)
      rw [hw.2] at hP
      rw [hw.1]
      refine lv_istore_n (lv' := [(3, .int r_5), (0, .ref (ad 91)), (1, .int x1), (2, .int x2)]) hx hb dX8_backs_31 rfl hl (by decide) rfl (fun ls hl => ?_)
      refine lv_aload_n hx hb dX8_backs_32 rfl (lv_at hl 1 rfl) ?_
      refine gf_X8_9 C0 X hP 91 (q := 92) ⟨by decide, rfl⟩ (by omega) rfl dX8_backs_33 ?_
      refine lv_iload_n hx hb dX8_backs_36 rfl (lv_at hl 2 rfl) ?_
      refine lv_iconst (v := 3) hx hb dX8_backs_37 (by decide) ?_
      refine lv_iload_n hx hb dX8_backs_38 rfl (lv_at hl 3 rfl) ?_
      obtain ⟨σ_6, eσ_6, h⟩ := bnd h
      refine r_cv X hS (r_runS (As := [.ref (ad 92), .int x1, .int 3, .int x2]) (rest := []) C0 X hP L_X8_97 (fun sz => c_X8_puts l D cA ad o σ 92 x1 3 x2 ⟨by decide, rfl⟩ σ_6 eσ_6 sz) ⟨Nat.le_of_ble_eq_true rfl, Nat.le_of_ble_eq_true rfl⟩ rfl hl.1 rfl (Nat.le_of_ble_eq_true rfl) dX8_backs_39 ⟨Nat.zero_le _, Nat.zero_le _⟩) (fun σ9 H locs hw hP hS => ?_)
      rw [show σ9 = σ_6 from hw] at hP
      refine lv_iload_n hx hb dX8_backs_42 rfl (lv_at hl 0 rfl) ?_
      exact r_iret C0 X hP hS hr hlk dX8_backs_43 (rt2 h)
    · replace h := it_t h b_3
      refine lv_if_ne (tgt := 22) hx hb dX8_backs_17 (by decide) (fun c_7 => absurd c_7 (by decide)) (fun _ => ?_)
      refine lv_iconst (v := (-1)) hx hb dX8_backs_20 (by decide) ?_
      exact r_iret C0 X hP hS hr hlk dX8_backs_21 (rt2 h)
def bB_cX8_village : Nat := 0xac020400a72e601c60681b0526100900b42a1300993500b80a09851c1d00998600b81b
theorem yB_cX8_village : BYS cX8_village 35 bB_cX8_village := BYS_of (by decide +kernel)
theorem dX8_village_0 : decode cX8_village 0 = .ok (.iload_n 1, 1) := D_27 yB_cX8_village rfl rfl
theorem dX8_village_1 : decode cX8_village 1 = .ok (.invokestatic 134, 3) := D_184 yB_cX8_village rfl rfl rfl
theorem dX8_village_4 : decode cX8_village 4 = .ok (.ifCond .eq 29, 3) := D_153 yB_cX8_village rfl rfl (sg_p (m := 32768) (N := 29) rfl rfl rfl)
theorem dX8_village_7 : decode cX8_village 7 = .ok (.iload_n 2, 1) := D_28 yB_cX8_village rfl rfl
theorem dX8_village_8 : decode cX8_village 8 = .ok (.i2l, 1) := D_133 yB_cX8_village rfl rfl
theorem dX8_village_9 : decode cX8_village 9 = .ok (.lconst 0, 1) := D_9 yB_cX8_village rfl rfl
theorem dX8_village_10 : decode cX8_village 10 = .ok (.lconst 1, 1) := D_10 yB_cX8_village rfl rfl
theorem dX8_village_11 : decode cX8_village 11 = .ok (.invokestatic 53, 3) := D_184 yB_cX8_village rfl rfl rfl
theorem dX8_village_14 : decode cX8_village 14 = .ok (.ifCond .eq 19, 3) := D_153 yB_cX8_village rfl rfl (sg_p (m := 32768) (N := 19) rfl rfl rfl)
theorem dX8_village_17 : decode cX8_village 17 = .ok (.aload_n 0, 1) := D_42 yB_cX8_village rfl rfl
theorem dX8_village_18 : decode cX8_village 18 = .ok (.getfield 9, 3) := D_180 yB_cX8_village rfl rfl rfl
theorem dX8_village_21 : decode cX8_village 21 = .ok (.bipush 38, 2) := D_16 yB_cX8_village rfl rfl (sg_p (m := 128) (N := 38) rfl rfl rfl)
theorem dX8_village_23 : decode cX8_village 23 = .ok (.iconst 2, 1) := D_5 yB_cX8_village rfl rfl
theorem dX8_village_24 : decode cX8_village 24 = .ok (.iload_n 1, 1) := D_27 yB_cX8_village rfl rfl
theorem dX8_village_25 : decode cX8_village 25 = .ok (.imul, 1) := D_104 yB_cX8_village rfl rfl
theorem dX8_village_26 : decode cX8_village 26 = .ok (.iadd, 1) := D_96 yB_cX8_village rfl rfl
theorem dX8_village_27 : decode cX8_village 27 = .ok (.iload_n 2, 1) := D_28 yB_cX8_village rfl rfl
theorem dX8_village_28 : decode cX8_village 28 = .ok (.iadd, 1) := D_96 yB_cX8_village rfl rfl
theorem dX8_village_29 : decode cX8_village 29 = .ok (.iaload, 1) := D_46 yB_cX8_village rfl rfl
theorem dX8_village_30 : decode cX8_village 30 = .ok (.goto 4, 3) := D_167 yB_cX8_village rfl rfl (sg_p (m := 32768) (N := 4) rfl rfl rfl)
theorem dX8_village_33 : decode cX8_village 33 = .ok (.iconst (-1), 1) := D_2 yB_cX8_village rfl rfl
theorem dX8_village_34 : decode cX8_village 34 = .ok (.ireturn, 1) := D_172 yB_cX8_village rfl rfl
def F_X8_village (σ : Mem) (x1 : Int32) (x2 : Int32) : Option (Int32) := (F_X8_isVillage σ x1).bind fun r_1 => if r_1 = 0 then (some (-1)) else (if x2 < 0 ∨ 1 < x2 then (some (-1)) else ((ix 121 ((38 + (2 * x1)) + x2)).bind fun k_5 => some (σ 92 k_5)))
set_option maxHeartbeats 4000000 in
set_option maxRecDepth 100000 in
theorem c_X8_village (l : Launch) (D : va_G) (cA : Nat → ClassId) (ad : Nat → Nat) (o : Int64) (σ : Mem) (x1 : Int32) (x2 : Int32)  (res : Int32) (h : F_X8_village σ x1 x2 = some res) (sz : Nat) : Met l yX8_village (WY yX8_village cX8_village 3 (some .int)) (RM 2) (va_Pc [.ref (ad 91), .int x1, .int x2] (PW D cA ad o σ sz)) (va_Qi (fun r σ9 => r = res ∧ σ9 = σ) (QW D cA ad o) (FA ad sz)) 0 0 (FA ad sz) := by
  refine ct_of (own := RX8) (k := 2) (Qf := va_Qi (fun r σ9 => r = res ∧ σ9 = σ) (QW D cA ad o)) rfl (by decide) (Nat.le_of_ble_eq_true rfl) (fun p e s m below meth c ls C0 X hr hlk hP hl => ?_) sz
  have hS : va_S (FA ad s.heap.size) s.heap s.heap [] := va_S.rf
  have hl : lv_has ls 3 [(0, .ref (ad 91)), (1, .int x1), (2, .int x2)] := hl
  obtain ⟨hx, hb, hml, hown, hts⟩ := id C0
  unfold F_X8_village at h
  refine lv_iload_n hx hb dX8_village_0 rfl (lv_at hl 1 rfl) ?_
  obtain ⟨r_1, er_1, h⟩ := bnd h
  refine r_ci X hS (r_runS (As := [.int x1]) (rest := []) C0 X hP L_X8_134 (fun sz => c_X8_isVillage l D cA ad o σ x1  r_1 er_1 sz) ⟨Nat.le_of_ble_eq_true rfl, Nat.le_of_ble_eq_true rfl⟩ rfl hl.1 rfl (Nat.le_of_ble_eq_true rfl) dX8_village_1 ⟨Nat.zero_le _, Nat.zero_le _⟩) (fun r9 σ9 H locs hw hP hS => ?_)
  rw [hw.2] at hP
  rw [hw.1]
  refine lv_if_eq (tgt := 33) hx hb dX8_village_4 (by decide) (fun c_2 => ?_) (fun c_2 => ?_)
  · replace h := it_t h c_2
    refine lv_iconst (v := (-1)) hx hb dX8_village_33 (by decide) ?_
    exact r_iret C0 X hP hS hr hlk dX8_village_34 ⟨Option.some.inj h, rfl⟩
  · replace h := it_f h c_2
    refine lv_iload_n hx hb dX8_village_7 rfl (lv_at hl 2 rfl) ?_
    refine lv_i2l (v := (x2.toInt64)) hx hb dX8_village_8 rfl ?_
    refine lv_lconst (v := ((0 : Int32).toInt64)) hx hb dX8_village_9 (by decide) ?_
    refine lv_lconst (v := ((1 : Int32).toInt64)) hx hb dX8_village_10 (by decide) ?_
    refine r_ci X hS (r_runS (As := [.long (x2.toInt64), .long ((0 : Int32).toInt64), .long ((1 : Int32).toInt64)]) (rest := []) C0 X hP L_X8_53 (fun sz => c_X8_isIn l D cA ad o σ x2 0 1 sz) ⟨Nat.le_of_ble_eq_true rfl, Nat.le_of_ble_eq_true rfl⟩ rfl hl.1 rfl (Nat.le_of_ble_eq_true rfl) dX8_village_11 ⟨Nat.zero_le _, Nat.zero_le _⟩) (fun r9 σ9 H locs hw hP hS => ?_)
    rw [hw.2] at hP
    obtain ⟨⟨b_3, rfl⟩ | ⟨b_3, rfl⟩, -⟩ := hw
    · replace h := it_f h (inn b_3)
      refine lv_if_eq (tgt := 33) hx hb dX8_village_14 (by decide) (fun c_4 => absurd c_4 (by decide)) (fun _ => ?_)
      refine lv_aload_n hx hb dX8_village_17 rfl (lv_at hl 0 rfl) ?_
      refine gf_X8_9 C0 X hP 91 (q := 92) ⟨by decide, rfl⟩ (by omega) rfl dX8_village_18 ?_
      refine lv_bipush (v := 38) hx hb dX8_village_21 (by decide) ?_
      refine lv_iconst (v := 2) hx hb dX8_village_23 (by decide) ?_
      refine lv_iload_n hx hb dX8_village_24 rfl (lv_at hl 1 rfl) ?_
      refine lv_imul hx hb dX8_village_25 ?_
      refine lv_iadd hx hb dX8_village_26 ?_
      refine lv_iload_n hx hb dX8_village_27 rfl (lv_at hl 2 rfl) ?_
      refine lv_iadd hx hb dX8_village_28 ?_
      obtain ⟨k_5, ek_5, h⟩ := bnd h
      replace ek_5 := ix_s ek_5 (by decide)
      refine r_ialdN C0 X hP 92 (k := k_5) ⟨by decide, rfl⟩ ek_5.1 ek_5.2 dX8_village_29 ?_
      refine lv_goto (tgt := 34) hx hb dX8_village_30 (by decide) ?_
      exact r_iret C0 X hP hS hr hlk dX8_village_34 ⟨Option.some.inj h, rfl⟩
    · replace h := it_t h b_3
      refine lv_if_eq (tgt := 33) hx hb dX8_village_14 (by decide) (fun _ => ?_) (fun c_6 => absurd c_6 (by decide))
      refine lv_iconst (v := (-1)) hx hb dX8_village_33 (by decide) ?_
      exact r_iret C0 X hP hS hr hlk dX8_village_34 ⟨Option.some.inj h, rfl⟩
def bB_cX8_wrongRule : Nat := 0xacf4100500a7030700a0042e1b1600b42a1300a7f51008009a2e1b1600b42a2100a70207009a6900b81b
theorem yB_cX8_wrongRule : BYS cX8_wrongRule 42 bB_cX8_wrongRule := BYS_of (by decide +kernel)
theorem dX8_wrongRule_0 : decode cX8_wrongRule 0 = .ok (.iload_n 1, 1) := D_27 yB_cX8_wrongRule rfl rfl
theorem dX8_wrongRule_1 : decode cX8_wrongRule 1 = .ok (.invokestatic 105, 3) := D_184 yB_cX8_wrongRule rfl rfl rfl
theorem dX8_wrongRule_4 : decode cX8_wrongRule 4 = .ok (.ifCond .ne 7, 3) := D_154 yB_cX8_wrongRule rfl rfl (sg_p (m := 32768) (N := 7) rfl rfl rfl)
theorem dX8_wrongRule_7 : decode cX8_wrongRule 7 = .ok (.iconst (-1), 1) := D_2 yB_cX8_wrongRule rfl rfl
theorem dX8_wrongRule_8 : decode cX8_wrongRule 8 = .ok (.goto 33, 3) := D_167 yB_cX8_wrongRule rfl rfl (sg_p (m := 32768) (N := 33) rfl rfl rfl)
theorem dX8_wrongRule_11 : decode cX8_wrongRule 11 = .ok (.aload_n 0, 1) := D_42 yB_cX8_wrongRule rfl rfl
theorem dX8_wrongRule_12 : decode cX8_wrongRule 12 = .ok (.getfield 22, 3) := D_180 yB_cX8_wrongRule rfl rfl rfl
theorem dX8_wrongRule_15 : decode cX8_wrongRule 15 = .ok (.iload_n 1, 1) := D_27 yB_cX8_wrongRule rfl rfl
theorem dX8_wrongRule_16 : decode cX8_wrongRule 16 = .ok (.iaload, 1) := D_46 yB_cX8_wrongRule rfl rfl
theorem dX8_wrongRule_17 : decode cX8_wrongRule 17 = .ok (.ifCond .ne 8, 3) := D_154 yB_cX8_wrongRule rfl rfl (sg_p (m := 32768) (N := 8) rfl rfl rfl)
theorem dX8_wrongRule_20 : decode cX8_wrongRule 20 = .ok (.bipush (-11), 2) := D_16 yB_cX8_wrongRule rfl rfl (sg_n (m := 128) (N := 11) rfl rfl rfl)
theorem dX8_wrongRule_22 : decode cX8_wrongRule 22 = .ok (.goto 19, 3) := D_167 yB_cX8_wrongRule rfl rfl (sg_p (m := 32768) (N := 19) rfl rfl rfl)
theorem dX8_wrongRule_25 : decode cX8_wrongRule 25 = .ok (.aload_n 0, 1) := D_42 yB_cX8_wrongRule rfl rfl
theorem dX8_wrongRule_26 : decode cX8_wrongRule 26 = .ok (.getfield 22, 3) := D_180 yB_cX8_wrongRule rfl rfl rfl
theorem dX8_wrongRule_29 : decode cX8_wrongRule 29 = .ok (.iload_n 1, 1) := D_27 yB_cX8_wrongRule rfl rfl
theorem dX8_wrongRule_30 : decode cX8_wrongRule 30 = .ok (.iaload, 1) := D_46 yB_cX8_wrongRule rfl rfl
theorem dX8_wrongRule_31 : decode cX8_wrongRule 31 = .ok (.iconst 1, 1) := D_4 yB_cX8_wrongRule rfl rfl
theorem dX8_wrongRule_32 : decode cX8_wrongRule 32 = .ok (.if_icmp .ne 7, 3) := D_160 yB_cX8_wrongRule rfl rfl (sg_p (m := 32768) (N := 7) rfl rfl rfl)
theorem dX8_wrongRule_35 : decode cX8_wrongRule 35 = .ok (.iconst 0, 1) := D_3 yB_cX8_wrongRule rfl rfl
theorem dX8_wrongRule_36 : decode cX8_wrongRule 36 = .ok (.goto 5, 3) := D_167 yB_cX8_wrongRule rfl rfl (sg_p (m := 32768) (N := 5) rfl rfl rfl)
theorem dX8_wrongRule_39 : decode cX8_wrongRule 39 = .ok (.bipush (-12), 2) := D_16 yB_cX8_wrongRule rfl rfl (sg_n (m := 128) (N := 12) rfl rfl rfl)
theorem dX8_wrongRule_41 : decode cX8_wrongRule 41 = .ok (.ireturn, 1) := D_172 yB_cX8_wrongRule rfl rfl
def F_X8_wrongRule (σ : Mem) (x1 : Int32) : Option (Int32) := (F_X8_isShelf σ x1).bind fun r_1 => if r_1 = 0 then (some (-1)) else ((ix 8 x1).bind fun k_3 => if (σ 96 k_3) = 0 then (some (-11)) else ((ix 8 x1).bind fun k_5 => if (σ 96 k_5) = 1 then (some 0) else (some (-12))))
set_option maxHeartbeats 4000000 in
set_option maxRecDepth 100000 in
theorem c_X8_wrongRule (l : Launch) (D : va_G) (cA : Nat → ClassId) (ad : Nat → Nat) (o : Int64) (σ : Mem) (x1 : Int32)  (res : Int32) (h : F_X8_wrongRule σ x1 = some res) (sz : Nat) : Met l yX8_wrongRule (WY yX8_wrongRule cX8_wrongRule 2 (some .int)) (RM 2) (va_Pc [.ref (ad 91), .int x1] (PW D cA ad o σ sz)) (va_Qi (fun r σ9 => r = res ∧ σ9 = σ) (QW D cA ad o) (FA ad sz)) 0 0 (FA ad sz) := by
  refine ct_of (own := RX8) (k := 2) (Qf := va_Qi (fun r σ9 => r = res ∧ σ9 = σ) (QW D cA ad o)) rfl (by decide) (Nat.le_of_ble_eq_true rfl) (fun p e s m below meth c ls C0 X hr hlk hP hl => ?_) sz
  have hS : va_S (FA ad s.heap.size) s.heap s.heap [] := va_S.rf
  have hl : lv_has ls 2 [(0, .ref (ad 91)), (1, .int x1)] := hl
  obtain ⟨hx, hb, hml, hown, hts⟩ := id C0
  unfold F_X8_wrongRule at h
  refine lv_iload_n hx hb dX8_wrongRule_0 rfl (lv_at hl 1 rfl) ?_
  obtain ⟨r_1, er_1, h⟩ := bnd h
  refine r_ci X hS (r_runS (As := [.int x1]) (rest := []) C0 X hP L_X8_105 (fun sz => c_X8_isShelf l D cA ad o σ x1  r_1 er_1 sz) ⟨Nat.le_of_ble_eq_true rfl, Nat.le_of_ble_eq_true rfl⟩ rfl hl.1 rfl (Nat.le_of_ble_eq_true rfl) dX8_wrongRule_1 ⟨Nat.zero_le _, Nat.zero_le _⟩) (fun r9 σ9 H locs hw hP hS => ?_)
  rw [hw.2] at hP
  rw [hw.1]
  refine lv_if_ne (tgt := 11) hx hb dX8_wrongRule_4 (by decide) (fun c_2 => ?_) (fun c_2 => ?_)
  · replace h := it_f h c_2
    refine lv_aload_n hx hb dX8_wrongRule_11 rfl (lv_at hl 0 rfl) ?_
    refine gf_X8_22 C0 X hP 91 (q := 96) ⟨by decide, rfl⟩ (by omega) rfl dX8_wrongRule_12 ?_
    refine lv_iload_n hx hb dX8_wrongRule_15 rfl (lv_at hl 1 rfl) ?_
    obtain ⟨k_3, ek_3, h⟩ := bnd h
    replace ek_3 := ix_s ek_3 (by decide)
    refine r_ialdN C0 X hP 96 (k := k_3) ⟨by decide, rfl⟩ ek_3.1 ek_3.2 dX8_wrongRule_16 ?_
    refine lv_if_ne (tgt := 25) hx hb dX8_wrongRule_17 (by decide) (fun c_4 => ?_) (fun c_4 => ?_)
    · replace h := it_f h c_4
      refine lv_aload_n hx hb dX8_wrongRule_25 rfl (lv_at hl 0 rfl) ?_
      refine gf_X8_22 C0 X hP 91 (q := 96) ⟨by decide, rfl⟩ (by omega) rfl dX8_wrongRule_26 ?_
      refine lv_iload_n hx hb dX8_wrongRule_29 rfl (lv_at hl 1 rfl) ?_
      obtain ⟨k_5, ek_5, h⟩ := bnd h
      replace ek_5 := ix_s ek_5 (by decide)
      refine r_ialdN C0 X hP 96 (k := k_5) ⟨by decide, rfl⟩ ek_5.1 ek_5.2 dX8_wrongRule_30 ?_
      refine lv_iconst (v := 1) hx hb dX8_wrongRule_31 (by decide) ?_
      refine lv_icmp_ne (tgt := 39) hx hb dX8_wrongRule_32 (by decide) (fun c_6 => ?_) (fun c_6 => ?_)
      · replace h := it_f h c_6
        refine lv_bipush (v := (-12)) hx hb dX8_wrongRule_39 (by decide) ?_
        exact r_iret C0 X hP hS hr hlk dX8_wrongRule_41 ⟨Option.some.inj h, rfl⟩
      · replace h := it_t h c_6
        refine lv_iconst (v := 0) hx hb dX8_wrongRule_35 (by decide) ?_
        refine lv_goto (tgt := 41) hx hb dX8_wrongRule_36 (by decide) ?_
        exact r_iret C0 X hP hS hr hlk dX8_wrongRule_41 ⟨Option.some.inj h, rfl⟩
    · replace h := it_t h c_4
      refine lv_bipush (v := (-11)) hx hb dX8_wrongRule_20 (by decide) ?_
      refine lv_goto (tgt := 41) hx hb dX8_wrongRule_22 (by decide) ?_
      exact r_iret C0 X hP hS hr hlk dX8_wrongRule_41 ⟨Option.some.inj h, rfl⟩
  · replace h := it_t h c_2
    refine lv_iconst (v := (-1)) hx hb dX8_wrongRule_7 (by decide) ?_
    refine lv_goto (tgt := 41) hx hb dX8_wrongRule_8 (by decide) ?_
    exact r_iret C0 X hP hS hr hlk dX8_wrongRule_41 ⟨Option.some.inj h, rfl⟩
def bB_cX8_rule : Nat := 0xac2e1b2200b42a4f2e1b2500b42a600460681c0526100900b42a4f2e1b2200b42a60681c0526100900b42aac1d0500991d3e8900b61b2aac0205009a8600b81c0a00996900b81b
theorem yB_cX8_rule : BYS cX8_rule 71 bB_cX8_rule := BYS_of (by decide +kernel)
theorem dX8_rule_0 : decode cX8_rule 0 = .ok (.iload_n 1, 1) := D_27 yB_cX8_rule rfl rfl
theorem dX8_rule_1 : decode cX8_rule 1 = .ok (.invokestatic 105, 3) := D_184 yB_cX8_rule rfl rfl rfl
theorem dX8_rule_4 : decode cX8_rule 4 = .ok (.ifCond .eq 10, 3) := D_153 yB_cX8_rule rfl rfl (sg_p (m := 32768) (N := 10) rfl rfl rfl)
theorem dX8_rule_7 : decode cX8_rule 7 = .ok (.iload_n 2, 1) := D_28 yB_cX8_rule rfl rfl
theorem dX8_rule_8 : decode cX8_rule 8 = .ok (.invokestatic 134, 3) := D_184 yB_cX8_rule rfl rfl rfl
theorem dX8_rule_11 : decode cX8_rule 11 = .ok (.ifCond .ne 5, 3) := D_154 yB_cX8_rule rfl rfl (sg_p (m := 32768) (N := 5) rfl rfl rfl)
theorem dX8_rule_14 : decode cX8_rule 14 = .ok (.iconst (-1), 1) := D_2 yB_cX8_rule rfl rfl
theorem dX8_rule_15 : decode cX8_rule 15 = .ok (.ireturn, 1) := D_172 yB_cX8_rule rfl rfl
theorem dX8_rule_16 : decode cX8_rule 16 = .ok (.aload_n 0, 1) := D_42 yB_cX8_rule rfl rfl
theorem dX8_rule_17 : decode cX8_rule 17 = .ok (.iload_n 1, 1) := D_27 yB_cX8_rule rfl rfl
theorem dX8_rule_18 : decode cX8_rule 18 = .ok (.invokevirtual 137, 3) := D_182 yB_cX8_rule rfl rfl rfl
theorem dX8_rule_21 : decode cX8_rule 21 = .ok (.istore_n 3, 1) := D_62 yB_cX8_rule rfl rfl
theorem dX8_rule_22 : decode cX8_rule 22 = .ok (.iload_n 3, 1) := D_29 yB_cX8_rule rfl rfl
theorem dX8_rule_23 : decode cX8_rule 23 = .ok (.ifCond .eq 5, 3) := D_153 yB_cX8_rule rfl rfl (sg_p (m := 32768) (N := 5) rfl rfl rfl)
theorem dX8_rule_26 : decode cX8_rule 26 = .ok (.iload_n 3, 1) := D_29 yB_cX8_rule rfl rfl
theorem dX8_rule_27 : decode cX8_rule 27 = .ok (.ireturn, 1) := D_172 yB_cX8_rule rfl rfl
theorem dX8_rule_28 : decode cX8_rule 28 = .ok (.aload_n 0, 1) := D_42 yB_cX8_rule rfl rfl
theorem dX8_rule_29 : decode cX8_rule 29 = .ok (.getfield 9, 3) := D_180 yB_cX8_rule rfl rfl rfl
theorem dX8_rule_32 : decode cX8_rule 32 = .ok (.bipush 38, 2) := D_16 yB_cX8_rule rfl rfl (sg_p (m := 128) (N := 38) rfl rfl rfl)
theorem dX8_rule_34 : decode cX8_rule 34 = .ok (.iconst 2, 1) := D_5 yB_cX8_rule rfl rfl
theorem dX8_rule_35 : decode cX8_rule 35 = .ok (.iload_n 2, 1) := D_28 yB_cX8_rule rfl rfl
theorem dX8_rule_36 : decode cX8_rule 36 = .ok (.imul, 1) := D_104 yB_cX8_rule rfl rfl
theorem dX8_rule_37 : decode cX8_rule 37 = .ok (.iadd, 1) := D_96 yB_cX8_rule rfl rfl
theorem dX8_rule_38 : decode cX8_rule 38 = .ok (.aload_n 0, 1) := D_42 yB_cX8_rule rfl rfl
theorem dX8_rule_39 : decode cX8_rule 39 = .ok (.getfield 34, 3) := D_180 yB_cX8_rule rfl rfl rfl
theorem dX8_rule_42 : decode cX8_rule 42 = .ok (.iload_n 1, 1) := D_27 yB_cX8_rule rfl rfl
theorem dX8_rule_43 : decode cX8_rule 43 = .ok (.iaload, 1) := D_46 yB_cX8_rule rfl rfl
theorem dX8_rule_44 : decode cX8_rule 44 = .ok (.iastore, 1) := D_79 yB_cX8_rule rfl rfl
theorem dX8_rule_45 : decode cX8_rule 45 = .ok (.aload_n 0, 1) := D_42 yB_cX8_rule rfl rfl
theorem dX8_rule_46 : decode cX8_rule 46 = .ok (.getfield 9, 3) := D_180 yB_cX8_rule rfl rfl rfl
theorem dX8_rule_49 : decode cX8_rule 49 = .ok (.bipush 38, 2) := D_16 yB_cX8_rule rfl rfl (sg_p (m := 128) (N := 38) rfl rfl rfl)
theorem dX8_rule_51 : decode cX8_rule 51 = .ok (.iconst 2, 1) := D_5 yB_cX8_rule rfl rfl
theorem dX8_rule_52 : decode cX8_rule 52 = .ok (.iload_n 2, 1) := D_28 yB_cX8_rule rfl rfl
theorem dX8_rule_53 : decode cX8_rule 53 = .ok (.imul, 1) := D_104 yB_cX8_rule rfl rfl
theorem dX8_rule_54 : decode cX8_rule 54 = .ok (.iadd, 1) := D_96 yB_cX8_rule rfl rfl
theorem dX8_rule_55 : decode cX8_rule 55 = .ok (.iconst 1, 1) := D_4 yB_cX8_rule rfl rfl
theorem dX8_rule_56 : decode cX8_rule 56 = .ok (.iadd, 1) := D_96 yB_cX8_rule rfl rfl
theorem dX8_rule_57 : decode cX8_rule 57 = .ok (.aload_n 0, 1) := D_42 yB_cX8_rule rfl rfl
theorem dX8_rule_58 : decode cX8_rule 58 = .ok (.getfield 37, 3) := D_180 yB_cX8_rule rfl rfl rfl
theorem dX8_rule_61 : decode cX8_rule 61 = .ok (.iload_n 1, 1) := D_27 yB_cX8_rule rfl rfl
theorem dX8_rule_62 : decode cX8_rule 62 = .ok (.iaload, 1) := D_46 yB_cX8_rule rfl rfl
theorem dX8_rule_63 : decode cX8_rule 63 = .ok (.iastore, 1) := D_79 yB_cX8_rule rfl rfl
theorem dX8_rule_64 : decode cX8_rule 64 = .ok (.aload_n 0, 1) := D_42 yB_cX8_rule rfl rfl
theorem dX8_rule_65 : decode cX8_rule 65 = .ok (.getfield 34, 3) := D_180 yB_cX8_rule rfl rfl rfl
theorem dX8_rule_68 : decode cX8_rule 68 = .ok (.iload_n 1, 1) := D_27 yB_cX8_rule rfl rfl
theorem dX8_rule_69 : decode cX8_rule 69 = .ok (.iaload, 1) := D_46 yB_cX8_rule rfl rfl
theorem dX8_rule_70 : decode cX8_rule 70 = .ok (.ireturn, 1) := D_172 yB_cX8_rule rfl rfl
def F_X8_rule (σ : Mem) (x1 : Int32) (x2 : Int32) : Option (Mem × Int32) := (F_X8_isShelf σ x1).bind fun r_1 => if r_1 = 0 then (some (σ, (-1))) else ((F_X8_isVillage σ x2).bind fun r_3 => if r_3 = 0 then (some (σ, (-1))) else ((F_X8_wrongRule σ x1).bind fun r_5 => if r_5 = 0 then ((ix 8 x1).bind fun k_7 => (ix 121 (38 + (2 * x2))).bind fun k_8 => (ix 8 x1).bind fun k_9 => (ix 121 ((38 + (2 * x2)) + 1)).bind fun k_10 => (ix 8 x1).bind fun k_11 => some ((stm (stm σ 92 k_8 (σ 100 k_7)) 92 k_10 ((stm σ 92 k_8 (σ 100 k_7)) 101 k_9)), ((stm (stm σ 92 k_8 (σ 100 k_7)) 92 k_10 ((stm σ 92 k_8 (σ 100 k_7)) 101 k_9)) 100 k_11))) else (some (σ, r_5))))
set_option maxHeartbeats 4000000 in
set_option maxRecDepth 100000 in
theorem c_X8_rule (l : Launch) (D : va_G) (cA : Nat → ClassId) (ad : Nat → Nat) (o : Int64) (σ : Mem) (x1 : Int32) (x2 : Int32)  (res : Mem × Int32) (h : F_X8_rule σ x1 x2 = some res) (sz : Nat) : Met l yX8_rule (WY yX8_rule cX8_rule 4 (some .int)) (RM 3) (va_Pc [.ref (ad 91), .int x1, .int x2] (PW D cA ad o σ sz)) (va_Qi (fun r σ9 => r = res.2 ∧ σ9 = res.1) (QW D cA ad o) (FA ad sz)) 0 0 (FA ad sz) := by
  refine ct_of (own := RX8) (k := 3) (Qf := va_Qi (fun r σ9 => r = res.2 ∧ σ9 = res.1) (QW D cA ad o)) rfl (by decide) (Nat.le_of_ble_eq_true rfl) (fun p e s m below meth c ls C0 X hr hlk hP hl => ?_) sz
  have hS : va_S (FA ad s.heap.size) s.heap s.heap [] := va_S.rf
  have hl : lv_has ls 4 [(0, .ref (ad 91)), (1, .int x1), (2, .int x2)] := hl
  obtain ⟨hx, hb, hml, hown, hts⟩ := id C0
  unfold F_X8_rule at h
  refine lv_iload_n hx hb dX8_rule_0 rfl (lv_at hl 1 rfl) ?_
  obtain ⟨r_1, er_1, h⟩ := bnd h
  refine r_ci X hS (r_runS (As := [.int x1]) (rest := []) C0 X hP L_X8_105 (fun sz => c_X8_isShelf l D cA ad o σ x1  r_1 er_1 sz) ⟨Nat.le_of_ble_eq_true rfl, Nat.le_of_ble_eq_true rfl⟩ rfl hl.1 rfl (Nat.le_of_ble_eq_true rfl) dX8_rule_1 ⟨Nat.zero_le _, Nat.zero_le _⟩) (fun r9 σ9 H locs hw hP hS => ?_)
  rw [hw.2] at hP
  rw [hw.1]
  refine lv_if_eq (tgt := 14) hx hb dX8_rule_4 (by decide) (fun c_2 => ?_) (fun c_2 => ?_)
  · replace h := it_t h c_2
    refine lv_iconst (v := (-1)) hx hb dX8_rule_14 (by decide) ?_
    exact r_iret C0 X hP hS hr hlk dX8_rule_15 (rt2 h)
  · replace h := it_f h c_2
    refine lv_iload_n hx hb dX8_rule_7 rfl (lv_at hl 2 rfl) ?_
    obtain ⟨r_3, er_3, h⟩ := bnd h
    refine r_ci X hS (r_runS (As := [.int x2]) (rest := []) C0 X hP L_X8_134 (fun sz => c_X8_isVillage l D cA ad o σ x2  r_3 er_3 sz) ⟨Nat.le_of_ble_eq_true rfl, Nat.le_of_ble_eq_true rfl⟩ rfl hl.1 rfl (Nat.le_of_ble_eq_true rfl) dX8_rule_8 ⟨Nat.zero_le _, Nat.zero_le _⟩) (fun r9 σ9 H locs hw hP hS => ?_)
    rw [hw.2] at hP
    rw [hw.1]
    refine lv_if_ne (tgt := 16) hx hb dX8_rule_11 (by decide) (fun c_4 => ?_) (fun c_4 => ?_)
    · replace h := it_f h c_4
      refine lv_aload_n hx hb dX8_rule_16 rfl (lv_at hl 0 rfl) ?_
      refine lv_iload_n hx hb dX8_rule_17 rfl (lv_at hl 1 rfl) ?_
      obtain ⟨r_5, er_5, h⟩ := bnd h
      refine r_ci X hS (r_runV (As := [.int x1]) (rest := []) C0 X hP L_X8_137 (fun sz => c_X8_wrongRule l D cA ad o σ x1  r_5 er_5 sz) (show 91 < 106 ∧ kd 91 = (8, 24) from ⟨by decide, rfl⟩).1 (show 91 < 106 ∧ kd 91 = (8, 24) from ⟨by decide, rfl⟩).2 (by decide) rfl ⟨Nat.le_of_ble_eq_true rfl, Nat.le_of_ble_eq_true rfl⟩ rfl hl.1 rfl (Nat.le_of_ble_eq_true rfl) dX8_rule_18 ⟨Nat.zero_le _, Nat.zero_le _⟩) (fun r9 σ9 H locs hw hP hS => ?_)
      rw [hw.2] at hP
      rw [hw.1]
      refine lv_istore_n (lv' := [(3, .int r_5), (0, .ref (ad 91)), (1, .int x1), (2, .int x2)]) hx hb dX8_rule_21 rfl hl (by decide) rfl (fun ls hl => ?_)
      refine lv_iload_n hx hb dX8_rule_22 rfl (lv_at hl 0 rfl) ?_
      refine lv_if_eq (tgt := 28) hx hb dX8_rule_23 (by decide) (fun c_6 => ?_) (fun c_6 => ?_)
      · replace h := it_t h c_6
        refine lv_aload_n hx hb dX8_rule_28 rfl (lv_at hl 1 rfl) ?_
        refine gf_X8_9 C0 X hP 91 (q := 92) ⟨by decide, rfl⟩ (by omega) rfl dX8_rule_29 ?_
        refine lv_bipush (v := 38) hx hb dX8_rule_32 (by decide) ?_
        refine lv_iconst (v := 2) hx hb dX8_rule_34 (by decide) ?_
        refine lv_iload_n hx hb dX8_rule_35 rfl (lv_at hl 3 rfl) ?_
        refine lv_imul hx hb dX8_rule_36 ?_
        refine lv_iadd hx hb dX8_rule_37 ?_
        refine lv_aload_n hx hb dX8_rule_38 rfl (lv_at hl 1 rfl) ?_
        refine gf_X8_34 C0 X hP 91 (q := 100) ⟨by decide, rfl⟩ (by omega) rfl dX8_rule_39 ?_
        refine lv_iload_n hx hb dX8_rule_42 rfl (lv_at hl 2 rfl) ?_
        obtain ⟨k_7, ek_7, h⟩ := bnd h
        replace ek_7 := ix_s ek_7 (by decide)
        refine r_ialdN C0 X hP 100 (k := k_7) ⟨by decide, rfl⟩ ek_7.1 ek_7.2 dX8_rule_43 ?_
        obtain ⟨k_8, ek_8, h⟩ := bnd h
        replace ek_8 := ix_s ek_8 (by decide)
        refine r_iastN C0 X hP hS 92 (k := k_8) ⟨by decide, rfl⟩ ek_8.1 ek_8.2 dX8_rule_44 (fun H locs hP hS => ?_)
        refine lv_aload_n hx hb dX8_rule_45 rfl (lv_at hl 1 rfl) ?_
        refine gf_X8_9 C0 X hP 91 (q := 92) ⟨by decide, rfl⟩ (by omega) rfl dX8_rule_46 ?_
        refine lv_bipush (v := 38) hx hb dX8_rule_49 (by decide) ?_
        refine lv_iconst (v := 2) hx hb dX8_rule_51 (by decide) ?_
        refine lv_iload_n hx hb dX8_rule_52 rfl (lv_at hl 3 rfl) ?_
        refine lv_imul hx hb dX8_rule_53 ?_
        refine lv_iadd hx hb dX8_rule_54 ?_
        refine lv_iconst (v := 1) hx hb dX8_rule_55 (by decide) ?_
        refine lv_iadd hx hb dX8_rule_56 ?_
        refine lv_aload_n hx hb dX8_rule_57 rfl (lv_at hl 1 rfl) ?_
        refine gf_X8_37 C0 X hP 91 (q := 101) ⟨by decide, rfl⟩ (by omega) rfl dX8_rule_58 ?_
        refine lv_iload_n hx hb dX8_rule_61 rfl (lv_at hl 2 rfl) ?_
        obtain ⟨k_9, ek_9, h⟩ := bnd h
        replace ek_9 := ix_s ek_9 (by decide)
        refine r_ialdN C0 X hP 101 (k := k_9) ⟨by decide, rfl⟩ ek_9.1 ek_9.2 dX8_rule_62 ?_
        obtain ⟨k_10, ek_10, h⟩ := bnd h
        replace ek_10 := ix_s ek_10 (by decide)
        refine r_iastN C0 X hP hS 92 (k := k_10) ⟨by decide, rfl⟩ ek_10.1 ek_10.2 dX8_rule_63 (fun H locs hP hS => ?_)
        refine lv_aload_n hx hb dX8_rule_64 rfl (lv_at hl 1 rfl) ?_
        refine gf_X8_34 C0 X hP 91 (q := 100) ⟨by decide, rfl⟩ (by omega) rfl dX8_rule_65 ?_
        refine lv_iload_n hx hb dX8_rule_68 rfl (lv_at hl 2 rfl) ?_
        obtain ⟨k_11, ek_11, h⟩ := bnd h
        replace ek_11 := ix_s ek_11 (by decide)
        refine r_ialdN C0 X hP 100 (k := k_11) ⟨by decide, rfl⟩ ek_11.1 ek_11.2 dX8_rule_69 ?_
        exact r_iret C0 X hP hS hr hlk dX8_rule_70 (rt2 h)
      · replace h := it_f h c_6
        refine lv_iload_n hx hb dX8_rule_26 rfl (lv_at hl 0 rfl) ?_
        exact r_iret C0 X hP hS hr hlk dX8_rule_27 (rt2 h)
    · replace h := it_t h c_4
      refine lv_iconst (v := (-1)) hx hb dX8_rule_14 (by decide) ?_
      exact r_iret C0 X hP hS hr hlk dX8_rule_15 (rt2 h)
