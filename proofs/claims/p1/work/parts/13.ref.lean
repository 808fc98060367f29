theorem dX8_isIn_0 : decode cX8_isIn 0 = .ok (.lload_n 0, 1) := by decide +kernel
theorem dX8_isIn_1 : decode cX8_isIn 1 = .ok (.lload_n 2, 1) := by decide +kernel
theorem dX8_isIn_2 : decode cX8_isIn 2 = .ok (.lcmp, 1) := by decide +kernel
theorem dX8_isIn_3 : decode cX8_isIn 3 = .ok (.ifCond .lt 14, 3) := by decide +kernel
theorem dX8_isIn_6 : decode cX8_isIn 6 = .ok (.lload_n 0, 1) := by decide +kernel
theorem dX8_isIn_7 : decode cX8_isIn 7 = .ok (.lload 4, 2) := by decide +kernel
theorem dX8_isIn_9 : decode cX8_isIn 9 = .ok (.lcmp, 1) := by decide +kernel
theorem dX8_isIn_10 : decode cX8_isIn 10 = .ok (.ifCond .gt 7, 3) := by decide +kernel
theorem dX8_isIn_13 : decode cX8_isIn 13 = .ok (.iconst 1, 1) := by decide +kernel
theorem dX8_isIn_14 : decode cX8_isIn 14 = .ok (.goto 4, 3) := by decide +kernel
theorem dX8_isIn_17 : decode cX8_isIn 17 = .ok (.iconst 0, 1) := by decide +kernel
theorem dX8_isIn_18 : decode cX8_isIn 18 = .ok (.ireturn, 1) := by decide +kernel
set_option maxHeartbeats 4000000 in
set_option maxRecDepth 100000 in
theorem c_X8_isIn (l : Launch) (D : va_G) (cA : Nat → ClassId) (ad : Nat → Nat) (o : Int64) (σ : Mem) (a : Int32) (b : Int32) (q : Int32)  (sz : Nat) : Met l yX8_isIn (WY yX8_isIn cX8_isIn 6 (some .boolean)) (RM 0) (va_Pc [.long (a.toInt64), .long (b.toInt64), .long (q.toInt64)] (PW D cA ad o σ sz)) (va_Qi (fun r σ9 => (((b ≤ a ∧ a ≤ q) ∧ r = 1) ∨ ((a < b ∨ q < a) ∧ r = 0)) ∧ σ9 = σ) (QW D cA ad o) (FA ad sz)) 0 0 (FA ad sz) := by
  refine ct_of (own := RX8) (k := 0) (Qf := va_Qi (fun r σ9 => (((b ≤ a ∧ a ≤ q) ∧ r = 1) ∨ ((a < b ∨ q < a) ∧ r = 0)) ∧ σ9 = σ) (QW D cA ad o)) rfl (by decide) (Nat.le_of_ble_eq_true rfl) (fun p e s m below meth c ls C0 X hr hlk hP hl => ?_) sz
  have hS : va_S (FA ad s.heap.size) s.heap s.heap [] := va_S.rf
  have hl : lv_has ls 6 [(0, .long (a.toInt64)), (2, .long (b.toInt64)), (4, .long (q.toInt64))] := hl
  obtain ⟨hx, hb, hml, hown, hts⟩ := id C0
  refine lv_lload_n hx hb dX8_isIn_0 rfl (lv_at hl 0 rfl) ?_
  refine lv_lload_n hx hb dX8_isIn_1 rfl (lv_at hl 1 rfl) ?_
  refine W.lcmp hx hb dX8_isIn_2 ?_
  refine lv_if_lt (tgt := 17) hx hb dX8_isIn_3 (by decide) (fun c_1 => ?_) (fun c_1 => ?_)
  · refine lv_iconst (v := 0) hx hb dX8_isIn_17 (by decide) ?_
    exact r_zret C0 X hP hS hr hlk dX8_isIn_18 (Or.inl rfl) ⟨Or.inr ⟨Or.inl (i2l_lt.mp ((lg_cmp_lt _ _).mp c_1)), rfl⟩, rfl⟩
  · refine lv_lload_n hx hb dX8_isIn_6 rfl (lv_at hl 0 rfl) ?_
    refine lv_lload hx hb dX8_isIn_7 (lv_at hl 2 rfl) ?_
    refine W.lcmp hx hb dX8_isIn_9 ?_
    refine lv_if_gt (tgt := 17) hx hb dX8_isIn_10 (by decide) (fun c_2 => ?_) (fun c_2 => ?_)
    · refine lv_iconst (v := 0) hx hb dX8_isIn_17 (by decide) ?_
      exact r_zret C0 X hP hS hr hlk dX8_isIn_18 (Or.inl rfl) ⟨Or.inr ⟨Or.inr (i2l_lt.mp ((lg_cmp_gt _ _).mp c_2)), rfl⟩, rfl⟩
    · refine lv_iconst (v := 1) hx hb dX8_isIn_13 (by decide) ?_
      refine lv_goto (tgt := 18) hx hb dX8_isIn_14 (by decide) ?_
      exact r_zret C0 X hP hS hr hlk dX8_isIn_18 (Or.inr rfl) ⟨Or.inl ⟨⟨i2l_le.mp ((lg_cmp_ge _ _).mp (Int32.not_lt.mp c_1)), i2l_le.mp ((lg_cmp_le _ _).mp (Int32.not_lt.mp c_2))⟩, rfl⟩, rfl⟩
theorem dX8_isShelf_0 : decode cX8_isShelf 0 = .ok (.iload_n 0, 1) := by decide +kernel
theorem dX8_isShelf_1 : decode cX8_isShelf 1 = .ok (.i2l, 1) := by decide +kernel
theorem dX8_isShelf_2 : decode cX8_isShelf 2 = .ok (.lconst 0, 1) := by decide +kernel
theorem dX8_isShelf_3 : decode cX8_isShelf 3 = .ok (.ldc2_w 57, 3) := by decide +kernel
theorem dX8_isShelf_6 : decode cX8_isShelf 6 = .ok (.invokestatic 53, 3) := by decide +kernel
theorem dX8_isShelf_9 : decode cX8_isShelf 9 = .ok (.ireturn, 1) := by decide +kernel
set_option maxHeartbeats 4000000 in
set_option maxRecDepth 100000 in
theorem c_X8_isShelf (l : Launch) (D : va_G) (cA : Nat → ClassId) (ad : Nat → Nat) (o : Int64) (σ : Mem) (d : Int32)  (sz : Nat) : Met l yX8_isShelf (WY yX8_isShelf cX8_isShelf 1 (some .boolean)) (RM 1) (va_Pc [.int d] (PW D cA ad o σ sz)) (va_Qi (fun r σ9 => (((¬ (d < 0 ∨ 8 ≤ d)) ∧ r = 1) ∨ ((d < 0 ∨ 8 ≤ d) ∧ r = 0)) ∧ σ9 = σ) (QW D cA ad o) (FA ad sz)) 0 0 (FA ad sz) := by
  refine ct_of (own := RX8) (k := 1) (Qf := va_Qi (fun r σ9 => (((¬ (d < 0 ∨ 8 ≤ d)) ∧ r = 1) ∨ ((d < 0 ∨ 8 ≤ d) ∧ r = 0)) ∧ σ9 = σ) (QW D cA ad o)) rfl (by decide) (Nat.le_of_ble_eq_true rfl) (fun p e s m below meth c ls C0 X hr hlk hP hl => ?_) sz
  have hS : va_S (FA ad s.heap.size) s.heap s.heap [] := va_S.rf
  have hl : lv_has ls 1 [(0, .int d)] := hl
  obtain ⟨hx, hb, hml, hown, hts⟩ := id C0
  refine lv_iload_n hx hb dX8_isShelf_0 rfl (lv_at hl 0 rfl) ?_
  refine lv_i2l (v := (d.toInt64)) hx hb dX8_isShelf_1 rfl ?_
  refine lv_lconst (v := ((0 : Int32).toInt64)) hx hb dX8_isShelf_2 (by decide) ?_
  refine lv_ldc2 (own := RX8) (index := 57) (v := 7) hx hb hown (hts _ (tm 1106 (by decide +kernel) (by decide +kernel))) dX8_isShelf_3 ?_
  refine lv_topEl (y := ((7 : Int32).toInt64)) (by decide) ?_
  refine r_ci X hS (r_runS (As := [.long (d.toInt64), .long ((0 : Int32).toInt64), .long ((7 : Int32).toInt64)]) (rest := []) C0 X hP L_X8_53 (fun sz => c_X8_isIn l D cA ad o σ d 0 7 sz) ⟨Nat.le_of_ble_eq_true rfl, Nat.le_of_ble_eq_true rfl⟩ rfl hl.1 rfl (Nat.le_of_ble_eq_true rfl) dX8_isShelf_6 ⟨Nat.zero_le _, Nat.zero_le _⟩) (fun r σ9 H locs hw hP hS => ?_)
  rw [hw.2] at hP
  obtain ⟨⟨b_1, rfl⟩ | ⟨b_1, rfl⟩, -⟩ := hw
  · have p_2 : ¬ d < 0 := Int32.not_lt.mpr b_1.1
    have p_3 : ¬ 7 < d := Int32.not_lt.mpr b_1.2
    have p_4 : ¬ 8 ≤ d := nsucc (by decide) p_3
    exact r_zret C0 X hP hS hr hlk dX8_isShelf_9 (Or.inr rfl) ⟨Or.inl ⟨fun z => z.elim p_2 p_4, rfl⟩, rfl⟩
  · have p_5 : d < 0 ∨ 8 ≤ d := osucc (by decide) b_1
    exact r_zret C0 X hP hS hr hlk dX8_isShelf_9 (Or.inl rfl) ⟨Or.inr ⟨p_5, rfl⟩, rfl⟩
theorem dX8_isVillage_0 : decode cX8_isVillage 0 = .ok (.iload_n 0, 1) := by decide +kernel
theorem dX8_isVillage_1 : decode cX8_isVillage 1 = .ok (.i2l, 1) := by decide +kernel
theorem dX8_isVillage_2 : decode cX8_isVillage 2 = .ok (.lconst 0, 1) := by decide +kernel
theorem dX8_isVillage_3 : decode cX8_isVillage 3 = .ok (.ldc2_w 59, 3) := by decide +kernel
theorem dX8_isVillage_6 : decode cX8_isVillage 6 = .ok (.invokestatic 53, 3) := by decide +kernel
theorem dX8_isVillage_9 : decode cX8_isVillage 9 = .ok (.ireturn, 1) := by decide +kernel
set_option maxHeartbeats 4000000 in
set_option maxRecDepth 100000 in
theorem c_X8_isVillage (l : Launch) (D : va_G) (cA : Nat → ClassId) (ad : Nat → Nat) (o : Int64) (σ : Mem) (v : Int32)  (sz : Nat) : Met l yX8_isVillage (WY yX8_isVillage cX8_isVillage 1 (some .boolean)) (RM 1) (va_Pc [.int v] (PW D cA ad o σ sz)) (va_Qi (fun r σ9 => (((¬ (v < 0 ∨ 3 ≤ v)) ∧ r = 1) ∨ ((v < 0 ∨ 3 ≤ v) ∧ r = 0)) ∧ σ9 = σ) (QW D cA ad o) (FA ad sz)) 0 0 (FA ad sz) := by
  refine ct_of (own := RX8) (k := 1) (Qf := va_Qi (fun r σ9 => (((¬ (v < 0 ∨ 3 ≤ v)) ∧ r = 1) ∨ ((v < 0 ∨ 3 ≤ v) ∧ r = 0)) ∧ σ9 = σ) (QW D cA ad o)) rfl (by decide) (Nat.le_of_ble_eq_true rfl) (fun p e s m below meth c ls C0 X hr hlk hP hl => ?_) sz
  have hS : va_S (FA ad s.heap.size) s.heap s.heap [] := va_S.rf
  have hl : lv_has ls 1 [(0, .int v)] := hl
  obtain ⟨hx, hb, hml, hown, hts⟩ := id C0
  refine lv_iload_n hx hb dX8_isVillage_0 rfl (lv_at hl 0 rfl) ?_
  refine lv_i2l (v := (v.toInt64)) hx hb dX8_isVillage_1 rfl ?_
  refine lv_lconst (v := ((0 : Int32).toInt64)) hx hb dX8_isVillage_2 (by decide) ?_
  refine lv_ldc2 (own := RX8) (index := 59) (v := 2) hx hb hown (hts _ (tm 1140 (by decide +kernel) (by decide +kernel))) dX8_isVillage_3 ?_
  refine lv_topEl (y := ((2 : Int32).toInt64)) (by decide) ?_
  refine r_ci X hS (r_runS (As := [.long (v.toInt64), .long ((0 : Int32).toInt64), .long ((2 : Int32).toInt64)]) (rest := []) C0 X hP L_X8_53 (fun sz => c_X8_isIn l D cA ad o σ v 0 2 sz) ⟨Nat.le_of_ble_eq_true rfl, Nat.le_of_ble_eq_true rfl⟩ rfl hl.1 rfl (Nat.le_of_ble_eq_true rfl) dX8_isVillage_6 ⟨Nat.zero_le _, Nat.zero_le _⟩) (fun r σ9 H locs hw hP hS => ?_)
  rw [hw.2] at hP
  obtain ⟨⟨b_1, rfl⟩ | ⟨b_1, rfl⟩, -⟩ := hw
  · have p_2 : ¬ v < 0 := Int32.not_lt.mpr b_1.1
    have p_3 : ¬ 2 < v := Int32.not_lt.mpr b_1.2
    have p_4 : ¬ 3 ≤ v := nsucc (by decide) p_3
    exact r_zret C0 X hP hS hr hlk dX8_isVillage_9 (Or.inr rfl) ⟨Or.inl ⟨fun z => z.elim p_2 p_4, rfl⟩, rfl⟩
  · have p_5 : v < 0 ∨ 3 ≤ v := osucc (by decide) b_1
    exact r_zret C0 X hP hS hr hlk dX8_isVillage_9 (Or.inl rfl) ⟨Or.inr ⟨p_5, rfl⟩, rfl⟩
theorem dX8_isPiece_0 : decode cX8_isPiece 0 = .ok (.iload_n 1, 1) := by decide +kernel
theorem dX8_isPiece_1 : decode cX8_isPiece 1 = .ok (.i2l, 1) := by decide +kernel
theorem dX8_isPiece_2 : decode cX8_isPiece 2 = .ok (.lconst 0, 1) := by decide +kernel
theorem dX8_isPiece_3 : decode cX8_isPiece 3 = .ok (.aload_n 0, 1) := by decide +kernel
theorem dX8_isPiece_4 : decode cX8_isPiece 4 = .ok (.getfield 9, 3) := by decide +kernel
theorem dX8_isPiece_7 : decode cX8_isPiece 7 = .ok (.iconst 0, 1) := by decide +kernel
theorem dX8_isPiece_8 : decode cX8_isPiece 8 = .ok (.iaload, 1) := by decide +kernel
theorem dX8_isPiece_9 : decode cX8_isPiece 9 = .ok (.iconst 1, 1) := by decide +kernel
theorem dX8_isPiece_10 : decode cX8_isPiece 10 = .ok (.isub, 1) := by decide +kernel
theorem dX8_isPiece_11 : decode cX8_isPiece 11 = .ok (.i2l, 1) := by decide +kernel
theorem dX8_isPiece_12 : decode cX8_isPiece 12 = .ok (.invokestatic 53, 3) := by decide +kernel
theorem dX8_isPiece_15 : decode cX8_isPiece 15 = .ok (.ireturn, 1) := by decide +kernel
set_option maxHeartbeats 4000000 in
set_option maxRecDepth 100000 in
theorem c_X8_isPiece0 (l : Launch) (D : va_G) (cA : Nat → ClassId) (ad : Nat → Nat) (o : Int64) (σ : Mem) (a : Int32) (hF : FrM σ) (sz : Nat) : Met l yX8_isPiece (WY yX8_isPiece cX8_isPiece 2 (some .boolean)) (RM 1) (va_Pc [.ref (ad 91), .int a] (PW D cA ad o σ sz)) (va_Qi (fun r σ9 => r = 0 ∧ σ9 = σ) (QW D cA ad o) (FA ad sz)) 0 0 (FA ad sz) := by
  refine ct_of (own := RX8) (k := 1) (Qf := va_Qi (fun r σ9 => r = 0 ∧ σ9 = σ) (QW D cA ad o)) rfl (by decide) (Nat.le_of_ble_eq_true rfl) (fun p e s m below meth c ls C0 X hr hlk hP hl => ?_) sz
  have hS : va_S (FA ad s.heap.size) s.heap s.heap [] := va_S.rf
  have hl : lv_has ls 2 [(0, .ref (ad 91)), (1, .int a)] := hl
  obtain ⟨hx, hb, hml, hown, hts⟩ := id C0
  refine lv_iload_n hx hb dX8_isPiece_0 rfl (lv_at hl 1 rfl) ?_
  refine lv_i2l (v := (a.toInt64)) hx hb dX8_isPiece_1 rfl ?_
  refine lv_lconst (v := ((0 : Int32).toInt64)) hx hb dX8_isPiece_2 (by decide) ?_
  refine lv_aload_n hx hb dX8_isPiece_3 rfl (lv_at hl 0 rfl) ?_
  refine gf_X8_9 C0 X hP 91 (q := 92) ⟨by decide, rfl⟩ (by omega) rfl dX8_isPiece_4 ?_
  refine lv_iconst (v := 0) hx hb dX8_isPiece_7 (by decide) ?_
  refine r_ialdN C0 X hP 92 (k := 0) ⟨by decide, rfl⟩ rfl (by decide) dX8_isPiece_8 ?_
  refine lv_topE (y := 0) (FrM_s hF (by decide)) ?_
  refine lv_iconst (v := 1) hx hb dX8_isPiece_9 (by decide) ?_
  refine lv_isub hx hb dX8_isPiece_10 ?_
  refine lv_topE (y := (-1)) (by decide) ?_
  refine lv_i2l (v := (((-1) : Int32).toInt64)) hx hb dX8_isPiece_11 rfl ?_
  refine r_ci X hS (r_runS (As := [.long (a.toInt64), .long ((0 : Int32).toInt64), .long (((-1) : Int32).toInt64)]) (rest := []) C0 X hP L_X8_53 (fun sz => c_X8_isIn l D cA ad o σ a 0 (-1) sz) ⟨Nat.le_of_ble_eq_true rfl, Nat.le_of_ble_eq_true rfl⟩ rfl hl.1 rfl (Nat.le_of_ble_eq_true rfl) dX8_isPiece_12 ⟨Nat.zero_le _, Nat.zero_le _⟩) (fun r σ9 H locs hw hP hS => ?_)
  rw [hw.2] at hP
  obtain ⟨⟨b_1, rfl⟩ | ⟨b_1, rfl⟩, -⟩ := hw
  · exact absurd b_1 no01
  · have p_2 : a < 0 ∨ 0 ≤ a := osucc (by decide) b_1
    exact r_zret C0 X hP hS hr hlk dX8_isPiece_15 (Or.inl rfl) ⟨rfl, rfl⟩
theorem dX8_isCart_0 : decode cX8_isCart 0 = .ok (.iload_n 1, 1) := by decide +kernel
theorem dX8_isCart_1 : decode cX8_isCart 1 = .ok (.i2l, 1) := by decide +kernel
theorem dX8_isCart_2 : decode cX8_isCart 2 = .ok (.lconst 0, 1) := by decide +kernel
theorem dX8_isCart_3 : decode cX8_isCart 3 = .ok (.aload_n 0, 1) := by decide +kernel
theorem dX8_isCart_4 : decode cX8_isCart 4 = .ok (.getfield 9, 3) := by decide +kernel
theorem dX8_isCart_7 : decode cX8_isCart 7 = .ok (.iconst 1, 1) := by decide +kernel
theorem dX8_isCart_8 : decode cX8_isCart 8 = .ok (.iaload, 1) := by decide +kernel
theorem dX8_isCart_9 : decode cX8_isCart 9 = .ok (.iconst 1, 1) := by decide +kernel
theorem dX8_isCart_10 : decode cX8_isCart 10 = .ok (.isub, 1) := by decide +kernel
theorem dX8_isCart_11 : decode cX8_isCart 11 = .ok (.i2l, 1) := by decide +kernel
theorem dX8_isCart_12 : decode cX8_isCart 12 = .ok (.invokestatic 53, 3) := by decide +kernel
theorem dX8_isCart_15 : decode cX8_isCart 15 = .ok (.ireturn, 1) := by decide +kernel
set_option maxHeartbeats 4000000 in
set_option maxRecDepth 100000 in
theorem c_X8_isCart0 (l : Launch) (D : va_G) (cA : Nat → ClassId) (ad : Nat → Nat) (o : Int64) (σ : Mem) (a : Int32) (hF : FrM σ) (sz : Nat) : Met l yX8_isCart (WY yX8_isCart cX8_isCart 2 (some .boolean)) (RM 1) (va_Pc [.ref (ad 91), .int a] (PW D cA ad o σ sz)) (va_Qi (fun r σ9 => r = 0 ∧ σ9 = σ) (QW D cA ad o) (FA ad sz)) 0 0 (FA ad sz) := by
  refine ct_of (own := RX8) (k := 1) (Qf := va_Qi (fun r σ9 => r = 0 ∧ σ9 = σ) (QW D cA ad o)) rfl (by decide) (Nat.le_of_ble_eq_true rfl) (fun p e s m below meth c ls C0 X hr hlk hP hl => ?_) sz
  have hS : va_S (FA ad s.heap.size) s.heap s.heap [] := va_S.rf
  have hl : lv_has ls 2 [(0, .ref (ad 91)), (1, .int a)] := hl
  obtain ⟨hx, hb, hml, hown, hts⟩ := id C0
  refine lv_iload_n hx hb dX8_isCart_0 rfl (lv_at hl 1 rfl) ?_
  refine lv_i2l (v := (a.toInt64)) hx hb dX8_isCart_1 rfl ?_
  refine lv_lconst (v := ((0 : Int32).toInt64)) hx hb dX8_isCart_2 (by decide) ?_
  refine lv_aload_n hx hb dX8_isCart_3 rfl (lv_at hl 0 rfl) ?_
  refine gf_X8_9 C0 X hP 91 (q := 92) ⟨by decide, rfl⟩ (by omega) rfl dX8_isCart_4 ?_
  refine lv_iconst (v := 1) hx hb dX8_isCart_7 (by decide) ?_
  refine r_ialdN C0 X hP 92 (k := 1) ⟨by decide, rfl⟩ rfl (by decide) dX8_isCart_8 ?_
  refine lv_topE (y := 0) (FrM_s hF (by decide)) ?_
  refine lv_iconst (v := 1) hx hb dX8_isCart_9 (by decide) ?_
  refine lv_isub hx hb dX8_isCart_10 ?_
  refine lv_topE (y := (-1)) (by decide) ?_
  refine lv_i2l (v := (((-1) : Int32).toInt64)) hx hb dX8_isCart_11 rfl ?_
  refine r_ci X hS (r_runS (As := [.long (a.toInt64), .long ((0 : Int32).toInt64), .long (((-1) : Int32).toInt64)]) (rest := []) C0 X hP L_X8_53 (fun sz => c_X8_isIn l D cA ad o σ a 0 (-1) sz) ⟨Nat.le_of_ble_eq_true rfl, Nat.le_of_ble_eq_true rfl⟩ rfl hl.1 rfl (Nat.le_of_ble_eq_true rfl) dX8_isCart_12 ⟨Nat.zero_le _, Nat.zero_le _⟩) (fun r σ9 H locs hw hP hS => ?_)
  rw [hw.2] at hP
  obtain ⟨⟨b_1, rfl⟩ | ⟨b_1, rfl⟩, -⟩ := hw
  · exact absurd b_1 no01
  · have p_2 : a < 0 ∨ 0 ≤ a := osucc (by decide) b_1
    exact r_zret C0 X hP hS hr hlk dX8_isCart_15 (Or.inl rfl) ⟨rfl, rfl⟩
theorem dX8_wrongRow_0 : decode cX8_wrongRow 0 = .ok (.iload_n 1, 1) := by decide +kernel
theorem dX8_wrongRow_1 : decode cX8_wrongRow 1 = .ok (.invokestatic 105, 3) := by decide +kernel
theorem dX8_wrongRow_4 : decode cX8_wrongRow 4 = .ok (.ifCond .ne 7, 3) := by decide +kernel
theorem dX8_wrongRow_7 : decode cX8_wrongRow 7 = .ok (.iconst (-1), 1) := by decide +kernel
theorem dX8_wrongRow_8 : decode cX8_wrongRow 8 = .ok (.goto 47, 3) := by decide +kernel
theorem dX8_wrongRow_11 : decode cX8_wrongRow 11 = .ok (.aload_n 0, 1) := by decide +kernel
theorem dX8_wrongRow_12 : decode cX8_wrongRow 12 = .ok (.getfield 22, 3) := by decide +kernel
theorem dX8_wrongRow_15 : decode cX8_wrongRow 15 = .ok (.iload_n 1, 1) := by decide +kernel
theorem dX8_wrongRow_16 : decode cX8_wrongRow 16 = .ok (.iaload, 1) := by decide +kernel
theorem dX8_wrongRow_17 : decode cX8_wrongRow 17 = .ok (.ifCond .ne 8, 3) := by decide +kernel
theorem dX8_wrongRow_20 : decode cX8_wrongRow 20 = .ok (.bipush (-11), 2) := by decide +kernel
theorem dX8_wrongRow_22 : decode cX8_wrongRow 22 = .ok (.goto 33, 3) := by decide +kernel
theorem dX8_wrongRow_25 : decode cX8_wrongRow 25 = .ok (.aload_n 0, 1) := by decide +kernel
theorem dX8_wrongRow_26 : decode cX8_wrongRow 26 = .ok (.getfield 22, 3) := by decide +kernel
theorem dX8_wrongRow_29 : decode cX8_wrongRow 29 = .ok (.iload_n 1, 1) := by decide +kernel
theorem dX8_wrongRow_30 : decode cX8_wrongRow 30 = .ok (.iaload, 1) := by decide +kernel
theorem dX8_wrongRow_31 : decode cX8_wrongRow 31 = .ok (.iconst 2, 1) := by decide +kernel
theorem dX8_wrongRow_32 : decode cX8_wrongRow 32 = .ok (.if_icmp .ne 17, 3) := by decide +kernel
theorem dX8_wrongRow_35 : decode cX8_wrongRow 35 = .ok (.iload_n 2, 1) := by decide +kernel
theorem dX8_wrongRow_36 : decode cX8_wrongRow 36 = .ok (.ifCond .lt 18, 3) := by decide +kernel
theorem dX8_wrongRow_39 : decode cX8_wrongRow 39 = .ok (.aload_n 0, 1) := by decide +kernel
theorem dX8_wrongRow_40 : decode cX8_wrongRow 40 = .ok (.getfield 25, 3) := by decide +kernel
theorem dX8_wrongRow_43 : decode cX8_wrongRow 43 = .ok (.iload_n 1, 1) := by decide +kernel
theorem dX8_wrongRow_44 : decode cX8_wrongRow 44 = .ok (.iaload, 1) := by decide +kernel
theorem dX8_wrongRow_45 : decode cX8_wrongRow 45 = .ok (.iload_n 2, 1) := by decide +kernel
theorem dX8_wrongRow_46 : decode cX8_wrongRow 46 = .ok (.if_icmp .eq 8, 3) := by decide +kernel
theorem dX8_wrongRow_49 : decode cX8_wrongRow 49 = .ok (.bipush (-12), 2) := by decide +kernel
theorem dX8_wrongRow_51 : decode cX8_wrongRow 51 = .ok (.goto 4, 3) := by decide +kernel
theorem dX8_wrongRow_54 : decode cX8_wrongRow 54 = .ok (.iconst 0, 1) := by decide +kernel
theorem dX8_wrongRow_55 : decode cX8_wrongRow 55 = .ok (.ireturn, 1) := by decide +kernel
set_option maxHeartbeats 4000000 in
set_option maxRecDepth 100000 in
theorem c_X8_wrongRow0 (l : Launch) (D : va_G) (cA : Nat → ClassId) (ad : Nat → Nat) (o : Int64) (σ : Mem) (d : Int32) (w : Int32) (hF : FrM σ) (sz : Nat) : Met l yX8_wrongRow (WY yX8_wrongRow cX8_wrongRow 3 (some .int)) (RM 2) (va_Pc [.ref (ad 91), .int d, .int w] (PW D cA ad o σ sz)) (va_Qi (fun r σ9 => (((d < 0 ∨ 8 ≤ d) ∧ r = -1) ∨ (¬ (d < 0 ∨ 8 ≤ d) ∧ r = -11)) ∧ σ9 = σ) (QW D cA ad o) (FA ad sz)) 0 0 (FA ad sz) := by
  refine ct_of (own := RX8) (k := 2) (Qf := va_Qi (fun r σ9 => (((d < 0 ∨ 8 ≤ d) ∧ r = -1) ∨ (¬ (d < 0 ∨ 8 ≤ d) ∧ r = -11)) ∧ σ9 = σ) (QW D cA ad o)) rfl (by decide) (Nat.le_of_ble_eq_true rfl) (fun p e s m below meth c ls C0 X hr hlk hP hl => ?_) sz
  have hS : va_S (FA ad s.heap.size) s.heap s.heap [] := va_S.rf
  have hl : lv_has ls 3 [(0, .ref (ad 91)), (1, .int d), (2, .int w)] := hl
  obtain ⟨hx, hb, hml, hown, hts⟩ := id C0
  refine lv_iload_n hx hb dX8_wrongRow_0 rfl (lv_at hl 1 rfl) ?_
  refine r_ci X hS (r_runS (As := [.int d]) (rest := []) C0 X hP L_X8_105 (fun sz => c_X8_isShelf l D cA ad o σ d  sz) ⟨Nat.le_of_ble_eq_true rfl, Nat.le_of_ble_eq_true rfl⟩ rfl hl.1 rfl (Nat.le_of_ble_eq_true rfl) dX8_wrongRow_1 ⟨Nat.zero_le _, Nat.zero_le _⟩) (fun r σ9 H locs hw hP hS => ?_)
  rw [hw.2] at hP
  obtain ⟨⟨b_1, rfl⟩ | ⟨b_1, rfl⟩, -⟩ := hw
  · refine lv_if_ne (tgt := 11) hx hb dX8_wrongRow_4 (by decide) (fun c_2 => ?_) (fun c_2 => absurd c_2 (by decide))
    obtain ⟨j1, hj1, ej1⟩ := shin b_1
    refine lv_aload_n hx hb dX8_wrongRow_11 rfl (lv_at hl 0 rfl) ?_
    refine gf_X8_22 C0 X hP 91 (q := 96) ⟨by decide, rfl⟩ (by omega) rfl dX8_wrongRow_12 ?_
    refine lv_iload_n hx hb dX8_wrongRow_15 rfl (lv_at hl 1 rfl) ?_
    refine r_ialdN C0 X hP 96 (k := j1) ⟨by decide, rfl⟩ ej1 hj1 dX8_wrongRow_16 ?_
    refine lv_topE (y := 0) (FrM_kept hF hj1) ?_
    refine lv_if_ne (tgt := 25) hx hb dX8_wrongRow_17 (by decide) (fun c_3 => absurd c_3 (by decide)) (fun c_3 => ?_)
    refine lv_bipush (v := (-11)) hx hb dX8_wrongRow_20 (by decide) ?_
    refine lv_goto (tgt := 55) hx hb dX8_wrongRow_22 (by decide) ?_
    exact r_iret C0 X hP hS hr hlk dX8_wrongRow_55 ⟨Or.inr ⟨b_1, rfl⟩, rfl⟩
  · refine lv_if_ne (tgt := 11) hx hb dX8_wrongRow_4 (by decide) (fun c_4 => absurd c_4 (by decide)) (fun c_4 => ?_)
    refine lv_iconst (v := (-1)) hx hb dX8_wrongRow_7 (by decide) ?_
    refine lv_goto (tgt := 55) hx hb dX8_wrongRow_8 (by decide) ?_
    exact r_iret C0 X hP hS hr hlk dX8_wrongRow_55 ⟨Or.inl ⟨b_1, rfl⟩, rfl⟩
theorem dX8_wrongRule_0 : decode cX8_wrongRule 0 = .ok (.iload_n 1, 1) := by decide +kernel
theorem dX8_wrongRule_1 : decode cX8_wrongRule 1 = .ok (.invokestatic 105, 3) := by decide +kernel
theorem dX8_wrongRule_4 : decode cX8_wrongRule 4 = .ok (.ifCond .ne 7, 3) := by decide +kernel
theorem dX8_wrongRule_7 : decode cX8_wrongRule 7 = .ok (.iconst (-1), 1) := by decide +kernel
theorem dX8_wrongRule_8 : decode cX8_wrongRule 8 = .ok (.goto 33, 3) := by decide +kernel
theorem dX8_wrongRule_11 : decode cX8_wrongRule 11 = .ok (.aload_n 0, 1) := by decide +kernel
theorem dX8_wrongRule_12 : decode cX8_wrongRule 12 = .ok (.getfield 22, 3) := by decide +kernel
theorem dX8_wrongRule_15 : decode cX8_wrongRule 15 = .ok (.iload_n 1, 1) := by decide +kernel
theorem dX8_wrongRule_16 : decode cX8_wrongRule 16 = .ok (.iaload, 1) := by decide +kernel
theorem dX8_wrongRule_17 : decode cX8_wrongRule 17 = .ok (.ifCond .ne 8, 3) := by decide +kernel
theorem dX8_wrongRule_20 : decode cX8_wrongRule 20 = .ok (.bipush (-11), 2) := by decide +kernel
theorem dX8_wrongRule_22 : decode cX8_wrongRule 22 = .ok (.goto 19, 3) := by decide +kernel
theorem dX8_wrongRule_25 : decode cX8_wrongRule 25 = .ok (.aload_n 0, 1) := by decide +kernel
theorem dX8_wrongRule_26 : decode cX8_wrongRule 26 = .ok (.getfield 22, 3) := by decide +kernel
theorem dX8_wrongRule_29 : decode cX8_wrongRule 29 = .ok (.iload_n 1, 1) := by decide +kernel
theorem dX8_wrongRule_30 : decode cX8_wrongRule 30 = .ok (.iaload, 1) := by decide +kernel
theorem dX8_wrongRule_31 : decode cX8_wrongRule 31 = .ok (.iconst 1, 1) := by decide +kernel
theorem dX8_wrongRule_32 : decode cX8_wrongRule 32 = .ok (.if_icmp .ne 7, 3) := by decide +kernel
theorem dX8_wrongRule_35 : decode cX8_wrongRule 35 = .ok (.iconst 0, 1) := by decide +kernel
theorem dX8_wrongRule_36 : decode cX8_wrongRule 36 = .ok (.goto 5, 3) := by decide +kernel
theorem dX8_wrongRule_39 : decode cX8_wrongRule 39 = .ok (.bipush (-12), 2) := by decide +kernel
theorem dX8_wrongRule_41 : decode cX8_wrongRule 41 = .ok (.ireturn, 1) := by decide +kernel
set_option maxHeartbeats 4000000 in
set_option maxRecDepth 100000 in
theorem c_X8_wrongRule0 (l : Launch) (D : va_G) (cA : Nat → ClassId) (ad : Nat → Nat) (o : Int64) (σ : Mem) (d : Int32) (hF : FrM σ) (sz : Nat) : Met l yX8_wrongRule (WY yX8_wrongRule cX8_wrongRule 2 (some .int)) (RM 2) (va_Pc [.ref (ad 91), .int d] (PW D cA ad o σ sz)) (va_Qi (fun r σ9 => (((d < 0 ∨ 8 ≤ d) ∧ r = -1) ∨ (¬ (d < 0 ∨ 8 ≤ d) ∧ r = -11)) ∧ σ9 = σ) (QW D cA ad o) (FA ad sz)) 0 0 (FA ad sz) := by
  refine ct_of (own := RX8) (k := 2) (Qf := va_Qi (fun r σ9 => (((d < 0 ∨ 8 ≤ d) ∧ r = -1) ∨ (¬ (d < 0 ∨ 8 ≤ d) ∧ r = -11)) ∧ σ9 = σ) (QW D cA ad o)) rfl (by decide) (Nat.le_of_ble_eq_true rfl) (fun p e s m below meth c ls C0 X hr hlk hP hl => ?_) sz
  have hS : va_S (FA ad s.heap.size) s.heap s.heap [] := va_S.rf
  have hl : lv_has ls 2 [(0, .ref (ad 91)), (1, .int d)] := hl
  obtain ⟨hx, hb, hml, hown, hts⟩ := id C0
  refine lv_iload_n hx hb dX8_wrongRule_0 rfl (lv_at hl 1 rfl) ?_
  refine r_ci X hS (r_runS (As := [.int d]) (rest := []) C0 X hP L_X8_105 (fun sz => c_X8_isShelf l D cA ad o σ d  sz) ⟨Nat.le_of_ble_eq_true rfl, Nat.le_of_ble_eq_true rfl⟩ rfl hl.1 rfl (Nat.le_of_ble_eq_true rfl) dX8_wrongRule_1 ⟨Nat.zero_le _, Nat.zero_le _⟩) (fun r σ9 H locs hw hP hS => ?_)
  rw [hw.2] at hP
  obtain ⟨⟨b_1, rfl⟩ | ⟨b_1, rfl⟩, -⟩ := hw
  · refine lv_if_ne (tgt := 11) hx hb dX8_wrongRule_4 (by decide) (fun c_2 => ?_) (fun c_2 => absurd c_2 (by decide))
    obtain ⟨j1, hj1, ej1⟩ := shin b_1
    refine lv_aload_n hx hb dX8_wrongRule_11 rfl (lv_at hl 0 rfl) ?_
    refine gf_X8_22 C0 X hP 91 (q := 96) ⟨by decide, rfl⟩ (by omega) rfl dX8_wrongRule_12 ?_
    refine lv_iload_n hx hb dX8_wrongRule_15 rfl (lv_at hl 1 rfl) ?_
    refine r_ialdN C0 X hP 96 (k := j1) ⟨by decide, rfl⟩ ej1 hj1 dX8_wrongRule_16 ?_
    refine lv_topE (y := 0) (FrM_kept hF hj1) ?_
    refine lv_if_ne (tgt := 25) hx hb dX8_wrongRule_17 (by decide) (fun c_3 => absurd c_3 (by decide)) (fun c_3 => ?_)
    refine lv_bipush (v := (-11)) hx hb dX8_wrongRule_20 (by decide) ?_
    refine lv_goto (tgt := 41) hx hb dX8_wrongRule_22 (by decide) ?_
    exact r_iret C0 X hP hS hr hlk dX8_wrongRule_41 ⟨Or.inr ⟨b_1, rfl⟩, rfl⟩
  · refine lv_if_ne (tgt := 11) hx hb dX8_wrongRule_4 (by decide) (fun c_4 => absurd c_4 (by decide)) (fun c_4 => ?_)
    refine lv_iconst (v := (-1)) hx hb dX8_wrongRule_7 (by decide) ?_
    refine lv_goto (tgt := 41) hx hb dX8_wrongRule_8 (by decide) ?_
    exact r_iret C0 X hP hS hr hlk dX8_wrongRule_41 ⟨Or.inl ⟨b_1, rfl⟩, rfl⟩
theorem dX8_isEmpty_0 : decode cX8_isEmpty 0 = .ok (.aload_n 0, 1) := by decide +kernel
theorem dX8_isEmpty_1 : decode cX8_isEmpty 1 = .ok (.getfield 9, 3) := by decide +kernel
theorem dX8_isEmpty_4 : decode cX8_isEmpty 4 = .ok (.iconst 0, 1) := by decide +kernel
theorem dX8_isEmpty_5 : decode cX8_isEmpty 5 = .ok (.iaload, 1) := by decide +kernel
theorem dX8_isEmpty_6 : decode cX8_isEmpty 6 = .ok (.ifCond .eq 12, 3) := by decide +kernel
theorem dX8_isEmpty_9 : decode cX8_isEmpty 9 = .ok (.aload_n 0, 1) := by decide +kernel
theorem dX8_isEmpty_10 : decode cX8_isEmpty 10 = .ok (.getfield 9, 3) := by decide +kernel
theorem dX8_isEmpty_13 : decode cX8_isEmpty 13 = .ok (.iconst 1, 1) := by decide +kernel
theorem dX8_isEmpty_14 : decode cX8_isEmpty 14 = .ok (.iaload, 1) := by decide +kernel
theorem dX8_isEmpty_15 : decode cX8_isEmpty 15 = .ok (.ifCond .ne 7, 3) := by decide +kernel
theorem dX8_isEmpty_18 : decode cX8_isEmpty 18 = .ok (.iconst 1, 1) := by decide +kernel
theorem dX8_isEmpty_19 : decode cX8_isEmpty 19 = .ok (.goto 4, 3) := by decide +kernel
theorem dX8_isEmpty_22 : decode cX8_isEmpty 22 = .ok (.iconst 0, 1) := by decide +kernel
theorem dX8_isEmpty_23 : decode cX8_isEmpty 23 = .ok (.ireturn, 1) := by decide +kernel
set_option maxHeartbeats 4000000 in
set_option maxRecDepth 100000 in
theorem c_X8_isEmpty0 (l : Launch) (D : va_G) (cA : Nat → ClassId) (ad : Nat → Nat) (o : Int64) (σ : Mem)  (hF : FrM σ) (sz : Nat) : Met l yX8_isEmpty (WY yX8_isEmpty cX8_isEmpty 1 (some .boolean)) (RM 0) (va_Pc [.ref (ad 91)] (PW D cA ad o σ sz)) (va_Qi (fun r σ9 => r = 1 ∧ σ9 = σ) (QW D cA ad o) (FA ad sz)) 0 0 (FA ad sz) := by
  refine ct_of (own := RX8) (k := 0) (Qf := va_Qi (fun r σ9 => r = 1 ∧ σ9 = σ) (QW D cA ad o)) rfl (by decide) (Nat.le_of_ble_eq_true rfl) (fun p e s m below meth c ls C0 X hr hlk hP hl => ?_) sz
  have hS : va_S (FA ad s.heap.size) s.heap s.heap [] := va_S.rf
  have hl : lv_has ls 1 [(0, .ref (ad 91))] := hl
  obtain ⟨hx, hb, hml, hown, hts⟩ := id C0
  refine lv_aload_n hx hb dX8_isEmpty_0 rfl (lv_at hl 0 rfl) ?_
  refine gf_X8_9 C0 X hP 91 (q := 92) ⟨by decide, rfl⟩ (by omega) rfl dX8_isEmpty_1 ?_
  refine lv_iconst (v := 0) hx hb dX8_isEmpty_4 (by decide) ?_
  refine r_ialdN C0 X hP 92 (k := 0) ⟨by decide, rfl⟩ rfl (by decide) dX8_isEmpty_5 ?_
  refine lv_topE (y := 0) (FrM_s hF (by decide)) ?_
  refine lv_if_eq (tgt := 18) hx hb dX8_isEmpty_6 (by decide) (fun c_1 => ?_) (fun c_1 => absurd c_1 (by decide))
  refine lv_iconst (v := 1) hx hb dX8_isEmpty_18 (by decide) ?_
  refine lv_goto (tgt := 23) hx hb dX8_isEmpty_19 (by decide) ?_
  exact r_zret C0 X hP hS hr hlk dX8_isEmpty_23 (Or.inr rfl) ⟨rfl, rfl⟩
theorem dX8_allOf_0 : decode cX8_allOf 0 = .ok (.iconst 0, 1) := by decide +kernel
theorem dX8_allOf_1 : decode cX8_allOf 1 = .ok (.istore_n 2, 1) := by decide +kernel
theorem dX8_allOf_2 : decode cX8_allOf 2 = .ok (.iconst 0, 1) := by decide +kernel
theorem dX8_allOf_3 : decode cX8_allOf 3 = .ok (.istore_n 3, 1) := by decide +kernel
theorem dX8_allOf_4 : decode cX8_allOf 4 = .ok (.iload_n 3, 1) := by decide +kernel
theorem dX8_allOf_5 : decode cX8_allOf 5 = .ok (.aload_n 0, 1) := by decide +kernel
theorem dX8_allOf_6 : decode cX8_allOf 6 = .ok (.iconst 1, 1) := by decide +kernel
theorem dX8_allOf_7 : decode cX8_allOf 7 = .ok (.iaload, 1) := by decide +kernel
theorem dX8_allOf_8 : decode cX8_allOf 8 = .ok (.if_icmp .ge 18, 3) := by decide +kernel
theorem dX8_allOf_11 : decode cX8_allOf 11 = .ok (.iload_n 2, 1) := by decide +kernel
theorem dX8_allOf_12 : decode cX8_allOf 12 = .ok (.aload_n 0, 1) := by decide +kernel
theorem dX8_allOf_13 : decode cX8_allOf 13 = .ok (.iload_n 3, 1) := by decide +kernel
theorem dX8_allOf_14 : decode cX8_allOf 14 = .ok (.iload_n 1, 1) := by decide +kernel
theorem dX8_allOf_15 : decode cX8_allOf 15 = .ok (.invokestatic 130, 3) := by decide +kernel
theorem dX8_allOf_18 : decode cX8_allOf 18 = .ok (.iadd, 1) := by decide +kernel
theorem dX8_allOf_19 : decode cX8_allOf 19 = .ok (.istore_n 2, 1) := by decide +kernel
theorem dX8_allOf_20 : decode cX8_allOf 20 = .ok (.iinc 3 1, 3) := by decide +kernel
theorem dX8_allOf_23 : decode cX8_allOf 23 = .ok (.goto (-19), 3) := by decide +kernel
theorem dX8_allOf_26 : decode cX8_allOf 26 = .ok (.iload_n 2, 1) := by decide +kernel
theorem dX8_allOf_27 : decode cX8_allOf 27 = .ok (.ireturn, 1) := by decide +kernel
set_option maxHeartbeats 4000000 in
set_option maxRecDepth 100000 in
theorem c_X8_allOf0 (l : Launch) (D : va_G) (cA : Nat → ClassId) (ad : Nat → Nat) (o : Int64) (σ : Mem) (kk : Unit) (w : Int32) (hF : FrM σ) (sz : Nat) : Met l yX8_allOf (WY yX8_allOf cX8_allOf 4 (some .int)) (RM 0) (va_Pc [.ref (ad 92), .int w] (PW D cA ad o σ sz)) (va_Qi (fun r σ9 => r = 0 ∧ σ9 = σ) (QW D cA ad o) (FA ad sz)) 0 0 (FA ad sz) := by
  refine ct_of (own := RX8) (k := 0) (Qf := va_Qi (fun r σ9 => r = 0 ∧ σ9 = σ) (QW D cA ad o)) rfl (by decide) (Nat.le_of_ble_eq_true rfl) (fun p e s m below meth c ls C0 X hr hlk hP hl => ?_) sz
  have hS : va_S (FA ad s.heap.size) s.heap s.heap [] := va_S.rf
  have hl : lv_has ls 4 [(0, .ref (ad 92)), (1, .int w)] := hl
  obtain ⟨hx, hb, hml, hown, hts⟩ := id C0
  refine lv_iconst (v := 0) hx hb dX8_allOf_0 (by decide) ?_
  refine lv_istore_n (lv' := [(2, .int 0), (0, .ref (ad 92)), (1, .int w)]) hx hb dX8_allOf_1 rfl hl (by decide) rfl (fun ls hl => ?_)
  refine lv_iconst (v := 0) hx hb dX8_allOf_2 (by decide) ?_
  refine lv_istore_n (lv' := [(3, .int 0), (2, .int 0), (0, .ref (ad 92)), (1, .int w)]) hx hb dX8_allOf_3 rfl hl (by decide) rfl (fun ls hl => ?_)
  refine lv_iload_n hx hb dX8_allOf_4 rfl (lv_at hl 0 rfl) ?_
  refine lv_aload_n hx hb dX8_allOf_5 rfl (lv_at hl 2 rfl) ?_
  refine lv_iconst (v := 1) hx hb dX8_allOf_6 (by decide) ?_
  refine r_ialdN C0 X hP 92 (k := 1) ⟨by decide, rfl⟩ rfl (by decide) dX8_allOf_7 ?_
  refine lv_topE (y := 0) (FrM_s hF (by decide)) ?_
  refine lv_icmp_ge (tgt := 26) hx hb dX8_allOf_8 (by decide) (fun c_1 => ?_) (fun c_1 => absurd c_1 (by decide))
  refine lv_iload_n hx hb dX8_allOf_26 rfl (lv_at hl 1 rfl) ?_
  exact r_iret C0 X hP hS hr hlk dX8_allOf_27 ⟨rfl, rfl⟩
theorem dX8_doneOf_0 : decode cX8_doneOf 0 = .ok (.iconst 0, 1) := by decide +kernel
theorem dX8_doneOf_1 : decode cX8_doneOf 1 = .ok (.istore_n 1, 1) := by decide +kernel
theorem dX8_doneOf_2 : decode cX8_doneOf 2 = .ok (.iconst 0, 1) := by decide +kernel
theorem dX8_doneOf_3 : decode cX8_doneOf 3 = .ok (.istore_n 2, 1) := by decide +kernel
theorem dX8_doneOf_4 : decode cX8_doneOf 4 = .ok (.iload_n 2, 1) := by decide +kernel
theorem dX8_doneOf_5 : decode cX8_doneOf 5 = .ok (.aload_n 0, 1) := by decide +kernel
theorem dX8_doneOf_6 : decode cX8_doneOf 6 = .ok (.iconst 1, 1) := by decide +kernel
theorem dX8_doneOf_7 : decode cX8_doneOf 7 = .ok (.iaload, 1) := by decide +kernel
theorem dX8_doneOf_8 : decode cX8_doneOf 8 = .ok (.if_icmp .ge 28, 3) := by decide +kernel
theorem dX8_doneOf_11 : decode cX8_doneOf 11 = .ok (.iload_n 1, 1) := by decide +kernel
theorem dX8_doneOf_12 : decode cX8_doneOf 12 = .ok (.aload_n 0, 1) := by decide +kernel
theorem dX8_doneOf_13 : decode cX8_doneOf 13 = .ok (.iload_n 2, 1) := by decide +kernel
theorem dX8_doneOf_14 : decode cX8_doneOf 14 = .ok (.iconst 5, 1) := by decide +kernel
theorem dX8_doneOf_15 : decode cX8_doneOf 15 = .ok (.invokestatic 130, 3) := by decide +kernel
theorem dX8_doneOf_18 : decode cX8_doneOf 18 = .ok (.bipush (-3), 2) := by decide +kernel
theorem dX8_doneOf_20 : decode cX8_doneOf 20 = .ok (.if_icmp .ne 7, 3) := by decide +kernel
theorem dX8_doneOf_23 : decode cX8_doneOf 23 = .ok (.iconst 1, 1) := by decide +kernel
theorem dX8_doneOf_24 : decode cX8_doneOf 24 = .ok (.goto 4, 3) := by decide +kernel
theorem dX8_doneOf_27 : decode cX8_doneOf 27 = .ok (.iconst 0, 1) := by decide +kernel
theorem dX8_doneOf_28 : decode cX8_doneOf 28 = .ok (.iadd, 1) := by decide +kernel
theorem dX8_doneOf_29 : decode cX8_doneOf 29 = .ok (.istore_n 1, 1) := by decide +kernel
theorem dX8_doneOf_30 : decode cX8_doneOf 30 = .ok (.iinc 2 1, 3) := by decide +kernel
theorem dX8_doneOf_33 : decode cX8_doneOf 33 = .ok (.goto (-29), 3) := by decide +kernel
theorem dX8_doneOf_36 : decode cX8_doneOf 36 = .ok (.iload_n 1, 1) := by decide +kernel
theorem dX8_doneOf_37 : decode cX8_doneOf 37 = .ok (.ireturn, 1) := by decide +kernel
set_option maxHeartbeats 4000000 in
set_option maxRecDepth 100000 in
theorem c_X8_doneOf0 (l : Launch) (D : va_G) (cA : Nat → ClassId) (ad : Nat → Nat) (o : Int64) (σ : Mem) (kk : Unit) (hF : FrM σ) (sz : Nat) : Met l yX8_doneOf (WY yX8_doneOf cX8_doneOf 3 (some .int)) (RM 0) (va_Pc [.ref (ad 92)] (PW D cA ad o σ sz)) (va_Qi (fun r σ9 => r = 0 ∧ σ9 = σ) (QW D cA ad o) (FA ad sz)) 0 0 (FA ad sz) := by
  refine ct_of (own := RX8) (k := 0) (Qf := va_Qi (fun r σ9 => r = 0 ∧ σ9 = σ) (QW D cA ad o)) rfl (by decide) (Nat.le_of_ble_eq_true rfl) (fun p e s m below meth c ls C0 X hr hlk hP hl => ?_) sz
  have hS : va_S (FA ad s.heap.size) s.heap s.heap [] := va_S.rf
  have hl : lv_has ls 3 [(0, .ref (ad 92))] := hl
  obtain ⟨hx, hb, hml, hown, hts⟩ := id C0
  refine lv_iconst (v := 0) hx hb dX8_doneOf_0 (by decide) ?_
  refine lv_istore_n (lv' := [(1, .int 0), (0, .ref (ad 92))]) hx hb dX8_doneOf_1 rfl hl (by decide) rfl (fun ls hl => ?_)
  refine lv_iconst (v := 0) hx hb dX8_doneOf_2 (by decide) ?_
  refine lv_istore_n (lv' := [(2, .int 0), (1, .int 0), (0, .ref (ad 92))]) hx hb dX8_doneOf_3 rfl hl (by decide) rfl (fun ls hl => ?_)
  refine lv_iload_n hx hb dX8_doneOf_4 rfl (lv_at hl 0 rfl) ?_
  refine lv_aload_n hx hb dX8_doneOf_5 rfl (lv_at hl 2 rfl) ?_
  refine lv_iconst (v := 1) hx hb dX8_doneOf_6 (by decide) ?_
  refine r_ialdN C0 X hP 92 (k := 1) ⟨by decide, rfl⟩ rfl (by decide) dX8_doneOf_7 ?_
  refine lv_topE (y := 0) (FrM_s hF (by decide)) ?_
  refine lv_icmp_ge (tgt := 36) hx hb dX8_doneOf_8 (by decide) (fun c_1 => ?_) (fun c_1 => absurd c_1 (by decide))
  refine lv_iload_n hx hb dX8_doneOf_36 rfl (lv_at hl 1 rfl) ?_
  exact r_iret C0 X hP hS hr hlk dX8_doneOf_37 ⟨rfl, rfl⟩
theorem dX8_stands_0 : decode cX8_stands 0 = .ok (.aload_n 0, 1) := by decide +kernel
theorem dX8_stands_1 : decode cX8_stands 1 = .ok (.iconst 3, 1) := by decide +kernel
theorem dX8_stands_2 : decode cX8_stands 2 = .ok (.iaload, 1) := by decide +kernel
theorem dX8_stands_3 : decode cX8_stands 3 = .ok (.bipush 60, 2) := by decide +kernel
theorem dX8_stands_5 : decode cX8_stands 5 = .ok (.if_icmp .lt 13, 3) := by decide +kernel
theorem dX8_stands_8 : decode cX8_stands 8 = .ok (.aload_n 0, 1) := by decide +kernel
theorem dX8_stands_9 : decode cX8_stands 9 = .ok (.invokestatic 212, 3) := by decide +kernel
theorem dX8_stands_12 : decode cX8_stands 12 = .ok (.aload_n 0, 1) := by decide +kernel
theorem dX8_stands_13 : decode cX8_stands 13 = .ok (.iconst 1, 1) := by decide +kernel
theorem dX8_stands_14 : decode cX8_stands 14 = .ok (.iaload, 1) := by decide +kernel
theorem dX8_stands_15 : decode cX8_stands 15 = .ok (.if_icmp .ne 5, 3) := by decide +kernel
theorem dX8_stands_18 : decode cX8_stands 18 = .ok (.iconst 0, 1) := by decide +kernel
theorem dX8_stands_19 : decode cX8_stands 19 = .ok (.ireturn, 1) := by decide +kernel
theorem dX8_stands_20 : decode cX8_stands 20 = .ok (.iconst 0, 1) := by decide +kernel
theorem dX8_stands_21 : decode cX8_stands 21 = .ok (.istore_n 1, 1) := by decide +kernel
theorem dX8_stands_22 : decode cX8_stands 22 = .ok (.iload_n 1, 1) := by decide +kernel
theorem dX8_stands_23 : decode cX8_stands 23 = .ok (.aload_n 0, 1) := by decide +kernel
theorem dX8_stands_24 : decode cX8_stands 24 = .ok (.iconst 1, 1) := by decide +kernel
theorem dX8_stands_25 : decode cX8_stands 25 = .ok (.iaload, 1) := by decide +kernel
theorem dX8_stands_26 : decode cX8_stands 26 = .ok (.if_icmp .ge 22, 3) := by decide +kernel
theorem dX8_stands_29 : decode cX8_stands 29 = .ok (.aload_n 0, 1) := by decide +kernel
theorem dX8_stands_30 : decode cX8_stands 30 = .ok (.iload_n 1, 1) := by decide +kernel
theorem dX8_stands_31 : decode cX8_stands 31 = .ok (.iconst 5, 1) := by decide +kernel
theorem dX8_stands_32 : decode cX8_stands 32 = .ok (.invokestatic 130, 3) := by decide +kernel
theorem dX8_stands_35 : decode cX8_stands 35 = .ok (.bipush (-2), 2) := by decide +kernel
theorem dX8_stands_37 : decode cX8_stands 37 = .ok (.if_icmp .ne 5, 3) := by decide +kernel
theorem dX8_stands_40 : decode cX8_stands 40 = .ok (.iconst 0, 1) := by decide +kernel
theorem dX8_stands_41 : decode cX8_stands 41 = .ok (.ireturn, 1) := by decide +kernel
theorem dX8_stands_42 : decode cX8_stands 42 = .ok (.iinc 1 1, 3) := by decide +kernel
theorem dX8_stands_45 : decode cX8_stands 45 = .ok (.goto (-23), 3) := by decide +kernel
theorem dX8_stands_48 : decode cX8_stands 48 = .ok (.iconst 1, 1) := by decide +kernel
theorem dX8_stands_49 : decode cX8_stands 49 = .ok (.ireturn, 1) := by decide +kernel
set_option maxHeartbeats 4000000 in
set_option maxRecDepth 100000 in
theorem c_X8_stands0 (l : Launch) (D : va_G) (cA : Nat → ClassId) (ad : Nat → Nat) (o : Int64) (σ : Mem) (kk : Unit) (hF : FrM σ) (sz : Nat) : Met l yX8_stands (WY yX8_stands cX8_stands 2 (some .boolean)) (RM 0) (va_Pc [.ref (ad 92)] (PW D cA ad o σ sz)) (va_Qi (fun r σ9 => r = 0 ∧ σ9 = σ) (QW D cA ad o) (FA ad sz)) 0 0 (FA ad sz) := by
  refine ct_of (own := RX8) (k := 0) (Qf := va_Qi (fun r σ9 => r = 0 ∧ σ9 = σ) (QW D cA ad o)) rfl (by decide) (Nat.le_of_ble_eq_true rfl) (fun p e s m below meth c ls C0 X hr hlk hP hl => ?_) sz
  have hS : va_S (FA ad s.heap.size) s.heap s.heap [] := va_S.rf
  have hl : lv_has ls 2 [(0, .ref (ad 92))] := hl
  obtain ⟨hx, hb, hml, hown, hts⟩ := id C0
  refine lv_aload_n hx hb dX8_stands_0 rfl (lv_at hl 0 rfl) ?_
  refine lv_iconst (v := 3) hx hb dX8_stands_1 (by decide) ?_
  refine r_ialdN C0 X hP 92 (k := 3) ⟨by decide, rfl⟩ rfl (by decide) dX8_stands_2 ?_
  refine lv_topE (y := 0) (FrM_s hF (by decide)) ?_
  refine lv_bipush (v := 60) hx hb dX8_stands_3 (by decide) ?_
  refine lv_icmp_lt (tgt := 18) hx hb dX8_stands_5 (by decide) (fun c_1 => ?_) (fun c_1 => absurd c_1 (by decide))
  refine lv_iconst (v := 0) hx hb dX8_stands_18 (by decide) ?_
  exact r_zret C0 X hP hS hr hlk dX8_stands_19 (Or.inl rfl) ⟨rfl, rfl⟩
theorem dX8_spotOf_0 : decode cX8_spotOf 0 = .ok (.iconst 0, 1) := by decide +kernel
theorem dX8_spotOf_1 : decode cX8_spotOf 1 = .ok (.istore_n 2, 1) := by decide +kernel
theorem dX8_spotOf_2 : decode cX8_spotOf 2 = .ok (.iconst 0, 1) := by decide +kernel
theorem dX8_spotOf_3 : decode cX8_spotOf 3 = .ok (.istore_n 3, 1) := by decide +kernel
theorem dX8_spotOf_4 : decode cX8_spotOf 4 = .ok (.iload_n 3, 1) := by decide +kernel
theorem dX8_spotOf_5 : decode cX8_spotOf 5 = .ok (.iload_n 1, 1) := by decide +kernel
theorem dX8_spotOf_6 : decode cX8_spotOf 6 = .ok (.if_icmp .ge 20, 3) := by decide +kernel
theorem dX8_spotOf_9 : decode cX8_spotOf 9 = .ok (.iload_n 2, 1) := by decide +kernel
theorem dX8_spotOf_10 : decode cX8_spotOf 10 = .ok (.aload_n 0, 1) := by decide +kernel
theorem dX8_spotOf_11 : decode cX8_spotOf 11 = .ok (.bipush 14, 2) := by decide +kernel
theorem dX8_spotOf_13 : decode cX8_spotOf 13 = .ok (.iconst 3, 1) := by decide +kernel
theorem dX8_spotOf_14 : decode cX8_spotOf 14 = .ok (.iload_n 3, 1) := by decide +kernel
theorem dX8_spotOf_15 : decode cX8_spotOf 15 = .ok (.imul, 1) := by decide +kernel
theorem dX8_spotOf_16 : decode cX8_spotOf 16 = .ok (.iadd, 1) := by decide +kernel
theorem dX8_spotOf_17 : decode cX8_spotOf 17 = .ok (.iaload, 1) := by decide +kernel
theorem dX8_spotOf_18 : decode cX8_spotOf 18 = .ok (.iadd, 1) := by decide +kernel
theorem dX8_spotOf_19 : decode cX8_spotOf 19 = .ok (.istore_n 2, 1) := by decide +kernel
theorem dX8_spotOf_20 : decode cX8_spotOf 20 = .ok (.iinc 3 1, 3) := by decide +kernel
theorem dX8_spotOf_23 : decode cX8_spotOf 23 = .ok (.goto (-19), 3) := by decide +kernel
theorem dX8_spotOf_26 : decode cX8_spotOf 26 = .ok (.iload_n 2, 1) := by decide +kernel
theorem dX8_spotOf_27 : decode cX8_spotOf 27 = .ok (.ireturn, 1) := by decide +kernel
set_option maxHeartbeats 4000000 in
set_option maxRecDepth 100000 in
theorem c_X8_spotOf0 (l : Launch) (D : va_G) (cA : Nat → ClassId) (ad : Nat → Nat) (o : Int64) (σ : Mem) (kk : Unit) (zz : Unit) (hF : FrM σ) (sz : Nat) : Met l yX8_spotOf (WY yX8_spotOf cX8_spotOf 4 (some .int)) (RM 0) (va_Pc [.ref (ad 92), .int 0] (PW D cA ad o σ sz)) (va_Qi (fun r σ9 => r = 0 ∧ σ9 = σ) (QW D cA ad o) (FA ad sz)) 0 0 (FA ad sz) := by
  refine ct_of (own := RX8) (k := 0) (Qf := va_Qi (fun r σ9 => r = 0 ∧ σ9 = σ) (QW D cA ad o)) rfl (by decide) (Nat.le_of_ble_eq_true rfl) (fun p e s m below meth c ls C0 X hr hlk hP hl => ?_) sz
  have hS : va_S (FA ad s.heap.size) s.heap s.heap [] := va_S.rf
  have hl : lv_has ls 4 [(0, .ref (ad 92)), (1, .int 0)] := hl
  obtain ⟨hx, hb, hml, hown, hts⟩ := id C0
  refine lv_iconst (v := 0) hx hb dX8_spotOf_0 (by decide) ?_
  refine lv_istore_n (lv' := [(2, .int 0), (0, .ref (ad 92)), (1, .int 0)]) hx hb dX8_spotOf_1 rfl hl (by decide) rfl (fun ls hl => ?_)
  refine lv_iconst (v := 0) hx hb dX8_spotOf_2 (by decide) ?_
  refine lv_istore_n (lv' := [(3, .int 0), (2, .int 0), (0, .ref (ad 92)), (1, .int 0)]) hx hb dX8_spotOf_3 rfl hl (by decide) rfl (fun ls hl => ?_)
  refine lv_iload_n hx hb dX8_spotOf_4 rfl (lv_at hl 0 rfl) ?_
  refine lv_iload_n hx hb dX8_spotOf_5 rfl (lv_at hl 3 rfl) ?_
  refine lv_icmp_ge (tgt := 26) hx hb dX8_spotOf_6 (by decide) (fun c_1 => ?_) (fun c_1 => absurd c_1 (by decide))
  refine lv_iload_n hx hb dX8_spotOf_26 rfl (lv_at hl 1 rfl) ?_
  exact r_iret C0 X hP hS hr hlk dX8_spotOf_27 ⟨rfl, rfl⟩
theorem dX8_endOf_0 : decode cX8_endOf 0 = .ok (.aload_n 0, 1) := by decide +kernel
theorem dX8_endOf_1 : decode cX8_endOf 1 = .ok (.aload_n 0, 1) := by decide +kernel
theorem dX8_endOf_2 : decode cX8_endOf 2 = .ok (.iconst 0, 1) := by decide +kernel
theorem dX8_endOf_3 : decode cX8_endOf 3 = .ok (.iaload, 1) := by decide +kernel
theorem dX8_endOf_4 : decode cX8_endOf 4 = .ok (.invokestatic 118, 3) := by decide +kernel
theorem dX8_endOf_7 : decode cX8_endOf 7 = .ok (.ireturn, 1) := by decide +kernel
set_option maxHeartbeats 4000000 in
set_option maxRecDepth 100000 in
theorem c_X8_endOf0 (l : Launch) (D : va_G) (cA : Nat → ClassId) (ad : Nat → Nat) (o : Int64) (σ : Mem) (kk : Unit) (hF : FrM σ) (sz : Nat) : Met l yX8_endOf (WY yX8_endOf cX8_endOf 1 (some .int)) (RM 1) (va_Pc [.ref (ad 92)] (PW D cA ad o σ sz)) (va_Qi (fun r σ9 => r = 0 ∧ σ9 = σ) (QW D cA ad o) (FA ad sz)) 0 0 (FA ad sz) := by
  refine ct_of (own := RX8) (k := 1) (Qf := va_Qi (fun r σ9 => r = 0 ∧ σ9 = σ) (QW D cA ad o)) rfl (by decide) (Nat.le_of_ble_eq_true rfl) (fun p e s m below meth c ls C0 X hr hlk hP hl => ?_) sz
  have hS : va_S (FA ad s.heap.size) s.heap s.heap [] := va_S.rf
  have hl : lv_has ls 1 [(0, .ref (ad 92))] := hl
  obtain ⟨hx, hb, hml, hown, hts⟩ := id C0
  refine lv_aload_n hx hb dX8_endOf_0 rfl (lv_at hl 0 rfl) ?_
  refine lv_aload_n hx hb dX8_endOf_1 rfl (lv_at hl 0 rfl) ?_
  refine lv_iconst (v := 0) hx hb dX8_endOf_2 (by decide) ?_
  refine r_ialdN C0 X hP 92 (k := 0) ⟨by decide, rfl⟩ rfl (by decide) dX8_endOf_3 ?_
  refine lv_topE (y := 0) (FrM_s hF (by decide)) ?_
  refine r_ci X hS (r_runS (As := [.ref (ad 92), .int 0]) (rest := []) C0 X hP L_X8_118 (fun sz => c_X8_spotOf0 l D cA ad o σ () () hF sz) ⟨Nat.le_of_ble_eq_true rfl, Nat.le_of_ble_eq_true rfl⟩ rfl hl.1 rfl (Nat.le_of_ble_eq_true rfl) dX8_endOf_4 ⟨Nat.zero_le _, Nat.zero_le _⟩) (fun r σ9 H locs hw hP hS => ?_)
  rw [hw.2] at hP
  rw [hw.1]
  exact r_iret C0 X hP hS hr hlk dX8_endOf_7 ⟨rfl, rfl⟩
theorem dX8_thrown_0 : decode cX8_thrown 0 = .ok (.aload_n 0, 1) := by decide +kernel
theorem dX8_thrown_1 : decode cX8_thrown 1 = .ok (.getfield 49, 3) := by decide +kernel
theorem dX8_thrown_4 : decode cX8_thrown 4 = .ok (.ireturn, 1) := by decide +kernel
set_option maxHeartbeats 4000000 in
set_option maxRecDepth 100000 in
theorem c_X8_thrown (l : Launch) (D : va_G) (cA : Nat → ClassId) (ad : Nat → Nat) (o : Int64) (σ : Mem)   (sz : Nat) : Met l yX8_thrown (WY yX8_thrown cX8_thrown 1 (some .int)) (RM 0) (va_Pc [.ref (ad 91)] (PW D cA ad o σ sz)) (va_Qi (fun r σ9 => r = σ 91 11 ∧ σ9 = σ) (QW D cA ad o) (FA ad sz)) 0 0 (FA ad sz) := by
  refine ct_of (own := RX8) (k := 0) (Qf := va_Qi (fun r σ9 => r = σ 91 11 ∧ σ9 = σ) (QW D cA ad o)) rfl (by decide) (Nat.le_of_ble_eq_true rfl) (fun p e s m below meth c ls C0 X hr hlk hP hl => ?_) sz
  have hS : va_S (FA ad s.heap.size) s.heap s.heap [] := va_S.rf
  have hl : lv_has ls 1 [(0, .ref (ad 91))] := hl
  obtain ⟨hx, hb, hml, hown, hts⟩ := id C0
  refine lv_aload_n hx hb dX8_thrown_0 rfl (lv_at hl 0 rfl) ?_
  refine gf_X8_49 C0 X hP 91 ⟨by decide, rfl⟩ dX8_thrown_1 ?_
  exact r_iret C0 X hP hS hr hlk dX8_thrown_4 ⟨rfl, rfl⟩
theorem dX8_anews_0 : decode cX8_anews 0 = .ok (.aload_n 0, 1) := by decide +kernel
theorem dX8_anews_1 : decode cX8_anews 1 = .ok (.iconst 2, 1) := by decide +kernel
theorem dX8_anews_2 : decode cX8_anews 2 = .ok (.iconst 0, 1) := by decide +kernel
theorem dX8_anews_3 : decode cX8_anews 3 = .ok (.iastore, 1) := by decide +kernel
theorem dX8_anews_4 : decode cX8_anews 4 = .ok (.aload_n 0, 1) := by decide +kernel
theorem dX8_anews_5 : decode cX8_anews 5 = .ok (.iconst 3, 1) := by decide +kernel
theorem dX8_anews_6 : decode cX8_anews 6 = .ok (.iconst 0, 1) := by decide +kernel
theorem dX8_anews_7 : decode cX8_anews 7 = .ok (.iastore, 1) := by decide +kernel
theorem dX8_anews_8 : decode cX8_anews 8 = .ok (.aload_n 0, 1) := by decide +kernel
theorem dX8_anews_9 : decode cX8_anews 9 = .ok (.iconst 4, 1) := by decide +kernel
theorem dX8_anews_10 : decode cX8_anews 10 = .ok (.iconst 0, 1) := by decide +kernel
theorem dX8_anews_11 : decode cX8_anews 11 = .ok (.iastore, 1) := by decide +kernel
theorem dX8_anews_12 : decode cX8_anews 12 = .ok (.iconst 0, 1) := by decide +kernel
theorem dX8_anews_13 : decode cX8_anews 13 = .ok (.istore_n 1, 1) := by decide +kernel
theorem dX8_anews_14 : decode cX8_anews 14 = .ok (.iload_n 1, 1) := by decide +kernel
theorem dX8_anews_15 : decode cX8_anews 15 = .ok (.aload_n 0, 1) := by decide +kernel
theorem dX8_anews_16 : decode cX8_anews 16 = .ok (.iconst 1, 1) := by decide +kernel
theorem dX8_anews_17 : decode cX8_anews 17 = .ok (.iaload, 1) := by decide +kernel
theorem dX8_anews_18 : decode cX8_anews 18 = .ok (.if_icmp .ge 14, 3) := by decide +kernel
theorem dX8_anews_21 : decode cX8_anews 21 = .ok (.aload_n 0, 1) := by decide +kernel
theorem dX8_anews_22 : decode cX8_anews 22 = .ok (.iload_n 1, 1) := by decide +kernel
theorem dX8_anews_23 : decode cX8_anews 23 = .ok (.invokestatic 101, 3) := by decide +kernel
theorem dX8_anews_26 : decode cX8_anews 26 = .ok (.iinc 1 1, 3) := by decide +kernel
theorem dX8_anews_29 : decode cX8_anews 29 = .ok (.goto (-15), 3) := by decide +kernel
theorem dX8_anews_32 : decode cX8_anews 32 = .ok (.return_, 1) := by decide +kernel
set_option maxHeartbeats 4000000 in
set_option maxRecDepth 100000 in
theorem c_X8_anews0 (l : Launch) (D : va_G) (cA : Nat → ClassId) (ad : Nat → Nat) (o : Int64) (σ : Mem) (kk : Unit) (hF : FrM σ) (sz : Nat) : Met l yX8_anews (WY yX8_anews cX8_anews 2 none) (RM 0) (va_Pc [.ref (ad 92)] (PW D cA ad o σ sz)) (va_Qv (fun σ9 => σ9 = stm (stm (stm σ 92 2 0) 92 3 0) 92 4 0) (QW D cA ad o) (FA ad sz)) 0 0 (FA ad sz) := by
  refine ct_of (own := RX8) (k := 0) (Qf := va_Qv (fun σ9 => σ9 = stm (stm (stm σ 92 2 0) 92 3 0) 92 4 0) (QW D cA ad o)) rfl (by decide) (Nat.le_of_ble_eq_true rfl) (fun p e s m below meth c ls C0 X hr hlk hP hl => ?_) sz
  have hS : va_S (FA ad s.heap.size) s.heap s.heap [] := va_S.rf
  have hl : lv_has ls 2 [(0, .ref (ad 92))] := hl
  obtain ⟨hx, hb, hml, hown, hts⟩ := id C0
  refine lv_aload_n hx hb dX8_anews_0 rfl (lv_at hl 0 rfl) ?_
  refine lv_iconst (v := 2) hx hb dX8_anews_1 (by decide) ?_
  refine lv_iconst (v := 0) hx hb dX8_anews_2 (by decide) ?_
  refine r_iastN C0 X hP hS 92 (k := 2) ⟨by decide, rfl⟩ rfl (by decide) dX8_anews_3 (fun H locs hP hS => ?_)
  refine lv_aload_n hx hb dX8_anews_4 rfl (lv_at hl 0 rfl) ?_
  refine lv_iconst (v := 3) hx hb dX8_anews_5 (by decide) ?_
  refine lv_iconst (v := 0) hx hb dX8_anews_6 (by decide) ?_
  refine r_iastN C0 X hP hS 92 (k := 3) ⟨by decide, rfl⟩ rfl (by decide) dX8_anews_7 (fun H locs hP hS => ?_)
  refine lv_aload_n hx hb dX8_anews_8 rfl (lv_at hl 0 rfl) ?_
  refine lv_iconst (v := 4) hx hb dX8_anews_9 (by decide) ?_
  refine lv_iconst (v := 0) hx hb dX8_anews_10 (by decide) ?_
  refine r_iastN C0 X hP hS 92 (k := 4) ⟨by decide, rfl⟩ rfl (by decide) dX8_anews_11 (fun H locs hP hS => ?_)
  refine lv_iconst (v := 0) hx hb dX8_anews_12 (by decide) ?_
  refine lv_istore_n (lv' := [(1, .int 0), (0, .ref (ad 92))]) hx hb dX8_anews_13 rfl hl (by decide) rfl (fun ls hl => ?_)
  refine lv_iload_n hx hb dX8_anews_14 rfl (lv_at hl 0 rfl) ?_
  refine lv_aload_n hx hb dX8_anews_15 rfl (lv_at hl 1 rfl) ?_
  refine lv_iconst (v := 1) hx hb dX8_anews_16 (by decide) ?_
  refine r_ialdN C0 X hP 92 (k := 1) ⟨by decide, rfl⟩ rfl (by decide) dX8_anews_17 ?_
  refine lv_topE (y := 0) (by simp [stm, upd]; exact FrM_s hF (by decide)) ?_
  refine lv_icmp_ge (tgt := 32) hx hb dX8_anews_18 (by decide) (fun c_1 => ?_) (fun c_1 => absurd c_1 (by decide))
  exact r_vret C0 X hP hS hr hlk dX8_anews_32 rfl
theorem dX8_road_0 : decode cX8_road 0 = .ok (.aload_n 0, 1) := by decide +kernel
theorem dX8_road_1 : decode cX8_road 1 = .ok (.iload_n 1, 1) := by decide +kernel
theorem dX8_road_2 : decode cX8_road 2 = .ok (.iconst 0, 1) := by decide +kernel
theorem dX8_road_3 : decode cX8_road 3 = .ok (.invokevirtual 108, 3) := by decide +kernel
theorem dX8_road_6 : decode cX8_road 6 = .ok (.istore_n 2, 1) := by decide +kernel
theorem dX8_road_7 : decode cX8_road 7 = .ok (.iload_n 2, 1) := by decide +kernel
theorem dX8_road_8 : decode cX8_road 8 = .ok (.ifCond .eq 5, 3) := by decide +kernel
theorem dX8_road_11 : decode cX8_road 11 = .ok (.iload_n 2, 1) := by decide +kernel
theorem dX8_road_12 : decode cX8_road 12 = .ok (.ireturn, 1) := by decide +kernel
theorem dX8_road_13 : decode cX8_road 13 = .ok (.aload_n 0, 1) := by decide +kernel
theorem dX8_road_14 : decode cX8_road 14 = .ok (.bipush 100, 2) := by decide +kernel
theorem dX8_road_16 : decode cX8_road 16 = .ok (.iload_n 1, 1) := by decide +kernel
theorem dX8_road_17 : decode cX8_road 17 = .ok (.imul, 1) := by decide +kernel
theorem dX8_road_18 : decode cX8_road 18 = .ok (.putfield 67, 3) := by decide +kernel
theorem dX8_road_21 : decode cX8_road 21 = .ok (.aload_n 0, 1) := by decide +kernel
theorem dX8_road_22 : decode cX8_road 22 = .ok (.aload_n 0, 1) := by decide +kernel
theorem dX8_road_23 : decode cX8_road 23 = .ok (.getfield 28, 3) := by decide +kernel
theorem dX8_road_26 : decode cX8_road 26 = .ok (.iload_n 1, 1) := by decide +kernel
theorem dX8_road_27 : decode cX8_road 27 = .ok (.iaload, 1) := by decide +kernel
theorem dX8_road_28 : decode cX8_road 28 = .ok (.putfield 64, 3) := by decide +kernel
theorem dX8_road_31 : decode cX8_road 31 = .ok (.aload_n 0, 1) := by decide +kernel
theorem dX8_road_32 : decode cX8_road 32 = .ok (.iconst 0, 1) := by decide +kernel
theorem dX8_road_33 : decode cX8_road 33 = .ok (.putfield 61, 3) := by decide +kernel
theorem dX8_road_36 : decode cX8_road 36 = .ok (.iconst 0, 1) := by decide +kernel
theorem dX8_road_37 : decode cX8_road 37 = .ok (.istore_n 3, 1) := by decide +kernel
theorem dX8_road_38 : decode cX8_road 38 = .ok (.aload_n 0, 1) := by decide +kernel
theorem dX8_road_39 : decode cX8_road 39 = .ok (.invokevirtual 112, 3) := by decide +kernel
theorem dX8_road_42 : decode cX8_road 42 = .ok (.ifCond .ne 12, 3) := by decide +kernel
theorem dX8_road_45 : decode cX8_road 45 = .ok (.sipush (-1000), 3) := by decide +kernel
theorem dX8_road_48 : decode cX8_road 48 = .ok (.aload_n 0, 1) := by decide +kernel
theorem dX8_road_49 : decode cX8_road 49 = .ok (.getfield 61, 3) := by decide +kernel
theorem dX8_road_52 : decode cX8_road 52 = .ok (.isub, 1) := by decide +kernel
theorem dX8_road_53 : decode cX8_road 53 = .ok (.ireturn, 1) := by decide +kernel
theorem dX8_road_54 : decode cX8_road 54 = .ok (.iinc 3 1, 3) := by decide +kernel
theorem dX8_road_57 : decode cX8_road 57 = .ok (.aload_n 0, 1) := by decide +kernel
theorem dX8_road_58 : decode cX8_road 58 = .ok (.getfield 61, 3) := by decide +kernel
theorem dX8_road_61 : decode cX8_road 61 = .ok (.aload_n 0, 1) := by decide +kernel
theorem dX8_road_62 : decode cX8_road 62 = .ok (.getfield 64, 3) := by decide +kernel
theorem dX8_road_65 : decode cX8_road 65 = .ok (.if_icmp .lt (-27), 3) := by decide +kernel
theorem dX8_road_68 : decode cX8_road 68 = .ok (.iconst 0, 1) := by decide +kernel
theorem dX8_road_69 : decode cX8_road 69 = .ok (.istore 4, 2) := by decide +kernel
theorem dX8_road_71 : decode cX8_road 71 = .ok (.iload 4, 2) := by decide +kernel
theorem dX8_road_73 : decode cX8_road 73 = .ok (.bipush 121, 2) := by decide +kernel
theorem dX8_road_75 : decode cX8_road 75 = .ok (.if_icmp .ge 23, 3) := by decide +kernel
theorem dX8_road_78 : decode cX8_road 78 = .ok (.aload_n 0, 1) := by decide +kernel
theorem dX8_road_79 : decode cX8_road 79 = .ok (.getfield 19, 3) := by decide +kernel
theorem dX8_road_82 : decode cX8_road 82 = .ok (.iload 4, 2) := by decide +kernel
theorem dX8_road_84 : decode cX8_road 84 = .ok (.aload_n 0, 1) := by decide +kernel
theorem dX8_road_85 : decode cX8_road 85 = .ok (.getfield 9, 3) := by decide +kernel
theorem dX8_road_88 : decode cX8_road 88 = .ok (.iload 4, 2) := by decide +kernel
theorem dX8_road_90 : decode cX8_road 90 = .ok (.iaload, 1) := by decide +kernel
theorem dX8_road_91 : decode cX8_road 91 = .ok (.iastore, 1) := by decide +kernel
theorem dX8_road_92 : decode cX8_road 92 = .ok (.iinc 4 1, 3) := by decide +kernel
theorem dX8_road_95 : decode cX8_road 95 = .ok (.goto (-24), 3) := by decide +kernel
theorem dX8_road_98 : decode cX8_road 98 = .ok (.aload_n 0, 1) := by decide +kernel
theorem dX8_road_99 : decode cX8_road 99 = .ok (.iconst 0, 1) := by decide +kernel
theorem dX8_road_100 : decode cX8_road 100 = .ok (.putfield 61, 3) := by decide +kernel
theorem dX8_road_103 : decode cX8_road 103 = .ok (.aload_n 0, 1) := by decide +kernel
theorem dX8_road_104 : decode cX8_road 104 = .ok (.getfield 61, 3) := by decide +kernel
theorem dX8_road_107 : decode cX8_road 107 = .ok (.aload_n 0, 1) := by decide +kernel
theorem dX8_road_108 : decode cX8_road 108 = .ok (.getfield 64, 3) := by decide +kernel
theorem dX8_road_111 : decode cX8_road 111 = .ok (.if_icmp .ge 40, 3) := by decide +kernel
theorem dX8_road_114 : decode cX8_road 114 = .ok (.aload_n 0, 1) := by decide +kernel
theorem dX8_road_115 : decode cX8_road 115 = .ok (.getfield 61, 3) := by decide +kernel
theorem dX8_road_118 : decode cX8_road 118 = .ok (.istore 4, 2) := by decide +kernel
theorem dX8_road_120 : decode cX8_road 120 = .ok (.aload_n 0, 1) := by decide +kernel
theorem dX8_road_121 : decode cX8_road 121 = .ok (.invokevirtual 70, 3) := by decide +kernel
theorem dX8_road_124 : decode cX8_road 124 = .ok (.istore 5, 2) := by decide +kernel
theorem dX8_road_126 : decode cX8_road 126 = .ok (.aload_n 0, 1) := by decide +kernel
theorem dX8_road_127 : decode cX8_road 127 = .ok (.invokevirtual 112, 3) := by decide +kernel
theorem dX8_road_130 : decode cX8_road 130 = .ok (.istore 6, 2) := by decide +kernel
theorem dX8_road_132 : decode cX8_road 132 = .ok (.aload_n 0, 1) := by decide +kernel
theorem dX8_road_133 : decode cX8_road 133 = .ok (.iload 5, 2) := by decide +kernel
theorem dX8_road_135 : decode cX8_road 135 = .ok (.invokevirtual 115, 3) := by decide +kernel
theorem dX8_road_138 : decode cX8_road 138 = .ok (.ifCond .ne 10, 3) := by decide +kernel
theorem dX8_road_141 : decode cX8_road 141 = .ok (.sipush (-2000), 3) := by decide +kernel
theorem dX8_road_144 : decode cX8_road 144 = .ok (.iload 4, 2) := by decide +kernel
theorem dX8_road_146 : decode cX8_road 146 = .ok (.isub, 1) := by decide +kernel
theorem dX8_road_147 : decode cX8_road 147 = .ok (.ireturn, 1) := by decide +kernel
theorem dX8_road_148 : decode cX8_road 148 = .ok (.goto (-45), 3) := by decide +kernel
theorem dX8_road_151 : decode cX8_road 151 = .ok (.iconst 0, 1) := by decide +kernel
theorem dX8_road_152 : decode cX8_road 152 = .ok (.istore 4, 2) := by decide +kernel
theorem dX8_road_154 : decode cX8_road 154 = .ok (.iload 4, 2) := by decide +kernel
theorem dX8_road_156 : decode cX8_road 156 = .ok (.bipush 121, 2) := by decide +kernel
theorem dX8_road_158 : decode cX8_road 158 = .ok (.if_icmp .ge 23, 3) := by decide +kernel
theorem dX8_road_161 : decode cX8_road 161 = .ok (.aload_n 0, 1) := by decide +kernel
theorem dX8_road_162 : decode cX8_road 162 = .ok (.getfield 9, 3) := by decide +kernel
theorem dX8_road_165 : decode cX8_road 165 = .ok (.iload 4, 2) := by decide +kernel
theorem dX8_road_167 : decode cX8_road 167 = .ok (.aload_n 0, 1) := by decide +kernel
theorem dX8_road_168 : decode cX8_road 168 = .ok (.getfield 19, 3) := by decide +kernel
theorem dX8_road_171 : decode cX8_road 171 = .ok (.iload 4, 2) := by decide +kernel
theorem dX8_road_173 : decode cX8_road 173 = .ok (.iaload, 1) := by decide +kernel
theorem dX8_road_174 : decode cX8_road 174 = .ok (.iastore, 1) := by decide +kernel
theorem dX8_road_175 : decode cX8_road 175 = .ok (.iinc 4 1, 3) := by decide +kernel
theorem dX8_road_178 : decode cX8_road 178 = .ok (.goto (-24), 3) := by decide +kernel
theorem dX8_road_181 : decode cX8_road 181 = .ok (.iload_n 3, 1) := by decide +kernel
theorem dX8_road_182 : decode cX8_road 182 = .ok (.ireturn, 1) := by decide +kernel
set_option maxHeartbeats 4000000 in
set_option maxRecDepth 100000 in
theorem c_X8_road_f (l : Launch) (D : va_G) (cA : Nat → ClassId) (ad : Nat → Nat) (o : Int64) (σ : Mem) (d : Int32) (hF : FrM σ) (sz : Nat) : Met l yX8_road (WY yX8_road cX8_road 7 (some .int)) (RM 3) (va_Pc [.ref (ad 91), .int d] (PW D cA ad o σ sz)) (va_Qi (fun r _ => r = (if d < 0 ∨ 8 ≤ d then -1 else -11)) (QW D cA ad o) (FA ad sz)) 0 0 (FA ad sz) := by
  refine ct_of (own := RX8) (k := 3) (Qf := va_Qi (fun r _ => r = (if d < 0 ∨ 8 ≤ d then -1 else -11)) (QW D cA ad o)) rfl (by decide) (Nat.le_of_ble_eq_true rfl) (fun p e s m below meth c ls C0 X hr hlk hP hl => ?_) sz
  have hS : va_S (FA ad s.heap.size) s.heap s.heap [] := va_S.rf
  have hl : lv_has ls 7 [(0, .ref (ad 91)), (1, .int d)] := hl
  obtain ⟨hx, hb, hml, hown, hts⟩ := id C0
  refine lv_aload_n hx hb dX8_road_0 rfl (lv_at hl 0 rfl) ?_
  refine lv_iload_n hx hb dX8_road_1 rfl (lv_at hl 1 rfl) ?_
  refine lv_iconst (v := 0) hx hb dX8_road_2 (by decide) ?_
  refine r_ci X hS (r_runV (As := [.int d, .int 0]) (rest := []) C0 X hP L_X8_108 (fun sz => c_X8_wrongRow0 l D cA ad o σ d 0 hF sz) (show 91 < 106 ∧ kd 91 = (8, 24) from ⟨by decide, rfl⟩).1 (show 91 < 106 ∧ kd 91 = (8, 24) from ⟨by decide, rfl⟩).2 (by decide) rfl ⟨Nat.le_of_ble_eq_true rfl, Nat.le_of_ble_eq_true rfl⟩ rfl hl.1 rfl (Nat.le_of_ble_eq_true rfl) dX8_road_3 ⟨Nat.zero_le _, Nat.zero_le _⟩) (fun r σ9 H locs hw hP hS => ?_)
  rw [hw.2] at hP
  obtain ⟨⟨b_1, rfl⟩ | ⟨b_1, rfl⟩, -⟩ := hw
  · refine lv_istore_n (lv' := [(2, .int (-1)), (0, .ref (ad 91)), (1, .int d)]) hx hb dX8_road_6 rfl hl (by decide) rfl (fun ls hl => ?_)
    refine lv_iload_n hx hb dX8_road_7 rfl (lv_at hl 0 rfl) ?_
    refine lv_if_eq (tgt := 13) hx hb dX8_road_8 (by decide) (fun c_2 => absurd c_2 (by decide)) (fun c_2 => ?_)
    refine lv_iload_n hx hb dX8_road_11 rfl (lv_at hl 0 rfl) ?_
    exact r_iret C0 X hP hS hr hlk dX8_road_12 (by simp only [b_1, if_true, if_false, ite_true, ite_false, true_and, and_true, false_and, and_false, true_or, or_true, false_or, or_false, not_true_eq_false, not_false_eq_true, ne_eq, and_self, or_self]; try rfl)
  · refine lv_istore_n (lv' := [(2, .int (-11)), (0, .ref (ad 91)), (1, .int d)]) hx hb dX8_road_6 rfl hl (by decide) rfl (fun ls hl => ?_)
    refine lv_iload_n hx hb dX8_road_7 rfl (lv_at hl 0 rfl) ?_
    refine lv_if_eq (tgt := 13) hx hb dX8_road_8 (by decide) (fun c_3 => absurd c_3 (by decide)) (fun c_3 => ?_)
    refine lv_iload_n hx hb dX8_road_11 rfl (lv_at hl 0 rfl) ?_
    exact r_iret C0 X hP hS hr hlk dX8_road_12 (by simp only [b_1, if_true, if_false, ite_true, ite_false, true_and, and_true, false_and, and_false, true_or, or_true, false_or, or_false, not_true_eq_false, not_false_eq_true, ne_eq, and_self, or_self]; try rfl)
theorem dX8_piece_0 : decode cX8_piece 0 = .ok (.aload_n 0, 1) := by decide +kernel
theorem dX8_piece_1 : decode cX8_piece 1 = .ok (.iload_n 1, 1) := by decide +kernel
theorem dX8_piece_2 : decode cX8_piece 2 = .ok (.invokevirtual 122, 3) := by decide +kernel
theorem dX8_piece_5 : decode cX8_piece 5 = .ok (.ifCond .eq 15, 3) := by decide +kernel
theorem dX8_piece_8 : decode cX8_piece 8 = .ok (.iload_n 2, 1) := by decide +kernel
theorem dX8_piece_9 : decode cX8_piece 9 = .ok (.i2l, 1) := by decide +kernel
theorem dX8_piece_10 : decode cX8_piece 10 = .ok (.lconst 0, 1) := by decide +kernel
theorem dX8_piece_11 : decode cX8_piece 11 = .ok (.ldc2_w 125, 3) := by decide +kernel
theorem dX8_piece_14 : decode cX8_piece 14 = .ok (.invokestatic 53, 3) := by decide +kernel
theorem dX8_piece_17 : decode cX8_piece 17 = .ok (.ifCond .ne 7, 3) := by decide +kernel
theorem dX8_piece_20 : decode cX8_piece 20 = .ok (.iconst (-1), 1) := by decide +kernel
theorem dX8_piece_21 : decode cX8_piece 21 = .ok (.goto 32, 3) := by decide +kernel
theorem dX8_piece_24 : decode cX8_piece 24 = .ok (.iload_n 2, 1) := by decide +kernel
theorem dX8_piece_25 : decode cX8_piece 25 = .ok (.iconst 3, 1) := by decide +kernel
theorem dX8_piece_26 : decode cX8_piece 26 = .ok (.if_icmp .ne 14, 3) := by decide +kernel
theorem dX8_piece_29 : decode cX8_piece 29 = .ok (.aload_n 0, 1) := by decide +kernel
theorem dX8_piece_30 : decode cX8_piece 30 = .ok (.getfield 9, 3) := by decide +kernel
theorem dX8_piece_33 : decode cX8_piece 33 = .ok (.iload_n 1, 1) := by decide +kernel
theorem dX8_piece_34 : decode cX8_piece 34 = .ok (.invokestatic 118, 3) := by decide +kernel
theorem dX8_piece_37 : decode cX8_piece 37 = .ok (.goto 16, 3) := by decide +kernel
theorem dX8_piece_40 : decode cX8_piece 40 = .ok (.aload_n 0, 1) := by decide +kernel
theorem dX8_piece_41 : decode cX8_piece 41 = .ok (.getfield 9, 3) := by decide +kernel
theorem dX8_piece_44 : decode cX8_piece 44 = .ok (.bipush 14, 2) := by decide +kernel
theorem dX8_piece_46 : decode cX8_piece 46 = .ok (.iconst 3, 1) := by decide +kernel
theorem dX8_piece_47 : decode cX8_piece 47 = .ok (.iload_n 1, 1) := by decide +kernel
theorem dX8_piece_48 : decode cX8_piece 48 = .ok (.imul, 1) := by decide +kernel
theorem dX8_piece_49 : decode cX8_piece 49 = .ok (.iadd, 1) := by decide +kernel
theorem dX8_piece_50 : decode cX8_piece 50 = .ok (.iload_n 2, 1) := by decide +kernel
theorem dX8_piece_51 : decode cX8_piece 51 = .ok (.iadd, 1) := by decide +kernel
theorem dX8_piece_52 : decode cX8_piece 52 = .ok (.iaload, 1) := by decide +kernel
theorem dX8_piece_53 : decode cX8_piece 53 = .ok (.ireturn, 1) := by decide +kernel
set_option maxHeartbeats 4000000 in
set_option maxRecDepth 100000 in
theorem c_X8_piece_f (l : Launch) (D : va_G) (cA : Nat → ClassId) (ad : Nat → Nat) (o : Int64) (σ : Mem) (a : Int32) (b : Int32) (hF : FrM σ) (sz : Nat) : Met l yX8_piece (WY yX8_piece cX8_piece 3 (some .int)) (RM 2) (va_Pc [.ref (ad 91), .int a, .int b] (PW D cA ad o σ sz)) (va_Qi (fun r _ => r = -1) (QW D cA ad o) (FA ad sz)) 0 0 (FA ad sz) := by
  refine ct_of (own := RX8) (k := 2) (Qf := va_Qi (fun r _ => r = -1) (QW D cA ad o)) rfl (by decide) (Nat.le_of_ble_eq_true rfl) (fun p e s m below meth c ls C0 X hr hlk hP hl => ?_) sz
  have hS : va_S (FA ad s.heap.size) s.heap s.heap [] := va_S.rf
  have hl : lv_has ls 3 [(0, .ref (ad 91)), (1, .int a), (2, .int b)] := hl
  obtain ⟨hx, hb, hml, hown, hts⟩ := id C0
  refine lv_aload_n hx hb dX8_piece_0 rfl (lv_at hl 0 rfl) ?_
  refine lv_iload_n hx hb dX8_piece_1 rfl (lv_at hl 1 rfl) ?_
  refine r_ci X hS (r_runV (As := [.int a]) (rest := []) C0 X hP L_X8_122 (fun sz => c_X8_isPiece0 l D cA ad o σ a hF sz) (show 91 < 106 ∧ kd 91 = (8, 24) from ⟨by decide, rfl⟩).1 (show 91 < 106 ∧ kd 91 = (8, 24) from ⟨by decide, rfl⟩).2 (by decide) rfl ⟨Nat.le_of_ble_eq_true rfl, Nat.le_of_ble_eq_true rfl⟩ rfl hl.1 rfl (Nat.le_of_ble_eq_true rfl) dX8_piece_2 ⟨Nat.zero_le _, Nat.zero_le _⟩) (fun r σ9 H locs hw hP hS => ?_)
  rw [hw.2] at hP
  rw [hw.1]
  refine lv_if_eq (tgt := 20) hx hb dX8_piece_5 (by decide) (fun c_1 => ?_) (fun c_1 => absurd c_1 (by decide))
  refine lv_iconst (v := (-1)) hx hb dX8_piece_20 (by decide) ?_
  refine lv_goto (tgt := 53) hx hb dX8_piece_21 (by decide) ?_
  exact r_iret C0 X hP hS hr hlk dX8_piece_53 rfl
theorem dX8_room_0 : decode cX8_room 0 = .ok (.aload_n 0, 1) := by decide +kernel
theorem dX8_room_1 : decode cX8_room 1 = .ok (.getfield 9, 3) := by decide +kernel
theorem dX8_room_4 : decode cX8_room 4 = .ok (.iconst 0, 1) := by decide +kernel
theorem dX8_room_5 : decode cX8_room 5 = .ok (.iaload, 1) := by decide +kernel
theorem dX8_room_6 : decode cX8_room 6 = .ok (.ifCond .eq 19, 3) := by decide +kernel
theorem dX8_room_9 : decode cX8_room 9 = .ok (.iload_n 1, 1) := by decide +kernel
theorem dX8_room_10 : decode cX8_room 10 = .ok (.i2l, 1) := by decide +kernel
theorem dX8_room_11 : decode cX8_room 11 = .ok (.lconst 0, 1) := by decide +kernel
theorem dX8_room_12 : decode cX8_room 12 = .ok (.aload_n 0, 1) := by decide +kernel
theorem dX8_room_13 : decode cX8_room 13 = .ok (.getfield 9, 3) := by decide +kernel
theorem dX8_room_16 : decode cX8_room 16 = .ok (.iconst 0, 1) := by decide +kernel
theorem dX8_room_17 : decode cX8_room 17 = .ok (.iaload, 1) := by decide +kernel
theorem dX8_room_18 : decode cX8_room 18 = .ok (.i2l, 1) := by decide +kernel
theorem dX8_room_19 : decode cX8_room 19 = .ok (.invokestatic 53, 3) := by decide +kernel
theorem dX8_room_22 : decode cX8_room 22 = .ok (.ifCond .ne 7, 3) := by decide +kernel
theorem dX8_room_25 : decode cX8_room 25 = .ok (.iconst (-1), 1) := by decide +kernel
theorem dX8_room_26 : decode cX8_room 26 = .ok (.goto 30, 3) := by decide +kernel
theorem dX8_room_29 : decode cX8_room 29 = .ok (.iload_n 1, 1) := by decide +kernel
theorem dX8_room_30 : decode cX8_room 30 = .ok (.ifCond .eq 13, 3) := by decide +kernel
theorem dX8_room_33 : decode cX8_room 33 = .ok (.iload_n 1, 1) := by decide +kernel
theorem dX8_room_34 : decode cX8_room 34 = .ok (.aload_n 0, 1) := by decide +kernel
theorem dX8_room_35 : decode cX8_room 35 = .ok (.getfield 9, 3) := by decide +kernel
theorem dX8_room_38 : decode cX8_room 38 = .ok (.iconst 0, 1) := by decide +kernel
theorem dX8_room_39 : decode cX8_room 39 = .ok (.iaload, 1) := by decide +kernel
theorem dX8_room_40 : decode cX8_room 40 = .ok (.if_icmp .ne 8, 3) := by decide +kernel
theorem dX8_room_43 : decode cX8_room 43 = .ok (.bipush (-4), 2) := by decide +kernel
theorem dX8_room_45 : decode cX8_room 45 = .ok (.goto 11, 3) := by decide +kernel
theorem dX8_room_48 : decode cX8_room 48 = .ok (.aload_n 0, 1) := by decide +kernel
theorem dX8_room_49 : decode cX8_room 49 = .ok (.getfield 9, 3) := by decide +kernel
theorem dX8_room_52 : decode cX8_room 52 = .ok (.iconst 5, 1) := by decide +kernel
theorem dX8_room_53 : decode cX8_room 53 = .ok (.iload_n 1, 1) := by decide +kernel
theorem dX8_room_54 : decode cX8_room 54 = .ok (.iadd, 1) := by decide +kernel
theorem dX8_room_55 : decode cX8_room 55 = .ok (.iaload, 1) := by decide +kernel
theorem dX8_room_56 : decode cX8_room 56 = .ok (.ireturn, 1) := by decide +kernel
set_option maxHeartbeats 4000000 in
set_option maxRecDepth 100000 in
theorem c_X8_room_f (l : Launch) (D : va_G) (cA : Nat → ClassId) (ad : Nat → Nat) (o : Int64) (σ : Mem) (a : Int32) (hF : FrM σ) (sz : Nat) : Met l yX8_room (WY yX8_room cX8_room 2 (some .int)) (RM 0) (va_Pc [.ref (ad 91), .int a] (PW D cA ad o σ sz)) (va_Qi (fun r _ => r = -1) (QW D cA ad o) (FA ad sz)) 0 0 (FA ad sz) := by
  refine ct_of (own := RX8) (k := 0) (Qf := va_Qi (fun r _ => r = -1) (QW D cA ad o)) rfl (by decide) (Nat.le_of_ble_eq_true rfl) (fun p e s m below meth c ls C0 X hr hlk hP hl => ?_) sz
  have hS : va_S (FA ad s.heap.size) s.heap s.heap [] := va_S.rf
  have hl : lv_has ls 2 [(0, .ref (ad 91)), (1, .int a)] := hl
  obtain ⟨hx, hb, hml, hown, hts⟩ := id C0
  refine lv_aload_n hx hb dX8_room_0 rfl (lv_at hl 0 rfl) ?_
  refine gf_X8_9 C0 X hP 91 (q := 92) ⟨by decide, rfl⟩ (by omega) rfl dX8_room_1 ?_
  refine lv_iconst (v := 0) hx hb dX8_room_4 (by decide) ?_
  refine r_ialdN C0 X hP 92 (k := 0) ⟨by decide, rfl⟩ rfl (by decide) dX8_room_5 ?_
  refine lv_topE (y := 0) (FrM_s hF (by decide)) ?_
  refine lv_if_eq (tgt := 25) hx hb dX8_room_6 (by decide) (fun c_1 => ?_) (fun c_1 => absurd c_1 (by decide))
  refine lv_iconst (v := (-1)) hx hb dX8_room_25 (by decide) ?_
  refine lv_goto (tgt := 56) hx hb dX8_room_26 (by decide) ?_
  exact r_iret C0 X hP hS hr hlk dX8_room_56 rfl
theorem dX8_cart_0 : decode cX8_cart 0 = .ok (.aload_n 0, 1) := by decide +kernel
theorem dX8_cart_1 : decode cX8_cart 1 = .ok (.iload_n 1, 1) := by decide +kernel
theorem dX8_cart_2 : decode cX8_cart 2 = .ok (.invokevirtual 127, 3) := by decide +kernel
theorem dX8_cart_5 : decode cX8_cart 5 = .ok (.ifCond .ne 5, 3) := by decide +kernel
theorem dX8_cart_8 : decode cX8_cart 8 = .ok (.iconst (-1), 1) := by decide +kernel
theorem dX8_cart_9 : decode cX8_cart 9 = .ok (.ireturn, 1) := by decide +kernel
theorem dX8_cart_10 : decode cX8_cart 10 = .ok (.iload_n 2, 1) := by decide +kernel
theorem dX8_cart_11 : decode cX8_cart 11 = .ok (.tableswitch 91 0 4 #[33, 51, 61, 71, 81], 33) := by decide +kernel
theorem dX8_cart_44 : decode cX8_cart 44 = .ok (.aload_n 0, 1) := by decide +kernel
theorem dX8_cart_45 : decode cX8_cart 45 = .ok (.getfield 9, 3) := by decide +kernel
theorem dX8_cart_48 : decode cX8_cart 48 = .ok (.iload_n 1, 1) := by decide +kernel
theorem dX8_cart_49 : decode cX8_cart 49 = .ok (.iconst 0, 1) := by decide +kernel
theorem dX8_cart_50 : decode cX8_cart 50 = .ok (.invokestatic 130, 3) := by decide +kernel
theorem dX8_cart_53 : decode cX8_cart 53 = .ok (.ifCond .le 7, 3) := by decide +kernel
theorem dX8_cart_56 : decode cX8_cart 56 = .ok (.iconst 1, 1) := by decide +kernel
theorem dX8_cart_57 : decode cX8_cart 57 = .ok (.goto 4, 3) := by decide +kernel
theorem dX8_cart_60 : decode cX8_cart 60 = .ok (.iconst 0, 1) := by decide +kernel
theorem dX8_cart_61 : decode cX8_cart 61 = .ok (.ireturn, 1) := by decide +kernel
theorem dX8_cart_62 : decode cX8_cart 62 = .ok (.aload_n 0, 1) := by decide +kernel
theorem dX8_cart_63 : decode cX8_cart 63 = .ok (.getfield 9, 3) := by decide +kernel
theorem dX8_cart_66 : decode cX8_cart 66 = .ok (.iload_n 1, 1) := by decide +kernel
theorem dX8_cart_67 : decode cX8_cart 67 = .ok (.iconst 1, 1) := by decide +kernel
theorem dX8_cart_68 : decode cX8_cart 68 = .ok (.invokestatic 130, 3) := by decide +kernel
theorem dX8_cart_71 : decode cX8_cart 71 = .ok (.ireturn, 1) := by decide +kernel
theorem dX8_cart_72 : decode cX8_cart 72 = .ok (.aload_n 0, 1) := by decide +kernel
theorem dX8_cart_73 : decode cX8_cart 73 = .ok (.getfield 9, 3) := by decide +kernel
theorem dX8_cart_76 : decode cX8_cart 76 = .ok (.iload_n 1, 1) := by decide +kernel
theorem dX8_cart_77 : decode cX8_cart 77 = .ok (.iconst 2, 1) := by decide +kernel
theorem dX8_cart_78 : decode cX8_cart 78 = .ok (.invokestatic 130, 3) := by decide +kernel
theorem dX8_cart_81 : decode cX8_cart 81 = .ok (.ireturn, 1) := by decide +kernel
theorem dX8_cart_82 : decode cX8_cart 82 = .ok (.aload_n 0, 1) := by decide +kernel
theorem dX8_cart_83 : decode cX8_cart 83 = .ok (.getfield 9, 3) := by decide +kernel
theorem dX8_cart_86 : decode cX8_cart 86 = .ok (.iload_n 1, 1) := by decide +kernel
theorem dX8_cart_87 : decode cX8_cart 87 = .ok (.iconst 3, 1) := by decide +kernel
theorem dX8_cart_88 : decode cX8_cart 88 = .ok (.invokestatic 130, 3) := by decide +kernel
theorem dX8_cart_91 : decode cX8_cart 91 = .ok (.ireturn, 1) := by decide +kernel
theorem dX8_cart_92 : decode cX8_cart 92 = .ok (.aload_n 0, 1) := by decide +kernel
theorem dX8_cart_93 : decode cX8_cart 93 = .ok (.getfield 9, 3) := by decide +kernel
theorem dX8_cart_96 : decode cX8_cart 96 = .ok (.iload_n 1, 1) := by decide +kernel
theorem dX8_cart_97 : decode cX8_cart 97 = .ok (.iconst 4, 1) := by decide +kernel
theorem dX8_cart_98 : decode cX8_cart 98 = .ok (.invokestatic 130, 3) := by decide +kernel
theorem dX8_cart_101 : decode cX8_cart 101 = .ok (.ireturn, 1) := by decide +kernel
theorem dX8_cart_102 : decode cX8_cart 102 = .ok (.iconst (-1), 1) := by decide +kernel
theorem dX8_cart_103 : decode cX8_cart 103 = .ok (.ireturn, 1) := by decide +kernel
set_option maxHeartbeats 4000000 in
set_option maxRecDepth 100000 in
theorem c_X8_cart_f (l : Launch) (D : va_G) (cA : Nat → ClassId) (ad : Nat → Nat) (o : Int64) (σ : Mem) (a : Int32) (b : Int32) (hF : FrM σ) (sz : Nat) : Met l yX8_cart (WY yX8_cart cX8_cart 3 (some .int)) (RM 2) (va_Pc [.ref (ad 91), .int a, .int b] (PW D cA ad o σ sz)) (va_Qi (fun r _ => r = -1) (QW D cA ad o) (FA ad sz)) 0 0 (FA ad sz) := by
  refine ct_of (own := RX8) (k := 2) (Qf := va_Qi (fun r _ => r = -1) (QW D cA ad o)) rfl (by decide) (Nat.le_of_ble_eq_true rfl) (fun p e s m below meth c ls C0 X hr hlk hP hl => ?_) sz
  have hS : va_S (FA ad s.heap.size) s.heap s.heap [] := va_S.rf
  have hl : lv_has ls 3 [(0, .ref (ad 91)), (1, .int a), (2, .int b)] := hl
  obtain ⟨hx, hb, hml, hown, hts⟩ := id C0
  refine lv_aload_n hx hb dX8_cart_0 rfl (lv_at hl 0 rfl) ?_
  refine lv_iload_n hx hb dX8_cart_1 rfl (lv_at hl 1 rfl) ?_
  refine r_ci X hS (r_runV (As := [.int a]) (rest := []) C0 X hP L_X8_127 (fun sz => c_X8_isCart0 l D cA ad o σ a hF sz) (show 91 < 106 ∧ kd 91 = (8, 24) from ⟨by decide, rfl⟩).1 (show 91 < 106 ∧ kd 91 = (8, 24) from ⟨by decide, rfl⟩).2 (by decide) rfl ⟨Nat.le_of_ble_eq_true rfl, Nat.le_of_ble_eq_true rfl⟩ rfl hl.1 rfl (Nat.le_of_ble_eq_true rfl) dX8_cart_2 ⟨Nat.zero_le _, Nat.zero_le _⟩) (fun r σ9 H locs hw hP hS => ?_)
  rw [hw.2] at hP
  rw [hw.1]
  refine lv_if_ne (tgt := 10) hx hb dX8_cart_5 (by decide) (fun c_1 => absurd c_1 (by decide)) (fun c_1 => ?_)
  refine lv_iconst (v := (-1)) hx hb dX8_cart_8 (by decide) ?_
  exact r_iret C0 X hP hS hr hlk dX8_cart_9 rfl
theorem dX8_backs_0 : decode cX8_backs 0 = .ok (.aload_n 0, 1) := by decide +kernel
theorem dX8_backs_1 : decode cX8_backs 1 = .ok (.iload_n 1, 1) := by decide +kernel
theorem dX8_backs_2 : decode cX8_backs 2 = .ok (.invokevirtual 127, 3) := by decide +kernel
theorem dX8_backs_5 : decode cX8_backs 5 = .ok (.ifCond .eq 15, 3) := by decide +kernel
theorem dX8_backs_8 : decode cX8_backs 8 = .ok (.iload_n 2, 1) := by decide +kernel
theorem dX8_backs_9 : decode cX8_backs 9 = .ok (.i2l, 1) := by decide +kernel
theorem dX8_backs_10 : decode cX8_backs 10 = .ok (.lconst 0, 1) := by decide +kernel
theorem dX8_backs_11 : decode cX8_backs 11 = .ok (.ldc2_w 125, 3) := by decide +kernel
theorem dX8_backs_14 : decode cX8_backs 14 = .ok (.invokestatic 53, 3) := by decide +kernel
theorem dX8_backs_17 : decode cX8_backs 17 = .ok (.ifCond .ne 5, 3) := by decide +kernel
theorem dX8_backs_20 : decode cX8_backs 20 = .ok (.iconst (-1), 1) := by decide +kernel
theorem dX8_backs_21 : decode cX8_backs 21 = .ok (.ireturn, 1) := by decide +kernel
theorem dX8_backs_22 : decode cX8_backs 22 = .ok (.aload_n 0, 1) := by decide +kernel
theorem dX8_backs_23 : decode cX8_backs 23 = .ok (.getfield 9, 3) := by decide +kernel
theorem dX8_backs_26 : decode cX8_backs 26 = .ok (.iload_n 1, 1) := by decide +kernel
theorem dX8_backs_27 : decode cX8_backs 27 = .ok (.iconst 3, 1) := by decide +kernel
theorem dX8_backs_28 : decode cX8_backs 28 = .ok (.invokestatic 130, 3) := by decide +kernel
theorem dX8_backs_31 : decode cX8_backs 31 = .ok (.istore_n 3, 1) := by decide +kernel
theorem dX8_backs_32 : decode cX8_backs 32 = .ok (.aload_n 0, 1) := by decide +kernel
theorem dX8_backs_33 : decode cX8_backs 33 = .ok (.getfield 9, 3) := by decide +kernel
theorem dX8_backs_36 : decode cX8_backs 36 = .ok (.iload_n 1, 1) := by decide +kernel
theorem dX8_backs_37 : decode cX8_backs 37 = .ok (.iconst 3, 1) := by decide +kernel
theorem dX8_backs_38 : decode cX8_backs 38 = .ok (.iload_n 2, 1) := by decide +kernel
theorem dX8_backs_39 : decode cX8_backs 39 = .ok (.invokestatic 97, 3) := by decide +kernel
theorem dX8_backs_42 : decode cX8_backs 42 = .ok (.iload_n 3, 1) := by decide +kernel
theorem dX8_backs_43 : decode cX8_backs 43 = .ok (.ireturn, 1) := by decide +kernel
set_option maxHeartbeats 4000000 in
set_option maxRecDepth 100000 in
theorem c_X8_backs_f (l : Launch) (D : va_G) (cA : Nat → ClassId) (ad : Nat → Nat) (o : Int64) (σ : Mem) (a : Int32) (b : Int32) (hF : FrM σ) (sz : Nat) : Met l yX8_backs (WY yX8_backs cX8_backs 4 (some .int)) (RM 2) (va_Pc [.ref (ad 91), .int a, .int b] (PW D cA ad o σ sz)) (va_Qi (fun r _ => r = -1) (QW D cA ad o) (FA ad sz)) 0 0 (FA ad sz) := by
  refine ct_of (own := RX8) (k := 2) (Qf := va_Qi (fun r _ => r = -1) (QW D cA ad o)) rfl (by decide) (Nat.le_of_ble_eq_true rfl) (fun p e s m below meth c ls C0 X hr hlk hP hl => ?_) sz
  have hS : va_S (FA ad s.heap.size) s.heap s.heap [] := va_S.rf
  have hl : lv_has ls 4 [(0, .ref (ad 91)), (1, .int a), (2, .int b)] := hl
  obtain ⟨hx, hb, hml, hown, hts⟩ := id C0
  refine lv_aload_n hx hb dX8_backs_0 rfl (lv_at hl 0 rfl) ?_
  refine lv_iload_n hx hb dX8_backs_1 rfl (lv_at hl 1 rfl) ?_
  refine r_ci X hS (r_runV (As := [.int a]) (rest := []) C0 X hP L_X8_127 (fun sz => c_X8_isCart0 l D cA ad o σ a hF sz) (show 91 < 106 ∧ kd 91 = (8, 24) from ⟨by decide, rfl⟩).1 (show 91 < 106 ∧ kd 91 = (8, 24) from ⟨by decide, rfl⟩).2 (by decide) rfl ⟨Nat.le_of_ble_eq_true rfl, Nat.le_of_ble_eq_true rfl⟩ rfl hl.1 rfl (Nat.le_of_ble_eq_true rfl) dX8_backs_2 ⟨Nat.zero_le _, Nat.zero_le _⟩) (fun r σ9 H locs hw hP hS => ?_)
  rw [hw.2] at hP
  rw [hw.1]
  refine lv_if_eq (tgt := 20) hx hb dX8_backs_5 (by decide) (fun c_1 => ?_) (fun c_1 => absurd c_1 (by decide))
  refine lv_iconst (v := (-1)) hx hb dX8_backs_20 (by decide) ?_
  exact r_iret C0 X hP hS hr hlk dX8_backs_21 rfl
theorem dX8_rule_0 : decode cX8_rule 0 = .ok (.iload_n 1, 1) := by decide +kernel
theorem dX8_rule_1 : decode cX8_rule 1 = .ok (.invokestatic 105, 3) := by decide +kernel
theorem dX8_rule_4 : decode cX8_rule 4 = .ok (.ifCond .eq 10, 3) := by decide +kernel
theorem dX8_rule_7 : decode cX8_rule 7 = .ok (.iload_n 2, 1) := by decide +kernel
theorem dX8_rule_8 : decode cX8_rule 8 = .ok (.invokestatic 134, 3) := by decide +kernel
theorem dX8_rule_11 : decode cX8_rule 11 = .ok (.ifCond .ne 5, 3) := by decide +kernel
theorem dX8_rule_14 : decode cX8_rule 14 = .ok (.iconst (-1), 1) := by decide +kernel
theorem dX8_rule_15 : decode cX8_rule 15 = .ok (.ireturn, 1) := by decide +kernel
theorem dX8_rule_16 : decode cX8_rule 16 = .ok (.aload_n 0, 1) := by decide +kernel
theorem dX8_rule_17 : decode cX8_rule 17 = .ok (.iload_n 1, 1) := by decide +kernel
theorem dX8_rule_18 : decode cX8_rule 18 = .ok (.invokevirtual 137, 3) := by decide +kernel
theorem dX8_rule_21 : decode cX8_rule 21 = .ok (.istore_n 3, 1) := by decide +kernel
theorem dX8_rule_22 : decode cX8_rule 22 = .ok (.iload_n 3, 1) := by decide +kernel
theorem dX8_rule_23 : decode cX8_rule 23 = .ok (.ifCond .eq 5, 3) := by decide +kernel
theorem dX8_rule_26 : decode cX8_rule 26 = .ok (.iload_n 3, 1) := by decide +kernel
theorem dX8_rule_27 : decode cX8_rule 27 = .ok (.ireturn, 1) := by decide +kernel
theorem dX8_rule_28 : decode cX8_rule 28 = .ok (.aload_n 0, 1) := by decide +kernel
theorem dX8_rule_29 : decode cX8_rule 29 = .ok (.getfield 9, 3) := by decide +kernel
theorem dX8_rule_32 : decode cX8_rule 32 = .ok (.bipush 38, 2) := by decide +kernel
theorem dX8_rule_34 : decode cX8_rule 34 = .ok (.iconst 2, 1) := by decide +kernel
theorem dX8_rule_35 : decode cX8_rule 35 = .ok (.iload_n 2, 1) := by decide +kernel
theorem dX8_rule_36 : decode cX8_rule 36 = .ok (.imul, 1) := by decide +kernel
theorem dX8_rule_37 : decode cX8_rule 37 = .ok (.iadd, 1) := by decide +kernel
theorem dX8_rule_38 : decode cX8_rule 38 = .ok (.aload_n 0, 1) := by decide +kernel
theorem dX8_rule_39 : decode cX8_rule 39 = .ok (.getfield 34, 3) := by decide +kernel
theorem dX8_rule_42 : decode cX8_rule 42 = .ok (.iload_n 1, 1) := by decide +kernel
theorem dX8_rule_43 : decode cX8_rule 43 = .ok (.iaload, 1) := by decide +kernel
theorem dX8_rule_44 : decode cX8_rule 44 = .ok (.iastore, 1) := by decide +kernel
theorem dX8_rule_45 : decode cX8_rule 45 = .ok (.aload_n 0, 1) := by decide +kernel
theorem dX8_rule_46 : decode cX8_rule 46 = .ok (.getfield 9, 3) := by decide +kernel
theorem dX8_rule_49 : decode cX8_rule 49 = .ok (.bipush 38, 2) := by decide +kernel
theorem dX8_rule_51 : decode cX8_rule 51 = .ok (.iconst 2, 1) := by decide +kernel
theorem dX8_rule_52 : decode cX8_rule 52 = .ok (.iload_n 2, 1) := by decide +kernel
theorem dX8_rule_53 : decode cX8_rule 53 = .ok (.imul, 1) := by decide +kernel
theorem dX8_rule_54 : decode cX8_rule 54 = .ok (.iadd, 1) := by decide +kernel
theorem dX8_rule_55 : decode cX8_rule 55 = .ok (.iconst 1, 1) := by decide +kernel
theorem dX8_rule_56 : decode cX8_rule 56 = .ok (.iadd, 1) := by decide +kernel
theorem dX8_rule_57 : decode cX8_rule 57 = .ok (.aload_n 0, 1) := by decide +kernel
theorem dX8_rule_58 : decode cX8_rule 58 = .ok (.getfield 37, 3) := by decide +kernel
theorem dX8_rule_61 : decode cX8_rule 61 = .ok (.iload_n 1, 1) := by decide +kernel
theorem dX8_rule_62 : decode cX8_rule 62 = .ok (.iaload, 1) := by decide +kernel
theorem dX8_rule_63 : decode cX8_rule 63 = .ok (.iastore, 1) := by decide +kernel
theorem dX8_rule_64 : decode cX8_rule 64 = .ok (.aload_n 0, 1) := by decide +kernel
theorem dX8_rule_65 : decode cX8_rule 65 = .ok (.getfield 34, 3) := by decide +kernel
theorem dX8_rule_68 : decode cX8_rule 68 = .ok (.iload_n 1, 1) := by decide +kernel
theorem dX8_rule_69 : decode cX8_rule 69 = .ok (.iaload, 1) := by decide +kernel
theorem dX8_rule_70 : decode cX8_rule 70 = .ok (.ireturn, 1) := by decide +kernel
set_option maxHeartbeats 4000000 in
set_option maxRecDepth 100000 in
theorem c_X8_rule_f (l : Launch) (D : va_G) (cA : Nat → ClassId) (ad : Nat → Nat) (o : Int64) (σ : Mem) (d : Int32) (v : Int32) (hF : FrM σ) (sz : Nat) : Met l yX8_rule (WY yX8_rule cX8_rule 4 (some .int)) (RM 3) (va_Pc [.ref (ad 91), .int d, .int v] (PW D cA ad o σ sz)) (va_Qi (fun r _ => r = (if (d < 0 ∨ 8 ≤ d) ∨ v < 0 ∨ 3 ≤ v then -1 else -11)) (QW D cA ad o) (FA ad sz)) 0 0 (FA ad sz) := by
  refine ct_of (own := RX8) (k := 3) (Qf := va_Qi (fun r _ => r = (if (d < 0 ∨ 8 ≤ d) ∨ v < 0 ∨ 3 ≤ v then -1 else -11)) (QW D cA ad o)) rfl (by decide) (Nat.le_of_ble_eq_true rfl) (fun p e s m below meth c ls C0 X hr hlk hP hl => ?_) sz
  have hS : va_S (FA ad s.heap.size) s.heap s.heap [] := va_S.rf
  have hl : lv_has ls 4 [(0, .ref (ad 91)), (1, .int d), (2, .int v)] := hl
  obtain ⟨hx, hb, hml, hown, hts⟩ := id C0
  refine lv_iload_n hx hb dX8_rule_0 rfl (lv_at hl 1 rfl) ?_
  refine r_ci X hS (r_runS (As := [.int d]) (rest := []) C0 X hP L_X8_105 (fun sz => c_X8_isShelf l D cA ad o σ d  sz) ⟨Nat.le_of_ble_eq_true rfl, Nat.le_of_ble_eq_true rfl⟩ rfl hl.1 rfl (Nat.le_of_ble_eq_true rfl) dX8_rule_1 ⟨Nat.zero_le _, Nat.zero_le _⟩) (fun r σ9 H locs hw hP hS => ?_)
  rw [hw.2] at hP
  obtain ⟨⟨b_1, rfl⟩ | ⟨b_1, rfl⟩, -⟩ := hw
  · refine lv_if_eq (tgt := 14) hx hb dX8_rule_4 (by decide) (fun c_2 => absurd c_2 (by decide)) (fun c_2 => ?_)
    refine lv_iload_n hx hb dX8_rule_7 rfl (lv_at hl 2 rfl) ?_
    refine r_ci X hS (r_runS (As := [.int v]) (rest := []) C0 X hP L_X8_134 (fun sz => c_X8_isVillage l D cA ad o σ v  sz) ⟨Nat.le_of_ble_eq_true rfl, Nat.le_of_ble_eq_true rfl⟩ rfl hl.1 rfl (Nat.le_of_ble_eq_true rfl) dX8_rule_8 ⟨Nat.zero_le _, Nat.zero_le _⟩) (fun r σ9 H locs hw hP hS => ?_)
    rw [hw.2] at hP
    obtain ⟨⟨b_3, rfl⟩ | ⟨b_3, rfl⟩, -⟩ := hw
    · refine lv_if_ne (tgt := 16) hx hb dX8_rule_11 (by decide) (fun c_4 => ?_) (fun c_4 => absurd c_4 (by decide))
      refine lv_aload_n hx hb dX8_rule_16 rfl (lv_at hl 0 rfl) ?_
      refine lv_iload_n hx hb dX8_rule_17 rfl (lv_at hl 1 rfl) ?_
      refine r_ci X hS (r_runV (As := [.int d]) (rest := []) C0 X hP L_X8_137 (fun sz => c_X8_wrongRule0 l D cA ad o σ d hF sz) (show 91 < 106 ∧ kd 91 = (8, 24) from ⟨by decide, rfl⟩).1 (show 91 < 106 ∧ kd 91 = (8, 24) from ⟨by decide, rfl⟩).2 (by decide) rfl ⟨Nat.le_of_ble_eq_true rfl, Nat.le_of_ble_eq_true rfl⟩ rfl hl.1 rfl (Nat.le_of_ble_eq_true rfl) dX8_rule_18 ⟨Nat.zero_le _, Nat.zero_le _⟩) (fun r σ9 H locs hw hP hS => ?_)
      rw [hw.2] at hP
      obtain ⟨⟨b_5, rfl⟩ | ⟨b_5, rfl⟩, -⟩ := hw
      · exact absurd b_5 b_1
      · refine lv_istore_n (lv' := [(3, .int (-11)), (0, .ref (ad 91)), (1, .int d), (2, .int v)]) hx hb dX8_rule_21 rfl hl (by decide) rfl (fun ls hl => ?_)
        refine lv_iload_n hx hb dX8_rule_22 rfl (lv_at hl 0 rfl) ?_
        refine lv_if_eq (tgt := 28) hx hb dX8_rule_23 (by decide) (fun c_6 => absurd c_6 (by decide)) (fun c_6 => ?_)
        refine lv_iload_n hx hb dX8_rule_26 rfl (lv_at hl 0 rfl) ?_
        exact r_iret C0 X hP hS hr hlk dX8_rule_27 (by simp only [b_1, b_3, b_5, if_true, if_false, ite_true, ite_false, true_and, and_true, false_and, and_false, true_or, or_true, false_or, or_false, not_true_eq_false, not_false_eq_true, ne_eq, and_self, or_self]; try rfl)
    · refine lv_if_ne (tgt := 16) hx hb dX8_rule_11 (by decide) (fun c_7 => absurd c_7 (by decide)) (fun c_7 => ?_)
      refine lv_iconst (v := (-1)) hx hb dX8_rule_14 (by decide) ?_
      exact r_iret C0 X hP hS hr hlk dX8_rule_15 (by simp only [b_1, b_3, if_true, if_false, ite_true, ite_false, true_and, and_true, false_and, and_false, true_or, or_true, false_or, or_false, not_true_eq_false, not_false_eq_true, ne_eq, and_self, or_self]; try rfl)
  · refine lv_if_eq (tgt := 14) hx hb dX8_rule_4 (by decide) (fun c_8 => ?_) (fun c_8 => absurd c_8 (by decide))
    refine lv_iconst (v := (-1)) hx hb dX8_rule_14 (by decide) ?_
    exact r_iret C0 X hP hS hr hlk dX8_rule_15 (by simp only [b_1, if_true, if_false, ite_true, ite_false, true_and, and_true, false_and, and_false, true_or, or_true, false_or, or_false, not_true_eq_false, not_false_eq_true, ne_eq, and_self, or_self]; try rfl)
theorem dX8_go_0 : decode cX8_go 0 = .ok (.iload_n 1, 1) := by decide +kernel
theorem dX8_go_1 : decode cX8_go 1 = .ok (.i2l, 1) := by decide +kernel
theorem dX8_go_2 : decode cX8_go 2 = .ok (.lconst 1, 1) := by decide +kernel
theorem dX8_go_3 : decode cX8_go 3 = .ok (.ldc2_w 219, 3) := by decide +kernel
theorem dX8_go_6 : decode cX8_go 6 = .ok (.invokestatic 53, 3) := by decide +kernel
theorem dX8_go_9 : decode cX8_go 9 = .ok (.ifCond .ne 5, 3) := by decide +kernel
theorem dX8_go_12 : decode cX8_go 12 = .ok (.iconst (-1), 1) := by decide +kernel
theorem dX8_go_13 : decode cX8_go 13 = .ok (.ireturn, 1) := by decide +kernel
theorem dX8_go_14 : decode cX8_go 14 = .ok (.aload_n 0, 1) := by decide +kernel
theorem dX8_go_15 : decode cX8_go 15 = .ok (.invokevirtual 221, 3) := by decide +kernel
theorem dX8_go_18 : decode cX8_go 18 = .ok (.ifCond .ne 13, 3) := by decide +kernel
theorem dX8_go_21 : decode cX8_go 21 = .ok (.aload_n 0, 1) := by decide +kernel
theorem dX8_go_22 : decode cX8_go 22 = .ok (.getfield 9, 3) := by decide +kernel
theorem dX8_go_25 : decode cX8_go 25 = .ok (.invokestatic 224, 3) := by decide +kernel
theorem dX8_go_28 : decode cX8_go 28 = .ok (.ifCond .eq 6, 3) := by decide +kernel
theorem dX8_go_31 : decode cX8_go 31 = .ok (.bipush (-3), 2) := by decide +kernel
theorem dX8_go_33 : decode cX8_go 33 = .ok (.ireturn, 1) := by decide +kernel
theorem dX8_go_34 : decode cX8_go 34 = .ok (.iconst 0, 1) := by decide +kernel
theorem dX8_go_35 : decode cX8_go 35 = .ok (.istore_n 2, 1) := by decide +kernel
theorem dX8_go_36 : decode cX8_go 36 = .ok (.iload_n 2, 1) := by decide +kernel
theorem dX8_go_37 : decode cX8_go 37 = .ok (.iload_n 1, 1) := by decide +kernel
theorem dX8_go_38 : decode cX8_go 38 = .ok (.if_icmp .ge 27, 3) := by decide +kernel
theorem dX8_go_41 : decode cX8_go 41 = .ok (.aload_n 0, 1) := by decide +kernel
theorem dX8_go_42 : decode cX8_go 42 = .ok (.getfield 9, 3) := by decide +kernel
theorem dX8_go_45 : decode cX8_go 45 = .ok (.invokestatic 224, 3) := by decide +kernel
theorem dX8_go_48 : decode cX8_go 48 = .ok (.ifCond .ne 17, 3) := by decide +kernel
theorem dX8_go_51 : decode cX8_go 51 = .ok (.aload_n 0, 1) := by decide +kernel
theorem dX8_go_52 : decode cX8_go 52 = .ok (.aload_n 0, 1) := by decide +kernel
theorem dX8_go_53 : decode cX8_go 53 = .ok (.getfield 9, 3) := by decide +kernel
theorem dX8_go_56 : decode cX8_go 56 = .ok (.invokevirtual 227, 3) := by decide +kernel
theorem dX8_go_59 : decode cX8_go 59 = .ok (.iinc 2 1, 3) := by decide +kernel
theorem dX8_go_62 : decode cX8_go 62 = .ok (.goto (-26), 3) := by decide +kernel
theorem dX8_go_65 : decode cX8_go 65 = .ok (.aload_n 0, 1) := by decide +kernel
theorem dX8_go_66 : decode cX8_go 66 = .ok (.getfield 9, 3) := by decide +kernel
theorem dX8_go_69 : decode cX8_go 69 = .ok (.iconst 2, 1) := by decide +kernel
theorem dX8_go_70 : decode cX8_go 70 = .ok (.iaload, 1) := by decide +kernel
theorem dX8_go_71 : decode cX8_go 71 = .ok (.ireturn, 1) := by decide +kernel
set_option maxHeartbeats 4000000 in
set_option maxRecDepth 100000 in
theorem c_X8_go_f (l : Launch) (D : va_G) (cA : Nat → ClassId) (ad : Nat → Nat) (o : Int64) (σ : Mem) (n : Int32) (hF : FrM σ) (sz : Nat) : Met l yX8_go (WY yX8_go cX8_go 3 (some .int)) (RM 1) (va_Pc [.ref (ad 91), .int n] (PW D cA ad o σ sz)) (va_Qi (fun r _ => r = (if n < 1 ∨ 200 < n then -1 else -3)) (QW D cA ad o) (FA ad sz)) 0 0 (FA ad sz) := by
  refine ct_of (own := RX8) (k := 1) (Qf := va_Qi (fun r _ => r = (if n < 1 ∨ 200 < n then -1 else -3)) (QW D cA ad o)) rfl (by decide) (Nat.le_of_ble_eq_true rfl) (fun p e s m below meth c ls C0 X hr hlk hP hl => ?_) sz
  have hS : va_S (FA ad s.heap.size) s.heap s.heap [] := va_S.rf
  have hl : lv_has ls 3 [(0, .ref (ad 91)), (1, .int n)] := hl
  obtain ⟨hx, hb, hml, hown, hts⟩ := id C0
  refine lv_iload_n hx hb dX8_go_0 rfl (lv_at hl 1 rfl) ?_
  refine lv_i2l (v := (n.toInt64)) hx hb dX8_go_1 rfl ?_
  refine lv_lconst (v := ((1 : Int32).toInt64)) hx hb dX8_go_2 (by decide) ?_
  refine lv_ldc2 (own := RX8) (index := 219) (v := 200) hx hb hown (hts _ (tm 1198 (by decide +kernel) (by decide +kernel))) dX8_go_3 ?_
  refine lv_topEl (y := ((200 : Int32).toInt64)) (by decide) ?_
  refine r_ci X hS (r_runS (As := [.long (n.toInt64), .long ((1 : Int32).toInt64), .long ((200 : Int32).toInt64)]) (rest := []) C0 X hP L_X8_53 (fun sz => c_X8_isIn l D cA ad o σ n 1 200 sz) ⟨Nat.le_of_ble_eq_true rfl, Nat.le_of_ble_eq_true rfl⟩ rfl hl.1 rfl (Nat.le_of_ble_eq_true rfl) dX8_go_6 ⟨Nat.zero_le _, Nat.zero_le _⟩) (fun r σ9 H locs hw hP hS => ?_)
  rw [hw.2] at hP
  obtain ⟨⟨b_1, rfl⟩ | ⟨b_1, rfl⟩, -⟩ := hw
  · have p_2 : ¬ n < 1 := Int32.not_lt.mpr b_1.1
    have p_3 : ¬ 200 < n := Int32.not_lt.mpr b_1.2
    have p_4 : ¬ 201 ≤ n := nsucc (by decide) p_3
    refine lv_if_ne (tgt := 14) hx hb dX8_go_9 (by decide) (fun c_5 => ?_) (fun c_5 => absurd c_5 (by decide))
    refine lv_aload_n hx hb dX8_go_14 rfl (lv_at hl 0 rfl) ?_
    refine r_ci X hS (r_runV (As := []) (rest := []) C0 X hP L_X8_221 (fun sz => c_X8_isEmpty0 l D cA ad o σ  hF sz) (show 91 < 106 ∧ kd 91 = (8, 24) from ⟨by decide, rfl⟩).1 (show 91 < 106 ∧ kd 91 = (8, 24) from ⟨by decide, rfl⟩).2 (by decide) rfl ⟨Nat.le_of_ble_eq_true rfl, Nat.le_of_ble_eq_true rfl⟩ rfl hl.1 rfl (Nat.le_of_ble_eq_true rfl) dX8_go_15 ⟨Nat.zero_le _, Nat.zero_le _⟩) (fun r σ9 H locs hw hP hS => ?_)
    rw [hw.2] at hP
    rw [hw.1]
    refine lv_if_ne (tgt := 31) hx hb dX8_go_18 (by decide) (fun c_6 => ?_) (fun c_6 => absurd c_6 (by decide))
    refine lv_bipush (v := (-3)) hx hb dX8_go_31 (by decide) ?_
    exact r_iret C0 X hP hS hr hlk dX8_go_33 (by simp only [p_2, p_3, p_4, Int32.not_lt.mp p_2, Int32.not_lt.mp p_3, Int32.not_le.mp p_4, if_true, if_false, ite_true, ite_false, true_and, and_true, false_and, and_false, true_or, or_true, false_or, or_false, not_true_eq_false, not_false_eq_true, ne_eq, and_self, or_self]; try rfl)
  · have p_7 : n < 1 ∨ 201 ≤ n := osucc (by decide) b_1
    refine lv_if_ne (tgt := 14) hx hb dX8_go_9 (by decide) (fun c_8 => absurd c_8 (by decide)) (fun c_8 => ?_)
    refine lv_iconst (v := (-1)) hx hb dX8_go_12 (by decide) ?_
    exact r_iret C0 X hP hS hr hlk dX8_go_13 (by simp only [b_1, p_7, if_true, if_false, ite_true, ite_false, true_and, and_true, false_and, and_false, true_or, or_true, false_or, or_false, not_true_eq_false, not_false_eq_true, ne_eq, and_self, or_self]; try rfl)
theorem dX8_anew_0 : decode cX8_anew 0 = .ok (.aload_n 0, 1) := by decide +kernel
theorem dX8_anew_1 : decode cX8_anew 1 = .ok (.getfield 9, 3) := by decide +kernel
theorem dX8_anew_4 : decode cX8_anew 4 = .ok (.invokestatic 231, 3) := by decide +kernel
theorem dX8_anew_7 : decode cX8_anew 7 = .ok (.aload_n 0, 1) := by decide +kernel
theorem dX8_anew_8 : decode cX8_anew 8 = .ok (.getfield 9, 3) := by decide +kernel
theorem dX8_anew_11 : decode cX8_anew 11 = .ok (.iconst 1, 1) := by decide +kernel
theorem dX8_anew_12 : decode cX8_anew 12 = .ok (.iaload, 1) := by decide +kernel
theorem dX8_anew_13 : decode cX8_anew 13 = .ok (.ireturn, 1) := by decide +kernel
set_option maxHeartbeats 4000000 in
set_option maxRecDepth 100000 in
theorem c_X8_anew_f (l : Launch) (D : va_G) (cA : Nat → ClassId) (ad : Nat → Nat) (o : Int64) (σ : Mem)  (hF : FrM σ) (sz : Nat) : Met l yX8_anew (WY yX8_anew cX8_anew 1 (some .int)) (RM 1) (va_Pc [.ref (ad 91)] (PW D cA ad o σ sz)) (va_Qi (fun r _ => r = 0) (QW D cA ad o) (FA ad sz)) 0 0 (FA ad sz) := by
  refine ct_of (own := RX8) (k := 1) (Qf := va_Qi (fun r _ => r = 0) (QW D cA ad o)) rfl (by decide) (Nat.le_of_ble_eq_true rfl) (fun p e s m below meth c ls C0 X hr hlk hP hl => ?_) sz
  have hS : va_S (FA ad s.heap.size) s.heap s.heap [] := va_S.rf
  have hl : lv_has ls 1 [(0, .ref (ad 91))] := hl
  obtain ⟨hx, hb, hml, hown, hts⟩ := id C0
  refine lv_aload_n hx hb dX8_anew_0 rfl (lv_at hl 0 rfl) ?_
  refine gf_X8_9 C0 X hP 91 (q := 92) ⟨by decide, rfl⟩ (by omega) rfl dX8_anew_1 ?_
  refine r_cv X hS (r_runS (As := [.ref (ad 92)]) (rest := []) C0 X hP L_X8_231 (fun sz => c_X8_anews0 l D cA ad o σ () hF sz) ⟨Nat.le_of_ble_eq_true rfl, Nat.le_of_ble_eq_true rfl⟩ rfl hl.1 rfl (Nat.le_of_ble_eq_true rfl) dX8_anew_4 ⟨Nat.zero_le _, Nat.zero_le _⟩) (fun σ9 H locs hw hP hS => ?_)
  rw [hw] at hP
  refine lv_aload_n hx hb dX8_anew_7 rfl (lv_at hl 0 rfl) ?_
  refine gf_X8_9 C0 X hP 91 (q := 92) ⟨by decide, rfl⟩ (by omega) rfl dX8_anew_8 ?_
  refine lv_iconst (v := 1) hx hb dX8_anew_11 (by decide) ?_
  refine r_ialdN C0 X hP 92 (k := 1) ⟨by decide, rfl⟩ rfl (by decide) dX8_anew_12 ?_
  refine lv_topE (y := 0) (by simp [stm, upd]; exact FrM_s hF (by decide)) ?_
  exact r_iret C0 X hP hS hr hlk dX8_anew_13 rfl
theorem dX8_where_0 : decode cX8_where 0 = .ok (.aload_n 0, 1) := by decide +kernel
theorem dX8_where_1 : decode cX8_where 1 = .ok (.iload_n 1, 1) := by decide +kernel
theorem dX8_where_2 : decode cX8_where 2 = .ok (.invokevirtual 127, 3) := by decide +kernel
theorem dX8_where_5 : decode cX8_where 5 = .ok (.ifCond .ne 6, 3) := by decide +kernel
theorem dX8_where_8 : decode cX8_where 8 = .ok (.ldc 234, 2) := by decide +kernel
theorem dX8_where_10 : decode cX8_where 10 = .ok (.ireturn, 1) := by decide +kernel
theorem dX8_where_11 : decode cX8_where 11 = .ok (.iload_n 2, 1) := by decide +kernel
theorem dX8_where_12 : decode cX8_where 12 = .ok (.tableswitch 98 0 4 #[36, 46, 65, 76, 87], 36) := by decide +kernel
theorem dX8_where_48 : decode cX8_where 48 = .ok (.aload_n 0, 1) := by decide +kernel
theorem dX8_where_49 : decode cX8_where 49 = .ok (.getfield 9, 3) := by decide +kernel
theorem dX8_where_52 : decode cX8_where 52 = .ok (.iload_n 1, 1) := by decide +kernel
theorem dX8_where_53 : decode cX8_where 53 = .ok (.iconst 5, 1) := by decide +kernel
theorem dX8_where_54 : decode cX8_where 54 = .ok (.invokestatic 130, 3) := by decide +kernel
theorem dX8_where_57 : decode cX8_where 57 = .ok (.ireturn, 1) := by decide +kernel
theorem dX8_where_58 : decode cX8_where 58 = .ok (.aload_n 0, 1) := by decide +kernel
theorem dX8_where_59 : decode cX8_where 59 = .ok (.getfield 9, 3) := by decide +kernel
theorem dX8_where_62 : decode cX8_where 62 = .ok (.iload_n 1, 1) := by decide +kernel
theorem dX8_where_63 : decode cX8_where 63 = .ok (.bipush 6, 2) := by decide +kernel
theorem dX8_where_65 : decode cX8_where 65 = .ok (.invokestatic 130, 3) := by decide +kernel
theorem dX8_where_68 : decode cX8_where 68 = .ok (.ifCond .le 7, 3) := by decide +kernel
theorem dX8_where_71 : decode cX8_where 71 = .ok (.iconst 1, 1) := by decide +kernel
theorem dX8_where_72 : decode cX8_where 72 = .ok (.goto 4, 3) := by decide +kernel
theorem dX8_where_75 : decode cX8_where 75 = .ok (.iconst 0, 1) := by decide +kernel
theorem dX8_where_76 : decode cX8_where 76 = .ok (.ireturn, 1) := by decide +kernel
theorem dX8_where_77 : decode cX8_where 77 = .ok (.aload_n 0, 1) := by decide +kernel
theorem dX8_where_78 : decode cX8_where 78 = .ok (.getfield 9, 3) := by decide +kernel
theorem dX8_where_81 : decode cX8_where 81 = .ok (.iload_n 1, 1) := by decide +kernel
theorem dX8_where_82 : decode cX8_where 82 = .ok (.bipush 7, 2) := by decide +kernel
theorem dX8_where_84 : decode cX8_where 84 = .ok (.invokestatic 130, 3) := by decide +kernel
theorem dX8_where_87 : decode cX8_where 87 = .ok (.ireturn, 1) := by decide +kernel
theorem dX8_where_88 : decode cX8_where 88 = .ok (.aload_n 0, 1) := by decide +kernel
theorem dX8_where_89 : decode cX8_where 89 = .ok (.getfield 9, 3) := by decide +kernel
theorem dX8_where_92 : decode cX8_where 92 = .ok (.iload_n 1, 1) := by decide +kernel
theorem dX8_where_93 : decode cX8_where 93 = .ok (.bipush 8, 2) := by decide +kernel
theorem dX8_where_95 : decode cX8_where 95 = .ok (.invokestatic 130, 3) := by decide +kernel
theorem dX8_where_98 : decode cX8_where 98 = .ok (.ireturn, 1) := by decide +kernel
theorem dX8_where_99 : decode cX8_where 99 = .ok (.aload_n 0, 1) := by decide +kernel
theorem dX8_where_100 : decode cX8_where 100 = .ok (.getfield 9, 3) := by decide +kernel
theorem dX8_where_103 : decode cX8_where 103 = .ok (.iload_n 1, 1) := by decide +kernel
theorem dX8_where_104 : decode cX8_where 104 = .ok (.bipush 9, 2) := by decide +kernel
theorem dX8_where_106 : decode cX8_where 106 = .ok (.invokestatic 130, 3) := by decide +kernel
theorem dX8_where_109 : decode cX8_where 109 = .ok (.ireturn, 1) := by decide +kernel
theorem dX8_where_110 : decode cX8_where 110 = .ok (.ldc 234, 2) := by decide +kernel
theorem dX8_where_112 : decode cX8_where 112 = .ok (.ireturn, 1) := by decide +kernel
set_option maxHeartbeats 4000000 in
set_option maxRecDepth 100000 in
theorem c_X8_where_f (l : Launch) (D : va_G) (cA : Nat → ClassId) (ad : Nat → Nat) (o : Int64) (σ : Mem) (a : Int32) (b : Int32) (hF : FrM σ) (sz : Nat) : Met l yX8_where (WY yX8_where cX8_where 3 (some .int)) (RM 2) (va_Pc [.ref (ad 91), .int a, .int b] (PW D cA ad o σ sz)) (va_Qi (fun r _ => r = -1000000001) (QW D cA ad o) (FA ad sz)) 0 0 (FA ad sz) := by
  refine ct_of (own := RX8) (k := 2) (Qf := va_Qi (fun r _ => r = -1000000001) (QW D cA ad o)) rfl (by decide) (Nat.le_of_ble_eq_true rfl) (fun p e s m below meth c ls C0 X hr hlk hP hl => ?_) sz
  have hS : va_S (FA ad s.heap.size) s.heap s.heap [] := va_S.rf
  have hl : lv_has ls 3 [(0, .ref (ad 91)), (1, .int a), (2, .int b)] := hl
  obtain ⟨hx, hb, hml, hown, hts⟩ := id C0
  refine lv_aload_n hx hb dX8_where_0 rfl (lv_at hl 0 rfl) ?_
  refine lv_iload_n hx hb dX8_where_1 rfl (lv_at hl 1 rfl) ?_
  refine r_ci X hS (r_runV (As := [.int a]) (rest := []) C0 X hP L_X8_127 (fun sz => c_X8_isCart0 l D cA ad o σ a hF sz) (show 91 < 106 ∧ kd 91 = (8, 24) from ⟨by decide, rfl⟩).1 (show 91 < 106 ∧ kd 91 = (8, 24) from ⟨by decide, rfl⟩).2 (by decide) rfl ⟨Nat.le_of_ble_eq_true rfl, Nat.le_of_ble_eq_true rfl⟩ rfl hl.1 rfl (Nat.le_of_ble_eq_true rfl) dX8_where_2 ⟨Nat.zero_le _, Nat.zero_le _⟩) (fun r σ9 H locs hw hP hS => ?_)
  rw [hw.2] at hP
  rw [hw.1]
  refine lv_if_ne (tgt := 11) hx hb dX8_where_5 (by decide) (fun c_1 => absurd c_1 (by decide)) (fun c_1 => ?_)
  refine lv_ldc (own := RX8) (index := 234) (v := (-1000000001)) hx hb hown (hts _ (tm 1284 (by decide +kernel) (by decide +kernel))) dX8_where_8 ?_
  exact r_iret C0 X hP hS hr hlk dX8_where_10 rfl
theorem dX8_state_0 : decode cX8_state 0 = .ok (.iload_n 1, 1) := by decide +kernel
theorem dX8_state_1 : decode cX8_state 1 = .ok (.tableswitch 97 0 5 #[39, 46, 56, 66, 74, 90], 39) := by decide +kernel
theorem dX8_state_40 : decode cX8_state 40 = .ok (.aload_n 0, 1) := by decide +kernel
theorem dX8_state_41 : decode cX8_state 41 = .ok (.getfield 9, 3) := by decide +kernel
theorem dX8_state_44 : decode cX8_state 44 = .ok (.iconst 2, 1) := by decide +kernel
theorem dX8_state_45 : decode cX8_state 45 = .ok (.iaload, 1) := by decide +kernel
theorem dX8_state_46 : decode cX8_state 46 = .ok (.ireturn, 1) := by decide +kernel
theorem dX8_state_47 : decode cX8_state 47 = .ok (.aload_n 0, 1) := by decide +kernel
theorem dX8_state_48 : decode cX8_state 48 = .ok (.getfield 9, 3) := by decide +kernel
theorem dX8_state_51 : decode cX8_state 51 = .ok (.bipush 8, 2) := by decide +kernel
theorem dX8_state_53 : decode cX8_state 53 = .ok (.invokestatic 235, 3) := by decide +kernel
theorem dX8_state_56 : decode cX8_state 56 = .ok (.ireturn, 1) := by decide +kernel
theorem dX8_state_57 : decode cX8_state 57 = .ok (.aload_n 0, 1) := by decide +kernel
theorem dX8_state_58 : decode cX8_state 58 = .ok (.getfield 9, 3) := by decide +kernel
theorem dX8_state_61 : decode cX8_state 61 = .ok (.bipush 9, 2) := by decide +kernel
theorem dX8_state_63 : decode cX8_state 63 = .ok (.invokestatic 235, 3) := by decide +kernel
theorem dX8_state_66 : decode cX8_state 66 = .ok (.ireturn, 1) := by decide +kernel
theorem dX8_state_67 : decode cX8_state 67 = .ok (.aload_n 0, 1) := by decide +kernel
theorem dX8_state_68 : decode cX8_state 68 = .ok (.getfield 9, 3) := by decide +kernel
theorem dX8_state_71 : decode cX8_state 71 = .ok (.invokestatic 212, 3) := by decide +kernel
theorem dX8_state_74 : decode cX8_state 74 = .ok (.ireturn, 1) := by decide +kernel
theorem dX8_state_75 : decode cX8_state 75 = .ok (.aload_n 0, 1) := by decide +kernel
theorem dX8_state_76 : decode cX8_state 76 = .ok (.getfield 9, 3) := by decide +kernel
theorem dX8_state_79 : decode cX8_state 79 = .ok (.invokestatic 215, 3) := by decide +kernel
theorem dX8_state_82 : decode cX8_state 82 = .ok (.ifCond .eq 7, 3) := by decide +kernel
theorem dX8_state_85 : decode cX8_state 85 = .ok (.iconst 1, 1) := by decide +kernel
theorem dX8_state_86 : decode cX8_state 86 = .ok (.goto 4, 3) := by decide +kernel
theorem dX8_state_89 : decode cX8_state 89 = .ok (.iconst 0, 1) := by decide +kernel
theorem dX8_state_90 : decode cX8_state 90 = .ok (.ireturn, 1) := by decide +kernel
theorem dX8_state_91 : decode cX8_state 91 = .ok (.aload_n 0, 1) := by decide +kernel
theorem dX8_state_92 : decode cX8_state 92 = .ok (.getfield 9, 3) := by decide +kernel
theorem dX8_state_95 : decode cX8_state 95 = .ok (.iconst 4, 1) := by decide +kernel
theorem dX8_state_96 : decode cX8_state 96 = .ok (.iaload, 1) := by decide +kernel
theorem dX8_state_97 : decode cX8_state 97 = .ok (.ireturn, 1) := by decide +kernel
theorem dX8_state_98 : decode cX8_state 98 = .ok (.iconst (-1), 1) := by decide +kernel
theorem dX8_state_99 : decode cX8_state 99 = .ok (.ireturn, 1) := by decide +kernel
set_option maxHeartbeats 4000000 in
set_option maxRecDepth 100000 in
theorem c_X8_state_f (l : Launch) (D : va_G) (cA : Nat → ClassId) (ad : Nat → Nat) (o : Int64) (σ : Mem) (w : Int32) (hF : FrM σ) (sz : Nat) : Met l yX8_state (WY yX8_state cX8_state 2 (some .int)) (RM 1) (va_Pc [.ref (ad 91), .int w] (PW D cA ad o σ sz)) (va_Qi (fun r _ => r = (if w = 0 ∨ w = 1 ∨ w = 2 ∨ w = 3 ∨ w = 4 ∨ w = 5 then 0 else -1)) (QW D cA ad o) (FA ad sz)) 0 0 (FA ad sz) := by
  refine ct_of (own := RX8) (k := 1) (Qf := va_Qi (fun r _ => r = (if w = 0 ∨ w = 1 ∨ w = 2 ∨ w = 3 ∨ w = 4 ∨ w = 5 then 0 else -1)) (QW D cA ad o)) rfl (by decide) (Nat.le_of_ble_eq_true rfl) (fun p e s m below meth c ls C0 X hr hlk hP hl => ?_) sz
  have hS : va_S (FA ad s.heap.size) s.heap s.heap [] := va_S.rf
  have hl : lv_has ls 2 [(0, .ref (ad 91)), (1, .int w)] := hl
  obtain ⟨hx, hb, hml, hown, hts⟩ := id C0
  refine lv_iload_n hx hb dX8_state_0 rfl (lv_at hl 1 rfl) ?_
  rcases sw_in (x := w) (lo := 0) (n := 6) with c_1 | ⟨j, hj, c_1⟩
  · have e_2 : ¬ w = 0 := sw_ne c_1 (by decide)
    have e_3 : ¬ w = 1 := sw_ne c_1 (by decide)
    have e_4 : ¬ w = 2 := sw_ne c_1 (by decide)
    have e_5 : ¬ w = 3 := sw_ne c_1 (by decide)
    have e_6 : ¬ w = 4 := sw_ne c_1 (by decide)
    have e_7 : ¬ w = 5 := sw_ne c_1 (by decide)
    refine lv_tableOut (tgt := 98) hx hb dX8_state_1 (by omega) (by decide) ?_
    refine lv_iconst (v := (-1)) hx hb dX8_state_98 (by decide) ?_
    exact r_iret C0 X hP hS hr hlk dX8_state_99 (by simp only [e_2, e_3, e_4, e_5, e_6, e_7, if_true, if_false, ite_true, ite_false, true_and, and_true, false_and, and_false, true_or, or_true, false_or, or_false, not_true_eq_false, not_false_eq_true, ne_eq, and_self, or_self]; try rfl)
  · rcases (show j = 0 ∨ j = 1 ∨ j = 2 ∨ j = 3 ∨ j = 4 ∨ j = 5 by omega) with rfl | rfl | rfl | rfl | rfl | rfl
    · have e_8 : w = 0 := sw_eq c_1 (by decide)
      refine lv_tableIn (off := 39) (tgt := 40) hx hb dX8_state_1 (by rw [e_8]; decide) (by rw [e_8]; decide) (by rw [e_8]; rfl) (by decide) ?_
      refine lv_aload_n hx hb dX8_state_40 rfl (lv_at hl 0 rfl) ?_
      refine gf_X8_9 C0 X hP 91 (q := 92) ⟨by decide, rfl⟩ (by omega) rfl dX8_state_41 ?_
      refine lv_iconst (v := 2) hx hb dX8_state_44 (by decide) ?_
      refine r_ialdN C0 X hP 92 (k := 2) ⟨by decide, rfl⟩ rfl (by decide) dX8_state_45 ?_
      refine lv_topE (y := 0) (FrM_s hF (by decide)) ?_
      exact r_iret C0 X hP hS hr hlk dX8_state_46 (by simp only [e_8, if_true, if_false, ite_true, ite_false, true_and, and_true, false_and, and_false, true_or, or_true, false_or, or_false, not_true_eq_false, not_false_eq_true, ne_eq, and_self, or_self]; try rfl)
    · have e_9 : w = 1 := sw_eq c_1 (by decide)
      refine lv_tableIn (off := 46) (tgt := 47) hx hb dX8_state_1 (by rw [e_9]; decide) (by rw [e_9]; decide) (by rw [e_9]; rfl) (by decide) ?_
      refine lv_aload_n hx hb dX8_state_47 rfl (lv_at hl 0 rfl) ?_
      refine gf_X8_9 C0 X hP 91 (q := 92) ⟨by decide, rfl⟩ (by omega) rfl dX8_state_48 ?_
      refine lv_bipush (v := 8) hx hb dX8_state_51 (by decide) ?_
      refine r_ci X hS (r_runS (As := [.ref (ad 92), .int 8]) (rest := []) C0 X hP L_X8_235 (fun sz => c_X8_allOf0 l D cA ad o σ () 8 hF sz) ⟨Nat.le_of_ble_eq_true rfl, Nat.le_of_ble_eq_true rfl⟩ rfl hl.1 rfl (Nat.le_of_ble_eq_true rfl) dX8_state_53 ⟨Nat.zero_le _, Nat.zero_le _⟩) (fun r σ9 H locs hw hP hS => ?_)
      rw [hw.2] at hP
      rw [hw.1]
      exact r_iret C0 X hP hS hr hlk dX8_state_56 (by simp only [e_9, if_true, if_false, ite_true, ite_false, true_and, and_true, false_and, and_false, true_or, or_true, false_or, or_false, not_true_eq_false, not_false_eq_true, ne_eq, and_self, or_self]; try rfl)
    · have e_10 : w = 2 := sw_eq c_1 (by decide)
      refine lv_tableIn (off := 56) (tgt := 57) hx hb dX8_state_1 (by rw [e_10]; decide) (by rw [e_10]; decide) (by rw [e_10]; rfl) (by decide) ?_
      refine lv_aload_n hx hb dX8_state_57 rfl (lv_at hl 0 rfl) ?_
      refine gf_X8_9 C0 X hP 91 (q := 92) ⟨by decide, rfl⟩ (by omega) rfl dX8_state_58 ?_
      refine lv_bipush (v := 9) hx hb dX8_state_61 (by decide) ?_
      refine r_ci X hS (r_runS (As := [.ref (ad 92), .int 9]) (rest := []) C0 X hP L_X8_235 (fun sz => c_X8_allOf0 l D cA ad o σ () 9 hF sz) ⟨Nat.le_of_ble_eq_true rfl, Nat.le_of_ble_eq_true rfl⟩ rfl hl.1 rfl (Nat.le_of_ble_eq_true rfl) dX8_state_63 ⟨Nat.zero_le _, Nat.zero_le _⟩) (fun r σ9 H locs hw hP hS => ?_)
      rw [hw.2] at hP
      rw [hw.1]
      exact r_iret C0 X hP hS hr hlk dX8_state_66 (by simp only [e_10, if_true, if_false, ite_true, ite_false, true_and, and_true, false_and, and_false, true_or, or_true, false_or, or_false, not_true_eq_false, not_false_eq_true, ne_eq, and_self, or_self]; try rfl)
    · have e_11 : w = 3 := sw_eq c_1 (by decide)
      refine lv_tableIn (off := 66) (tgt := 67) hx hb dX8_state_1 (by rw [e_11]; decide) (by rw [e_11]; decide) (by rw [e_11]; rfl) (by decide) ?_
      refine lv_aload_n hx hb dX8_state_67 rfl (lv_at hl 0 rfl) ?_
      refine gf_X8_9 C0 X hP 91 (q := 92) ⟨by decide, rfl⟩ (by omega) rfl dX8_state_68 ?_
      refine r_ci X hS (r_runS (As := [.ref (ad 92)]) (rest := []) C0 X hP L_X8_212 (fun sz => c_X8_doneOf0 l D cA ad o σ () hF sz) ⟨Nat.le_of_ble_eq_true rfl, Nat.le_of_ble_eq_true rfl⟩ rfl hl.1 rfl (Nat.le_of_ble_eq_true rfl) dX8_state_71 ⟨Nat.zero_le _, Nat.zero_le _⟩) (fun r σ9 H locs hw hP hS => ?_)
      rw [hw.2] at hP
      rw [hw.1]
      exact r_iret C0 X hP hS hr hlk dX8_state_74 (by simp only [e_11, if_true, if_false, ite_true, ite_false, true_and, and_true, false_and, and_false, true_or, or_true, false_or, or_false, not_true_eq_false, not_false_eq_true, ne_eq, and_self, or_self]; try rfl)
    · have e_12 : w = 4 := sw_eq c_1 (by decide)
      refine lv_tableIn (off := 74) (tgt := 75) hx hb dX8_state_1 (by rw [e_12]; decide) (by rw [e_12]; decide) (by rw [e_12]; rfl) (by decide) ?_
      refine lv_aload_n hx hb dX8_state_75 rfl (lv_at hl 0 rfl) ?_
      refine gf_X8_9 C0 X hP 91 (q := 92) ⟨by decide, rfl⟩ (by omega) rfl dX8_state_76 ?_
      refine r_ci X hS (r_runS (As := [.ref (ad 92)]) (rest := []) C0 X hP L_X8_215 (fun sz => c_X8_stands0 l D cA ad o σ () hF sz) ⟨Nat.le_of_ble_eq_true rfl, Nat.le_of_ble_eq_true rfl⟩ rfl hl.1 rfl (Nat.le_of_ble_eq_true rfl) dX8_state_79 ⟨Nat.zero_le _, Nat.zero_le _⟩) (fun r σ9 H locs hw hP hS => ?_)
      rw [hw.2] at hP
      rw [hw.1]
      refine lv_if_eq (tgt := 89) hx hb dX8_state_82 (by decide) (fun c_13 => ?_) (fun c_13 => absurd c_13 (by decide))
      refine lv_iconst (v := 0) hx hb dX8_state_89 (by decide) ?_
      exact r_iret C0 X hP hS hr hlk dX8_state_90 (by simp only [e_12, if_true, if_false, ite_true, ite_false, true_and, and_true, false_and, and_false, true_or, or_true, false_or, or_false, not_true_eq_false, not_false_eq_true, ne_eq, and_self, or_self]; try rfl)
    · have e_14 : w = 5 := sw_eq c_1 (by decide)
      refine lv_tableIn (off := 90) (tgt := 91) hx hb dX8_state_1 (by rw [e_14]; decide) (by rw [e_14]; decide) (by rw [e_14]; rfl) (by decide) ?_
      refine lv_aload_n hx hb dX8_state_91 rfl (lv_at hl 0 rfl) ?_
      refine gf_X8_9 C0 X hP 91 (q := 92) ⟨by decide, rfl⟩ (by omega) rfl dX8_state_92 ?_
      refine lv_iconst (v := 4) hx hb dX8_state_95 (by decide) ?_
      refine r_ialdN C0 X hP 92 (k := 4) ⟨by decide, rfl⟩ rfl (by decide) dX8_state_96 ?_
      refine lv_topE (y := 0) (FrM_s hF (by decide)) ?_
      exact r_iret C0 X hP hS hr hlk dX8_state_97 (by simp only [e_14, if_true, if_false, ite_true, ite_false, true_and, and_true, false_and, and_false, true_or, or_true, false_or, or_false, not_true_eq_false, not_false_eq_true, ne_eq, and_self, or_self]; try rfl)
theorem dX8_enters_0 : decode cX8_enters 0 = .ok (.aload_n 0, 1) := by decide +kernel
theorem dX8_enters_1 : decode cX8_enters 1 = .ok (.iload_n 1, 1) := by decide +kernel
theorem dX8_enters_2 : decode cX8_enters 2 = .ok (.invokevirtual 127, 3) := by decide +kernel
theorem dX8_enters_5 : decode cX8_enters 5 = .ok (.ifCond .ne 5, 3) := by decide +kernel
theorem dX8_enters_8 : decode cX8_enters 8 = .ok (.iconst (-1), 1) := by decide +kernel
theorem dX8_enters_9 : decode cX8_enters 9 = .ok (.ireturn, 1) := by decide +kernel
theorem dX8_enters_10 : decode cX8_enters 10 = .ok (.aload_n 0, 1) := by decide +kernel
theorem dX8_enters_11 : decode cX8_enters 11 = .ok (.getfield 9, 3) := by decide +kernel
theorem dX8_enters_14 : decode cX8_enters 14 = .ok (.iload_n 1, 1) := by decide +kernel
theorem dX8_enters_15 : decode cX8_enters 15 = .ok (.invokestatic 157, 3) := by decide +kernel
theorem dX8_enters_18 : decode cX8_enters 18 = .ok (.ifCond .eq 22, 3) := by decide +kernel
theorem dX8_enters_21 : decode cX8_enters 21 = .ok (.aload_n 0, 1) := by decide +kernel
theorem dX8_enters_22 : decode cX8_enters 22 = .ok (.getfield 9, 3) := by decide +kernel
theorem dX8_enters_25 : decode cX8_enters 25 = .ok (.aload_n 0, 1) := by decide +kernel
theorem dX8_enters_26 : decode cX8_enters 26 = .ok (.getfield 9, 3) := by decide +kernel
theorem dX8_enters_29 : decode cX8_enters 29 = .ok (.iload_n 1, 1) := by decide +kernel
theorem dX8_enters_30 : decode cX8_enters 30 = .ok (.iconst 5, 1) := by decide +kernel
theorem dX8_enters_31 : decode cX8_enters 31 = .ok (.invokestatic 130, 3) := by decide +kernel
theorem dX8_enters_34 : decode cX8_enters 34 = .ok (.invokestatic 145, 3) := by decide +kernel
theorem dX8_enters_37 : decode cX8_enters 37 = .ok (.ifCond .ge 6, 3) := by decide +kernel
theorem dX8_enters_40 : decode cX8_enters 40 = .ok (.bipush (-3), 2) := by decide +kernel
theorem dX8_enters_42 : decode cX8_enters 42 = .ok (.ireturn, 1) := by decide +kernel
theorem dX8_enters_43 : decode cX8_enters 43 = .ok (.aload_n 0, 1) := by decide +kernel
theorem dX8_enters_44 : decode cX8_enters 44 = .ok (.getfield 9, 3) := by decide +kernel
theorem dX8_enters_47 : decode cX8_enters 47 = .ok (.iload_n 1, 1) := by decide +kernel
theorem dX8_enters_48 : decode cX8_enters 48 = .ok (.aload_n 0, 1) := by decide +kernel
theorem dX8_enters_49 : decode cX8_enters 49 = .ok (.getfield 9, 3) := by decide +kernel
theorem dX8_enters_52 : decode cX8_enters 52 = .ok (.bipush 14, 2) := by decide +kernel
theorem dX8_enters_54 : decode cX8_enters 54 = .ok (.iconst 3, 1) := by decide +kernel
theorem dX8_enters_55 : decode cX8_enters 55 = .ok (.aload_n 0, 1) := by decide +kernel
theorem dX8_enters_56 : decode cX8_enters 56 = .ok (.getfield 9, 3) := by decide +kernel
theorem dX8_enters_59 : decode cX8_enters 59 = .ok (.aload_n 0, 1) := by decide +kernel
theorem dX8_enters_60 : decode cX8_enters 60 = .ok (.getfield 9, 3) := by decide +kernel
theorem dX8_enters_63 : decode cX8_enters 63 = .ok (.iload_n 1, 1) := by decide +kernel
theorem dX8_enters_64 : decode cX8_enters 64 = .ok (.iconst 5, 1) := by decide +kernel
theorem dX8_enters_65 : decode cX8_enters 65 = .ok (.invokestatic 130, 3) := by decide +kernel
theorem dX8_enters_68 : decode cX8_enters 68 = .ok (.aload_n 0, 1) := by decide +kernel
theorem dX8_enters_69 : decode cX8_enters 69 = .ok (.getfield 9, 3) := by decide +kernel
theorem dX8_enters_72 : decode cX8_enters 72 = .ok (.iload_n 1, 1) := by decide +kernel
theorem dX8_enters_73 : decode cX8_enters 73 = .ok (.iconst 0, 1) := by decide +kernel
theorem dX8_enters_74 : decode cX8_enters 74 = .ok (.invokestatic 130, 3) := by decide +kernel
theorem dX8_enters_77 : decode cX8_enters 77 = .ok (.invokestatic 161, 3) := by decide +kernel
theorem dX8_enters_80 : decode cX8_enters 80 = .ok (.imul, 1) := by decide +kernel
theorem dX8_enters_81 : decode cX8_enters 81 = .ok (.iadd, 1) := by decide +kernel
theorem dX8_enters_82 : decode cX8_enters 82 = .ok (.iconst 2, 1) := by decide +kernel
theorem dX8_enters_83 : decode cX8_enters 83 = .ok (.iadd, 1) := by decide +kernel
theorem dX8_enters_84 : decode cX8_enters 84 = .ok (.iaload, 1) := by decide +kernel
theorem dX8_enters_85 : decode cX8_enters 85 = .ok (.invokestatic 184, 3) := by decide +kernel
theorem dX8_enters_88 : decode cX8_enters 88 = .ok (.ifCond .eq 7, 3) := by decide +kernel
theorem dX8_enters_91 : decode cX8_enters 91 = .ok (.iconst 1, 1) := by decide +kernel
theorem dX8_enters_92 : decode cX8_enters 92 = .ok (.goto 4, 3) := by decide +kernel
theorem dX8_enters_95 : decode cX8_enters 95 = .ok (.iconst 0, 1) := by decide +kernel
theorem dX8_enters_96 : decode cX8_enters 96 = .ok (.ireturn, 1) := by decide +kernel
set_option maxHeartbeats 4000000 in
set_option maxRecDepth 100000 in
theorem c_X8_enters_f (l : Launch) (D : va_G) (cA : Nat → ClassId) (ad : Nat → Nat) (o : Int64) (σ : Mem) (a : Int32) (hF : FrM σ) (sz : Nat) : Met l yX8_enters (WY yX8_enters cX8_enters 2 (some .int)) (RM 2) (va_Pc [.ref (ad 91), .int a] (PW D cA ad o σ sz)) (va_Qi (fun r _ => r = -1) (QW D cA ad o) (FA ad sz)) 0 0 (FA ad sz) := by
  refine ct_of (own := RX8) (k := 2) (Qf := va_Qi (fun r _ => r = -1) (QW D cA ad o)) rfl (by decide) (Nat.le_of_ble_eq_true rfl) (fun p e s m below meth c ls C0 X hr hlk hP hl => ?_) sz
  have hS : va_S (FA ad s.heap.size) s.heap s.heap [] := va_S.rf
  have hl : lv_has ls 2 [(0, .ref (ad 91)), (1, .int a)] := hl
  obtain ⟨hx, hb, hml, hown, hts⟩ := id C0
  refine lv_aload_n hx hb dX8_enters_0 rfl (lv_at hl 0 rfl) ?_
  refine lv_iload_n hx hb dX8_enters_1 rfl (lv_at hl 1 rfl) ?_
  refine r_ci X hS (r_runV (As := [.int a]) (rest := []) C0 X hP L_X8_127 (fun sz => c_X8_isCart0 l D cA ad o σ a hF sz) (show 91 < 106 ∧ kd 91 = (8, 24) from ⟨by decide, rfl⟩).1 (show 91 < 106 ∧ kd 91 = (8, 24) from ⟨by decide, rfl⟩).2 (by decide) rfl ⟨Nat.le_of_ble_eq_true rfl, Nat.le_of_ble_eq_true rfl⟩ rfl hl.1 rfl (Nat.le_of_ble_eq_true rfl) dX8_enters_2 ⟨Nat.zero_le _, Nat.zero_le _⟩) (fun r σ9 H locs hw hP hS => ?_)
  rw [hw.2] at hP
  rw [hw.1]
  refine lv_if_ne (tgt := 10) hx hb dX8_enters_5 (by decide) (fun c_1 => absurd c_1 (by decide)) (fun c_1 => ?_)
  refine lv_iconst (v := (-1)) hx hb dX8_enters_8 (by decide) ?_
  exact r_iret C0 X hP hS hr hlk dX8_enters_9 rfl
theorem dX8_yields_0 : decode cX8_yields 0 = .ok (.aload_n 0, 1) := by decide +kernel
theorem dX8_yields_1 : decode cX8_yields 1 = .ok (.iload_n 1, 1) := by decide +kernel
theorem dX8_yields_2 : decode cX8_yields 2 = .ok (.invokevirtual 127, 3) := by decide +kernel
theorem dX8_yields_5 : decode cX8_yields 5 = .ok (.ifCond .eq 23, 3) := by decide +kernel
theorem dX8_yields_8 : decode cX8_yields 8 = .ok (.aload_n 0, 1) := by decide +kernel
theorem dX8_yields_9 : decode cX8_yields 9 = .ok (.iload_n 2, 1) := by decide +kernel
theorem dX8_yields_10 : decode cX8_yields 10 = .ok (.invokevirtual 127, 3) := by decide +kernel
theorem dX8_yields_13 : decode cX8_yields 13 = .ok (.ifCond .eq 15, 3) := by decide +kernel
theorem dX8_yields_16 : decode cX8_yields 16 = .ok (.iload_n 1, 1) := by decide +kernel
theorem dX8_yields_17 : decode cX8_yields 17 = .ok (.iload_n 2, 1) := by decide +kernel
theorem dX8_yields_18 : decode cX8_yields 18 = .ok (.if_icmp .eq 10, 3) := by decide +kernel
theorem dX8_yields_21 : decode cX8_yields 21 = .ok (.iload_n 3, 1) := by decide +kernel
theorem dX8_yields_22 : decode cX8_yields 22 = .ok (.invokestatic 134, 3) := by decide +kernel
theorem dX8_yields_25 : decode cX8_yields 25 = .ok (.ifCond .ne 5, 3) := by decide +kernel
theorem dX8_yields_28 : decode cX8_yields 28 = .ok (.iconst (-1), 1) := by decide +kernel
theorem dX8_yields_29 : decode cX8_yields 29 = .ok (.ireturn, 1) := by decide +kernel
theorem dX8_yields_30 : decode cX8_yields 30 = .ok (.aload_n 0, 1) := by decide +kernel
theorem dX8_yields_31 : decode cX8_yields 31 = .ok (.getfield 9, 3) := by decide +kernel
theorem dX8_yields_34 : decode cX8_yields 34 = .ok (.iload_n 1, 1) := by decide +kernel
theorem dX8_yields_35 : decode cX8_yields 35 = .ok (.invokestatic 157, 3) := by decide +kernel
theorem dX8_yields_38 : decode cX8_yields 38 = .ok (.ifCond .eq 35, 3) := by decide +kernel
theorem dX8_yields_41 : decode cX8_yields 41 = .ok (.aload_n 0, 1) := by decide +kernel
theorem dX8_yields_42 : decode cX8_yields 42 = .ok (.getfield 9, 3) := by decide +kernel
theorem dX8_yields_45 : decode cX8_yields 45 = .ok (.iload_n 2, 1) := by decide +kernel
theorem dX8_yields_46 : decode cX8_yields 46 = .ok (.invokestatic 157, 3) := by decide +kernel
theorem dX8_yields_49 : decode cX8_yields 49 = .ok (.ifCond .eq 24, 3) := by decide +kernel
theorem dX8_yields_52 : decode cX8_yields 52 = .ok (.aload_n 0, 1) := by decide +kernel
theorem dX8_yields_53 : decode cX8_yields 53 = .ok (.getfield 9, 3) := by decide +kernel
theorem dX8_yields_56 : decode cX8_yields 56 = .ok (.iload_n 1, 1) := by decide +kernel
theorem dX8_yields_57 : decode cX8_yields 57 = .ok (.iconst 0, 1) := by decide +kernel
theorem dX8_yields_58 : decode cX8_yields 58 = .ok (.invokestatic 130, 3) := by decide +kernel
theorem dX8_yields_61 : decode cX8_yields 61 = .ok (.aload_n 0, 1) := by decide +kernel
theorem dX8_yields_62 : decode cX8_yields 62 = .ok (.getfield 9, 3) := by decide +kernel
theorem dX8_yields_65 : decode cX8_yields 65 = .ok (.iload_n 2, 1) := by decide +kernel
theorem dX8_yields_66 : decode cX8_yields 66 = .ok (.iconst 0, 1) := by decide +kernel
theorem dX8_yields_67 : decode cX8_yields 67 = .ok (.invokestatic 130, 3) := by decide +kernel
theorem dX8_yields_70 : decode cX8_yields 70 = .ok (.if_icmp .ne 6, 3) := by decide +kernel
theorem dX8_yields_73 : decode cX8_yields 73 = .ok (.bipush (-3), 2) := by decide +kernel
theorem dX8_yields_75 : decode cX8_yields 75 = .ok (.ireturn, 1) := by decide +kernel
theorem dX8_yields_76 : decode cX8_yields 76 = .ok (.aload_n 0, 1) := by decide +kernel
theorem dX8_yields_77 : decode cX8_yields 77 = .ok (.getfield 9, 3) := by decide +kernel
theorem dX8_yields_80 : decode cX8_yields 80 = .ok (.iload_n 1, 1) := by decide +kernel
theorem dX8_yields_81 : decode cX8_yields 81 = .ok (.iconst 5, 1) := by decide +kernel
theorem dX8_yields_82 : decode cX8_yields 82 = .ok (.invokestatic 130, 3) := by decide +kernel
theorem dX8_yields_85 : decode cX8_yields 85 = .ok (.istore 4, 2) := by decide +kernel
theorem dX8_yields_87 : decode cX8_yields 87 = .ok (.aload_n 0, 1) := by decide +kernel
theorem dX8_yields_88 : decode cX8_yields 88 = .ok (.getfield 9, 3) := by decide +kernel
theorem dX8_yields_91 : decode cX8_yields 91 = .ok (.iload_n 1, 1) := by decide +kernel
theorem dX8_yields_92 : decode cX8_yields 92 = .ok (.iload_n 2, 1) := by decide +kernel
theorem dX8_yields_93 : decode cX8_yields 93 = .ok (.iload_n 3, 1) := by decide +kernel
theorem dX8_yields_94 : decode cX8_yields 94 = .ok (.aload_n 0, 1) := by decide +kernel
theorem dX8_yields_95 : decode cX8_yields 95 = .ok (.getfield 9, 3) := by decide +kernel
theorem dX8_yields_98 : decode cX8_yields 98 = .ok (.iload 4, 2) := by decide +kernel
theorem dX8_yields_100 : decode cX8_yields 100 = .ok (.invokestatic 145, 3) := by decide +kernel
theorem dX8_yields_103 : decode cX8_yields 103 = .ok (.ifCond .lt 8, 3) := by decide +kernel
theorem dX8_yields_106 : decode cX8_yields 106 = .ok (.bipush (-4), 2) := by decide +kernel
theorem dX8_yields_108 : decode cX8_yields 108 = .ok (.goto 13, 3) := by decide +kernel
theorem dX8_yields_111 : decode cX8_yields 111 = .ok (.aload_n 0, 1) := by decide +kernel
theorem dX8_yields_112 : decode cX8_yields 112 = .ok (.getfield 9, 3) := by decide +kernel
theorem dX8_yields_115 : decode cX8_yields 115 = .ok (.iload 4, 2) := by decide +kernel
theorem dX8_yields_117 : decode cX8_yields 117 = .ok (.iconst 1, 1) := by decide +kernel
theorem dX8_yields_118 : decode cX8_yields 118 = .ok (.invokestatic 161, 3) := by decide +kernel
theorem dX8_yields_121 : decode cX8_yields 121 = .ok (.invokestatic 200, 3) := by decide +kernel
theorem dX8_yields_124 : decode cX8_yields 124 = .ok (.ireturn, 1) := by decide +kernel
set_option maxHeartbeats 4000000 in
set_option maxRecDepth 100000 in
theorem c_X8_yields_f (l : Launch) (D : va_G) (cA : Nat → ClassId) (ad : Nat → Nat) (o : Int64) (σ : Mem) (a : Int32) (b : Int32) (v : Int32) (hF : FrM σ) (sz : Nat) : Met l yX8_yields (WY yX8_yields cX8_yields 5 (some .int)) (RM 2) (va_Pc [.ref (ad 91), .int a, .int b, .int v] (PW D cA ad o σ sz)) (va_Qi (fun r _ => r = -1) (QW D cA ad o) (FA ad sz)) 0 0 (FA ad sz) := by
  refine ct_of (own := RX8) (k := 2) (Qf := va_Qi (fun r _ => r = -1) (QW D cA ad o)) rfl (by decide) (Nat.le_of_ble_eq_true rfl) (fun p e s m below meth c ls C0 X hr hlk hP hl => ?_) sz
  have hS : va_S (FA ad s.heap.size) s.heap s.heap [] := va_S.rf
  have hl : lv_has ls 5 [(0, .ref (ad 91)), (1, .int a), (2, .int b), (3, .int v)] := hl
  obtain ⟨hx, hb, hml, hown, hts⟩ := id C0
  refine lv_aload_n hx hb dX8_yields_0 rfl (lv_at hl 0 rfl) ?_
  refine lv_iload_n hx hb dX8_yields_1 rfl (lv_at hl 1 rfl) ?_
  refine r_ci X hS (r_runV (As := [.int a]) (rest := []) C0 X hP L_X8_127 (fun sz => c_X8_isCart0 l D cA ad o σ a hF sz) (show 91 < 106 ∧ kd 91 = (8, 24) from ⟨by decide, rfl⟩).1 (show 91 < 106 ∧ kd 91 = (8, 24) from ⟨by decide, rfl⟩).2 (by decide) rfl ⟨Nat.le_of_ble_eq_true rfl, Nat.le_of_ble_eq_true rfl⟩ rfl hl.1 rfl (Nat.le_of_ble_eq_true rfl) dX8_yields_2 ⟨Nat.zero_le _, Nat.zero_le _⟩) (fun r σ9 H locs hw hP hS => ?_)
  rw [hw.2] at hP
  rw [hw.1]
  refine lv_if_eq (tgt := 28) hx hb dX8_yields_5 (by decide) (fun c_1 => ?_) (fun c_1 => absurd c_1 (by decide))
  refine lv_iconst (v := (-1)) hx hb dX8_yields_28 (by decide) ?_
  exact r_iret C0 X hP hS hr hlk dX8_yields_29 rfl
theorem dX8_judge_0 : decode cX8_judge 0 = .ok (.aload_n 0, 1) := by decide +kernel
theorem dX8_judge_1 : decode cX8_judge 1 = .ok (.iload_n 1, 1) := by decide +kernel
theorem dX8_judge_2 : decode cX8_judge 2 = .ok (.invokevirtual 127, 3) := by decide +kernel
theorem dX8_judge_5 : decode cX8_judge 5 = .ok (.ifCond .eq 10, 3) := by decide +kernel
theorem dX8_judge_8 : decode cX8_judge 8 = .ok (.iload_n 2, 1) := by decide +kernel
theorem dX8_judge_9 : decode cX8_judge 9 = .ok (.invokestatic 105, 3) := by decide +kernel
theorem dX8_judge_12 : decode cX8_judge 12 = .ok (.ifCond .ne 5, 3) := by decide +kernel
theorem dX8_judge_15 : decode cX8_judge 15 = .ok (.iconst (-1), 1) := by decide +kernel
theorem dX8_judge_16 : decode cX8_judge 16 = .ok (.ireturn, 1) := by decide +kernel
theorem dX8_judge_17 : decode cX8_judge 17 = .ok (.aload_n 0, 1) := by decide +kernel
theorem dX8_judge_18 : decode cX8_judge 18 = .ok (.iload_n 2, 1) := by decide +kernel
theorem dX8_judge_19 : decode cX8_judge 19 = .ok (.iconst (-1), 1) := by decide +kernel
theorem dX8_judge_20 : decode cX8_judge 20 = .ok (.invokevirtual 108, 3) := by decide +kernel
theorem dX8_judge_23 : decode cX8_judge 23 = .ok (.istore_n 3, 1) := by decide +kernel
theorem dX8_judge_24 : decode cX8_judge 24 = .ok (.iload_n 3, 1) := by decide +kernel
theorem dX8_judge_25 : decode cX8_judge 25 = .ok (.ifCond .ne 15, 3) := by decide +kernel
theorem dX8_judge_28 : decode cX8_judge 28 = .ok (.aload_n 0, 1) := by decide +kernel
theorem dX8_judge_29 : decode cX8_judge 29 = .ok (.getfield 9, 3) := by decide +kernel
theorem dX8_judge_32 : decode cX8_judge 32 = .ok (.iconst 0, 1) := by decide +kernel
theorem dX8_judge_33 : decode cX8_judge 33 = .ok (.iaload, 1) := by decide +kernel
theorem dX8_judge_34 : decode cX8_judge 34 = .ok (.ifCond .ne 6, 3) := by decide +kernel
theorem dX8_judge_37 : decode cX8_judge 37 = .ok (.bipush (-3), 2) := by decide +kernel
theorem dX8_judge_39 : decode cX8_judge 39 = .ok (.istore_n 3, 1) := by decide +kernel
theorem dX8_judge_40 : decode cX8_judge 40 = .ok (.iload_n 3, 1) := by decide +kernel
theorem dX8_judge_41 : decode cX8_judge 41 = .ok (.ifCond .eq 5, 3) := by decide +kernel
theorem dX8_judge_44 : decode cX8_judge 44 = .ok (.iload_n 3, 1) := by decide +kernel
theorem dX8_judge_45 : decode cX8_judge 45 = .ok (.ireturn, 1) := by decide +kernel
theorem dX8_judge_46 : decode cX8_judge 46 = .ok (.iconst 0, 1) := by decide +kernel
theorem dX8_judge_47 : decode cX8_judge 47 = .ok (.istore 4, 2) := by decide +kernel
theorem dX8_judge_49 : decode cX8_judge 49 = .ok (.iload 4, 2) := by decide +kernel
theorem dX8_judge_51 : decode cX8_judge 51 = .ok (.bipush 121, 2) := by decide +kernel
theorem dX8_judge_53 : decode cX8_judge 53 = .ok (.if_icmp .ge 23, 3) := by decide +kernel
theorem dX8_judge_56 : decode cX8_judge 56 = .ok (.aload_n 0, 1) := by decide +kernel
theorem dX8_judge_57 : decode cX8_judge 57 = .ok (.getfield 16, 3) := by decide +kernel
theorem dX8_judge_60 : decode cX8_judge 60 = .ok (.iload 4, 2) := by decide +kernel
theorem dX8_judge_62 : decode cX8_judge 62 = .ok (.aload_n 0, 1) := by decide +kernel
theorem dX8_judge_63 : decode cX8_judge 63 = .ok (.getfield 9, 3) := by decide +kernel
theorem dX8_judge_66 : decode cX8_judge 66 = .ok (.iload 4, 2) := by decide +kernel
theorem dX8_judge_68 : decode cX8_judge 68 = .ok (.iaload, 1) := by decide +kernel
theorem dX8_judge_69 : decode cX8_judge 69 = .ok (.iastore, 1) := by decide +kernel
theorem dX8_judge_70 : decode cX8_judge 70 = .ok (.iinc 4 1, 3) := by decide +kernel
theorem dX8_judge_73 : decode cX8_judge 73 = .ok (.goto (-24), 3) := by decide +kernel
theorem dX8_judge_76 : decode cX8_judge 76 = .ok (.iconst 0, 1) := by decide +kernel
theorem dX8_judge_77 : decode cX8_judge 77 = .ok (.istore 4, 2) := by decide +kernel
theorem dX8_judge_79 : decode cX8_judge 79 = .ok (.iload 4, 2) := by decide +kernel
theorem dX8_judge_81 : decode cX8_judge 81 = .ok (.aload_n 0, 1) := by decide +kernel
theorem dX8_judge_82 : decode cX8_judge 82 = .ok (.getfield 28, 3) := by decide +kernel
theorem dX8_judge_85 : decode cX8_judge 85 = .ok (.iload_n 2, 1) := by decide +kernel
theorem dX8_judge_86 : decode cX8_judge 86 = .ok (.iaload, 1) := by decide +kernel
theorem dX8_judge_87 : decode cX8_judge 87 = .ok (.if_icmp .ge 68, 3) := by decide +kernel
theorem dX8_judge_90 : decode cX8_judge 90 = .ok (.aload_n 0, 1) := by decide +kernel
theorem dX8_judge_91 : decode cX8_judge 91 = .ok (.getfield 16, 3) := by decide +kernel
theorem dX8_judge_94 : decode cX8_judge 94 = .ok (.invokestatic 224, 3) := by decide +kernel
theorem dX8_judge_97 : decode cX8_judge 97 = .ok (.ifCond .ne 11, 3) := by decide +kernel
theorem dX8_judge_100 : decode cX8_judge 100 = .ok (.aload_n 0, 1) := by decide +kernel
theorem dX8_judge_101 : decode cX8_judge 101 = .ok (.aload_n 0, 1) := by decide +kernel
theorem dX8_judge_102 : decode cX8_judge 102 = .ok (.getfield 16, 3) := by decide +kernel
theorem dX8_judge_105 : decode cX8_judge 105 = .ok (.invokevirtual 227, 3) := by decide +kernel
theorem dX8_judge_108 : decode cX8_judge 108 = .ok (.aload_n 0, 1) := by decide +kernel
theorem dX8_judge_109 : decode cX8_judge 109 = .ok (.getfield 31, 3) := by decide +kernel
theorem dX8_judge_112 : decode cX8_judge 112 = .ok (.bipush 100, 2) := by decide +kernel
theorem dX8_judge_114 : decode cX8_judge 114 = .ok (.iload_n 2, 1) := by decide +kernel
theorem dX8_judge_115 : decode cX8_judge 115 = .ok (.imul, 1) := by decide +kernel
theorem dX8_judge_116 : decode cX8_judge 116 = .ok (.iload 4, 2) := by decide +kernel
theorem dX8_judge_118 : decode cX8_judge 118 = .ok (.iadd, 1) := by decide +kernel
theorem dX8_judge_119 : decode cX8_judge 119 = .ok (.iaload, 1) := by decide +kernel
theorem dX8_judge_120 : decode cX8_judge 120 = .ok (.istore 5, 2) := by decide +kernel
theorem dX8_judge_122 : decode cX8_judge 122 = .ok (.iload 5, 2) := by decide +kernel
theorem dX8_judge_124 : decode cX8_judge 124 = .ok (.aload_n 0, 1) := by decide +kernel
theorem dX8_judge_125 : decode cX8_judge 125 = .ok (.iload_n 2, 1) := by decide +kernel
theorem dX8_judge_126 : decode cX8_judge 126 = .ok (.invokevirtual 239, 3) := by decide +kernel
theorem dX8_judge_129 : decode cX8_judge 129 = .ok (.if_icmp .eq 20, 3) := by decide +kernel
theorem dX8_judge_132 : decode cX8_judge 132 = .ok (.iload 5, 2) := by decide +kernel
theorem dX8_judge_134 : decode cX8_judge 134 = .ok (.aload_n 0, 1) := by decide +kernel
theorem dX8_judge_135 : decode cX8_judge 135 = .ok (.getfield 16, 3) := by decide +kernel
theorem dX8_judge_138 : decode cX8_judge 138 = .ok (.iload_n 1, 1) := by decide +kernel
theorem dX8_judge_139 : decode cX8_judge 139 = .ok (.iconst 5, 1) := by decide +kernel
theorem dX8_judge_140 : decode cX8_judge 140 = .ok (.invokestatic 130, 3) := by decide +kernel
theorem dX8_judge_143 : decode cX8_judge 143 = .ok (.if_icmp .eq 6, 3) := by decide +kernel
theorem dX8_judge_146 : decode cX8_judge 146 = .ok (.iload 4, 2) := by decide +kernel
theorem dX8_judge_148 : decode cX8_judge 148 = .ok (.ireturn, 1) := by decide +kernel
theorem dX8_judge_149 : decode cX8_judge 149 = .ok (.iinc 4 1, 3) := by decide +kernel
theorem dX8_judge_152 : decode cX8_judge 152 = .ok (.goto (-73), 3) := by decide +kernel
theorem dX8_judge_155 : decode cX8_judge 155 = .ok (.bipush (-4), 2) := by decide +kernel
theorem dX8_judge_157 : decode cX8_judge 157 = .ok (.ireturn, 1) := by decide +kernel
set_option maxHeartbeats 4000000 in
set_option maxRecDepth 100000 in
theorem c_X8_judge_f (l : Launch) (D : va_G) (cA : Nat → ClassId) (ad : Nat → Nat) (o : Int64) (σ : Mem) (a : Int32) (d : Int32) (hF : FrM σ) (sz : Nat) : Met l yX8_judge (WY yX8_judge cX8_judge 6 (some .int)) (RM 2) (va_Pc [.ref (ad 91), .int a, .int d] (PW D cA ad o σ sz)) (va_Qi (fun r _ => r = -1) (QW D cA ad o) (FA ad sz)) 0 0 (FA ad sz) := by
  refine ct_of (own := RX8) (k := 2) (Qf := va_Qi (fun r _ => r = -1) (QW D cA ad o)) rfl (by decide) (Nat.le_of_ble_eq_true rfl) (fun p e s m below meth c ls C0 X hr hlk hP hl => ?_) sz
  have hS : va_S (FA ad s.heap.size) s.heap s.heap [] := va_S.rf
  have hl : lv_has ls 6 [(0, .ref (ad 91)), (1, .int a), (2, .int d)] := hl
  obtain ⟨hx, hb, hml, hown, hts⟩ := id C0
  refine lv_aload_n hx hb dX8_judge_0 rfl (lv_at hl 0 rfl) ?_
  refine lv_iload_n hx hb dX8_judge_1 rfl (lv_at hl 1 rfl) ?_
  refine r_ci X hS (r_runV (As := [.int a]) (rest := []) C0 X hP L_X8_127 (fun sz => c_X8_isCart0 l D cA ad o σ a hF sz) (show 91 < 106 ∧ kd 91 = (8, 24) from ⟨by decide, rfl⟩).1 (show 91 < 106 ∧ kd 91 = (8, 24) from ⟨by decide, rfl⟩).2 (by decide) rfl ⟨Nat.le_of_ble_eq_true rfl, Nat.le_of_ble_eq_true rfl⟩ rfl hl.1 rfl (Nat.le_of_ble_eq_true rfl) dX8_judge_2 ⟨Nat.zero_le _, Nat.zero_le _⟩) (fun r σ9 H locs hw hP hS => ?_)
  rw [hw.2] at hP
  rw [hw.1]
  refine lv_if_eq (tgt := 15) hx hb dX8_judge_5 (by decide) (fun c_1 => ?_) (fun c_1 => absurd c_1 (by decide))
  refine lv_iconst (v := (-1)) hx hb dX8_judge_15 (by decide) ?_
  exact r_iret C0 X hP hS hr hlk dX8_judge_16 rfl
theorem dX8_run_0 : decode cX8_run 0 = .ok (.iload_n 1, 1) := by decide +kernel
theorem dX8_run_1 : decode cX8_run 1 = .ok (.invokestatic 105, 3) := by decide +kernel
theorem dX8_run_4 : decode cX8_run 4 = .ok (.ifCond .eq 15, 3) := by decide +kernel
theorem dX8_run_7 : decode cX8_run 7 = .ok (.iload_n 2, 1) := by decide +kernel
theorem dX8_run_8 : decode cX8_run 8 = .ok (.i2l, 1) := by decide +kernel
theorem dX8_run_9 : decode cX8_run 9 = .ok (.lconst 0, 1) := by decide +kernel
theorem dX8_run_10 : decode cX8_run 10 = .ok (.ldc2_w 242, 3) := by decide +kernel
theorem dX8_run_13 : decode cX8_run 13 = .ok (.invokestatic 53, 3) := by decide +kernel
theorem dX8_run_16 : decode cX8_run 16 = .ok (.ifCond .ne 5, 3) := by decide +kernel
theorem dX8_run_19 : decode cX8_run 19 = .ok (.iconst (-1), 1) := by decide +kernel
theorem dX8_run_20 : decode cX8_run 20 = .ok (.ireturn, 1) := by decide +kernel
theorem dX8_run_21 : decode cX8_run 21 = .ok (.aload_n 0, 1) := by decide +kernel
theorem dX8_run_22 : decode cX8_run 22 = .ok (.iload_n 1, 1) := by decide +kernel
theorem dX8_run_23 : decode cX8_run 23 = .ok (.iconst (-1), 1) := by decide +kernel
theorem dX8_run_24 : decode cX8_run 24 = .ok (.invokevirtual 108, 3) := by decide +kernel
theorem dX8_run_27 : decode cX8_run 27 = .ok (.istore_n 3, 1) := by decide +kernel
theorem dX8_run_28 : decode cX8_run 28 = .ok (.iload_n 3, 1) := by decide +kernel
theorem dX8_run_29 : decode cX8_run 29 = .ok (.ifCond .eq 5, 3) := by decide +kernel
theorem dX8_run_32 : decode cX8_run 32 = .ok (.iload_n 3, 1) := by decide +kernel
theorem dX8_run_33 : decode cX8_run 33 = .ok (.ireturn, 1) := by decide +kernel
theorem dX8_run_34 : decode cX8_run 34 = .ok (.iconst 0, 1) := by decide +kernel
theorem dX8_run_35 : decode cX8_run 35 = .ok (.istore 4, 2) := by decide +kernel
theorem dX8_run_37 : decode cX8_run 37 = .ok (.iload 4, 2) := by decide +kernel
theorem dX8_run_39 : decode cX8_run 39 = .ok (.aload_n 0, 1) := by decide +kernel
theorem dX8_run_40 : decode cX8_run 40 = .ok (.getfield 28, 3) := by decide +kernel
theorem dX8_run_43 : decode cX8_run 43 = .ok (.iload_n 1, 1) := by decide +kernel
theorem dX8_run_44 : decode cX8_run 44 = .ok (.iaload, 1) := by decide +kernel
theorem dX8_run_45 : decode cX8_run 45 = .ok (.if_icmp .ge 35, 3) := by decide +kernel
theorem dX8_run_48 : decode cX8_run 48 = .ok (.aload_n 0, 1) := by decide +kernel
theorem dX8_run_49 : decode cX8_run 49 = .ok (.getfield 31, 3) := by decide +kernel
theorem dX8_run_52 : decode cX8_run 52 = .ok (.bipush 100, 2) := by decide +kernel
theorem dX8_run_54 : decode cX8_run 54 = .ok (.iload_n 1, 1) := by decide +kernel
theorem dX8_run_55 : decode cX8_run 55 = .ok (.imul, 1) := by decide +kernel
theorem dX8_run_56 : decode cX8_run 56 = .ok (.iload 4, 2) := by decide +kernel
theorem dX8_run_58 : decode cX8_run 58 = .ok (.iadd, 1) := by decide +kernel
theorem dX8_run_59 : decode cX8_run 59 = .ok (.iaload, 1) := by decide +kernel
theorem dX8_run_60 : decode cX8_run 60 = .ok (.i2l, 1) := by decide +kernel
theorem dX8_run_61 : decode cX8_run 61 = .ok (.lconst 0, 1) := by decide +kernel
theorem dX8_run_62 : decode cX8_run 62 = .ok (.ldc2_w 219, 3) := by decide +kernel
theorem dX8_run_65 : decode cX8_run 65 = .ok (.invokestatic 53, 3) := by decide +kernel
theorem dX8_run_68 : decode cX8_run 68 = .ok (.ifCond .ne 6, 3) := by decide +kernel
theorem dX8_run_71 : decode cX8_run 71 = .ok (.bipush (-13), 2) := by decide +kernel
theorem dX8_run_73 : decode cX8_run 73 = .ok (.ireturn, 1) := by decide +kernel
theorem dX8_run_74 : decode cX8_run 74 = .ok (.iinc 4 1, 3) := by decide +kernel
theorem dX8_run_77 : decode cX8_run 77 = .ok (.goto (-40), 3) := by decide +kernel
theorem dX8_run_80 : decode cX8_run 80 = .ok (.aload_n 0, 1) := by decide +kernel
theorem dX8_run_81 : decode cX8_run 81 = .ok (.invokevirtual 221, 3) := by decide +kernel
theorem dX8_run_84 : decode cX8_run 84 = .ok (.ifCond .eq 6, 3) := by decide +kernel
theorem dX8_run_87 : decode cX8_run 87 = .ok (.bipush (-3), 2) := by decide +kernel
theorem dX8_run_89 : decode cX8_run 89 = .ok (.ireturn, 1) := by decide +kernel
theorem dX8_run_90 : decode cX8_run 90 = .ok (.aload_n 0, 1) := by decide +kernel
theorem dX8_run_91 : decode cX8_run 91 = .ok (.invokevirtual 244, 3) := by decide +kernel
theorem dX8_run_94 : decode cX8_run 94 = .ok (.iconst 0, 1) := by decide +kernel
theorem dX8_run_95 : decode cX8_run 95 = .ok (.istore 4, 2) := by decide +kernel
theorem dX8_run_97 : decode cX8_run 97 = .ok (.iload 4, 2) := by decide +kernel
theorem dX8_run_99 : decode cX8_run 99 = .ok (.aload_n 0, 1) := by decide +kernel
theorem dX8_run_100 : decode cX8_run 100 = .ok (.getfield 9, 3) := by decide +kernel
theorem dX8_run_103 : decode cX8_run 103 = .ok (.iconst 1, 1) := by decide +kernel
theorem dX8_run_104 : decode cX8_run 104 = .ok (.iaload, 1) := by decide +kernel
theorem dX8_run_105 : decode cX8_run 105 = .ok (.if_icmp .ge 43, 3) := by decide +kernel
theorem dX8_run_108 : decode cX8_run 108 = .ok (.iload 4, 2) := by decide +kernel
theorem dX8_run_110 : decode cX8_run 110 = .ok (.aload_n 0, 1) := by decide +kernel
theorem dX8_run_111 : decode cX8_run 111 = .ok (.getfield 28, 3) := by decide +kernel
theorem dX8_run_114 : decode cX8_run 114 = .ok (.iload_n 1, 1) := by decide +kernel
theorem dX8_run_115 : decode cX8_run 115 = .ok (.iaload, 1) := by decide +kernel
theorem dX8_run_116 : decode cX8_run 116 = .ok (.if_icmp .ge 32, 3) := by decide +kernel
theorem dX8_run_119 : decode cX8_run 119 = .ok (.aload_n 0, 1) := by decide +kernel
theorem dX8_run_120 : decode cX8_run 120 = .ok (.getfield 16, 3) := by decide +kernel
theorem dX8_run_123 : decode cX8_run 123 = .ok (.iload 4, 2) := by decide +kernel
theorem dX8_run_125 : decode cX8_run 125 = .ok (.bipush 10, 2) := by decide +kernel
theorem dX8_run_127 : decode cX8_run 127 = .ok (.aload_n 0, 1) := by decide +kernel
theorem dX8_run_128 : decode cX8_run 128 = .ok (.getfield 31, 3) := by decide +kernel
theorem dX8_run_131 : decode cX8_run 131 = .ok (.bipush 100, 2) := by decide +kernel
theorem dX8_run_133 : decode cX8_run 133 = .ok (.iload_n 1, 1) := by decide +kernel
theorem dX8_run_134 : decode cX8_run 134 = .ok (.imul, 1) := by decide +kernel
theorem dX8_run_135 : decode cX8_run 135 = .ok (.iload 4, 2) := by decide +kernel
theorem dX8_run_137 : decode cX8_run 137 = .ok (.iadd, 1) := by decide +kernel
theorem dX8_run_138 : decode cX8_run 138 = .ok (.iaload, 1) := by decide +kernel
theorem dX8_run_139 : decode cX8_run 139 = .ok (.invokestatic 97, 3) := by decide +kernel
theorem dX8_run_142 : decode cX8_run 142 = .ok (.iinc 4 1, 3) := by decide +kernel
theorem dX8_run_145 : decode cX8_run 145 = .ok (.goto (-48), 3) := by decide +kernel
theorem dX8_run_148 : decode cX8_run 148 = .ok (.aload_n 0, 1) := by decide +kernel
theorem dX8_run_149 : decode cX8_run 149 = .ok (.invokevirtual 247, 3) := by decide +kernel
theorem dX8_run_152 : decode cX8_run 152 = .ok (.istore 4, 2) := by decide +kernel
theorem dX8_run_154 : decode cX8_run 154 = .ok (.iload_n 2, 1) := by decide +kernel
theorem dX8_run_155 : decode cX8_run 155 = .ok (.tableswitch 59 0 3 #[29, 32, 42, 52], 29) := by decide +kernel
theorem dX8_run_184 : decode cX8_run 184 = .ok (.iload 4, 2) := by decide +kernel
theorem dX8_run_186 : decode cX8_run 186 = .ok (.ireturn, 1) := by decide +kernel
theorem dX8_run_187 : decode cX8_run 187 = .ok (.aload_n 0, 1) := by decide +kernel
theorem dX8_run_188 : decode cX8_run 188 = .ok (.getfield 16, 3) := by decide +kernel
theorem dX8_run_191 : decode cX8_run 191 = .ok (.bipush 8, 2) := by decide +kernel
theorem dX8_run_193 : decode cX8_run 193 = .ok (.invokestatic 235, 3) := by decide +kernel
theorem dX8_run_196 : decode cX8_run 196 = .ok (.ireturn, 1) := by decide +kernel
theorem dX8_run_197 : decode cX8_run 197 = .ok (.aload_n 0, 1) := by decide +kernel
theorem dX8_run_198 : decode cX8_run 198 = .ok (.getfield 16, 3) := by decide +kernel
theorem dX8_run_201 : decode cX8_run 201 = .ok (.bipush 9, 2) := by decide +kernel
theorem dX8_run_203 : decode cX8_run 203 = .ok (.invokestatic 235, 3) := by decide +kernel
theorem dX8_run_206 : decode cX8_run 206 = .ok (.ireturn, 1) := by decide +kernel
theorem dX8_run_207 : decode cX8_run 207 = .ok (.aload_n 0, 1) := by decide +kernel
theorem dX8_run_208 : decode cX8_run 208 = .ok (.getfield 16, 3) := by decide +kernel
theorem dX8_run_211 : decode cX8_run 211 = .ok (.iconst 2, 1) := by decide +kernel
theorem dX8_run_212 : decode cX8_run 212 = .ok (.iaload, 1) := by decide +kernel
theorem dX8_run_213 : decode cX8_run 213 = .ok (.ireturn, 1) := by decide +kernel
theorem dX8_run_214 : decode cX8_run 214 = .ok (.aload_n 0, 1) := by decide +kernel
theorem dX8_run_215 : decode cX8_run 215 = .ok (.getfield 16, 3) := by decide +kernel
theorem dX8_run_218 : decode cX8_run 218 = .ok (.invokestatic 215, 3) := by decide +kernel
theorem dX8_run_221 : decode cX8_run 221 = .ok (.ifCond .eq 7, 3) := by decide +kernel
theorem dX8_run_224 : decode cX8_run 224 = .ok (.iconst 1, 1) := by decide +kernel
theorem dX8_run_225 : decode cX8_run 225 = .ok (.goto 4, 3) := by decide +kernel
theorem dX8_run_228 : decode cX8_run 228 = .ok (.iconst 0, 1) := by decide +kernel
theorem dX8_run_229 : decode cX8_run 229 = .ok (.ireturn, 1) := by decide +kernel
set_option maxHeartbeats 4000000 in
set_option maxRecDepth 100000 in
theorem c_X8_run_f (l : Launch) (D : va_G) (cA : Nat → ClassId) (ad : Nat → Nat) (o : Int64) (σ : Mem) (d : Int32) (w : Int32) (hF : FrM σ) (sz : Nat) : Met l yX8_run (WY yX8_run cX8_run 5 (some .int)) (RM 3) (va_Pc [.ref (ad 91), .int d, .int w] (PW D cA ad o σ sz)) (va_Qi (fun r _ => r = (if (d < 0 ∨ 8 ≤ d) ∨ w < 0 ∨ 4 < w then -1 else -11)) (QW D cA ad o) (FA ad sz)) 0 0 (FA ad sz) := by
  refine ct_of (own := RX8) (k := 3) (Qf := va_Qi (fun r _ => r = (if (d < 0 ∨ 8 ≤ d) ∨ w < 0 ∨ 4 < w then -1 else -11)) (QW D cA ad o)) rfl (by decide) (Nat.le_of_ble_eq_true rfl) (fun p e s m below meth c ls C0 X hr hlk hP hl => ?_) sz
  have hS : va_S (FA ad s.heap.size) s.heap s.heap [] := va_S.rf
  have hl : lv_has ls 5 [(0, .ref (ad 91)), (1, .int d), (2, .int w)] := hl
  obtain ⟨hx, hb, hml, hown, hts⟩ := id C0
  refine lv_iload_n hx hb dX8_run_0 rfl (lv_at hl 1 rfl) ?_
  refine r_ci X hS (r_runS (As := [.int d]) (rest := []) C0 X hP L_X8_105 (fun sz => c_X8_isShelf l D cA ad o σ d  sz) ⟨Nat.le_of_ble_eq_true rfl, Nat.le_of_ble_eq_true rfl⟩ rfl hl.1 rfl (Nat.le_of_ble_eq_true rfl) dX8_run_1 ⟨Nat.zero_le _, Nat.zero_le _⟩) (fun r σ9 H locs hw hP hS => ?_)
  rw [hw.2] at hP
  obtain ⟨⟨b_1, rfl⟩ | ⟨b_1, rfl⟩, -⟩ := hw
  · refine lv_if_eq (tgt := 19) hx hb dX8_run_4 (by decide) (fun c_2 => absurd c_2 (by decide)) (fun c_2 => ?_)
    refine lv_iload_n hx hb dX8_run_7 rfl (lv_at hl 2 rfl) ?_
    refine lv_i2l (v := (w.toInt64)) hx hb dX8_run_8 rfl ?_
    refine lv_lconst (v := ((0 : Int32).toInt64)) hx hb dX8_run_9 (by decide) ?_
    refine lv_ldc2 (own := RX8) (index := 242) (v := 4) hx hb hown (hts _ (tm 1313 (by decide +kernel) (by decide +kernel))) dX8_run_10 ?_
    refine lv_topEl (y := ((4 : Int32).toInt64)) (by decide) ?_
    refine r_ci X hS (r_runS (As := [.long (w.toInt64), .long ((0 : Int32).toInt64), .long ((4 : Int32).toInt64)]) (rest := []) C0 X hP L_X8_53 (fun sz => c_X8_isIn l D cA ad o σ w 0 4 sz) ⟨Nat.le_of_ble_eq_true rfl, Nat.le_of_ble_eq_true rfl⟩ rfl hl.1 rfl (Nat.le_of_ble_eq_true rfl) dX8_run_13 ⟨Nat.zero_le _, Nat.zero_le _⟩) (fun r σ9 H locs hw hP hS => ?_)
    rw [hw.2] at hP
    obtain ⟨⟨b_3, rfl⟩ | ⟨b_3, rfl⟩, -⟩ := hw
    · have p_4 : ¬ w < 0 := Int32.not_lt.mpr b_3.1
      have p_5 : ¬ 4 < w := Int32.not_lt.mpr b_3.2
      have p_6 : ¬ 5 ≤ w := nsucc (by decide) p_5
      refine lv_if_ne (tgt := 21) hx hb dX8_run_16 (by decide) (fun c_7 => ?_) (fun c_7 => absurd c_7 (by decide))
      refine lv_aload_n hx hb dX8_run_21 rfl (lv_at hl 0 rfl) ?_
      refine lv_iload_n hx hb dX8_run_22 rfl (lv_at hl 1 rfl) ?_
      refine lv_iconst (v := (-1)) hx hb dX8_run_23 (by decide) ?_
      refine r_ci X hS (r_runV (As := [.int d, .int (-1)]) (rest := []) C0 X hP L_X8_108 (fun sz => c_X8_wrongRow0 l D cA ad o σ d (-1) hF sz) (show 91 < 106 ∧ kd 91 = (8, 24) from ⟨by decide, rfl⟩).1 (show 91 < 106 ∧ kd 91 = (8, 24) from ⟨by decide, rfl⟩).2 (by decide) rfl ⟨Nat.le_of_ble_eq_true rfl, Nat.le_of_ble_eq_true rfl⟩ rfl hl.1 rfl (Nat.le_of_ble_eq_true rfl) dX8_run_24 ⟨Nat.zero_le _, Nat.zero_le _⟩) (fun r σ9 H locs hw hP hS => ?_)
      rw [hw.2] at hP
      obtain ⟨⟨b_8, rfl⟩ | ⟨b_8, rfl⟩, -⟩ := hw
      · exact absurd b_8 b_1
      · refine lv_istore_n (lv' := [(3, .int (-11)), (0, .ref (ad 91)), (1, .int d), (2, .int w)]) hx hb dX8_run_27 rfl hl (by decide) rfl (fun ls hl => ?_)
        refine lv_iload_n hx hb dX8_run_28 rfl (lv_at hl 0 rfl) ?_
        refine lv_if_eq (tgt := 34) hx hb dX8_run_29 (by decide) (fun c_9 => absurd c_9 (by decide)) (fun c_9 => ?_)
        refine lv_iload_n hx hb dX8_run_32 rfl (lv_at hl 0 rfl) ?_
        exact r_iret C0 X hP hS hr hlk dX8_run_33 (by simp only [b_1, p_4, p_5, p_6, b_8, Int32.not_lt.mp p_4, Int32.not_lt.mp p_5, Int32.not_le.mp p_6, if_true, if_false, ite_true, ite_false, true_and, and_true, false_and, and_false, true_or, or_true, false_or, or_false, not_true_eq_false, not_false_eq_true, ne_eq, and_self, or_self]; try rfl)
    · have p_10 : w < 0 ∨ 5 ≤ w := osucc (by decide) b_3
      refine lv_if_ne (tgt := 21) hx hb dX8_run_16 (by decide) (fun c_11 => absurd c_11 (by decide)) (fun c_11 => ?_)
      refine lv_iconst (v := (-1)) hx hb dX8_run_19 (by decide) ?_
      exact r_iret C0 X hP hS hr hlk dX8_run_20 (by simp only [b_1, b_3, p_10, if_true, if_false, ite_true, ite_false, true_and, and_true, false_and, and_false, true_or, or_true, false_or, or_false, not_true_eq_false, not_false_eq_true, ne_eq, and_self, or_self]; try rfl)
  · refine lv_if_eq (tgt := 19) hx hb dX8_run_4 (by decide) (fun c_12 => ?_) (fun c_12 => absurd c_12 (by decide))
    refine lv_iconst (v := (-1)) hx hb dX8_run_19 (by decide) ?_
    exact r_iret C0 X hP hS hr hlk dX8_run_20 (by simp only [b_1, if_true, if_false, ite_true, ite_false, true_and, and_true, false_and, and_false, true_or, or_true, false_or, or_false, not_true_eq_false, not_false_eq_true, ne_eq, and_self, or_self]; try rfl)
theorem dX8_ever_0 : decode cX8_ever 0 = .ok (.aload_n 0, 1) := by decide +kernel
theorem dX8_ever_1 : decode cX8_ever 1 = .ok (.iload_n 1, 1) := by decide +kernel
theorem dX8_ever_2 : decode cX8_ever 2 = .ok (.invokevirtual 127, 3) := by decide +kernel
theorem dX8_ever_5 : decode cX8_ever 5 = .ok (.ifCond .ne 5, 3) := by decide +kernel
theorem dX8_ever_8 : decode cX8_ever 8 = .ok (.iconst (-1), 1) := by decide +kernel
theorem dX8_ever_9 : decode cX8_ever 9 = .ok (.ireturn, 1) := by decide +kernel
theorem dX8_ever_10 : decode cX8_ever 10 = .ok (.aload_n 0, 1) := by decide +kernel
theorem dX8_ever_11 : decode cX8_ever 11 = .ok (.getfield 9, 3) := by decide +kernel
theorem dX8_ever_14 : decode cX8_ever 14 = .ok (.iconst 0, 1) := by decide +kernel
theorem dX8_ever_15 : decode cX8_ever 15 = .ok (.iaload, 1) := by decide +kernel
theorem dX8_ever_16 : decode cX8_ever 16 = .ok (.ifCond .ne 6, 3) := by decide +kernel
theorem dX8_ever_19 : decode cX8_ever 19 = .ok (.bipush (-3), 2) := by decide +kernel
theorem dX8_ever_21 : decode cX8_ever 21 = .ok (.ireturn, 1) := by decide +kernel
theorem dX8_ever_22 : decode cX8_ever 22 = .ok (.iconst 0, 1) := by decide +kernel
theorem dX8_ever_23 : decode cX8_ever 23 = .ok (.istore_n 2, 1) := by decide +kernel
theorem dX8_ever_24 : decode cX8_ever 24 = .ok (.iload_n 2, 1) := by decide +kernel
theorem dX8_ever_25 : decode cX8_ever 25 = .ok (.bipush 40, 2) := by decide +kernel
theorem dX8_ever_27 : decode cX8_ever 27 = .ok (.if_icmp .gt 41, 3) := by decide +kernel
theorem dX8_ever_30 : decode cX8_ever 30 = .ok (.aload_n 0, 1) := by decide +kernel
theorem dX8_ever_31 : decode cX8_ever 31 = .ok (.invokevirtual 244, 3) := by decide +kernel
theorem dX8_ever_34 : decode cX8_ever 34 = .ok (.aload_n 0, 1) := by decide +kernel
theorem dX8_ever_35 : decode cX8_ever 35 = .ok (.getfield 16, 3) := by decide +kernel
theorem dX8_ever_38 : decode cX8_ever 38 = .ok (.iload_n 1, 1) := by decide +kernel
theorem dX8_ever_39 : decode cX8_ever 39 = .ok (.bipush 10, 2) := by decide +kernel
theorem dX8_ever_41 : decode cX8_ever 41 = .ok (.iload_n 2, 1) := by decide +kernel
theorem dX8_ever_42 : decode cX8_ever 42 = .ok (.invokestatic 97, 3) := by decide +kernel
theorem dX8_ever_45 : decode cX8_ever 45 = .ok (.aload_n 0, 1) := by decide +kernel
theorem dX8_ever_46 : decode cX8_ever 46 = .ok (.invokevirtual 247, 3) := by decide +kernel
theorem dX8_ever_49 : decode cX8_ever 49 = .ok (.istore_n 3, 1) := by decide +kernel
theorem dX8_ever_50 : decode cX8_ever 50 = .ok (.aload_n 0, 1) := by decide +kernel
theorem dX8_ever_51 : decode cX8_ever 51 = .ok (.getfield 16, 3) := by decide +kernel
theorem dX8_ever_54 : decode cX8_ever 54 = .ok (.invokestatic 215, 3) := by decide +kernel
theorem dX8_ever_57 : decode cX8_ever 57 = .ok (.ifCond .eq 5, 3) := by decide +kernel
theorem dX8_ever_60 : decode cX8_ever 60 = .ok (.iload_n 2, 1) := by decide +kernel
theorem dX8_ever_61 : decode cX8_ever 61 = .ok (.ireturn, 1) := by decide +kernel
theorem dX8_ever_62 : decode cX8_ever 62 = .ok (.iinc 2 1, 3) := by decide +kernel
theorem dX8_ever_65 : decode cX8_ever 65 = .ok (.goto (-41), 3) := by decide +kernel
theorem dX8_ever_68 : decode cX8_ever 68 = .ok (.bipush (-4), 2) := by decide +kernel
theorem dX8_ever_70 : decode cX8_ever 70 = .ok (.ireturn, 1) := by decide +kernel
set_option maxHeartbeats 4000000 in
set_option maxRecDepth 100000 in
theorem c_X8_ever_f (l : Launch) (D : va_G) (cA : Nat → ClassId) (ad : Nat → Nat) (o : Int64) (σ : Mem) (a : Int32) (hF : FrM σ) (sz : Nat) : Met l yX8_ever (WY yX8_ever cX8_ever 4 (some .int)) (RM 2) (va_Pc [.ref (ad 91), .int a] (PW D cA ad o σ sz)) (va_Qi (fun r _ => r = -1) (QW D cA ad o) (FA ad sz)) 0 0 (FA ad sz) := by
  refine ct_of (own := RX8) (k := 2) (Qf := va_Qi (fun r _ => r = -1) (QW D cA ad o)) rfl (by decide) (Nat.le_of_ble_eq_true rfl) (fun p e s m below meth c ls C0 X hr hlk hP hl => ?_) sz
  have hS : va_S (FA ad s.heap.size) s.heap s.heap [] := va_S.rf
  have hl : lv_has ls 4 [(0, .ref (ad 91)), (1, .int a)] := hl
  obtain ⟨hx, hb, hml, hown, hts⟩ := id C0
  refine lv_aload_n hx hb dX8_ever_0 rfl (lv_at hl 0 rfl) ?_
  refine lv_iload_n hx hb dX8_ever_1 rfl (lv_at hl 1 rfl) ?_
  refine r_ci X hS (r_runV (As := [.int a]) (rest := []) C0 X hP L_X8_127 (fun sz => c_X8_isCart0 l D cA ad o σ a hF sz) (show 91 < 106 ∧ kd 91 = (8, 24) from ⟨by decide, rfl⟩).1 (show 91 < 106 ∧ kd 91 = (8, 24) from ⟨by decide, rfl⟩).2 (by decide) rfl ⟨Nat.le_of_ble_eq_true rfl, Nat.le_of_ble_eq_true rfl⟩ rfl hl.1 rfl (Nat.le_of_ble_eq_true rfl) dX8_ever_2 ⟨Nat.zero_le _, Nat.zero_le _⟩) (fun r σ9 H locs hw hP hS => ?_)
  rw [hw.2] at hP
  rw [hw.1]
  refine lv_if_ne (tgt := 10) hx hb dX8_ever_5 (by decide) (fun c_1 => absurd c_1 (by decide)) (fun c_1 => ?_)
  refine lv_iconst (v := (-1)) hx hb dX8_ever_8 (by decide) ?_
  exact r_iret C0 X hP hS hr hlk dX8_ever_9 rfl
theorem dX8_best_0 : decode cX8_best 0 = .ok (.iload_n 1, 1) := by decide +kernel
theorem dX8_best_1 : decode cX8_best 1 = .ok (.i2l, 1) := by decide +kernel
theorem dX8_best_2 : decode cX8_best 2 = .ok (.lconst 0, 1) := by decide +kernel
theorem dX8_best_3 : decode cX8_best 3 = .ok (.lconst 1, 1) := by decide +kernel
theorem dX8_best_4 : decode cX8_best 4 = .ok (.invokestatic 53, 3) := by decide +kernel
theorem dX8_best_7 : decode cX8_best 7 = .ok (.ifCond .ne 5, 3) := by decide +kernel
theorem dX8_best_10 : decode cX8_best 10 = .ok (.iconst (-1), 1) := by decide +kernel
theorem dX8_best_11 : decode cX8_best 11 = .ok (.ireturn, 1) := by decide +kernel
theorem dX8_best_12 : decode cX8_best 12 = .ok (.aload_n 0, 1) := by decide +kernel
theorem dX8_best_13 : decode cX8_best 13 = .ok (.invokevirtual 221, 3) := by decide +kernel
theorem dX8_best_16 : decode cX8_best 16 = .ok (.ifCond .eq 6, 3) := by decide +kernel
theorem dX8_best_19 : decode cX8_best 19 = .ok (.bipush (-3), 2) := by decide +kernel
theorem dX8_best_21 : decode cX8_best 21 = .ok (.ireturn, 1) := by decide +kernel
theorem dX8_best_22 : decode cX8_best 22 = .ok (.aload_n 0, 1) := by decide +kernel
theorem dX8_best_23 : decode cX8_best 23 = .ok (.getfield 9, 3) := by decide +kernel
theorem dX8_best_26 : decode cX8_best 26 = .ok (.iconst 1, 1) := by decide +kernel
theorem dX8_best_27 : decode cX8_best 27 = .ok (.iaload, 1) := by decide +kernel
theorem dX8_best_28 : decode cX8_best 28 = .ok (.iconst 4, 1) := by decide +kernel
theorem dX8_best_29 : decode cX8_best 29 = .ok (.if_icmp .ge 12, 3) := by decide +kernel
theorem dX8_best_32 : decode cX8_best 32 = .ok (.aload_n 0, 1) := by decide +kernel
theorem dX8_best_33 : decode cX8_best 33 = .ok (.getfield 9, 3) := by decide +kernel
theorem dX8_best_36 : decode cX8_best 36 = .ok (.iconst 1, 1) := by decide +kernel
theorem dX8_best_37 : decode cX8_best 37 = .ok (.iaload, 1) := by decide +kernel
theorem dX8_best_38 : decode cX8_best 38 = .ok (.goto 4, 3) := by decide +kernel
theorem dX8_best_41 : decode cX8_best 41 = .ok (.iconst 4, 1) := by decide +kernel
theorem dX8_best_42 : decode cX8_best 42 = .ok (.istore_n 2, 1) := by decide +kernel
theorem dX8_best_43 : decode cX8_best 43 = .ok (.bipush (-4), 2) := by decide +kernel
theorem dX8_best_45 : decode cX8_best 45 = .ok (.istore_n 3, 1) := by decide +kernel
theorem dX8_best_46 : decode cX8_best 46 = .ok (.iconst 0, 1) := by decide +kernel
theorem dX8_best_47 : decode cX8_best 47 = .ok (.istore 4, 2) := by decide +kernel
theorem dX8_best_49 : decode cX8_best 49 = .ok (.iconst 0, 1) := by decide +kernel
theorem dX8_best_50 : decode cX8_best 50 = .ok (.istore 5, 2) := by decide +kernel
theorem dX8_best_52 : decode cX8_best 52 = .ok (.iload 5, 2) := by decide +kernel
theorem dX8_best_54 : decode cX8_best 54 = .ok (.iconst 1, 1) := by decide +kernel
theorem dX8_best_55 : decode cX8_best 55 = .ok (.iconst 2, 1) := by decide +kernel
theorem dX8_best_56 : decode cX8_best 56 = .ok (.iload_n 2, 1) := by decide +kernel
theorem dX8_best_57 : decode cX8_best 57 = .ok (.imul, 1) := by decide +kernel
theorem dX8_best_58 : decode cX8_best 58 = .ok (.ishl, 1) := by decide +kernel
theorem dX8_best_59 : decode cX8_best 59 = .ok (.if_icmp .ge 77, 3) := by decide +kernel
theorem dX8_best_62 : decode cX8_best 62 = .ok (.aload_n 0, 1) := by decide +kernel
theorem dX8_best_63 : decode cX8_best 63 = .ok (.invokevirtual 244, 3) := by decide +kernel
theorem dX8_best_66 : decode cX8_best 66 = .ok (.iconst 0, 1) := by decide +kernel
theorem dX8_best_67 : decode cX8_best 67 = .ok (.istore 6, 2) := by decide +kernel
theorem dX8_best_69 : decode cX8_best 69 = .ok (.iload 6, 2) := by decide +kernel
theorem dX8_best_71 : decode cX8_best 71 = .ok (.iload_n 2, 1) := by decide +kernel
theorem dX8_best_72 : decode cX8_best 72 = .ok (.if_icmp .ge 31, 3) := by decide +kernel
theorem dX8_best_75 : decode cX8_best 75 = .ok (.aload_n 0, 1) := by decide +kernel
theorem dX8_best_76 : decode cX8_best 76 = .ok (.getfield 16, 3) := by decide +kernel
theorem dX8_best_79 : decode cX8_best 79 = .ok (.iload 6, 2) := by decide +kernel
theorem dX8_best_81 : decode cX8_best 81 = .ok (.bipush 10, 2) := by decide +kernel
theorem dX8_best_83 : decode cX8_best 83 = .ok (.iconst 5, 1) := by decide +kernel
theorem dX8_best_84 : decode cX8_best 84 = .ok (.iload 5, 2) := by decide +kernel
theorem dX8_best_86 : decode cX8_best 86 = .ok (.iconst 2, 1) := by decide +kernel
theorem dX8_best_87 : decode cX8_best 87 = .ok (.iload 6, 2) := by decide +kernel
theorem dX8_best_89 : decode cX8_best 89 = .ok (.imul, 1) := by decide +kernel
theorem dX8_best_90 : decode cX8_best 90 = .ok (.ishr, 1) := by decide +kernel
theorem dX8_best_91 : decode cX8_best 91 = .ok (.iconst 3, 1) := by decide +kernel
theorem dX8_best_92 : decode cX8_best 92 = .ok (.iand, 1) := by decide +kernel
theorem dX8_best_93 : decode cX8_best 93 = .ok (.imul, 1) := by decide +kernel
theorem dX8_best_94 : decode cX8_best 94 = .ok (.invokestatic 97, 3) := by decide +kernel
theorem dX8_best_97 : decode cX8_best 97 = .ok (.iinc 6 1, 3) := by decide +kernel
theorem dX8_best_100 : decode cX8_best 100 = .ok (.goto (-31), 3) := by decide +kernel
theorem dX8_best_103 : decode cX8_best 103 = .ok (.aload_n 0, 1) := by decide +kernel
theorem dX8_best_104 : decode cX8_best 104 = .ok (.invokevirtual 247, 3) := by decide +kernel
theorem dX8_best_107 : decode cX8_best 107 = .ok (.istore 6, 2) := by decide +kernel
theorem dX8_best_109 : decode cX8_best 109 = .ok (.iload_n 3, 1) := by decide +kernel
theorem dX8_best_110 : decode cX8_best 110 = .ok (.ifCond .lt 13, 3) := by decide +kernel
theorem dX8_best_113 : decode cX8_best 113 = .ok (.iload 6, 2) := by decide +kernel
theorem dX8_best_115 : decode cX8_best 115 = .ok (.iload 4, 2) := by decide +kernel
theorem dX8_best_117 : decode cX8_best 117 = .ok (.if_icmp .lt 6, 3) := by decide +kernel
theorem dX8_best_120 : decode cX8_best 120 = .ok (.goto 10, 3) := by decide +kernel
theorem dX8_best_123 : decode cX8_best 123 = .ok (.iload 5, 2) := by decide +kernel
theorem dX8_best_125 : decode cX8_best 125 = .ok (.istore_n 3, 1) := by decide +kernel
theorem dX8_best_126 : decode cX8_best 126 = .ok (.iload 6, 2) := by decide +kernel
theorem dX8_best_128 : decode cX8_best 128 = .ok (.istore 4, 2) := by decide +kernel
theorem dX8_best_130 : decode cX8_best 130 = .ok (.iinc 5 1, 3) := by decide +kernel
theorem dX8_best_133 : decode cX8_best 133 = .ok (.goto (-81), 3) := by decide +kernel
theorem dX8_best_136 : decode cX8_best 136 = .ok (.iload_n 1, 1) := by decide +kernel
theorem dX8_best_137 : decode cX8_best 137 = .ok (.ifCond .ne 7, 3) := by decide +kernel
theorem dX8_best_140 : decode cX8_best 140 = .ok (.iload_n 3, 1) := by decide +kernel
theorem dX8_best_141 : decode cX8_best 141 = .ok (.goto 5, 3) := by decide +kernel
theorem dX8_best_144 : decode cX8_best 144 = .ok (.iload 4, 2) := by decide +kernel
theorem dX8_best_146 : decode cX8_best 146 = .ok (.ireturn, 1) := by decide +kernel
set_option maxHeartbeats 4000000 in
set_option maxRecDepth 100000 in
theorem c_X8_best_f (l : Launch) (D : va_G) (cA : Nat → ClassId) (ad : Nat → Nat) (o : Int64) (σ : Mem) (w : Int32) (hF : FrM σ) (sz : Nat) : Met l yX8_best (WY yX8_best cX8_best 7 (some .int)) (RM 1) (va_Pc [.ref (ad 91), .int w] (PW D cA ad o σ sz)) (va_Qi (fun r _ => r = (if w < 0 ∨ 1 < w then -1 else -3)) (QW D cA ad o) (FA ad sz)) 0 0 (FA ad sz) := by
  refine ct_of (own := RX8) (k := 1) (Qf := va_Qi (fun r _ => r = (if w < 0 ∨ 1 < w then -1 else -3)) (QW D cA ad o)) rfl (by decide) (Nat.le_of_ble_eq_true rfl) (fun p e s m below meth c ls C0 X hr hlk hP hl => ?_) sz
  have hS : va_S (FA ad s.heap.size) s.heap s.heap [] := va_S.rf
  have hl : lv_has ls 7 [(0, .ref (ad 91)), (1, .int w)] := hl
  obtain ⟨hx, hb, hml, hown, hts⟩ := id C0
  refine lv_iload_n hx hb dX8_best_0 rfl (lv_at hl 1 rfl) ?_
  refine lv_i2l (v := (w.toInt64)) hx hb dX8_best_1 rfl ?_
  refine lv_lconst (v := ((0 : Int32).toInt64)) hx hb dX8_best_2 (by decide) ?_
  refine lv_lconst (v := ((1 : Int32).toInt64)) hx hb dX8_best_3 (by decide) ?_
  refine r_ci X hS (r_runS (As := [.long (w.toInt64), .long ((0 : Int32).toInt64), .long ((1 : Int32).toInt64)]) (rest := []) C0 X hP L_X8_53 (fun sz => c_X8_isIn l D cA ad o σ w 0 1 sz) ⟨Nat.le_of_ble_eq_true rfl, Nat.le_of_ble_eq_true rfl⟩ rfl hl.1 rfl (Nat.le_of_ble_eq_true rfl) dX8_best_4 ⟨Nat.zero_le _, Nat.zero_le _⟩) (fun r σ9 H locs hw hP hS => ?_)
  rw [hw.2] at hP
  obtain ⟨⟨b_1, rfl⟩ | ⟨b_1, rfl⟩, -⟩ := hw
  · have p_2 : ¬ w < 0 := Int32.not_lt.mpr b_1.1
    have p_3 : ¬ 1 < w := Int32.not_lt.mpr b_1.2
    have p_4 : ¬ 2 ≤ w := nsucc (by decide) p_3
    refine lv_if_ne (tgt := 12) hx hb dX8_best_7 (by decide) (fun c_5 => ?_) (fun c_5 => absurd c_5 (by decide))
    refine lv_aload_n hx hb dX8_best_12 rfl (lv_at hl 0 rfl) ?_
    refine r_ci X hS (r_runV (As := []) (rest := []) C0 X hP L_X8_221 (fun sz => c_X8_isEmpty0 l D cA ad o σ  hF sz) (show 91 < 106 ∧ kd 91 = (8, 24) from ⟨by decide, rfl⟩).1 (show 91 < 106 ∧ kd 91 = (8, 24) from ⟨by decide, rfl⟩).2 (by decide) rfl ⟨Nat.le_of_ble_eq_true rfl, Nat.le_of_ble_eq_true rfl⟩ rfl hl.1 rfl (Nat.le_of_ble_eq_true rfl) dX8_best_13 ⟨Nat.zero_le _, Nat.zero_le _⟩) (fun r σ9 H locs hw hP hS => ?_)
    rw [hw.2] at hP
    rw [hw.1]
    refine lv_if_eq (tgt := 22) hx hb dX8_best_16 (by decide) (fun c_6 => absurd c_6 (by decide)) (fun c_6 => ?_)
    refine lv_bipush (v := (-3)) hx hb dX8_best_19 (by decide) ?_
    exact r_iret C0 X hP hS hr hlk dX8_best_21 (by simp only [p_2, p_3, p_4, Int32.not_lt.mp p_2, Int32.not_lt.mp p_3, Int32.not_le.mp p_4, if_true, if_false, ite_true, ite_false, true_and, and_true, false_and, and_false, true_or, or_true, false_or, or_false, not_true_eq_false, not_false_eq_true, ne_eq, and_self, or_self]; try rfl)
  · have p_7 : w < 0 ∨ 2 ≤ w := osucc (by decide) b_1
    refine lv_if_ne (tgt := 12) hx hb dX8_best_7 (by decide) (fun c_8 => absurd c_8 (by decide)) (fun c_8 => ?_)
    refine lv_iconst (v := (-1)) hx hb dX8_best_10 (by decide) ?_
    exact r_iret C0 X hP hS hr hlk dX8_best_11 (by simp only [b_1, p_7, if_true, if_false, ite_true, ite_false, true_and, and_true, false_and, and_false, true_or, or_true, false_or, or_false, not_true_eq_false, not_false_eq_true, ne_eq, and_self, or_self]; try rfl)
theorem dX8_more_0 : decode cX8_more 0 = .ok (.iload_n 1, 1) := by decide +kernel
theorem dX8_more_1 : decode cX8_more 1 = .ok (.i2l, 1) := by decide +kernel
theorem dX8_more_2 : decode cX8_more 2 = .ok (.lconst 0, 1) := by decide +kernel
theorem dX8_more_3 : decode cX8_more 3 = .ok (.lconst 1, 1) := by decide +kernel
theorem dX8_more_4 : decode cX8_more 4 = .ok (.invokestatic 53, 3) := by decide +kernel
theorem dX8_more_7 : decode cX8_more 7 = .ok (.ifCond .ne 5, 3) := by decide +kernel
theorem dX8_more_10 : decode cX8_more 10 = .ok (.iconst (-1), 1) := by decide +kernel
theorem dX8_more_11 : decode cX8_more 11 = .ok (.ireturn, 1) := by decide +kernel
theorem dX8_more_12 : decode cX8_more 12 = .ok (.aload_n 0, 1) := by decide +kernel
theorem dX8_more_13 : decode cX8_more 13 = .ok (.invokevirtual 221, 3) := by decide +kernel
theorem dX8_more_16 : decode cX8_more 16 = .ok (.ifCond .eq 6, 3) := by decide +kernel
theorem dX8_more_19 : decode cX8_more 19 = .ok (.bipush (-3), 2) := by decide +kernel
theorem dX8_more_21 : decode cX8_more 21 = .ok (.ireturn, 1) := by decide +kernel
theorem dX8_more_22 : decode cX8_more 22 = .ok (.bipush (-4), 2) := by decide +kernel
theorem dX8_more_24 : decode cX8_more 24 = .ok (.istore_n 2, 1) := by decide +kernel
theorem dX8_more_25 : decode cX8_more 25 = .ok (.iconst 0, 1) := by decide +kernel
theorem dX8_more_26 : decode cX8_more 26 = .ok (.istore_n 3, 1) := by decide +kernel
theorem dX8_more_27 : decode cX8_more 27 = .ok (.iconst 1, 1) := by decide +kernel
theorem dX8_more_28 : decode cX8_more 28 = .ok (.istore 4, 2) := by decide +kernel
theorem dX8_more_30 : decode cX8_more 30 = .ok (.iload 4, 2) := by decide +kernel
theorem dX8_more_32 : decode cX8_more 32 = .ok (.aload_n 0, 1) := by decide +kernel
theorem dX8_more_33 : decode cX8_more 33 = .ok (.getfield 9, 3) := by decide +kernel
theorem dX8_more_36 : decode cX8_more 36 = .ok (.iconst 0, 1) := by decide +kernel
theorem dX8_more_37 : decode cX8_more 37 = .ok (.iaload, 1) := by decide +kernel
theorem dX8_more_38 : decode cX8_more 38 = .ok (.if_icmp .ge 67, 3) := by decide +kernel
theorem dX8_more_41 : decode cX8_more 41 = .ok (.aload_n 0, 1) := by decide +kernel
theorem dX8_more_42 : decode cX8_more 42 = .ok (.getfield 9, 3) := by decide +kernel
theorem dX8_more_45 : decode cX8_more 45 = .ok (.iconst 5, 1) := by decide +kernel
theorem dX8_more_46 : decode cX8_more 46 = .ok (.iload 4, 2) := by decide +kernel
theorem dX8_more_48 : decode cX8_more 48 = .ok (.iadd, 1) := by decide +kernel
theorem dX8_more_49 : decode cX8_more 49 = .ok (.iaload, 1) := by decide +kernel
theorem dX8_more_50 : decode cX8_more 50 = .ok (.iconst 4, 1) := by decide +kernel
theorem dX8_more_51 : decode cX8_more 51 = .ok (.if_icmp .ne 6, 3) := by decide +kernel
theorem dX8_more_54 : decode cX8_more 54 = .ok (.goto 45, 3) := by decide +kernel
theorem dX8_more_57 : decode cX8_more 57 = .ok (.aload_n 0, 1) := by decide +kernel
theorem dX8_more_58 : decode cX8_more 58 = .ok (.invokevirtual 244, 3) := by decide +kernel
theorem dX8_more_61 : decode cX8_more 61 = .ok (.aload_n 0, 1) := by decide +kernel
theorem dX8_more_62 : decode cX8_more 62 = .ok (.getfield 16, 3) := by decide +kernel
theorem dX8_more_65 : decode cX8_more 65 = .ok (.iconst 5, 1) := by decide +kernel
theorem dX8_more_66 : decode cX8_more 66 = .ok (.iload 4, 2) := by decide +kernel
theorem dX8_more_68 : decode cX8_more 68 = .ok (.iadd, 1) := by decide +kernel
theorem dX8_more_69 : decode cX8_more 69 = .ok (.dup2, 1) := by decide +kernel
theorem dX8_more_70 : decode cX8_more 70 = .ok (.iaload, 1) := by decide +kernel
theorem dX8_more_71 : decode cX8_more 71 = .ok (.iconst 1, 1) := by decide +kernel
theorem dX8_more_72 : decode cX8_more 72 = .ok (.iadd, 1) := by decide +kernel
theorem dX8_more_73 : decode cX8_more 73 = .ok (.iastore, 1) := by decide +kernel
theorem dX8_more_74 : decode cX8_more 74 = .ok (.aload_n 0, 1) := by decide +kernel
theorem dX8_more_75 : decode cX8_more 75 = .ok (.invokevirtual 247, 3) := by decide +kernel
theorem dX8_more_78 : decode cX8_more 78 = .ok (.istore 5, 2) := by decide +kernel
theorem dX8_more_80 : decode cX8_more 80 = .ok (.iload_n 2, 1) := by decide +kernel
theorem dX8_more_81 : decode cX8_more 81 = .ok (.ifCond .lt 12, 3) := by decide +kernel
theorem dX8_more_84 : decode cX8_more 84 = .ok (.iload 5, 2) := by decide +kernel
theorem dX8_more_86 : decode cX8_more 86 = .ok (.iload_n 3, 1) := by decide +kernel
theorem dX8_more_87 : decode cX8_more 87 = .ok (.if_icmp .lt 6, 3) := by decide +kernel
theorem dX8_more_90 : decode cX8_more 90 = .ok (.goto 9, 3) := by decide +kernel
theorem dX8_more_93 : decode cX8_more 93 = .ok (.iload 4, 2) := by decide +kernel
theorem dX8_more_95 : decode cX8_more 95 = .ok (.istore_n 2, 1) := by decide +kernel
theorem dX8_more_96 : decode cX8_more 96 = .ok (.iload 5, 2) := by decide +kernel
theorem dX8_more_98 : decode cX8_more 98 = .ok (.istore_n 3, 1) := by decide +kernel
theorem dX8_more_99 : decode cX8_more 99 = .ok (.iinc 4 1, 3) := by decide +kernel
theorem dX8_more_102 : decode cX8_more 102 = .ok (.goto (-72), 3) := by decide +kernel
theorem dX8_more_105 : decode cX8_more 105 = .ok (.iload_n 2, 1) := by decide +kernel
theorem dX8_more_106 : decode cX8_more 106 = .ok (.ifCond .lt 7, 3) := by decide +kernel
theorem dX8_more_109 : decode cX8_more 109 = .ok (.iload_n 1, 1) := by decide +kernel
theorem dX8_more_110 : decode cX8_more 110 = .ok (.ifCond .ne 7, 3) := by decide +kernel
theorem dX8_more_113 : decode cX8_more 113 = .ok (.iload_n 2, 1) := by decide +kernel
theorem dX8_more_114 : decode cX8_more 114 = .ok (.goto 4, 3) := by decide +kernel
theorem dX8_more_117 : decode cX8_more 117 = .ok (.iload_n 3, 1) := by decide +kernel
theorem dX8_more_118 : decode cX8_more 118 = .ok (.ireturn, 1) := by decide +kernel
set_option maxHeartbeats 4000000 in
set_option maxRecDepth 100000 in
theorem c_X8_more_f (l : Launch) (D : va_G) (cA : Nat → ClassId) (ad : Nat → Nat) (o : Int64) (σ : Mem) (w : Int32) (hF : FrM σ) (sz : Nat) : Met l yX8_more (WY yX8_more cX8_more 6 (some .int)) (RM 1) (va_Pc [.ref (ad 91), .int w] (PW D cA ad o σ sz)) (va_Qi (fun r _ => r = (if w < 0 ∨ 1 < w then -1 else -3)) (QW D cA ad o) (FA ad sz)) 0 0 (FA ad sz) := by
  refine ct_of (own := RX8) (k := 1) (Qf := va_Qi (fun r _ => r = (if w < 0 ∨ 1 < w then -1 else -3)) (QW D cA ad o)) rfl (by decide) (Nat.le_of_ble_eq_true rfl) (fun p e s m below meth c ls C0 X hr hlk hP hl => ?_) sz
  have hS : va_S (FA ad s.heap.size) s.heap s.heap [] := va_S.rf
  have hl : lv_has ls 6 [(0, .ref (ad 91)), (1, .int w)] := hl
  obtain ⟨hx, hb, hml, hown, hts⟩ := id C0
  refine lv_iload_n hx hb dX8_more_0 rfl (lv_at hl 1 rfl) ?_
  refine lv_i2l (v := (w.toInt64)) hx hb dX8_more_1 rfl ?_
  refine lv_lconst (v := ((0 : Int32).toInt64)) hx hb dX8_more_2 (by decide) ?_
  refine lv_lconst (v := ((1 : Int32).toInt64)) hx hb dX8_more_3 (by decide) ?_
  refine r_ci X hS (r_runS (As := [.long (w.toInt64), .long ((0 : Int32).toInt64), .long ((1 : Int32).toInt64)]) (rest := []) C0 X hP L_X8_53 (fun sz => c_X8_isIn l D cA ad o σ w 0 1 sz) ⟨Nat.le_of_ble_eq_true rfl, Nat.le_of_ble_eq_true rfl⟩ rfl hl.1 rfl (Nat.le_of_ble_eq_true rfl) dX8_more_4 ⟨Nat.zero_le _, Nat.zero_le _⟩) (fun r σ9 H locs hw hP hS => ?_)
  rw [hw.2] at hP
  obtain ⟨⟨b_1, rfl⟩ | ⟨b_1, rfl⟩, -⟩ := hw
  · have p_2 : ¬ w < 0 := Int32.not_lt.mpr b_1.1
    have p_3 : ¬ 1 < w := Int32.not_lt.mpr b_1.2
    have p_4 : ¬ 2 ≤ w := nsucc (by decide) p_3
    refine lv_if_ne (tgt := 12) hx hb dX8_more_7 (by decide) (fun c_5 => ?_) (fun c_5 => absurd c_5 (by decide))
    refine lv_aload_n hx hb dX8_more_12 rfl (lv_at hl 0 rfl) ?_
    refine r_ci X hS (r_runV (As := []) (rest := []) C0 X hP L_X8_221 (fun sz => c_X8_isEmpty0 l D cA ad o σ  hF sz) (show 91 < 106 ∧ kd 91 = (8, 24) from ⟨by decide, rfl⟩).1 (show 91 < 106 ∧ kd 91 = (8, 24) from ⟨by decide, rfl⟩).2 (by decide) rfl ⟨Nat.le_of_ble_eq_true rfl, Nat.le_of_ble_eq_true rfl⟩ rfl hl.1 rfl (Nat.le_of_ble_eq_true rfl) dX8_more_13 ⟨Nat.zero_le _, Nat.zero_le _⟩) (fun r σ9 H locs hw hP hS => ?_)
    rw [hw.2] at hP
    rw [hw.1]
    refine lv_if_eq (tgt := 22) hx hb dX8_more_16 (by decide) (fun c_6 => absurd c_6 (by decide)) (fun c_6 => ?_)
    refine lv_bipush (v := (-3)) hx hb dX8_more_19 (by decide) ?_
    exact r_iret C0 X hP hS hr hlk dX8_more_21 (by simp only [p_2, p_3, p_4, Int32.not_lt.mp p_2, Int32.not_lt.mp p_3, Int32.not_le.mp p_4, if_true, if_false, ite_true, ite_false, true_and, and_true, false_and, and_false, true_or, or_true, false_or, or_false, not_true_eq_false, not_false_eq_true, ne_eq, and_self, or_self]; try rfl)
  · have p_7 : w < 0 ∨ 2 ≤ w := osucc (by decide) b_1
    refine lv_if_ne (tgt := 12) hx hb dX8_more_7 (by decide) (fun c_8 => absurd c_8 (by decide)) (fun c_8 => ?_)
    refine lv_iconst (v := (-1)) hx hb dX8_more_10 (by decide) ?_
    exact r_iret C0 X hP hS hr hlk dX8_more_11 (by simp only [b_1, p_7, if_true, if_false, ite_true, ite_false, true_and, and_true, false_and, and_false, true_or, or_true, false_or, or_false, not_true_eq_false, not_false_eq_true, ne_eq, and_self, or_self]; try rfl)
theorem dX8_hours_0 : decode cX8_hours 0 = .ok (.iload_n 1, 1) := by decide +kernel
theorem dX8_hours_1 : decode cX8_hours 1 = .ok (.i2l, 1) := by decide +kernel
theorem dX8_hours_2 : decode cX8_hours 2 = .ok (.lconst 0, 1) := by decide +kernel
theorem dX8_hours_3 : decode cX8_hours 3 = .ok (.lconst 1, 1) := by decide +kernel
theorem dX8_hours_4 : decode cX8_hours 4 = .ok (.invokestatic 53, 3) := by decide +kernel
theorem dX8_hours_7 : decode cX8_hours 7 = .ok (.ifCond .ne 5, 3) := by decide +kernel
theorem dX8_hours_10 : decode cX8_hours 10 = .ok (.iconst (-1), 1) := by decide +kernel
theorem dX8_hours_11 : decode cX8_hours 11 = .ok (.ireturn, 1) := by decide +kernel
theorem dX8_hours_12 : decode cX8_hours 12 = .ok (.aload_n 0, 1) := by decide +kernel
theorem dX8_hours_13 : decode cX8_hours 13 = .ok (.invokevirtual 221, 3) := by decide +kernel
theorem dX8_hours_16 : decode cX8_hours 16 = .ok (.ifCond .eq 6, 3) := by decide +kernel
theorem dX8_hours_19 : decode cX8_hours 19 = .ok (.bipush (-3), 2) := by decide +kernel
theorem dX8_hours_21 : decode cX8_hours 21 = .ok (.ireturn, 1) := by decide +kernel
theorem dX8_hours_22 : decode cX8_hours 22 = .ok (.bipush (-4), 2) := by decide +kernel
theorem dX8_hours_24 : decode cX8_hours 24 = .ok (.istore_n 2, 1) := by decide +kernel
theorem dX8_hours_25 : decode cX8_hours 25 = .ok (.iconst 0, 1) := by decide +kernel
theorem dX8_hours_26 : decode cX8_hours 26 = .ok (.istore_n 3, 1) := by decide +kernel
theorem dX8_hours_27 : decode cX8_hours 27 = .ok (.iconst 0, 1) := by decide +kernel
theorem dX8_hours_28 : decode cX8_hours 28 = .ok (.istore 4, 2) := by decide +kernel
theorem dX8_hours_30 : decode cX8_hours 30 = .ok (.iload 4, 2) := by decide +kernel
theorem dX8_hours_32 : decode cX8_hours 32 = .ok (.bipush 10, 2) := by decide +kernel
theorem dX8_hours_34 : decode cX8_hours 34 = .ok (.if_icmp .ge 37, 3) := by decide +kernel
theorem dX8_hours_37 : decode cX8_hours 37 = .ok (.aload_n 0, 1) := by decide +kernel
theorem dX8_hours_38 : decode cX8_hours 38 = .ok (.iconst 3, 1) := by decide +kernel
theorem dX8_hours_39 : decode cX8_hours 39 = .ok (.iload 4, 2) := by decide +kernel
theorem dX8_hours_41 : decode cX8_hours 41 = .ok (.invokevirtual 254, 3) := by decide +kernel
theorem dX8_hours_44 : decode cX8_hours 44 = .ok (.istore 5, 2) := by decide +kernel
theorem dX8_hours_46 : decode cX8_hours 46 = .ok (.iload_n 2, 1) := by decide +kernel
theorem dX8_hours_47 : decode cX8_hours 47 = .ok (.ifCond .lt 12, 3) := by decide +kernel
theorem dX8_hours_50 : decode cX8_hours 50 = .ok (.iload 5, 2) := by decide +kernel
theorem dX8_hours_52 : decode cX8_hours 52 = .ok (.iload_n 3, 1) := by decide +kernel
theorem dX8_hours_53 : decode cX8_hours 53 = .ok (.if_icmp .lt 6, 3) := by decide +kernel
theorem dX8_hours_56 : decode cX8_hours 56 = .ok (.goto 9, 3) := by decide +kernel
theorem dX8_hours_59 : decode cX8_hours 59 = .ok (.iload 4, 2) := by decide +kernel
theorem dX8_hours_61 : decode cX8_hours 61 = .ok (.istore_n 2, 1) := by decide +kernel
theorem dX8_hours_62 : decode cX8_hours 62 = .ok (.iload 5, 2) := by decide +kernel
theorem dX8_hours_64 : decode cX8_hours 64 = .ok (.istore_n 3, 1) := by decide +kernel
theorem dX8_hours_65 : decode cX8_hours 65 = .ok (.iinc 4 1, 3) := by decide +kernel
theorem dX8_hours_68 : decode cX8_hours 68 = .ok (.goto (-38), 3) := by decide +kernel
theorem dX8_hours_71 : decode cX8_hours 71 = .ok (.iload_n 1, 1) := by decide +kernel
theorem dX8_hours_72 : decode cX8_hours 72 = .ok (.ifCond .ne 7, 3) := by decide +kernel
theorem dX8_hours_75 : decode cX8_hours 75 = .ok (.iload_n 2, 1) := by decide +kernel
theorem dX8_hours_76 : decode cX8_hours 76 = .ok (.goto 4, 3) := by decide +kernel
theorem dX8_hours_79 : decode cX8_hours 79 = .ok (.iload_n 3, 1) := by decide +kernel
theorem dX8_hours_80 : decode cX8_hours 80 = .ok (.ireturn, 1) := by decide +kernel
set_option maxHeartbeats 4000000 in
set_option maxRecDepth 100000 in
theorem c_X8_hours_f (l : Launch) (D : va_G) (cA : Nat → ClassId) (ad : Nat → Nat) (o : Int64) (σ : Mem) (w : Int32) (hF : FrM σ) (sz : Nat) : Met l yX8_hours (WY yX8_hours cX8_hours 6 (some .int)) (RM 1) (va_Pc [.ref (ad 91), .int w] (PW D cA ad o σ sz)) (va_Qi (fun r _ => r = (if w < 0 ∨ 1 < w then -1 else -3)) (QW D cA ad o) (FA ad sz)) 0 0 (FA ad sz) := by
  refine ct_of (own := RX8) (k := 1) (Qf := va_Qi (fun r _ => r = (if w < 0 ∨ 1 < w then -1 else -3)) (QW D cA ad o)) rfl (by decide) (Nat.le_of_ble_eq_true rfl) (fun p e s m below meth c ls C0 X hr hlk hP hl => ?_) sz
  have hS : va_S (FA ad s.heap.size) s.heap s.heap [] := va_S.rf
  have hl : lv_has ls 6 [(0, .ref (ad 91)), (1, .int w)] := hl
  obtain ⟨hx, hb, hml, hown, hts⟩ := id C0
  refine lv_iload_n hx hb dX8_hours_0 rfl (lv_at hl 1 rfl) ?_
  refine lv_i2l (v := (w.toInt64)) hx hb dX8_hours_1 rfl ?_
  refine lv_lconst (v := ((0 : Int32).toInt64)) hx hb dX8_hours_2 (by decide) ?_
  refine lv_lconst (v := ((1 : Int32).toInt64)) hx hb dX8_hours_3 (by decide) ?_
  refine r_ci X hS (r_runS (As := [.long (w.toInt64), .long ((0 : Int32).toInt64), .long ((1 : Int32).toInt64)]) (rest := []) C0 X hP L_X8_53 (fun sz => c_X8_isIn l D cA ad o σ w 0 1 sz) ⟨Nat.le_of_ble_eq_true rfl, Nat.le_of_ble_eq_true rfl⟩ rfl hl.1 rfl (Nat.le_of_ble_eq_true rfl) dX8_hours_4 ⟨Nat.zero_le _, Nat.zero_le _⟩) (fun r σ9 H locs hw hP hS => ?_)
  rw [hw.2] at hP
  obtain ⟨⟨b_1, rfl⟩ | ⟨b_1, rfl⟩, -⟩ := hw
  · have p_2 : ¬ w < 0 := Int32.not_lt.mpr b_1.1
    have p_3 : ¬ 1 < w := Int32.not_lt.mpr b_1.2
    have p_4 : ¬ 2 ≤ w := nsucc (by decide) p_3
    refine lv_if_ne (tgt := 12) hx hb dX8_hours_7 (by decide) (fun c_5 => ?_) (fun c_5 => absurd c_5 (by decide))
    refine lv_aload_n hx hb dX8_hours_12 rfl (lv_at hl 0 rfl) ?_
    refine r_ci X hS (r_runV (As := []) (rest := []) C0 X hP L_X8_221 (fun sz => c_X8_isEmpty0 l D cA ad o σ  hF sz) (show 91 < 106 ∧ kd 91 = (8, 24) from ⟨by decide, rfl⟩).1 (show 91 < 106 ∧ kd 91 = (8, 24) from ⟨by decide, rfl⟩).2 (by decide) rfl ⟨Nat.le_of_ble_eq_true rfl, Nat.le_of_ble_eq_true rfl⟩ rfl hl.1 rfl (Nat.le_of_ble_eq_true rfl) dX8_hours_13 ⟨Nat.zero_le _, Nat.zero_le _⟩) (fun r σ9 H locs hw hP hS => ?_)
    rw [hw.2] at hP
    rw [hw.1]
    refine lv_if_eq (tgt := 22) hx hb dX8_hours_16 (by decide) (fun c_6 => absurd c_6 (by decide)) (fun c_6 => ?_)
    refine lv_bipush (v := (-3)) hx hb dX8_hours_19 (by decide) ?_
    exact r_iret C0 X hP hS hr hlk dX8_hours_21 (by simp only [p_2, p_3, p_4, Int32.not_lt.mp p_2, Int32.not_lt.mp p_3, Int32.not_le.mp p_4, if_true, if_false, ite_true, ite_false, true_and, and_true, false_and, and_false, true_or, or_true, false_or, or_false, not_true_eq_false, not_false_eq_true, ne_eq, and_self, or_self]; try rfl)
  · have p_7 : w < 0 ∨ 2 ≤ w := osucc (by decide) b_1
    refine lv_if_ne (tgt := 12) hx hb dX8_hours_7 (by decide) (fun c_8 => absurd c_8 (by decide)) (fun c_8 => ?_)
    refine lv_iconst (v := (-1)) hx hb dX8_hours_10 (by decide) ?_
    exact r_iret C0 X hP hS hr hlk dX8_hours_11 (by simp only [b_1, p_7, if_true, if_false, ite_true, ite_false, true_and, and_true, false_and, and_false, true_or, or_true, false_or, or_false, not_true_eq_false, not_false_eq_true, ne_eq, and_self, or_self]; try rfl)
theorem dX8_fit_0 : decode cX8_fit 0 = .ok (.iload_n 1, 1) := by decide +kernel
theorem dX8_fit_1 : decode cX8_fit 1 = .ok (.invokestatic 105, 3) := by decide +kernel
theorem dX8_fit_4 : decode cX8_fit 4 = .ok (.ifCond .eq 15, 3) := by decide +kernel
theorem dX8_fit_7 : decode cX8_fit 7 = .ok (.iload_n 2, 1) := by decide +kernel
theorem dX8_fit_8 : decode cX8_fit 8 = .ok (.i2l, 1) := by decide +kernel
theorem dX8_fit_9 : decode cX8_fit 9 = .ok (.lconst 0, 1) := by decide +kernel
theorem dX8_fit_10 : decode cX8_fit 10 = .ok (.ldc2_w 95, 3) := by decide +kernel
theorem dX8_fit_13 : decode cX8_fit 13 = .ok (.invokestatic 53, 3) := by decide +kernel
theorem dX8_fit_16 : decode cX8_fit 16 = .ok (.ifCond .ne 5, 3) := by decide +kernel
theorem dX8_fit_19 : decode cX8_fit 19 = .ok (.iconst (-1), 1) := by decide +kernel
theorem dX8_fit_20 : decode cX8_fit 20 = .ok (.ireturn, 1) := by decide +kernel
theorem dX8_fit_21 : decode cX8_fit 21 = .ok (.aload_n 0, 1) := by decide +kernel
theorem dX8_fit_22 : decode cX8_fit 22 = .ok (.iload_n 1, 1) := by decide +kernel
theorem dX8_fit_23 : decode cX8_fit 23 = .ok (.iconst 0, 1) := by decide +kernel
theorem dX8_fit_24 : decode cX8_fit 24 = .ok (.invokevirtual 108, 3) := by decide +kernel
theorem dX8_fit_27 : decode cX8_fit 27 = .ok (.istore_n 3, 1) := by decide +kernel
theorem dX8_fit_28 : decode cX8_fit 28 = .ok (.iload_n 3, 1) := by decide +kernel
theorem dX8_fit_29 : decode cX8_fit 29 = .ok (.ifCond .eq 5, 3) := by decide +kernel
theorem dX8_fit_32 : decode cX8_fit 32 = .ok (.iload_n 3, 1) := by decide +kernel
theorem dX8_fit_33 : decode cX8_fit 33 = .ok (.ireturn, 1) := by decide +kernel
theorem dX8_fit_34 : decode cX8_fit 34 = .ok (.aload_n 0, 1) := by decide +kernel
theorem dX8_fit_35 : decode cX8_fit 35 = .ok (.getfield 28, 3) := by decide +kernel
theorem dX8_fit_38 : decode cX8_fit 38 = .ok (.iload_n 1, 1) := by decide +kernel
theorem dX8_fit_39 : decode cX8_fit 39 = .ok (.iaload, 1) := by decide +kernel
theorem dX8_fit_40 : decode cX8_fit 40 = .ok (.ifCond .ne 6, 3) := by decide +kernel
theorem dX8_fit_43 : decode cX8_fit 43 = .ok (.bipush (-13), 2) := by decide +kernel
theorem dX8_fit_45 : decode cX8_fit 45 = .ok (.ireturn, 1) := by decide +kernel
theorem dX8_fit_46 : decode cX8_fit 46 = .ok (.iconst 0, 1) := by decide +kernel
theorem dX8_fit_47 : decode cX8_fit 47 = .ok (.istore 4, 2) := by decide +kernel
theorem dX8_fit_49 : decode cX8_fit 49 = .ok (.iload 4, 2) := by decide +kernel
theorem dX8_fit_51 : decode cX8_fit 51 = .ok (.aload_n 0, 1) := by decide +kernel
theorem dX8_fit_52 : decode cX8_fit 52 = .ok (.getfield 28, 3) := by decide +kernel
theorem dX8_fit_55 : decode cX8_fit 55 = .ok (.iload_n 1, 1) := by decide +kernel
theorem dX8_fit_56 : decode cX8_fit 56 = .ok (.iaload, 1) := by decide +kernel
theorem dX8_fit_57 : decode cX8_fit 57 = .ok (.if_icmp .ge 35, 3) := by decide +kernel
theorem dX8_fit_60 : decode cX8_fit 60 = .ok (.aload_n 0, 1) := by decide +kernel
theorem dX8_fit_61 : decode cX8_fit 61 = .ok (.getfield 31, 3) := by decide +kernel
theorem dX8_fit_64 : decode cX8_fit 64 = .ok (.bipush 100, 2) := by decide +kernel
theorem dX8_fit_66 : decode cX8_fit 66 = .ok (.iload_n 1, 1) := by decide +kernel
theorem dX8_fit_67 : decode cX8_fit 67 = .ok (.imul, 1) := by decide +kernel
theorem dX8_fit_68 : decode cX8_fit 68 = .ok (.iload 4, 2) := by decide +kernel
theorem dX8_fit_70 : decode cX8_fit 70 = .ok (.iadd, 1) := by decide +kernel
theorem dX8_fit_71 : decode cX8_fit 71 = .ok (.iaload, 1) := by decide +kernel
theorem dX8_fit_72 : decode cX8_fit 72 = .ok (.i2l, 1) := by decide +kernel
theorem dX8_fit_73 : decode cX8_fit 73 = .ok (.lconst 0, 1) := by decide +kernel
theorem dX8_fit_74 : decode cX8_fit 74 = .ok (.ldc2_w 57, 3) := by decide +kernel
theorem dX8_fit_77 : decode cX8_fit 77 = .ok (.invokestatic 53, 3) := by decide +kernel
theorem dX8_fit_80 : decode cX8_fit 80 = .ok (.ifCond .ne 6, 3) := by decide +kernel
theorem dX8_fit_83 : decode cX8_fit 83 = .ok (.bipush (-13), 2) := by decide +kernel
theorem dX8_fit_85 : decode cX8_fit 85 = .ok (.ireturn, 1) := by decide +kernel
theorem dX8_fit_86 : decode cX8_fit 86 = .ok (.iinc 4 1, 3) := by decide +kernel
theorem dX8_fit_89 : decode cX8_fit 89 = .ok (.goto (-40), 3) := by decide +kernel
theorem dX8_fit_92 : decode cX8_fit 92 = .ok (.aload_n 0, 1) := by decide +kernel
theorem dX8_fit_93 : decode cX8_fit 93 = .ok (.invokevirtual 221, 3) := by decide +kernel
theorem dX8_fit_96 : decode cX8_fit 96 = .ok (.ifCond .eq 6, 3) := by decide +kernel
theorem dX8_fit_99 : decode cX8_fit 99 = .ok (.bipush (-3), 2) := by decide +kernel
theorem dX8_fit_101 : decode cX8_fit 101 = .ok (.ireturn, 1) := by decide +kernel
theorem dX8_fit_102 : decode cX8_fit 102 = .ok (.bipush (-4), 2) := by decide +kernel
theorem dX8_fit_104 : decode cX8_fit 104 = .ok (.istore 4, 2) := by decide +kernel
theorem dX8_fit_106 : decode cX8_fit 106 = .ok (.iconst 0, 1) := by decide +kernel
theorem dX8_fit_107 : decode cX8_fit 107 = .ok (.istore 5, 2) := by decide +kernel
theorem dX8_fit_109 : decode cX8_fit 109 = .ok (.iconst 0, 1) := by decide +kernel
theorem dX8_fit_110 : decode cX8_fit 110 = .ok (.istore 6, 2) := by decide +kernel
theorem dX8_fit_112 : decode cX8_fit 112 = .ok (.iload 6, 2) := by decide +kernel
theorem dX8_fit_114 : decode cX8_fit 114 = .ok (.aload_n 0, 1) := by decide +kernel
theorem dX8_fit_115 : decode cX8_fit 115 = .ok (.getfield 28, 3) := by decide +kernel
theorem dX8_fit_118 : decode cX8_fit 118 = .ok (.iload_n 1, 1) := by decide +kernel
theorem dX8_fit_119 : decode cX8_fit 119 = .ok (.iaload, 1) := by decide +kernel
theorem dX8_fit_120 : decode cX8_fit 120 = .ok (.if_icmp .ge 51, 3) := by decide +kernel
theorem dX8_fit_123 : decode cX8_fit 123 = .ok (.aload_n 0, 1) := by decide +kernel
theorem dX8_fit_124 : decode cX8_fit 124 = .ok (.aload_n 0, 1) := by decide +kernel
theorem dX8_fit_125 : decode cX8_fit 125 = .ok (.getfield 31, 3) := by decide +kernel
theorem dX8_fit_128 : decode cX8_fit 128 = .ok (.bipush 100, 2) := by decide +kernel
theorem dX8_fit_130 : decode cX8_fit 130 = .ok (.iload_n 1, 1) := by decide +kernel
theorem dX8_fit_131 : decode cX8_fit 131 = .ok (.imul, 1) := by decide +kernel
theorem dX8_fit_132 : decode cX8_fit 132 = .ok (.iload 6, 2) := by decide +kernel
theorem dX8_fit_134 : decode cX8_fit 134 = .ok (.iadd, 1) := by decide +kernel
theorem dX8_fit_135 : decode cX8_fit 135 = .ok (.iaload, 1) := by decide +kernel
theorem dX8_fit_136 : decode cX8_fit 136 = .ok (.iload_n 2, 1) := by decide +kernel
theorem dX8_fit_137 : decode cX8_fit 137 = .ok (.invokevirtual 254, 3) := by decide +kernel
theorem dX8_fit_140 : decode cX8_fit 140 = .ok (.istore 7, 2) := by decide +kernel
theorem dX8_fit_142 : decode cX8_fit 142 = .ok (.iload 4, 2) := by decide +kernel
theorem dX8_fit_144 : decode cX8_fit 144 = .ok (.ifCond .lt 13, 3) := by decide +kernel
theorem dX8_fit_147 : decode cX8_fit 147 = .ok (.iload 7, 2) := by decide +kernel
theorem dX8_fit_149 : decode cX8_fit 149 = .ok (.iload 5, 2) := by decide +kernel
theorem dX8_fit_151 : decode cX8_fit 151 = .ok (.if_icmp .lt 6, 3) := by decide +kernel
theorem dX8_fit_154 : decode cX8_fit 154 = .ok (.goto 11, 3) := by decide +kernel
theorem dX8_fit_157 : decode cX8_fit 157 = .ok (.iload 6, 2) := by decide +kernel
theorem dX8_fit_159 : decode cX8_fit 159 = .ok (.istore 4, 2) := by decide +kernel
theorem dX8_fit_161 : decode cX8_fit 161 = .ok (.iload 7, 2) := by decide +kernel
theorem dX8_fit_163 : decode cX8_fit 163 = .ok (.istore 5, 2) := by decide +kernel
theorem dX8_fit_165 : decode cX8_fit 165 = .ok (.iinc 6 1, 3) := by decide +kernel
theorem dX8_fit_168 : decode cX8_fit 168 = .ok (.goto (-56), 3) := by decide +kernel
theorem dX8_fit_171 : decode cX8_fit 171 = .ok (.iload 4, 2) := by decide +kernel
theorem dX8_fit_173 : decode cX8_fit 173 = .ok (.ireturn, 1) := by decide +kernel
set_option maxHeartbeats 4000000 in
set_option maxRecDepth 100000 in
theorem c_X8_fit_f (l : Launch) (D : va_G) (cA : Nat → ClassId) (ad : Nat → Nat) (o : Int64) (σ : Mem) (d : Int32) (w : Int32) (hF : FrM σ) (sz : Nat) : Met l yX8_fit (WY yX8_fit cX8_fit 8 (some .int)) (RM 3) (va_Pc [.ref (ad 91), .int d, .int w] (PW D cA ad o σ sz)) (va_Qi (fun r _ => r = (if (d < 0 ∨ 8 ≤ d) ∨ w < 0 ∨ 9 < w then -1 else -11)) (QW D cA ad o) (FA ad sz)) 0 0 (FA ad sz) := by
  refine ct_of (own := RX8) (k := 3) (Qf := va_Qi (fun r _ => r = (if (d < 0 ∨ 8 ≤ d) ∨ w < 0 ∨ 9 < w then -1 else -11)) (QW D cA ad o)) rfl (by decide) (Nat.le_of_ble_eq_true rfl) (fun p e s m below meth c ls C0 X hr hlk hP hl => ?_) sz
  have hS : va_S (FA ad s.heap.size) s.heap s.heap [] := va_S.rf
  have hl : lv_has ls 8 [(0, .ref (ad 91)), (1, .int d), (2, .int w)] := hl
  obtain ⟨hx, hb, hml, hown, hts⟩ := id C0
  refine lv_iload_n hx hb dX8_fit_0 rfl (lv_at hl 1 rfl) ?_
  refine r_ci X hS (r_runS (As := [.int d]) (rest := []) C0 X hP L_X8_105 (fun sz => c_X8_isShelf l D cA ad o σ d  sz) ⟨Nat.le_of_ble_eq_true rfl, Nat.le_of_ble_eq_true rfl⟩ rfl hl.1 rfl (Nat.le_of_ble_eq_true rfl) dX8_fit_1 ⟨Nat.zero_le _, Nat.zero_le _⟩) (fun r σ9 H locs hw hP hS => ?_)
  rw [hw.2] at hP
  obtain ⟨⟨b_1, rfl⟩ | ⟨b_1, rfl⟩, -⟩ := hw
  · refine lv_if_eq (tgt := 19) hx hb dX8_fit_4 (by decide) (fun c_2 => absurd c_2 (by decide)) (fun c_2 => ?_)
    refine lv_iload_n hx hb dX8_fit_7 rfl (lv_at hl 2 rfl) ?_
    refine lv_i2l (v := (w.toInt64)) hx hb dX8_fit_8 rfl ?_
    refine lv_lconst (v := ((0 : Int32).toInt64)) hx hb dX8_fit_9 (by decide) ?_
    refine lv_ldc2 (own := RX8) (index := 95) (v := 9) hx hb hown (hts _ (tm 1141 (by decide +kernel) (by decide +kernel))) dX8_fit_10 ?_
    refine lv_topEl (y := ((9 : Int32).toInt64)) (by decide) ?_
    refine r_ci X hS (r_runS (As := [.long (w.toInt64), .long ((0 : Int32).toInt64), .long ((9 : Int32).toInt64)]) (rest := []) C0 X hP L_X8_53 (fun sz => c_X8_isIn l D cA ad o σ w 0 9 sz) ⟨Nat.le_of_ble_eq_true rfl, Nat.le_of_ble_eq_true rfl⟩ rfl hl.1 rfl (Nat.le_of_ble_eq_true rfl) dX8_fit_13 ⟨Nat.zero_le _, Nat.zero_le _⟩) (fun r σ9 H locs hw hP hS => ?_)
    rw [hw.2] at hP
    obtain ⟨⟨b_3, rfl⟩ | ⟨b_3, rfl⟩, -⟩ := hw
    · have p_4 : ¬ w < 0 := Int32.not_lt.mpr b_3.1
      have p_5 : ¬ 9 < w := Int32.not_lt.mpr b_3.2
      have p_6 : ¬ 10 ≤ w := nsucc (by decide) p_5
      refine lv_if_ne (tgt := 21) hx hb dX8_fit_16 (by decide) (fun c_7 => ?_) (fun c_7 => absurd c_7 (by decide))
      refine lv_aload_n hx hb dX8_fit_21 rfl (lv_at hl 0 rfl) ?_
      refine lv_iload_n hx hb dX8_fit_22 rfl (lv_at hl 1 rfl) ?_
      refine lv_iconst (v := 0) hx hb dX8_fit_23 (by decide) ?_
      refine r_ci X hS (r_runV (As := [.int d, .int 0]) (rest := []) C0 X hP L_X8_108 (fun sz => c_X8_wrongRow0 l D cA ad o σ d 0 hF sz) (show 91 < 106 ∧ kd 91 = (8, 24) from ⟨by decide, rfl⟩).1 (show 91 < 106 ∧ kd 91 = (8, 24) from ⟨by decide, rfl⟩).2 (by decide) rfl ⟨Nat.le_of_ble_eq_true rfl, Nat.le_of_ble_eq_true rfl⟩ rfl hl.1 rfl (Nat.le_of_ble_eq_true rfl) dX8_fit_24 ⟨Nat.zero_le _, Nat.zero_le _⟩) (fun r σ9 H locs hw hP hS => ?_)
      rw [hw.2] at hP
      obtain ⟨⟨b_8, rfl⟩ | ⟨b_8, rfl⟩, -⟩ := hw
      · exact absurd b_8 b_1
      · refine lv_istore_n (lv' := [(3, .int (-11)), (0, .ref (ad 91)), (1, .int d), (2, .int w)]) hx hb dX8_fit_27 rfl hl (by decide) rfl (fun ls hl => ?_)
        refine lv_iload_n hx hb dX8_fit_28 rfl (lv_at hl 0 rfl) ?_
        refine lv_if_eq (tgt := 34) hx hb dX8_fit_29 (by decide) (fun c_9 => absurd c_9 (by decide)) (fun c_9 => ?_)
        refine lv_iload_n hx hb dX8_fit_32 rfl (lv_at hl 0 rfl) ?_
        exact r_iret C0 X hP hS hr hlk dX8_fit_33 (by simp only [b_1, p_4, p_5, p_6, b_8, Int32.not_lt.mp p_4, Int32.not_lt.mp p_5, Int32.not_le.mp p_6, if_true, if_false, ite_true, ite_false, true_and, and_true, false_and, and_false, true_or, or_true, false_or, or_false, not_true_eq_false, not_false_eq_true, ne_eq, and_self, or_self]; try rfl)
    · have p_10 : w < 0 ∨ 10 ≤ w := osucc (by decide) b_3
      refine lv_if_ne (tgt := 21) hx hb dX8_fit_16 (by decide) (fun c_11 => absurd c_11 (by decide)) (fun c_11 => ?_)
      refine lv_iconst (v := (-1)) hx hb dX8_fit_19 (by decide) ?_
      exact r_iret C0 X hP hS hr hlk dX8_fit_20 (by simp only [b_1, b_3, p_10, if_true, if_false, ite_true, ite_false, true_and, and_true, false_and, and_false, true_or, or_true, false_or, or_false, not_true_eq_false, not_false_eq_true, ne_eq, and_self, or_self]; try rfl)
  · refine lv_if_eq (tgt := 19) hx hb dX8_fit_4 (by decide) (fun c_12 => ?_) (fun c_12 => absurd c_12 (by decide))
    refine lv_iconst (v := (-1)) hx hb dX8_fit_19 (by decide) ?_
    exact r_iret C0 X hP hS hr hlk dX8_fit_20 (by simp only [b_1, if_true, if_false, ite_true, ite_false, true_and, and_true, false_and, and_false, true_or, or_true, false_or, or_false, not_true_eq_false, not_false_eq_true, ne_eq, and_self, or_self]; try rfl)
theorem dX8_shortest_0 : decode cX8_shortest 0 = .ok (.aload_n 0, 1) := by decide +kernel
theorem dX8_shortest_1 : decode cX8_shortest 1 = .ok (.invokevirtual 221, 3) := by decide +kernel
theorem dX8_shortest_4 : decode cX8_shortest 4 = .ok (.ifCond .eq 6, 3) := by decide +kernel
theorem dX8_shortest_7 : decode cX8_shortest 7 = .ok (.bipush (-3), 2) := by decide +kernel
theorem dX8_shortest_9 : decode cX8_shortest 9 = .ok (.ireturn, 1) := by decide +kernel
theorem dX8_shortest_10 : decode cX8_shortest 10 = .ok (.bipush (-4), 2) := by decide +kernel
theorem dX8_shortest_12 : decode cX8_shortest 12 = .ok (.istore_n 1, 1) := by decide +kernel
theorem dX8_shortest_13 : decode cX8_shortest 13 = .ok (.iconst 0, 1) := by decide +kernel
theorem dX8_shortest_14 : decode cX8_shortest 14 = .ok (.istore_n 2, 1) := by decide +kernel
theorem dX8_shortest_15 : decode cX8_shortest 15 = .ok (.iconst 0, 1) := by decide +kernel
theorem dX8_shortest_16 : decode cX8_shortest 16 = .ok (.istore_n 3, 1) := by decide +kernel
theorem dX8_shortest_17 : decode cX8_shortest 17 = .ok (.iload_n 3, 1) := by decide +kernel
theorem dX8_shortest_18 : decode cX8_shortest 18 = .ok (.bipush 8, 2) := by decide +kernel
theorem dX8_shortest_20 : decode cX8_shortest 20 = .ok (.if_icmp .ge 78, 3) := by decide +kernel
theorem dX8_shortest_23 : decode cX8_shortest 23 = .ok (.iconst 0, 1) := by decide +kernel
theorem dX8_shortest_24 : decode cX8_shortest 24 = .ok (.istore 4, 2) := by decide +kernel
theorem dX8_shortest_26 : decode cX8_shortest 26 = .ok (.iload 4, 2) := by decide +kernel
theorem dX8_shortest_28 : decode cX8_shortest 28 = .ok (.iconst 5, 1) := by decide +kernel
theorem dX8_shortest_29 : decode cX8_shortest 29 = .ok (.if_icmp .ge 63, 3) := by decide +kernel
theorem dX8_shortest_32 : decode cX8_shortest 32 = .ok (.iload_n 3, 1) := by decide +kernel
theorem dX8_shortest_33 : decode cX8_shortest 33 = .ok (.iload 4, 2) := by decide +kernel
theorem dX8_shortest_35 : decode cX8_shortest 35 = .ok (.invokestatic 257, 3) := by decide +kernel
theorem dX8_shortest_38 : decode cX8_shortest 38 = .ok (.istore 5, 2) := by decide +kernel
theorem dX8_shortest_40 : decode cX8_shortest 40 = .ok (.iload_n 1, 1) := by decide +kernel
theorem dX8_shortest_41 : decode cX8_shortest 41 = .ok (.ifCond .lt 12, 3) := by decide +kernel
theorem dX8_shortest_44 : decode cX8_shortest 44 = .ok (.iload 5, 2) := by decide +kernel
theorem dX8_shortest_46 : decode cX8_shortest 46 = .ok (.iload_n 2, 1) := by decide +kernel
theorem dX8_shortest_47 : decode cX8_shortest 47 = .ok (.if_icmp .lt 6, 3) := by decide +kernel
theorem dX8_shortest_50 : decode cX8_shortest 50 = .ok (.goto 36, 3) := by decide +kernel
theorem dX8_shortest_53 : decode cX8_shortest 53 = .ok (.aload_n 0, 1) := by decide +kernel
theorem dX8_shortest_54 : decode cX8_shortest 54 = .ok (.iload_n 3, 1) := by decide +kernel
theorem dX8_shortest_55 : decode cX8_shortest 55 = .ok (.iload 4, 2) := by decide +kernel
theorem dX8_shortest_57 : decode cX8_shortest 57 = .ok (.invokevirtual 254, 3) := by decide +kernel
theorem dX8_shortest_60 : decode cX8_shortest 60 = .ok (.istore 6, 2) := by decide +kernel
theorem dX8_shortest_62 : decode cX8_shortest 62 = .ok (.aload_n 0, 1) := by decide +kernel
theorem dX8_shortest_63 : decode cX8_shortest 63 = .ok (.getfield 16, 3) := by decide +kernel
theorem dX8_shortest_66 : decode cX8_shortest 66 = .ok (.invokestatic 215, 3) := by decide +kernel
theorem dX8_shortest_69 : decode cX8_shortest 69 = .ok (.ifCond .eq 6, 3) := by decide +kernel
theorem dX8_shortest_72 : decode cX8_shortest 72 = .ok (.goto 14, 3) := by decide +kernel
theorem dX8_shortest_75 : decode cX8_shortest 75 = .ok (.bipush 10, 2) := by decide +kernel
theorem dX8_shortest_77 : decode cX8_shortest 77 = .ok (.iload_n 3, 1) := by decide +kernel
theorem dX8_shortest_78 : decode cX8_shortest 78 = .ok (.imul, 1) := by decide +kernel
theorem dX8_shortest_79 : decode cX8_shortest 79 = .ok (.iload 4, 2) := by decide +kernel
theorem dX8_shortest_81 : decode cX8_shortest 81 = .ok (.iadd, 1) := by decide +kernel
theorem dX8_shortest_82 : decode cX8_shortest 82 = .ok (.istore_n 1, 1) := by decide +kernel
theorem dX8_shortest_83 : decode cX8_shortest 83 = .ok (.iload 5, 2) := by decide +kernel
theorem dX8_shortest_85 : decode cX8_shortest 85 = .ok (.istore_n 2, 1) := by decide +kernel
theorem dX8_shortest_86 : decode cX8_shortest 86 = .ok (.iinc 4 1, 3) := by decide +kernel
theorem dX8_shortest_89 : decode cX8_shortest 89 = .ok (.goto (-63), 3) := by decide +kernel
theorem dX8_shortest_92 : decode cX8_shortest 92 = .ok (.iinc 3 1, 3) := by decide +kernel
theorem dX8_shortest_95 : decode cX8_shortest 95 = .ok (.goto (-78), 3) := by decide +kernel
theorem dX8_shortest_98 : decode cX8_shortest 98 = .ok (.iload_n 1, 1) := by decide +kernel
theorem dX8_shortest_99 : decode cX8_shortest 99 = .ok (.ireturn, 1) := by decide +kernel
set_option maxHeartbeats 4000000 in
set_option maxRecDepth 100000 in
theorem c_X8_shortest_f (l : Launch) (D : va_G) (cA : Nat → ClassId) (ad : Nat → Nat) (o : Int64) (σ : Mem)  (hF : FrM σ) (sz : Nat) : Met l yX8_shortest (WY yX8_shortest cX8_shortest 7 (some .int)) (RM 1) (va_Pc [.ref (ad 91)] (PW D cA ad o σ sz)) (va_Qi (fun r _ => r = -3) (QW D cA ad o) (FA ad sz)) 0 0 (FA ad sz) := by
  refine ct_of (own := RX8) (k := 1) (Qf := va_Qi (fun r _ => r = -3) (QW D cA ad o)) rfl (by decide) (Nat.le_of_ble_eq_true rfl) (fun p e s m below meth c ls C0 X hr hlk hP hl => ?_) sz
  have hS : va_S (FA ad s.heap.size) s.heap s.heap [] := va_S.rf
  have hl : lv_has ls 7 [(0, .ref (ad 91))] := hl
  obtain ⟨hx, hb, hml, hown, hts⟩ := id C0
  refine lv_aload_n hx hb dX8_shortest_0 rfl (lv_at hl 0 rfl) ?_
  refine r_ci X hS (r_runV (As := []) (rest := []) C0 X hP L_X8_221 (fun sz => c_X8_isEmpty0 l D cA ad o σ  hF sz) (show 91 < 106 ∧ kd 91 = (8, 24) from ⟨by decide, rfl⟩).1 (show 91 < 106 ∧ kd 91 = (8, 24) from ⟨by decide, rfl⟩).2 (by decide) rfl ⟨Nat.le_of_ble_eq_true rfl, Nat.le_of_ble_eq_true rfl⟩ rfl hl.1 rfl (Nat.le_of_ble_eq_true rfl) dX8_shortest_1 ⟨Nat.zero_le _, Nat.zero_le _⟩) (fun r σ9 H locs hw hP hS => ?_)
  rw [hw.2] at hP
  rw [hw.1]
  refine lv_if_eq (tgt := 10) hx hb dX8_shortest_4 (by decide) (fun c_1 => absurd c_1 (by decide)) (fun c_1 => ?_)
  refine lv_bipush (v := (-3)) hx hb dX8_shortest_7 (by decide) ?_
  exact r_iret C0 X hP hS hr hlk dX8_shortest_9 rfl
theorem dX8_stubborn_0 : decode cX8_stubborn 0 = .ok (.aload_n 0, 1) := by decide +kernel
theorem dX8_stubborn_1 : decode cX8_stubborn 1 = .ok (.iload_n 1, 1) := by decide +kernel
theorem dX8_stubborn_2 : decode cX8_stubborn 2 = .ok (.invokevirtual 127, 3) := by decide +kernel
theorem dX8_stubborn_5 : decode cX8_stubborn 5 = .ok (.ifCond .ne 6, 3) := by decide +kernel
theorem dX8_stubborn_8 : decode cX8_stubborn 8 = .ok (.ldc 234, 2) := by decide +kernel
theorem dX8_stubborn_10 : decode cX8_stubborn 10 = .ok (.ireturn, 1) := by decide +kernel
theorem dX8_stubborn_11 : decode cX8_stubborn 11 = .ok (.aload_n 0, 1) := by decide +kernel
theorem dX8_stubborn_12 : decode cX8_stubborn 12 = .ok (.getfield 9, 3) := by decide +kernel
theorem dX8_stubborn_15 : decode cX8_stubborn 15 = .ok (.iconst 0, 1) := by decide +kernel
theorem dX8_stubborn_16 : decode cX8_stubborn 16 = .ok (.iaload, 1) := by decide +kernel
theorem dX8_stubborn_17 : decode cX8_stubborn 17 = .ok (.ifCond .ne 7, 3) := by decide +kernel
theorem dX8_stubborn_20 : decode cX8_stubborn 20 = .ok (.ldc_w 260, 3) := by decide +kernel
theorem dX8_stubborn_23 : decode cX8_stubborn 23 = .ok (.ireturn, 1) := by decide +kernel
theorem dX8_stubborn_24 : decode cX8_stubborn 24 = .ok (.aload_n 0, 1) := by decide +kernel
theorem dX8_stubborn_25 : decode cX8_stubborn 25 = .ok (.invokevirtual 244, 3) := by decide +kernel
theorem dX8_stubborn_28 : decode cX8_stubborn 28 = .ok (.aload_n 0, 1) := by decide +kernel
theorem dX8_stubborn_29 : decode cX8_stubborn 29 = .ok (.invokevirtual 247, 3) := by decide +kernel
theorem dX8_stubborn_32 : decode cX8_stubborn 32 = .ok (.istore_n 2, 1) := by decide +kernel
theorem dX8_stubborn_33 : decode cX8_stubborn 33 = .ok (.aload_n 0, 1) := by decide +kernel
theorem dX8_stubborn_34 : decode cX8_stubborn 34 = .ok (.invokevirtual 244, 3) := by decide +kernel
theorem dX8_stubborn_37 : decode cX8_stubborn 37 = .ok (.aload_n 0, 1) := by decide +kernel
theorem dX8_stubborn_38 : decode cX8_stubborn 38 = .ok (.getfield 16, 3) := by decide +kernel
theorem dX8_stubborn_41 : decode cX8_stubborn 41 = .ok (.iload_n 1, 1) := by decide +kernel
theorem dX8_stubborn_42 : decode cX8_stubborn 42 = .ok (.iconst 3, 1) := by decide +kernel
theorem dX8_stubborn_43 : decode cX8_stubborn 43 = .ok (.iconst 0, 1) := by decide +kernel
theorem dX8_stubborn_44 : decode cX8_stubborn 44 = .ok (.invokestatic 97, 3) := by decide +kernel
theorem dX8_stubborn_47 : decode cX8_stubborn 47 = .ok (.aload_n 0, 1) := by decide +kernel
theorem dX8_stubborn_48 : decode cX8_stubborn 48 = .ok (.invokevirtual 247, 3) := by decide +kernel
theorem dX8_stubborn_51 : decode cX8_stubborn 51 = .ok (.iload_n 2, 1) := by decide +kernel
theorem dX8_stubborn_52 : decode cX8_stubborn 52 = .ok (.isub, 1) := by decide +kernel
theorem dX8_stubborn_53 : decode cX8_stubborn 53 = .ok (.ireturn, 1) := by decide +kernel
set_option maxHeartbeats 4000000 in
set_option maxRecDepth 100000 in
theorem c_X8_stubborn_f (l : Launch) (D : va_G) (cA : Nat → ClassId) (ad : Nat → Nat) (o : Int64) (σ : Mem) (a : Int32) (hF : FrM σ) (sz : Nat) : Met l yX8_stubborn (WY yX8_stubborn cX8_stubborn 3 (some .int)) (RM 2) (va_Pc [.ref (ad 91), .int a] (PW D cA ad o σ sz)) (va_Qi (fun r _ => r = -1000000001) (QW D cA ad o) (FA ad sz)) 0 0 (FA ad sz) := by
  refine ct_of (own := RX8) (k := 2) (Qf := va_Qi (fun r _ => r = -1000000001) (QW D cA ad o)) rfl (by decide) (Nat.le_of_ble_eq_true rfl) (fun p e s m below meth c ls C0 X hr hlk hP hl => ?_) sz
  have hS : va_S (FA ad s.heap.size) s.heap s.heap [] := va_S.rf
  have hl : lv_has ls 3 [(0, .ref (ad 91)), (1, .int a)] := hl
  obtain ⟨hx, hb, hml, hown, hts⟩ := id C0
  refine lv_aload_n hx hb dX8_stubborn_0 rfl (lv_at hl 0 rfl) ?_
  refine lv_iload_n hx hb dX8_stubborn_1 rfl (lv_at hl 1 rfl) ?_
  refine r_ci X hS (r_runV (As := [.int a]) (rest := []) C0 X hP L_X8_127 (fun sz => c_X8_isCart0 l D cA ad o σ a hF sz) (show 91 < 106 ∧ kd 91 = (8, 24) from ⟨by decide, rfl⟩).1 (show 91 < 106 ∧ kd 91 = (8, 24) from ⟨by decide, rfl⟩).2 (by decide) rfl ⟨Nat.le_of_ble_eq_true rfl, Nat.le_of_ble_eq_true rfl⟩ rfl hl.1 rfl (Nat.le_of_ble_eq_true rfl) dX8_stubborn_2 ⟨Nat.zero_le _, Nat.zero_le _⟩) (fun r σ9 H locs hw hP hS => ?_)
  rw [hw.2] at hP
  rw [hw.1]
  refine lv_if_ne (tgt := 11) hx hb dX8_stubborn_5 (by decide) (fun c_1 => absurd c_1 (by decide)) (fun c_1 => ?_)
  refine lv_ldc (own := RX8) (index := 234) (v := (-1000000001)) hx hb hown (hts _ (tm 1284 (by decide +kernel) (by decide +kernel))) dX8_stubborn_8 ?_
  exact r_iret C0 X hP hS hr hlk dX8_stubborn_10 rfl
theorem dX8_heard_0 : decode cX8_heard 0 = .ok (.iload_n 1, 1) := by decide +kernel
theorem dX8_heard_1 : decode cX8_heard 1 = .ok (.i2l, 1) := by decide +kernel
theorem dX8_heard_2 : decode cX8_heard 2 = .ok (.lconst 0, 1) := by decide +kernel
theorem dX8_heard_3 : decode cX8_heard 3 = .ok (.ldc2_w 95, 3) := by decide +kernel
theorem dX8_heard_6 : decode cX8_heard 6 = .ok (.invokestatic 53, 3) := by decide +kernel
theorem dX8_heard_9 : decode cX8_heard 9 = .ok (.ifCond .ne 8, 3) := by decide +kernel
theorem dX8_heard_12 : decode cX8_heard 12 = .ok (.ldc 234, 2) := by decide +kernel
theorem dX8_heard_14 : decode cX8_heard 14 = .ok (.goto 29, 3) := by decide +kernel
theorem dX8_heard_17 : decode cX8_heard 17 = .ok (.aload_n 0, 1) := by decide +kernel
theorem dX8_heard_18 : decode cX8_heard 18 = .ok (.invokevirtual 221, 3) := by decide +kernel
theorem dX8_heard_21 : decode cX8_heard 21 = .ok (.ifCond .eq 9, 3) := by decide +kernel
theorem dX8_heard_24 : decode cX8_heard 24 = .ok (.ldc_w 260, 3) := by decide +kernel
theorem dX8_heard_27 : decode cX8_heard 27 = .ok (.goto 16, 3) := by decide +kernel
theorem dX8_heard_30 : decode cX8_heard 30 = .ok (.aload_n 0, 1) := by decide +kernel
theorem dX8_heard_31 : decode cX8_heard 31 = .ok (.iconst 4, 1) := by decide +kernel
theorem dX8_heard_32 : decode cX8_heard 32 = .ok (.iconst 0, 1) := by decide +kernel
theorem dX8_heard_33 : decode cX8_heard 33 = .ok (.invokevirtual 254, 3) := by decide +kernel
theorem dX8_heard_36 : decode cX8_heard 36 = .ok (.aload_n 0, 1) := by decide +kernel
theorem dX8_heard_37 : decode cX8_heard 37 = .ok (.iconst 4, 1) := by decide +kernel
theorem dX8_heard_38 : decode cX8_heard 38 = .ok (.iload_n 1, 1) := by decide +kernel
theorem dX8_heard_39 : decode cX8_heard 39 = .ok (.invokevirtual 254, 3) := by decide +kernel
theorem dX8_heard_42 : decode cX8_heard 42 = .ok (.isub, 1) := by decide +kernel
theorem dX8_heard_43 : decode cX8_heard 43 = .ok (.ireturn, 1) := by decide +kernel
set_option maxHeartbeats 4000000 in
set_option maxRecDepth 100000 in
theorem c_X8_heard_f (l : Launch) (D : va_G) (cA : Nat → ClassId) (ad : Nat → Nat) (o : Int64) (σ : Mem) (n : Int32) (hF : FrM σ) (sz : Nat) : Met l yX8_heard (WY yX8_heard cX8_heard 2 (some .int)) (RM 1) (va_Pc [.ref (ad 91), .int n] (PW D cA ad o σ sz)) (va_Qi (fun r _ => r = (if n < 0 ∨ 9 < n then -1000000001 else -1000000003)) (QW D cA ad o) (FA ad sz)) 0 0 (FA ad sz) := by
  refine ct_of (own := RX8) (k := 1) (Qf := va_Qi (fun r _ => r = (if n < 0 ∨ 9 < n then -1000000001 else -1000000003)) (QW D cA ad o)) rfl (by decide) (Nat.le_of_ble_eq_true rfl) (fun p e s m below meth c ls C0 X hr hlk hP hl => ?_) sz
  have hS : va_S (FA ad s.heap.size) s.heap s.heap [] := va_S.rf
  have hl : lv_has ls 2 [(0, .ref (ad 91)), (1, .int n)] := hl
  obtain ⟨hx, hb, hml, hown, hts⟩ := id C0
  refine lv_iload_n hx hb dX8_heard_0 rfl (lv_at hl 1 rfl) ?_
  refine lv_i2l (v := (n.toInt64)) hx hb dX8_heard_1 rfl ?_
  refine lv_lconst (v := ((0 : Int32).toInt64)) hx hb dX8_heard_2 (by decide) ?_
  refine lv_ldc2 (own := RX8) (index := 95) (v := 9) hx hb hown (hts _ (tm 1141 (by decide +kernel) (by decide +kernel))) dX8_heard_3 ?_
  refine lv_topEl (y := ((9 : Int32).toInt64)) (by decide) ?_
  refine r_ci X hS (r_runS (As := [.long (n.toInt64), .long ((0 : Int32).toInt64), .long ((9 : Int32).toInt64)]) (rest := []) C0 X hP L_X8_53 (fun sz => c_X8_isIn l D cA ad o σ n 0 9 sz) ⟨Nat.le_of_ble_eq_true rfl, Nat.le_of_ble_eq_true rfl⟩ rfl hl.1 rfl (Nat.le_of_ble_eq_true rfl) dX8_heard_6 ⟨Nat.zero_le _, Nat.zero_le _⟩) (fun r σ9 H locs hw hP hS => ?_)
  rw [hw.2] at hP
  obtain ⟨⟨b_1, rfl⟩ | ⟨b_1, rfl⟩, -⟩ := hw
  · have p_2 : ¬ n < 0 := Int32.not_lt.mpr b_1.1
    have p_3 : ¬ 9 < n := Int32.not_lt.mpr b_1.2
    have p_4 : ¬ 10 ≤ n := nsucc (by decide) p_3
    refine lv_if_ne (tgt := 17) hx hb dX8_heard_9 (by decide) (fun c_5 => ?_) (fun c_5 => absurd c_5 (by decide))
    refine lv_aload_n hx hb dX8_heard_17 rfl (lv_at hl 0 rfl) ?_
    refine r_ci X hS (r_runV (As := []) (rest := []) C0 X hP L_X8_221 (fun sz => c_X8_isEmpty0 l D cA ad o σ  hF sz) (show 91 < 106 ∧ kd 91 = (8, 24) from ⟨by decide, rfl⟩).1 (show 91 < 106 ∧ kd 91 = (8, 24) from ⟨by decide, rfl⟩).2 (by decide) rfl ⟨Nat.le_of_ble_eq_true rfl, Nat.le_of_ble_eq_true rfl⟩ rfl hl.1 rfl (Nat.le_of_ble_eq_true rfl) dX8_heard_18 ⟨Nat.zero_le _, Nat.zero_le _⟩) (fun r σ9 H locs hw hP hS => ?_)
    rw [hw.2] at hP
    rw [hw.1]
    refine lv_if_eq (tgt := 30) hx hb dX8_heard_21 (by decide) (fun c_6 => absurd c_6 (by decide)) (fun c_6 => ?_)
    refine lv_ldcw (own := RX8) (index := 260) (v := (-1000000003)) hx hb hown (hts _ (tm 1361 (by decide +kernel) (by decide +kernel))) dX8_heard_24 ?_
    refine lv_goto (tgt := 43) hx hb dX8_heard_27 (by decide) ?_
    exact r_iret C0 X hP hS hr hlk dX8_heard_43 (by simp only [p_2, p_3, p_4, Int32.not_lt.mp p_2, Int32.not_lt.mp p_3, Int32.not_le.mp p_4, if_true, if_false, ite_true, ite_false, true_and, and_true, false_and, and_false, true_or, or_true, false_or, or_false, not_true_eq_false, not_false_eq_true, ne_eq, and_self, or_self]; try rfl)
  · have p_7 : n < 0 ∨ 10 ≤ n := osucc (by decide) b_1
    refine lv_if_ne (tgt := 17) hx hb dX8_heard_9 (by decide) (fun c_8 => absurd c_8 (by decide)) (fun c_8 => ?_)
    refine lv_ldc (own := RX8) (index := 234) (v := (-1000000001)) hx hb hown (hts _ (tm 1284 (by decide +kernel) (by decide +kernel))) dX8_heard_12 ?_
    refine lv_goto (tgt := 43) hx hb dX8_heard_14 (by decide) ?_
    exact r_iret C0 X hP hS hr hlk dX8_heard_43 (by simp only [b_1, p_7, if_true, if_false, ite_true, ite_false, true_and, and_true, false_and, and_false, true_or, or_true, false_or, or_false, not_true_eq_false, not_false_eq_true, ne_eq, and_self, or_self]; try rfl)
theorem dX8_days_0 : decode cX8_days 0 = .ok (.iload_n 1, 1) := by decide +kernel
theorem dX8_days_1 : decode cX8_days 1 = .ok (.i2l, 1) := by decide +kernel
theorem dX8_days_2 : decode cX8_days 2 = .ok (.lconst 1, 1) := by decide +kernel
theorem dX8_days_3 : decode cX8_days 3 = .ok (.ldc2_w 261, 3) := by decide +kernel
theorem dX8_days_6 : decode cX8_days 6 = .ok (.invokestatic 53, 3) := by decide +kernel
theorem dX8_days_9 : decode cX8_days 9 = .ok (.ifCond .eq 15, 3) := by decide +kernel
theorem dX8_days_12 : decode cX8_days 12 = .ok (.iload_n 2, 1) := by decide +kernel
theorem dX8_days_13 : decode cX8_days 13 = .ok (.i2l, 1) := by decide +kernel
theorem dX8_days_14 : decode cX8_days 14 = .ok (.lconst 1, 1) := by decide +kernel
theorem dX8_days_15 : decode cX8_days 15 = .ok (.ldc2_w 263, 3) := by decide +kernel
theorem dX8_days_18 : decode cX8_days 18 = .ok (.invokestatic 53, 3) := by decide +kernel
theorem dX8_days_21 : decode cX8_days 21 = .ok (.ifCond .ne 5, 3) := by decide +kernel
theorem dX8_days_24 : decode cX8_days 24 = .ok (.iconst (-1), 1) := by decide +kernel
theorem dX8_days_25 : decode cX8_days 25 = .ok (.ireturn, 1) := by decide +kernel
theorem dX8_days_26 : decode cX8_days 26 = .ok (.aload_n 0, 1) := by decide +kernel
theorem dX8_days_27 : decode cX8_days 27 = .ok (.invokevirtual 221, 3) := by decide +kernel
theorem dX8_days_30 : decode cX8_days 30 = .ok (.ifCond .eq 6, 3) := by decide +kernel
theorem dX8_days_33 : decode cX8_days 33 = .ok (.bipush (-3), 2) := by decide +kernel
theorem dX8_days_35 : decode cX8_days 35 = .ok (.ireturn, 1) := by decide +kernel
theorem dX8_days_36 : decode cX8_days 36 = .ok (.iconst 0, 1) := by decide +kernel
theorem dX8_days_37 : decode cX8_days 37 = .ok (.istore 4, 2) := by decide +kernel
theorem dX8_days_39 : decode cX8_days 39 = .ok (.iconst 0, 1) := by decide +kernel
theorem dX8_days_40 : decode cX8_days 40 = .ok (.istore 5, 2) := by decide +kernel
theorem dX8_days_42 : decode cX8_days 42 = .ok (.iload 5, 2) := by decide +kernel
theorem dX8_days_44 : decode cX8_days 44 = .ok (.iload_n 1, 1) := by decide +kernel
theorem dX8_days_45 : decode cX8_days 45 = .ok (.if_icmp .ge 83, 3) := by decide +kernel
theorem dX8_days_48 : decode cX8_days 48 = .ok (.aload_n 0, 1) := by decide +kernel
theorem dX8_days_49 : decode cX8_days 49 = .ok (.invokevirtual 244, 3) := by decide +kernel
theorem dX8_days_52 : decode cX8_days 52 = .ok (.iload_n 3, 1) := by decide +kernel
theorem dX8_days_53 : decode cX8_days 53 = .ok (.iload 5, 2) := by decide +kernel
theorem dX8_days_55 : decode cX8_days 55 = .ok (.iadd, 1) := by decide +kernel
theorem dX8_days_56 : decode cX8_days 56 = .ok (.istore 6, 2) := by decide +kernel
theorem dX8_days_58 : decode cX8_days 58 = .ok (.iconst 0, 1) := by decide +kernel
theorem dX8_days_59 : decode cX8_days 59 = .ok (.istore 7, 2) := by decide +kernel
theorem dX8_days_61 : decode cX8_days 61 = .ok (.iload 7, 2) := by decide +kernel
theorem dX8_days_63 : decode cX8_days 63 = .ok (.aload_n 0, 1) := by decide +kernel
theorem dX8_days_64 : decode cX8_days 64 = .ok (.getfield 9, 3) := by decide +kernel
theorem dX8_days_67 : decode cX8_days 67 = .ok (.iconst 1, 1) := by decide +kernel
theorem dX8_days_68 : decode cX8_days 68 = .ok (.iaload, 1) := by decide +kernel
theorem dX8_days_69 : decode cX8_days 69 = .ok (.if_icmp .ge 44, 3) := by decide +kernel
theorem dX8_days_72 : decode cX8_days 72 = .ok (.iload 6, 2) := by decide +kernel
theorem dX8_days_74 : decode cX8_days 74 = .ok (.ldc_w 265, 3) := by decide +kernel
theorem dX8_days_77 : decode cX8_days 77 = .ok (.imul, 1) := by decide +kernel
theorem dX8_days_78 : decode cX8_days 78 = .ok (.sipush 12345, 3) := by decide +kernel
theorem dX8_days_81 : decode cX8_days 81 = .ok (.iadd, 1) := by decide +kernel
theorem dX8_days_82 : decode cX8_days 82 = .ok (.istore 6, 2) := by decide +kernel
theorem dX8_days_84 : decode cX8_days 84 = .ok (.aload_n 0, 1) := by decide +kernel
theorem dX8_days_85 : decode cX8_days 85 = .ok (.getfield 16, 3) := by decide +kernel
theorem dX8_days_88 : decode cX8_days 88 = .ok (.iload 7, 2) := by decide +kernel
theorem dX8_days_90 : decode cX8_days 90 = .ok (.bipush 10, 2) := by decide +kernel
theorem dX8_days_92 : decode cX8_days 92 = .ok (.iload 6, 2) := by decide +kernel
theorem dX8_days_94 : decode cX8_days 94 = .ok (.ldc_w 266, 3) := by decide +kernel
theorem dX8_days_97 : decode cX8_days 97 = .ok (.iand, 1) := by decide +kernel
theorem dX8_days_98 : decode cX8_days 98 = .ok (.ldc_w 267, 3) := by decide +kernel
theorem dX8_days_101 : decode cX8_days 101 = .ok (.idiv, 1) := by decide +kernel
theorem dX8_days_102 : decode cX8_days 102 = .ok (.iload_n 2, 1) := by decide +kernel
theorem dX8_days_103 : decode cX8_days 103 = .ok (.irem, 1) := by decide +kernel
theorem dX8_days_104 : decode cX8_days 104 = .ok (.invokestatic 97, 3) := by decide +kernel
theorem dX8_days_107 : decode cX8_days 107 = .ok (.iinc 7 1, 3) := by decide +kernel
theorem dX8_days_110 : decode cX8_days 110 = .ok (.goto (-49), 3) := by decide +kernel
theorem dX8_days_113 : decode cX8_days 113 = .ok (.iload 4, 2) := by decide +kernel
theorem dX8_days_115 : decode cX8_days 115 = .ok (.aload_n 0, 1) := by decide +kernel
theorem dX8_days_116 : decode cX8_days 116 = .ok (.invokevirtual 247, 3) := by decide +kernel
theorem dX8_days_119 : decode cX8_days 119 = .ok (.iadd, 1) := by decide +kernel
theorem dX8_days_120 : decode cX8_days 120 = .ok (.istore 4, 2) := by decide +kernel
theorem dX8_days_122 : decode cX8_days 122 = .ok (.iinc 5 1, 3) := by decide +kernel
theorem dX8_days_125 : decode cX8_days 125 = .ok (.goto (-83), 3) := by decide +kernel
theorem dX8_days_128 : decode cX8_days 128 = .ok (.iload 4, 2) := by decide +kernel
theorem dX8_days_130 : decode cX8_days 130 = .ok (.ireturn, 1) := by decide +kernel
set_option maxHeartbeats 4000000 in
set_option maxRecDepth 100000 in
theorem c_X8_days_f (l : Launch) (D : va_G) (cA : Nat → ClassId) (ad : Nat → Nat) (o : Int64) (σ : Mem) (a : Int32) (b : Int32) (z : Int32) (hF : FrM σ) (sz : Nat) : Met l yX8_days (WY yX8_days cX8_days 8 (some .int)) (RM 1) (va_Pc [.ref (ad 91), .int a, .int b, .int z] (PW D cA ad o σ sz)) (va_Qi (fun r _ => r = (if (a < 1 ∨ 5 < a) ∨ (b < 1 ∨ 60 < b) then -1 else -3)) (QW D cA ad o) (FA ad sz)) 0 0 (FA ad sz) := by
  refine ct_of (own := RX8) (k := 1) (Qf := va_Qi (fun r _ => r = (if (a < 1 ∨ 5 < a) ∨ (b < 1 ∨ 60 < b) then -1 else -3)) (QW D cA ad o)) rfl (by decide) (Nat.le_of_ble_eq_true rfl) (fun p e s m below meth c ls C0 X hr hlk hP hl => ?_) sz
  have hS : va_S (FA ad s.heap.size) s.heap s.heap [] := va_S.rf
  have hl : lv_has ls 8 [(0, .ref (ad 91)), (1, .int a), (2, .int b), (3, .int z)] := hl
  obtain ⟨hx, hb, hml, hown, hts⟩ := id C0
  refine lv_iload_n hx hb dX8_days_0 rfl (lv_at hl 1 rfl) ?_
  refine lv_i2l (v := (a.toInt64)) hx hb dX8_days_1 rfl ?_
  refine lv_lconst (v := ((1 : Int32).toInt64)) hx hb dX8_days_2 (by decide) ?_
  refine lv_ldc2 (own := RX8) (index := 261) (v := 5) hx hb hown (hts _ (tm 1370 (by decide +kernel) (by decide +kernel))) dX8_days_3 ?_
  refine lv_topEl (y := ((5 : Int32).toInt64)) (by decide) ?_
  refine r_ci X hS (r_runS (As := [.long (a.toInt64), .long ((1 : Int32).toInt64), .long ((5 : Int32).toInt64)]) (rest := []) C0 X hP L_X8_53 (fun sz => c_X8_isIn l D cA ad o σ a 1 5 sz) ⟨Nat.le_of_ble_eq_true rfl, Nat.le_of_ble_eq_true rfl⟩ rfl hl.1 rfl (Nat.le_of_ble_eq_true rfl) dX8_days_6 ⟨Nat.zero_le _, Nat.zero_le _⟩) (fun r σ9 H locs hw hP hS => ?_)
  rw [hw.2] at hP
  obtain ⟨⟨b_1, rfl⟩ | ⟨b_1, rfl⟩, -⟩ := hw
  · have p_2 : ¬ a < 1 := Int32.not_lt.mpr b_1.1
    have p_3 : ¬ 5 < a := Int32.not_lt.mpr b_1.2
    have p_4 : ¬ 6 ≤ a := nsucc (by decide) p_3
    refine lv_if_eq (tgt := 24) hx hb dX8_days_9 (by decide) (fun c_5 => absurd c_5 (by decide)) (fun c_5 => ?_)
    refine lv_iload_n hx hb dX8_days_12 rfl (lv_at hl 2 rfl) ?_
    refine lv_i2l (v := (b.toInt64)) hx hb dX8_days_13 rfl ?_
    refine lv_lconst (v := ((1 : Int32).toInt64)) hx hb dX8_days_14 (by decide) ?_
    refine lv_ldc2 (own := RX8) (index := 263) (v := 60) hx hb hown (hts _ (tm 1371 (by decide +kernel) (by decide +kernel))) dX8_days_15 ?_
    refine lv_topEl (y := ((60 : Int32).toInt64)) (by decide) ?_
    refine r_ci X hS (r_runS (As := [.long (b.toInt64), .long ((1 : Int32).toInt64), .long ((60 : Int32).toInt64)]) (rest := []) C0 X hP L_X8_53 (fun sz => c_X8_isIn l D cA ad o σ b 1 60 sz) ⟨Nat.le_of_ble_eq_true rfl, Nat.le_of_ble_eq_true rfl⟩ rfl hl.1 rfl (Nat.le_of_ble_eq_true rfl) dX8_days_18 ⟨Nat.zero_le _, Nat.zero_le _⟩) (fun r σ9 H locs hw hP hS => ?_)
    rw [hw.2] at hP
    obtain ⟨⟨b_6, rfl⟩ | ⟨b_6, rfl⟩, -⟩ := hw
    · have p_7 : ¬ b < 1 := Int32.not_lt.mpr b_6.1
      have p_8 : ¬ 60 < b := Int32.not_lt.mpr b_6.2
      have p_9 : ¬ 61 ≤ b := nsucc (by decide) p_8
      refine lv_if_ne (tgt := 26) hx hb dX8_days_21 (by decide) (fun c_10 => ?_) (fun c_10 => absurd c_10 (by decide))
      refine lv_aload_n hx hb dX8_days_26 rfl (lv_at hl 0 rfl) ?_
      refine r_ci X hS (r_runV (As := []) (rest := []) C0 X hP L_X8_221 (fun sz => c_X8_isEmpty0 l D cA ad o σ  hF sz) (show 91 < 106 ∧ kd 91 = (8, 24) from ⟨by decide, rfl⟩).1 (show 91 < 106 ∧ kd 91 = (8, 24) from ⟨by decide, rfl⟩).2 (by decide) rfl ⟨Nat.le_of_ble_eq_true rfl, Nat.le_of_ble_eq_true rfl⟩ rfl hl.1 rfl (Nat.le_of_ble_eq_true rfl) dX8_days_27 ⟨Nat.zero_le _, Nat.zero_le _⟩) (fun r σ9 H locs hw hP hS => ?_)
      rw [hw.2] at hP
      rw [hw.1]
      refine lv_if_eq (tgt := 36) hx hb dX8_days_30 (by decide) (fun c_11 => absurd c_11 (by decide)) (fun c_11 => ?_)
      refine lv_bipush (v := (-3)) hx hb dX8_days_33 (by decide) ?_
      exact r_iret C0 X hP hS hr hlk dX8_days_35 (by simp only [p_2, p_3, p_4, p_7, p_8, p_9, Int32.not_lt.mp p_2, Int32.not_lt.mp p_3, Int32.not_le.mp p_4, Int32.not_lt.mp p_7, Int32.not_lt.mp p_8, Int32.not_le.mp p_9, if_true, if_false, ite_true, ite_false, true_and, and_true, false_and, and_false, true_or, or_true, false_or, or_false, not_true_eq_false, not_false_eq_true, ne_eq, and_self, or_self]; try rfl)
    · have p_12 : b < 1 ∨ 61 ≤ b := osucc (by decide) b_6
      refine lv_if_ne (tgt := 26) hx hb dX8_days_21 (by decide) (fun c_13 => absurd c_13 (by decide)) (fun c_13 => ?_)
      refine lv_iconst (v := (-1)) hx hb dX8_days_24 (by decide) ?_
      exact r_iret C0 X hP hS hr hlk dX8_days_25 (by simp only [p_2, p_3, p_4, b_6, p_12, Int32.not_lt.mp p_2, Int32.not_lt.mp p_3, Int32.not_le.mp p_4, if_true, if_false, ite_true, ite_false, true_and, and_true, false_and, and_false, true_or, or_true, false_or, or_false, not_true_eq_false, not_false_eq_true, ne_eq, and_self, or_self]; try rfl)
  · have p_14 : a < 1 ∨ 6 ≤ a := osucc (by decide) b_1
    refine lv_if_eq (tgt := 24) hx hb dX8_days_9 (by decide) (fun c_15 => ?_) (fun c_15 => absurd c_15 (by decide))
    refine lv_iconst (v := (-1)) hx hb dX8_days_24 (by decide) ?_
    exact r_iret C0 X hP hS hr hlk dX8_days_25 (by simp only [b_1, p_14, if_true, if_false, ite_true, ite_false, true_and, and_true, false_and, and_false, true_or, or_true, false_or, or_false, not_true_eq_false, not_false_eq_true, ne_eq, and_self, or_self]; try rfl)
theorem dX8_met_0 : decode cX8_met 0 = .ok (.aload_n 0, 1) := by decide +kernel
theorem dX8_met_1 : decode cX8_met 1 = .ok (.iload_n 1, 1) := by decide +kernel
theorem dX8_met_2 : decode cX8_met 2 = .ok (.invokevirtual 127, 3) := by decide +kernel
theorem dX8_met_5 : decode cX8_met 5 = .ok (.ifCond .eq 16, 3) := by decide +kernel
theorem dX8_met_8 : decode cX8_met 8 = .ok (.aload_n 0, 1) := by decide +kernel
theorem dX8_met_9 : decode cX8_met 9 = .ok (.iload_n 2, 1) := by decide +kernel
theorem dX8_met_10 : decode cX8_met 10 = .ok (.invokevirtual 127, 3) := by decide +kernel
theorem dX8_met_13 : decode cX8_met 13 = .ok (.ifCond .eq 8, 3) := by decide +kernel
theorem dX8_met_16 : decode cX8_met 16 = .ok (.iload_n 1, 1) := by decide +kernel
theorem dX8_met_17 : decode cX8_met 17 = .ok (.iload_n 2, 1) := by decide +kernel
theorem dX8_met_18 : decode cX8_met 18 = .ok (.if_icmp .ne 5, 3) := by decide +kernel
theorem dX8_met_21 : decode cX8_met 21 = .ok (.iconst (-1), 1) := by decide +kernel
theorem dX8_met_22 : decode cX8_met 22 = .ok (.ireturn, 1) := by decide +kernel
theorem dX8_met_23 : decode cX8_met 23 = .ok (.aload_n 0, 1) := by decide +kernel
theorem dX8_met_24 : decode cX8_met 24 = .ok (.getfield 9, 3) := by decide +kernel
theorem dX8_met_27 : decode cX8_met 27 = .ok (.iconst 0, 1) := by decide +kernel
theorem dX8_met_28 : decode cX8_met 28 = .ok (.iaload, 1) := by decide +kernel
theorem dX8_met_29 : decode cX8_met 29 = .ok (.ifCond .ne 6, 3) := by decide +kernel
theorem dX8_met_32 : decode cX8_met 32 = .ok (.bipush (-3), 2) := by decide +kernel
theorem dX8_met_34 : decode cX8_met 34 = .ok (.ireturn, 1) := by decide +kernel
theorem dX8_met_35 : decode cX8_met 35 = .ok (.aload_n 0, 1) := by decide +kernel
theorem dX8_met_36 : decode cX8_met 36 = .ok (.invokevirtual 244, 3) := by decide +kernel
theorem dX8_met_39 : decode cX8_met 39 = .ok (.aload_n 0, 1) := by decide +kernel
theorem dX8_met_40 : decode cX8_met 40 = .ok (.iload_n 1, 1) := by decide +kernel
theorem dX8_met_41 : decode cX8_met 41 = .ok (.putfield 194, 3) := by decide +kernel
theorem dX8_met_44 : decode cX8_met 44 = .ok (.aload_n 0, 1) := by decide +kernel
theorem dX8_met_45 : decode cX8_met 45 = .ok (.iload_n 2, 1) := by decide +kernel
theorem dX8_met_46 : decode cX8_met 46 = .ok (.putfield 197, 3) := by decide +kernel
theorem dX8_met_49 : decode cX8_met 49 = .ok (.aload_n 0, 1) := by decide +kernel
theorem dX8_met_50 : decode cX8_met 50 = .ok (.invokevirtual 247, 3) := by decide +kernel
theorem dX8_met_53 : decode cX8_met 53 = .ok (.istore_n 3, 1) := by decide +kernel
theorem dX8_met_54 : decode cX8_met 54 = .ok (.aload_n 0, 1) := by decide +kernel
theorem dX8_met_55 : decode cX8_met 55 = .ok (.getfield 191, 3) := by decide +kernel
theorem dX8_met_58 : decode cX8_met 58 = .ok (.ireturn, 1) := by decide +kernel
set_option maxHeartbeats 4000000 in
set_option maxRecDepth 100000 in
theorem c_X8_met_f (l : Launch) (D : va_G) (cA : Nat → ClassId) (ad : Nat → Nat) (o : Int64) (σ : Mem) (a : Int32) (b : Int32) (hF : FrM σ) (sz : Nat) : Met l yX8_met (WY yX8_met cX8_met 4 (some .int)) (RM 2) (va_Pc [.ref (ad 91), .int a, .int b] (PW D cA ad o σ sz)) (va_Qi (fun r _ => r = -1) (QW D cA ad o) (FA ad sz)) 0 0 (FA ad sz) := by
  refine ct_of (own := RX8) (k := 2) (Qf := va_Qi (fun r _ => r = -1) (QW D cA ad o)) rfl (by decide) (Nat.le_of_ble_eq_true rfl) (fun p e s m below meth c ls C0 X hr hlk hP hl => ?_) sz
  have hS : va_S (FA ad s.heap.size) s.heap s.heap [] := va_S.rf
  have hl : lv_has ls 4 [(0, .ref (ad 91)), (1, .int a), (2, .int b)] := hl
  obtain ⟨hx, hb, hml, hown, hts⟩ := id C0
  refine lv_aload_n hx hb dX8_met_0 rfl (lv_at hl 0 rfl) ?_
  refine lv_iload_n hx hb dX8_met_1 rfl (lv_at hl 1 rfl) ?_
  refine r_ci X hS (r_runV (As := [.int a]) (rest := []) C0 X hP L_X8_127 (fun sz => c_X8_isCart0 l D cA ad o σ a hF sz) (show 91 < 106 ∧ kd 91 = (8, 24) from ⟨by decide, rfl⟩).1 (show 91 < 106 ∧ kd 91 = (8, 24) from ⟨by decide, rfl⟩).2 (by decide) rfl ⟨Nat.le_of_ble_eq_true rfl, Nat.le_of_ble_eq_true rfl⟩ rfl hl.1 rfl (Nat.le_of_ble_eq_true rfl) dX8_met_2 ⟨Nat.zero_le _, Nat.zero_le _⟩) (fun r σ9 H locs hw hP hS => ?_)
  rw [hw.2] at hP
  rw [hw.1]
  refine lv_if_eq (tgt := 21) hx hb dX8_met_5 (by decide) (fun c_1 => ?_) (fun c_1 => absurd c_1 (by decide))
  refine lv_iconst (v := (-1)) hx hb dX8_met_21 (by decide) ?_
  exact r_iret C0 X hP hS hr hlk dX8_met_22 rfl
theorem dX8_restore_0 : decode cX8_restore 0 = .ok (.aload_n 0, 1) := by decide +kernel
theorem dX8_restore_1 : decode cX8_restore 1 = .ok (.getfield 288, 3) := by decide +kernel
theorem dX8_restore_4 : decode cX8_restore 4 = .ok (.ifCond .ne 6, 3) := by decide +kernel
theorem dX8_restore_7 : decode cX8_restore 7 = .ok (.bipush (-3), 2) := by decide +kernel
theorem dX8_restore_9 : decode cX8_restore 9 = .ok (.ireturn, 1) := by decide +kernel
theorem dX8_restore_10 : decode cX8_restore 10 = .ok (.iconst 0, 1) := by decide +kernel
theorem dX8_restore_11 : decode cX8_restore 11 = .ok (.istore_n 1, 1) := by decide +kernel
theorem dX8_restore_12 : decode cX8_restore 12 = .ok (.iload_n 1, 1) := by decide +kernel
theorem dX8_restore_13 : decode cX8_restore 13 = .ok (.bipush 121, 2) := by decide +kernel
theorem dX8_restore_15 : decode cX8_restore 15 = .ok (.if_icmp .ge 21, 3) := by decide +kernel
theorem dX8_restore_18 : decode cX8_restore 18 = .ok (.aload_n 0, 1) := by decide +kernel
theorem dX8_restore_19 : decode cX8_restore 19 = .ok (.getfield 9, 3) := by decide +kernel
theorem dX8_restore_22 : decode cX8_restore 22 = .ok (.iload_n 1, 1) := by decide +kernel
theorem dX8_restore_23 : decode cX8_restore 23 = .ok (.aload_n 0, 1) := by decide +kernel
theorem dX8_restore_24 : decode cX8_restore 24 = .ok (.getfield 13, 3) := by decide +kernel
theorem dX8_restore_27 : decode cX8_restore 27 = .ok (.iload_n 1, 1) := by decide +kernel
theorem dX8_restore_28 : decode cX8_restore 28 = .ok (.iaload, 1) := by decide +kernel
theorem dX8_restore_29 : decode cX8_restore 29 = .ok (.iastore, 1) := by decide +kernel
theorem dX8_restore_30 : decode cX8_restore 30 = .ok (.iinc 1 1, 3) := by decide +kernel
theorem dX8_restore_33 : decode cX8_restore 33 = .ok (.goto (-21), 3) := by decide +kernel
theorem dX8_restore_36 : decode cX8_restore 36 = .ok (.aload_n 0, 1) := by decide +kernel
theorem dX8_restore_37 : decode cX8_restore 37 = .ok (.getfield 9, 3) := by decide +kernel
theorem dX8_restore_40 : decode cX8_restore 40 = .ok (.iconst 2, 1) := by decide +kernel
theorem dX8_restore_41 : decode cX8_restore 41 = .ok (.iaload, 1) := by decide +kernel
theorem dX8_restore_42 : decode cX8_restore 42 = .ok (.ireturn, 1) := by decide +kernel
set_option maxHeartbeats 4000000 in
set_option maxRecDepth 100000 in
theorem c_X8_restore_f (l : Launch) (D : va_G) (cA : Nat → ClassId) (ad : Nat → Nat) (o : Int64) (σ : Mem)  (hF : FrM σ) (sz : Nat) : Met l yX8_restore (WY yX8_restore cX8_restore 2 (some .int)) (RM 0) (va_Pc [.ref (ad 91)] (PW D cA ad o σ sz)) (va_Qi (fun r _ => r = -3) (QW D cA ad o) (FA ad sz)) 0 0 (FA ad sz) := by
  refine ct_of (own := RX8) (k := 0) (Qf := va_Qi (fun r _ => r = -3) (QW D cA ad o)) rfl (by decide) (Nat.le_of_ble_eq_true rfl) (fun p e s m below meth c ls C0 X hr hlk hP hl => ?_) sz
  have hS : va_S (FA ad s.heap.size) s.heap s.heap [] := va_S.rf
  have hl : lv_has ls 2 [(0, .ref (ad 91))] := hl
  obtain ⟨hx, hb, hml, hown, hts⟩ := id C0
  refine lv_aload_n hx hb dX8_restore_0 rfl (lv_at hl 0 rfl) ?_
  refine gf_X8_288 C0 X hP 91 ⟨by decide, rfl⟩ dX8_restore_1 ?_
  refine lv_topE (y := 0) (FrM_mimg hF) ?_
  refine lv_if_ne (tgt := 10) hx hb dX8_restore_4 (by decide) (fun c_1 => absurd c_1 (by decide)) (fun c_1 => ?_)
  refine lv_bipush (v := (-3)) hx hb dX8_restore_7 (by decide) ?_
  exact r_iret C0 X hP hS hr hlk dX8_restore_9 rfl
theorem dX8_count_0 : decode cX8_count 0 = .ok (.iconst 0, 1) := by decide +kernel
theorem dX8_count_1 : decode cX8_count 1 = .ok (.istore_n 2, 1) := by decide +kernel
theorem dX8_count_2 : decode cX8_count 2 = .ok (.iload_n 1, 1) := by decide +kernel
theorem dX8_count_3 : decode cX8_count 3 = .ok (.tableswitch 138 0 5 #[37, 44, 51, 59, 90, 129], 37) := by decide +kernel
theorem dX8_count_40 : decode cX8_count 40 = .ok (.aload_n 0, 1) := by decide +kernel
theorem dX8_count_41 : decode cX8_count 41 = .ok (.getfield 9, 3) := by decide +kernel
theorem dX8_count_44 : decode cX8_count 44 = .ok (.iconst 0, 1) := by decide +kernel
theorem dX8_count_45 : decode cX8_count 45 = .ok (.iaload, 1) := by decide +kernel
theorem dX8_count_46 : decode cX8_count 46 = .ok (.ireturn, 1) := by decide +kernel
theorem dX8_count_47 : decode cX8_count 47 = .ok (.aload_n 0, 1) := by decide +kernel
theorem dX8_count_48 : decode cX8_count 48 = .ok (.getfield 9, 3) := by decide +kernel
theorem dX8_count_51 : decode cX8_count 51 = .ok (.iconst 1, 1) := by decide +kernel
theorem dX8_count_52 : decode cX8_count 52 = .ok (.iaload, 1) := by decide +kernel
theorem dX8_count_53 : decode cX8_count 53 = .ok (.ireturn, 1) := by decide +kernel
theorem dX8_count_54 : decode cX8_count 54 = .ok (.aload_n 0, 1) := by decide +kernel
theorem dX8_count_55 : decode cX8_count 55 = .ok (.getfield 9, 3) := by decide +kernel
theorem dX8_count_58 : decode cX8_count 58 = .ok (.invokestatic 141, 3) := by decide +kernel
theorem dX8_count_61 : decode cX8_count 61 = .ok (.ireturn, 1) := by decide +kernel
theorem dX8_count_62 : decode cX8_count 62 = .ok (.iconst 1, 1) := by decide +kernel
theorem dX8_count_63 : decode cX8_count 63 = .ok (.istore_n 3, 1) := by decide +kernel
theorem dX8_count_64 : decode cX8_count 64 = .ok (.iload_n 3, 1) := by decide +kernel
theorem dX8_count_65 : decode cX8_count 65 = .ok (.aload_n 0, 1) := by decide +kernel
theorem dX8_count_66 : decode cX8_count 66 = .ok (.getfield 9, 3) := by decide +kernel
theorem dX8_count_69 : decode cX8_count 69 = .ok (.iconst 0, 1) := by decide +kernel
theorem dX8_count_70 : decode cX8_count 70 = .ok (.iaload, 1) := by decide +kernel
theorem dX8_count_71 : decode cX8_count 71 = .ok (.if_icmp .ge 20, 3) := by decide +kernel
theorem dX8_count_74 : decode cX8_count 74 = .ok (.iload_n 2, 1) := by decide +kernel
theorem dX8_count_75 : decode cX8_count 75 = .ok (.aload_n 0, 1) := by decide +kernel
theorem dX8_count_76 : decode cX8_count 76 = .ok (.getfield 9, 3) := by decide +kernel
theorem dX8_count_79 : decode cX8_count 79 = .ok (.iconst 5, 1) := by decide +kernel
theorem dX8_count_80 : decode cX8_count 80 = .ok (.iload_n 3, 1) := by decide +kernel
theorem dX8_count_81 : decode cX8_count 81 = .ok (.iadd, 1) := by decide +kernel
theorem dX8_count_82 : decode cX8_count 82 = .ok (.iaload, 1) := by decide +kernel
theorem dX8_count_83 : decode cX8_count 83 = .ok (.iadd, 1) := by decide +kernel
theorem dX8_count_84 : decode cX8_count 84 = .ok (.istore_n 2, 1) := by decide +kernel
theorem dX8_count_85 : decode cX8_count 85 = .ok (.iinc 3 1, 3) := by decide +kernel
theorem dX8_count_88 : decode cX8_count 88 = .ok (.goto (-24), 3) := by decide +kernel
theorem dX8_count_91 : decode cX8_count 91 = .ok (.iload_n 2, 1) := by decide +kernel
theorem dX8_count_92 : decode cX8_count 92 = .ok (.ireturn, 1) := by decide +kernel
theorem dX8_count_93 : decode cX8_count 93 = .ok (.iconst 0, 1) := by decide +kernel
theorem dX8_count_94 : decode cX8_count 94 = .ok (.istore_n 3, 1) := by decide +kernel
theorem dX8_count_95 : decode cX8_count 95 = .ok (.iload_n 3, 1) := by decide +kernel
theorem dX8_count_96 : decode cX8_count 96 = .ok (.aload_n 0, 1) := by decide +kernel
theorem dX8_count_97 : decode cX8_count 97 = .ok (.getfield 9, 3) := by decide +kernel
theorem dX8_count_100 : decode cX8_count 100 = .ok (.iconst 1, 1) := by decide +kernel
theorem dX8_count_101 : decode cX8_count 101 = .ok (.iaload, 1) := by decide +kernel
theorem dX8_count_102 : decode cX8_count 102 = .ok (.if_icmp .ge 28, 3) := by decide +kernel
theorem dX8_count_105 : decode cX8_count 105 = .ok (.iload_n 2, 1) := by decide +kernel
theorem dX8_count_106 : decode cX8_count 106 = .ok (.aload_n 0, 1) := by decide +kernel
theorem dX8_count_107 : decode cX8_count 107 = .ok (.getfield 9, 3) := by decide +kernel
theorem dX8_count_110 : decode cX8_count 110 = .ok (.iload_n 3, 1) := by decide +kernel
theorem dX8_count_111 : decode cX8_count 111 = .ok (.invokestatic 157, 3) := by decide +kernel
theorem dX8_count_114 : decode cX8_count 114 = .ok (.ifCond .eq 7, 3) := by decide +kernel
theorem dX8_count_117 : decode cX8_count 117 = .ok (.iconst 1, 1) := by decide +kernel
theorem dX8_count_118 : decode cX8_count 118 = .ok (.goto 4, 3) := by decide +kernel
theorem dX8_count_121 : decode cX8_count 121 = .ok (.iconst 0, 1) := by decide +kernel
theorem dX8_count_122 : decode cX8_count 122 = .ok (.iadd, 1) := by decide +kernel
theorem dX8_count_123 : decode cX8_count 123 = .ok (.istore_n 2, 1) := by decide +kernel
theorem dX8_count_124 : decode cX8_count 124 = .ok (.iinc 3 1, 3) := by decide +kernel
theorem dX8_count_127 : decode cX8_count 127 = .ok (.goto (-32), 3) := by decide +kernel
theorem dX8_count_130 : decode cX8_count 130 = .ok (.iload_n 2, 1) := by decide +kernel
theorem dX8_count_131 : decode cX8_count 131 = .ok (.ireturn, 1) := by decide +kernel
theorem dX8_count_132 : decode cX8_count 132 = .ok (.aload_n 0, 1) := by decide +kernel
theorem dX8_count_133 : decode cX8_count 133 = .ok (.getfield 9, 3) := by decide +kernel
theorem dX8_count_136 : decode cX8_count 136 = .ok (.iconst 4, 1) := by decide +kernel
theorem dX8_count_137 : decode cX8_count 137 = .ok (.invokestatic 235, 3) := by decide +kernel
theorem dX8_count_140 : decode cX8_count 140 = .ok (.ireturn, 1) := by decide +kernel
theorem dX8_count_141 : decode cX8_count 141 = .ok (.iconst (-1), 1) := by decide +kernel
theorem dX8_count_142 : decode cX8_count 142 = .ok (.ireturn, 1) := by decide +kernel
set_option maxHeartbeats 4000000 in
set_option maxRecDepth 100000 in
theorem c_X8_count_f (l : Launch) (D : va_G) (cA : Nat → ClassId) (ad : Nat → Nat) (o : Int64) (σ : Mem) (w : Int32) (hF : FrM σ) (sz : Nat) : Met l yX8_count (WY yX8_count cX8_count 4 (some .int)) (RM 2) (va_Pc [.ref (ad 91), .int w] (PW D cA ad o σ sz)) (va_Qi (fun r _ => r = (if w = 0 ∨ w = 1 ∨ w = 2 ∨ w = 3 ∨ w = 4 ∨ w = 5 then 0 else -1)) (QW D cA ad o) (FA ad sz)) 0 0 (FA ad sz) := by
  refine ct_of (own := RX8) (k := 2) (Qf := va_Qi (fun r _ => r = (if w = 0 ∨ w = 1 ∨ w = 2 ∨ w = 3 ∨ w = 4 ∨ w = 5 then 0 else -1)) (QW D cA ad o)) rfl (by decide) (Nat.le_of_ble_eq_true rfl) (fun p e s m below meth c ls C0 X hr hlk hP hl => ?_) sz
  have hS : va_S (FA ad s.heap.size) s.heap s.heap [] := va_S.rf
  have hl : lv_has ls 4 [(0, .ref (ad 91)), (1, .int w)] := hl
  obtain ⟨hx, hb, hml, hown, hts⟩ := id C0
  refine lv_iconst (v := 0) hx hb dX8_count_0 (by decide) ?_
  refine lv_istore_n (lv' := [(2, .int 0), (0, .ref (ad 91)), (1, .int w)]) hx hb dX8_count_1 rfl hl (by decide) rfl (fun ls hl => ?_)
  refine lv_iload_n hx hb dX8_count_2 rfl (lv_at hl 2 rfl) ?_
  rcases sw_in (x := w) (lo := 0) (n := 6) with c_1 | ⟨j, hj, c_1⟩
  · have e_2 : ¬ w = 0 := sw_ne c_1 (by decide)
    have e_3 : ¬ w = 1 := sw_ne c_1 (by decide)
    have e_4 : ¬ w = 2 := sw_ne c_1 (by decide)
    have e_5 : ¬ w = 3 := sw_ne c_1 (by decide)
    have e_6 : ¬ w = 4 := sw_ne c_1 (by decide)
    have e_7 : ¬ w = 5 := sw_ne c_1 (by decide)
    refine lv_tableOut (tgt := 141) hx hb dX8_count_3 (by omega) (by decide) ?_
    refine lv_iconst (v := (-1)) hx hb dX8_count_141 (by decide) ?_
    exact r_iret C0 X hP hS hr hlk dX8_count_142 (by simp only [e_2, e_3, e_4, e_5, e_6, e_7, if_true, if_false, ite_true, ite_false, true_and, and_true, false_and, and_false, true_or, or_true, false_or, or_false, not_true_eq_false, not_false_eq_true, ne_eq, and_self, or_self]; try rfl)
  · rcases (show j = 0 ∨ j = 1 ∨ j = 2 ∨ j = 3 ∨ j = 4 ∨ j = 5 by omega) with rfl | rfl | rfl | rfl | rfl | rfl
    · have e_8 : w = 0 := sw_eq c_1 (by decide)
      refine lv_tableIn (off := 37) (tgt := 40) hx hb dX8_count_3 (by rw [e_8]; decide) (by rw [e_8]; decide) (by rw [e_8]; rfl) (by decide) ?_
      refine lv_aload_n hx hb dX8_count_40 rfl (lv_at hl 1 rfl) ?_
      refine gf_X8_9 C0 X hP 91 (q := 92) ⟨by decide, rfl⟩ (by omega) rfl dX8_count_41 ?_
      refine lv_iconst (v := 0) hx hb dX8_count_44 (by decide) ?_
      refine r_ialdN C0 X hP 92 (k := 0) ⟨by decide, rfl⟩ rfl (by decide) dX8_count_45 ?_
      refine lv_topE (y := 0) (FrM_s hF (by decide)) ?_
      exact r_iret C0 X hP hS hr hlk dX8_count_46 (by simp only [e_8, if_true, if_false, ite_true, ite_false, true_and, and_true, false_and, and_false, true_or, or_true, false_or, or_false, not_true_eq_false, not_false_eq_true, ne_eq, and_self, or_self]; try rfl)
    · have e_9 : w = 1 := sw_eq c_1 (by decide)
      refine lv_tableIn (off := 44) (tgt := 47) hx hb dX8_count_3 (by rw [e_9]; decide) (by rw [e_9]; decide) (by rw [e_9]; rfl) (by decide) ?_
      refine lv_aload_n hx hb dX8_count_47 rfl (lv_at hl 1 rfl) ?_
      refine gf_X8_9 C0 X hP 91 (q := 92) ⟨by decide, rfl⟩ (by omega) rfl dX8_count_48 ?_
      refine lv_iconst (v := 1) hx hb dX8_count_51 (by decide) ?_
      refine r_ialdN C0 X hP 92 (k := 1) ⟨by decide, rfl⟩ rfl (by decide) dX8_count_52 ?_
      refine lv_topE (y := 0) (FrM_s hF (by decide)) ?_
      exact r_iret C0 X hP hS hr hlk dX8_count_53 (by simp only [e_9, if_true, if_false, ite_true, ite_false, true_and, and_true, false_and, and_false, true_or, or_true, false_or, or_false, not_true_eq_false, not_false_eq_true, ne_eq, and_self, or_self]; try rfl)
    · have e_10 : w = 2 := sw_eq c_1 (by decide)
      refine lv_tableIn (off := 51) (tgt := 54) hx hb dX8_count_3 (by rw [e_10]; decide) (by rw [e_10]; decide) (by rw [e_10]; rfl) (by decide) ?_
      refine lv_aload_n hx hb dX8_count_54 rfl (lv_at hl 1 rfl) ?_
      refine gf_X8_9 C0 X hP 91 (q := 92) ⟨by decide, rfl⟩ (by omega) rfl dX8_count_55 ?_
      refine r_ci X hS (r_runS (As := [.ref (ad 92)]) (rest := []) C0 X hP L_X8_141 (fun sz => c_X8_endOf0 l D cA ad o σ () hF sz) ⟨Nat.le_of_ble_eq_true rfl, Nat.le_of_ble_eq_true rfl⟩ rfl hl.1 rfl (Nat.le_of_ble_eq_true rfl) dX8_count_58 ⟨Nat.zero_le _, Nat.zero_le _⟩) (fun r σ9 H locs hw hP hS => ?_)
      rw [hw.2] at hP
      rw [hw.1]
      exact r_iret C0 X hP hS hr hlk dX8_count_61 (by simp only [e_10, if_true, if_false, ite_true, ite_false, true_and, and_true, false_and, and_false, true_or, or_true, false_or, or_false, not_true_eq_false, not_false_eq_true, ne_eq, and_self, or_self]; try rfl)
    · have e_11 : w = 3 := sw_eq c_1 (by decide)
      refine lv_tableIn (off := 59) (tgt := 62) hx hb dX8_count_3 (by rw [e_11]; decide) (by rw [e_11]; decide) (by rw [e_11]; rfl) (by decide) ?_
      refine lv_iconst (v := 1) hx hb dX8_count_62 (by decide) ?_
      refine lv_istore_n (lv' := [(3, .int 1), (2, .int 0), (0, .ref (ad 91)), (1, .int w)]) hx hb dX8_count_63 rfl hl (by decide) rfl (fun ls hl => ?_)
      refine lv_iload_n hx hb dX8_count_64 rfl (lv_at hl 0 rfl) ?_
      refine lv_aload_n hx hb dX8_count_65 rfl (lv_at hl 2 rfl) ?_
      refine gf_X8_9 C0 X hP 91 (q := 92) ⟨by decide, rfl⟩ (by omega) rfl dX8_count_66 ?_
      refine lv_iconst (v := 0) hx hb dX8_count_69 (by decide) ?_
      refine r_ialdN C0 X hP 92 (k := 0) ⟨by decide, rfl⟩ rfl (by decide) dX8_count_70 ?_
      refine lv_topE (y := 0) (FrM_s hF (by decide)) ?_
      refine lv_icmp_ge (tgt := 91) hx hb dX8_count_71 (by decide) (fun c_12 => ?_) (fun c_12 => absurd c_12 (by decide))
      refine lv_iload_n hx hb dX8_count_91 rfl (lv_at hl 1 rfl) ?_
      exact r_iret C0 X hP hS hr hlk dX8_count_92 (by simp only [e_11, if_true, if_false, ite_true, ite_false, true_and, and_true, false_and, and_false, true_or, or_true, false_or, or_false, not_true_eq_false, not_false_eq_true, ne_eq, and_self, or_self]; try rfl)
    · have e_13 : w = 4 := sw_eq c_1 (by decide)
      refine lv_tableIn (off := 90) (tgt := 93) hx hb dX8_count_3 (by rw [e_13]; decide) (by rw [e_13]; decide) (by rw [e_13]; rfl) (by decide) ?_
      refine lv_iconst (v := 0) hx hb dX8_count_93 (by decide) ?_
      refine lv_istore_n (lv' := [(3, .int 0), (2, .int 0), (0, .ref (ad 91)), (1, .int w)]) hx hb dX8_count_94 rfl hl (by decide) rfl (fun ls hl => ?_)
      refine lv_iload_n hx hb dX8_count_95 rfl (lv_at hl 0 rfl) ?_
      refine lv_aload_n hx hb dX8_count_96 rfl (lv_at hl 2 rfl) ?_
      refine gf_X8_9 C0 X hP 91 (q := 92) ⟨by decide, rfl⟩ (by omega) rfl dX8_count_97 ?_
      refine lv_iconst (v := 1) hx hb dX8_count_100 (by decide) ?_
      refine r_ialdN C0 X hP 92 (k := 1) ⟨by decide, rfl⟩ rfl (by decide) dX8_count_101 ?_
      refine lv_topE (y := 0) (FrM_s hF (by decide)) ?_
      refine lv_icmp_ge (tgt := 130) hx hb dX8_count_102 (by decide) (fun c_14 => ?_) (fun c_14 => absurd c_14 (by decide))
      refine lv_iload_n hx hb dX8_count_130 rfl (lv_at hl 1 rfl) ?_
      exact r_iret C0 X hP hS hr hlk dX8_count_131 (by simp only [e_13, if_true, if_false, ite_true, ite_false, true_and, and_true, false_and, and_false, true_or, or_true, false_or, or_false, not_true_eq_false, not_false_eq_true, ne_eq, and_self, or_self]; try rfl)
    · have e_15 : w = 5 := sw_eq c_1 (by decide)
      refine lv_tableIn (off := 129) (tgt := 132) hx hb dX8_count_3 (by rw [e_15]; decide) (by rw [e_15]; decide) (by rw [e_15]; rfl) (by decide) ?_
      refine lv_aload_n hx hb dX8_count_132 rfl (lv_at hl 1 rfl) ?_
      refine gf_X8_9 C0 X hP 91 (q := 92) ⟨by decide, rfl⟩ (by omega) rfl dX8_count_133 ?_
      refine lv_iconst (v := 4) hx hb dX8_count_136 (by decide) ?_
      refine r_ci X hS (r_runS (As := [.ref (ad 92), .int 4]) (rest := []) C0 X hP L_X8_235 (fun sz => c_X8_allOf0 l D cA ad o σ () 4 hF sz) ⟨Nat.le_of_ble_eq_true rfl, Nat.le_of_ble_eq_true rfl⟩ rfl hl.1 rfl (Nat.le_of_ble_eq_true rfl) dX8_count_137 ⟨Nat.zero_le _, Nat.zero_le _⟩) (fun r σ9 H locs hw hP hS => ?_)
      rw [hw.2] at hP
      rw [hw.1]
      exact r_iret C0 X hP hS hr hlk dX8_count_140 (by simp only [e_15, if_true, if_false, ite_true, ite_false, true_and, and_true, false_and, and_false, true_or, or_true, false_or, or_false, not_true_eq_false, not_false_eq_true, ne_eq, and_self, or_self]; try rfl)
theorem dX8_keep_0 : decode cX8_keep 0 = .ok (.iload_n 1, 1) := by decide +kernel
theorem dX8_keep_1 : decode cX8_keep 1 = .ok (.invokestatic 105, 3) := by decide +kernel
theorem dX8_keep_4 : decode cX8_keep 4 = .ok (.ifCond .eq 43, 3) := by decide +kernel
theorem dX8_keep_7 : decode cX8_keep 7 = .ok (.iload_n 2, 1) := by decide +kernel
theorem dX8_keep_8 : decode cX8_keep 8 = .ok (.i2l, 1) := by decide +kernel
theorem dX8_keep_9 : decode cX8_keep 9 = .ok (.lconst 0, 1) := by decide +kernel
theorem dX8_keep_10 : decode cX8_keep 10 = .ok (.lconst 1, 1) := by decide +kernel
theorem dX8_keep_11 : decode cX8_keep 11 = .ok (.invokestatic 53, 3) := by decide +kernel
theorem dX8_keep_14 : decode cX8_keep 14 = .ok (.ifCond .eq 33, 3) := by decide +kernel
theorem dX8_keep_17 : decode cX8_keep 17 = .ok (.iload_n 2, 1) := by decide +kernel
theorem dX8_keep_18 : decode cX8_keep 18 = .ok (.iconst 1, 1) := by decide +kernel
theorem dX8_keep_19 : decode cX8_keep 19 = .ok (.if_icmp .ne 30, 3) := by decide +kernel
theorem dX8_keep_22 : decode cX8_keep 22 = .ok (.iload_n 3, 1) := by decide +kernel
theorem dX8_keep_23 : decode cX8_keep 23 = .ok (.i2l, 1) := by decide +kernel
theorem dX8_keep_24 : decode cX8_keep 24 = .ok (.lconst 0, 1) := by decide +kernel
theorem dX8_keep_25 : decode cX8_keep 25 = .ok (.ldc2_w 57, 3) := by decide +kernel
theorem dX8_keep_28 : decode cX8_keep 28 = .ok (.invokestatic 53, 3) := by decide +kernel
theorem dX8_keep_31 : decode cX8_keep 31 = .ok (.ifCond .eq 16, 3) := by decide +kernel
theorem dX8_keep_34 : decode cX8_keep 34 = .ok (.iload 4, 2) := by decide +kernel
theorem dX8_keep_36 : decode cX8_keep 36 = .ok (.i2l, 1) := by decide +kernel
theorem dX8_keep_37 : decode cX8_keep 37 = .ok (.lconst 0, 1) := by decide +kernel
theorem dX8_keep_38 : decode cX8_keep 38 = .ok (.ldc2_w 95, 3) := by decide +kernel
theorem dX8_keep_41 : decode cX8_keep 41 = .ok (.invokestatic 53, 3) := by decide +kernel
theorem dX8_keep_44 : decode cX8_keep 44 = .ok (.ifCond .ne 5, 3) := by decide +kernel
theorem dX8_keep_47 : decode cX8_keep 47 = .ok (.iconst (-1), 1) := by decide +kernel
theorem dX8_keep_48 : decode cX8_keep 48 = .ok (.ireturn, 1) := by decide +kernel
theorem dX8_keep_49 : decode cX8_keep 49 = .ok (.aload_n 0, 1) := by decide +kernel
theorem dX8_keep_50 : decode cX8_keep 50 = .ok (.getfield 22, 3) := by decide +kernel
theorem dX8_keep_53 : decode cX8_keep 53 = .ok (.iload_n 1, 1) := by decide +kernel
theorem dX8_keep_54 : decode cX8_keep 54 = .ok (.iload_n 2, 1) := by decide +kernel
theorem dX8_keep_55 : decode cX8_keep 55 = .ok (.iastore, 1) := by decide +kernel
theorem dX8_keep_56 : decode cX8_keep 56 = .ok (.aload_n 0, 1) := by decide +kernel
theorem dX8_keep_57 : decode cX8_keep 57 = .ok (.getfield 34, 3) := by decide +kernel
theorem dX8_keep_60 : decode cX8_keep 60 = .ok (.iload_n 1, 1) := by decide +kernel
theorem dX8_keep_61 : decode cX8_keep 61 = .ok (.iload_n 3, 1) := by decide +kernel
theorem dX8_keep_62 : decode cX8_keep 62 = .ok (.iastore, 1) := by decide +kernel
theorem dX8_keep_63 : decode cX8_keep 63 = .ok (.aload_n 0, 1) := by decide +kernel
theorem dX8_keep_64 : decode cX8_keep 64 = .ok (.getfield 37, 3) := by decide +kernel
theorem dX8_keep_67 : decode cX8_keep 67 = .ok (.iload_n 1, 1) := by decide +kernel
theorem dX8_keep_68 : decode cX8_keep 68 = .ok (.iload 4, 2) := by decide +kernel
theorem dX8_keep_70 : decode cX8_keep 70 = .ok (.iastore, 1) := by decide +kernel
theorem dX8_keep_71 : decode cX8_keep 71 = .ok (.iconst 0, 1) := by decide +kernel
theorem dX8_keep_72 : decode cX8_keep 72 = .ok (.ireturn, 1) := by decide +kernel
set_option maxHeartbeats 4000000 in
set_option maxRecDepth 100000 in
theorem c_X8_keep_f (l : Launch) (D : va_G) (cA : Nat → ClassId) (ad : Nat → Nat) (o : Int64) (σ : Mem) (d : Int32) (w : Int32) (k : Int32) (f : Int32) (hF : FrM σ) (sz : Nat) : Met l yX8_keep (WY yX8_keep cX8_keep 5 (some .int)) (RM 2) (va_Pc [.ref (ad 91), .int d, .int w, .int k, .int f] (PW D cA ad o σ sz)) (va_Qi (fun r _ => r = (if (d < 0 ∨ 8 ≤ d) ∨ (w < 0 ∨ 1 < w) ∨ (w = 1 ∧ ((k < 0 ∨ 8 ≤ k) ∨ (f < 0 ∨ 9 < f))) then -1 else 0)) (QW D cA ad o) (FA ad sz)) 0 0 (FA ad sz) := by
  refine ct_of (own := RX8) (k := 2) (Qf := va_Qi (fun r _ => r = (if (d < 0 ∨ 8 ≤ d) ∨ (w < 0 ∨ 1 < w) ∨ (w = 1 ∧ ((k < 0 ∨ 8 ≤ k) ∨ (f < 0 ∨ 9 < f))) then -1 else 0)) (QW D cA ad o)) rfl (by decide) (Nat.le_of_ble_eq_true rfl) (fun p e s m below meth c ls C0 X hr hlk hP hl => ?_) sz
  have hS : va_S (FA ad s.heap.size) s.heap s.heap [] := va_S.rf
  have hl : lv_has ls 5 [(0, .ref (ad 91)), (1, .int d), (2, .int w), (3, .int k), (4, .int f)] := hl
  obtain ⟨hx, hb, hml, hown, hts⟩ := id C0
  refine lv_iload_n hx hb dX8_keep_0 rfl (lv_at hl 1 rfl) ?_
  refine r_ci X hS (r_runS (As := [.int d]) (rest := []) C0 X hP L_X8_105 (fun sz => c_X8_isShelf l D cA ad o σ d  sz) ⟨Nat.le_of_ble_eq_true rfl, Nat.le_of_ble_eq_true rfl⟩ rfl hl.1 rfl (Nat.le_of_ble_eq_true rfl) dX8_keep_1 ⟨Nat.zero_le _, Nat.zero_le _⟩) (fun r σ9 H locs hw hP hS => ?_)
  rw [hw.2] at hP
  obtain ⟨⟨b_1, rfl⟩ | ⟨b_1, rfl⟩, -⟩ := hw
  · refine lv_if_eq (tgt := 47) hx hb dX8_keep_4 (by decide) (fun c_2 => absurd c_2 (by decide)) (fun c_2 => ?_)
    refine lv_iload_n hx hb dX8_keep_7 rfl (lv_at hl 2 rfl) ?_
    refine lv_i2l (v := (w.toInt64)) hx hb dX8_keep_8 rfl ?_
    refine lv_lconst (v := ((0 : Int32).toInt64)) hx hb dX8_keep_9 (by decide) ?_
    refine lv_lconst (v := ((1 : Int32).toInt64)) hx hb dX8_keep_10 (by decide) ?_
    refine r_ci X hS (r_runS (As := [.long (w.toInt64), .long ((0 : Int32).toInt64), .long ((1 : Int32).toInt64)]) (rest := []) C0 X hP L_X8_53 (fun sz => c_X8_isIn l D cA ad o σ w 0 1 sz) ⟨Nat.le_of_ble_eq_true rfl, Nat.le_of_ble_eq_true rfl⟩ rfl hl.1 rfl (Nat.le_of_ble_eq_true rfl) dX8_keep_11 ⟨Nat.zero_le _, Nat.zero_le _⟩) (fun r σ9 H locs hw hP hS => ?_)
    rw [hw.2] at hP
    obtain ⟨⟨b_3, rfl⟩ | ⟨b_3, rfl⟩, -⟩ := hw
    · have p_4 : ¬ w < 0 := Int32.not_lt.mpr b_3.1
      have p_5 : ¬ 1 < w := Int32.not_lt.mpr b_3.2
      have p_6 : ¬ 2 ≤ w := nsucc (by decide) p_5
      refine lv_if_eq (tgt := 47) hx hb dX8_keep_14 (by decide) (fun c_7 => absurd c_7 (by decide)) (fun c_7 => ?_)
      refine lv_iload_n hx hb dX8_keep_17 rfl (lv_at hl 2 rfl) ?_
      refine lv_iconst (v := 1) hx hb dX8_keep_18 (by decide) ?_
      refine lv_icmp_ne (tgt := 49) hx hb dX8_keep_19 (by decide) (fun c_8 => ?_) (fun c_8 => ?_)
      · obtain ⟨j1, hj1, ej1⟩ := shin b_1
        refine lv_aload_n hx hb dX8_keep_49 rfl (lv_at hl 0 rfl) ?_
        refine gf_X8_22 C0 X hP 91 (q := 96) ⟨by decide, rfl⟩ (by omega) rfl dX8_keep_50 ?_
        refine lv_iload_n hx hb dX8_keep_53 rfl (lv_at hl 1 rfl) ?_
        refine lv_iload_n hx hb dX8_keep_54 rfl (lv_at hl 2 rfl) ?_
        refine r_iastN C0 X hP hS 96 (k := j1) ⟨by decide, rfl⟩ ej1 hj1 dX8_keep_55 (fun H locs hP hS => ?_)
        refine lv_aload_n hx hb dX8_keep_56 rfl (lv_at hl 0 rfl) ?_
        refine gf_X8_34 C0 X hP 91 (q := 100) ⟨by decide, rfl⟩ (by omega) rfl dX8_keep_57 ?_
        refine lv_iload_n hx hb dX8_keep_60 rfl (lv_at hl 1 rfl) ?_
        refine lv_iload_n hx hb dX8_keep_61 rfl (lv_at hl 3 rfl) ?_
        refine r_iastN C0 X hP hS 100 (k := j1) ⟨by decide, rfl⟩ ej1 hj1 dX8_keep_62 (fun H locs hP hS => ?_)
        refine lv_aload_n hx hb dX8_keep_63 rfl (lv_at hl 0 rfl) ?_
        refine gf_X8_37 C0 X hP 91 (q := 101) ⟨by decide, rfl⟩ (by omega) rfl dX8_keep_64 ?_
        refine lv_iload_n hx hb dX8_keep_67 rfl (lv_at hl 1 rfl) ?_
        refine lv_iload hx hb dX8_keep_68 (lv_at hl 4 rfl) ?_
        refine r_iastN C0 X hP hS 101 (k := j1) ⟨by decide, rfl⟩ ej1 hj1 dX8_keep_70 (fun H locs hP hS => ?_)
        refine lv_iconst (v := 0) hx hb dX8_keep_71 (by decide) ?_
        exact r_iret C0 X hP hS hr hlk dX8_keep_72 (by simp only [b_1, p_4, p_5, p_6, c_8, Int32.not_lt.mp p_4, Int32.not_lt.mp p_5, Int32.not_le.mp p_6, if_true, if_false, ite_true, ite_false, true_and, and_true, false_and, and_false, true_or, or_true, false_or, or_false, not_true_eq_false, not_false_eq_true, ne_eq, and_self, or_self]; try rfl)
      · refine lv_iload_n hx hb dX8_keep_22 rfl (lv_at hl 3 rfl) ?_
        refine lv_i2l (v := (k.toInt64)) hx hb dX8_keep_23 rfl ?_
        refine lv_lconst (v := ((0 : Int32).toInt64)) hx hb dX8_keep_24 (by decide) ?_
        refine lv_ldc2 (own := RX8) (index := 57) (v := 7) hx hb hown (hts _ (tm 1106 (by decide +kernel) (by decide +kernel))) dX8_keep_25 ?_
        refine lv_topEl (y := ((7 : Int32).toInt64)) (by decide) ?_
        refine r_ci X hS (r_runS (As := [.long (k.toInt64), .long ((0 : Int32).toInt64), .long ((7 : Int32).toInt64)]) (rest := []) C0 X hP L_X8_53 (fun sz => c_X8_isIn l D cA ad o σ k 0 7 sz) ⟨Nat.le_of_ble_eq_true rfl, Nat.le_of_ble_eq_true rfl⟩ rfl hl.1 rfl (Nat.le_of_ble_eq_true rfl) dX8_keep_28 ⟨Nat.zero_le _, Nat.zero_le _⟩) (fun r σ9 H locs hw hP hS => ?_)
        rw [hw.2] at hP
        obtain ⟨⟨b_9, rfl⟩ | ⟨b_9, rfl⟩, -⟩ := hw
        · have p_10 : ¬ k < 0 := Int32.not_lt.mpr b_9.1
          have p_11 : ¬ 7 < k := Int32.not_lt.mpr b_9.2
          have p_12 : ¬ 8 ≤ k := nsucc (by decide) p_11
          refine lv_if_eq (tgt := 47) hx hb dX8_keep_31 (by decide) (fun c_13 => absurd c_13 (by decide)) (fun c_13 => ?_)
          refine lv_iload hx hb dX8_keep_34 (lv_at hl 4 rfl) ?_
          refine lv_i2l (v := (f.toInt64)) hx hb dX8_keep_36 rfl ?_
          refine lv_lconst (v := ((0 : Int32).toInt64)) hx hb dX8_keep_37 (by decide) ?_
          refine lv_ldc2 (own := RX8) (index := 95) (v := 9) hx hb hown (hts _ (tm 1141 (by decide +kernel) (by decide +kernel))) dX8_keep_38 ?_
          refine lv_topEl (y := ((9 : Int32).toInt64)) (by decide) ?_
          refine r_ci X hS (r_runS (As := [.long (f.toInt64), .long ((0 : Int32).toInt64), .long ((9 : Int32).toInt64)]) (rest := []) C0 X hP L_X8_53 (fun sz => c_X8_isIn l D cA ad o σ f 0 9 sz) ⟨Nat.le_of_ble_eq_true rfl, Nat.le_of_ble_eq_true rfl⟩ rfl hl.1 rfl (Nat.le_of_ble_eq_true rfl) dX8_keep_41 ⟨Nat.zero_le _, Nat.zero_le _⟩) (fun r σ9 H locs hw hP hS => ?_)
          rw [hw.2] at hP
          obtain ⟨⟨b_14, rfl⟩ | ⟨b_14, rfl⟩, -⟩ := hw
          · have p_15 : ¬ f < 0 := Int32.not_lt.mpr b_14.1
            have p_16 : ¬ 9 < f := Int32.not_lt.mpr b_14.2
            have p_17 : ¬ 10 ≤ f := nsucc (by decide) p_16
            refine lv_if_ne (tgt := 49) hx hb dX8_keep_44 (by decide) (fun c_18 => ?_) (fun c_18 => absurd c_18 (by decide))
            obtain ⟨j1, hj1, ej1⟩ := shin b_1
            refine lv_aload_n hx hb dX8_keep_49 rfl (lv_at hl 0 rfl) ?_
            refine gf_X8_22 C0 X hP 91 (q := 96) ⟨by decide, rfl⟩ (by omega) rfl dX8_keep_50 ?_
            refine lv_iload_n hx hb dX8_keep_53 rfl (lv_at hl 1 rfl) ?_
            refine lv_iload_n hx hb dX8_keep_54 rfl (lv_at hl 2 rfl) ?_
            refine r_iastN C0 X hP hS 96 (k := j1) ⟨by decide, rfl⟩ ej1 hj1 dX8_keep_55 (fun H locs hP hS => ?_)
            refine lv_aload_n hx hb dX8_keep_56 rfl (lv_at hl 0 rfl) ?_
            refine gf_X8_34 C0 X hP 91 (q := 100) ⟨by decide, rfl⟩ (by omega) rfl dX8_keep_57 ?_
            refine lv_iload_n hx hb dX8_keep_60 rfl (lv_at hl 1 rfl) ?_
            refine lv_iload_n hx hb dX8_keep_61 rfl (lv_at hl 3 rfl) ?_
            refine r_iastN C0 X hP hS 100 (k := j1) ⟨by decide, rfl⟩ ej1 hj1 dX8_keep_62 (fun H locs hP hS => ?_)
            refine lv_aload_n hx hb dX8_keep_63 rfl (lv_at hl 0 rfl) ?_
            refine gf_X8_37 C0 X hP 91 (q := 101) ⟨by decide, rfl⟩ (by omega) rfl dX8_keep_64 ?_
            refine lv_iload_n hx hb dX8_keep_67 rfl (lv_at hl 1 rfl) ?_
            refine lv_iload hx hb dX8_keep_68 (lv_at hl 4 rfl) ?_
            refine r_iastN C0 X hP hS 101 (k := j1) ⟨by decide, rfl⟩ ej1 hj1 dX8_keep_70 (fun H locs hP hS => ?_)
            refine lv_iconst (v := 0) hx hb dX8_keep_71 (by decide) ?_
            exact r_iret C0 X hP hS hr hlk dX8_keep_72 (by simp only [b_1, p_4, p_5, p_6, c_8, p_10, p_11, p_12, p_15, p_16, p_17, Int32.not_lt.mp p_4, Int32.not_lt.mp p_5, Int32.not_le.mp p_6, Int32.not_lt.mp p_10, Int32.not_lt.mp p_11, Int32.not_le.mp p_12, Int32.not_lt.mp p_15, Int32.not_lt.mp p_16, Int32.not_le.mp p_17, if_true, if_false, ite_true, ite_false, true_and, and_true, false_and, and_false, true_or, or_true, false_or, or_false, not_true_eq_false, not_false_eq_true, ne_eq, and_self, or_self]; try rfl)
          · have p_19 : f < 0 ∨ 10 ≤ f := osucc (by decide) b_14
            refine lv_if_ne (tgt := 49) hx hb dX8_keep_44 (by decide) (fun c_20 => absurd c_20 (by decide)) (fun c_20 => ?_)
            refine lv_iconst (v := (-1)) hx hb dX8_keep_47 (by decide) ?_
            exact r_iret C0 X hP hS hr hlk dX8_keep_48 (by simp only [b_1, p_4, p_5, p_6, c_8, p_10, p_11, p_12, b_14, p_19, Int32.not_lt.mp p_4, Int32.not_lt.mp p_5, Int32.not_le.mp p_6, Int32.not_lt.mp p_10, Int32.not_lt.mp p_11, Int32.not_le.mp p_12, if_true, if_false, ite_true, ite_false, true_and, and_true, false_and, and_false, true_or, or_true, false_or, or_false, not_true_eq_false, not_false_eq_true, ne_eq, and_self, or_self]; try rfl)
        · have p_21 : k < 0 ∨ 8 ≤ k := osucc (by decide) b_9
          refine lv_if_eq (tgt := 47) hx hb dX8_keep_31 (by decide) (fun c_22 => ?_) (fun c_22 => absurd c_22 (by decide))
          refine lv_iconst (v := (-1)) hx hb dX8_keep_47 (by decide) ?_
          exact r_iret C0 X hP hS hr hlk dX8_keep_48 (by simp only [b_1, p_4, p_5, p_6, c_8, b_9, p_21, Int32.not_lt.mp p_4, Int32.not_lt.mp p_5, Int32.not_le.mp p_6, if_true, if_false, ite_true, ite_false, true_and, and_true, false_and, and_false, true_or, or_true, false_or, or_false, not_true_eq_false, not_false_eq_true, ne_eq, and_self, or_self]; try rfl)
    · have p_23 : w < 0 ∨ 2 ≤ w := osucc (by decide) b_3
      refine lv_if_eq (tgt := 47) hx hb dX8_keep_14 (by decide) (fun c_24 => ?_) (fun c_24 => absurd c_24 (by decide))
      refine lv_iconst (v := (-1)) hx hb dX8_keep_47 (by decide) ?_
      exact r_iret C0 X hP hS hr hlk dX8_keep_48 (by simp only [b_1, b_3, p_23, if_true, if_false, ite_true, ite_false, true_and, and_true, false_and, and_false, true_or, or_true, false_or, or_false, not_true_eq_false, not_false_eq_true, ne_eq, and_self, or_self]; try rfl)
  · refine lv_if_eq (tgt := 47) hx hb dX8_keep_4 (by decide) (fun c_25 => ?_) (fun c_25 => absurd c_25 (by decide))
    refine lv_iconst (v := (-1)) hx hb dX8_keep_47 (by decide) ?_
    exact r_iret C0 X hP hS hr hlk dX8_keep_48 (by simp only [b_1, if_true, if_false, ite_true, ite_false, true_and, and_true, false_and, and_false, true_or, or_true, false_or, or_false, not_true_eq_false, not_false_eq_true, ne_eq, and_self, or_self]; try rfl)
theorem dX8_put_0 : decode cX8_put 0 = .ok (.aload_n 0, 1) := by decide +kernel
theorem dX8_put_1 : decode cX8_put 1 = .ok (.iload_n 1, 1) := by decide +kernel
theorem dX8_put_2 : decode cX8_put 2 = .ok (.iconst (-1), 1) := by decide +kernel
theorem dX8_put_3 : decode cX8_put 3 = .ok (.invokevirtual 108, 3) := by decide +kernel
theorem dX8_put_6 : decode cX8_put 6 = .ok (.istore 4, 2) := by decide +kernel
theorem dX8_put_8 : decode cX8_put 8 = .ok (.iload 4, 2) := by decide +kernel
theorem dX8_put_10 : decode cX8_put 10 = .ok (.ifCond .eq 6, 3) := by decide +kernel
theorem dX8_put_13 : decode cX8_put 13 = .ok (.iload 4, 2) := by decide +kernel
theorem dX8_put_15 : decode cX8_put 15 = .ok (.ireturn, 1) := by decide +kernel
theorem dX8_put_16 : decode cX8_put 16 = .ok (.iload_n 2, 1) := by decide +kernel
theorem dX8_put_17 : decode cX8_put 17 = .ok (.i2l, 1) := by decide +kernel
theorem dX8_put_18 : decode cX8_put 18 = .ok (.lconst 0, 1) := by decide +kernel
theorem dX8_put_19 : decode cX8_put 19 = .ok (.aload_n 0, 1) := by decide +kernel
theorem dX8_put_20 : decode cX8_put 20 = .ok (.getfield 28, 3) := by decide +kernel
theorem dX8_put_23 : decode cX8_put 23 = .ok (.iload_n 1, 1) := by decide +kernel
theorem dX8_put_24 : decode cX8_put 24 = .ok (.iaload, 1) := by decide +kernel
theorem dX8_put_25 : decode cX8_put 25 = .ok (.iconst 1, 1) := by decide +kernel
theorem dX8_put_26 : decode cX8_put 26 = .ok (.isub, 1) := by decide +kernel
theorem dX8_put_27 : decode cX8_put 27 = .ok (.i2l, 1) := by decide +kernel
theorem dX8_put_28 : decode cX8_put 28 = .ok (.invokestatic 53, 3) := by decide +kernel
theorem dX8_put_31 : decode cX8_put 31 = .ok (.ifCond .ne 6, 3) := by decide +kernel
theorem dX8_put_34 : decode cX8_put 34 = .ok (.bipush (-13), 2) := by decide +kernel
theorem dX8_put_36 : decode cX8_put 36 = .ok (.ireturn, 1) := by decide +kernel
theorem dX8_put_37 : decode cX8_put 37 = .ok (.aload_n 0, 1) := by decide +kernel
theorem dX8_put_38 : decode cX8_put 38 = .ok (.getfield 31, 3) := by decide +kernel
theorem dX8_put_41 : decode cX8_put 41 = .ok (.bipush 100, 2) := by decide +kernel
theorem dX8_put_43 : decode cX8_put 43 = .ok (.iload_n 1, 1) := by decide +kernel
theorem dX8_put_44 : decode cX8_put 44 = .ok (.imul, 1) := by decide +kernel
theorem dX8_put_45 : decode cX8_put 45 = .ok (.iload_n 2, 1) := by decide +kernel
theorem dX8_put_46 : decode cX8_put 46 = .ok (.iadd, 1) := by decide +kernel
theorem dX8_put_47 : decode cX8_put 47 = .ok (.aload_n 0, 1) := by decide +kernel
theorem dX8_put_48 : decode cX8_put 48 = .ok (.getfield 25, 3) := by decide +kernel
theorem dX8_put_51 : decode cX8_put 51 = .ok (.iload_n 1, 1) := by decide +kernel
theorem dX8_put_52 : decode cX8_put 52 = .ok (.iaload, 1) := by decide +kernel
theorem dX8_put_53 : decode cX8_put 53 = .ok (.ifCond .ne 8, 3) := by decide +kernel
theorem dX8_put_56 : decode cX8_put 56 = .ok (.iload_n 3, 1) := by decide +kernel
theorem dX8_put_57 : decode cX8_put 57 = .ok (.i2b, 1) := by decide +kernel
theorem dX8_put_58 : decode cX8_put 58 = .ok (.goto 19, 3) := by decide +kernel
theorem dX8_put_61 : decode cX8_put 61 = .ok (.aload_n 0, 1) := by decide +kernel
theorem dX8_put_62 : decode cX8_put 62 = .ok (.getfield 25, 3) := by decide +kernel
theorem dX8_put_65 : decode cX8_put 65 = .ok (.iload_n 1, 1) := by decide +kernel
theorem dX8_put_66 : decode cX8_put 66 = .ok (.iaload, 1) := by decide +kernel
theorem dX8_put_67 : decode cX8_put 67 = .ok (.iconst 1, 1) := by decide +kernel
theorem dX8_put_68 : decode cX8_put 68 = .ok (.if_icmp .ne 8, 3) := by decide +kernel
theorem dX8_put_71 : decode cX8_put 71 = .ok (.iload_n 3, 1) := by decide +kernel
theorem dX8_put_72 : decode cX8_put 72 = .ok (.i2s, 1) := by decide +kernel
theorem dX8_put_73 : decode cX8_put 73 = .ok (.goto 4, 3) := by decide +kernel
theorem dX8_put_76 : decode cX8_put 76 = .ok (.iload_n 3, 1) := by decide +kernel
theorem dX8_put_77 : decode cX8_put 77 = .ok (.iastore, 1) := by decide +kernel
theorem dX8_put_78 : decode cX8_put 78 = .ok (.iconst 0, 1) := by decide +kernel
theorem dX8_put_79 : decode cX8_put 79 = .ok (.ireturn, 1) := by decide +kernel
set_option maxHeartbeats 4000000 in
set_option maxRecDepth 100000 in
theorem c_X8_put_f (l : Launch) (D : va_G) (cA : Nat → ClassId) (ad : Nat → Nat) (o : Int64) (σ : Mem) (d : Int32) (i : Int32) (v : Int32) (hF : FrM σ) (sz : Nat) : Met l yX8_put (WY yX8_put cX8_put 5 (some .int)) (RM 3) (va_Pc [.ref (ad 91), .int d, .int i, .int v] (PW D cA ad o σ sz)) (va_Qi (fun r _ => r = (if d < 0 ∨ 8 ≤ d then -1 else -11)) (QW D cA ad o) (FA ad sz)) 0 0 (FA ad sz) := by
  refine ct_of (own := RX8) (k := 3) (Qf := va_Qi (fun r _ => r = (if d < 0 ∨ 8 ≤ d then -1 else -11)) (QW D cA ad o)) rfl (by decide) (Nat.le_of_ble_eq_true rfl) (fun p e s m below meth c ls C0 X hr hlk hP hl => ?_) sz
  have hS : va_S (FA ad s.heap.size) s.heap s.heap [] := va_S.rf
  have hl : lv_has ls 5 [(0, .ref (ad 91)), (1, .int d), (2, .int i), (3, .int v)] := hl
  obtain ⟨hx, hb, hml, hown, hts⟩ := id C0
  refine lv_aload_n hx hb dX8_put_0 rfl (lv_at hl 0 rfl) ?_
  refine lv_iload_n hx hb dX8_put_1 rfl (lv_at hl 1 rfl) ?_
  refine lv_iconst (v := (-1)) hx hb dX8_put_2 (by decide) ?_
  refine r_ci X hS (r_runV (As := [.int d, .int (-1)]) (rest := []) C0 X hP L_X8_108 (fun sz => c_X8_wrongRow0 l D cA ad o σ d (-1) hF sz) (show 91 < 106 ∧ kd 91 = (8, 24) from ⟨by decide, rfl⟩).1 (show 91 < 106 ∧ kd 91 = (8, 24) from ⟨by decide, rfl⟩).2 (by decide) rfl ⟨Nat.le_of_ble_eq_true rfl, Nat.le_of_ble_eq_true rfl⟩ rfl hl.1 rfl (Nat.le_of_ble_eq_true rfl) dX8_put_3 ⟨Nat.zero_le _, Nat.zero_le _⟩) (fun r σ9 H locs hw hP hS => ?_)
  rw [hw.2] at hP
  obtain ⟨⟨b_1, rfl⟩ | ⟨b_1, rfl⟩, -⟩ := hw
  · refine lv_istore (lv' := [(4, .int (-1)), (0, .ref (ad 91)), (1, .int d), (2, .int i), (3, .int v)]) hx hb dX8_put_6 hl (by decide) rfl (fun ls hl => ?_)
    refine lv_iload hx hb dX8_put_8 (lv_at hl 0 rfl) ?_
    refine lv_if_eq (tgt := 16) hx hb dX8_put_10 (by decide) (fun c_2 => absurd c_2 (by decide)) (fun c_2 => ?_)
    refine lv_iload hx hb dX8_put_13 (lv_at hl 0 rfl) ?_
    exact r_iret C0 X hP hS hr hlk dX8_put_15 (by simp only [b_1, if_true, if_false, ite_true, ite_false, true_and, and_true, false_and, and_false, true_or, or_true, false_or, or_false, not_true_eq_false, not_false_eq_true, ne_eq, and_self, or_self]; try rfl)
  · refine lv_istore (lv' := [(4, .int (-11)), (0, .ref (ad 91)), (1, .int d), (2, .int i), (3, .int v)]) hx hb dX8_put_6 hl (by decide) rfl (fun ls hl => ?_)
    refine lv_iload hx hb dX8_put_8 (lv_at hl 0 rfl) ?_
    refine lv_if_eq (tgt := 16) hx hb dX8_put_10 (by decide) (fun c_3 => absurd c_3 (by decide)) (fun c_3 => ?_)
    refine lv_iload hx hb dX8_put_13 (lv_at hl 0 rfl) ?_
    exact r_iret C0 X hP hS hr hlk dX8_put_15 (by simp only [b_1, if_true, if_false, ite_true, ite_false, true_and, and_true, false_and, and_false, true_or, or_true, false_or, or_false, not_true_eq_false, not_false_eq_true, ne_eq, and_self, or_self]; try rfl)
theorem dX8_words_0 : decode cX8_words 0 = .ok (.aload_n 0, 1) := by decide +kernel
theorem dX8_words_1 : decode cX8_words 1 = .ok (.iload_n 1, 1) := by decide +kernel
theorem dX8_words_2 : decode cX8_words 2 = .ok (.invokevirtual 137, 3) := by decide +kernel
theorem dX8_words_5 : decode cX8_words 5 = .ok (.istore_n 2, 1) := by decide +kernel
theorem dX8_words_6 : decode cX8_words 6 = .ok (.iload_n 2, 1) := by decide +kernel
theorem dX8_words_7 : decode cX8_words 7 = .ok (.ifCond .eq 7, 3) := by decide +kernel
theorem dX8_words_10 : decode cX8_words 10 = .ok (.iload_n 2, 1) := by decide +kernel
theorem dX8_words_11 : decode cX8_words 11 = .ok (.goto 18, 3) := by decide +kernel
theorem dX8_words_14 : decode cX8_words 14 = .ok (.aload_n 0, 1) := by decide +kernel
theorem dX8_words_15 : decode cX8_words 15 = .ok (.getfield 34, 3) := by decide +kernel
theorem dX8_words_18 : decode cX8_words 18 = .ok (.iload_n 1, 1) := by decide +kernel
theorem dX8_words_19 : decode cX8_words 19 = .ok (.iaload, 1) := by decide +kernel
theorem dX8_words_20 : decode cX8_words 20 = .ok (.aload_n 0, 1) := by decide +kernel
theorem dX8_words_21 : decode cX8_words 21 = .ok (.getfield 37, 3) := by decide +kernel
theorem dX8_words_24 : decode cX8_words 24 = .ok (.iload_n 1, 1) := by decide +kernel
theorem dX8_words_25 : decode cX8_words 25 = .ok (.iaload, 1) := by decide +kernel
theorem dX8_words_26 : decode cX8_words 26 = .ok (.invokestatic 257, 3) := by decide +kernel
theorem dX8_words_29 : decode cX8_words 29 = .ok (.ireturn, 1) := by decide +kernel
set_option maxHeartbeats 4000000 in
set_option maxRecDepth 100000 in
theorem c_X8_words_f (l : Launch) (D : va_G) (cA : Nat → ClassId) (ad : Nat → Nat) (o : Int64) (σ : Mem) (d : Int32) (hF : FrM σ) (sz : Nat) : Met l yX8_words (WY yX8_words cX8_words 3 (some .int)) (RM 3) (va_Pc [.ref (ad 91), .int d] (PW D cA ad o σ sz)) (va_Qi (fun r _ => r = (if d < 0 ∨ 8 ≤ d then -1 else -11)) (QW D cA ad o) (FA ad sz)) 0 0 (FA ad sz) := by
  refine ct_of (own := RX8) (k := 3) (Qf := va_Qi (fun r _ => r = (if d < 0 ∨ 8 ≤ d then -1 else -11)) (QW D cA ad o)) rfl (by decide) (Nat.le_of_ble_eq_true rfl) (fun p e s m below meth c ls C0 X hr hlk hP hl => ?_) sz
  have hS : va_S (FA ad s.heap.size) s.heap s.heap [] := va_S.rf
  have hl : lv_has ls 3 [(0, .ref (ad 91)), (1, .int d)] := hl
  obtain ⟨hx, hb, hml, hown, hts⟩ := id C0
  refine lv_aload_n hx hb dX8_words_0 rfl (lv_at hl 0 rfl) ?_
  refine lv_iload_n hx hb dX8_words_1 rfl (lv_at hl 1 rfl) ?_
  refine r_ci X hS (r_runV (As := [.int d]) (rest := []) C0 X hP L_X8_137 (fun sz => c_X8_wrongRule0 l D cA ad o σ d hF sz) (show 91 < 106 ∧ kd 91 = (8, 24) from ⟨by decide, rfl⟩).1 (show 91 < 106 ∧ kd 91 = (8, 24) from ⟨by decide, rfl⟩).2 (by decide) rfl ⟨Nat.le_of_ble_eq_true rfl, Nat.le_of_ble_eq_true rfl⟩ rfl hl.1 rfl (Nat.le_of_ble_eq_true rfl) dX8_words_2 ⟨Nat.zero_le _, Nat.zero_le _⟩) (fun r σ9 H locs hw hP hS => ?_)
  rw [hw.2] at hP
  obtain ⟨⟨b_1, rfl⟩ | ⟨b_1, rfl⟩, -⟩ := hw
  · refine lv_istore_n (lv' := [(2, .int (-1)), (0, .ref (ad 91)), (1, .int d)]) hx hb dX8_words_5 rfl hl (by decide) rfl (fun ls hl => ?_)
    refine lv_iload_n hx hb dX8_words_6 rfl (lv_at hl 0 rfl) ?_
    refine lv_if_eq (tgt := 14) hx hb dX8_words_7 (by decide) (fun c_2 => absurd c_2 (by decide)) (fun c_2 => ?_)
    refine lv_iload_n hx hb dX8_words_10 rfl (lv_at hl 0 rfl) ?_
    refine lv_goto (tgt := 29) hx hb dX8_words_11 (by decide) ?_
    exact r_iret C0 X hP hS hr hlk dX8_words_29 (by simp only [b_1, if_true, if_false, ite_true, ite_false, true_and, and_true, false_and, and_false, true_or, or_true, false_or, or_false, not_true_eq_false, not_false_eq_true, ne_eq, and_self, or_self]; try rfl)
  · refine lv_istore_n (lv' := [(2, .int (-11)), (0, .ref (ad 91)), (1, .int d)]) hx hb dX8_words_5 rfl hl (by decide) rfl (fun ls hl => ?_)
    refine lv_iload_n hx hb dX8_words_6 rfl (lv_at hl 0 rfl) ?_
    refine lv_if_eq (tgt := 14) hx hb dX8_words_7 (by decide) (fun c_3 => absurd c_3 (by decide)) (fun c_3 => ?_)
    refine lv_iload_n hx hb dX8_words_10 rfl (lv_at hl 0 rfl) ?_
    refine lv_goto (tgt := 29) hx hb dX8_words_11 (by decide) ?_
    exact r_iret C0 X hP hS hr hlk dX8_words_29 (by simp only [b_1, if_true, if_false, ite_true, ite_false, true_and, and_true, false_and, and_false, true_or, or_true, false_or, or_false, not_true_eq_false, not_false_eq_true, ne_eq, and_self, or_self]; try rfl)
theorem dX8_toss_0 : decode cX8_toss 0 = .ok (.aload_n 0, 1) := by decide +kernel
theorem dX8_toss_1 : decode cX8_toss 1 = .ok (.iload_n 1, 1) := by decide +kernel
theorem dX8_toss_2 : decode cX8_toss 2 = .ok (.invokevirtual 137, 3) := by decide +kernel
theorem dX8_toss_5 : decode cX8_toss 5 = .ok (.istore_n 2, 1) := by decide +kernel
theorem dX8_toss_6 : decode cX8_toss 6 = .ok (.iload_n 2, 1) := by decide +kernel
theorem dX8_toss_7 : decode cX8_toss 7 = .ok (.ifCond .eq 5, 3) := by decide +kernel
theorem dX8_toss_10 : decode cX8_toss 10 = .ok (.iload_n 2, 1) := by decide +kernel
theorem dX8_toss_11 : decode cX8_toss 11 = .ok (.ireturn, 1) := by decide +kernel
theorem dX8_toss_12 : decode cX8_toss 12 = .ok (.aload_n 0, 1) := by decide +kernel
theorem dX8_toss_13 : decode cX8_toss 13 = .ok (.getfield 37, 3) := by decide +kernel
theorem dX8_toss_16 : decode cX8_toss 16 = .ok (.iload_n 1, 1) := by decide +kernel
theorem dX8_toss_17 : decode cX8_toss 17 = .ok (.iaload, 1) := by decide +kernel
theorem dX8_toss_18 : decode cX8_toss 18 = .ok (.istore_n 3, 1) := by decide +kernel
theorem dX8_toss_19 : decode cX8_toss 19 = .ok (.aload_n 0, 1) := by decide +kernel
theorem dX8_toss_20 : decode cX8_toss 20 = .ok (.getfield 34, 3) := by decide +kernel
theorem dX8_toss_23 : decode cX8_toss 23 = .ok (.iload_n 1, 1) := by decide +kernel
theorem dX8_toss_24 : decode cX8_toss 24 = .ok (.iaload, 1) := by decide +kernel
theorem dX8_toss_25 : decode cX8_toss 25 = .ok (.istore 4, 2) := by decide +kernel
theorem dX8_toss_27 : decode cX8_toss 27 = .ok (.iload 4, 2) := by decide +kernel
theorem dX8_toss_29 : decode cX8_toss 29 = .ok (.iconst 3, 1) := by decide +kernel
theorem dX8_toss_30 : decode cX8_toss 30 = .ok (.if_icmp .eq 7, 3) := by decide +kernel
theorem dX8_toss_33 : decode cX8_toss 33 = .ok (.iload_n 3, 1) := by decide +kernel
theorem dX8_toss_34 : decode cX8_toss 34 = .ok (.ifCond .ne 8, 3) := by decide +kernel
theorem dX8_toss_37 : decode cX8_toss 37 = .ok (.bipush (-15), 2) := by decide +kernel
theorem dX8_toss_39 : decode cX8_toss 39 = .ok (.goto 37, 3) := by decide +kernel
theorem dX8_toss_42 : decode cX8_toss 42 = .ok (.iload 4, 2) := by decide +kernel
theorem dX8_toss_44 : decode cX8_toss 44 = .ok (.bipush 6, 2) := by decide +kernel
theorem dX8_toss_46 : decode cX8_toss 46 = .ok (.if_icmp .ne 10, 3) := by decide +kernel
theorem dX8_toss_49 : decode cX8_toss 49 = .ok (.bipush 100, 2) := by decide +kernel
theorem dX8_toss_51 : decode cX8_toss 51 = .ok (.iload_n 3, 1) := by decide +kernel
theorem dX8_toss_52 : decode cX8_toss 52 = .ok (.iadd, 1) := by decide +kernel
theorem dX8_toss_53 : decode cX8_toss 53 = .ok (.goto 23, 3) := by decide +kernel
theorem dX8_toss_56 : decode cX8_toss 56 = .ok (.iload 4, 2) := by decide +kernel
theorem dX8_toss_58 : decode cX8_toss 58 = .ok (.iconst 5, 1) := by decide +kernel
theorem dX8_toss_59 : decode cX8_toss 59 = .ok (.if_icmp .ne 16, 3) := by decide +kernel
theorem dX8_toss_62 : decode cX8_toss 62 = .ok (.sipush 200, 3) := by decide +kernel
theorem dX8_toss_65 : decode cX8_toss 65 = .ok (.iload 4, 2) := by decide +kernel
theorem dX8_toss_67 : decode cX8_toss 67 = .ok (.iload_n 3, 1) := by decide +kernel
theorem dX8_toss_68 : decode cX8_toss 68 = .ok (.invokestatic 257, 3) := by decide +kernel
theorem dX8_toss_71 : decode cX8_toss 71 = .ok (.iadd, 1) := by decide +kernel
theorem dX8_toss_72 : decode cX8_toss 72 = .ok (.goto 4, 3) := by decide +kernel
theorem dX8_toss_75 : decode cX8_toss 75 = .ok (.iload_n 3, 1) := by decide +kernel
theorem dX8_toss_76 : decode cX8_toss 76 = .ok (.ireturn, 1) := by decide +kernel
set_option maxHeartbeats 4000000 in
set_option maxRecDepth 100000 in
theorem c_X8_toss_f (l : Launch) (D : va_G) (cA : Nat → ClassId) (ad : Nat → Nat) (o : Int64) (σ : Mem) (d : Int32) (hF : FrM σ) (sz : Nat) : Met l yX8_toss (WY yX8_toss cX8_toss 5 (some .int)) (RM 3) (va_Pc [.ref (ad 91), .int d] (PW D cA ad o σ sz)) (va_Qi (fun r _ => r = (if d < 0 ∨ 8 ≤ d then -1 else -11)) (QW D cA ad o) (FA ad sz)) 0 0 (FA ad sz) := by
  refine ct_of (own := RX8) (k := 3) (Qf := va_Qi (fun r _ => r = (if d < 0 ∨ 8 ≤ d then -1 else -11)) (QW D cA ad o)) rfl (by decide) (Nat.le_of_ble_eq_true rfl) (fun p e s m below meth c ls C0 X hr hlk hP hl => ?_) sz
  have hS : va_S (FA ad s.heap.size) s.heap s.heap [] := va_S.rf
  have hl : lv_has ls 5 [(0, .ref (ad 91)), (1, .int d)] := hl
  obtain ⟨hx, hb, hml, hown, hts⟩ := id C0
  refine lv_aload_n hx hb dX8_toss_0 rfl (lv_at hl 0 rfl) ?_
  refine lv_iload_n hx hb dX8_toss_1 rfl (lv_at hl 1 rfl) ?_
  refine r_ci X hS (r_runV (As := [.int d]) (rest := []) C0 X hP L_X8_137 (fun sz => c_X8_wrongRule0 l D cA ad o σ d hF sz) (show 91 < 106 ∧ kd 91 = (8, 24) from ⟨by decide, rfl⟩).1 (show 91 < 106 ∧ kd 91 = (8, 24) from ⟨by decide, rfl⟩).2 (by decide) rfl ⟨Nat.le_of_ble_eq_true rfl, Nat.le_of_ble_eq_true rfl⟩ rfl hl.1 rfl (Nat.le_of_ble_eq_true rfl) dX8_toss_2 ⟨Nat.zero_le _, Nat.zero_le _⟩) (fun r σ9 H locs hw hP hS => ?_)
  rw [hw.2] at hP
  obtain ⟨⟨b_1, rfl⟩ | ⟨b_1, rfl⟩, -⟩ := hw
  · refine lv_istore_n (lv' := [(2, .int (-1)), (0, .ref (ad 91)), (1, .int d)]) hx hb dX8_toss_5 rfl hl (by decide) rfl (fun ls hl => ?_)
    refine lv_iload_n hx hb dX8_toss_6 rfl (lv_at hl 0 rfl) ?_
    refine lv_if_eq (tgt := 12) hx hb dX8_toss_7 (by decide) (fun c_2 => absurd c_2 (by decide)) (fun c_2 => ?_)
    refine lv_iload_n hx hb dX8_toss_10 rfl (lv_at hl 0 rfl) ?_
    exact r_iret C0 X hP hS hr hlk dX8_toss_11 (by simp only [b_1, if_true, if_false, ite_true, ite_false, true_and, and_true, false_and, and_false, true_or, or_true, false_or, or_false, not_true_eq_false, not_false_eq_true, ne_eq, and_self, or_self]; try rfl)
  · refine lv_istore_n (lv' := [(2, .int (-11)), (0, .ref (ad 91)), (1, .int d)]) hx hb dX8_toss_5 rfl hl (by decide) rfl (fun ls hl => ?_)
    refine lv_iload_n hx hb dX8_toss_6 rfl (lv_at hl 0 rfl) ?_
    refine lv_if_eq (tgt := 12) hx hb dX8_toss_7 (by decide) (fun c_3 => absurd c_3 (by decide)) (fun c_3 => ?_)
    refine lv_iload_n hx hb dX8_toss_10 rfl (lv_at hl 0 rfl) ?_
    exact r_iret C0 X hP hS hr hlk dX8_toss_11 (by simp only [b_1, if_true, if_false, ite_true, ite_false, true_and, and_true, false_and, and_false, true_or, or_true, false_or, or_false, not_true_eq_false, not_false_eq_true, ne_eq, and_self, or_self]; try rfl)
