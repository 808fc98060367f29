theorem dX7_shelfAt_0 : decode cX7_shelfAt 0 = .ok (.iload_n 1, 1) := by decide +kernel
theorem dX7_shelfAt_1 : decode cX7_shelfAt 1 = .ok (.ifCond .lt 9, 3) := by decide +kernel
theorem dX7_shelfAt_4 : decode cX7_shelfAt 4 = .ok (.iload_n 1, 1) := by decide +kernel
theorem dX7_shelfAt_5 : decode cX7_shelfAt 5 = .ok (.bipush 8, 2) := by decide +kernel
theorem dX7_shelfAt_7 : decode cX7_shelfAt 7 = .ok (.if_icmp .lt 7, 3) := by decide +kernel
theorem dX7_shelfAt_10 : decode cX7_shelfAt 10 = .ok (.aconst_null, 1) := by decide +kernel
theorem dX7_shelfAt_11 : decode cX7_shelfAt 11 = .ok (.goto 9, 3) := by decide +kernel
theorem dX7_shelfAt_14 : decode cX7_shelfAt 14 = .ok (.aload_n 0, 1) := by decide +kernel
theorem dX7_shelfAt_15 : decode cX7_shelfAt 15 = .ok (.getfield 24, 3) := by decide +kernel
theorem dX7_shelfAt_18 : decode cX7_shelfAt 18 = .ok (.iload_n 1, 1) := by decide +kernel
theorem dX7_shelfAt_19 : decode cX7_shelfAt 19 = .ok (.aaload, 1) := by decide +kernel
theorem dX7_shelfAt_20 : decode cX7_shelfAt 20 = .ok (.areturn, 1) := by decide +kernel
set_option maxHeartbeats 4000000 in
set_option maxRecDepth 100000 in
theorem c_X7_shelfAt (l : Launch) (D : va_G) (cA : Nat → ClassId) (ad : Nat → Nat) (o : Int64) (σ : Mem) (d : Int32)  (sz : Nat) : Met l yX7_shelfAt (WY yX7_shelfAt cX7_shelfAt 2 (some (.object "WhoBacks$Shelf"))) (RM 0) (va_Pc [.ref (ad 66), .int d] (PW D cA ad o σ sz)) (va_Qq (QQ ad (fun x σ9 => σ9 = σ ∧ (match x with | none => d < 0 ∨ 8 ≤ d | some q => ∃ j : Nat, j < 8 ∧ d = nI j ∧ q = 68 + j))) (QW D cA ad o) (FA ad sz)) 0 0 (FA ad sz) := by
  refine ct_of (own := RX7) (k := 0) (Qf := va_Qq (QQ ad (fun x σ9 => σ9 = σ ∧ (match x with | none => d < 0 ∨ 8 ≤ d | some q => ∃ j : Nat, j < 8 ∧ d = nI j ∧ q = 68 + j))) (QW D cA ad o)) rfl (by decide) (Nat.le_of_ble_eq_true rfl) (fun p e s m below meth c ls C0 X hr hlk hP hl => ?_) sz
  have hS : va_S (FA ad s.heap.size) s.heap s.heap [] := va_S.rf
  have hl : lv_has ls 2 [(0, .ref (ad 66)), (1, .int d)] := hl
  obtain ⟨hx, hb, hml, hown, hts⟩ := id C0
  refine lv_iload_n hx hb dX7_shelfAt_0 rfl (lv_at hl 1 rfl) ?_
  refine lv_if_lt (tgt := 10) hx hb dX7_shelfAt_1 (by decide) (fun c_1 => ?_) (fun c_1 => ?_)
  · refine lv_null hx hb dX7_shelfAt_10 ?_
    refine lv_goto (tgt := 20) hx hb dX7_shelfAt_11 (by decide) ?_
    exact r_aretN C0 X hP hS hr hlk dX7_shelfAt_20 ⟨rfl, Or.inl c_1⟩
  · refine lv_iload_n hx hb dX7_shelfAt_4 rfl (lv_at hl 1 rfl) ?_
    refine lv_bipush (v := 8) hx hb dX7_shelfAt_5 (by decide) ?_
    refine lv_icmp_lt (tgt := 14) hx hb dX7_shelfAt_7 (by decide) (fun c_2 => ?_) (fun c_2 => ?_)
    · obtain ⟨j, hj, rfl⟩ : ∃ j : Nat, j < 8 ∧ d = nI j := ix8 c_1 c_2
      refine lv_aload_n hx hb dX7_shelfAt_14 rfl (lv_at hl 0 rfl) ?_
      refine gf_X7_24 C0 X hP 66 (q := 67) ⟨by decide, rfl⟩ (by omega) rfl dX7_shelfAt_15 ?_
      refine lv_iload_n hx hb dX7_shelfAt_18 rfl (lv_at hl 1 rfl) ?_
      refine r_aaldSN C0 X hP 67 (k := j) (q := (68 + j)) ⟨by decide, rfl⟩ rfl (by omega) (lkSh j (by omega)) dX7_shelfAt_19 ?_
      exact r_aret C0 X hP hS hr hlk dX7_shelfAt_20 ⟨rfl, j, hj, rfl, rfl⟩
    · refine lv_null hx hb dX7_shelfAt_10 ?_
      refine lv_goto (tgt := 20) hx hb dX7_shelfAt_11 (by decide) ?_
      exact r_aretN C0 X hP hS hr hlk dX7_shelfAt_20 ⟨rfl, Or.inr (Int32.not_lt.mp c_2)⟩
