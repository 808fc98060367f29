def bB_cX1_begin : Nat := 0xb10f00b5fc102a0900b5fc102a
theorem yB_cX1_begin : BYS cX1_begin 13 bB_cX1_begin := BYS_of (by decide +kernel)
theorem dX1_begin_0 : decode cX1_begin 0 = .ok (.aload_n 0, 1) := D_42 yB_cX1_begin rfl rfl
theorem dX1_begin_1 : decode cX1_begin 1 = .ok (.bipush (-4), 2) := D_16 yB_cX1_begin rfl rfl (sg_n (m := 128) (N := 4) rfl rfl rfl)
theorem dX1_begin_3 : decode cX1_begin 3 = .ok (.putfield 9, 3) := D_181 yB_cX1_begin rfl rfl rfl
theorem dX1_begin_6 : decode cX1_begin 6 = .ok (.aload_n 0, 1) := D_42 yB_cX1_begin rfl rfl
theorem dX1_begin_7 : decode cX1_begin 7 = .ok (.bipush (-4), 2) := D_16 yB_cX1_begin rfl rfl (sg_n (m := 128) (N := 4) rfl rfl rfl)
theorem dX1_begin_9 : decode cX1_begin 9 = .ok (.putfield 15, 3) := D_181 yB_cX1_begin rfl rfl rfl
theorem dX1_begin_12 : decode cX1_begin 12 = .ok (.return_, 1) := D_177 yB_cX1_begin rfl rfl
def F_X1_begin (σ : Mem)  : Option (Mem) := some (stm (stm σ 84 0 (-4)) 84 1 (-4))
set_option maxHeartbeats 4000000 in
set_option maxRecDepth 100000 in
theorem c_X1_begin (l : Launch) (D : va_G) (cA : Nat → ClassId) (ad : Nat → Nat) (o : Int64) (σ : Mem)   (res : Mem) (h : F_X1_begin σ  = some res) (sz : Nat) : Met l yX1_begin (WY yX1_begin cX1_begin 1 none) (RM 0) (va_Pc [.ref (ad 84)] (PW D cA ad o σ sz)) (va_Qv (fun σ9 => σ9 = res) (QW D cA ad o) (FA ad sz)) 0 0 (FA ad sz) := by
  refine ct_of (own := RX1) (k := 0) (Qf := va_Qv (fun σ9 => σ9 = res) (QW D cA ad o)) rfl (by decide) (Nat.le_of_ble_eq_true rfl) (fun p e s m below meth c ls C0 X hr hlk hP hl => ?_) sz
  have hS : va_S (FA ad s.heap.size) s.heap s.heap [] := va_S.rf
  have hl : lv_has ls 1 [(0, .ref (ad 84))] := hl
  obtain ⟨hx, hb, hml, hown, hts⟩ := id C0
  unfold F_X1_begin at h
  refine lv_aload_n hx hb dX1_begin_0 rfl (lv_at hl 0 rfl) ?_
  refine lv_bipush (v := (-4)) hx hb dX1_begin_1 (by decide) ?_
  refine pf_X1_9 C0 X hP hS 84 ⟨by decide, rfl⟩ dX1_begin_3 (fun H locs hP hS => ?_)
  refine lv_aload_n hx hb dX1_begin_6 rfl (lv_at hl 0 rfl) ?_
  refine lv_bipush (v := (-4)) hx hb dX1_begin_7 (by decide) ?_
  refine pf_X1_15 C0 X hP hS 84 ⟨by decide, rfl⟩ dX1_begin_9 (fun H locs hP hS => ?_)
  exact r_vret C0 X hP hS hr hlk dX1_begin_12 (Option.some.inj h)
def bB_cX1_offer : Nat := 0xb10f00b51c2a0900b51b2ab10400a10f00b42a1c0c009ffc100900b42a
theorem yB_cX1_offer : BYS cX1_offer 29 bB_cX1_offer := BYS_of (by decide +kernel)
theorem dX1_offer_0 : decode cX1_offer 0 = .ok (.aload_n 0, 1) := D_42 yB_cX1_offer rfl rfl
theorem dX1_offer_1 : decode cX1_offer 1 = .ok (.getfield 9, 3) := D_180 yB_cX1_offer rfl rfl rfl
theorem dX1_offer_4 : decode cX1_offer 4 = .ok (.bipush (-4), 2) := D_16 yB_cX1_offer rfl rfl (sg_n (m := 128) (N := 4) rfl rfl rfl)
theorem dX1_offer_6 : decode cX1_offer 6 = .ok (.if_icmp .eq 12, 3) := D_159 yB_cX1_offer rfl rfl (sg_p (m := 32768) (N := 12) rfl rfl rfl)
theorem dX1_offer_9 : decode cX1_offer 9 = .ok (.iload_n 2, 1) := D_28 yB_cX1_offer rfl rfl
theorem dX1_offer_10 : decode cX1_offer 10 = .ok (.aload_n 0, 1) := D_42 yB_cX1_offer rfl rfl
theorem dX1_offer_11 : decode cX1_offer 11 = .ok (.getfield 15, 3) := D_180 yB_cX1_offer rfl rfl rfl
theorem dX1_offer_14 : decode cX1_offer 14 = .ok (.if_icmp .lt 4, 3) := D_161 yB_cX1_offer rfl rfl (sg_p (m := 32768) (N := 4) rfl rfl rfl)
theorem dX1_offer_17 : decode cX1_offer 17 = .ok (.return_, 1) := D_177 yB_cX1_offer rfl rfl
theorem dX1_offer_18 : decode cX1_offer 18 = .ok (.aload_n 0, 1) := D_42 yB_cX1_offer rfl rfl
theorem dX1_offer_19 : decode cX1_offer 19 = .ok (.iload_n 1, 1) := D_27 yB_cX1_offer rfl rfl
theorem dX1_offer_20 : decode cX1_offer 20 = .ok (.putfield 9, 3) := D_181 yB_cX1_offer rfl rfl rfl
theorem dX1_offer_23 : decode cX1_offer 23 = .ok (.aload_n 0, 1) := D_42 yB_cX1_offer rfl rfl
theorem dX1_offer_24 : decode cX1_offer 24 = .ok (.iload_n 2, 1) := D_28 yB_cX1_offer rfl rfl
theorem dX1_offer_25 : decode cX1_offer 25 = .ok (.putfield 15, 3) := D_181 yB_cX1_offer rfl rfl rfl
theorem dX1_offer_28 : decode cX1_offer 28 = .ok (.return_, 1) := D_177 yB_cX1_offer rfl rfl
def F_X1_offer (σ : Mem) (x1 : Int32) (x2 : Int32) : Option (Mem) := if (σ 84 0) = (-4) then (some (stm (stm σ 84 0 x1) 84 1 x2)) else (if x2 < (σ 84 1) then (some (stm (stm σ 84 0 x1) 84 1 x2)) else (some σ))
set_option maxHeartbeats 4000000 in
set_option maxRecDepth 100000 in
theorem c_X1_offer (l : Launch) (D : va_G) (cA : Nat → ClassId) (ad : Nat → Nat) (o : Int64) (σ : Mem) (x1 : Int32) (x2 : Int32)  (res : Mem) (h : F_X1_offer σ x1 x2 = some res) (sz : Nat) : Met l yX1_offer (WY yX1_offer cX1_offer 3 none) (RM 0) (va_Pc [.ref (ad 84), .int x1, .int x2] (PW D cA ad o σ sz)) (va_Qv (fun σ9 => σ9 = res) (QW D cA ad o) (FA ad sz)) 0 0 (FA ad sz) := by
  refine ct_of (own := RX1) (k := 0) (Qf := va_Qv (fun σ9 => σ9 = res) (QW D cA ad o)) rfl (by decide) (Nat.le_of_ble_eq_true rfl) (fun p e s m below meth c ls C0 X hr hlk hP hl => ?_) sz
  have hS : va_S (FA ad s.heap.size) s.heap s.heap [] := va_S.rf
  have hl : lv_has ls 3 [(0, .ref (ad 84)), (1, .int x1), (2, .int x2)] := hl
  obtain ⟨hx, hb, hml, hown, hts⟩ := id C0
  unfold F_X1_offer at h
  refine lv_aload_n hx hb dX1_offer_0 rfl (lv_at hl 0 rfl) ?_
  refine gf_X1_9 C0 X hP 84 ⟨by decide, rfl⟩ dX1_offer_1 ?_
  refine lv_bipush (v := (-4)) hx hb dX1_offer_4 (by decide) ?_
  refine lv_icmp_eq (tgt := 18) hx hb dX1_offer_6 (by decide) (fun c_1 => ?_) (fun c_1 => ?_)
  · replace h := it_t h c_1
    refine lv_aload_n hx hb dX1_offer_18 rfl (lv_at hl 0 rfl) ?_
    refine lv_iload_n hx hb dX1_offer_19 rfl (lv_at hl 1 rfl) ?_
    refine pf_X1_9 C0 X hP hS 84 ⟨by decide, rfl⟩ dX1_offer_20 (fun H locs hP hS => ?_)
    refine lv_aload_n hx hb dX1_offer_23 rfl (lv_at hl 0 rfl) ?_
    refine lv_iload_n hx hb dX1_offer_24 rfl (lv_at hl 2 rfl) ?_
    refine pf_X1_15 C0 X hP hS 84 ⟨by decide, rfl⟩ dX1_offer_25 (fun H locs hP hS => ?_)
    exact r_vret C0 X hP hS hr hlk dX1_offer_28 (Option.some.inj h)
  · replace h := it_f h c_1
    refine lv_iload_n hx hb dX1_offer_9 rfl (lv_at hl 2 rfl) ?_
    refine lv_aload_n hx hb dX1_offer_10 rfl (lv_at hl 0 rfl) ?_
    refine gf_X1_15 C0 X hP 84 ⟨by decide, rfl⟩ dX1_offer_11 ?_
    refine lv_icmp_lt (tgt := 18) hx hb dX1_offer_14 (by decide) (fun c_2 => ?_) (fun c_2 => ?_)
    · replace h := it_t h c_2
      refine lv_aload_n hx hb dX1_offer_18 rfl (lv_at hl 0 rfl) ?_
      refine lv_iload_n hx hb dX1_offer_19 rfl (lv_at hl 1 rfl) ?_
      refine pf_X1_9 C0 X hP hS 84 ⟨by decide, rfl⟩ dX1_offer_20 (fun H locs hP hS => ?_)
      refine lv_aload_n hx hb dX1_offer_23 rfl (lv_at hl 0 rfl) ?_
      refine lv_iload_n hx hb dX1_offer_24 rfl (lv_at hl 2 rfl) ?_
      refine pf_X1_15 C0 X hP hS 84 ⟨by decide, rfl⟩ dX1_offer_25 (fun H locs hP hS => ?_)
      exact r_vret C0 X hP hS hr hlk dX1_offer_28 (Option.some.inj h)
    · replace h := it_f h c_2
      exact r_vret C0 X hP hS hr hlk dX1_offer_17 (Option.some.inj h)
def bB_cX5_becomeRow : Nat := 0xb1f0ffa70103844f031d0900b42a1000a264101d3e031600b51c2a1300b51b2a0f00b5052a
theorem yB_cX5_becomeRow : BYS cX5_becomeRow 37 bB_cX5_becomeRow := BYS_of (by decide +kernel)
theorem dX5_becomeRow_0 : decode cX5_becomeRow 0 = .ok (.aload_n 0, 1) := D_42 yB_cX5_becomeRow rfl rfl
theorem dX5_becomeRow_1 : decode cX5_becomeRow 1 = .ok (.iconst 2, 1) := D_5 yB_cX5_becomeRow rfl rfl
theorem dX5_becomeRow_2 : decode cX5_becomeRow 2 = .ok (.putfield 15, 3) := D_181 yB_cX5_becomeRow rfl rfl rfl
theorem dX5_becomeRow_5 : decode cX5_becomeRow 5 = .ok (.aload_n 0, 1) := D_42 yB_cX5_becomeRow rfl rfl
theorem dX5_becomeRow_6 : decode cX5_becomeRow 6 = .ok (.iload_n 1, 1) := D_27 yB_cX5_becomeRow rfl rfl
theorem dX5_becomeRow_7 : decode cX5_becomeRow 7 = .ok (.putfield 19, 3) := D_181 yB_cX5_becomeRow rfl rfl rfl
theorem dX5_becomeRow_10 : decode cX5_becomeRow 10 = .ok (.aload_n 0, 1) := D_42 yB_cX5_becomeRow rfl rfl
theorem dX5_becomeRow_11 : decode cX5_becomeRow 11 = .ok (.iload_n 2, 1) := D_28 yB_cX5_becomeRow rfl rfl
theorem dX5_becomeRow_12 : decode cX5_becomeRow 12 = .ok (.putfield 22, 3) := D_181 yB_cX5_becomeRow rfl rfl rfl
theorem dX5_becomeRow_15 : decode cX5_becomeRow 15 = .ok (.iconst 0, 1) := D_3 yB_cX5_becomeRow rfl rfl
theorem dX5_becomeRow_16 : decode cX5_becomeRow 16 = .ok (.istore_n 3, 1) := D_62 yB_cX5_becomeRow rfl rfl
theorem dX5_becomeRow_17 : decode cX5_becomeRow 17 = .ok (.iload_n 3, 1) := D_29 yB_cX5_becomeRow rfl rfl
theorem dX5_becomeRow_18 : decode cX5_becomeRow 18 = .ok (.bipush 100, 2) := D_16 yB_cX5_becomeRow rfl rfl (sg_p (m := 128) (N := 100) rfl rfl rfl)
theorem dX5_becomeRow_20 : decode cX5_becomeRow 20 = .ok (.if_icmp .ge 16, 3) := D_162 yB_cX5_becomeRow rfl rfl (sg_p (m := 32768) (N := 16) rfl rfl rfl)
theorem dX5_becomeRow_23 : decode cX5_becomeRow 23 = .ok (.aload_n 0, 1) := D_42 yB_cX5_becomeRow rfl rfl
theorem dX5_becomeRow_24 : decode cX5_becomeRow 24 = .ok (.getfield 9, 3) := D_180 yB_cX5_becomeRow rfl rfl rfl
theorem dX5_becomeRow_27 : decode cX5_becomeRow 27 = .ok (.iload_n 3, 1) := D_29 yB_cX5_becomeRow rfl rfl
theorem dX5_becomeRow_28 : decode cX5_becomeRow 28 = .ok (.iconst 0, 1) := D_3 yB_cX5_becomeRow rfl rfl
theorem dX5_becomeRow_29 : decode cX5_becomeRow 29 = .ok (.iastore, 1) := D_79 yB_cX5_becomeRow rfl rfl
theorem dX5_becomeRow_30 : decode cX5_becomeRow 30 = .ok (.iinc 3 1, 3) := D_132 yB_cX5_becomeRow rfl rfl rfl (sg_p (m := 128) (N := 1) rfl rfl rfl)
theorem dX5_becomeRow_33 : decode cX5_becomeRow 33 = .ok (.goto (-16), 3) := D_167 yB_cX5_becomeRow rfl rfl (sg_n (m := 32768) (N := 16) rfl rfl rfl)
theorem dX5_becomeRow_36 : decode cX5_becomeRow 36 = .ok (.return_, 1) := D_177 yB_cX5_becomeRow rfl rfl
def F_X5_becomeRow_17 (d : Nat) (x1 : Int32) (x2 : Int32)  : Nat → Mem → Int32 → Option (Mem)
  | 0, _, _ => none
  | nn + 1, σ, v3 => if 100 ≤ v3 then (some σ) else ((ix 100 v3).bind fun k_3 => F_X5_becomeRow_17 d x1 x2 nn (stm σ (76 + d) k_3 0) (v3 + 1))
def F_X5_becomeRow (σ : Mem) (d : Nat) (x1 : Int32) (x2 : Int32) : Option (Mem) := F_X5_becomeRow_17 d x1 x2 FU (stm (stm (stm σ (68 + d) 0 2) (68 + d) 3 x1) (68 + d) 4 x2) 0
set_option maxHeartbeats 4000000 in
set_option maxRecDepth 100000 in
theorem c_X5_becomeRow (l : Launch) (D : va_G) (cA : Nat → ClassId) (ad : Nat → Nat) (o : Int64) (σ : Mem) (d : Nat) (x1 : Int32) (x2 : Int32) (hd : d < 8) (res : Mem) (h : F_X5_becomeRow σ d x1 x2 = some res) (sz : Nat) : Met l yX5_becomeRow (WY yX5_becomeRow cX5_becomeRow 4 none) (RM 0) (va_Pc [.ref (ad (68 + d)), .int x1, .int x2] (PW D cA ad o σ sz)) (va_Qv (fun σ9 => σ9 = res) (QW D cA ad o) (FA ad sz)) 0 0 (FA ad sz) := by
  refine ct_of (own := RX5) (k := 0) (Qf := va_Qv (fun σ9 => σ9 = res) (QW D cA ad o)) rfl (by decide) (Nat.le_of_ble_eq_true rfl) (fun p e s m below meth c ls C0 X hr hlk hP hl => ?_) sz
  have hS : va_S (FA ad s.heap.size) s.heap s.heap [] := va_S.rf
  have hl : lv_has ls 4 [(0, .ref (ad (68 + d))), (1, .int x1), (2, .int x2)] := hl
  obtain ⟨hx, hb, hml, hown, hts⟩ := id C0
  unfold F_X5_becomeRow at h
  refine lv_aload_n hx hb dX5_becomeRow_0 rfl (lv_at hl 0 rfl) ?_
  refine lv_iconst (v := 2) hx hb dX5_becomeRow_1 (by decide) ?_
  refine pf_X5_15 C0 X hP hS (68 + d) (kdS d hd) dX5_becomeRow_2 (fun H locs hP hS => ?_)
  refine lv_aload_n hx hb dX5_becomeRow_5 rfl (lv_at hl 0 rfl) ?_
  refine lv_iload_n hx hb dX5_becomeRow_6 rfl (lv_at hl 1 rfl) ?_
  refine pf_X5_19 C0 X hP hS (68 + d) (kdS d hd) dX5_becomeRow_7 (fun H locs hP hS => ?_)
  refine lv_aload_n hx hb dX5_becomeRow_10 rfl (lv_at hl 0 rfl) ?_
  refine lv_iload_n hx hb dX5_becomeRow_11 rfl (lv_at hl 2 rfl) ?_
  refine pf_X5_22 C0 X hP hS (68 + d) (kdS d hd) dX5_becomeRow_12 (fun H locs hP hS => ?_)
  refine lv_iconst (v := 0) hx hb dX5_becomeRow_15 (by decide) ?_
  refine lv_istore_n (lv' := [(3, .int 0), (0, .ref (ad (68 + d))), (1, .int x1), (2, .int x2)]) hx hb dX5_becomeRow_16 rfl hl (by decide) rfl (fun ls hl => ?_)
  have lp_1 : ∀ (nn17 : Nat) (σ : Mem) (v3 : Int32) (H : Heap) (locs : List Loc) (ls : Array Slot), F_X5_becomeRow_17 d x1 x2 nn17 σ v3 = some res → WP D cA ad o σ H → va_S (FA ad s.heap.size) s.heap H locs → lv_has ls 4 [(3, .int v3), (0, .ref (ad (68 + d))), (1, .int x1), (2, .int x2)] → W p l e (RM 0) s m ([.ref (ad (68 + d)), .int x1, .int x2] : List Value).toArray below meth c H locs 0 0 (MQ below (va_Qv (fun σ9 => σ9 = res) (QW D cA ad o) (FA ad s.heap.size)) ([.ref (ad (68 + d)), .int x1, .int x2] : List Value).toArray s 0 0 (FA ad s.heap.size)) (F0 m 17 ls []) := by
    intro nn17
    induction nn17 with
    | zero => intro σ v3 H locs ls h hP hS hl; exact absurd (show none = some res from h) nofun
    | succ nn17 ih17 =>
      intro σ v3 H locs ls h hP hS hl
      replace h := (F_X5_becomeRow_17.eq_2 _ _ _ _ _ _).symm.trans h
      refine lv_iload_n hx hb dX5_becomeRow_17 rfl (lv_at hl 0 rfl) ?_
      refine lv_bipush (v := 100) hx hb dX5_becomeRow_18 (by decide) ?_
      refine lv_icmp_ge (tgt := 36) hx hb dX5_becomeRow_20 (by decide) (fun c_2 => ?_) (fun c_2 => ?_)
      · replace h := it_t h c_2
        exact r_vret C0 X hP hS hr hlk dX5_becomeRow_36 (Option.some.inj h)
      · replace h := it_f h c_2
        refine lv_aload_n hx hb dX5_becomeRow_23 rfl (lv_at hl 1 rfl) ?_
        refine gf_X5_9 C0 X hP (68 + d) (q := (76 + d)) (kdS d hd) (by omega) (lkS5 d hd) dX5_becomeRow_24 ?_
        refine lv_iload_n hx hb dX5_becomeRow_27 rfl (lv_at hl 0 rfl) ?_
        refine lv_iconst (v := 0) hx hb dX5_becomeRow_28 (by decide) ?_
        obtain ⟨k_3, ek_3, h⟩ := bnd h
        replace ek_3 := ix_s ek_3 (by decide)
        refine r_iastN C0 X hP hS (76 + d) (k := k_3) (kdV d hd) ek_3.1 ek_3.2 dX5_becomeRow_29 (fun H locs hP hS => ?_)
        refine lv_iinc (v := (v3 + 1)) (lv' := [(3, .int (v3 + 1)), (0, .ref (ad (68 + d))), (1, .int x1), (2, .int x2)]) hx hb dX5_becomeRow_30 hl (k := 0) rfl rfl (by decide) rfl (fun ls hl => ?_)
        refine lv_goto (tgt := 17) hx hb dX5_becomeRow_33 (by decide) ?_
        exact ih17 (stm σ (76 + d) k_3 0) (v3 + 1) _ _ ls  h hP hS (lv_sub hl [0, 1, 2, 3] rfl)
  exact lp_1 FU (stm (stm (stm σ (68 + d) 0 2) (68 + d) 3 x1) (68 + d) 4 x2) 0 _ _ ls  h hP hS (lv_sub hl [0, 1, 2, 3] rfl)
def bB_cX5_holdsBytes : Nat := 0xac030400a70407009a1300b42a0e00a0050f00b42a
theorem yB_cX5_holdsBytes : BYS cX5_holdsBytes 21 bB_cX5_holdsBytes := BYS_of (by decide +kernel)
theorem dX5_holdsBytes_0 : decode cX5_holdsBytes 0 = .ok (.aload_n 0, 1) := D_42 yB_cX5_holdsBytes rfl rfl
theorem dX5_holdsBytes_1 : decode cX5_holdsBytes 1 = .ok (.getfield 15, 3) := D_180 yB_cX5_holdsBytes rfl rfl rfl
theorem dX5_holdsBytes_4 : decode cX5_holdsBytes 4 = .ok (.iconst 2, 1) := D_5 yB_cX5_holdsBytes rfl rfl
theorem dX5_holdsBytes_5 : decode cX5_holdsBytes 5 = .ok (.if_icmp .ne 14, 3) := D_160 yB_cX5_holdsBytes rfl rfl (sg_p (m := 32768) (N := 14) rfl rfl rfl)
theorem dX5_holdsBytes_8 : decode cX5_holdsBytes 8 = .ok (.aload_n 0, 1) := D_42 yB_cX5_holdsBytes rfl rfl
theorem dX5_holdsBytes_9 : decode cX5_holdsBytes 9 = .ok (.getfield 19, 3) := D_180 yB_cX5_holdsBytes rfl rfl rfl
theorem dX5_holdsBytes_12 : decode cX5_holdsBytes 12 = .ok (.ifCond .ne 7, 3) := D_154 yB_cX5_holdsBytes rfl rfl (sg_p (m := 32768) (N := 7) rfl rfl rfl)
theorem dX5_holdsBytes_15 : decode cX5_holdsBytes 15 = .ok (.iconst 1, 1) := D_4 yB_cX5_holdsBytes rfl rfl
theorem dX5_holdsBytes_16 : decode cX5_holdsBytes 16 = .ok (.goto 4, 3) := D_167 yB_cX5_holdsBytes rfl rfl (sg_p (m := 32768) (N := 4) rfl rfl rfl)
theorem dX5_holdsBytes_19 : decode cX5_holdsBytes 19 = .ok (.iconst 0, 1) := D_3 yB_cX5_holdsBytes rfl rfl
theorem dX5_holdsBytes_20 : decode cX5_holdsBytes 20 = .ok (.ireturn, 1) := D_172 yB_cX5_holdsBytes rfl rfl
def F_X5_holdsBytes (σ : Mem) (d : Nat) : Option (Int32) := if (σ (68 + d) 0) = 2 then (if (σ (68 + d) 3) = 0 then (some 1) else (some 0)) else (some 0)
set_option maxHeartbeats 4000000 in
set_option maxRecDepth 100000 in
theorem c_X5_holdsBytes (l : Launch) (D : va_G) (cA : Nat → ClassId) (ad : Nat → Nat) (o : Int64) (σ : Mem) (d : Nat) (hd : d < 8) (res : Int32) (h : F_X5_holdsBytes σ d = some res) (sz : Nat) : Met l yX5_holdsBytes (WY yX5_holdsBytes cX5_holdsBytes 1 (some .boolean)) (RM 0) (va_Pc [.ref (ad (68 + d))] (PW D cA ad o σ sz)) (va_Qi (fun r σ9 => r = res ∧ σ9 = σ) (QW D cA ad o) (FA ad sz)) 0 0 (FA ad sz) := by
  refine ct_of (own := RX5) (k := 0) (Qf := va_Qi (fun r σ9 => r = res ∧ σ9 = σ) (QW D cA ad o)) rfl (by decide) (Nat.le_of_ble_eq_true rfl) (fun p e s m below meth c ls C0 X hr hlk hP hl => ?_) sz
  have hS : va_S (FA ad s.heap.size) s.heap s.heap [] := va_S.rf
  have hl : lv_has ls 1 [(0, .ref (ad (68 + d)))] := hl
  obtain ⟨hx, hb, hml, hown, hts⟩ := id C0
  unfold F_X5_holdsBytes at h
  refine lv_aload_n hx hb dX5_holdsBytes_0 rfl (lv_at hl 0 rfl) ?_
  refine gf_X5_15 C0 X hP (68 + d) (kdS d hd) dX5_holdsBytes_1 ?_
  refine lv_iconst (v := 2) hx hb dX5_holdsBytes_4 (by decide) ?_
  refine lv_icmp_ne (tgt := 19) hx hb dX5_holdsBytes_5 (by decide) (fun c_1 => ?_) (fun c_1 => ?_)
  · replace h := it_f h c_1
    refine lv_iconst (v := 0) hx hb dX5_holdsBytes_19 (by decide) ?_
    exact r_zret C0 X hP hS hr hlk dX5_holdsBytes_20 (Or.inl rfl) ⟨Option.some.inj h, rfl⟩
  · replace h := it_t h c_1
    refine lv_aload_n hx hb dX5_holdsBytes_8 rfl (lv_at hl 0 rfl) ?_
    refine gf_X5_19 C0 X hP (68 + d) (kdS d hd) dX5_holdsBytes_9 ?_
    refine lv_if_ne (tgt := 19) hx hb dX5_holdsBytes_12 (by decide) (fun c_2 => ?_) (fun c_2 => ?_)
    · replace h := it_f h c_2
      refine lv_iconst (v := 0) hx hb dX5_holdsBytes_19 (by decide) ?_
      exact r_zret C0 X hP hS hr hlk dX5_holdsBytes_20 (Or.inl rfl) ⟨Option.some.inj h, rfl⟩
    · replace h := it_t h c_2
      refine lv_iconst (v := 1) hx hb dX5_holdsBytes_15 (by decide) ?_
      refine lv_goto (tgt := 20) hx hb dX5_holdsBytes_16 (by decide) ?_
      exact r_zret C0 X hP hS hr hlk dX5_holdsBytes_20 (Or.inr rfl) ⟨Option.some.inj h, rfl⟩
def bB_cX5_hasElement : Nat := 0xac030400a7040700a264101b0d00a21600b42a1b15009b1b
theorem yB_cX5_hasElement : BYS cX5_hasElement 24 bB_cX5_hasElement := BYS_of (by decide +kernel)
theorem dX5_hasElement_0 : decode cX5_hasElement 0 = .ok (.iload_n 1, 1) := D_27 yB_cX5_hasElement rfl rfl
theorem dX5_hasElement_1 : decode cX5_hasElement 1 = .ok (.ifCond .lt 21, 3) := D_155 yB_cX5_hasElement rfl rfl (sg_p (m := 32768) (N := 21) rfl rfl rfl)
theorem dX5_hasElement_4 : decode cX5_hasElement 4 = .ok (.iload_n 1, 1) := D_27 yB_cX5_hasElement rfl rfl
theorem dX5_hasElement_5 : decode cX5_hasElement 5 = .ok (.aload_n 0, 1) := D_42 yB_cX5_hasElement rfl rfl
theorem dX5_hasElement_6 : decode cX5_hasElement 6 = .ok (.getfield 22, 3) := D_180 yB_cX5_hasElement rfl rfl rfl
theorem dX5_hasElement_9 : decode cX5_hasElement 9 = .ok (.if_icmp .ge 13, 3) := D_162 yB_cX5_hasElement rfl rfl (sg_p (m := 32768) (N := 13) rfl rfl rfl)
theorem dX5_hasElement_12 : decode cX5_hasElement 12 = .ok (.iload_n 1, 1) := D_27 yB_cX5_hasElement rfl rfl
theorem dX5_hasElement_13 : decode cX5_hasElement 13 = .ok (.bipush 100, 2) := D_16 yB_cX5_hasElement rfl rfl (sg_p (m := 128) (N := 100) rfl rfl rfl)
theorem dX5_hasElement_15 : decode cX5_hasElement 15 = .ok (.if_icmp .ge 7, 3) := D_162 yB_cX5_hasElement rfl rfl (sg_p (m := 32768) (N := 7) rfl rfl rfl)
theorem dX5_hasElement_18 : decode cX5_hasElement 18 = .ok (.iconst 1, 1) := D_4 yB_cX5_hasElement rfl rfl
theorem dX5_hasElement_19 : decode cX5_hasElement 19 = .ok (.goto 4, 3) := D_167 yB_cX5_hasElement rfl rfl (sg_p (m := 32768) (N := 4) rfl rfl rfl)
theorem dX5_hasElement_22 : decode cX5_hasElement 22 = .ok (.iconst 0, 1) := D_3 yB_cX5_hasElement rfl rfl
theorem dX5_hasElement_23 : decode cX5_hasElement 23 = .ok (.ireturn, 1) := D_172 yB_cX5_hasElement rfl rfl
def F_X5_hasElement (σ : Mem) (d : Nat) (x1 : Int32) : Option (Int32) := if x1 < 0 then (some 0) else (if (σ (68 + d) 4) ≤ x1 then (some 0) else (if 100 ≤ x1 then (some 0) else (some 1)))
set_option maxHeartbeats 4000000 in
set_option maxRecDepth 100000 in
theorem c_X5_hasElement (l : Launch) (D : va_G) (cA : Nat → ClassId) (ad : Nat → Nat) (o : Int64) (σ : Mem) (d : Nat) (x1 : Int32) (hd : d < 8) (res : Int32) (h : F_X5_hasElement σ d x1 = some res) (sz : Nat) : Met l yX5_hasElement (WY yX5_hasElement cX5_hasElement 2 (some .boolean)) (RM 0) (va_Pc [.ref (ad (68 + d)), .int x1] (PW D cA ad o σ sz)) (va_Qi (fun r σ9 => r = res ∧ σ9 = σ) (QW D cA ad o) (FA ad sz)) 0 0 (FA ad sz) := by
  refine ct_of (own := RX5) (k := 0) (Qf := va_Qi (fun r σ9 => r = res ∧ σ9 = σ) (QW D cA ad o)) rfl (by decide) (Nat.le_of_ble_eq_true rfl) (fun p e s m below meth c ls C0 X hr hlk hP hl => ?_) sz
  have hS : va_S (FA ad s.heap.size) s.heap s.heap [] := va_S.rf
  have hl : lv_has ls 2 [(0, .ref (ad (68 + d))), (1, .int x1)] := hl
  obtain ⟨hx, hb, hml, hown, hts⟩ := id C0
  unfold F_X5_hasElement at h
  refine lv_iload_n hx hb dX5_hasElement_0 rfl (lv_at hl 1 rfl) ?_
  refine lv_if_lt (tgt := 22) hx hb dX5_hasElement_1 (by decide) (fun c_1 => ?_) (fun c_1 => ?_)
  · replace h := it_t h c_1
    refine lv_iconst (v := 0) hx hb dX5_hasElement_22 (by decide) ?_
    exact r_zret C0 X hP hS hr hlk dX5_hasElement_23 (Or.inl rfl) ⟨Option.some.inj h, rfl⟩
  · replace h := it_f h c_1
    refine lv_iload_n hx hb dX5_hasElement_4 rfl (lv_at hl 1 rfl) ?_
    refine lv_aload_n hx hb dX5_hasElement_5 rfl (lv_at hl 0 rfl) ?_
    refine gf_X5_22 C0 X hP (68 + d) (kdS d hd) dX5_hasElement_6 ?_
    refine lv_icmp_ge (tgt := 22) hx hb dX5_hasElement_9 (by decide) (fun c_2 => ?_) (fun c_2 => ?_)
    · replace h := it_t h c_2
      refine lv_iconst (v := 0) hx hb dX5_hasElement_22 (by decide) ?_
      exact r_zret C0 X hP hS hr hlk dX5_hasElement_23 (Or.inl rfl) ⟨Option.some.inj h, rfl⟩
    · replace h := it_f h c_2
      refine lv_iload_n hx hb dX5_hasElement_12 rfl (lv_at hl 1 rfl) ?_
      refine lv_bipush (v := 100) hx hb dX5_hasElement_13 (by decide) ?_
      refine lv_icmp_ge (tgt := 22) hx hb dX5_hasElement_15 (by decide) (fun c_3 => ?_) (fun c_3 => ?_)
      · replace h := it_t h c_3
        refine lv_iconst (v := 0) hx hb dX5_hasElement_22 (by decide) ?_
        exact r_zret C0 X hP hS hr hlk dX5_hasElement_23 (Or.inl rfl) ⟨Option.some.inj h, rfl⟩
      · replace h := it_f h c_3
        refine lv_iconst (v := 1) hx hb dX5_hasElement_18 (by decide) ?_
        refine lv_goto (tgt := 23) hx hb dX5_hasElement_19 (by decide) ?_
        exact r_zret C0 X hP hS hr hlk dX5_hasElement_23 (Or.inr rfl) ⟨Option.some.inj h, rfl⟩
def bB_cX5_hasElements : Nat := 0xac030400a7040700a3641c1600b42a1b1100a31600b42a1c19009b1c1d009b1b
theorem yB_cX5_hasElements : BYS cX5_hasElements 32 bB_cX5_hasElements := BYS_of (by decide +kernel)
theorem dX5_hasElements_0 : decode cX5_hasElements 0 = .ok (.iload_n 1, 1) := D_27 yB_cX5_hasElements rfl rfl
theorem dX5_hasElements_1 : decode cX5_hasElements 1 = .ok (.ifCond .lt 29, 3) := D_155 yB_cX5_hasElements rfl rfl (sg_p (m := 32768) (N := 29) rfl rfl rfl)
theorem dX5_hasElements_4 : decode cX5_hasElements 4 = .ok (.iload_n 2, 1) := D_28 yB_cX5_hasElements rfl rfl
theorem dX5_hasElements_5 : decode cX5_hasElements 5 = .ok (.ifCond .lt 25, 3) := D_155 yB_cX5_hasElements rfl rfl (sg_p (m := 32768) (N := 25) rfl rfl rfl)
theorem dX5_hasElements_8 : decode cX5_hasElements 8 = .ok (.iload_n 2, 1) := D_28 yB_cX5_hasElements rfl rfl
theorem dX5_hasElements_9 : decode cX5_hasElements 9 = .ok (.aload_n 0, 1) := D_42 yB_cX5_hasElements rfl rfl
theorem dX5_hasElements_10 : decode cX5_hasElements 10 = .ok (.getfield 22, 3) := D_180 yB_cX5_hasElements rfl rfl rfl
theorem dX5_hasElements_13 : decode cX5_hasElements 13 = .ok (.if_icmp .gt 17, 3) := D_163 yB_cX5_hasElements rfl rfl (sg_p (m := 32768) (N := 17) rfl rfl rfl)
theorem dX5_hasElements_16 : decode cX5_hasElements 16 = .ok (.iload_n 1, 1) := D_27 yB_cX5_hasElements rfl rfl
theorem dX5_hasElements_17 : decode cX5_hasElements 17 = .ok (.aload_n 0, 1) := D_42 yB_cX5_hasElements rfl rfl
theorem dX5_hasElements_18 : decode cX5_hasElements 18 = .ok (.getfield 22, 3) := D_180 yB_cX5_hasElements rfl rfl rfl
theorem dX5_hasElements_21 : decode cX5_hasElements 21 = .ok (.iload_n 2, 1) := D_28 yB_cX5_hasElements rfl rfl
theorem dX5_hasElements_22 : decode cX5_hasElements 22 = .ok (.isub, 1) := D_100 yB_cX5_hasElements rfl rfl
theorem dX5_hasElements_23 : decode cX5_hasElements 23 = .ok (.if_icmp .gt 7, 3) := D_163 yB_cX5_hasElements rfl rfl (sg_p (m := 32768) (N := 7) rfl rfl rfl)
theorem dX5_hasElements_26 : decode cX5_hasElements 26 = .ok (.iconst 1, 1) := D_4 yB_cX5_hasElements rfl rfl
theorem dX5_hasElements_27 : decode cX5_hasElements 27 = .ok (.goto 4, 3) := D_167 yB_cX5_hasElements rfl rfl (sg_p (m := 32768) (N := 4) rfl rfl rfl)
theorem dX5_hasElements_30 : decode cX5_hasElements 30 = .ok (.iconst 0, 1) := D_3 yB_cX5_hasElements rfl rfl
theorem dX5_hasElements_31 : decode cX5_hasElements 31 = .ok (.ireturn, 1) := D_172 yB_cX5_hasElements rfl rfl
def F_X5_hasElements (σ : Mem) (d : Nat) (x1 : Int32) (x2 : Int32) : Option (Int32) := if x1 < 0 then (some 0) else (if x2 < 0 then (some 0) else (if (σ (68 + d) 4) < x2 then (some 0) else (if ((σ (68 + d) 4) - x2) < x1 then (some 0) else (some 1))))
set_option maxHeartbeats 4000000 in
set_option maxRecDepth 100000 in
theorem c_X5_hasElements (l : Launch) (D : va_G) (cA : Nat → ClassId) (ad : Nat → Nat) (o : Int64) (σ : Mem) (d : Nat) (x1 : Int32) (x2 : Int32) (hd : d < 8) (res : Int32) (h : F_X5_hasElements σ d x1 x2 = some res) (sz : Nat) : Met l yX5_hasElements (WY yX5_hasElements cX5_hasElements 3 (some .boolean)) (RM 0) (va_Pc [.ref (ad (68 + d)), .int x1, .int x2] (PW D cA ad o σ sz)) (va_Qi (fun r σ9 => r = res ∧ σ9 = σ) (QW D cA ad o) (FA ad sz)) 0 0 (FA ad sz) := by
  refine ct_of (own := RX5) (k := 0) (Qf := va_Qi (fun r σ9 => r = res ∧ σ9 = σ) (QW D cA ad o)) rfl (by decide) (Nat.le_of_ble_eq_true rfl) (fun p e s m below meth c ls C0 X hr hlk hP hl => ?_) sz
  have hS : va_S (FA ad s.heap.size) s.heap s.heap [] := va_S.rf
  have hl : lv_has ls 3 [(0, .ref (ad (68 + d))), (1, .int x1), (2, .int x2)] := hl
  obtain ⟨hx, hb, hml, hown, hts⟩ := id C0
  unfold F_X5_hasElements at h
  refine lv_iload_n hx hb dX5_hasElements_0 rfl (lv_at hl 1 rfl) ?_
  refine lv_if_lt (tgt := 30) hx hb dX5_hasElements_1 (by decide) (fun c_1 => ?_) (fun c_1 => ?_)
  · replace h := it_t h c_1
    refine lv_iconst (v := 0) hx hb dX5_hasElements_30 (by decide) ?_
    exact r_zret C0 X hP hS hr hlk dX5_hasElements_31 (Or.inl rfl) ⟨Option.some.inj h, rfl⟩
  · replace h := it_f h c_1
    refine lv_iload_n hx hb dX5_hasElements_4 rfl (lv_at hl 2 rfl) ?_
    refine lv_if_lt (tgt := 30) hx hb dX5_hasElements_5 (by decide) (fun c_2 => ?_) (fun c_2 => ?_)
    · replace h := it_t h c_2
      refine lv_iconst (v := 0) hx hb dX5_hasElements_30 (by decide) ?_
      exact r_zret C0 X hP hS hr hlk dX5_hasElements_31 (Or.inl rfl) ⟨Option.some.inj h, rfl⟩
    · replace h := it_f h c_2
      refine lv_iload_n hx hb dX5_hasElements_8 rfl (lv_at hl 2 rfl) ?_
      refine lv_aload_n hx hb dX5_hasElements_9 rfl (lv_at hl 0 rfl) ?_
      refine gf_X5_22 C0 X hP (68 + d) (kdS d hd) dX5_hasElements_10 ?_
      refine lv_icmp_gt (tgt := 30) hx hb dX5_hasElements_13 (by decide) (fun c_3 => ?_) (fun c_3 => ?_)
      · replace h := it_t h c_3
        refine lv_iconst (v := 0) hx hb dX5_hasElements_30 (by decide) ?_
        exact r_zret C0 X hP hS hr hlk dX5_hasElements_31 (Or.inl rfl) ⟨Option.some.inj h, rfl⟩
      · replace h := it_f h c_3
        refine lv_iload_n hx hb dX5_hasElements_16 rfl (lv_at hl 1 rfl) ?_
        refine lv_aload_n hx hb dX5_hasElements_17 rfl (lv_at hl 0 rfl) ?_
        refine gf_X5_22 C0 X hP (68 + d) (kdS d hd) dX5_hasElements_18 ?_
        refine lv_iload_n hx hb dX5_hasElements_21 rfl (lv_at hl 2 rfl) ?_
        refine lv_isub hx hb dX5_hasElements_22 ?_
        refine lv_icmp_gt (tgt := 30) hx hb dX5_hasElements_23 (by decide) (fun c_4 => ?_) (fun c_4 => ?_)
        · replace h := it_t h c_4
          refine lv_iconst (v := 0) hx hb dX5_hasElements_30 (by decide) ?_
          exact r_zret C0 X hP hS hr hlk dX5_hasElements_31 (Or.inl rfl) ⟨Option.some.inj h, rfl⟩
        · replace h := it_f h c_4
          refine lv_iconst (v := 1) hx hb dX5_hasElements_26 (by decide) ?_
          refine lv_goto (tgt := 31) hx hb dX5_hasElements_27 (by decide) ?_
          exact r_zret C0 X hP hS hr hlk dX5_hasElements_31 (Or.inr rfl) ⟨Option.some.inj h, rfl⟩
def bB_cX5_isWithin : Nat := 0xac04d9ffa7010384ac030500a41c2e1d0900b42a0d00a11b2e1d0900b42a1f00a264101d2500a21600b42a1d3e03
theorem yB_cX5_isWithin : BYS cX5_isWithin 46 bB_cX5_isWithin := BYS_of (by decide +kernel)
theorem dX5_isWithin_0 : decode cX5_isWithin 0 = .ok (.iconst 0, 1) := D_3 yB_cX5_isWithin rfl rfl
theorem dX5_isWithin_1 : decode cX5_isWithin 1 = .ok (.istore_n 3, 1) := D_62 yB_cX5_isWithin rfl rfl
theorem dX5_isWithin_2 : decode cX5_isWithin 2 = .ok (.iload_n 3, 1) := D_29 yB_cX5_isWithin rfl rfl
theorem dX5_isWithin_3 : decode cX5_isWithin 3 = .ok (.aload_n 0, 1) := D_42 yB_cX5_isWithin rfl rfl
theorem dX5_isWithin_4 : decode cX5_isWithin 4 = .ok (.getfield 22, 3) := D_180 yB_cX5_isWithin rfl rfl rfl
theorem dX5_isWithin_7 : decode cX5_isWithin 7 = .ok (.if_icmp .ge 37, 3) := D_162 yB_cX5_isWithin rfl rfl (sg_p (m := 32768) (N := 37) rfl rfl rfl)
theorem dX5_isWithin_10 : decode cX5_isWithin 10 = .ok (.iload_n 3, 1) := D_29 yB_cX5_isWithin rfl rfl
theorem dX5_isWithin_11 : decode cX5_isWithin 11 = .ok (.bipush 100, 2) := D_16 yB_cX5_isWithin rfl rfl (sg_p (m := 128) (N := 100) rfl rfl rfl)
theorem dX5_isWithin_13 : decode cX5_isWithin 13 = .ok (.if_icmp .ge 31, 3) := D_162 yB_cX5_isWithin rfl rfl (sg_p (m := 32768) (N := 31) rfl rfl rfl)
theorem dX5_isWithin_16 : decode cX5_isWithin 16 = .ok (.aload_n 0, 1) := D_42 yB_cX5_isWithin rfl rfl
theorem dX5_isWithin_17 : decode cX5_isWithin 17 = .ok (.getfield 9, 3) := D_180 yB_cX5_isWithin rfl rfl rfl
theorem dX5_isWithin_20 : decode cX5_isWithin 20 = .ok (.iload_n 3, 1) := D_29 yB_cX5_isWithin rfl rfl
theorem dX5_isWithin_21 : decode cX5_isWithin 21 = .ok (.iaload, 1) := D_46 yB_cX5_isWithin rfl rfl
theorem dX5_isWithin_22 : decode cX5_isWithin 22 = .ok (.iload_n 1, 1) := D_27 yB_cX5_isWithin rfl rfl
theorem dX5_isWithin_23 : decode cX5_isWithin 23 = .ok (.if_icmp .lt 13, 3) := D_161 yB_cX5_isWithin rfl rfl (sg_p (m := 32768) (N := 13) rfl rfl rfl)
theorem dX5_isWithin_26 : decode cX5_isWithin 26 = .ok (.aload_n 0, 1) := D_42 yB_cX5_isWithin rfl rfl
theorem dX5_isWithin_27 : decode cX5_isWithin 27 = .ok (.getfield 9, 3) := D_180 yB_cX5_isWithin rfl rfl rfl
theorem dX5_isWithin_30 : decode cX5_isWithin 30 = .ok (.iload_n 3, 1) := D_29 yB_cX5_isWithin rfl rfl
theorem dX5_isWithin_31 : decode cX5_isWithin 31 = .ok (.iaload, 1) := D_46 yB_cX5_isWithin rfl rfl
theorem dX5_isWithin_32 : decode cX5_isWithin 32 = .ok (.iload_n 2, 1) := D_28 yB_cX5_isWithin rfl rfl
theorem dX5_isWithin_33 : decode cX5_isWithin 33 = .ok (.if_icmp .le 5, 3) := D_164 yB_cX5_isWithin rfl rfl (sg_p (m := 32768) (N := 5) rfl rfl rfl)
theorem dX5_isWithin_36 : decode cX5_isWithin 36 = .ok (.iconst 0, 1) := D_3 yB_cX5_isWithin rfl rfl
theorem dX5_isWithin_37 : decode cX5_isWithin 37 = .ok (.ireturn, 1) := D_172 yB_cX5_isWithin rfl rfl
theorem dX5_isWithin_38 : decode cX5_isWithin 38 = .ok (.iinc 3 1, 3) := D_132 yB_cX5_isWithin rfl rfl rfl (sg_p (m := 128) (N := 1) rfl rfl rfl)
theorem dX5_isWithin_41 : decode cX5_isWithin 41 = .ok (.goto (-39), 3) := D_167 yB_cX5_isWithin rfl rfl (sg_n (m := 32768) (N := 39) rfl rfl rfl)
theorem dX5_isWithin_44 : decode cX5_isWithin 44 = .ok (.iconst 1, 1) := D_4 yB_cX5_isWithin rfl rfl
theorem dX5_isWithin_45 : decode cX5_isWithin 45 = .ok (.ireturn, 1) := D_172 yB_cX5_isWithin rfl rfl
def F_X5_isWithin_2 (σ : Mem) (d : Nat) (x1 : Int32) (x2 : Int32)  : Nat → Int32 → Option (Int32)
  | 0, _ => none
  | nn + 1, v3 => if (σ (68 + d) 4) ≤ v3 then (some 1) else (if 100 ≤ v3 then (some 1) else ((ix 100 v3).bind fun k_4 => if (σ (76 + d) k_4) < x1 then (some 0) else ((ix 100 v3).bind fun k_6 => if (σ (76 + d) k_6) ≤ x2 then (F_X5_isWithin_2 σ d x1 x2 nn (v3 + 1)) else (some 0))))
def F_X5_isWithin (σ : Mem) (d : Nat) (x1 : Int32) (x2 : Int32) : Option (Int32) := F_X5_isWithin_2 σ d x1 x2 FU 0
set_option maxHeartbeats 4000000 in
set_option maxRecDepth 100000 in
theorem c_X5_isWithin (l : Launch) (D : va_G) (cA : Nat → ClassId) (ad : Nat → Nat) (o : Int64) (σ : Mem) (d : Nat) (x1 : Int32) (x2 : Int32) (hd : d < 8) (res : Int32) (h : F_X5_isWithin σ d x1 x2 = some res) (sz : Nat) : Met l yX5_isWithin (WY yX5_isWithin cX5_isWithin 4 (some .boolean)) (RM 0) (va_Pc [.ref (ad (68 + d)), .int x1, .int x2] (PW D cA ad o σ sz)) (va_Qi (fun r σ9 => r = res ∧ σ9 = σ) (QW D cA ad o) (FA ad sz)) 0 0 (FA ad sz) := by
  refine ct_of (own := RX5) (k := 0) (Qf := va_Qi (fun r σ9 => r = res ∧ σ9 = σ) (QW D cA ad o)) rfl (by decide) (Nat.le_of_ble_eq_true rfl) (fun p e s m below meth c ls C0 X hr hlk hP hl => ?_) sz
  have hS : va_S (FA ad s.heap.size) s.heap s.heap [] := va_S.rf
  have hl : lv_has ls 4 [(0, .ref (ad (68 + d))), (1, .int x1), (2, .int x2)] := hl
  obtain ⟨hx, hb, hml, hown, hts⟩ := id C0
  unfold F_X5_isWithin at h
  refine lv_iconst (v := 0) hx hb dX5_isWithin_0 (by decide) ?_
  refine lv_istore_n (lv' := [(3, .int 0), (0, .ref (ad (68 + d))), (1, .int x1), (2, .int x2)]) hx hb dX5_isWithin_1 rfl hl (by decide) rfl (fun ls hl => ?_)
  have lp_1 : ∀ (nn2 : Nat) (v3 : Int32) (H : Heap) (locs : List Loc) (ls : Array Slot), F_X5_isWithin_2 σ d x1 x2 nn2 v3 = some res → WP D cA ad o σ H → va_S (FA ad s.heap.size) s.heap H locs → lv_has ls 4 [(3, .int v3), (0, .ref (ad (68 + d))), (1, .int x1), (2, .int x2)] → W p l e (RM 0) s m ([.ref (ad (68 + d)), .int x1, .int x2] : List Value).toArray below meth c H locs 0 0 (MQ below (va_Qi (fun r σ9 => r = res ∧ σ9 = σ) (QW D cA ad o) (FA ad s.heap.size)) ([.ref (ad (68 + d)), .int x1, .int x2] : List Value).toArray s 0 0 (FA ad s.heap.size)) (F0 m 2 ls []) := by
    intro nn2
    induction nn2 with
    | zero => intro v3 H locs ls h hP hS hl; exact absurd (show none = some res from h) nofun
    | succ nn2 ih2 =>
      intro v3 H locs ls h hP hS hl
      replace h := (F_X5_isWithin_2.eq_2 _ _ _ _ _ _).symm.trans h
      refine lv_iload_n hx hb dX5_isWithin_2 rfl (lv_at hl 0 rfl) ?_
      refine lv_aload_n hx hb dX5_isWithin_3 rfl (lv_at hl 1 rfl) ?_
      refine gf_X5_22 C0 X hP (68 + d) (kdS d hd) dX5_isWithin_4 ?_
      refine lv_icmp_ge (tgt := 44) hx hb dX5_isWithin_7 (by decide) (fun c_2 => ?_) (fun c_2 => ?_)
      · replace h := it_t h c_2
        refine lv_iconst (v := 1) hx hb dX5_isWithin_44 (by decide) ?_
        exact r_zret C0 X hP hS hr hlk dX5_isWithin_45 (Or.inr rfl) ⟨Option.some.inj h, rfl⟩
      · replace h := it_f h c_2
        refine lv_iload_n hx hb dX5_isWithin_10 rfl (lv_at hl 0 rfl) ?_
        refine lv_bipush (v := 100) hx hb dX5_isWithin_11 (by decide) ?_
        refine lv_icmp_ge (tgt := 44) hx hb dX5_isWithin_13 (by decide) (fun c_3 => ?_) (fun c_3 => ?_)
        · replace h := it_t h c_3
          refine lv_iconst (v := 1) hx hb dX5_isWithin_44 (by decide) ?_
          exact r_zret C0 X hP hS hr hlk dX5_isWithin_45 (Or.inr rfl) ⟨Option.some.inj h, rfl⟩
        · replace h := it_f h c_3
          refine lv_aload_n hx hb dX5_isWithin_16 rfl (lv_at hl 1 rfl) ?_
          refine gf_X5_9 C0 X hP (68 + d) (q := (76 + d)) (kdS d hd) (by omega) (lkS5 d hd) dX5_isWithin_17 ?_
          refine lv_iload_n hx hb dX5_isWithin_20 rfl (lv_at hl 0 rfl) ?_
          obtain ⟨k_4, ek_4, h⟩ := bnd h
          replace ek_4 := ix_s ek_4 (by decide)
          refine r_ialdN C0 X hP (76 + d) (k := k_4) (kdV d hd) ek_4.1 ek_4.2 dX5_isWithin_21 ?_
          refine lv_iload_n hx hb dX5_isWithin_22 rfl (lv_at hl 2 rfl) ?_
          refine lv_icmp_lt (tgt := 36) hx hb dX5_isWithin_23 (by decide) (fun c_5 => ?_) (fun c_5 => ?_)
          · replace h := it_t h c_5
            refine lv_iconst (v := 0) hx hb dX5_isWithin_36 (by decide) ?_
            exact r_zret C0 X hP hS hr hlk dX5_isWithin_37 (Or.inl rfl) ⟨Option.some.inj h, rfl⟩
          · replace h := it_f h c_5
            refine lv_aload_n hx hb dX5_isWithin_26 rfl (lv_at hl 1 rfl) ?_
            refine gf_X5_9 C0 X hP (68 + d) (q := (76 + d)) (kdS d hd) (by omega) (lkS5 d hd) dX5_isWithin_27 ?_
            refine lv_iload_n hx hb dX5_isWithin_30 rfl (lv_at hl 0 rfl) ?_
            obtain ⟨k_6, ek_6, h⟩ := bnd h
            replace ek_6 := ix_s ek_6 (by decide)
            refine r_ialdN C0 X hP (76 + d) (k := k_6) (kdV d hd) ek_6.1 ek_6.2 dX5_isWithin_31 ?_
            refine lv_iload_n hx hb dX5_isWithin_32 rfl (lv_at hl 3 rfl) ?_
            refine lv_icmp_le (tgt := 38) hx hb dX5_isWithin_33 (by decide) (fun c_7 => ?_) (fun c_7 => ?_)
            · replace h := it_t h c_7
              refine lv_iinc (v := (v3 + 1)) (lv' := [(3, .int (v3 + 1)), (0, .ref (ad (68 + d))), (1, .int x1), (2, .int x2)]) hx hb dX5_isWithin_38 hl (k := 0) rfl rfl (by decide) rfl (fun ls hl => ?_)
              refine lv_goto (tgt := 2) hx hb dX5_isWithin_41 (by decide) ?_
              exact ih2 (v3 + 1) _ _ ls  h hP hS (lv_sub hl [0, 1, 2, 3] rfl)
            · replace h := it_f h c_7
              refine lv_iconst (v := 0) hx hb dX5_isWithin_36 (by decide) ?_
              exact r_zret C0 X hP hS hr hlk dX5_isWithin_37 (Or.inl rfl) ⟨Option.some.inj h, rfl⟩
  exact lp_1 FU 0 _ _ ls  h hP hS (lv_sub hl [0, 1, 2, 3] rfl)
def bB_cX5_lowestBits : Nat := 0xac1bac931b0600a0041300b42aac911b06009a1300b42a
theorem yB_cX5_lowestBits : BYS cX5_lowestBits 23 bB_cX5_lowestBits := BYS_of (by decide +kernel)
theorem dX5_lowestBits_0 : decode cX5_lowestBits 0 = .ok (.aload_n 0, 1) := D_42 yB_cX5_lowestBits rfl rfl
theorem dX5_lowestBits_1 : decode cX5_lowestBits 1 = .ok (.getfield 19, 3) := D_180 yB_cX5_lowestBits rfl rfl rfl
theorem dX5_lowestBits_4 : decode cX5_lowestBits 4 = .ok (.ifCond .ne 6, 3) := D_154 yB_cX5_lowestBits rfl rfl (sg_p (m := 32768) (N := 6) rfl rfl rfl)
theorem dX5_lowestBits_7 : decode cX5_lowestBits 7 = .ok (.iload_n 1, 1) := D_27 yB_cX5_lowestBits rfl rfl
theorem dX5_lowestBits_8 : decode cX5_lowestBits 8 = .ok (.i2b, 1) := D_145 yB_cX5_lowestBits rfl rfl
theorem dX5_lowestBits_9 : decode cX5_lowestBits 9 = .ok (.ireturn, 1) := D_172 yB_cX5_lowestBits rfl rfl
theorem dX5_lowestBits_10 : decode cX5_lowestBits 10 = .ok (.aload_n 0, 1) := D_42 yB_cX5_lowestBits rfl rfl
theorem dX5_lowestBits_11 : decode cX5_lowestBits 11 = .ok (.getfield 19, 3) := D_180 yB_cX5_lowestBits rfl rfl rfl
theorem dX5_lowestBits_14 : decode cX5_lowestBits 14 = .ok (.iconst 1, 1) := D_4 yB_cX5_lowestBits rfl rfl
theorem dX5_lowestBits_15 : decode cX5_lowestBits 15 = .ok (.if_icmp .ne 6, 3) := D_160 yB_cX5_lowestBits rfl rfl (sg_p (m := 32768) (N := 6) rfl rfl rfl)
theorem dX5_lowestBits_18 : decode cX5_lowestBits 18 = .ok (.iload_n 1, 1) := D_27 yB_cX5_lowestBits rfl rfl
theorem dX5_lowestBits_19 : decode cX5_lowestBits 19 = .ok (.i2s, 1) := D_147 yB_cX5_lowestBits rfl rfl
theorem dX5_lowestBits_20 : decode cX5_lowestBits 20 = .ok (.ireturn, 1) := D_172 yB_cX5_lowestBits rfl rfl
theorem dX5_lowestBits_21 : decode cX5_lowestBits 21 = .ok (.iload_n 1, 1) := D_27 yB_cX5_lowestBits rfl rfl
theorem dX5_lowestBits_22 : decode cX5_lowestBits 22 = .ok (.ireturn, 1) := D_172 yB_cX5_lowestBits rfl rfl
def F_X5_lowestBits (σ : Mem) (d : Nat) (x1 : Int32) : Option (Int32) := if (σ (68 + d) 3) = 0 then (some x1.toInt8.toInt32) else (if (σ (68 + d) 3) = 1 then (some x1.toInt16.toInt32) else (some x1))
set_option maxHeartbeats 4000000 in
set_option maxRecDepth 100000 in
theorem c_X5_lowestBits (l : Launch) (D : va_G) (cA : Nat → ClassId) (ad : Nat → Nat) (o : Int64) (σ : Mem) (d : Nat) (x1 : Int32) (hd : d < 8) (res : Int32) (h : F_X5_lowestBits σ d x1 = some res) (sz : Nat) : Met l yX5_lowestBits (WY yX5_lowestBits cX5_lowestBits 2 (some .int)) (RM 0) (va_Pc [.ref (ad (68 + d)), .int x1] (PW D cA ad o σ sz)) (va_Qi (fun r σ9 => r = res ∧ σ9 = σ) (QW D cA ad o) (FA ad sz)) 0 0 (FA ad sz) := by
  refine ct_of (own := RX5) (k := 0) (Qf := va_Qi (fun r σ9 => r = res ∧ σ9 = σ) (QW D cA ad o)) rfl (by decide) (Nat.le_of_ble_eq_true rfl) (fun p e s m below meth c ls C0 X hr hlk hP hl => ?_) sz
  have hS : va_S (FA ad s.heap.size) s.heap s.heap [] := va_S.rf
  have hl : lv_has ls 2 [(0, .ref (ad (68 + d))), (1, .int x1)] := hl
  obtain ⟨hx, hb, hml, hown, hts⟩ := id C0
  unfold F_X5_lowestBits at h
  refine lv_aload_n hx hb dX5_lowestBits_0 rfl (lv_at hl 0 rfl) ?_
  refine gf_X5_19 C0 X hP (68 + d) (kdS d hd) dX5_lowestBits_1 ?_
  refine lv_if_ne (tgt := 10) hx hb dX5_lowestBits_4 (by decide) (fun c_1 => ?_) (fun c_1 => ?_)
  · replace h := it_f h c_1
    refine lv_aload_n hx hb dX5_lowestBits_10 rfl (lv_at hl 0 rfl) ?_
    refine gf_X5_19 C0 X hP (68 + d) (kdS d hd) dX5_lowestBits_11 ?_
    refine lv_iconst (v := 1) hx hb dX5_lowestBits_14 (by decide) ?_
    refine lv_icmp_ne (tgt := 21) hx hb dX5_lowestBits_15 (by decide) (fun c_2 => ?_) (fun c_2 => ?_)
    · replace h := it_f h c_2
      refine lv_iload_n hx hb dX5_lowestBits_21 rfl (lv_at hl 1 rfl) ?_
      exact r_iret C0 X hP hS hr hlk dX5_lowestBits_22 ⟨Option.some.inj h, rfl⟩
    · replace h := it_t h c_2
      refine lv_iload_n hx hb dX5_lowestBits_18 rfl (lv_at hl 1 rfl) ?_
      refine lv_i2s (v := x1.toInt16.toInt32) hx hb dX5_lowestBits_19 rfl ?_
      exact r_iret C0 X hP hS hr hlk dX5_lowestBits_20 ⟨Option.some.inj h, rfl⟩
  · replace h := it_t h c_1
    refine lv_iload_n hx hb dX5_lowestBits_7 rfl (lv_at hl 1 rfl) ?_
    refine lv_i2b (v := x1.toInt8.toInt32) hx hb dX5_lowestBits_8 rfl ?_
    exact r_iret C0 X hP hS hr hlk dX5_lowestBits_9 ⟨Option.some.inj h, rfl⟩
def bB_cX5_leastNumber : Nat := 0xac1912ac0080110700a0041300b42aac801006009a1300b42a
theorem yB_cX5_leastNumber : BYS cX5_leastNumber 25 bB_cX5_leastNumber := BYS_of (by decide +kernel)
theorem dX5_leastNumber_0 : decode cX5_leastNumber 0 = .ok (.aload_n 0, 1) := D_42 yB_cX5_leastNumber rfl rfl
theorem dX5_leastNumber_1 : decode cX5_leastNumber 1 = .ok (.getfield 19, 3) := D_180 yB_cX5_leastNumber rfl rfl rfl
theorem dX5_leastNumber_4 : decode cX5_leastNumber 4 = .ok (.ifCond .ne 6, 3) := D_154 yB_cX5_leastNumber rfl rfl (sg_p (m := 32768) (N := 6) rfl rfl rfl)
theorem dX5_leastNumber_7 : decode cX5_leastNumber 7 = .ok (.bipush (-128), 2) := D_16 yB_cX5_leastNumber rfl rfl (sg_n (m := 128) (N := 128) rfl rfl rfl)
theorem dX5_leastNumber_9 : decode cX5_leastNumber 9 = .ok (.ireturn, 1) := D_172 yB_cX5_leastNumber rfl rfl
theorem dX5_leastNumber_10 : decode cX5_leastNumber 10 = .ok (.aload_n 0, 1) := D_42 yB_cX5_leastNumber rfl rfl
theorem dX5_leastNumber_11 : decode cX5_leastNumber 11 = .ok (.getfield 19, 3) := D_180 yB_cX5_leastNumber rfl rfl rfl
theorem dX5_leastNumber_14 : decode cX5_leastNumber 14 = .ok (.iconst 1, 1) := D_4 yB_cX5_leastNumber rfl rfl
theorem dX5_leastNumber_15 : decode cX5_leastNumber 15 = .ok (.if_icmp .ne 7, 3) := D_160 yB_cX5_leastNumber rfl rfl (sg_p (m := 32768) (N := 7) rfl rfl rfl)
theorem dX5_leastNumber_18 : decode cX5_leastNumber 18 = .ok (.sipush (-32768), 3) := D_17 yB_cX5_leastNumber rfl rfl (sg_n (m := 32768) (N := 32768) rfl rfl rfl)
theorem dX5_leastNumber_21 : decode cX5_leastNumber 21 = .ok (.ireturn, 1) := D_172 yB_cX5_leastNumber rfl rfl
theorem dX5_leastNumber_22 : decode cX5_leastNumber 22 = .ok (.ldc 25, 2) := D_18 yB_cX5_leastNumber rfl rfl rfl
theorem dX5_leastNumber_24 : decode cX5_leastNumber 24 = .ok (.ireturn, 1) := D_172 yB_cX5_leastNumber rfl rfl
def F_X5_leastNumber (σ : Mem) (d : Nat) : Option (Int32) := if (σ (68 + d) 3) = 0 then (some (-128)) else (if (σ (68 + d) 3) = 1 then (some (-32768)) else (some (-2147483648)))
set_option maxHeartbeats 4000000 in
set_option maxRecDepth 100000 in
theorem c_X5_leastNumber (l : Launch) (D : va_G) (cA : Nat → ClassId) (ad : Nat → Nat) (o : Int64) (σ : Mem) (d : Nat) (hd : d < 8) (res : Int32) (h : F_X5_leastNumber σ d = some res) (sz : Nat) : Met l yX5_leastNumber (WY yX5_leastNumber cX5_leastNumber 1 (some .int)) (RM 0) (va_Pc [.ref (ad (68 + d))] (PW D cA ad o σ sz)) (va_Qi (fun r σ9 => r = res ∧ σ9 = σ) (QW D cA ad o) (FA ad sz)) 0 0 (FA ad sz) := by
  refine ct_of (own := RX5) (k := 0) (Qf := va_Qi (fun r σ9 => r = res ∧ σ9 = σ) (QW D cA ad o)) rfl (by decide) (Nat.le_of_ble_eq_true rfl) (fun p e s m below meth c ls C0 X hr hlk hP hl => ?_) sz
  have hS : va_S (FA ad s.heap.size) s.heap s.heap [] := va_S.rf
  have hl : lv_has ls 1 [(0, .ref (ad (68 + d)))] := hl
  obtain ⟨hx, hb, hml, hown, hts⟩ := id C0
  unfold F_X5_leastNumber at h
  refine lv_aload_n hx hb dX5_leastNumber_0 rfl (lv_at hl 0 rfl) ?_
  refine gf_X5_19 C0 X hP (68 + d) (kdS d hd) dX5_leastNumber_1 ?_
  refine lv_if_ne (tgt := 10) hx hb dX5_leastNumber_4 (by decide) (fun c_1 => ?_) (fun c_1 => ?_)
  · replace h := it_f h c_1
    refine lv_aload_n hx hb dX5_leastNumber_10 rfl (lv_at hl 0 rfl) ?_
    refine gf_X5_19 C0 X hP (68 + d) (kdS d hd) dX5_leastNumber_11 ?_
    refine lv_iconst (v := 1) hx hb dX5_leastNumber_14 (by decide) ?_
    refine lv_icmp_ne (tgt := 22) hx hb dX5_leastNumber_15 (by decide) (fun c_2 => ?_) (fun c_2 => ?_)
    · replace h := it_f h c_2
      refine lv_ldc (own := RX5) (index := 25) (v := (-2147483648)) hx hb hown (hts _ (tmc sb3_11 4 rfl (by decide +kernel))) dX5_leastNumber_22 ?_
      exact r_iret C0 X hP hS hr hlk dX5_leastNumber_24 ⟨Option.some.inj h, rfl⟩
    · replace h := it_t h c_2
      refine lv_sipush (v := (-32768)) hx hb dX5_leastNumber_18 (by decide) ?_
      exact r_iret C0 X hP hS hr hlk dX5_leastNumber_21 ⟨Option.some.inj h, rfl⟩
  · replace h := it_t h c_1
    refine lv_bipush (v := (-128)) hx hb dX5_leastNumber_7 (by decide) ?_
    exact r_iret C0 X hP hS hr hlk dX5_leastNumber_9 ⟨Option.some.inj h, rfl⟩
def bB_cX3_next : Nat := 0xac030400a72e1200b42a4e00b40c00b42a1200a264101200b42a1b00a21a00b40c00b42a1200b42a29009b1200b42a
theorem yB_cX3_next : BYS cX3_next 47 bB_cX3_next := BYS_of (by decide +kernel)
theorem dX3_next_0 : decode cX3_next 0 = .ok (.aload_n 0, 1) := D_42 yB_cX3_next rfl rfl
theorem dX3_next_1 : decode cX3_next 1 = .ok (.getfield 18, 3) := D_180 yB_cX3_next rfl rfl rfl
theorem dX3_next_4 : decode cX3_next 4 = .ok (.ifCond .lt 41, 3) := D_155 yB_cX3_next rfl rfl (sg_p (m := 32768) (N := 41) rfl rfl rfl)
theorem dX3_next_7 : decode cX3_next 7 = .ok (.aload_n 0, 1) := D_42 yB_cX3_next rfl rfl
theorem dX3_next_8 : decode cX3_next 8 = .ok (.getfield 18, 3) := D_180 yB_cX3_next rfl rfl rfl
theorem dX3_next_11 : decode cX3_next 11 = .ok (.aload_n 0, 1) := D_42 yB_cX3_next rfl rfl
theorem dX3_next_12 : decode cX3_next 12 = .ok (.getfield 12, 3) := D_180 yB_cX3_next rfl rfl rfl
theorem dX3_next_15 : decode cX3_next 15 = .ok (.getfield 26, 3) := D_180 yB_cX3_next rfl rfl rfl
theorem dX3_next_18 : decode cX3_next 18 = .ok (.if_icmp .ge 27, 3) := D_162 yB_cX3_next rfl rfl (sg_p (m := 32768) (N := 27) rfl rfl rfl)
theorem dX3_next_21 : decode cX3_next 21 = .ok (.aload_n 0, 1) := D_42 yB_cX3_next rfl rfl
theorem dX3_next_22 : decode cX3_next 22 = .ok (.getfield 18, 3) := D_180 yB_cX3_next rfl rfl rfl
theorem dX3_next_25 : decode cX3_next 25 = .ok (.bipush 100, 2) := D_16 yB_cX3_next rfl rfl (sg_p (m := 128) (N := 100) rfl rfl rfl)
theorem dX3_next_27 : decode cX3_next 27 = .ok (.if_icmp .ge 18, 3) := D_162 yB_cX3_next rfl rfl (sg_p (m := 32768) (N := 18) rfl rfl rfl)
theorem dX3_next_30 : decode cX3_next 30 = .ok (.aload_n 0, 1) := D_42 yB_cX3_next rfl rfl
theorem dX3_next_31 : decode cX3_next 31 = .ok (.getfield 12, 3) := D_180 yB_cX3_next rfl rfl rfl
theorem dX3_next_34 : decode cX3_next 34 = .ok (.getfield 78, 3) := D_180 yB_cX3_next rfl rfl rfl
theorem dX3_next_37 : decode cX3_next 37 = .ok (.aload_n 0, 1) := D_42 yB_cX3_next rfl rfl
theorem dX3_next_38 : decode cX3_next 38 = .ok (.getfield 18, 3) := D_180 yB_cX3_next rfl rfl rfl
theorem dX3_next_41 : decode cX3_next 41 = .ok (.iaload, 1) := D_46 yB_cX3_next rfl rfl
theorem dX3_next_42 : decode cX3_next 42 = .ok (.goto 4, 3) := D_167 yB_cX3_next rfl rfl (sg_p (m := 32768) (N := 4) rfl rfl rfl)
theorem dX3_next_45 : decode cX3_next 45 = .ok (.iconst 0, 1) := D_3 yB_cX3_next rfl rfl
theorem dX3_next_46 : decode cX3_next 46 = .ok (.ireturn, 1) := D_172 yB_cX3_next rfl rfl
def F_X3_next (σ : Mem)  : Option (Int32) := if (σ 85 1) < 0 then (some 0) else ((tx σ).bind fun d_2 => if (σ (68 + d_2) 4) ≤ (σ 85 1) then (some 0) else (if 100 ≤ (σ 85 1) then (some 0) else ((tx σ).bind fun d_5 => (ix 100 (σ 85 1)).bind fun k_6 => some (σ (76 + d_5) k_6))))
set_option maxHeartbeats 4000000 in
set_option maxRecDepth 100000 in
theorem c_X3_next (l : Launch) (D : va_G) (cA : Nat → ClassId) (ad : Nat → Nat) (o : Int64) (σ : Mem)   (res : Int32) (h : F_X3_next σ  = some res) (sz : Nat) : Met l yX3_next (WY yX3_next cX3_next 1 (some .int)) (RM 0) (va_Pc [.ref (ad 85)] (PW D cA ad o σ sz)) (va_Qi (fun r σ9 => r = res ∧ σ9 = σ) (QW D cA ad o) (FA ad sz)) 0 0 (FA ad sz) := by
  refine ct_of (own := RX3) (k := 0) (Qf := va_Qi (fun r σ9 => r = res ∧ σ9 = σ) (QW D cA ad o)) rfl (by decide) (Nat.le_of_ble_eq_true rfl) (fun p e s m below meth c ls C0 X hr hlk hP hl => ?_) sz
  have hS : va_S (FA ad s.heap.size) s.heap s.heap [] := va_S.rf
  have hl : lv_has ls 1 [(0, .ref (ad 85))] := hl
  obtain ⟨hx, hb, hml, hown, hts⟩ := id C0
  unfold F_X3_next at h
  refine lv_aload_n hx hb dX3_next_0 rfl (lv_at hl 0 rfl) ?_
  refine gf_X3_18 C0 X hP 85 ⟨by decide, rfl⟩ dX3_next_1 ?_
  refine lv_if_lt (tgt := 45) hx hb dX3_next_4 (by decide) (fun c_1 => ?_) (fun c_1 => ?_)
  · replace h := it_t h c_1
    refine lv_iconst (v := 0) hx hb dX3_next_45 (by decide) ?_
    exact r_iret C0 X hP hS hr hlk dX3_next_46 ⟨Option.some.inj h, rfl⟩
  · replace h := it_f h c_1
    refine lv_aload_n hx hb dX3_next_7 rfl (lv_at hl 0 rfl) ?_
    refine gf_X3_18 C0 X hP 85 ⟨by decide, rfl⟩ dX3_next_8 ?_
    refine lv_aload_n hx hb dX3_next_11 rfl (lv_at hl 0 rfl) ?_
    obtain ⟨d_2, ed_2, h⟩ := bnd h
    replace ed_2 := tx_s ed_2
    refine r_get85 C0 X hP (q := 68 + d_2) ed_2.1 (by have := ed_2.2; omega) dX3_next_12 ?_
    refine gf_X3_26 C0 X hP (68 + d_2) (kdS d_2 ed_2.2) dX3_next_15 ?_
    refine lv_icmp_ge (tgt := 45) hx hb dX3_next_18 (by decide) (fun c_3 => ?_) (fun c_3 => ?_)
    · replace h := it_t h c_3
      refine lv_iconst (v := 0) hx hb dX3_next_45 (by decide) ?_
      exact r_iret C0 X hP hS hr hlk dX3_next_46 ⟨Option.some.inj h, rfl⟩
    · replace h := it_f h c_3
      refine lv_aload_n hx hb dX3_next_21 rfl (lv_at hl 0 rfl) ?_
      refine gf_X3_18 C0 X hP 85 ⟨by decide, rfl⟩ dX3_next_22 ?_
      refine lv_bipush (v := 100) hx hb dX3_next_25 (by decide) ?_
      refine lv_icmp_ge (tgt := 45) hx hb dX3_next_27 (by decide) (fun c_4 => ?_) (fun c_4 => ?_)
      · replace h := it_t h c_4
        refine lv_iconst (v := 0) hx hb dX3_next_45 (by decide) ?_
        exact r_iret C0 X hP hS hr hlk dX3_next_46 ⟨Option.some.inj h, rfl⟩
      · replace h := it_f h c_4
        refine lv_aload_n hx hb dX3_next_30 rfl (lv_at hl 0 rfl) ?_
        obtain ⟨d_5, ed_5, h⟩ := bnd h
        replace ed_5 := tx_s ed_5
        refine r_get85 C0 X hP (q := 68 + d_5) ed_5.1 (by have := ed_5.2; omega) dX3_next_31 ?_
        refine gf_X3_78 C0 X hP (68 + d_5) (q := (76 + d_5)) (kdS d_5 ed_5.2) (by omega) (lkS5 d_5 ed_5.2) dX3_next_34 ?_
        refine lv_aload_n hx hb dX3_next_37 rfl (lv_at hl 0 rfl) ?_
        refine gf_X3_18 C0 X hP 85 ⟨by decide, rfl⟩ dX3_next_38 ?_
        obtain ⟨k_6, ek_6, h⟩ := bnd h
        replace ek_6 := ix_s ek_6 (by decide)
        refine r_ialdN C0 X hP (76 + d_5) (k := k_6) (kdV d_5 ed_5.2) ek_6.1 ek_6.2 dX3_next_41 ?_
        refine lv_goto (tgt := 46) hx hb dX3_next_42 (by decide) ?_
        exact r_iret C0 X hP hS hr hlk dX3_next_46 ⟨Option.some.inj h, rfl⟩
def bB_cX3_skips : Nat := 0xac041200b560041200b4592aac0305009f1b2400b62a0b009a1600b42a
theorem yB_cX3_skips : BYS cX3_skips 29 bB_cX3_skips := BYS_of (by decide +kernel)
theorem dX3_skips_0 : decode cX3_skips 0 = .ok (.aload_n 0, 1) := D_42 yB_cX3_skips rfl rfl
theorem dX3_skips_1 : decode cX3_skips 1 = .ok (.getfield 22, 3) := D_180 yB_cX3_skips rfl rfl rfl
theorem dX3_skips_4 : decode cX3_skips 4 = .ok (.ifCond .ne 11, 3) := D_154 yB_cX3_skips rfl rfl (sg_p (m := 32768) (N := 11) rfl rfl rfl)
theorem dX3_skips_7 : decode cX3_skips 7 = .ok (.aload_n 0, 1) := D_42 yB_cX3_skips rfl rfl
theorem dX3_skips_8 : decode cX3_skips 8 = .ok (.invokevirtual 36, 3) := D_182 yB_cX3_skips rfl rfl rfl
theorem dX3_skips_11 : decode cX3_skips 11 = .ok (.iload_n 1, 1) := D_27 yB_cX3_skips rfl rfl
theorem dX3_skips_12 : decode cX3_skips 12 = .ok (.if_icmp .eq 5, 3) := D_159 yB_cX3_skips rfl rfl (sg_p (m := 32768) (N := 5) rfl rfl rfl)
theorem dX3_skips_15 : decode cX3_skips 15 = .ok (.iconst 0, 1) := D_3 yB_cX3_skips rfl rfl
theorem dX3_skips_16 : decode cX3_skips 16 = .ok (.ireturn, 1) := D_172 yB_cX3_skips rfl rfl
theorem dX3_skips_17 : decode cX3_skips 17 = .ok (.aload_n 0, 1) := D_42 yB_cX3_skips rfl rfl
theorem dX3_skips_18 : decode cX3_skips 18 = .ok (.dup, 1) := D_89 yB_cX3_skips rfl rfl
theorem dX3_skips_19 : decode cX3_skips 19 = .ok (.getfield 18, 3) := D_180 yB_cX3_skips rfl rfl rfl
theorem dX3_skips_22 : decode cX3_skips 22 = .ok (.iconst 1, 1) := D_4 yB_cX3_skips rfl rfl
theorem dX3_skips_23 : decode cX3_skips 23 = .ok (.iadd, 1) := D_96 yB_cX3_skips rfl rfl
theorem dX3_skips_24 : decode cX3_skips 24 = .ok (.putfield 18, 3) := D_181 yB_cX3_skips rfl rfl rfl
theorem dX3_skips_27 : decode cX3_skips 27 = .ok (.iconst 1, 1) := D_4 yB_cX3_skips rfl rfl
theorem dX3_skips_28 : decode cX3_skips 28 = .ok (.ireturn, 1) := D_172 yB_cX3_skips rfl rfl
def F_X3_skips (σ : Mem) (x1 : Int32) : Option (Mem × Int32) := if (σ 85 2) = 0 then ((F_X3_next σ ).bind fun r_2 => if r_2 = x1 then (some ((stm σ 85 1 ((σ 85 1) + 1)), 1)) else (some (σ, 0))) else (some (σ, 0))
set_option maxHeartbeats 4000000 in
set_option maxRecDepth 100000 in
theorem c_X3_skips (l : Launch) (D : va_G) (cA : Nat → ClassId) (ad : Nat → Nat) (o : Int64) (σ : Mem) (x1 : Int32)  (res : Mem × Int32) (h : F_X3_skips σ x1 = some res) (sz : Nat) : Met l yX3_skips (WY yX3_skips cX3_skips 2 (some .boolean)) (RM 1) (va_Pc [.ref (ad 85), .int x1] (PW D cA ad o σ sz)) (va_Qi (fun r σ9 => r = res.2 ∧ σ9 = res.1) (QW D cA ad o) (FA ad sz)) 0 0 (FA ad sz) := by
  refine ct_of (own := RX3) (k := 1) (Qf := va_Qi (fun r σ9 => r = res.2 ∧ σ9 = res.1) (QW D cA ad o)) rfl (by decide) (Nat.le_of_ble_eq_true rfl) (fun p e s m below meth c ls C0 X hr hlk hP hl => ?_) sz
  have hS : va_S (FA ad s.heap.size) s.heap s.heap [] := va_S.rf
  have hl : lv_has ls 2 [(0, .ref (ad 85)), (1, .int x1)] := hl
  obtain ⟨hx, hb, hml, hown, hts⟩ := id C0
  unfold F_X3_skips at h
  refine lv_aload_n hx hb dX3_skips_0 rfl (lv_at hl 0 rfl) ?_
  refine gf_X3_22 C0 X hP 85 ⟨by decide, rfl⟩ dX3_skips_1 ?_
  refine lv_if_ne (tgt := 15) hx hb dX3_skips_4 (by decide) (fun c_1 => ?_) (fun c_1 => ?_)
  · replace h := it_f h c_1
    refine lv_iconst (v := 0) hx hb dX3_skips_15 (by decide) ?_
    exact r_zret C0 X hP hS hr hlk dX3_skips_16 (Or.inl rfl) (rt2 h)
  · replace h := it_t h c_1
    refine lv_aload_n hx hb dX3_skips_7 rfl (lv_at hl 0 rfl) ?_
    obtain ⟨r_2, er_2, h⟩ := bnd h
    refine r_ci X hS (r_runV (As := []) (rest := []) C0 X hP L_X3_36 (fun sz => c_X3_next l D cA ad o σ   r_2 er_2 sz) (show 85 < 106 ∧ kd 85 = (3, 8) from ⟨by decide, rfl⟩).1 (show 85 < 106 ∧ kd 85 = (3, 8) from ⟨by decide, rfl⟩).2 (by decide) rfl ⟨Nat.le_of_ble_eq_true rfl, Nat.le_of_ble_eq_true rfl⟩ rfl hl.1 rfl (Nat.le_of_ble_eq_true rfl) dX3_skips_8 ⟨Nat.zero_le _, Nat.zero_le _⟩) (fun r9 σ9 H locs hw hP hS => ?_)
    rw [hw.2] at hP
    rw [hw.1]
    refine lv_iload_n hx hb dX3_skips_11 rfl (lv_at hl 1 rfl) ?_
    refine lv_icmp_eq (tgt := 17) hx hb dX3_skips_12 (by decide) (fun c_3 => ?_) (fun c_3 => ?_)
    · replace h := it_t h c_3
      refine lv_aload_n hx hb dX3_skips_17 rfl (lv_at hl 0 rfl) ?_
      refine lv_dup hx hb dX3_skips_18 rfl ?_
      refine gf_X3_18 C0 X hP 85 ⟨by decide, rfl⟩ dX3_skips_19 ?_
      refine lv_iconst (v := 1) hx hb dX3_skips_22 (by decide) ?_
      refine lv_iadd hx hb dX3_skips_23 ?_
      refine pf_X3_18 C0 X hP hS 85 ⟨by decide, rfl⟩ dX3_skips_24 (fun H locs hP hS => ?_)
      refine lv_iconst (v := 1) hx hb dX3_skips_27 (by decide) ?_
      exact r_zret C0 X hP hS hr hlk dX3_skips_28 (Or.inr rfl) (rt2 h)
    · replace h := it_f h c_3
      refine lv_iconst (v := 0) hx hb dX3_skips_15 (by decide) ?_
      exact r_zret C0 X hP hS hr hlk dX3_skips_16 (Or.inl rfl) (rt2 h)
def bB_cX3_want : Nat := 0xb11600b5042a08009a4700b61b2a
theorem yB_cX3_want : BYS cX3_want 14 bB_cX3_want := BYS_of (by decide +kernel)
theorem dX3_want_0 : decode cX3_want 0 = .ok (.aload_n 0, 1) := D_42 yB_cX3_want rfl rfl
theorem dX3_want_1 : decode cX3_want 1 = .ok (.iload_n 1, 1) := D_27 yB_cX3_want rfl rfl
theorem dX3_want_2 : decode cX3_want 2 = .ok (.invokevirtual 71, 3) := D_182 yB_cX3_want rfl rfl rfl
theorem dX3_want_5 : decode cX3_want 5 = .ok (.ifCond .ne 8, 3) := D_154 yB_cX3_want rfl rfl (sg_p (m := 32768) (N := 8) rfl rfl rfl)
theorem dX3_want_8 : decode cX3_want 8 = .ok (.aload_n 0, 1) := D_42 yB_cX3_want rfl rfl
theorem dX3_want_9 : decode cX3_want 9 = .ok (.iconst 1, 1) := D_4 yB_cX3_want rfl rfl
theorem dX3_want_10 : decode cX3_want 10 = .ok (.putfield 22, 3) := D_181 yB_cX3_want rfl rfl rfl
theorem dX3_want_13 : decode cX3_want 13 = .ok (.return_, 1) := D_177 yB_cX3_want rfl rfl
def F_X3_want (σ : Mem) (x1 : Int32) : Option (Mem) := bd2 (F_X3_skips σ x1) fun σ_1 r_2 => if r_2 = 0 then (some (stm σ_1 85 2 1)) else (some σ_1)
set_option maxHeartbeats 4000000 in
set_option maxRecDepth 100000 in
theorem c_X3_want (l : Launch) (D : va_G) (cA : Nat → ClassId) (ad : Nat → Nat) (o : Int64) (σ : Mem) (x1 : Int32)  (res : Mem) (h : F_X3_want σ x1 = some res) (sz : Nat) : Met l yX3_want (WY yX3_want cX3_want 2 none) (RM 2) (va_Pc [.ref (ad 85), .int x1] (PW D cA ad o σ sz)) (va_Qv (fun σ9 => σ9 = res) (QW D cA ad o) (FA ad sz)) 0 0 (FA ad sz) := by
  refine ct_of (own := RX3) (k := 2) (Qf := va_Qv (fun σ9 => σ9 = res) (QW D cA ad o)) rfl (by decide) (Nat.le_of_ble_eq_true rfl) (fun p e s m below meth c ls C0 X hr hlk hP hl => ?_) sz
  have hS : va_S (FA ad s.heap.size) s.heap s.heap [] := va_S.rf
  have hl : lv_has ls 2 [(0, .ref (ad 85)), (1, .int x1)] := hl
  obtain ⟨hx, hb, hml, hown, hts⟩ := id C0
  unfold F_X3_want at h
  refine lv_aload_n hx hb dX3_want_0 rfl (lv_at hl 0 rfl) ?_
  refine lv_iload_n hx hb dX3_want_1 rfl (lv_at hl 1 rfl) ?_
  obtain ⟨σ_1, r_2, eσ_1, h⟩ := bnd2 h
  refine r_ci X hS (r_runV (As := [.int x1]) (rest := []) C0 X hP L_X3_71 (fun sz => c_X3_skips l D cA ad o σ x1  (σ_1, r_2) eσ_1 sz) (show 85 < 106 ∧ kd 85 = (3, 8) from ⟨by decide, rfl⟩).1 (show 85 < 106 ∧ kd 85 = (3, 8) from ⟨by decide, rfl⟩).2 (by decide) rfl ⟨Nat.le_of_ble_eq_true rfl, Nat.le_of_ble_eq_true rfl⟩ rfl hl.1 rfl (Nat.le_of_ble_eq_true rfl) dX3_want_2 ⟨Nat.zero_le _, Nat.zero_le _⟩) (fun r9 σ9 H locs hw hP hS => ?_)
  rw [show σ9 = σ_1 from hw.2] at hP
  rw [show r9 = r_2 from hw.1]
  refine lv_if_ne (tgt := 13) hx hb dX3_want_5 (by decide) (fun c_3 => ?_) (fun c_3 => ?_)
  · replace h := it_f h c_3
    exact r_vret C0 X hP hS hr hlk dX3_want_13 (Option.some.inj h)
  · replace h := it_t h c_3
    refine lv_aload_n hx hb dX3_want_8 rfl (lv_at hl 0 rfl) ?_
    refine lv_iconst (v := 1) hx hb dX3_want_9 (by decide) ?_
    refine pf_X3_22 C0 X hP hS 85 (Or.inr rfl) ⟨by decide, rfl⟩ dX3_want_10 (fun H locs hP hS => ?_)
    exact r_vret C0 X hP hS hr hlk dX3_want_13 (Option.some.inj h)
def bB_cX3_hasDigit : Nat := 0xac030400a7040700a339102400b62a1000a130102400b62a19009a1600b42a
theorem yB_cX3_hasDigit : BYS cX3_hasDigit 31 bB_cX3_hasDigit := BYS_of (by decide +kernel)
theorem dX3_hasDigit_0 : decode cX3_hasDigit 0 = .ok (.aload_n 0, 1) := D_42 yB_cX3_hasDigit rfl rfl
theorem dX3_hasDigit_1 : decode cX3_hasDigit 1 = .ok (.getfield 22, 3) := D_180 yB_cX3_hasDigit rfl rfl rfl
theorem dX3_hasDigit_4 : decode cX3_hasDigit 4 = .ok (.ifCond .ne 25, 3) := D_154 yB_cX3_hasDigit rfl rfl (sg_p (m := 32768) (N := 25) rfl rfl rfl)
theorem dX3_hasDigit_7 : decode cX3_hasDigit 7 = .ok (.aload_n 0, 1) := D_42 yB_cX3_hasDigit rfl rfl
theorem dX3_hasDigit_8 : decode cX3_hasDigit 8 = .ok (.invokevirtual 36, 3) := D_182 yB_cX3_hasDigit rfl rfl rfl
theorem dX3_hasDigit_11 : decode cX3_hasDigit 11 = .ok (.bipush 48, 2) := D_16 yB_cX3_hasDigit rfl rfl (sg_p (m := 128) (N := 48) rfl rfl rfl)
theorem dX3_hasDigit_13 : decode cX3_hasDigit 13 = .ok (.if_icmp .lt 16, 3) := D_161 yB_cX3_hasDigit rfl rfl (sg_p (m := 32768) (N := 16) rfl rfl rfl)
theorem dX3_hasDigit_16 : decode cX3_hasDigit 16 = .ok (.aload_n 0, 1) := D_42 yB_cX3_hasDigit rfl rfl
theorem dX3_hasDigit_17 : decode cX3_hasDigit 17 = .ok (.invokevirtual 36, 3) := D_182 yB_cX3_hasDigit rfl rfl rfl
theorem dX3_hasDigit_20 : decode cX3_hasDigit 20 = .ok (.bipush 57, 2) := D_16 yB_cX3_hasDigit rfl rfl (sg_p (m := 128) (N := 57) rfl rfl rfl)
theorem dX3_hasDigit_22 : decode cX3_hasDigit 22 = .ok (.if_icmp .gt 7, 3) := D_163 yB_cX3_hasDigit rfl rfl (sg_p (m := 32768) (N := 7) rfl rfl rfl)
theorem dX3_hasDigit_25 : decode cX3_hasDigit 25 = .ok (.iconst 1, 1) := D_4 yB_cX3_hasDigit rfl rfl
theorem dX3_hasDigit_26 : decode cX3_hasDigit 26 = .ok (.goto 4, 3) := D_167 yB_cX3_hasDigit rfl rfl (sg_p (m := 32768) (N := 4) rfl rfl rfl)
theorem dX3_hasDigit_29 : decode cX3_hasDigit 29 = .ok (.iconst 0, 1) := D_3 yB_cX3_hasDigit rfl rfl
theorem dX3_hasDigit_30 : decode cX3_hasDigit 30 = .ok (.ireturn, 1) := D_172 yB_cX3_hasDigit rfl rfl
def F_X3_hasDigit (σ : Mem)  : Option (Int32) := if (σ 85 2) = 0 then ((F_X3_next σ ).bind fun r_2 => if r_2 < 48 then (some 0) else ((F_X3_next σ ).bind fun r_4 => if 57 < r_4 then (some 0) else (some 1))) else (some 0)
set_option maxHeartbeats 4000000 in
set_option maxRecDepth 100000 in
theorem c_X3_hasDigit (l : Launch) (D : va_G) (cA : Nat → ClassId) (ad : Nat → Nat) (o : Int64) (σ : Mem)   (res : Int32) (h : F_X3_hasDigit σ  = some res) (sz : Nat) : Met l yX3_hasDigit (WY yX3_hasDigit cX3_hasDigit 1 (some .boolean)) (RM 1) (va_Pc [.ref (ad 85)] (PW D cA ad o σ sz)) (va_Qi (fun r σ9 => r = res ∧ σ9 = σ) (QW D cA ad o) (FA ad sz)) 0 0 (FA ad sz) := by
  refine ct_of (own := RX3) (k := 1) (Qf := va_Qi (fun r σ9 => r = res ∧ σ9 = σ) (QW D cA ad o)) rfl (by decide) (Nat.le_of_ble_eq_true rfl) (fun p e s m below meth c ls C0 X hr hlk hP hl => ?_) sz
  have hS : va_S (FA ad s.heap.size) s.heap s.heap [] := va_S.rf
  have hl : lv_has ls 1 [(0, .ref (ad 85))] := hl
  obtain ⟨hx, hb, hml, hown, hts⟩ := id C0
  unfold F_X3_hasDigit at h
  refine lv_aload_n hx hb dX3_hasDigit_0 rfl (lv_at hl 0 rfl) ?_
  refine gf_X3_22 C0 X hP 85 ⟨by decide, rfl⟩ dX3_hasDigit_1 ?_
  refine lv_if_ne (tgt := 29) hx hb dX3_hasDigit_4 (by decide) (fun c_1 => ?_) (fun c_1 => ?_)
  · replace h := it_f h c_1
    refine lv_iconst (v := 0) hx hb dX3_hasDigit_29 (by decide) ?_
    exact r_zret C0 X hP hS hr hlk dX3_hasDigit_30 (Or.inl rfl) ⟨Option.some.inj h, rfl⟩
  · replace h := it_t h c_1
    refine lv_aload_n hx hb dX3_hasDigit_7 rfl (lv_at hl 0 rfl) ?_
    obtain ⟨r_2, er_2, h⟩ := bnd h
    refine r_ci X hS (r_runV (As := []) (rest := []) C0 X hP L_X3_36 (fun sz => c_X3_next l D cA ad o σ   r_2 er_2 sz) (show 85 < 106 ∧ kd 85 = (3, 8) from ⟨by decide, rfl⟩).1 (show 85 < 106 ∧ kd 85 = (3, 8) from ⟨by decide, rfl⟩).2 (by decide) rfl ⟨Nat.le_of_ble_eq_true rfl, Nat.le_of_ble_eq_true rfl⟩ rfl hl.1 rfl (Nat.le_of_ble_eq_true rfl) dX3_hasDigit_8 ⟨Nat.zero_le _, Nat.zero_le _⟩) (fun r9 σ9 H locs hw hP hS => ?_)
    rw [hw.2] at hP
    rw [hw.1]
    refine lv_bipush (v := 48) hx hb dX3_hasDigit_11 (by decide) ?_
    refine lv_icmp_lt (tgt := 29) hx hb dX3_hasDigit_13 (by decide) (fun c_3 => ?_) (fun c_3 => ?_)
    · replace h := it_t h c_3
      refine lv_iconst (v := 0) hx hb dX3_hasDigit_29 (by decide) ?_
      exact r_zret C0 X hP hS hr hlk dX3_hasDigit_30 (Or.inl rfl) ⟨Option.some.inj h, rfl⟩
    · replace h := it_f h c_3
      refine lv_aload_n hx hb dX3_hasDigit_16 rfl (lv_at hl 0 rfl) ?_
      obtain ⟨r_4, er_4, h⟩ := bnd h
      refine r_ci X hS (r_runV (As := []) (rest := []) C0 X hP L_X3_36 (fun sz => c_X3_next l D cA ad o σ   r_4 er_4 sz) (show 85 < 106 ∧ kd 85 = (3, 8) from ⟨by decide, rfl⟩).1 (show 85 < 106 ∧ kd 85 = (3, 8) from ⟨by decide, rfl⟩).2 (by decide) rfl ⟨Nat.le_of_ble_eq_true rfl, Nat.le_of_ble_eq_true rfl⟩ rfl hl.1 rfl (Nat.le_of_ble_eq_true rfl) dX3_hasDigit_17 ⟨Nat.zero_le _, Nat.zero_le _⟩) (fun r9 σ9 H locs hw hP hS => ?_)
      rw [hw.2] at hP
      rw [hw.1]
      refine lv_bipush (v := 57) hx hb dX3_hasDigit_20 (by decide) ?_
      refine lv_icmp_gt (tgt := 29) hx hb dX3_hasDigit_22 (by decide) (fun c_5 => ?_) (fun c_5 => ?_)
      · replace h := it_t h c_5
        refine lv_iconst (v := 0) hx hb dX3_hasDigit_29 (by decide) ?_
        exact r_zret C0 X hP hS hr hlk dX3_hasDigit_30 (Or.inl rfl) ⟨Option.some.inj h, rfl⟩
      · replace h := it_f h c_5
        refine lv_iconst (v := 1) hx hb dX3_hasDigit_25 (by decide) ?_
        refine lv_goto (tgt := 30) hx hb dX3_hasDigit_26 (by decide) ?_
        exact r_zret C0 X hP hS hr hlk dX3_hasDigit_30 (Or.inr rfl) ⟨Option.some.inj h, rfl⟩
def bB_cX3_digit : Nat := 0xac6430101b1200b560041200b4592aac031600b5042a0a00a439101b0900a130101b0f009a1600b42a3c2400b62a
theorem yB_cX3_digit : BYS cX3_digit 46 bB_cX3_digit := BYS_of (by decide +kernel)
theorem dX3_digit_0 : decode cX3_digit 0 = .ok (.aload_n 0, 1) := D_42 yB_cX3_digit rfl rfl
theorem dX3_digit_1 : decode cX3_digit 1 = .ok (.invokevirtual 36, 3) := D_182 yB_cX3_digit rfl rfl rfl
theorem dX3_digit_4 : decode cX3_digit 4 = .ok (.istore_n 1, 1) := D_60 yB_cX3_digit rfl rfl
theorem dX3_digit_5 : decode cX3_digit 5 = .ok (.aload_n 0, 1) := D_42 yB_cX3_digit rfl rfl
theorem dX3_digit_6 : decode cX3_digit 6 = .ok (.getfield 22, 3) := D_180 yB_cX3_digit rfl rfl rfl
theorem dX3_digit_9 : decode cX3_digit 9 = .ok (.ifCond .ne 15, 3) := D_154 yB_cX3_digit rfl rfl (sg_p (m := 32768) (N := 15) rfl rfl rfl)
theorem dX3_digit_12 : decode cX3_digit 12 = .ok (.iload_n 1, 1) := D_27 yB_cX3_digit rfl rfl
theorem dX3_digit_13 : decode cX3_digit 13 = .ok (.bipush 48, 2) := D_16 yB_cX3_digit rfl rfl (sg_p (m := 128) (N := 48) rfl rfl rfl)
theorem dX3_digit_15 : decode cX3_digit 15 = .ok (.if_icmp .lt 9, 3) := D_161 yB_cX3_digit rfl rfl (sg_p (m := 32768) (N := 9) rfl rfl rfl)
theorem dX3_digit_18 : decode cX3_digit 18 = .ok (.iload_n 1, 1) := D_27 yB_cX3_digit rfl rfl
theorem dX3_digit_19 : decode cX3_digit 19 = .ok (.bipush 57, 2) := D_16 yB_cX3_digit rfl rfl (sg_p (m := 128) (N := 57) rfl rfl rfl)
theorem dX3_digit_21 : decode cX3_digit 21 = .ok (.if_icmp .le 10, 3) := D_164 yB_cX3_digit rfl rfl (sg_p (m := 32768) (N := 10) rfl rfl rfl)
theorem dX3_digit_24 : decode cX3_digit 24 = .ok (.aload_n 0, 1) := D_42 yB_cX3_digit rfl rfl
theorem dX3_digit_25 : decode cX3_digit 25 = .ok (.iconst 1, 1) := D_4 yB_cX3_digit rfl rfl
theorem dX3_digit_26 : decode cX3_digit 26 = .ok (.putfield 22, 3) := D_181 yB_cX3_digit rfl rfl rfl
theorem dX3_digit_29 : decode cX3_digit 29 = .ok (.iconst 0, 1) := D_3 yB_cX3_digit rfl rfl
theorem dX3_digit_30 : decode cX3_digit 30 = .ok (.ireturn, 1) := D_172 yB_cX3_digit rfl rfl
theorem dX3_digit_31 : decode cX3_digit 31 = .ok (.aload_n 0, 1) := D_42 yB_cX3_digit rfl rfl
theorem dX3_digit_32 : decode cX3_digit 32 = .ok (.dup, 1) := D_89 yB_cX3_digit rfl rfl
theorem dX3_digit_33 : decode cX3_digit 33 = .ok (.getfield 18, 3) := D_180 yB_cX3_digit rfl rfl rfl
theorem dX3_digit_36 : decode cX3_digit 36 = .ok (.iconst 1, 1) := D_4 yB_cX3_digit rfl rfl
theorem dX3_digit_37 : decode cX3_digit 37 = .ok (.iadd, 1) := D_96 yB_cX3_digit rfl rfl
theorem dX3_digit_38 : decode cX3_digit 38 = .ok (.putfield 18, 3) := D_181 yB_cX3_digit rfl rfl rfl
theorem dX3_digit_41 : decode cX3_digit 41 = .ok (.iload_n 1, 1) := D_27 yB_cX3_digit rfl rfl
theorem dX3_digit_42 : decode cX3_digit 42 = .ok (.bipush 48, 2) := D_16 yB_cX3_digit rfl rfl (sg_p (m := 128) (N := 48) rfl rfl rfl)
theorem dX3_digit_44 : decode cX3_digit 44 = .ok (.isub, 1) := D_100 yB_cX3_digit rfl rfl
theorem dX3_digit_45 : decode cX3_digit 45 = .ok (.ireturn, 1) := D_172 yB_cX3_digit rfl rfl
def F_X3_digit (σ : Mem)  : Option (Mem × Int32) := (F_X3_next σ ).bind fun r_1 => if (σ 85 2) = 0 then (if r_1 < 48 then (some ((stm σ 85 2 1), 0)) else (if r_1 ≤ 57 then (some ((stm σ 85 1 ((σ 85 1) + 1)), (r_1 - 48))) else (some ((stm σ 85 2 1), 0)))) else (some ((stm σ 85 2 1), 0))
set_option maxHeartbeats 4000000 in
set_option maxRecDepth 100000 in
theorem c_X3_digit (l : Launch) (D : va_G) (cA : Nat → ClassId) (ad : Nat → Nat) (o : Int64) (σ : Mem)   (res : Mem × Int32) (h : F_X3_digit σ  = some res) (sz : Nat) : Met l yX3_digit (WY yX3_digit cX3_digit 2 (some .int)) (RM 1) (va_Pc [.ref (ad 85)] (PW D cA ad o σ sz)) (va_Qi (fun r σ9 => r = res.2 ∧ σ9 = res.1) (QW D cA ad o) (FA ad sz)) 0 0 (FA ad sz) := by
  refine ct_of (own := RX3) (k := 1) (Qf := va_Qi (fun r σ9 => r = res.2 ∧ σ9 = res.1) (QW D cA ad o)) rfl (by decide) (Nat.le_of_ble_eq_true rfl) (fun p e s m below meth c ls C0 X hr hlk hP hl => ?_) sz
  have hS : va_S (FA ad s.heap.size) s.heap s.heap [] := va_S.rf
  have hl : lv_has ls 2 [(0, .ref (ad 85))] := hl
  obtain ⟨hx, hb, hml, hown, hts⟩ := id C0
  unfold F_X3_digit at h
  refine lv_aload_n hx hb dX3_digit_0 rfl (lv_at hl 0 rfl) ?_
  obtain ⟨r_1, er_1, h⟩ := bnd h
  refine r_ci X hS (r_runV (As := []) (rest := []) C0 X hP L_X3_36 (fun sz => c_X3_next l D cA ad o σ   r_1 er_1 sz) (show 85 < 106 ∧ kd 85 = (3, 8) from ⟨by decide, rfl⟩).1 (show 85 < 106 ∧ kd 85 = (3, 8) from ⟨by decide, rfl⟩).2 (by decide) rfl ⟨Nat.le_of_ble_eq_true rfl, Nat.le_of_ble_eq_true rfl⟩ rfl hl.1 rfl (Nat.le_of_ble_eq_true rfl) dX3_digit_1 ⟨Nat.zero_le _, Nat.zero_le _⟩) (fun r9 σ9 H locs hw hP hS => ?_)
  rw [hw.2] at hP
  rw [hw.1]
  refine lv_istore_n (lv' := [(1, .int r_1), (0, .ref (ad 85))]) hx hb dX3_digit_4 rfl hl (by decide) rfl (fun ls hl => ?_)
  refine lv_aload_n hx hb dX3_digit_5 rfl (lv_at hl 1 rfl) ?_
  refine gf_X3_22 C0 X hP 85 ⟨by decide, rfl⟩ dX3_digit_6 ?_
  refine lv_if_ne (tgt := 24) hx hb dX3_digit_9 (by decide) (fun c_2 => ?_) (fun c_2 => ?_)
  · replace h := it_f h c_2
    refine lv_aload_n hx hb dX3_digit_24 rfl (lv_at hl 1 rfl) ?_
    refine lv_iconst (v := 1) hx hb dX3_digit_25 (by decide) ?_
    refine pf_X3_22 C0 X hP hS 85 (Or.inr rfl) ⟨by decide, rfl⟩ dX3_digit_26 (fun H locs hP hS => ?_)
    refine lv_iconst (v := 0) hx hb dX3_digit_29 (by decide) ?_
    exact r_iret C0 X hP hS hr hlk dX3_digit_30 (rt2 h)
  · replace h := it_t h c_2
    refine lv_iload_n hx hb dX3_digit_12 rfl (lv_at hl 0 rfl) ?_
    refine lv_bipush (v := 48) hx hb dX3_digit_13 (by decide) ?_
    refine lv_icmp_lt (tgt := 24) hx hb dX3_digit_15 (by decide) (fun c_3 => ?_) (fun c_3 => ?_)
    · replace h := it_t h c_3
      refine lv_aload_n hx hb dX3_digit_24 rfl (lv_at hl 1 rfl) ?_
      refine lv_iconst (v := 1) hx hb dX3_digit_25 (by decide) ?_
      refine pf_X3_22 C0 X hP hS 85 (Or.inr rfl) ⟨by decide, rfl⟩ dX3_digit_26 (fun H locs hP hS => ?_)
      refine lv_iconst (v := 0) hx hb dX3_digit_29 (by decide) ?_
      exact r_iret C0 X hP hS hr hlk dX3_digit_30 (rt2 h)
    · replace h := it_f h c_3
      refine lv_iload_n hx hb dX3_digit_18 rfl (lv_at hl 0 rfl) ?_
      refine lv_bipush (v := 57) hx hb dX3_digit_19 (by decide) ?_
      refine lv_icmp_le (tgt := 31) hx hb dX3_digit_21 (by decide) (fun c_4 => ?_) (fun c_4 => ?_)
      · replace h := it_t h c_4
        refine lv_aload_n hx hb dX3_digit_31 rfl (lv_at hl 1 rfl) ?_
        refine lv_dup hx hb dX3_digit_32 rfl ?_
        refine gf_X3_18 C0 X hP 85 ⟨by decide, rfl⟩ dX3_digit_33 ?_
        refine lv_iconst (v := 1) hx hb dX3_digit_36 (by decide) ?_
        refine lv_iadd hx hb dX3_digit_37 ?_
        refine pf_X3_18 C0 X hP hS 85 ⟨by decide, rfl⟩ dX3_digit_38 (fun H locs hP hS => ?_)
        refine lv_iload_n hx hb dX3_digit_41 rfl (lv_at hl 0 rfl) ?_
        refine lv_bipush (v := 48) hx hb dX3_digit_42 (by decide) ?_
        refine lv_isub hx hb dX3_digit_44 ?_
        exact r_iret C0 X hP hS hr hlk dX3_digit_45 (rt2 h)
      · replace h := it_f h c_4
        refine lv_aload_n hx hb dX3_digit_24 rfl (lv_at hl 1 rfl) ?_
        refine lv_iconst (v := 1) hx hb dX3_digit_25 (by decide) ?_
        refine pf_X3_22 C0 X hP hS 85 (Or.inr rfl) ⟨by decide, rfl⟩ dX3_digit_26 (fun H locs hP hS => ?_)
        refine lv_iconst (v := 0) hx hb dX3_digit_29 (by decide) ?_
        exact r_iret C0 X hP hS hr hlk dX3_digit_30 (rt2 h)
def bB_cX3_number : Nat := 0xac1be7ffa70102843c604400b62a681b0a101300995200b62a1a00a2051c3d03ac0305009a1b3c4400b62a
theorem yB_cX3_number : BYS cX3_number 43 bB_cX3_number := BYS_of (by decide +kernel)
theorem dX3_number_0 : decode cX3_number 0 = .ok (.aload_n 0, 1) := D_42 yB_cX3_number rfl rfl
theorem dX3_number_1 : decode cX3_number 1 = .ok (.invokevirtual 68, 3) := D_182 yB_cX3_number rfl rfl rfl
theorem dX3_number_4 : decode cX3_number 4 = .ok (.istore_n 1, 1) := D_60 yB_cX3_number rfl rfl
theorem dX3_number_5 : decode cX3_number 5 = .ok (.iload_n 1, 1) := D_27 yB_cX3_number rfl rfl
theorem dX3_number_6 : decode cX3_number 6 = .ok (.ifCond .ne 5, 3) := D_154 yB_cX3_number rfl rfl (sg_p (m := 32768) (N := 5) rfl rfl rfl)
theorem dX3_number_9 : decode cX3_number 9 = .ok (.iconst 0, 1) := D_3 yB_cX3_number rfl rfl
theorem dX3_number_10 : decode cX3_number 10 = .ok (.ireturn, 1) := D_172 yB_cX3_number rfl rfl
theorem dX3_number_11 : decode cX3_number 11 = .ok (.iconst 0, 1) := D_3 yB_cX3_number rfl rfl
theorem dX3_number_12 : decode cX3_number 12 = .ok (.istore_n 2, 1) := D_61 yB_cX3_number rfl rfl
theorem dX3_number_13 : decode cX3_number 13 = .ok (.iload_n 2, 1) := D_28 yB_cX3_number rfl rfl
theorem dX3_number_14 : decode cX3_number 14 = .ok (.iconst 2, 1) := D_5 yB_cX3_number rfl rfl
theorem dX3_number_15 : decode cX3_number 15 = .ok (.if_icmp .ge 26, 3) := D_162 yB_cX3_number rfl rfl (sg_p (m := 32768) (N := 26) rfl rfl rfl)
theorem dX3_number_18 : decode cX3_number 18 = .ok (.aload_n 0, 1) := D_42 yB_cX3_number rfl rfl
theorem dX3_number_19 : decode cX3_number 19 = .ok (.invokevirtual 82, 3) := D_182 yB_cX3_number rfl rfl rfl
theorem dX3_number_22 : decode cX3_number 22 = .ok (.ifCond .eq 19, 3) := D_153 yB_cX3_number rfl rfl (sg_p (m := 32768) (N := 19) rfl rfl rfl)
theorem dX3_number_25 : decode cX3_number 25 = .ok (.bipush 10, 2) := D_16 yB_cX3_number rfl rfl (sg_p (m := 128) (N := 10) rfl rfl rfl)
theorem dX3_number_27 : decode cX3_number 27 = .ok (.iload_n 1, 1) := D_27 yB_cX3_number rfl rfl
theorem dX3_number_28 : decode cX3_number 28 = .ok (.imul, 1) := D_104 yB_cX3_number rfl rfl
theorem dX3_number_29 : decode cX3_number 29 = .ok (.aload_n 0, 1) := D_42 yB_cX3_number rfl rfl
theorem dX3_number_30 : decode cX3_number 30 = .ok (.invokevirtual 68, 3) := D_182 yB_cX3_number rfl rfl rfl
theorem dX3_number_33 : decode cX3_number 33 = .ok (.iadd, 1) := D_96 yB_cX3_number rfl rfl
theorem dX3_number_34 : decode cX3_number 34 = .ok (.istore_n 1, 1) := D_60 yB_cX3_number rfl rfl
theorem dX3_number_35 : decode cX3_number 35 = .ok (.iinc 2 1, 3) := D_132 yB_cX3_number rfl rfl rfl (sg_p (m := 128) (N := 1) rfl rfl rfl)
theorem dX3_number_38 : decode cX3_number 38 = .ok (.goto (-25), 3) := D_167 yB_cX3_number rfl rfl (sg_n (m := 32768) (N := 25) rfl rfl rfl)
theorem dX3_number_41 : decode cX3_number 41 = .ok (.iload_n 1, 1) := D_27 yB_cX3_number rfl rfl
theorem dX3_number_42 : decode cX3_number 42 = .ok (.ireturn, 1) := D_172 yB_cX3_number rfl rfl
def F_X3_number_13   : Nat → Mem → Int32 → Int32 → Option (Mem × Int32)
  | 0, _, _, _ => none
  | nn + 1, σ, v2, v1 => if 2 ≤ v2 then (some (σ, v1)) else ((F_X3_hasDigit σ ).bind fun r_6 => if r_6 = 0 then (some (σ, v1)) else (bd2 (F_X3_digit σ ) fun σ_8 r_9 => F_X3_number_13 nn σ_8 (v2 + 1) ((10 * v1) + r_9)))
def F_X3_number (σ : Mem)  : Option (Mem × Int32) := bd2 (F_X3_digit σ ) fun σ_1 r_2 => if r_2 = 0 then (some (σ_1, 0)) else (F_X3_number_13 FU σ_1 0 r_2)
set_option maxHeartbeats 4000000 in
set_option maxRecDepth 100000 in
theorem c_X3_number (l : Launch) (D : va_G) (cA : Nat → ClassId) (ad : Nat → Nat) (o : Int64) (σ : Mem)   (res : Mem × Int32) (h : F_X3_number σ  = some res) (sz : Nat) : Met l yX3_number (WY yX3_number cX3_number 3 (some .int)) (RM 2) (va_Pc [.ref (ad 85)] (PW D cA ad o σ sz)) (va_Qi (fun r σ9 => r = res.2 ∧ σ9 = res.1) (QW D cA ad o) (FA ad sz)) 0 0 (FA ad sz) := by
  refine ct_of (own := RX3) (k := 2) (Qf := va_Qi (fun r σ9 => r = res.2 ∧ σ9 = res.1) (QW D cA ad o)) rfl (by decide) (Nat.le_of_ble_eq_true rfl) (fun p e s m below meth c ls C0 X hr hlk hP hl => ?_) sz
  have hS : va_S (FA ad s.heap.size) s.heap s.heap [] := va_S.rf
  have hl : lv_has ls 3 [(0, .ref (ad 85))] := hl
  obtain ⟨hx, hb, hml, hown, hts⟩ := id C0
  unfold F_X3_number at h
  refine lv_aload_n hx hb dX3_number_0 rfl (lv_at hl 0 rfl) ?_
  obtain ⟨σ_1, r_2, eσ_1, h⟩ := bnd2 h
  refine r_ci X hS (r_runV (As := []) (rest := []) C0 X hP L_X3_68 (fun sz => c_X3_digit l D cA ad o σ   (σ_1, r_2) eσ_1 sz) (show 85 < 106 ∧ kd 85 = (3, 8) from ⟨by decide, rfl⟩).1 (show 85 < 106 ∧ kd 85 = (3, 8) from ⟨by decide, rfl⟩).2 (by decide) rfl ⟨Nat.le_of_ble_eq_true rfl, Nat.le_of_ble_eq_true rfl⟩ rfl hl.1 rfl (Nat.le_of_ble_eq_true rfl) dX3_number_1 ⟨Nat.zero_le _, Nat.zero_le _⟩) (fun r9 σ9 H locs hw hP hS => ?_)
  rw [show σ9 = σ_1 from hw.2] at hP
  rw [show r9 = r_2 from hw.1]
  refine lv_istore_n (lv' := [(1, .int r_2), (0, .ref (ad 85))]) hx hb dX3_number_4 rfl hl (by decide) rfl (fun ls hl => ?_)
  refine lv_iload_n hx hb dX3_number_5 rfl (lv_at hl 0 rfl) ?_
  refine lv_if_ne (tgt := 11) hx hb dX3_number_6 (by decide) (fun c_3 => ?_) (fun c_3 => ?_)
  · replace h := it_f h c_3
    refine lv_iconst (v := 0) hx hb dX3_number_11 (by decide) ?_
    refine lv_istore_n (lv' := [(2, .int 0), (1, .int r_2), (0, .ref (ad 85))]) hx hb dX3_number_12 rfl hl (by decide) rfl (fun ls hl => ?_)
    have lp_4 : ∀ (nn13 : Nat) (σ : Mem) (v2 : Int32) (v1 : Int32) (H : Heap) (locs : List Loc) (ls : Array Slot), F_X3_number_13 nn13 σ v2 v1 = some res → WP D cA ad o σ H → va_S (FA ad s.heap.size) s.heap H locs → lv_has ls 3 [(2, .int v2), (1, .int v1), (0, .ref (ad 85))] → W p l e (RM 2) s m ([.ref (ad 85)] : List Value).toArray below meth c H locs 0 0 (MQ below (va_Qi (fun r σ9 => r = res.2 ∧ σ9 = res.1) (QW D cA ad o) (FA ad s.heap.size)) ([.ref (ad 85)] : List Value).toArray s 0 0 (FA ad s.heap.size)) (F0 m 13 ls []) := by
      intro nn13
      induction nn13 with
      | zero => intro σ v2 v1 H locs ls h hP hS hl; exact absurd (show none = some res from h) nofun
      | succ nn13 ih13 =>
        intro σ v2 v1 H locs ls h hP hS hl
        replace h := (F_X3_number_13.eq_2 _ _ _ _).symm.trans h
        refine lv_iload_n hx hb dX3_number_13 rfl (lv_at hl 0 rfl) ?_
        refine lv_iconst (v := 2) hx hb dX3_number_14 (by decide) ?_
        refine lv_icmp_ge (tgt := 41) hx hb dX3_number_15 (by decide) (fun c_5 => ?_) (fun c_5 => ?_)
        · replace h := it_t h c_5
          refine lv_iload_n hx hb dX3_number_41 rfl (lv_at hl 1 rfl) ?_
          exact r_iret C0 X hP hS hr hlk dX3_number_42 (rt2 h)
        · replace h := it_f h c_5
          refine lv_aload_n hx hb dX3_number_18 rfl (lv_at hl 2 rfl) ?_
          obtain ⟨r_6, er_6, h⟩ := bnd h
          refine r_ci X hS (r_runV (As := []) (rest := []) C0 X hP L_X3_82 (fun sz => c_X3_hasDigit l D cA ad o σ   r_6 er_6 sz) (show 85 < 106 ∧ kd 85 = (3, 8) from ⟨by decide, rfl⟩).1 (show 85 < 106 ∧ kd 85 = (3, 8) from ⟨by decide, rfl⟩).2 (by decide) rfl ⟨Nat.le_of_ble_eq_true rfl, Nat.le_of_ble_eq_true rfl⟩ rfl hl.1 rfl (Nat.le_of_ble_eq_true rfl) dX3_number_19 ⟨Nat.zero_le _, Nat.zero_le _⟩) (fun r9 σ9 H locs hw hP hS => ?_)
          rw [hw.2] at hP
          rw [hw.1]
          refine lv_if_eq (tgt := 41) hx hb dX3_number_22 (by decide) (fun c_7 => ?_) (fun c_7 => ?_)
          · replace h := it_t h c_7
            refine lv_iload_n hx hb dX3_number_41 rfl (lv_at hl 1 rfl) ?_
            exact r_iret C0 X hP hS hr hlk dX3_number_42 (rt2 h)
          · replace h := it_f h c_7
            refine lv_bipush (v := 10) hx hb dX3_number_25 (by decide) ?_
            refine lv_iload_n hx hb dX3_number_27 rfl (lv_at hl 1 rfl) ?_
            refine lv_imul hx hb dX3_number_28 ?_
            refine lv_aload_n hx hb dX3_number_29 rfl (lv_at hl 2 rfl) ?_
            obtain ⟨σ_8, r_9, eσ_8, h⟩ := bnd2 h
            refine r_ci X hS (r_runV (As := []) (rest := [.int (10 * v1)]) C0 X hP L_X3_68 (fun sz => c_X3_digit l D cA ad o σ   (σ_8, r_9) eσ_8 sz) (show 85 < 106 ∧ kd 85 = (3, 8) from ⟨by decide, rfl⟩).1 (show 85 < 106 ∧ kd 85 = (3, 8) from ⟨by decide, rfl⟩).2 (by decide) rfl ⟨Nat.le_of_ble_eq_true rfl, Nat.le_of_ble_eq_true rfl⟩ rfl hl.1 rfl (Nat.le_of_ble_eq_true rfl) dX3_number_30 ⟨Nat.zero_le _, Nat.zero_le _⟩) (fun r9 σ9 H locs hw hP hS => ?_)
            rw [show σ9 = σ_8 from hw.2] at hP
            rw [show r9 = r_9 from hw.1]
            refine lv_iadd hx hb dX3_number_33 ?_
            refine lv_istore_n (lv' := [(1, .int ((10 * v1) + r_9)), (2, .int v2), (0, .ref (ad 85))]) hx hb dX3_number_34 rfl hl (by decide) rfl (fun ls hl => ?_)
            refine lv_iinc (v := (v2 + 1)) (lv' := [(2, .int (v2 + 1)), (1, .int ((10 * v1) + r_9)), (0, .ref (ad 85))]) hx hb dX3_number_35 hl (k := 1) rfl rfl (by decide) rfl (fun ls hl => ?_)
            refine lv_goto (tgt := 13) hx hb dX3_number_38 (by decide) ?_
            exact ih13 σ_8 (v2 + 1) ((10 * v1) + r_9) _ _ ls  h hP hS (lv_sub hl [0, 1, 2] rfl)
    exact lp_4 FU σ_1 0 r_2 _ _ ls  h hP hS (lv_sub hl [0, 1, 2] rfl)
  · replace h := it_t h c_3
    refine lv_iconst (v := 0) hx hb dX3_number_9 (by decide) ?_
    exact r_iret C0 X hP hS hr hlk dX3_number_10 (rt2 h)
def bB_cX3_readPiece : Nat := 0xb12e00b54400b62a2a0b00994700b668102a2b00b54400b62a2a1200b560041200b4592a
theorem yB_cX3_readPiece : BYS cX3_readPiece 36 bB_cX3_readPiece := BYS_of (by decide +kernel)
theorem dX3_readPiece_0 : decode cX3_readPiece 0 = .ok (.aload_n 0, 1) := D_42 yB_cX3_readPiece rfl rfl
theorem dX3_readPiece_1 : decode cX3_readPiece 1 = .ok (.dup, 1) := D_89 yB_cX3_readPiece rfl rfl
theorem dX3_readPiece_2 : decode cX3_readPiece 2 = .ok (.getfield 18, 3) := D_180 yB_cX3_readPiece rfl rfl rfl
theorem dX3_readPiece_5 : decode cX3_readPiece 5 = .ok (.iconst 1, 1) := D_4 yB_cX3_readPiece rfl rfl
theorem dX3_readPiece_6 : decode cX3_readPiece 6 = .ok (.iadd, 1) := D_96 yB_cX3_readPiece rfl rfl
theorem dX3_readPiece_7 : decode cX3_readPiece 7 = .ok (.putfield 18, 3) := D_181 yB_cX3_readPiece rfl rfl rfl
theorem dX3_readPiece_10 : decode cX3_readPiece 10 = .ok (.aload_n 0, 1) := D_42 yB_cX3_readPiece rfl rfl
theorem dX3_readPiece_11 : decode cX3_readPiece 11 = .ok (.aload_n 0, 1) := D_42 yB_cX3_readPiece rfl rfl
theorem dX3_readPiece_12 : decode cX3_readPiece 12 = .ok (.invokevirtual 68, 3) := D_182 yB_cX3_readPiece rfl rfl rfl
theorem dX3_readPiece_15 : decode cX3_readPiece 15 = .ok (.putfield 43, 3) := D_181 yB_cX3_readPiece rfl rfl rfl
theorem dX3_readPiece_18 : decode cX3_readPiece 18 = .ok (.aload_n 0, 1) := D_42 yB_cX3_readPiece rfl rfl
theorem dX3_readPiece_19 : decode cX3_readPiece 19 = .ok (.bipush 104, 2) := D_16 yB_cX3_readPiece rfl rfl (sg_p (m := 128) (N := 104) rfl rfl rfl)
theorem dX3_readPiece_21 : decode cX3_readPiece 21 = .ok (.invokevirtual 71, 3) := D_182 yB_cX3_readPiece rfl rfl rfl
theorem dX3_readPiece_24 : decode cX3_readPiece 24 = .ok (.ifCond .eq 11, 3) := D_153 yB_cX3_readPiece rfl rfl (sg_p (m := 32768) (N := 11) rfl rfl rfl)
theorem dX3_readPiece_27 : decode cX3_readPiece 27 = .ok (.aload_n 0, 1) := D_42 yB_cX3_readPiece rfl rfl
theorem dX3_readPiece_28 : decode cX3_readPiece 28 = .ok (.aload_n 0, 1) := D_42 yB_cX3_readPiece rfl rfl
theorem dX3_readPiece_29 : decode cX3_readPiece 29 = .ok (.invokevirtual 68, 3) := D_182 yB_cX3_readPiece rfl rfl rfl
theorem dX3_readPiece_32 : decode cX3_readPiece 32 = .ok (.putfield 46, 3) := D_181 yB_cX3_readPiece rfl rfl rfl
theorem dX3_readPiece_35 : decode cX3_readPiece 35 = .ok (.return_, 1) := D_177 yB_cX3_readPiece rfl rfl
def F_X3_readPiece (σ : Mem)  : Option (Mem) := bd2 (F_X3_digit (stm σ 85 1 ((σ 85 1) + 1)) ) fun σ_1 r_2 => bd2 (F_X3_skips (stm σ_1 85 4 r_2) 104) fun σ_3 r_4 => if r_4 = 0 then (some σ_3) else (bd2 (F_X3_digit σ_3 ) fun σ_6 r_7 => some (stm σ_6 85 5 r_7))
set_option maxHeartbeats 4000000 in
set_option maxRecDepth 100000 in
theorem c_X3_readPiece (l : Launch) (D : va_G) (cA : Nat → ClassId) (ad : Nat → Nat) (o : Int64) (σ : Mem)   (res : Mem) (h : F_X3_readPiece σ  = some res) (sz : Nat) : Met l yX3_readPiece (WY yX3_readPiece cX3_readPiece 1 none) (RM 2) (va_Pc [.ref (ad 85)] (PW D cA ad o σ sz)) (va_Qv (fun σ9 => σ9 = res) (QW D cA ad o) (FA ad sz)) 0 0 (FA ad sz) := by
  refine ct_of (own := RX3) (k := 2) (Qf := va_Qv (fun σ9 => σ9 = res) (QW D cA ad o)) rfl (by decide) (Nat.le_of_ble_eq_true rfl) (fun p e s m below meth c ls C0 X hr hlk hP hl => ?_) sz
  have hS : va_S (FA ad s.heap.size) s.heap s.heap [] := va_S.rf
  have hl : lv_has ls 1 [(0, .ref (ad 85))] := hl
  obtain ⟨hx, hb, hml, hown, hts⟩ := id C0
  unfold F_X3_readPiece at h
  refine lv_aload_n hx hb dX3_readPiece_0 rfl (lv_at hl 0 rfl) ?_
  refine lv_dup hx hb dX3_readPiece_1 rfl ?_
  refine gf_X3_18 C0 X hP 85 ⟨by decide, rfl⟩ dX3_readPiece_2 ?_
  refine lv_iconst (v := 1) hx hb dX3_readPiece_5 (by decide) ?_
  refine lv_iadd hx hb dX3_readPiece_6 ?_
  refine pf_X3_18 C0 X hP hS 85 ⟨by decide, rfl⟩ dX3_readPiece_7 (fun H locs hP hS => ?_)
  refine lv_aload_n hx hb dX3_readPiece_10 rfl (lv_at hl 0 rfl) ?_
  refine lv_aload_n hx hb dX3_readPiece_11 rfl (lv_at hl 0 rfl) ?_
  obtain ⟨σ_1, r_2, eσ_1, h⟩ := bnd2 h
  refine r_ci X hS (r_runV (As := []) (rest := [.ref (ad 85)]) C0 X hP L_X3_68 (fun sz => c_X3_digit l D cA ad o (stm σ 85 1 ((σ 85 1) + 1))   (σ_1, r_2) eσ_1 sz) (show 85 < 106 ∧ kd 85 = (3, 8) from ⟨by decide, rfl⟩).1 (show 85 < 106 ∧ kd 85 = (3, 8) from ⟨by decide, rfl⟩).2 (by decide) rfl ⟨Nat.le_of_ble_eq_true rfl, Nat.le_of_ble_eq_true rfl⟩ rfl hl.1 rfl (Nat.le_of_ble_eq_true rfl) dX3_readPiece_12 ⟨Nat.zero_le _, Nat.zero_le _⟩) (fun r9 σ9 H locs hw hP hS => ?_)
  rw [show σ9 = σ_1 from hw.2] at hP
  rw [show r9 = r_2 from hw.1]
  refine pf_X3_43 C0 X hP hS 85 ⟨by decide, rfl⟩ dX3_readPiece_15 (fun H locs hP hS => ?_)
  refine lv_aload_n hx hb dX3_readPiece_18 rfl (lv_at hl 0 rfl) ?_
  refine lv_bipush (v := 104) hx hb dX3_readPiece_19 (by decide) ?_
  obtain ⟨σ_3, r_4, eσ_3, h⟩ := bnd2 h
  refine r_ci X hS (r_runV (As := [.int 104]) (rest := []) C0 X hP L_X3_71 (fun sz => c_X3_skips l D cA ad o (stm σ_1 85 4 r_2) 104  (σ_3, r_4) eσ_3 sz) (show 85 < 106 ∧ kd 85 = (3, 8) from ⟨by decide, rfl⟩).1 (show 85 < 106 ∧ kd 85 = (3, 8) from ⟨by decide, rfl⟩).2 (by decide) rfl ⟨Nat.le_of_ble_eq_true rfl, Nat.le_of_ble_eq_true rfl⟩ rfl hl.1 rfl (Nat.le_of_ble_eq_true rfl) dX3_readPiece_21 ⟨Nat.zero_le _, Nat.zero_le _⟩) (fun r9 σ9 H locs hw hP hS => ?_)
  rw [show σ9 = σ_3 from hw.2] at hP
  rw [show r9 = r_4 from hw.1]
  refine lv_if_eq (tgt := 35) hx hb dX3_readPiece_24 (by decide) (fun c_5 => ?_) (fun c_5 => ?_)
  · replace h := it_t h c_5
    exact r_vret C0 X hP hS hr hlk dX3_readPiece_35 (Option.some.inj h)
  · replace h := it_f h c_5
    refine lv_aload_n hx hb dX3_readPiece_27 rfl (lv_at hl 0 rfl) ?_
    refine lv_aload_n hx hb dX3_readPiece_28 rfl (lv_at hl 0 rfl) ?_
    obtain ⟨σ_6, r_7, eσ_6, h⟩ := bnd2 h
    refine r_ci X hS (r_runV (As := []) (rest := [.ref (ad 85)]) C0 X hP L_X3_68 (fun sz => c_X3_digit l D cA ad o σ_3   (σ_6, r_7) eσ_6 sz) (show 85 < 106 ∧ kd 85 = (3, 8) from ⟨by decide, rfl⟩).1 (show 85 < 106 ∧ kd 85 = (3, 8) from ⟨by decide, rfl⟩).2 (by decide) rfl ⟨Nat.le_of_ble_eq_true rfl, Nat.le_of_ble_eq_true rfl⟩ rfl hl.1 rfl (Nat.le_of_ble_eq_true rfl) dX3_readPiece_29 ⟨Nat.zero_le _, Nat.zero_le _⟩) (fun r9 σ9 H locs hw hP hS => ?_)
    rw [show σ9 = σ_6 from hw.2] at hP
    rw [show r9 = r_7 from hw.1]
    refine pf_X3_46 C0 X hP hS 85 ⟨by decide, rfl⟩ dX3_readPiece_32 (fun H locs hP hS => ?_)
    exact r_vret C0 X hP hS hr hlk dX3_readPiece_35 (Option.some.inj h)
def bB_cX3_readPair : Nat := 0xb13100b54400b62a2a0b00a078102800b42a2e00b54400b62a2a4000b620102a2b00b54400b62a2a1200b560041200b4592a
theorem yB_cX3_readPair : BYS cX3_readPair 50 bB_cX3_readPair := BYS_of (by decide +kernel)
theorem dX3_readPair_0 : decode cX3_readPair 0 = .ok (.aload_n 0, 1) := D_42 yB_cX3_readPair rfl rfl
theorem dX3_readPair_1 : decode cX3_readPair 1 = .ok (.dup, 1) := D_89 yB_cX3_readPair rfl rfl
theorem dX3_readPair_2 : decode cX3_readPair 2 = .ok (.getfield 18, 3) := D_180 yB_cX3_readPair rfl rfl rfl
theorem dX3_readPair_5 : decode cX3_readPair 5 = .ok (.iconst 1, 1) := D_4 yB_cX3_readPair rfl rfl
theorem dX3_readPair_6 : decode cX3_readPair 6 = .ok (.iadd, 1) := D_96 yB_cX3_readPair rfl rfl
theorem dX3_readPair_7 : decode cX3_readPair 7 = .ok (.putfield 18, 3) := D_181 yB_cX3_readPair rfl rfl rfl
theorem dX3_readPair_10 : decode cX3_readPair 10 = .ok (.aload_n 0, 1) := D_42 yB_cX3_readPair rfl rfl
theorem dX3_readPair_11 : decode cX3_readPair 11 = .ok (.aload_n 0, 1) := D_42 yB_cX3_readPair rfl rfl
theorem dX3_readPair_12 : decode cX3_readPair 12 = .ok (.invokevirtual 68, 3) := D_182 yB_cX3_readPair rfl rfl rfl
theorem dX3_readPair_15 : decode cX3_readPair 15 = .ok (.putfield 43, 3) := D_181 yB_cX3_readPair rfl rfl rfl
theorem dX3_readPair_18 : decode cX3_readPair 18 = .ok (.aload_n 0, 1) := D_42 yB_cX3_readPair rfl rfl
theorem dX3_readPair_19 : decode cX3_readPair 19 = .ok (.bipush 32, 2) := D_16 yB_cX3_readPair rfl rfl (sg_p (m := 128) (N := 32) rfl rfl rfl)
theorem dX3_readPair_21 : decode cX3_readPair 21 = .ok (.invokevirtual 64, 3) := D_182 yB_cX3_readPair rfl rfl rfl
theorem dX3_readPair_24 : decode cX3_readPair 24 = .ok (.aload_n 0, 1) := D_42 yB_cX3_readPair rfl rfl
theorem dX3_readPair_25 : decode cX3_readPair 25 = .ok (.aload_n 0, 1) := D_42 yB_cX3_readPair rfl rfl
theorem dX3_readPair_26 : decode cX3_readPair 26 = .ok (.invokevirtual 68, 3) := D_182 yB_cX3_readPair rfl rfl rfl
theorem dX3_readPair_29 : decode cX3_readPair 29 = .ok (.putfield 46, 3) := D_181 yB_cX3_readPair rfl rfl rfl
theorem dX3_readPair_32 : decode cX3_readPair 32 = .ok (.aload_n 0, 1) := D_42 yB_cX3_readPair rfl rfl
theorem dX3_readPair_33 : decode cX3_readPair 33 = .ok (.getfield 40, 3) := D_180 yB_cX3_readPair rfl rfl rfl
theorem dX3_readPair_36 : decode cX3_readPair 36 = .ok (.bipush 120, 2) := D_16 yB_cX3_readPair rfl rfl (sg_p (m := 128) (N := 120) rfl rfl rfl)
theorem dX3_readPair_38 : decode cX3_readPair 38 = .ok (.if_icmp .ne 11, 3) := D_160 yB_cX3_readPair rfl rfl (sg_p (m := 32768) (N := 11) rfl rfl rfl)
theorem dX3_readPair_41 : decode cX3_readPair 41 = .ok (.aload_n 0, 1) := D_42 yB_cX3_readPair rfl rfl
theorem dX3_readPair_42 : decode cX3_readPair 42 = .ok (.aload_n 0, 1) := D_42 yB_cX3_readPair rfl rfl
theorem dX3_readPair_43 : decode cX3_readPair 43 = .ok (.invokevirtual 68, 3) := D_182 yB_cX3_readPair rfl rfl rfl
theorem dX3_readPair_46 : decode cX3_readPair 46 = .ok (.putfield 49, 3) := D_181 yB_cX3_readPair rfl rfl rfl
theorem dX3_readPair_49 : decode cX3_readPair 49 = .ok (.return_, 1) := D_177 yB_cX3_readPair rfl rfl
def F_X3_readPair (σ : Mem)  : Option (Mem) := bd2 (F_X3_digit (stm σ 85 1 ((σ 85 1) + 1)) ) fun σ_1 r_2 => (F_X3_want (stm σ_1 85 4 r_2) 32).bind fun σ_3 => bd2 (F_X3_digit σ_3 ) fun σ_4 r_5 => if ((stm σ_4 85 5 r_5) 85 3) = 120 then (bd2 (F_X3_digit (stm σ_4 85 5 r_5) ) fun σ_7 r_8 => some (stm σ_7 85 6 r_8)) else (some (stm σ_4 85 5 r_5))
set_option maxHeartbeats 4000000 in
set_option maxRecDepth 100000 in
theorem c_X3_readPair (l : Launch) (D : va_G) (cA : Nat → ClassId) (ad : Nat → Nat) (o : Int64) (σ : Mem)   (res : Mem) (h : F_X3_readPair σ  = some res) (sz : Nat) : Met l yX3_readPair (WY yX3_readPair cX3_readPair 1 none) (RM 3) (va_Pc [.ref (ad 85)] (PW D cA ad o σ sz)) (va_Qv (fun σ9 => σ9 = res) (QW D cA ad o) (FA ad sz)) 0 0 (FA ad sz) := by
  refine ct_of (own := RX3) (k := 3) (Qf := va_Qv (fun σ9 => σ9 = res) (QW D cA ad o)) rfl (by decide) (Nat.le_of_ble_eq_true rfl) (fun p e s m below meth c ls C0 X hr hlk hP hl => ?_) sz
  have hS : va_S (FA ad s.heap.size) s.heap s.heap [] := va_S.rf
  have hl : lv_has ls 1 [(0, .ref (ad 85))] := hl
  obtain ⟨hx, hb, hml, hown, hts⟩ := id C0
  unfold F_X3_readPair at h
  refine lv_aload_n hx hb dX3_readPair_0 rfl (lv_at hl 0 rfl) ?_
  refine lv_dup hx hb dX3_readPair_1 rfl ?_
  refine gf_X3_18 C0 X hP 85 ⟨by decide, rfl⟩ dX3_readPair_2 ?_
  refine lv_iconst (v := 1) hx hb dX3_readPair_5 (by decide) ?_
  refine lv_iadd hx hb dX3_readPair_6 ?_
  refine pf_X3_18 C0 X hP hS 85 ⟨by decide, rfl⟩ dX3_readPair_7 (fun H locs hP hS => ?_)
  refine lv_aload_n hx hb dX3_readPair_10 rfl (lv_at hl 0 rfl) ?_
  refine lv_aload_n hx hb dX3_readPair_11 rfl (lv_at hl 0 rfl) ?_
  obtain ⟨σ_1, r_2, eσ_1, h⟩ := bnd2 h
  refine r_ci X hS (r_runV (As := []) (rest := [.ref (ad 85)]) C0 X hP L_X3_68 (fun sz => c_X3_digit l D cA ad o (stm σ 85 1 ((σ 85 1) + 1))   (σ_1, r_2) eσ_1 sz) (show 85 < 106 ∧ kd 85 = (3, 8) from ⟨by decide, rfl⟩).1 (show 85 < 106 ∧ kd 85 = (3, 8) from ⟨by decide, rfl⟩).2 (by decide) rfl ⟨Nat.le_of_ble_eq_true rfl, Nat.le_of_ble_eq_true rfl⟩ rfl hl.1 rfl (Nat.le_of_ble_eq_true rfl) dX3_readPair_12 ⟨Nat.zero_le _, Nat.zero_le _⟩) (fun r9 σ9 H locs hw hP hS => ?_)
  rw [show σ9 = σ_1 from hw.2] at hP
  rw [show r9 = r_2 from hw.1]
  refine pf_X3_43 C0 X hP hS 85 ⟨by decide, rfl⟩ dX3_readPair_15 (fun H locs hP hS => ?_)
  refine lv_aload_n hx hb dX3_readPair_18 rfl (lv_at hl 0 rfl) ?_
  refine lv_bipush (v := 32) hx hb dX3_readPair_19 (by decide) ?_
  obtain ⟨σ_3, eσ_3, h⟩ := bnd h
  refine r_cv X hS (r_runV (As := [.int 32]) (rest := []) C0 X hP L_X3_64 (fun sz => c_X3_want l D cA ad o (stm σ_1 85 4 r_2) 32  σ_3 eσ_3 sz) (show 85 < 106 ∧ kd 85 = (3, 8) from ⟨by decide, rfl⟩).1 (show 85 < 106 ∧ kd 85 = (3, 8) from ⟨by decide, rfl⟩).2 (by decide) rfl ⟨Nat.le_of_ble_eq_true rfl, Nat.le_of_ble_eq_true rfl⟩ rfl hl.1 rfl (Nat.le_of_ble_eq_true rfl) dX3_readPair_21 ⟨Nat.zero_le _, Nat.zero_le _⟩) (fun σ9 H locs hw hP hS => ?_)
  rw [show σ9 = σ_3 from hw] at hP
  refine lv_aload_n hx hb dX3_readPair_24 rfl (lv_at hl 0 rfl) ?_
  refine lv_aload_n hx hb dX3_readPair_25 rfl (lv_at hl 0 rfl) ?_
  obtain ⟨σ_4, r_5, eσ_4, h⟩ := bnd2 h
  refine r_ci X hS (r_runV (As := []) (rest := [.ref (ad 85)]) C0 X hP L_X3_68 (fun sz => c_X3_digit l D cA ad o σ_3   (σ_4, r_5) eσ_4 sz) (show 85 < 106 ∧ kd 85 = (3, 8) from ⟨by decide, rfl⟩).1 (show 85 < 106 ∧ kd 85 = (3, 8) from ⟨by decide, rfl⟩).2 (by decide) rfl ⟨Nat.le_of_ble_eq_true rfl, Nat.le_of_ble_eq_true rfl⟩ rfl hl.1 rfl (Nat.le_of_ble_eq_true rfl) dX3_readPair_26 ⟨Nat.zero_le _, Nat.zero_le _⟩) (fun r9 σ9 H locs hw hP hS => ?_)
  rw [show σ9 = σ_4 from hw.2] at hP
  rw [show r9 = r_5 from hw.1]
  refine pf_X3_46 C0 X hP hS 85 ⟨by decide, rfl⟩ dX3_readPair_29 (fun H locs hP hS => ?_)
  refine lv_aload_n hx hb dX3_readPair_32 rfl (lv_at hl 0 rfl) ?_
  refine gf_X3_40 C0 X hP 85 ⟨by decide, rfl⟩ dX3_readPair_33 ?_
  refine lv_bipush (v := 120) hx hb dX3_readPair_36 (by decide) ?_
  refine lv_icmp_ne (tgt := 49) hx hb dX3_readPair_38 (by decide) (fun c_6 => ?_) (fun c_6 => ?_)
  · replace h := it_f h c_6
    exact r_vret C0 X hP hS hr hlk dX3_readPair_49 (Option.some.inj h)
  · replace h := it_t h c_6
    refine lv_aload_n hx hb dX3_readPair_41 rfl (lv_at hl 0 rfl) ?_
    refine lv_aload_n hx hb dX3_readPair_42 rfl (lv_at hl 0 rfl) ?_
    obtain ⟨σ_7, r_8, eσ_7, h⟩ := bnd2 h
    refine r_ci X hS (r_runV (As := []) (rest := [.ref (ad 85)]) C0 X hP L_X3_68 (fun sz => c_X3_digit l D cA ad o (stm σ_4 85 5 r_5)   (σ_7, r_8) eσ_7 sz) (show 85 < 106 ∧ kd 85 = (3, 8) from ⟨by decide, rfl⟩).1 (show 85 < 106 ∧ kd 85 = (3, 8) from ⟨by decide, rfl⟩).2 (by decide) rfl ⟨Nat.le_of_ble_eq_true rfl, Nat.le_of_ble_eq_true rfl⟩ rfl hl.1 rfl (Nat.le_of_ble_eq_true rfl) dX3_readPair_43 ⟨Nat.zero_le _, Nat.zero_le _⟩) (fun r9 σ9 H locs hw hP hS => ?_)
    rw [show σ9 = σ_7 from hw.2] at hP
    rw [show r9 = r_8 from hw.1]
    refine pf_X3_49 C0 X hP hS 85 ⟨by decide, rfl⟩ dX3_readPair_46 (fun H locs hP hS => ?_)
    exact r_vret C0 X hP hS hr hlk dX3_readPair_49 (Option.some.inj h)
def bB_cX3_readCart : Nat := 0xb13100b54b00b62a2a0b00994700b677102a3400b54700b66c102a2a2e00b54400b62a2a4000b620102a2b00b54b00b62a2a1200b560041200b4592a
theorem yB_cX3_readCart : BYS cX3_readCart 60 bB_cX3_readCart := BYS_of (by decide +kernel)
theorem dX3_readCart_0 : decode cX3_readCart 0 = .ok (.aload_n 0, 1) := D_42 yB_cX3_readCart rfl rfl
theorem dX3_readCart_1 : decode cX3_readCart 1 = .ok (.dup, 1) := D_89 yB_cX3_readCart rfl rfl
theorem dX3_readCart_2 : decode cX3_readCart 2 = .ok (.getfield 18, 3) := D_180 yB_cX3_readCart rfl rfl rfl
theorem dX3_readCart_5 : decode cX3_readCart 5 = .ok (.iconst 1, 1) := D_4 yB_cX3_readCart rfl rfl
theorem dX3_readCart_6 : decode cX3_readCart 6 = .ok (.iadd, 1) := D_96 yB_cX3_readCart rfl rfl
theorem dX3_readCart_7 : decode cX3_readCart 7 = .ok (.putfield 18, 3) := D_181 yB_cX3_readCart rfl rfl rfl
theorem dX3_readCart_10 : decode cX3_readCart 10 = .ok (.aload_n 0, 1) := D_42 yB_cX3_readCart rfl rfl
theorem dX3_readCart_11 : decode cX3_readCart 11 = .ok (.aload_n 0, 1) := D_42 yB_cX3_readCart rfl rfl
theorem dX3_readCart_12 : decode cX3_readCart 12 = .ok (.invokevirtual 75, 3) := D_182 yB_cX3_readCart rfl rfl rfl
theorem dX3_readCart_15 : decode cX3_readCart 15 = .ok (.putfield 43, 3) := D_181 yB_cX3_readCart rfl rfl rfl
theorem dX3_readCart_18 : decode cX3_readCart 18 = .ok (.aload_n 0, 1) := D_42 yB_cX3_readCart rfl rfl
theorem dX3_readCart_19 : decode cX3_readCart 19 = .ok (.bipush 32, 2) := D_16 yB_cX3_readCart rfl rfl (sg_p (m := 128) (N := 32) rfl rfl rfl)
theorem dX3_readCart_21 : decode cX3_readCart 21 = .ok (.invokevirtual 64, 3) := D_182 yB_cX3_readCart rfl rfl rfl
theorem dX3_readCart_24 : decode cX3_readCart 24 = .ok (.aload_n 0, 1) := D_42 yB_cX3_readCart rfl rfl
theorem dX3_readCart_25 : decode cX3_readCart 25 = .ok (.aload_n 0, 1) := D_42 yB_cX3_readCart rfl rfl
theorem dX3_readCart_26 : decode cX3_readCart 26 = .ok (.invokevirtual 68, 3) := D_182 yB_cX3_readCart rfl rfl rfl
theorem dX3_readCart_29 : decode cX3_readCart 29 = .ok (.putfield 46, 3) := D_181 yB_cX3_readCart rfl rfl rfl
theorem dX3_readCart_32 : decode cX3_readCart 32 = .ok (.aload_n 0, 1) := D_42 yB_cX3_readCart rfl rfl
theorem dX3_readCart_33 : decode cX3_readCart 33 = .ok (.aload_n 0, 1) := D_42 yB_cX3_readCart rfl rfl
theorem dX3_readCart_34 : decode cX3_readCart 34 = .ok (.bipush 108, 2) := D_16 yB_cX3_readCart rfl rfl (sg_p (m := 128) (N := 108) rfl rfl rfl)
theorem dX3_readCart_36 : decode cX3_readCart 36 = .ok (.invokevirtual 71, 3) := D_182 yB_cX3_readCart rfl rfl rfl
theorem dX3_readCart_39 : decode cX3_readCart 39 = .ok (.putfield 52, 3) := D_181 yB_cX3_readCart rfl rfl rfl
theorem dX3_readCart_42 : decode cX3_readCart 42 = .ok (.aload_n 0, 1) := D_42 yB_cX3_readCart rfl rfl
theorem dX3_readCart_43 : decode cX3_readCart 43 = .ok (.bipush 119, 2) := D_16 yB_cX3_readCart rfl rfl (sg_p (m := 128) (N := 119) rfl rfl rfl)
theorem dX3_readCart_45 : decode cX3_readCart 45 = .ok (.invokevirtual 71, 3) := D_182 yB_cX3_readCart rfl rfl rfl
theorem dX3_readCart_48 : decode cX3_readCart 48 = .ok (.ifCond .eq 11, 3) := D_153 yB_cX3_readCart rfl rfl (sg_p (m := 32768) (N := 11) rfl rfl rfl)
theorem dX3_readCart_51 : decode cX3_readCart 51 = .ok (.aload_n 0, 1) := D_42 yB_cX3_readCart rfl rfl
theorem dX3_readCart_52 : decode cX3_readCart 52 = .ok (.aload_n 0, 1) := D_42 yB_cX3_readCart rfl rfl
theorem dX3_readCart_53 : decode cX3_readCart 53 = .ok (.invokevirtual 75, 3) := D_182 yB_cX3_readCart rfl rfl rfl
theorem dX3_readCart_56 : decode cX3_readCart 56 = .ok (.putfield 49, 3) := D_181 yB_cX3_readCart rfl rfl rfl
theorem dX3_readCart_59 : decode cX3_readCart 59 = .ok (.return_, 1) := D_177 yB_cX3_readCart rfl rfl
def F_X3_readCart (σ : Mem)  : Option (Mem) := bd2 (F_X3_number (stm σ 85 1 ((σ 85 1) + 1)) ) fun σ_1 r_2 => (F_X3_want (stm σ_1 85 4 r_2) 32).bind fun σ_3 => bd2 (F_X3_digit σ_3 ) fun σ_4 r_5 => bd2 (F_X3_skips (stm σ_4 85 5 r_5) 108) fun σ_6 r_7 => ck (r_7 = 0 ∨ r_7 = 1) <| bd2 (F_X3_skips (stm σ_6 85 7 r_7) 119) fun σ_9 r_10 => if r_10 = 0 then (some σ_9) else (bd2 (F_X3_number σ_9 ) fun σ_12 r_13 => some (stm σ_12 85 6 r_13))
set_option maxHeartbeats 4000000 in
set_option maxRecDepth 100000 in
theorem c_X3_readCart (l : Launch) (D : va_G) (cA : Nat → ClassId) (ad : Nat → Nat) (o : Int64) (σ : Mem)   (res : Mem) (h : F_X3_readCart σ  = some res) (sz : Nat) : Met l yX3_readCart (WY yX3_readCart cX3_readCart 1 none) (RM 3) (va_Pc [.ref (ad 85)] (PW D cA ad o σ sz)) (va_Qv (fun σ9 => σ9 = res) (QW D cA ad o) (FA ad sz)) 0 0 (FA ad sz) := by
  refine ct_of (own := RX3) (k := 3) (Qf := va_Qv (fun σ9 => σ9 = res) (QW D cA ad o)) rfl (by decide) (Nat.le_of_ble_eq_true rfl) (fun p e s m below meth c ls C0 X hr hlk hP hl => ?_) sz
  have hS : va_S (FA ad s.heap.size) s.heap s.heap [] := va_S.rf
  have hl : lv_has ls 1 [(0, .ref (ad 85))] := hl
  obtain ⟨hx, hb, hml, hown, hts⟩ := id C0
  unfold F_X3_readCart at h
  refine lv_aload_n hx hb dX3_readCart_0 rfl (lv_at hl 0 rfl) ?_
  refine lv_dup hx hb dX3_readCart_1 rfl ?_
  refine gf_X3_18 C0 X hP 85 ⟨by decide, rfl⟩ dX3_readCart_2 ?_
  refine lv_iconst (v := 1) hx hb dX3_readCart_5 (by decide) ?_
  refine lv_iadd hx hb dX3_readCart_6 ?_
  refine pf_X3_18 C0 X hP hS 85 ⟨by decide, rfl⟩ dX3_readCart_7 (fun H locs hP hS => ?_)
  refine lv_aload_n hx hb dX3_readCart_10 rfl (lv_at hl 0 rfl) ?_
  refine lv_aload_n hx hb dX3_readCart_11 rfl (lv_at hl 0 rfl) ?_
  obtain ⟨σ_1, r_2, eσ_1, h⟩ := bnd2 h
  refine r_ci X hS (r_runV (As := []) (rest := [.ref (ad 85)]) C0 X hP L_X3_75 (fun sz => c_X3_number l D cA ad o (stm σ 85 1 ((σ 85 1) + 1))   (σ_1, r_2) eσ_1 sz) (show 85 < 106 ∧ kd 85 = (3, 8) from ⟨by decide, rfl⟩).1 (show 85 < 106 ∧ kd 85 = (3, 8) from ⟨by decide, rfl⟩).2 (by decide) rfl ⟨Nat.le_of_ble_eq_true rfl, Nat.le_of_ble_eq_true rfl⟩ rfl hl.1 rfl (Nat.le_of_ble_eq_true rfl) dX3_readCart_12 ⟨Nat.zero_le _, Nat.zero_le _⟩) (fun r9 σ9 H locs hw hP hS => ?_)
  rw [show σ9 = σ_1 from hw.2] at hP
  rw [show r9 = r_2 from hw.1]
  refine pf_X3_43 C0 X hP hS 85 ⟨by decide, rfl⟩ dX3_readCart_15 (fun H locs hP hS => ?_)
  refine lv_aload_n hx hb dX3_readCart_18 rfl (lv_at hl 0 rfl) ?_
  refine lv_bipush (v := 32) hx hb dX3_readCart_19 (by decide) ?_
  obtain ⟨σ_3, eσ_3, h⟩ := bnd h
  refine r_cv X hS (r_runV (As := [.int 32]) (rest := []) C0 X hP L_X3_64 (fun sz => c_X3_want l D cA ad o (stm σ_1 85 4 r_2) 32  σ_3 eσ_3 sz) (show 85 < 106 ∧ kd 85 = (3, 8) from ⟨by decide, rfl⟩).1 (show 85 < 106 ∧ kd 85 = (3, 8) from ⟨by decide, rfl⟩).2 (by decide) rfl ⟨Nat.le_of_ble_eq_true rfl, Nat.le_of_ble_eq_true rfl⟩ rfl hl.1 rfl (Nat.le_of_ble_eq_true rfl) dX3_readCart_21 ⟨Nat.zero_le _, Nat.zero_le _⟩) (fun σ9 H locs hw hP hS => ?_)
  rw [show σ9 = σ_3 from hw] at hP
  refine lv_aload_n hx hb dX3_readCart_24 rfl (lv_at hl 0 rfl) ?_
  refine lv_aload_n hx hb dX3_readCart_25 rfl (lv_at hl 0 rfl) ?_
  obtain ⟨σ_4, r_5, eσ_4, h⟩ := bnd2 h
  refine r_ci X hS (r_runV (As := []) (rest := [.ref (ad 85)]) C0 X hP L_X3_68 (fun sz => c_X3_digit l D cA ad o σ_3   (σ_4, r_5) eσ_4 sz) (show 85 < 106 ∧ kd 85 = (3, 8) from ⟨by decide, rfl⟩).1 (show 85 < 106 ∧ kd 85 = (3, 8) from ⟨by decide, rfl⟩).2 (by decide) rfl ⟨Nat.le_of_ble_eq_true rfl, Nat.le_of_ble_eq_true rfl⟩ rfl hl.1 rfl (Nat.le_of_ble_eq_true rfl) dX3_readCart_26 ⟨Nat.zero_le _, Nat.zero_le _⟩) (fun r9 σ9 H locs hw hP hS => ?_)
  rw [show σ9 = σ_4 from hw.2] at hP
  rw [show r9 = r_5 from hw.1]
  refine pf_X3_46 C0 X hP hS 85 ⟨by decide, rfl⟩ dX3_readCart_29 (fun H locs hP hS => ?_)
  refine lv_aload_n hx hb dX3_readCart_32 rfl (lv_at hl 0 rfl) ?_
  refine lv_aload_n hx hb dX3_readCart_33 rfl (lv_at hl 0 rfl) ?_
  refine lv_bipush (v := 108) hx hb dX3_readCart_34 (by decide) ?_
  obtain ⟨σ_6, r_7, eσ_6, h⟩ := bnd2 h
  refine r_ci X hS (r_runV (As := [.int 108]) (rest := [.ref (ad 85)]) C0 X hP L_X3_71 (fun sz => c_X3_skips l D cA ad o (stm σ_4 85 5 r_5) 108  (σ_6, r_7) eσ_6 sz) (show 85 < 106 ∧ kd 85 = (3, 8) from ⟨by decide, rfl⟩).1 (show 85 < 106 ∧ kd 85 = (3, 8) from ⟨by decide, rfl⟩).2 (by decide) rfl ⟨Nat.le_of_ble_eq_true rfl, Nat.le_of_ble_eq_true rfl⟩ rfl hl.1 rfl (Nat.le_of_ble_eq_true rfl) dX3_readCart_36 ⟨Nat.zero_le _, Nat.zero_le _⟩) (fun r9 σ9 H locs hw hP hS => ?_)
  rw [show σ9 = σ_6 from hw.2] at hP
  rw [show r9 = r_7 from hw.1]
  obtain ⟨q_8, h⟩ := ckp h
  refine pf_X3_52 C0 X hP hS 85 q_8 ⟨by decide, rfl⟩ dX3_readCart_39 (fun H locs hP hS => ?_)
  refine lv_aload_n hx hb dX3_readCart_42 rfl (lv_at hl 0 rfl) ?_
  refine lv_bipush (v := 119) hx hb dX3_readCart_43 (by decide) ?_
  obtain ⟨σ_9, r_10, eσ_9, h⟩ := bnd2 h
  refine r_ci X hS (r_runV (As := [.int 119]) (rest := []) C0 X hP L_X3_71 (fun sz => c_X3_skips l D cA ad o (stm σ_6 85 7 r_7) 119  (σ_9, r_10) eσ_9 sz) (show 85 < 106 ∧ kd 85 = (3, 8) from ⟨by decide, rfl⟩).1 (show 85 < 106 ∧ kd 85 = (3, 8) from ⟨by decide, rfl⟩).2 (by decide) rfl ⟨Nat.le_of_ble_eq_true rfl, Nat.le_of_ble_eq_true rfl⟩ rfl hl.1 rfl (Nat.le_of_ble_eq_true rfl) dX3_readCart_45 ⟨Nat.zero_le _, Nat.zero_le _⟩) (fun r9 σ9 H locs hw hP hS => ?_)
  rw [show σ9 = σ_9 from hw.2] at hP
  rw [show r9 = r_10 from hw.1]
  refine lv_if_eq (tgt := 59) hx hb dX3_readCart_48 (by decide) (fun c_11 => ?_) (fun c_11 => ?_)
  · replace h := it_t h c_11
    exact r_vret C0 X hP hS hr hlk dX3_readCart_59 (Option.some.inj h)
  · replace h := it_f h c_11
    refine lv_aload_n hx hb dX3_readCart_51 rfl (lv_at hl 0 rfl) ?_
    refine lv_aload_n hx hb dX3_readCart_52 rfl (lv_at hl 0 rfl) ?_
    obtain ⟨σ_12, r_13, eσ_12, h⟩ := bnd2 h
    refine r_ci X hS (r_runV (As := []) (rest := [.ref (ad 85)]) C0 X hP L_X3_75 (fun sz => c_X3_number l D cA ad o σ_9   (σ_12, r_13) eσ_12 sz) (show 85 < 106 ∧ kd 85 = (3, 8) from ⟨by decide, rfl⟩).1 (show 85 < 106 ∧ kd 85 = (3, 8) from ⟨by decide, rfl⟩).2 (by decide) rfl ⟨Nat.le_of_ble_eq_true rfl, Nat.le_of_ble_eq_true rfl⟩ rfl hl.1 rfl (Nat.le_of_ble_eq_true rfl) dX3_readCart_53 ⟨Nat.zero_le _, Nat.zero_le _⟩) (fun r9 σ9 H locs hw hP hS => ?_)
    rw [show σ9 = σ_12 from hw.2] at hP
    rw [show r9 = r_13 from hw.1]
    refine pf_X3_49 C0 X hP hS 85 ⟨by decide, rfl⟩ dX3_readCart_56 (fun H locs hP hS => ?_)
    exact r_vret C0 X hP hS hr hlk dX3_readCart_59 (Option.some.inj h)
def bB_cX3_readStatement : Nat := 0xb14000b63b102a1600b5042a0800a73d00b62a0f00a73a00b62a1600a73700b62a430000007800000043000000760000004a0000007500000043000000720000003c000000700000004a000000640000000600000051000000000000ab2800b42a3400b5032a3100b5032a2e00b5032a2b00b5032a2800b52400b62a2a
theorem yB_cX3_readStatement : BYS cX3_readStatement 125 bB_cX3_readStatement := BYS_of (by decide +kernel)
theorem dX3_readStatement_0 : decode cX3_readStatement 0 = .ok (.aload_n 0, 1) := D_42 yB_cX3_readStatement rfl rfl
theorem dX3_readStatement_1 : decode cX3_readStatement 1 = .ok (.aload_n 0, 1) := D_42 yB_cX3_readStatement rfl rfl
theorem dX3_readStatement_2 : decode cX3_readStatement 2 = .ok (.invokevirtual 36, 3) := D_182 yB_cX3_readStatement rfl rfl rfl
theorem dX3_readStatement_5 : decode cX3_readStatement 5 = .ok (.putfield 40, 3) := D_181 yB_cX3_readStatement rfl rfl rfl
theorem dX3_readStatement_8 : decode cX3_readStatement 8 = .ok (.aload_n 0, 1) := D_42 yB_cX3_readStatement rfl rfl
theorem dX3_readStatement_9 : decode cX3_readStatement 9 = .ok (.iconst 0, 1) := D_3 yB_cX3_readStatement rfl rfl
theorem dX3_readStatement_10 : decode cX3_readStatement 10 = .ok (.putfield 43, 3) := D_181 yB_cX3_readStatement rfl rfl rfl
theorem dX3_readStatement_13 : decode cX3_readStatement 13 = .ok (.aload_n 0, 1) := D_42 yB_cX3_readStatement rfl rfl
theorem dX3_readStatement_14 : decode cX3_readStatement 14 = .ok (.iconst 0, 1) := D_3 yB_cX3_readStatement rfl rfl
theorem dX3_readStatement_15 : decode cX3_readStatement 15 = .ok (.putfield 46, 3) := D_181 yB_cX3_readStatement rfl rfl rfl
theorem dX3_readStatement_18 : decode cX3_readStatement 18 = .ok (.aload_n 0, 1) := D_42 yB_cX3_readStatement rfl rfl
theorem dX3_readStatement_19 : decode cX3_readStatement 19 = .ok (.iconst 0, 1) := D_3 yB_cX3_readStatement rfl rfl
theorem dX3_readStatement_20 : decode cX3_readStatement 20 = .ok (.putfield 49, 3) := D_181 yB_cX3_readStatement rfl rfl rfl
theorem dX3_readStatement_23 : decode cX3_readStatement 23 = .ok (.aload_n 0, 1) := D_42 yB_cX3_readStatement rfl rfl
theorem dX3_readStatement_24 : decode cX3_readStatement 24 = .ok (.iconst 0, 1) := D_3 yB_cX3_readStatement rfl rfl
theorem dX3_readStatement_25 : decode cX3_readStatement 25 = .ok (.putfield 52, 3) := D_181 yB_cX3_readStatement rfl rfl rfl
theorem dX3_readStatement_28 : decode cX3_readStatement 28 = .ok (.aload_n 0, 1) := D_42 yB_cX3_readStatement rfl rfl
theorem dX3_readStatement_29 : decode cX3_readStatement 29 = .ok (.getfield 40, 3) := D_180 yB_cX3_readStatement rfl rfl rfl
theorem dX3_readStatement_32 : decode cX3_readStatement 32 = .ok (.lookupswitch 81 #[(100, 74), (112, 60), (114, 67), (117, 74), (118, 67), (120, 67)], 60) := by decide +kernel
theorem dX3_readStatement_92 : decode cX3_readStatement 92 = .ok (.aload_n 0, 1) := D_42 yB_cX3_readStatement rfl rfl
theorem dX3_readStatement_93 : decode cX3_readStatement 93 = .ok (.invokevirtual 55, 3) := D_182 yB_cX3_readStatement rfl rfl rfl
theorem dX3_readStatement_96 : decode cX3_readStatement 96 = .ok (.goto 22, 3) := D_167 yB_cX3_readStatement rfl rfl (sg_p (m := 32768) (N := 22) rfl rfl rfl)
theorem dX3_readStatement_99 : decode cX3_readStatement 99 = .ok (.aload_n 0, 1) := D_42 yB_cX3_readStatement rfl rfl
theorem dX3_readStatement_100 : decode cX3_readStatement 100 = .ok (.invokevirtual 58, 3) := D_182 yB_cX3_readStatement rfl rfl rfl
theorem dX3_readStatement_103 : decode cX3_readStatement 103 = .ok (.goto 15, 3) := D_167 yB_cX3_readStatement rfl rfl (sg_p (m := 32768) (N := 15) rfl rfl rfl)
theorem dX3_readStatement_106 : decode cX3_readStatement 106 = .ok (.aload_n 0, 1) := D_42 yB_cX3_readStatement rfl rfl
theorem dX3_readStatement_107 : decode cX3_readStatement 107 = .ok (.invokevirtual 61, 3) := D_182 yB_cX3_readStatement rfl rfl rfl
theorem dX3_readStatement_110 : decode cX3_readStatement 110 = .ok (.goto 8, 3) := D_167 yB_cX3_readStatement rfl rfl (sg_p (m := 32768) (N := 8) rfl rfl rfl)
theorem dX3_readStatement_113 : decode cX3_readStatement 113 = .ok (.aload_n 0, 1) := D_42 yB_cX3_readStatement rfl rfl
theorem dX3_readStatement_114 : decode cX3_readStatement 114 = .ok (.iconst 1, 1) := D_4 yB_cX3_readStatement rfl rfl
theorem dX3_readStatement_115 : decode cX3_readStatement 115 = .ok (.putfield 22, 3) := D_181 yB_cX3_readStatement rfl rfl rfl
theorem dX3_readStatement_118 : decode cX3_readStatement 118 = .ok (.aload_n 0, 1) := D_42 yB_cX3_readStatement rfl rfl
theorem dX3_readStatement_119 : decode cX3_readStatement 119 = .ok (.bipush 59, 2) := D_16 yB_cX3_readStatement rfl rfl (sg_p (m := 128) (N := 59) rfl rfl rfl)
theorem dX3_readStatement_121 : decode cX3_readStatement 121 = .ok (.invokevirtual 64, 3) := D_182 yB_cX3_readStatement rfl rfl rfl
theorem dX3_readStatement_124 : decode cX3_readStatement 124 = .ok (.return_, 1) := D_177 yB_cX3_readStatement rfl rfl
def F_X3_readStatement (σ : Mem)  : Option (Mem) := (F_X3_next σ ).bind fun r_1 => if ((stm (stm (stm (stm (stm σ 85 3 r_1) 85 4 0) 85 5 0) 85 6 0) 85 7 0) 85 3) = 100 then ((F_X3_readCart (stm (stm (stm (stm (stm σ 85 3 r_1) 85 4 0) 85 5 0) 85 6 0) 85 7 0) ).bind fun σ_3 => (F_X3_want σ_3 59).bind fun σ_4 => some σ_4) else (if ((stm (stm (stm (stm (stm σ 85 3 r_1) 85 4 0) 85 5 0) 85 6 0) 85 7 0) 85 3) = 112 then ((F_X3_readPiece (stm (stm (stm (stm (stm σ 85 3 r_1) 85 4 0) 85 5 0) 85 6 0) 85 7 0) ).bind fun σ_6 => (F_X3_want σ_6 59).bind fun σ_7 => some σ_7) else (if ((stm (stm (stm (stm (stm σ 85 3 r_1) 85 4 0) 85 5 0) 85 6 0) 85 7 0) 85 3) = 114 then ((F_X3_readPair (stm (stm (stm (stm (stm σ 85 3 r_1) 85 4 0) 85 5 0) 85 6 0) 85 7 0) ).bind fun σ_9 => (F_X3_want σ_9 59).bind fun σ_10 => some σ_10) else (if ((stm (stm (stm (stm (stm σ 85 3 r_1) 85 4 0) 85 5 0) 85 6 0) 85 7 0) 85 3) = 117 then ((F_X3_readCart (stm (stm (stm (stm (stm σ 85 3 r_1) 85 4 0) 85 5 0) 85 6 0) 85 7 0) ).bind fun σ_12 => (F_X3_want σ_12 59).bind fun σ_13 => some σ_13) else (if ((stm (stm (stm (stm (stm σ 85 3 r_1) 85 4 0) 85 5 0) 85 6 0) 85 7 0) 85 3) = 118 then ((F_X3_readPair (stm (stm (stm (stm (stm σ 85 3 r_1) 85 4 0) 85 5 0) 85 6 0) 85 7 0) ).bind fun σ_15 => (F_X3_want σ_15 59).bind fun σ_16 => some σ_16) else (if ((stm (stm (stm (stm (stm σ 85 3 r_1) 85 4 0) 85 5 0) 85 6 0) 85 7 0) 85 3) = 120 then ((F_X3_readPair (stm (stm (stm (stm (stm σ 85 3 r_1) 85 4 0) 85 5 0) 85 6 0) 85 7 0) ).bind fun σ_18 => (F_X3_want σ_18 59).bind fun σ_19 => some σ_19) else ((F_X3_want (stm (stm (stm (stm (stm (stm σ 85 3 r_1) 85 4 0) 85 5 0) 85 6 0) 85 7 0) 85 2 1) 59).bind fun σ_20 => some σ_20))))))
set_option maxHeartbeats 4000000 in
set_option maxRecDepth 100000 in
theorem c_X3_readStatement (l : Launch) (D : va_G) (cA : Nat → ClassId) (ad : Nat → Nat) (o : Int64) (σ : Mem)   (res : Mem) (h : F_X3_readStatement σ  = some res) (sz : Nat) : Met l yX3_readStatement (WY yX3_readStatement cX3_readStatement 1 none) (RM 4) (va_Pc [.ref (ad 85)] (PW D cA ad o σ sz)) (va_Qv (fun σ9 => σ9 = res) (QW D cA ad o) (FA ad sz)) 0 0 (FA ad sz) := by
  refine ct_of (own := RX3) (k := 4) (Qf := va_Qv (fun σ9 => σ9 = res) (QW D cA ad o)) rfl (by decide) (Nat.le_of_ble_eq_true rfl) (fun p e s m below meth c ls C0 X hr hlk hP hl => ?_) sz
  have hS : va_S (FA ad s.heap.size) s.heap s.heap [] := va_S.rf
  have hl : lv_has ls 1 [(0, .ref (ad 85))] := hl
  obtain ⟨hx, hb, hml, hown, hts⟩ := id C0
  unfold F_X3_readStatement at h
  refine lv_aload_n hx hb dX3_readStatement_0 rfl (lv_at hl 0 rfl) ?_
  refine lv_aload_n hx hb dX3_readStatement_1 rfl (lv_at hl 0 rfl) ?_
  obtain ⟨r_1, er_1, h⟩ := bnd h
  refine r_ci X hS (r_runV (As := []) (rest := [.ref (ad 85)]) C0 X hP L_X3_36 (fun sz => c_X3_next l D cA ad o σ   r_1 er_1 sz) (show 85 < 106 ∧ kd 85 = (3, 8) from ⟨by decide, rfl⟩).1 (show 85 < 106 ∧ kd 85 = (3, 8) from ⟨by decide, rfl⟩).2 (by decide) rfl ⟨Nat.le_of_ble_eq_true rfl, Nat.le_of_ble_eq_true rfl⟩ rfl hl.1 rfl (Nat.le_of_ble_eq_true rfl) dX3_readStatement_2 ⟨Nat.zero_le _, Nat.zero_le _⟩) (fun r9 σ9 H locs hw hP hS => ?_)
  rw [hw.2] at hP
  rw [hw.1]
  refine pf_X3_40 C0 X hP hS 85 ⟨by decide, rfl⟩ dX3_readStatement_5 (fun H locs hP hS => ?_)
  refine lv_aload_n hx hb dX3_readStatement_8 rfl (lv_at hl 0 rfl) ?_
  refine lv_iconst (v := 0) hx hb dX3_readStatement_9 (by decide) ?_
  refine pf_X3_43 C0 X hP hS 85 ⟨by decide, rfl⟩ dX3_readStatement_10 (fun H locs hP hS => ?_)
  refine lv_aload_n hx hb dX3_readStatement_13 rfl (lv_at hl 0 rfl) ?_
  refine lv_iconst (v := 0) hx hb dX3_readStatement_14 (by decide) ?_
  refine pf_X3_46 C0 X hP hS 85 ⟨by decide, rfl⟩ dX3_readStatement_15 (fun H locs hP hS => ?_)
  refine lv_aload_n hx hb dX3_readStatement_18 rfl (lv_at hl 0 rfl) ?_
  refine lv_iconst (v := 0) hx hb dX3_readStatement_19 (by decide) ?_
  refine pf_X3_49 C0 X hP hS 85 ⟨by decide, rfl⟩ dX3_readStatement_20 (fun H locs hP hS => ?_)
  refine lv_aload_n hx hb dX3_readStatement_23 rfl (lv_at hl 0 rfl) ?_
  refine lv_iconst (v := 0) hx hb dX3_readStatement_24 (by decide) ?_
  refine pf_X3_52 C0 X hP hS 85 (Or.inl rfl) ⟨by decide, rfl⟩ dX3_readStatement_25 (fun H locs hP hS => ?_)
  refine lv_aload_n hx hb dX3_readStatement_28 rfl (lv_at hl 0 rfl) ?_
  refine gf_X3_40 C0 X hP 85 ⟨by decide, rfl⟩ dX3_readStatement_29 ?_
  by_cases c_2 : ((stm (stm (stm (stm (stm σ 85 3 r_1) 85 4 0) 85 5 0) 85 6 0) 85 7 0) 85 3) = 100
  · replace h := it_t h c_2
    refine lv_lookup (off := 74) (tgt := 106) hx hb dX3_readStatement_32 (by decide) (by rw [c_2]; decide) (by decide) ?_
    refine lv_aload_n hx hb dX3_readStatement_106 rfl (lv_at hl 0 rfl) ?_
    obtain ⟨σ_3, eσ_3, h⟩ := bnd h
    refine r_cv X hS (r_runV (As := []) (rest := []) C0 X hP L_X3_61 (fun sz => c_X3_readCart l D cA ad o (stm (stm (stm (stm (stm σ 85 3 r_1) 85 4 0) 85 5 0) 85 6 0) 85 7 0)   σ_3 eσ_3 sz) (show 85 < 106 ∧ kd 85 = (3, 8) from ⟨by decide, rfl⟩).1 (show 85 < 106 ∧ kd 85 = (3, 8) from ⟨by decide, rfl⟩).2 (by decide) rfl ⟨Nat.le_of_ble_eq_true rfl, Nat.le_of_ble_eq_true rfl⟩ rfl hl.1 rfl (Nat.le_of_ble_eq_true rfl) dX3_readStatement_107 ⟨Nat.zero_le _, Nat.zero_le _⟩) (fun σ9 H locs hw hP hS => ?_)
    rw [show σ9 = σ_3 from hw] at hP
    refine lv_goto (tgt := 118) hx hb dX3_readStatement_110 (by decide) ?_
    refine lv_aload_n hx hb dX3_readStatement_118 rfl (lv_at hl 0 rfl) ?_
    refine lv_bipush (v := 59) hx hb dX3_readStatement_119 (by decide) ?_
    obtain ⟨σ_4, eσ_4, h⟩ := bnd h
    refine r_cv X hS (r_runV (As := [.int 59]) (rest := []) C0 X hP L_X3_64 (fun sz => c_X3_want l D cA ad o σ_3 59  σ_4 eσ_4 sz) (show 85 < 106 ∧ kd 85 = (3, 8) from ⟨by decide, rfl⟩).1 (show 85 < 106 ∧ kd 85 = (3, 8) from ⟨by decide, rfl⟩).2 (by decide) rfl ⟨Nat.le_of_ble_eq_true rfl, Nat.le_of_ble_eq_true rfl⟩ rfl hl.1 rfl (Nat.le_of_ble_eq_true rfl) dX3_readStatement_121 ⟨Nat.zero_le _, Nat.zero_le _⟩) (fun σ9 H locs hw hP hS => ?_)
    rw [show σ9 = σ_4 from hw] at hP
    exact r_vret C0 X hP hS hr hlk dX3_readStatement_124 (Option.some.inj h)
  · replace h := it_f h c_2
    by_cases c_5 : ((stm (stm (stm (stm (stm σ 85 3 r_1) 85 4 0) 85 5 0) 85 6 0) 85 7 0) 85 3) = 112
    · replace h := it_t h c_5
      refine lv_lookup (off := 60) (tgt := 92) hx hb dX3_readStatement_32 (by decide) (by rw [c_5]; decide) (by decide) ?_
      refine lv_aload_n hx hb dX3_readStatement_92 rfl (lv_at hl 0 rfl) ?_
      obtain ⟨σ_6, eσ_6, h⟩ := bnd h
      refine r_cv X hS (r_runV (As := []) (rest := []) C0 X hP L_X3_55 (fun sz => c_X3_readPiece l D cA ad o (stm (stm (stm (stm (stm σ 85 3 r_1) 85 4 0) 85 5 0) 85 6 0) 85 7 0)   σ_6 eσ_6 sz) (show 85 < 106 ∧ kd 85 = (3, 8) from ⟨by decide, rfl⟩).1 (show 85 < 106 ∧ kd 85 = (3, 8) from ⟨by decide, rfl⟩).2 (by decide) rfl ⟨Nat.le_of_ble_eq_true rfl, Nat.le_of_ble_eq_true rfl⟩ rfl hl.1 rfl (Nat.le_of_ble_eq_true rfl) dX3_readStatement_93 ⟨Nat.zero_le _, Nat.zero_le _⟩) (fun σ9 H locs hw hP hS => ?_)
      rw [show σ9 = σ_6 from hw] at hP
      refine lv_goto (tgt := 118) hx hb dX3_readStatement_96 (by decide) ?_
      refine lv_aload_n hx hb dX3_readStatement_118 rfl (lv_at hl 0 rfl) ?_
      refine lv_bipush (v := 59) hx hb dX3_readStatement_119 (by decide) ?_
      obtain ⟨σ_7, eσ_7, h⟩ := bnd h
      refine r_cv X hS (r_runV (As := [.int 59]) (rest := []) C0 X hP L_X3_64 (fun sz => c_X3_want l D cA ad o σ_6 59  σ_7 eσ_7 sz) (show 85 < 106 ∧ kd 85 = (3, 8) from ⟨by decide, rfl⟩).1 (show 85 < 106 ∧ kd 85 = (3, 8) from ⟨by decide, rfl⟩).2 (by decide) rfl ⟨Nat.le_of_ble_eq_true rfl, Nat.le_of_ble_eq_true rfl⟩ rfl hl.1 rfl (Nat.le_of_ble_eq_true rfl) dX3_readStatement_121 ⟨Nat.zero_le _, Nat.zero_le _⟩) (fun σ9 H locs hw hP hS => ?_)
      rw [show σ9 = σ_7 from hw] at hP
      exact r_vret C0 X hP hS hr hlk dX3_readStatement_124 (Option.some.inj h)
    · replace h := it_f h c_5
      by_cases c_8 : ((stm (stm (stm (stm (stm σ 85 3 r_1) 85 4 0) 85 5 0) 85 6 0) 85 7 0) 85 3) = 114
      · replace h := it_t h c_8
        refine lv_lookup (off := 67) (tgt := 99) hx hb dX3_readStatement_32 (by decide) (by rw [c_8]; decide) (by decide) ?_
        refine lv_aload_n hx hb dX3_readStatement_99 rfl (lv_at hl 0 rfl) ?_
        obtain ⟨σ_9, eσ_9, h⟩ := bnd h
        refine r_cv X hS (r_runV (As := []) (rest := []) C0 X hP L_X3_58 (fun sz => c_X3_readPair l D cA ad o (stm (stm (stm (stm (stm σ 85 3 r_1) 85 4 0) 85 5 0) 85 6 0) 85 7 0)   σ_9 eσ_9 sz) (show 85 < 106 ∧ kd 85 = (3, 8) from ⟨by decide, rfl⟩).1 (show 85 < 106 ∧ kd 85 = (3, 8) from ⟨by decide, rfl⟩).2 (by decide) rfl ⟨Nat.le_of_ble_eq_true rfl, Nat.le_of_ble_eq_true rfl⟩ rfl hl.1 rfl (Nat.le_of_ble_eq_true rfl) dX3_readStatement_100 ⟨Nat.zero_le _, Nat.zero_le _⟩) (fun σ9 H locs hw hP hS => ?_)
        rw [show σ9 = σ_9 from hw] at hP
        refine lv_goto (tgt := 118) hx hb dX3_readStatement_103 (by decide) ?_
        refine lv_aload_n hx hb dX3_readStatement_118 rfl (lv_at hl 0 rfl) ?_
        refine lv_bipush (v := 59) hx hb dX3_readStatement_119 (by decide) ?_
        obtain ⟨σ_10, eσ_10, h⟩ := bnd h
        refine r_cv X hS (r_runV (As := [.int 59]) (rest := []) C0 X hP L_X3_64 (fun sz => c_X3_want l D cA ad o σ_9 59  σ_10 eσ_10 sz) (show 85 < 106 ∧ kd 85 = (3, 8) from ⟨by decide, rfl⟩).1 (show 85 < 106 ∧ kd 85 = (3, 8) from ⟨by decide, rfl⟩).2 (by decide) rfl ⟨Nat.le_of_ble_eq_true rfl, Nat.le_of_ble_eq_true rfl⟩ rfl hl.1 rfl (Nat.le_of_ble_eq_true rfl) dX3_readStatement_121 ⟨Nat.zero_le _, Nat.zero_le _⟩) (fun σ9 H locs hw hP hS => ?_)
        rw [show σ9 = σ_10 from hw] at hP
        exact r_vret C0 X hP hS hr hlk dX3_readStatement_124 (Option.some.inj h)
      · replace h := it_f h c_8
        by_cases c_11 : ((stm (stm (stm (stm (stm σ 85 3 r_1) 85 4 0) 85 5 0) 85 6 0) 85 7 0) 85 3) = 117
        · replace h := it_t h c_11
          refine lv_lookup (off := 74) (tgt := 106) hx hb dX3_readStatement_32 (by decide) (by rw [c_11]; decide) (by decide) ?_
          refine lv_aload_n hx hb dX3_readStatement_106 rfl (lv_at hl 0 rfl) ?_
          obtain ⟨σ_12, eσ_12, h⟩ := bnd h
          refine r_cv X hS (r_runV (As := []) (rest := []) C0 X hP L_X3_61 (fun sz => c_X3_readCart l D cA ad o (stm (stm (stm (stm (stm σ 85 3 r_1) 85 4 0) 85 5 0) 85 6 0) 85 7 0)   σ_12 eσ_12 sz) (show 85 < 106 ∧ kd 85 = (3, 8) from ⟨by decide, rfl⟩).1 (show 85 < 106 ∧ kd 85 = (3, 8) from ⟨by decide, rfl⟩).2 (by decide) rfl ⟨Nat.le_of_ble_eq_true rfl, Nat.le_of_ble_eq_true rfl⟩ rfl hl.1 rfl (Nat.le_of_ble_eq_true rfl) dX3_readStatement_107 ⟨Nat.zero_le _, Nat.zero_le _⟩) (fun σ9 H locs hw hP hS => ?_)
          rw [show σ9 = σ_12 from hw] at hP
          refine lv_goto (tgt := 118) hx hb dX3_readStatement_110 (by decide) ?_
          refine lv_aload_n hx hb dX3_readStatement_118 rfl (lv_at hl 0 rfl) ?_
          refine lv_bipush (v := 59) hx hb dX3_readStatement_119 (by decide) ?_
          obtain ⟨σ_13, eσ_13, h⟩ := bnd h
          refine r_cv X hS (r_runV (As := [.int 59]) (rest := []) C0 X hP L_X3_64 (fun sz => c_X3_want l D cA ad o σ_12 59  σ_13 eσ_13 sz) (show 85 < 106 ∧ kd 85 = (3, 8) from ⟨by decide, rfl⟩).1 (show 85 < 106 ∧ kd 85 = (3, 8) from ⟨by decide, rfl⟩).2 (by decide) rfl ⟨Nat.le_of_ble_eq_true rfl, Nat.le_of_ble_eq_true rfl⟩ rfl hl.1 rfl (Nat.le_of_ble_eq_true rfl) dX3_readStatement_121 ⟨Nat.zero_le _, Nat.zero_le _⟩) (fun σ9 H locs hw hP hS => ?_)
          rw [show σ9 = σ_13 from hw] at hP
          exact r_vret C0 X hP hS hr hlk dX3_readStatement_124 (Option.some.inj h)
        · replace h := it_f h c_11
          by_cases c_14 : ((stm (stm (stm (stm (stm σ 85 3 r_1) 85 4 0) 85 5 0) 85 6 0) 85 7 0) 85 3) = 118
          · replace h := it_t h c_14
            refine lv_lookup (off := 67) (tgt := 99) hx hb dX3_readStatement_32 (by decide) (by rw [c_14]; decide) (by decide) ?_
            refine lv_aload_n hx hb dX3_readStatement_99 rfl (lv_at hl 0 rfl) ?_
            obtain ⟨σ_15, eσ_15, h⟩ := bnd h
            refine r_cv X hS (r_runV (As := []) (rest := []) C0 X hP L_X3_58 (fun sz => c_X3_readPair l D cA ad o (stm (stm (stm (stm (stm σ 85 3 r_1) 85 4 0) 85 5 0) 85 6 0) 85 7 0)   σ_15 eσ_15 sz) (show 85 < 106 ∧ kd 85 = (3, 8) from ⟨by decide, rfl⟩).1 (show 85 < 106 ∧ kd 85 = (3, 8) from ⟨by decide, rfl⟩).2 (by decide) rfl ⟨Nat.le_of_ble_eq_true rfl, Nat.le_of_ble_eq_true rfl⟩ rfl hl.1 rfl (Nat.le_of_ble_eq_true rfl) dX3_readStatement_100 ⟨Nat.zero_le _, Nat.zero_le _⟩) (fun σ9 H locs hw hP hS => ?_)
            rw [show σ9 = σ_15 from hw] at hP
            refine lv_goto (tgt := 118) hx hb dX3_readStatement_103 (by decide) ?_
            refine lv_aload_n hx hb dX3_readStatement_118 rfl (lv_at hl 0 rfl) ?_
            refine lv_bipush (v := 59) hx hb dX3_readStatement_119 (by decide) ?_
            obtain ⟨σ_16, eσ_16, h⟩ := bnd h
            refine r_cv X hS (r_runV (As := [.int 59]) (rest := []) C0 X hP L_X3_64 (fun sz => c_X3_want l D cA ad o σ_15 59  σ_16 eσ_16 sz) (show 85 < 106 ∧ kd 85 = (3, 8) from ⟨by decide, rfl⟩).1 (show 85 < 106 ∧ kd 85 = (3, 8) from ⟨by decide, rfl⟩).2 (by decide) rfl ⟨Nat.le_of_ble_eq_true rfl, Nat.le_of_ble_eq_true rfl⟩ rfl hl.1 rfl (Nat.le_of_ble_eq_true rfl) dX3_readStatement_121 ⟨Nat.zero_le _, Nat.zero_le _⟩) (fun σ9 H locs hw hP hS => ?_)
            rw [show σ9 = σ_16 from hw] at hP
            exact r_vret C0 X hP hS hr hlk dX3_readStatement_124 (Option.some.inj h)
          · replace h := it_f h c_14
            by_cases c_17 : ((stm (stm (stm (stm (stm σ 85 3 r_1) 85 4 0) 85 5 0) 85 6 0) 85 7 0) 85 3) = 120
            · replace h := it_t h c_17
              refine lv_lookup (off := 67) (tgt := 99) hx hb dX3_readStatement_32 (by decide) (by rw [c_17]; decide) (by decide) ?_
              refine lv_aload_n hx hb dX3_readStatement_99 rfl (lv_at hl 0 rfl) ?_
              obtain ⟨σ_18, eσ_18, h⟩ := bnd h
              refine r_cv X hS (r_runV (As := []) (rest := []) C0 X hP L_X3_58 (fun sz => c_X3_readPair l D cA ad o (stm (stm (stm (stm (stm σ 85 3 r_1) 85 4 0) 85 5 0) 85 6 0) 85 7 0)   σ_18 eσ_18 sz) (show 85 < 106 ∧ kd 85 = (3, 8) from ⟨by decide, rfl⟩).1 (show 85 < 106 ∧ kd 85 = (3, 8) from ⟨by decide, rfl⟩).2 (by decide) rfl ⟨Nat.le_of_ble_eq_true rfl, Nat.le_of_ble_eq_true rfl⟩ rfl hl.1 rfl (Nat.le_of_ble_eq_true rfl) dX3_readStatement_100 ⟨Nat.zero_le _, Nat.zero_le _⟩) (fun σ9 H locs hw hP hS => ?_)
              rw [show σ9 = σ_18 from hw] at hP
              refine lv_goto (tgt := 118) hx hb dX3_readStatement_103 (by decide) ?_
              refine lv_aload_n hx hb dX3_readStatement_118 rfl (lv_at hl 0 rfl) ?_
              refine lv_bipush (v := 59) hx hb dX3_readStatement_119 (by decide) ?_
              obtain ⟨σ_19, eσ_19, h⟩ := bnd h
              refine r_cv X hS (r_runV (As := [.int 59]) (rest := []) C0 X hP L_X3_64 (fun sz => c_X3_want l D cA ad o σ_18 59  σ_19 eσ_19 sz) (show 85 < 106 ∧ kd 85 = (3, 8) from ⟨by decide, rfl⟩).1 (show 85 < 106 ∧ kd 85 = (3, 8) from ⟨by decide, rfl⟩).2 (by decide) rfl ⟨Nat.le_of_ble_eq_true rfl, Nat.le_of_ble_eq_true rfl⟩ rfl hl.1 rfl (Nat.le_of_ble_eq_true rfl) dX3_readStatement_121 ⟨Nat.zero_le _, Nat.zero_le _⟩) (fun σ9 H locs hw hP hS => ?_)
              rw [show σ9 = σ_19 from hw] at hP
              exact r_vret C0 X hP hS hr hlk dX3_readStatement_124 (Option.some.inj h)
            · replace h := it_f h c_17
              refine lv_lookup (off := 81) (tgt := 113) hx hb dX3_readStatement_32 (by decide) ((lv_osw (k := 100) (a := 100) c_2 (by decide)).trans ((lv_osw (k := 112) (a := 112) c_5 (by decide)).trans ((lv_osw (k := 114) (a := 114) c_8 (by decide)).trans ((lv_osw (k := 117) (a := 117) c_11 (by decide)).trans ((lv_osw (k := 118) (a := 118) c_14 (by decide)).trans ((lv_osw (k := 120) (a := 120) c_17 (by decide)).trans rfl)))))) (by decide) ?_
              refine lv_aload_n hx hb dX3_readStatement_113 rfl (lv_at hl 0 rfl) ?_
              refine lv_iconst (v := 1) hx hb dX3_readStatement_114 (by decide) ?_
              refine pf_X3_22 C0 X hP hS 85 (Or.inr rfl) ⟨by decide, rfl⟩ dX3_readStatement_115 (fun H locs hP hS => ?_)
              refine lv_aload_n hx hb dX3_readStatement_118 rfl (lv_at hl 0 rfl) ?_
              refine lv_bipush (v := 59) hx hb dX3_readStatement_119 (by decide) ?_
              obtain ⟨σ_20, eσ_20, h⟩ := bnd h
              refine r_cv X hS (r_runV (As := [.int 59]) (rest := []) C0 X hP L_X3_64 (fun sz => c_X3_want l D cA ad o (stm (stm (stm (stm (stm (stm σ 85 3 r_1) 85 4 0) 85 5 0) 85 6 0) 85 7 0) 85 2 1) 59  σ_20 eσ_20 sz) (show 85 < 106 ∧ kd 85 = (3, 8) from ⟨by decide, rfl⟩).1 (show 85 < 106 ∧ kd 85 = (3, 8) from ⟨by decide, rfl⟩).2 (by decide) rfl ⟨Nat.le_of_ble_eq_true rfl, Nat.le_of_ble_eq_true rfl⟩ rfl hl.1 rfl (Nat.le_of_ble_eq_true rfl) dX3_readStatement_121 ⟨Nat.zero_le _, Nat.zero_le _⟩) (fun σ9 H locs hw hP hS => ?_)
              rw [show σ9 = σ_20 from hw] at hP
              exact r_vret C0 X hP hS hr hlk dX3_readStatement_124 (Option.some.inj h)
def bB_cX3_fulfil : Nat := 0xac030400a7040700996f00b63100b42a3400b42a2e00b42a2b00b42a030400a7040700a075102800b42a2b2c009a1cac6b00b63100b42a2e00b42a2b00b42a5b00b42bac6800b62e00b42a2b00b42a5b00b42bac030400a7040700996500b62e00b42a2b00b42a5b00b42b19009a1cac030400a7040700995f00b62e00b42a2b00b42a5b00b42b19009a1c7b0000008f0000006b0000008f0000008f0000008f0000004f0000008f0000003300000078000000700000008f0000000000aa2800b42a3d030400a70407009e5600b42b
theorem yB_cX3_fulfil : BYS cX3_fulfil 207 bB_cX3_fulfil := BYS_of (by decide +kernel)
theorem dX3_fulfil_0 : decode cX3_fulfil 0 = .ok (.aload_n 1, 1) := D_43 yB_cX3_fulfil rfl rfl
theorem dX3_fulfil_1 : decode cX3_fulfil 1 = .ok (.getfield 86, 3) := D_180 yB_cX3_fulfil rfl rfl rfl
theorem dX3_fulfil_4 : decode cX3_fulfil 4 = .ok (.ifCond .le 7, 3) := D_158 yB_cX3_fulfil rfl rfl (sg_p (m := 32768) (N := 7) rfl rfl rfl)
theorem dX3_fulfil_7 : decode cX3_fulfil 7 = .ok (.iconst 1, 1) := D_4 yB_cX3_fulfil rfl rfl
theorem dX3_fulfil_8 : decode cX3_fulfil 8 = .ok (.goto 4, 3) := D_167 yB_cX3_fulfil rfl rfl (sg_p (m := 32768) (N := 4) rfl rfl rfl)
theorem dX3_fulfil_11 : decode cX3_fulfil 11 = .ok (.iconst 0, 1) := D_3 yB_cX3_fulfil rfl rfl
theorem dX3_fulfil_12 : decode cX3_fulfil 12 = .ok (.istore_n 2, 1) := D_61 yB_cX3_fulfil rfl rfl
theorem dX3_fulfil_13 : decode cX3_fulfil 13 = .ok (.aload_n 0, 1) := D_42 yB_cX3_fulfil rfl rfl
theorem dX3_fulfil_14 : decode cX3_fulfil 14 = .ok (.getfield 40, 3) := D_180 yB_cX3_fulfil rfl rfl rfl
theorem dX3_fulfil_17 : decode cX3_fulfil 17 = .ok (.tableswitch 143 112 120 #[51, 143, 79, 143, 143, 143, 107, 143, 123], 51) := by decide +kernel
theorem dX3_fulfil_68 : decode cX3_fulfil 68 = .ok (.iload_n 2, 1) := D_28 yB_cX3_fulfil rfl rfl
theorem dX3_fulfil_69 : decode cX3_fulfil 69 = .ok (.ifCond .ne 25, 3) := D_154 yB_cX3_fulfil rfl rfl (sg_p (m := 32768) (N := 25) rfl rfl rfl)
theorem dX3_fulfil_72 : decode cX3_fulfil 72 = .ok (.aload_n 1, 1) := D_43 yB_cX3_fulfil rfl rfl
theorem dX3_fulfil_73 : decode cX3_fulfil 73 = .ok (.getfield 91, 3) := D_180 yB_cX3_fulfil rfl rfl rfl
theorem dX3_fulfil_76 : decode cX3_fulfil 76 = .ok (.aload_n 0, 1) := D_42 yB_cX3_fulfil rfl rfl
theorem dX3_fulfil_77 : decode cX3_fulfil 77 = .ok (.getfield 43, 3) := D_180 yB_cX3_fulfil rfl rfl rfl
theorem dX3_fulfil_80 : decode cX3_fulfil 80 = .ok (.aload_n 0, 1) := D_42 yB_cX3_fulfil rfl rfl
theorem dX3_fulfil_81 : decode cX3_fulfil 81 = .ok (.getfield 46, 3) := D_180 yB_cX3_fulfil rfl rfl rfl
theorem dX3_fulfil_84 : decode cX3_fulfil 84 = .ok (.invokevirtual 95, 3) := D_182 yB_cX3_fulfil rfl rfl rfl
theorem dX3_fulfil_87 : decode cX3_fulfil 87 = .ok (.ifCond .eq 7, 3) := D_153 yB_cX3_fulfil rfl rfl (sg_p (m := 32768) (N := 7) rfl rfl rfl)
theorem dX3_fulfil_90 : decode cX3_fulfil 90 = .ok (.iconst 1, 1) := D_4 yB_cX3_fulfil rfl rfl
theorem dX3_fulfil_91 : decode cX3_fulfil 91 = .ok (.goto 4, 3) := D_167 yB_cX3_fulfil rfl rfl (sg_p (m := 32768) (N := 4) rfl rfl rfl)
theorem dX3_fulfil_94 : decode cX3_fulfil 94 = .ok (.iconst 0, 1) := D_3 yB_cX3_fulfil rfl rfl
theorem dX3_fulfil_95 : decode cX3_fulfil 95 = .ok (.ireturn, 1) := D_172 yB_cX3_fulfil rfl rfl
theorem dX3_fulfil_96 : decode cX3_fulfil 96 = .ok (.iload_n 2, 1) := D_28 yB_cX3_fulfil rfl rfl
theorem dX3_fulfil_97 : decode cX3_fulfil 97 = .ok (.ifCond .ne 25, 3) := D_154 yB_cX3_fulfil rfl rfl (sg_p (m := 32768) (N := 25) rfl rfl rfl)
theorem dX3_fulfil_100 : decode cX3_fulfil 100 = .ok (.aload_n 1, 1) := D_43 yB_cX3_fulfil rfl rfl
theorem dX3_fulfil_101 : decode cX3_fulfil 101 = .ok (.getfield 91, 3) := D_180 yB_cX3_fulfil rfl rfl rfl
theorem dX3_fulfil_104 : decode cX3_fulfil 104 = .ok (.aload_n 0, 1) := D_42 yB_cX3_fulfil rfl rfl
theorem dX3_fulfil_105 : decode cX3_fulfil 105 = .ok (.getfield 43, 3) := D_180 yB_cX3_fulfil rfl rfl rfl
theorem dX3_fulfil_108 : decode cX3_fulfil 108 = .ok (.aload_n 0, 1) := D_42 yB_cX3_fulfil rfl rfl
theorem dX3_fulfil_109 : decode cX3_fulfil 109 = .ok (.getfield 46, 3) := D_180 yB_cX3_fulfil rfl rfl rfl
theorem dX3_fulfil_112 : decode cX3_fulfil 112 = .ok (.invokevirtual 101, 3) := D_182 yB_cX3_fulfil rfl rfl rfl
theorem dX3_fulfil_115 : decode cX3_fulfil 115 = .ok (.ifCond .eq 7, 3) := D_153 yB_cX3_fulfil rfl rfl (sg_p (m := 32768) (N := 7) rfl rfl rfl)
theorem dX3_fulfil_118 : decode cX3_fulfil 118 = .ok (.iconst 1, 1) := D_4 yB_cX3_fulfil rfl rfl
theorem dX3_fulfil_119 : decode cX3_fulfil 119 = .ok (.goto 4, 3) := D_167 yB_cX3_fulfil rfl rfl (sg_p (m := 32768) (N := 4) rfl rfl rfl)
theorem dX3_fulfil_122 : decode cX3_fulfil 122 = .ok (.iconst 0, 1) := D_3 yB_cX3_fulfil rfl rfl
theorem dX3_fulfil_123 : decode cX3_fulfil 123 = .ok (.ireturn, 1) := D_172 yB_cX3_fulfil rfl rfl
theorem dX3_fulfil_124 : decode cX3_fulfil 124 = .ok (.aload_n 1, 1) := D_43 yB_cX3_fulfil rfl rfl
theorem dX3_fulfil_125 : decode cX3_fulfil 125 = .ok (.getfield 91, 3) := D_180 yB_cX3_fulfil rfl rfl rfl
theorem dX3_fulfil_128 : decode cX3_fulfil 128 = .ok (.aload_n 0, 1) := D_42 yB_cX3_fulfil rfl rfl
theorem dX3_fulfil_129 : decode cX3_fulfil 129 = .ok (.getfield 43, 3) := D_180 yB_cX3_fulfil rfl rfl rfl
theorem dX3_fulfil_132 : decode cX3_fulfil 132 = .ok (.aload_n 0, 1) := D_42 yB_cX3_fulfil rfl rfl
theorem dX3_fulfil_133 : decode cX3_fulfil 133 = .ok (.getfield 46, 3) := D_180 yB_cX3_fulfil rfl rfl rfl
theorem dX3_fulfil_136 : decode cX3_fulfil 136 = .ok (.invokevirtual 104, 3) := D_182 yB_cX3_fulfil rfl rfl rfl
theorem dX3_fulfil_139 : decode cX3_fulfil 139 = .ok (.ireturn, 1) := D_172 yB_cX3_fulfil rfl rfl
theorem dX3_fulfil_140 : decode cX3_fulfil 140 = .ok (.aload_n 1, 1) := D_43 yB_cX3_fulfil rfl rfl
theorem dX3_fulfil_141 : decode cX3_fulfil 141 = .ok (.getfield 91, 3) := D_180 yB_cX3_fulfil rfl rfl rfl
theorem dX3_fulfil_144 : decode cX3_fulfil 144 = .ok (.aload_n 0, 1) := D_42 yB_cX3_fulfil rfl rfl
theorem dX3_fulfil_145 : decode cX3_fulfil 145 = .ok (.getfield 43, 3) := D_180 yB_cX3_fulfil rfl rfl rfl
theorem dX3_fulfil_148 : decode cX3_fulfil 148 = .ok (.aload_n 0, 1) := D_42 yB_cX3_fulfil rfl rfl
theorem dX3_fulfil_149 : decode cX3_fulfil 149 = .ok (.getfield 46, 3) := D_180 yB_cX3_fulfil rfl rfl rfl
theorem dX3_fulfil_152 : decode cX3_fulfil 152 = .ok (.aload_n 0, 1) := D_42 yB_cX3_fulfil rfl rfl
theorem dX3_fulfil_153 : decode cX3_fulfil 153 = .ok (.getfield 49, 3) := D_180 yB_cX3_fulfil rfl rfl rfl
theorem dX3_fulfil_156 : decode cX3_fulfil 156 = .ok (.invokevirtual 107, 3) := D_182 yB_cX3_fulfil rfl rfl rfl
theorem dX3_fulfil_159 : decode cX3_fulfil 159 = .ok (.ireturn, 1) := D_172 yB_cX3_fulfil rfl rfl
theorem dX3_fulfil_160 : decode cX3_fulfil 160 = .ok (.iload_n 2, 1) := D_28 yB_cX3_fulfil rfl rfl
theorem dX3_fulfil_161 : decode cX3_fulfil 161 = .ok (.ifCond .ne 44, 3) := D_154 yB_cX3_fulfil rfl rfl (sg_p (m := 32768) (N := 44) rfl rfl rfl)
theorem dX3_fulfil_164 : decode cX3_fulfil 164 = .ok (.aload_n 1, 1) := D_43 yB_cX3_fulfil rfl rfl
theorem dX3_fulfil_165 : decode cX3_fulfil 165 = .ok (.aload_n 0, 1) := D_42 yB_cX3_fulfil rfl rfl
theorem dX3_fulfil_166 : decode cX3_fulfil 166 = .ok (.getfield 40, 3) := D_180 yB_cX3_fulfil rfl rfl rfl
theorem dX3_fulfil_169 : decode cX3_fulfil 169 = .ok (.bipush 117, 2) := D_16 yB_cX3_fulfil rfl rfl (sg_p (m := 128) (N := 117) rfl rfl rfl)
theorem dX3_fulfil_171 : decode cX3_fulfil 171 = .ok (.if_icmp .ne 7, 3) := D_160 yB_cX3_fulfil rfl rfl (sg_p (m := 32768) (N := 7) rfl rfl rfl)
theorem dX3_fulfil_174 : decode cX3_fulfil 174 = .ok (.iconst 1, 1) := D_4 yB_cX3_fulfil rfl rfl
theorem dX3_fulfil_175 : decode cX3_fulfil 175 = .ok (.goto 4, 3) := D_167 yB_cX3_fulfil rfl rfl (sg_p (m := 32768) (N := 4) rfl rfl rfl)
theorem dX3_fulfil_178 : decode cX3_fulfil 178 = .ok (.iconst 0, 1) := D_3 yB_cX3_fulfil rfl rfl
theorem dX3_fulfil_179 : decode cX3_fulfil 179 = .ok (.aload_n 0, 1) := D_42 yB_cX3_fulfil rfl rfl
theorem dX3_fulfil_180 : decode cX3_fulfil 180 = .ok (.getfield 43, 3) := D_180 yB_cX3_fulfil rfl rfl rfl
theorem dX3_fulfil_183 : decode cX3_fulfil 183 = .ok (.aload_n 0, 1) := D_42 yB_cX3_fulfil rfl rfl
theorem dX3_fulfil_184 : decode cX3_fulfil 184 = .ok (.getfield 46, 3) := D_180 yB_cX3_fulfil rfl rfl rfl
theorem dX3_fulfil_187 : decode cX3_fulfil 187 = .ok (.aload_n 0, 1) := D_42 yB_cX3_fulfil rfl rfl
theorem dX3_fulfil_188 : decode cX3_fulfil 188 = .ok (.getfield 52, 3) := D_180 yB_cX3_fulfil rfl rfl rfl
theorem dX3_fulfil_191 : decode cX3_fulfil 191 = .ok (.aload_n 0, 1) := D_42 yB_cX3_fulfil rfl rfl
theorem dX3_fulfil_192 : decode cX3_fulfil 192 = .ok (.getfield 49, 3) := D_180 yB_cX3_fulfil rfl rfl rfl
theorem dX3_fulfil_195 : decode cX3_fulfil 195 = .ok (.invokevirtual 111, 3) := D_182 yB_cX3_fulfil rfl rfl rfl
theorem dX3_fulfil_198 : decode cX3_fulfil 198 = .ok (.ifCond .eq 7, 3) := D_153 yB_cX3_fulfil rfl rfl (sg_p (m := 32768) (N := 7) rfl rfl rfl)
theorem dX3_fulfil_201 : decode cX3_fulfil 201 = .ok (.iconst 1, 1) := D_4 yB_cX3_fulfil rfl rfl
theorem dX3_fulfil_202 : decode cX3_fulfil 202 = .ok (.goto 4, 3) := D_167 yB_cX3_fulfil rfl rfl (sg_p (m := 32768) (N := 4) rfl rfl rfl)
theorem dX3_fulfil_205 : decode cX3_fulfil 205 = .ok (.iconst 0, 1) := D_3 yB_cX3_fulfil rfl rfl
theorem dX3_fulfil_206 : decode cX3_fulfil 206 = .ok (.ireturn, 1) := D_172 yB_cX3_fulfil rfl rfl
def F_X3_fulfil (σ : Mem) (t1 : Nat) : Option (Mem × Int32) := if (σ (22 * t1) 3) ≤ 0 then (if (σ 85 3) = 112 then (bd2 (F_X4_addPiece σ t1 (σ 85 4) (σ 85 5)) fun σ_13 r_14 => if r_14 = 0 then (some (σ_13, 0)) else (some (σ_13, 1))) else (if (σ 85 3) = 114 then (bd2 (F_X4_tellRoom σ t1 (σ 85 4) (σ 85 5)) fun σ_27 r_28 => if r_28 = 0 then (some (σ_27, 0)) else (some (σ_27, 1))) else (if (σ 85 3) = 118 then (bd2 (F_X4_tellVillage σ t1 (σ 85 4) (σ 85 5)) fun σ_58 r_59 => ck (r_59 = 0 ∨ r_59 = 1) <| some (σ_58, r_59)) else (if (σ 85 3) = 120 then (bd2 (F_X4_tellRule σ t1 (σ 85 4) (σ 85 5) (σ 85 6)) fun σ_71 r_72 => ck (r_72 = 0 ∨ r_72 = 1) <| some (σ_71, r_72)) else (if (σ 85 3) = 117 then (bd2 (F_X6_addCart σ t1 1 (σ 85 4) (σ 85 5) (σ 85 7) (σ 85 6)) fun σ_8 r_9 => if r_9 = 0 then (some (σ_8, 0)) else (some (σ_8, 1))) else (bd2 (F_X6_addCart σ t1 0 (σ 85 4) (σ 85 5) (σ 85 7) (σ 85 6)) fun σ_5 r_6 => if r_6 = 0 then (some (σ_5, 0)) else (some (σ_5, 1)))))))) else (if (σ 85 3) = 112 then (some (σ, 0)) else (if (σ 85 3) = 114 then (some (σ, 0)) else (if (σ 85 3) = 118 then (bd2 (F_X4_tellVillage σ t1 (σ 85 4) (σ 85 5)) fun σ_89 r_90 => ck (r_90 = 0 ∨ r_90 = 1) <| some (σ_89, r_90)) else (if (σ 85 3) = 120 then (bd2 (F_X4_tellRule σ t1 (σ 85 4) (σ 85 5) (σ 85 6)) fun σ_95 r_96 => ck (r_96 = 0 ∨ r_96 = 1) <| some (σ_95, r_96)) else (some (σ, 0))))))
set_option maxHeartbeats 4000000 in
set_option maxRecDepth 100000 in
theorem c_X3_fulfil (l : Launch) (D : va_G) (cA : Nat → ClassId) (ad : Nat → Nat) (o : Int64) (σ : Mem) (t1 : Nat) (ht1 : t1 < 3) (res : Mem × Int32) (h : F_X3_fulfil σ t1 = some res) (sz : Nat) : Met l yX3_fulfil (WY yX3_fulfil cX3_fulfil 3 (some .boolean)) (RM 2) (va_Pc [.ref (ad 85), .ref (ad (22 * t1))] (PW D cA ad o σ sz)) (va_Qi (fun r σ9 => r = res.2 ∧ σ9 = res.1) (QW D cA ad o) (FA ad sz)) 0 0 (FA ad sz) := by
  refine ct_of (own := RX3) (k := 2) (Qf := va_Qi (fun r σ9 => r = res.2 ∧ σ9 = res.1) (QW D cA ad o)) rfl (by decide) (Nat.le_of_ble_eq_true rfl) (fun p e s m below meth c ls C0 X hr hlk hP hl => ?_) sz
  have hS : va_S (FA ad s.heap.size) s.heap s.heap [] := va_S.rf
  have hl : lv_has ls 3 [(0, .ref (ad 85)), (1, .ref (ad (22 * t1)))] := hl
  obtain ⟨hx, hb, hml, hown, hts⟩ := id C0
  unfold F_X3_fulfil at h
  refine lv_aload_n hx hb dX3_fulfil_0 rfl (lv_at hl 1 rfl) ?_
  refine gf_X3_86 C0 X hP (22 * t1) (kdT t1 ht1) dX3_fulfil_1 ?_
  refine lv_if_le (tgt := 11) hx hb dX3_fulfil_4 (by decide) (fun c_1 => ?_) (fun c_1 => ?_)
  · replace h := it_t h c_1
    refine lv_iconst (v := 0) hx hb dX3_fulfil_11 (by decide) ?_
    refine lv_istore_n (lv' := [(2, .int 0), (0, .ref (ad 85)), (1, .ref (ad (22 * t1)))]) hx hb dX3_fulfil_12 rfl hl (by decide) rfl (fun ls hl => ?_)
    refine lv_aload_n hx hb dX3_fulfil_13 rfl (lv_at hl 1 rfl) ?_
    refine gf_X3_40 C0 X hP 85 ⟨by decide, rfl⟩ dX3_fulfil_14 ?_
    rcases sw_in (x := (σ 85 3)) (lo := 112) (n := 9) with c_2 | ⟨j, hj, c_2⟩
    · replace h := it_f h (sw_ne (v := 112) c_2 (by decide))
      replace h := it_f h (sw_ne (v := 114) c_2 (by decide))
      replace h := it_f h (sw_ne (v := 118) c_2 (by decide))
      replace h := it_f h (sw_ne (v := 120) c_2 (by decide))
      refine lv_tableOut (tgt := 160) hx hb dX3_fulfil_17 (by omega) (by decide) ?_
      refine lv_iload_n hx hb dX3_fulfil_160 rfl (lv_at hl 0 rfl) ?_
      refine lv_if_ne (tgt := 205) hx hb dX3_fulfil_161 (by decide) (fun c_3 => absurd c_3 (by decide)) (fun _ => ?_)
      refine lv_aload_n hx hb dX3_fulfil_164 rfl (lv_at hl 2 rfl) ?_
      refine lv_aload_n hx hb dX3_fulfil_165 rfl (lv_at hl 1 rfl) ?_
      refine gf_X3_40 C0 X hP 85 ⟨by decide, rfl⟩ dX3_fulfil_166 ?_
      refine lv_bipush (v := 117) hx hb dX3_fulfil_169 (by decide) ?_
      refine lv_icmp_ne (tgt := 178) hx hb dX3_fulfil_171 (by decide) (fun c_4 => ?_) (fun c_4 => ?_)
      · replace h := it_f h c_4
        refine lv_iconst (v := 0) hx hb dX3_fulfil_178 (by decide) ?_
        refine lv_aload_n hx hb dX3_fulfil_179 rfl (lv_at hl 1 rfl) ?_
        refine gf_X3_43 C0 X hP 85 ⟨by decide, rfl⟩ dX3_fulfil_180 ?_
        refine lv_aload_n hx hb dX3_fulfil_183 rfl (lv_at hl 1 rfl) ?_
        refine gf_X3_46 C0 X hP 85 ⟨by decide, rfl⟩ dX3_fulfil_184 ?_
        refine lv_aload_n hx hb dX3_fulfil_187 rfl (lv_at hl 1 rfl) ?_
        refine gf_X3_52 C0 X hP 85 ⟨by decide, rfl⟩ dX3_fulfil_188 ?_
        refine lv_aload_n hx hb dX3_fulfil_191 rfl (lv_at hl 1 rfl) ?_
        refine gf_X3_49 C0 X hP 85 ⟨by decide, rfl⟩ dX3_fulfil_192 ?_
        obtain ⟨σ_5, r_6, eσ_5, h⟩ := bnd2 h
        refine r_ci X hS (r_runV (As := [.int 0, .int (σ 85 4), .int (σ 85 5), .int (σ 85 7), .int (σ 85 6)]) (rest := []) C0 X hP L_X3_111 (fun sz => c_X6_addCart l D cA ad o σ t1 0 (σ 85 4) (σ 85 5) (σ 85 7) (σ 85 6) ht1 (σ_5, r_6) eσ_5 sz) (kdT t1 ht1).1 (kdT t1 ht1).2 (by decide) rfl ⟨Nat.le_of_ble_eq_true rfl, Nat.le_of_ble_eq_true rfl⟩ rfl hl.1 rfl (Nat.le_of_ble_eq_true rfl) dX3_fulfil_195 ⟨Nat.zero_le _, Nat.zero_le _⟩) (fun r9 σ9 H locs hw hP hS => ?_)
        rw [show σ9 = σ_5 from hw.2] at hP
        rw [show r9 = r_6 from hw.1]
        refine lv_if_eq (tgt := 205) hx hb dX3_fulfil_198 (by decide) (fun c_7 => ?_) (fun c_7 => ?_)
        · replace h := it_t h c_7
          refine lv_iconst (v := 0) hx hb dX3_fulfil_205 (by decide) ?_
          exact r_zret C0 X hP hS hr hlk dX3_fulfil_206 (Or.inl rfl) (rt2 h)
        · replace h := it_f h c_7
          refine lv_iconst (v := 1) hx hb dX3_fulfil_201 (by decide) ?_
          refine lv_goto (tgt := 206) hx hb dX3_fulfil_202 (by decide) ?_
          exact r_zret C0 X hP hS hr hlk dX3_fulfil_206 (Or.inr rfl) (rt2 h)
      · replace h := it_t h c_4
        refine lv_iconst (v := 1) hx hb dX3_fulfil_174 (by decide) ?_
        refine lv_goto (tgt := 179) hx hb dX3_fulfil_175 (by decide) ?_
        refine lv_aload_n hx hb dX3_fulfil_179 rfl (lv_at hl 1 rfl) ?_
        refine gf_X3_43 C0 X hP 85 ⟨by decide, rfl⟩ dX3_fulfil_180 ?_
        refine lv_aload_n hx hb dX3_fulfil_183 rfl (lv_at hl 1 rfl) ?_
        refine gf_X3_46 C0 X hP 85 ⟨by decide, rfl⟩ dX3_fulfil_184 ?_
        refine lv_aload_n hx hb dX3_fulfil_187 rfl (lv_at hl 1 rfl) ?_
        refine gf_X3_52 C0 X hP 85 ⟨by decide, rfl⟩ dX3_fulfil_188 ?_
        refine lv_aload_n hx hb dX3_fulfil_191 rfl (lv_at hl 1 rfl) ?_
        refine gf_X3_49 C0 X hP 85 ⟨by decide, rfl⟩ dX3_fulfil_192 ?_
        obtain ⟨σ_8, r_9, eσ_8, h⟩ := bnd2 h
        refine r_ci X hS (r_runV (As := [.int 1, .int (σ 85 4), .int (σ 85 5), .int (σ 85 7), .int (σ 85 6)]) (rest := []) C0 X hP L_X3_111 (fun sz => c_X6_addCart l D cA ad o σ t1 1 (σ 85 4) (σ 85 5) (σ 85 7) (σ 85 6) ht1 (σ_8, r_9) eσ_8 sz) (kdT t1 ht1).1 (kdT t1 ht1).2 (by decide) rfl ⟨Nat.le_of_ble_eq_true rfl, Nat.le_of_ble_eq_true rfl⟩ rfl hl.1 rfl (Nat.le_of_ble_eq_true rfl) dX3_fulfil_195 ⟨Nat.zero_le _, Nat.zero_le _⟩) (fun r9 σ9 H locs hw hP hS => ?_)
        rw [show σ9 = σ_8 from hw.2] at hP
        rw [show r9 = r_9 from hw.1]
        refine lv_if_eq (tgt := 205) hx hb dX3_fulfil_198 (by decide) (fun c_10 => ?_) (fun c_10 => ?_)
        · replace h := it_t h c_10
          refine lv_iconst (v := 0) hx hb dX3_fulfil_205 (by decide) ?_
          exact r_zret C0 X hP hS hr hlk dX3_fulfil_206 (Or.inl rfl) (rt2 h)
        · replace h := it_f h c_10
          refine lv_iconst (v := 1) hx hb dX3_fulfil_201 (by decide) ?_
          refine lv_goto (tgt := 206) hx hb dX3_fulfil_202 (by decide) ?_
          exact r_zret C0 X hP hS hr hlk dX3_fulfil_206 (Or.inr rfl) (rt2 h)
    · rcases (show j = 0 ∨ j = 1 ∨ j = 2 ∨ j = 3 ∨ j = 4 ∨ j = 5 ∨ j = 6 ∨ j = 7 ∨ j = 8 by omega) with rfl | rfl | rfl | rfl | rfl | rfl | rfl | rfl | rfl
      · have e_11 : (σ 85 3) = 112 := sw_eq c_2 (by decide)
        replace h := it_t h e_11
        refine lv_tableIn (off := 51) (tgt := 68) hx hb dX3_fulfil_17 (by rw [e_11]; decide) (by rw [e_11]; decide) (by rw [e_11]; rfl) (by decide) ?_
        refine lv_iload_n hx hb dX3_fulfil_68 rfl (lv_at hl 0 rfl) ?_
        refine lv_if_ne (tgt := 94) hx hb dX3_fulfil_69 (by decide) (fun c_12 => absurd c_12 (by decide)) (fun _ => ?_)
        refine lv_aload_n hx hb dX3_fulfil_72 rfl (lv_at hl 2 rfl) ?_
        refine gf_X3_91 C0 X hP (22 * t1) (q := (22 * t1 + 1)) (kdT t1 ht1) (by omega) (lkT0 t1 ht1) dX3_fulfil_73 ?_
        refine lv_aload_n hx hb dX3_fulfil_76 rfl (lv_at hl 1 rfl) ?_
        refine gf_X3_43 C0 X hP 85 ⟨by decide, rfl⟩ dX3_fulfil_77 ?_
        refine lv_aload_n hx hb dX3_fulfil_80 rfl (lv_at hl 1 rfl) ?_
        refine gf_X3_46 C0 X hP 85 ⟨by decide, rfl⟩ dX3_fulfil_81 ?_
        obtain ⟨σ_13, r_14, eσ_13, h⟩ := bnd2 h
        refine r_ci X hS (r_runV (As := [.int (σ 85 4), .int (σ 85 5)]) (rest := []) C0 X hP L_X3_95 (fun sz => c_X4_addPiece l D cA ad o σ t1 (σ 85 4) (σ 85 5) ht1 (σ_13, r_14) eσ_13 sz) (kdR t1 ht1).1 (kdR t1 ht1).2 (by decide) rfl ⟨Nat.le_of_ble_eq_true rfl, Nat.le_of_ble_eq_true rfl⟩ rfl hl.1 rfl (Nat.le_of_ble_eq_true rfl) dX3_fulfil_84 ⟨Nat.zero_le _, Nat.zero_le _⟩) (fun r9 σ9 H locs hw hP hS => ?_)
        rw [show σ9 = σ_13 from hw.2] at hP
        rw [show r9 = r_14 from hw.1]
        refine lv_if_eq (tgt := 94) hx hb dX3_fulfil_87 (by decide) (fun c_15 => ?_) (fun c_15 => ?_)
        · replace h := it_t h c_15
          refine lv_iconst (v := 0) hx hb dX3_fulfil_94 (by decide) ?_
          exact r_zret C0 X hP hS hr hlk dX3_fulfil_95 (Or.inl rfl) (rt2 h)
        · replace h := it_f h c_15
          refine lv_iconst (v := 1) hx hb dX3_fulfil_90 (by decide) ?_
          refine lv_goto (tgt := 95) hx hb dX3_fulfil_91 (by decide) ?_
          exact r_zret C0 X hP hS hr hlk dX3_fulfil_95 (Or.inr rfl) (rt2 h)
      · have e_16 : (σ 85 3) = 113 := sw_eq c_2 (by decide)
        replace h := it_f h (show ¬ (σ 85 3) = 112 by rw [e_16]; decide)
        replace h := it_f h (show ¬ (σ 85 3) = 114 by rw [e_16]; decide)
        replace h := it_f h (show ¬ (σ 85 3) = 118 by rw [e_16]; decide)
        replace h := it_f h (show ¬ (σ 85 3) = 120 by rw [e_16]; decide)
        refine lv_tableIn (off := 143) (tgt := 160) hx hb dX3_fulfil_17 (by rw [e_16]; decide) (by rw [e_16]; decide) (by rw [e_16]; rfl) (by decide) ?_
        refine lv_iload_n hx hb dX3_fulfil_160 rfl (lv_at hl 0 rfl) ?_
        refine lv_if_ne (tgt := 205) hx hb dX3_fulfil_161 (by decide) (fun c_17 => absurd c_17 (by decide)) (fun _ => ?_)
        refine lv_aload_n hx hb dX3_fulfil_164 rfl (lv_at hl 2 rfl) ?_
        refine lv_aload_n hx hb dX3_fulfil_165 rfl (lv_at hl 1 rfl) ?_
        refine gf_X3_40 C0 X hP 85 ⟨by decide, rfl⟩ dX3_fulfil_166 ?_
        refine lv_bipush (v := 117) hx hb dX3_fulfil_169 (by decide) ?_
        refine lv_icmp_ne (tgt := 178) hx hb dX3_fulfil_171 (by decide) (fun c_18 => ?_) (fun c_18 => ?_)
        · replace h := it_f h c_18
          refine lv_iconst (v := 0) hx hb dX3_fulfil_178 (by decide) ?_
          refine lv_aload_n hx hb dX3_fulfil_179 rfl (lv_at hl 1 rfl) ?_
          refine gf_X3_43 C0 X hP 85 ⟨by decide, rfl⟩ dX3_fulfil_180 ?_
          refine lv_aload_n hx hb dX3_fulfil_183 rfl (lv_at hl 1 rfl) ?_
          refine gf_X3_46 C0 X hP 85 ⟨by decide, rfl⟩ dX3_fulfil_184 ?_
          refine lv_aload_n hx hb dX3_fulfil_187 rfl (lv_at hl 1 rfl) ?_
          refine gf_X3_52 C0 X hP 85 ⟨by decide, rfl⟩ dX3_fulfil_188 ?_
          refine lv_aload_n hx hb dX3_fulfil_191 rfl (lv_at hl 1 rfl) ?_
          refine gf_X3_49 C0 X hP 85 ⟨by decide, rfl⟩ dX3_fulfil_192 ?_
          obtain ⟨σ_19, r_20, eσ_19, h⟩ := bnd2 h
          refine r_ci X hS (r_runV (As := [.int 0, .int (σ 85 4), .int (σ 85 5), .int (σ 85 7), .int (σ 85 6)]) (rest := []) C0 X hP L_X3_111 (fun sz => c_X6_addCart l D cA ad o σ t1 0 (σ 85 4) (σ 85 5) (σ 85 7) (σ 85 6) ht1 (σ_19, r_20) eσ_19 sz) (kdT t1 ht1).1 (kdT t1 ht1).2 (by decide) rfl ⟨Nat.le_of_ble_eq_true rfl, Nat.le_of_ble_eq_true rfl⟩ rfl hl.1 rfl (Nat.le_of_ble_eq_true rfl) dX3_fulfil_195 ⟨Nat.zero_le _, Nat.zero_le _⟩) (fun r9 σ9 H locs hw hP hS => ?_)
          rw [show σ9 = σ_19 from hw.2] at hP
          rw [show r9 = r_20 from hw.1]
          refine lv_if_eq (tgt := 205) hx hb dX3_fulfil_198 (by decide) (fun c_21 => ?_) (fun c_21 => ?_)
          · replace h := it_t h c_21
            refine lv_iconst (v := 0) hx hb dX3_fulfil_205 (by decide) ?_
            exact r_zret C0 X hP hS hr hlk dX3_fulfil_206 (Or.inl rfl) (rt2 h)
          · replace h := it_f h c_21
            refine lv_iconst (v := 1) hx hb dX3_fulfil_201 (by decide) ?_
            refine lv_goto (tgt := 206) hx hb dX3_fulfil_202 (by decide) ?_
            exact r_zret C0 X hP hS hr hlk dX3_fulfil_206 (Or.inr rfl) (rt2 h)
        · replace h := it_t h c_18
          refine lv_iconst (v := 1) hx hb dX3_fulfil_174 (by decide) ?_
          refine lv_goto (tgt := 179) hx hb dX3_fulfil_175 (by decide) ?_
          refine lv_aload_n hx hb dX3_fulfil_179 rfl (lv_at hl 1 rfl) ?_
          refine gf_X3_43 C0 X hP 85 ⟨by decide, rfl⟩ dX3_fulfil_180 ?_
          refine lv_aload_n hx hb dX3_fulfil_183 rfl (lv_at hl 1 rfl) ?_
          refine gf_X3_46 C0 X hP 85 ⟨by decide, rfl⟩ dX3_fulfil_184 ?_
          refine lv_aload_n hx hb dX3_fulfil_187 rfl (lv_at hl 1 rfl) ?_
          refine gf_X3_52 C0 X hP 85 ⟨by decide, rfl⟩ dX3_fulfil_188 ?_
          refine lv_aload_n hx hb dX3_fulfil_191 rfl (lv_at hl 1 rfl) ?_
          refine gf_X3_49 C0 X hP 85 ⟨by decide, rfl⟩ dX3_fulfil_192 ?_
          obtain ⟨σ_22, r_23, eσ_22, h⟩ := bnd2 h
          refine r_ci X hS (r_runV (As := [.int 1, .int (σ 85 4), .int (σ 85 5), .int (σ 85 7), .int (σ 85 6)]) (rest := []) C0 X hP L_X3_111 (fun sz => c_X6_addCart l D cA ad o σ t1 1 (σ 85 4) (σ 85 5) (σ 85 7) (σ 85 6) ht1 (σ_22, r_23) eσ_22 sz) (kdT t1 ht1).1 (kdT t1 ht1).2 (by decide) rfl ⟨Nat.le_of_ble_eq_true rfl, Nat.le_of_ble_eq_true rfl⟩ rfl hl.1 rfl (Nat.le_of_ble_eq_true rfl) dX3_fulfil_195 ⟨Nat.zero_le _, Nat.zero_le _⟩) (fun r9 σ9 H locs hw hP hS => ?_)
          rw [show σ9 = σ_22 from hw.2] at hP
          rw [show r9 = r_23 from hw.1]
          refine lv_if_eq (tgt := 205) hx hb dX3_fulfil_198 (by decide) (fun c_24 => ?_) (fun c_24 => ?_)
          · replace h := it_t h c_24
            refine lv_iconst (v := 0) hx hb dX3_fulfil_205 (by decide) ?_
            exact r_zret C0 X hP hS hr hlk dX3_fulfil_206 (Or.inl rfl) (rt2 h)
          · replace h := it_f h c_24
            refine lv_iconst (v := 1) hx hb dX3_fulfil_201 (by decide) ?_
            refine lv_goto (tgt := 206) hx hb dX3_fulfil_202 (by decide) ?_
            exact r_zret C0 X hP hS hr hlk dX3_fulfil_206 (Or.inr rfl) (rt2 h)
      · have e_25 : (σ 85 3) = 114 := sw_eq c_2 (by decide)
        replace h := it_f h (show ¬ (σ 85 3) = 112 by rw [e_25]; decide)
        replace h := it_t h e_25
        refine lv_tableIn (off := 79) (tgt := 96) hx hb dX3_fulfil_17 (by rw [e_25]; decide) (by rw [e_25]; decide) (by rw [e_25]; rfl) (by decide) ?_
        refine lv_iload_n hx hb dX3_fulfil_96 rfl (lv_at hl 0 rfl) ?_
        refine lv_if_ne (tgt := 122) hx hb dX3_fulfil_97 (by decide) (fun c_26 => absurd c_26 (by decide)) (fun _ => ?_)
        refine lv_aload_n hx hb dX3_fulfil_100 rfl (lv_at hl 2 rfl) ?_
        refine gf_X3_91 C0 X hP (22 * t1) (q := (22 * t1 + 1)) (kdT t1 ht1) (by omega) (lkT0 t1 ht1) dX3_fulfil_101 ?_
        refine lv_aload_n hx hb dX3_fulfil_104 rfl (lv_at hl 1 rfl) ?_
        refine gf_X3_43 C0 X hP 85 ⟨by decide, rfl⟩ dX3_fulfil_105 ?_
        refine lv_aload_n hx hb dX3_fulfil_108 rfl (lv_at hl 1 rfl) ?_
        refine gf_X3_46 C0 X hP 85 ⟨by decide, rfl⟩ dX3_fulfil_109 ?_
        obtain ⟨σ_27, r_28, eσ_27, h⟩ := bnd2 h
        refine r_ci X hS (r_runV (As := [.int (σ 85 4), .int (σ 85 5)]) (rest := []) C0 X hP L_X3_101 (fun sz => c_X4_tellRoom l D cA ad o σ t1 (σ 85 4) (σ 85 5) ht1 (σ_27, r_28) eσ_27 sz) (kdR t1 ht1).1 (kdR t1 ht1).2 (by decide) rfl ⟨Nat.le_of_ble_eq_true rfl, Nat.le_of_ble_eq_true rfl⟩ rfl hl.1 rfl (Nat.le_of_ble_eq_true rfl) dX3_fulfil_112 ⟨Nat.zero_le _, Nat.zero_le _⟩) (fun r9 σ9 H locs hw hP hS => ?_)
        rw [show σ9 = σ_27 from hw.2] at hP
        rw [show r9 = r_28 from hw.1]
        refine lv_if_eq (tgt := 122) hx hb dX3_fulfil_115 (by decide) (fun c_29 => ?_) (fun c_29 => ?_)
        · replace h := it_t h c_29
          refine lv_iconst (v := 0) hx hb dX3_fulfil_122 (by decide) ?_
          exact r_zret C0 X hP hS hr hlk dX3_fulfil_123 (Or.inl rfl) (rt2 h)
        · replace h := it_f h c_29
          refine lv_iconst (v := 1) hx hb dX3_fulfil_118 (by decide) ?_
          refine lv_goto (tgt := 123) hx hb dX3_fulfil_119 (by decide) ?_
          exact r_zret C0 X hP hS hr hlk dX3_fulfil_123 (Or.inr rfl) (rt2 h)
      · have e_30 : (σ 85 3) = 115 := sw_eq c_2 (by decide)
        replace h := it_f h (show ¬ (σ 85 3) = 112 by rw [e_30]; decide)
        replace h := it_f h (show ¬ (σ 85 3) = 114 by rw [e_30]; decide)
        replace h := it_f h (show ¬ (σ 85 3) = 118 by rw [e_30]; decide)
        replace h := it_f h (show ¬ (σ 85 3) = 120 by rw [e_30]; decide)
        refine lv_tableIn (off := 143) (tgt := 160) hx hb dX3_fulfil_17 (by rw [e_30]; decide) (by rw [e_30]; decide) (by rw [e_30]; rfl) (by decide) ?_
        refine lv_iload_n hx hb dX3_fulfil_160 rfl (lv_at hl 0 rfl) ?_
        refine lv_if_ne (tgt := 205) hx hb dX3_fulfil_161 (by decide) (fun c_31 => absurd c_31 (by decide)) (fun _ => ?_)
        refine lv_aload_n hx hb dX3_fulfil_164 rfl (lv_at hl 2 rfl) ?_
        refine lv_aload_n hx hb dX3_fulfil_165 rfl (lv_at hl 1 rfl) ?_
        refine gf_X3_40 C0 X hP 85 ⟨by decide, rfl⟩ dX3_fulfil_166 ?_
        refine lv_bipush (v := 117) hx hb dX3_fulfil_169 (by decide) ?_
        refine lv_icmp_ne (tgt := 178) hx hb dX3_fulfil_171 (by decide) (fun c_32 => ?_) (fun c_32 => ?_)
        · replace h := it_f h c_32
          refine lv_iconst (v := 0) hx hb dX3_fulfil_178 (by decide) ?_
          refine lv_aload_n hx hb dX3_fulfil_179 rfl (lv_at hl 1 rfl) ?_
          refine gf_X3_43 C0 X hP 85 ⟨by decide, rfl⟩ dX3_fulfil_180 ?_
          refine lv_aload_n hx hb dX3_fulfil_183 rfl (lv_at hl 1 rfl) ?_
          refine gf_X3_46 C0 X hP 85 ⟨by decide, rfl⟩ dX3_fulfil_184 ?_
          refine lv_aload_n hx hb dX3_fulfil_187 rfl (lv_at hl 1 rfl) ?_
          refine gf_X3_52 C0 X hP 85 ⟨by decide, rfl⟩ dX3_fulfil_188 ?_
          refine lv_aload_n hx hb dX3_fulfil_191 rfl (lv_at hl 1 rfl) ?_
          refine gf_X3_49 C0 X hP 85 ⟨by decide, rfl⟩ dX3_fulfil_192 ?_
          obtain ⟨σ_33, r_34, eσ_33, h⟩ := bnd2 h
          refine r_ci X hS (r_runV (As := [.int 0, .int (σ 85 4), .int (σ 85 5), .int (σ 85 7), .int (σ 85 6)]) (rest := []) C0 X hP L_X3_111 (fun sz => c_X6_addCart l D cA ad o σ t1 0 (σ 85 4) (σ 85 5) (σ 85 7) (σ 85 6) ht1 (σ_33, r_34) eσ_33 sz) (kdT t1 ht1).1 (kdT t1 ht1).2 (by decide) rfl ⟨Nat.le_of_ble_eq_true rfl, Nat.le_of_ble_eq_true rfl⟩ rfl hl.1 rfl (Nat.le_of_ble_eq_true rfl) dX3_fulfil_195 ⟨Nat.zero_le _, Nat.zero_le _⟩) (fun r9 σ9 H locs hw hP hS => ?_)
          rw [show σ9 = σ_33 from hw.2] at hP
          rw [show r9 = r_34 from hw.1]
          refine lv_if_eq (tgt := 205) hx hb dX3_fulfil_198 (by decide) (fun c_35 => ?_) (fun c_35 => ?_)
          · replace h := it_t h c_35
            refine lv_iconst (v := 0) hx hb dX3_fulfil_205 (by decide) ?_
            exact r_zret C0 X hP hS hr hlk dX3_fulfil_206 (Or.inl rfl) (rt2 h)
          · replace h := it_f h c_35
            refine lv_iconst (v := 1) hx hb dX3_fulfil_201 (by decide) ?_
            refine lv_goto (tgt := 206) hx hb dX3_fulfil_202 (by decide) ?_
            exact r_zret C0 X hP hS hr hlk dX3_fulfil_206 (Or.inr rfl) (rt2 h)
        · replace h := it_t h c_32
          refine lv_iconst (v := 1) hx hb dX3_fulfil_174 (by decide) ?_
          refine lv_goto (tgt := 179) hx hb dX3_fulfil_175 (by decide) ?_
          refine lv_aload_n hx hb dX3_fulfil_179 rfl (lv_at hl 1 rfl) ?_
          refine gf_X3_43 C0 X hP 85 ⟨by decide, rfl⟩ dX3_fulfil_180 ?_
          refine lv_aload_n hx hb dX3_fulfil_183 rfl (lv_at hl 1 rfl) ?_
          refine gf_X3_46 C0 X hP 85 ⟨by decide, rfl⟩ dX3_fulfil_184 ?_
          refine lv_aload_n hx hb dX3_fulfil_187 rfl (lv_at hl 1 rfl) ?_
          refine gf_X3_52 C0 X hP 85 ⟨by decide, rfl⟩ dX3_fulfil_188 ?_
          refine lv_aload_n hx hb dX3_fulfil_191 rfl (lv_at hl 1 rfl) ?_
          refine gf_X3_49 C0 X hP 85 ⟨by decide, rfl⟩ dX3_fulfil_192 ?_
          obtain ⟨σ_36, r_37, eσ_36, h⟩ := bnd2 h
          refine r_ci X hS (r_runV (As := [.int 1, .int (σ 85 4), .int (σ 85 5), .int (σ 85 7), .int (σ 85 6)]) (rest := []) C0 X hP L_X3_111 (fun sz => c_X6_addCart l D cA ad o σ t1 1 (σ 85 4) (σ 85 5) (σ 85 7) (σ 85 6) ht1 (σ_36, r_37) eσ_36 sz) (kdT t1 ht1).1 (kdT t1 ht1).2 (by decide) rfl ⟨Nat.le_of_ble_eq_true rfl, Nat.le_of_ble_eq_true rfl⟩ rfl hl.1 rfl (Nat.le_of_ble_eq_true rfl) dX3_fulfil_195 ⟨Nat.zero_le _, Nat.zero_le _⟩) (fun r9 σ9 H locs hw hP hS => ?_)
          rw [show σ9 = σ_36 from hw.2] at hP
          rw [show r9 = r_37 from hw.1]
          refine lv_if_eq (tgt := 205) hx hb dX3_fulfil_198 (by decide) (fun c_38 => ?_) (fun c_38 => ?_)
          · replace h := it_t h c_38
            refine lv_iconst (v := 0) hx hb dX3_fulfil_205 (by decide) ?_
            exact r_zret C0 X hP hS hr hlk dX3_fulfil_206 (Or.inl rfl) (rt2 h)
          · replace h := it_f h c_38
            refine lv_iconst (v := 1) hx hb dX3_fulfil_201 (by decide) ?_
            refine lv_goto (tgt := 206) hx hb dX3_fulfil_202 (by decide) ?_
            exact r_zret C0 X hP hS hr hlk dX3_fulfil_206 (Or.inr rfl) (rt2 h)
      · have e_39 : (σ 85 3) = 116 := sw_eq c_2 (by decide)
        replace h := it_f h (show ¬ (σ 85 3) = 112 by rw [e_39]; decide)
        replace h := it_f h (show ¬ (σ 85 3) = 114 by rw [e_39]; decide)
        replace h := it_f h (show ¬ (σ 85 3) = 118 by rw [e_39]; decide)
        replace h := it_f h (show ¬ (σ 85 3) = 120 by rw [e_39]; decide)
        refine lv_tableIn (off := 143) (tgt := 160) hx hb dX3_fulfil_17 (by rw [e_39]; decide) (by rw [e_39]; decide) (by rw [e_39]; rfl) (by decide) ?_
        refine lv_iload_n hx hb dX3_fulfil_160 rfl (lv_at hl 0 rfl) ?_
        refine lv_if_ne (tgt := 205) hx hb dX3_fulfil_161 (by decide) (fun c_40 => absurd c_40 (by decide)) (fun _ => ?_)
        refine lv_aload_n hx hb dX3_fulfil_164 rfl (lv_at hl 2 rfl) ?_
        refine lv_aload_n hx hb dX3_fulfil_165 rfl (lv_at hl 1 rfl) ?_
        refine gf_X3_40 C0 X hP 85 ⟨by decide, rfl⟩ dX3_fulfil_166 ?_
        refine lv_bipush (v := 117) hx hb dX3_fulfil_169 (by decide) ?_
        refine lv_icmp_ne (tgt := 178) hx hb dX3_fulfil_171 (by decide) (fun c_41 => ?_) (fun c_41 => ?_)
        · replace h := it_f h c_41
          refine lv_iconst (v := 0) hx hb dX3_fulfil_178 (by decide) ?_
          refine lv_aload_n hx hb dX3_fulfil_179 rfl (lv_at hl 1 rfl) ?_
          refine gf_X3_43 C0 X hP 85 ⟨by decide, rfl⟩ dX3_fulfil_180 ?_
          refine lv_aload_n hx hb dX3_fulfil_183 rfl (lv_at hl 1 rfl) ?_
          refine gf_X3_46 C0 X hP 85 ⟨by decide, rfl⟩ dX3_fulfil_184 ?_
          refine lv_aload_n hx hb dX3_fulfil_187 rfl (lv_at hl 1 rfl) ?_
          refine gf_X3_52 C0 X hP 85 ⟨by decide, rfl⟩ dX3_fulfil_188 ?_
          refine lv_aload_n hx hb dX3_fulfil_191 rfl (lv_at hl 1 rfl) ?_
          refine gf_X3_49 C0 X hP 85 ⟨by decide, rfl⟩ dX3_fulfil_192 ?_
          obtain ⟨σ_42, r_43, eσ_42, h⟩ := bnd2 h
          refine r_ci X hS (r_runV (As := [.int 0, .int (σ 85 4), .int (σ 85 5), .int (σ 85 7), .int (σ 85 6)]) (rest := []) C0 X hP L_X3_111 (fun sz => c_X6_addCart l D cA ad o σ t1 0 (σ 85 4) (σ 85 5) (σ 85 7) (σ 85 6) ht1 (σ_42, r_43) eσ_42 sz) (kdT t1 ht1).1 (kdT t1 ht1).2 (by decide) rfl ⟨Nat.le_of_ble_eq_true rfl, Nat.le_of_ble_eq_true rfl⟩ rfl hl.1 rfl (Nat.le_of_ble_eq_true rfl) dX3_fulfil_195 ⟨Nat.zero_le _, Nat.zero_le _⟩) (fun r9 σ9 H locs hw hP hS => ?_)
          rw [show σ9 = σ_42 from hw.2] at hP
          rw [show r9 = r_43 from hw.1]
          refine lv_if_eq (tgt := 205) hx hb dX3_fulfil_198 (by decide) (fun c_44 => ?_) (fun c_44 => ?_)
          · replace h := it_t h c_44
            refine lv_iconst (v := 0) hx hb dX3_fulfil_205 (by decide) ?_
            exact r_zret C0 X hP hS hr hlk dX3_fulfil_206 (Or.inl rfl) (rt2 h)
          · replace h := it_f h c_44
            refine lv_iconst (v := 1) hx hb dX3_fulfil_201 (by decide) ?_
            refine lv_goto (tgt := 206) hx hb dX3_fulfil_202 (by decide) ?_
            exact r_zret C0 X hP hS hr hlk dX3_fulfil_206 (Or.inr rfl) (rt2 h)
        · replace h := it_t h c_41
          refine lv_iconst (v := 1) hx hb dX3_fulfil_174 (by decide) ?_
          refine lv_goto (tgt := 179) hx hb dX3_fulfil_175 (by decide) ?_
          refine lv_aload_n hx hb dX3_fulfil_179 rfl (lv_at hl 1 rfl) ?_
          refine gf_X3_43 C0 X hP 85 ⟨by decide, rfl⟩ dX3_fulfil_180 ?_
          refine lv_aload_n hx hb dX3_fulfil_183 rfl (lv_at hl 1 rfl) ?_
          refine gf_X3_46 C0 X hP 85 ⟨by decide, rfl⟩ dX3_fulfil_184 ?_
          refine lv_aload_n hx hb dX3_fulfil_187 rfl (lv_at hl 1 rfl) ?_
          refine gf_X3_52 C0 X hP 85 ⟨by decide, rfl⟩ dX3_fulfil_188 ?_
          refine lv_aload_n hx hb dX3_fulfil_191 rfl (lv_at hl 1 rfl) ?_
          refine gf_X3_49 C0 X hP 85 ⟨by decide, rfl⟩ dX3_fulfil_192 ?_
          obtain ⟨σ_45, r_46, eσ_45, h⟩ := bnd2 h
          refine r_ci X hS (r_runV (As := [.int 1, .int (σ 85 4), .int (σ 85 5), .int (σ 85 7), .int (σ 85 6)]) (rest := []) C0 X hP L_X3_111 (fun sz => c_X6_addCart l D cA ad o σ t1 1 (σ 85 4) (σ 85 5) (σ 85 7) (σ 85 6) ht1 (σ_45, r_46) eσ_45 sz) (kdT t1 ht1).1 (kdT t1 ht1).2 (by decide) rfl ⟨Nat.le_of_ble_eq_true rfl, Nat.le_of_ble_eq_true rfl⟩ rfl hl.1 rfl (Nat.le_of_ble_eq_true rfl) dX3_fulfil_195 ⟨Nat.zero_le _, Nat.zero_le _⟩) (fun r9 σ9 H locs hw hP hS => ?_)
          rw [show σ9 = σ_45 from hw.2] at hP
          rw [show r9 = r_46 from hw.1]
          refine lv_if_eq (tgt := 205) hx hb dX3_fulfil_198 (by decide) (fun c_47 => ?_) (fun c_47 => ?_)
          · replace h := it_t h c_47
            refine lv_iconst (v := 0) hx hb dX3_fulfil_205 (by decide) ?_
            exact r_zret C0 X hP hS hr hlk dX3_fulfil_206 (Or.inl rfl) (rt2 h)
          · replace h := it_f h c_47
            refine lv_iconst (v := 1) hx hb dX3_fulfil_201 (by decide) ?_
            refine lv_goto (tgt := 206) hx hb dX3_fulfil_202 (by decide) ?_
            exact r_zret C0 X hP hS hr hlk dX3_fulfil_206 (Or.inr rfl) (rt2 h)
      · have e_48 : (σ 85 3) = 117 := sw_eq c_2 (by decide)
        replace h := it_f h (show ¬ (σ 85 3) = 112 by rw [e_48]; decide)
        replace h := it_f h (show ¬ (σ 85 3) = 114 by rw [e_48]; decide)
        replace h := it_f h (show ¬ (σ 85 3) = 118 by rw [e_48]; decide)
        replace h := it_f h (show ¬ (σ 85 3) = 120 by rw [e_48]; decide)
        refine lv_tableIn (off := 143) (tgt := 160) hx hb dX3_fulfil_17 (by rw [e_48]; decide) (by rw [e_48]; decide) (by rw [e_48]; rfl) (by decide) ?_
        refine lv_iload_n hx hb dX3_fulfil_160 rfl (lv_at hl 0 rfl) ?_
        refine lv_if_ne (tgt := 205) hx hb dX3_fulfil_161 (by decide) (fun c_49 => absurd c_49 (by decide)) (fun _ => ?_)
        refine lv_aload_n hx hb dX3_fulfil_164 rfl (lv_at hl 2 rfl) ?_
        refine lv_aload_n hx hb dX3_fulfil_165 rfl (lv_at hl 1 rfl) ?_
        refine gf_X3_40 C0 X hP 85 ⟨by decide, rfl⟩ dX3_fulfil_166 ?_
        refine lv_bipush (v := 117) hx hb dX3_fulfil_169 (by decide) ?_
        refine lv_icmp_ne (tgt := 178) hx hb dX3_fulfil_171 (by decide) (fun c_50 => ?_) (fun c_50 => ?_)
        · replace h := it_f h c_50
          refine lv_iconst (v := 0) hx hb dX3_fulfil_178 (by decide) ?_
          refine lv_aload_n hx hb dX3_fulfil_179 rfl (lv_at hl 1 rfl) ?_
          refine gf_X3_43 C0 X hP 85 ⟨by decide, rfl⟩ dX3_fulfil_180 ?_
          refine lv_aload_n hx hb dX3_fulfil_183 rfl (lv_at hl 1 rfl) ?_
          refine gf_X3_46 C0 X hP 85 ⟨by decide, rfl⟩ dX3_fulfil_184 ?_
          refine lv_aload_n hx hb dX3_fulfil_187 rfl (lv_at hl 1 rfl) ?_
          refine gf_X3_52 C0 X hP 85 ⟨by decide, rfl⟩ dX3_fulfil_188 ?_
          refine lv_aload_n hx hb dX3_fulfil_191 rfl (lv_at hl 1 rfl) ?_
          refine gf_X3_49 C0 X hP 85 ⟨by decide, rfl⟩ dX3_fulfil_192 ?_
          obtain ⟨σ_51, r_52, eσ_51, h⟩ := bnd2 h
          refine r_ci X hS (r_runV (As := [.int 0, .int (σ 85 4), .int (σ 85 5), .int (σ 85 7), .int (σ 85 6)]) (rest := []) C0 X hP L_X3_111 (fun sz => c_X6_addCart l D cA ad o σ t1 0 (σ 85 4) (σ 85 5) (σ 85 7) (σ 85 6) ht1 (σ_51, r_52) eσ_51 sz) (kdT t1 ht1).1 (kdT t1 ht1).2 (by decide) rfl ⟨Nat.le_of_ble_eq_true rfl, Nat.le_of_ble_eq_true rfl⟩ rfl hl.1 rfl (Nat.le_of_ble_eq_true rfl) dX3_fulfil_195 ⟨Nat.zero_le _, Nat.zero_le _⟩) (fun r9 σ9 H locs hw hP hS => ?_)
          rw [show σ9 = σ_51 from hw.2] at hP
          rw [show r9 = r_52 from hw.1]
          refine lv_if_eq (tgt := 205) hx hb dX3_fulfil_198 (by decide) (fun c_53 => ?_) (fun c_53 => ?_)
          · replace h := it_t h c_53
            refine lv_iconst (v := 0) hx hb dX3_fulfil_205 (by decide) ?_
            exact r_zret C0 X hP hS hr hlk dX3_fulfil_206 (Or.inl rfl) (rt2 h)
          · replace h := it_f h c_53
            refine lv_iconst (v := 1) hx hb dX3_fulfil_201 (by decide) ?_
            refine lv_goto (tgt := 206) hx hb dX3_fulfil_202 (by decide) ?_
            exact r_zret C0 X hP hS hr hlk dX3_fulfil_206 (Or.inr rfl) (rt2 h)
        · replace h := it_t h c_50
          refine lv_iconst (v := 1) hx hb dX3_fulfil_174 (by decide) ?_
          refine lv_goto (tgt := 179) hx hb dX3_fulfil_175 (by decide) ?_
          refine lv_aload_n hx hb dX3_fulfil_179 rfl (lv_at hl 1 rfl) ?_
          refine gf_X3_43 C0 X hP 85 ⟨by decide, rfl⟩ dX3_fulfil_180 ?_
          refine lv_aload_n hx hb dX3_fulfil_183 rfl (lv_at hl 1 rfl) ?_
          refine gf_X3_46 C0 X hP 85 ⟨by decide, rfl⟩ dX3_fulfil_184 ?_
          refine lv_aload_n hx hb dX3_fulfil_187 rfl (lv_at hl 1 rfl) ?_
          refine gf_X3_52 C0 X hP 85 ⟨by decide, rfl⟩ dX3_fulfil_188 ?_
          refine lv_aload_n hx hb dX3_fulfil_191 rfl (lv_at hl 1 rfl) ?_
          refine gf_X3_49 C0 X hP 85 ⟨by decide, rfl⟩ dX3_fulfil_192 ?_
          obtain ⟨σ_54, r_55, eσ_54, h⟩ := bnd2 h
          refine r_ci X hS (r_runV (As := [.int 1, .int (σ 85 4), .int (σ 85 5), .int (σ 85 7), .int (σ 85 6)]) (rest := []) C0 X hP L_X3_111 (fun sz => c_X6_addCart l D cA ad o σ t1 1 (σ 85 4) (σ 85 5) (σ 85 7) (σ 85 6) ht1 (σ_54, r_55) eσ_54 sz) (kdT t1 ht1).1 (kdT t1 ht1).2 (by decide) rfl ⟨Nat.le_of_ble_eq_true rfl, Nat.le_of_ble_eq_true rfl⟩ rfl hl.1 rfl (Nat.le_of_ble_eq_true rfl) dX3_fulfil_195 ⟨Nat.zero_le _, Nat.zero_le _⟩) (fun r9 σ9 H locs hw hP hS => ?_)
          rw [show σ9 = σ_54 from hw.2] at hP
          rw [show r9 = r_55 from hw.1]
          refine lv_if_eq (tgt := 205) hx hb dX3_fulfil_198 (by decide) (fun c_56 => ?_) (fun c_56 => ?_)
          · replace h := it_t h c_56
            refine lv_iconst (v := 0) hx hb dX3_fulfil_205 (by decide) ?_
            exact r_zret C0 X hP hS hr hlk dX3_fulfil_206 (Or.inl rfl) (rt2 h)
          · replace h := it_f h c_56
            refine lv_iconst (v := 1) hx hb dX3_fulfil_201 (by decide) ?_
            refine lv_goto (tgt := 206) hx hb dX3_fulfil_202 (by decide) ?_
            exact r_zret C0 X hP hS hr hlk dX3_fulfil_206 (Or.inr rfl) (rt2 h)
      · have e_57 : (σ 85 3) = 118 := sw_eq c_2 (by decide)
        replace h := it_f h (show ¬ (σ 85 3) = 112 by rw [e_57]; decide)
        replace h := it_f h (show ¬ (σ 85 3) = 114 by rw [e_57]; decide)
        replace h := it_t h e_57
        refine lv_tableIn (off := 107) (tgt := 124) hx hb dX3_fulfil_17 (by rw [e_57]; decide) (by rw [e_57]; decide) (by rw [e_57]; rfl) (by decide) ?_
        refine lv_aload_n hx hb dX3_fulfil_124 rfl (lv_at hl 2 rfl) ?_
        refine gf_X3_91 C0 X hP (22 * t1) (q := (22 * t1 + 1)) (kdT t1 ht1) (by omega) (lkT0 t1 ht1) dX3_fulfil_125 ?_
        refine lv_aload_n hx hb dX3_fulfil_128 rfl (lv_at hl 1 rfl) ?_
        refine gf_X3_43 C0 X hP 85 ⟨by decide, rfl⟩ dX3_fulfil_129 ?_
        refine lv_aload_n hx hb dX3_fulfil_132 rfl (lv_at hl 1 rfl) ?_
        refine gf_X3_46 C0 X hP 85 ⟨by decide, rfl⟩ dX3_fulfil_133 ?_
        obtain ⟨σ_58, r_59, eσ_58, h⟩ := bnd2 h
        refine r_ci X hS (r_runV (As := [.int (σ 85 4), .int (σ 85 5)]) (rest := []) C0 X hP L_X3_104 (fun sz => c_X4_tellVillage l D cA ad o σ t1 (σ 85 4) (σ 85 5) ht1 (σ_58, r_59) eσ_58 sz) (kdR t1 ht1).1 (kdR t1 ht1).2 (by decide) rfl ⟨Nat.le_of_ble_eq_true rfl, Nat.le_of_ble_eq_true rfl⟩ rfl hl.1 rfl (Nat.le_of_ble_eq_true rfl) dX3_fulfil_136 ⟨Nat.zero_le _, Nat.zero_le _⟩) (fun r9 σ9 H locs hw hP hS => ?_)
        rw [show σ9 = σ_58 from hw.2] at hP
        rw [show r9 = r_59 from hw.1]
        obtain ⟨q_60, h⟩ := ckp h
        exact r_zret C0 X hP hS hr hlk dX3_fulfil_139 q_60 (rt2 h)
      · have e_61 : (σ 85 3) = 119 := sw_eq c_2 (by decide)
        replace h := it_f h (show ¬ (σ 85 3) = 112 by rw [e_61]; decide)
        replace h := it_f h (show ¬ (σ 85 3) = 114 by rw [e_61]; decide)
        replace h := it_f h (show ¬ (σ 85 3) = 118 by rw [e_61]; decide)
        replace h := it_f h (show ¬ (σ 85 3) = 120 by rw [e_61]; decide)
        refine lv_tableIn (off := 143) (tgt := 160) hx hb dX3_fulfil_17 (by rw [e_61]; decide) (by rw [e_61]; decide) (by rw [e_61]; rfl) (by decide) ?_
        refine lv_iload_n hx hb dX3_fulfil_160 rfl (lv_at hl 0 rfl) ?_
        refine lv_if_ne (tgt := 205) hx hb dX3_fulfil_161 (by decide) (fun c_62 => absurd c_62 (by decide)) (fun _ => ?_)
        refine lv_aload_n hx hb dX3_fulfil_164 rfl (lv_at hl 2 rfl) ?_
        refine lv_aload_n hx hb dX3_fulfil_165 rfl (lv_at hl 1 rfl) ?_
        refine gf_X3_40 C0 X hP 85 ⟨by decide, rfl⟩ dX3_fulfil_166 ?_
        refine lv_bipush (v := 117) hx hb dX3_fulfil_169 (by decide) ?_
        refine lv_icmp_ne (tgt := 178) hx hb dX3_fulfil_171 (by decide) (fun c_63 => ?_) (fun c_63 => ?_)
        · replace h := it_f h c_63
          refine lv_iconst (v := 0) hx hb dX3_fulfil_178 (by decide) ?_
          refine lv_aload_n hx hb dX3_fulfil_179 rfl (lv_at hl 1 rfl) ?_
          refine gf_X3_43 C0 X hP 85 ⟨by decide, rfl⟩ dX3_fulfil_180 ?_
          refine lv_aload_n hx hb dX3_fulfil_183 rfl (lv_at hl 1 rfl) ?_
          refine gf_X3_46 C0 X hP 85 ⟨by decide, rfl⟩ dX3_fulfil_184 ?_
          refine lv_aload_n hx hb dX3_fulfil_187 rfl (lv_at hl 1 rfl) ?_
          refine gf_X3_52 C0 X hP 85 ⟨by decide, rfl⟩ dX3_fulfil_188 ?_
          refine lv_aload_n hx hb dX3_fulfil_191 rfl (lv_at hl 1 rfl) ?_
          refine gf_X3_49 C0 X hP 85 ⟨by decide, rfl⟩ dX3_fulfil_192 ?_
          obtain ⟨σ_64, r_65, eσ_64, h⟩ := bnd2 h
          refine r_ci X hS (r_runV (As := [.int 0, .int (σ 85 4), .int (σ 85 5), .int (σ 85 7), .int (σ 85 6)]) (rest := []) C0 X hP L_X3_111 (fun sz => c_X6_addCart l D cA ad o σ t1 0 (σ 85 4) (σ 85 5) (σ 85 7) (σ 85 6) ht1 (σ_64, r_65) eσ_64 sz) (kdT t1 ht1).1 (kdT t1 ht1).2 (by decide) rfl ⟨Nat.le_of_ble_eq_true rfl, Nat.le_of_ble_eq_true rfl⟩ rfl hl.1 rfl (Nat.le_of_ble_eq_true rfl) dX3_fulfil_195 ⟨Nat.zero_le _, Nat.zero_le _⟩) (fun r9 σ9 H locs hw hP hS => ?_)
          rw [show σ9 = σ_64 from hw.2] at hP
          rw [show r9 = r_65 from hw.1]
          refine lv_if_eq (tgt := 205) hx hb dX3_fulfil_198 (by decide) (fun c_66 => ?_) (fun c_66 => ?_)
          · replace h := it_t h c_66
            refine lv_iconst (v := 0) hx hb dX3_fulfil_205 (by decide) ?_
            exact r_zret C0 X hP hS hr hlk dX3_fulfil_206 (Or.inl rfl) (rt2 h)
          · replace h := it_f h c_66
            refine lv_iconst (v := 1) hx hb dX3_fulfil_201 (by decide) ?_
            refine lv_goto (tgt := 206) hx hb dX3_fulfil_202 (by decide) ?_
            exact r_zret C0 X hP hS hr hlk dX3_fulfil_206 (Or.inr rfl) (rt2 h)
        · replace h := it_t h c_63
          refine lv_iconst (v := 1) hx hb dX3_fulfil_174 (by decide) ?_
          refine lv_goto (tgt := 179) hx hb dX3_fulfil_175 (by decide) ?_
          refine lv_aload_n hx hb dX3_fulfil_179 rfl (lv_at hl 1 rfl) ?_
          refine gf_X3_43 C0 X hP 85 ⟨by decide, rfl⟩ dX3_fulfil_180 ?_
          refine lv_aload_n hx hb dX3_fulfil_183 rfl (lv_at hl 1 rfl) ?_
          refine gf_X3_46 C0 X hP 85 ⟨by decide, rfl⟩ dX3_fulfil_184 ?_
          refine lv_aload_n hx hb dX3_fulfil_187 rfl (lv_at hl 1 rfl) ?_
          refine gf_X3_52 C0 X hP 85 ⟨by decide, rfl⟩ dX3_fulfil_188 ?_
          refine lv_aload_n hx hb dX3_fulfil_191 rfl (lv_at hl 1 rfl) ?_
          refine gf_X3_49 C0 X hP 85 ⟨by decide, rfl⟩ dX3_fulfil_192 ?_
          obtain ⟨σ_67, r_68, eσ_67, h⟩ := bnd2 h
          refine r_ci X hS (r_runV (As := [.int 1, .int (σ 85 4), .int (σ 85 5), .int (σ 85 7), .int (σ 85 6)]) (rest := []) C0 X hP L_X3_111 (fun sz => c_X6_addCart l D cA ad o σ t1 1 (σ 85 4) (σ 85 5) (σ 85 7) (σ 85 6) ht1 (σ_67, r_68) eσ_67 sz) (kdT t1 ht1).1 (kdT t1 ht1).2 (by decide) rfl ⟨Nat.le_of_ble_eq_true rfl, Nat.le_of_ble_eq_true rfl⟩ rfl hl.1 rfl (Nat.le_of_ble_eq_true rfl) dX3_fulfil_195 ⟨Nat.zero_le _, Nat.zero_le _⟩) (fun r9 σ9 H locs hw hP hS => ?_)
          rw [show σ9 = σ_67 from hw.2] at hP
          rw [show r9 = r_68 from hw.1]
          refine lv_if_eq (tgt := 205) hx hb dX3_fulfil_198 (by decide) (fun c_69 => ?_) (fun c_69 => ?_)
          · replace h := it_t h c_69
            refine lv_iconst (v := 0) hx hb dX3_fulfil_205 (by decide) ?_
            exact r_zret C0 X hP hS hr hlk dX3_fulfil_206 (Or.inl rfl) (rt2 h)
          · replace h := it_f h c_69
            refine lv_iconst (v := 1) hx hb dX3_fulfil_201 (by decide) ?_
            refine lv_goto (tgt := 206) hx hb dX3_fulfil_202 (by decide) ?_
            exact r_zret C0 X hP hS hr hlk dX3_fulfil_206 (Or.inr rfl) (rt2 h)
      · have e_70 : (σ 85 3) = 120 := sw_eq c_2 (by decide)
        replace h := it_f h (show ¬ (σ 85 3) = 112 by rw [e_70]; decide)
        replace h := it_f h (show ¬ (σ 85 3) = 114 by rw [e_70]; decide)
        replace h := it_f h (show ¬ (σ 85 3) = 118 by rw [e_70]; decide)
        replace h := it_t h e_70
        refine lv_tableIn (off := 123) (tgt := 140) hx hb dX3_fulfil_17 (by rw [e_70]; decide) (by rw [e_70]; decide) (by rw [e_70]; rfl) (by decide) ?_
        refine lv_aload_n hx hb dX3_fulfil_140 rfl (lv_at hl 2 rfl) ?_
        refine gf_X3_91 C0 X hP (22 * t1) (q := (22 * t1 + 1)) (kdT t1 ht1) (by omega) (lkT0 t1 ht1) dX3_fulfil_141 ?_
        refine lv_aload_n hx hb dX3_fulfil_144 rfl (lv_at hl 1 rfl) ?_
        refine gf_X3_43 C0 X hP 85 ⟨by decide, rfl⟩ dX3_fulfil_145 ?_
        refine lv_aload_n hx hb dX3_fulfil_148 rfl (lv_at hl 1 rfl) ?_
        refine gf_X3_46 C0 X hP 85 ⟨by decide, rfl⟩ dX3_fulfil_149 ?_
        refine lv_aload_n hx hb dX3_fulfil_152 rfl (lv_at hl 1 rfl) ?_
        refine gf_X3_49 C0 X hP 85 ⟨by decide, rfl⟩ dX3_fulfil_153 ?_
        obtain ⟨σ_71, r_72, eσ_71, h⟩ := bnd2 h
        refine r_ci X hS (r_runV (As := [.int (σ 85 4), .int (σ 85 5), .int (σ 85 6)]) (rest := []) C0 X hP L_X3_107 (fun sz => c_X4_tellRule l D cA ad o σ t1 (σ 85 4) (σ 85 5) (σ 85 6) ht1 (σ_71, r_72) eσ_71 sz) (kdR t1 ht1).1 (kdR t1 ht1).2 (by decide) rfl ⟨Nat.le_of_ble_eq_true rfl, Nat.le_of_ble_eq_true rfl⟩ rfl hl.1 rfl (Nat.le_of_ble_eq_true rfl) dX3_fulfil_156 ⟨Nat.zero_le _, Nat.zero_le _⟩) (fun r9 σ9 H locs hw hP hS => ?_)
        rw [show σ9 = σ_71 from hw.2] at hP
        rw [show r9 = r_72 from hw.1]
        obtain ⟨q_73, h⟩ := ckp h
        exact r_zret C0 X hP hS hr hlk dX3_fulfil_159 q_73 (rt2 h)
  · replace h := it_f h c_1
    refine lv_iconst (v := 1) hx hb dX3_fulfil_7 (by decide) ?_
    refine lv_goto (tgt := 12) hx hb dX3_fulfil_8 (by decide) ?_
    refine lv_istore_n (lv' := [(2, .int 1), (0, .ref (ad 85)), (1, .ref (ad (22 * t1)))]) hx hb dX3_fulfil_12 rfl hl (by decide) rfl (fun ls hl => ?_)
    refine lv_aload_n hx hb dX3_fulfil_13 rfl (lv_at hl 1 rfl) ?_
    refine gf_X3_40 C0 X hP 85 ⟨by decide, rfl⟩ dX3_fulfil_14 ?_
    rcases sw_in (x := (σ 85 3)) (lo := 112) (n := 9) with c_74 | ⟨j, hj, c_74⟩
    · replace h := it_f h (sw_ne (v := 112) c_74 (by decide))
      replace h := it_f h (sw_ne (v := 114) c_74 (by decide))
      replace h := it_f h (sw_ne (v := 118) c_74 (by decide))
      replace h := it_f h (sw_ne (v := 120) c_74 (by decide))
      refine lv_tableOut (tgt := 160) hx hb dX3_fulfil_17 (by omega) (by decide) ?_
      refine lv_iload_n hx hb dX3_fulfil_160 rfl (lv_at hl 0 rfl) ?_
      refine lv_if_ne (tgt := 205) hx hb dX3_fulfil_161 (by decide) (fun _ => ?_) (fun c_75 => absurd c_75 (by decide))
      refine lv_iconst (v := 0) hx hb dX3_fulfil_205 (by decide) ?_
      exact r_zret C0 X hP hS hr hlk dX3_fulfil_206 (Or.inl rfl) (rt2 h)
    · rcases (show j = 0 ∨ j = 1 ∨ j = 2 ∨ j = 3 ∨ j = 4 ∨ j = 5 ∨ j = 6 ∨ j = 7 ∨ j = 8 by omega) with rfl | rfl | rfl | rfl | rfl | rfl | rfl | rfl | rfl
      · have e_76 : (σ 85 3) = 112 := sw_eq c_74 (by decide)
        replace h := it_t h e_76
        refine lv_tableIn (off := 51) (tgt := 68) hx hb dX3_fulfil_17 (by rw [e_76]; decide) (by rw [e_76]; decide) (by rw [e_76]; rfl) (by decide) ?_
        refine lv_iload_n hx hb dX3_fulfil_68 rfl (lv_at hl 0 rfl) ?_
        refine lv_if_ne (tgt := 94) hx hb dX3_fulfil_69 (by decide) (fun _ => ?_) (fun c_77 => absurd c_77 (by decide))
        refine lv_iconst (v := 0) hx hb dX3_fulfil_94 (by decide) ?_
        exact r_zret C0 X hP hS hr hlk dX3_fulfil_95 (Or.inl rfl) (rt2 h)
      · have e_78 : (σ 85 3) = 113 := sw_eq c_74 (by decide)
        replace h := it_f h (show ¬ (σ 85 3) = 112 by rw [e_78]; decide)
        replace h := it_f h (show ¬ (σ 85 3) = 114 by rw [e_78]; decide)
        replace h := it_f h (show ¬ (σ 85 3) = 118 by rw [e_78]; decide)
        replace h := it_f h (show ¬ (σ 85 3) = 120 by rw [e_78]; decide)
        refine lv_tableIn (off := 143) (tgt := 160) hx hb dX3_fulfil_17 (by rw [e_78]; decide) (by rw [e_78]; decide) (by rw [e_78]; rfl) (by decide) ?_
        refine lv_iload_n hx hb dX3_fulfil_160 rfl (lv_at hl 0 rfl) ?_
        refine lv_if_ne (tgt := 205) hx hb dX3_fulfil_161 (by decide) (fun _ => ?_) (fun c_79 => absurd c_79 (by decide))
        refine lv_iconst (v := 0) hx hb dX3_fulfil_205 (by decide) ?_
        exact r_zret C0 X hP hS hr hlk dX3_fulfil_206 (Or.inl rfl) (rt2 h)
      · have e_80 : (σ 85 3) = 114 := sw_eq c_74 (by decide)
        replace h := it_f h (show ¬ (σ 85 3) = 112 by rw [e_80]; decide)
        replace h := it_t h e_80
        refine lv_tableIn (off := 79) (tgt := 96) hx hb dX3_fulfil_17 (by rw [e_80]; decide) (by rw [e_80]; decide) (by rw [e_80]; rfl) (by decide) ?_
        refine lv_iload_n hx hb dX3_fulfil_96 rfl (lv_at hl 0 rfl) ?_
        refine lv_if_ne (tgt := 122) hx hb dX3_fulfil_97 (by decide) (fun _ => ?_) (fun c_81 => absurd c_81 (by decide))
        refine lv_iconst (v := 0) hx hb dX3_fulfil_122 (by decide) ?_
        exact r_zret C0 X hP hS hr hlk dX3_fulfil_123 (Or.inl rfl) (rt2 h)
      · have e_82 : (σ 85 3) = 115 := sw_eq c_74 (by decide)
        replace h := it_f h (show ¬ (σ 85 3) = 112 by rw [e_82]; decide)
        replace h := it_f h (show ¬ (σ 85 3) = 114 by rw [e_82]; decide)
        replace h := it_f h (show ¬ (σ 85 3) = 118 by rw [e_82]; decide)
        replace h := it_f h (show ¬ (σ 85 3) = 120 by rw [e_82]; decide)
        refine lv_tableIn (off := 143) (tgt := 160) hx hb dX3_fulfil_17 (by rw [e_82]; decide) (by rw [e_82]; decide) (by rw [e_82]; rfl) (by decide) ?_
        refine lv_iload_n hx hb dX3_fulfil_160 rfl (lv_at hl 0 rfl) ?_
        refine lv_if_ne (tgt := 205) hx hb dX3_fulfil_161 (by decide) (fun _ => ?_) (fun c_83 => absurd c_83 (by decide))
        refine lv_iconst (v := 0) hx hb dX3_fulfil_205 (by decide) ?_
        exact r_zret C0 X hP hS hr hlk dX3_fulfil_206 (Or.inl rfl) (rt2 h)
      · have e_84 : (σ 85 3) = 116 := sw_eq c_74 (by decide)
        replace h := it_f h (show ¬ (σ 85 3) = 112 by rw [e_84]; decide)
        replace h := it_f h (show ¬ (σ 85 3) = 114 by rw [e_84]; decide)
        replace h := it_f h (show ¬ (σ 85 3) = 118 by rw [e_84]; decide)
        replace h := it_f h (show ¬ (σ 85 3) = 120 by rw [e_84]; decide)
        refine lv_tableIn (off := 143) (tgt := 160) hx hb dX3_fulfil_17 (by rw [e_84]; decide) (by rw [e_84]; decide) (by rw [e_84]; rfl) (by decide) ?_
        refine lv_iload_n hx hb dX3_fulfil_160 rfl (lv_at hl 0 rfl) ?_
        refine lv_if_ne (tgt := 205) hx hb dX3_fulfil_161 (by decide) (fun _ => ?_) (fun c_85 => absurd c_85 (by decide))
        refine lv_iconst (v := 0) hx hb dX3_fulfil_205 (by decide) ?_
        exact r_zret C0 X hP hS hr hlk dX3_fulfil_206 (Or.inl rfl) (rt2 h)
      · have e_86 : (σ 85 3) = 117 := sw_eq c_74 (by decide)
        replace h := it_f h (show ¬ (σ 85 3) = 112 by rw [e_86]; decide)
        replace h := it_f h (show ¬ (σ 85 3) = 114 by rw [e_86]; decide)
        replace h := it_f h (show ¬ (σ 85 3) = 118 by rw [e_86]; decide)
        replace h := it_f h (show ¬ (σ 85 3) = 120 by rw [e_86]; decide)
        refine lv_tableIn (off := 143) (tgt := 160) hx hb dX3_fulfil_17 (by rw [e_86]; decide) (by rw [e_86]; decide) (by rw [e_86]; rfl) (by decide) ?_
        refine lv_iload_n hx hb dX3_fulfil_160 rfl (lv_at hl 0 rfl) ?_
        refine lv_if_ne (tgt := 205) hx hb dX3_fulfil_161 (by decide) (fun _ => ?_) (fun c_87 => absurd c_87 (by decide))
        refine lv_iconst (v := 0) hx hb dX3_fulfil_205 (by decide) ?_
        exact r_zret C0 X hP hS hr hlk dX3_fulfil_206 (Or.inl rfl) (rt2 h)
      · have e_88 : (σ 85 3) = 118 := sw_eq c_74 (by decide)
        replace h := it_f h (show ¬ (σ 85 3) = 112 by rw [e_88]; decide)
        replace h := it_f h (show ¬ (σ 85 3) = 114 by rw [e_88]; decide)
        replace h := it_t h e_88
        refine lv_tableIn (off := 107) (tgt := 124) hx hb dX3_fulfil_17 (by rw [e_88]; decide) (by rw [e_88]; decide) (by rw [e_88]; rfl) (by decide) ?_
        refine lv_aload_n hx hb dX3_fulfil_124 rfl (lv_at hl 2 rfl) ?_
        refine gf_X3_91 C0 X hP (22 * t1) (q := (22 * t1 + 1)) (kdT t1 ht1) (by omega) (lkT0 t1 ht1) dX3_fulfil_125 ?_
        refine lv_aload_n hx hb dX3_fulfil_128 rfl (lv_at hl 1 rfl) ?_
        refine gf_X3_43 C0 X hP 85 ⟨by decide, rfl⟩ dX3_fulfil_129 ?_
        refine lv_aload_n hx hb dX3_fulfil_132 rfl (lv_at hl 1 rfl) ?_
        refine gf_X3_46 C0 X hP 85 ⟨by decide, rfl⟩ dX3_fulfil_133 ?_
        obtain ⟨σ_89, r_90, eσ_89, h⟩ := bnd2 h
        refine r_ci X hS (r_runV (As := [.int (σ 85 4), .int (σ 85 5)]) (rest := []) C0 X hP L_X3_104 (fun sz => c_X4_tellVillage l D cA ad o σ t1 (σ 85 4) (σ 85 5) ht1 (σ_89, r_90) eσ_89 sz) (kdR t1 ht1).1 (kdR t1 ht1).2 (by decide) rfl ⟨Nat.le_of_ble_eq_true rfl, Nat.le_of_ble_eq_true rfl⟩ rfl hl.1 rfl (Nat.le_of_ble_eq_true rfl) dX3_fulfil_136 ⟨Nat.zero_le _, Nat.zero_le _⟩) (fun r9 σ9 H locs hw hP hS => ?_)
        rw [show σ9 = σ_89 from hw.2] at hP
        rw [show r9 = r_90 from hw.1]
        obtain ⟨q_91, h⟩ := ckp h
        exact r_zret C0 X hP hS hr hlk dX3_fulfil_139 q_91 (rt2 h)
      · have e_92 : (σ 85 3) = 119 := sw_eq c_74 (by decide)
        replace h := it_f h (show ¬ (σ 85 3) = 112 by rw [e_92]; decide)
        replace h := it_f h (show ¬ (σ 85 3) = 114 by rw [e_92]; decide)
        replace h := it_f h (show ¬ (σ 85 3) = 118 by rw [e_92]; decide)
        replace h := it_f h (show ¬ (σ 85 3) = 120 by rw [e_92]; decide)
        refine lv_tableIn (off := 143) (tgt := 160) hx hb dX3_fulfil_17 (by rw [e_92]; decide) (by rw [e_92]; decide) (by rw [e_92]; rfl) (by decide) ?_
        refine lv_iload_n hx hb dX3_fulfil_160 rfl (lv_at hl 0 rfl) ?_
        refine lv_if_ne (tgt := 205) hx hb dX3_fulfil_161 (by decide) (fun _ => ?_) (fun c_93 => absurd c_93 (by decide))
        refine lv_iconst (v := 0) hx hb dX3_fulfil_205 (by decide) ?_
        exact r_zret C0 X hP hS hr hlk dX3_fulfil_206 (Or.inl rfl) (rt2 h)
      · have e_94 : (σ 85 3) = 120 := sw_eq c_74 (by decide)
        replace h := it_f h (show ¬ (σ 85 3) = 112 by rw [e_94]; decide)
        replace h := it_f h (show ¬ (σ 85 3) = 114 by rw [e_94]; decide)
        replace h := it_f h (show ¬ (σ 85 3) = 118 by rw [e_94]; decide)
        replace h := it_t h e_94
        refine lv_tableIn (off := 123) (tgt := 140) hx hb dX3_fulfil_17 (by rw [e_94]; decide) (by rw [e_94]; decide) (by rw [e_94]; rfl) (by decide) ?_
        refine lv_aload_n hx hb dX3_fulfil_140 rfl (lv_at hl 2 rfl) ?_
        refine gf_X3_91 C0 X hP (22 * t1) (q := (22 * t1 + 1)) (kdT t1 ht1) (by omega) (lkT0 t1 ht1) dX3_fulfil_141 ?_
        refine lv_aload_n hx hb dX3_fulfil_144 rfl (lv_at hl 1 rfl) ?_
        refine gf_X3_43 C0 X hP 85 ⟨by decide, rfl⟩ dX3_fulfil_145 ?_
        refine lv_aload_n hx hb dX3_fulfil_148 rfl (lv_at hl 1 rfl) ?_
        refine gf_X3_46 C0 X hP 85 ⟨by decide, rfl⟩ dX3_fulfil_149 ?_
        refine lv_aload_n hx hb dX3_fulfil_152 rfl (lv_at hl 1 rfl) ?_
        refine gf_X3_49 C0 X hP 85 ⟨by decide, rfl⟩ dX3_fulfil_153 ?_
        obtain ⟨σ_95, r_96, eσ_95, h⟩ := bnd2 h
        refine r_ci X hS (r_runV (As := [.int (σ 85 4), .int (σ 85 5), .int (σ 85 6)]) (rest := []) C0 X hP L_X3_107 (fun sz => c_X4_tellRule l D cA ad o σ t1 (σ 85 4) (σ 85 5) (σ 85 6) ht1 (σ_95, r_96) eσ_95 sz) (kdR t1 ht1).1 (kdR t1 ht1).2 (by decide) rfl ⟨Nat.le_of_ble_eq_true rfl, Nat.le_of_ble_eq_true rfl⟩ rfl hl.1 rfl (Nat.le_of_ble_eq_true rfl) dX3_fulfil_156 ⟨Nat.zero_le _, Nat.zero_le _⟩) (fun r9 σ9 H locs hw hP hS => ?_)
        rw [show σ9 = σ_95 from hw.2] at hP
        rw [show r9 = r_96 from hw.1]
        obtain ⟨q_97, h⟩ := ckp h
        exact r_zret C0 X hP hS hr hlk dX3_fulfil_159 q_97 (rt2 h)
def bB_cX3_read : Nat := 0xac64041530f8110900a71d07009c0415aeffa70105840103840436061507009a2000b62c2a0f009c0415ac641200b42a18fc110c00991600b42a1d00b62a06361200b42a3700a21a00b40c00b42a1200b42a11009905154a009a1600b42a5100a3641005150536030436023e031600b5032a1200b5032a0c00b52b2a
theorem yB_cX3_read : BYS cX3_read 124 bB_cX3_read := BYS_of (by decide +kernel)
theorem dX3_read_0 : decode cX3_read 0 = .ok (.aload_n 0, 1) := D_42 yB_cX3_read rfl rfl
theorem dX3_read_1 : decode cX3_read 1 = .ok (.aload_n 1, 1) := D_43 yB_cX3_read rfl rfl
theorem dX3_read_2 : decode cX3_read 2 = .ok (.putfield 12, 3) := D_181 yB_cX3_read rfl rfl rfl
theorem dX3_read_5 : decode cX3_read 5 = .ok (.aload_n 0, 1) := D_42 yB_cX3_read rfl rfl
theorem dX3_read_6 : decode cX3_read 6 = .ok (.iconst 0, 1) := D_3 yB_cX3_read rfl rfl
theorem dX3_read_7 : decode cX3_read 7 = .ok (.putfield 18, 3) := D_181 yB_cX3_read rfl rfl rfl
theorem dX3_read_10 : decode cX3_read 10 = .ok (.aload_n 0, 1) := D_42 yB_cX3_read rfl rfl
theorem dX3_read_11 : decode cX3_read 11 = .ok (.iconst 0, 1) := D_3 yB_cX3_read rfl rfl
theorem dX3_read_12 : decode cX3_read 12 = .ok (.putfield 22, 3) := D_181 yB_cX3_read rfl rfl rfl
theorem dX3_read_15 : decode cX3_read 15 = .ok (.iconst 0, 1) := D_3 yB_cX3_read rfl rfl
theorem dX3_read_16 : decode cX3_read 16 = .ok (.istore_n 3, 1) := D_62 yB_cX3_read rfl rfl
theorem dX3_read_17 : decode cX3_read 17 = .ok (.iconst (-1), 1) := D_2 yB_cX3_read rfl rfl
theorem dX3_read_18 : decode cX3_read 18 = .ok (.istore 4, 2) := D_54 yB_cX3_read rfl rfl rfl
theorem dX3_read_20 : decode cX3_read 20 = .ok (.iconst 0, 1) := D_3 yB_cX3_read rfl rfl
theorem dX3_read_21 : decode cX3_read 21 = .ok (.istore 5, 2) := D_54 yB_cX3_read rfl rfl rfl
theorem dX3_read_23 : decode cX3_read 23 = .ok (.iload 5, 2) := D_21 yB_cX3_read rfl rfl rfl
theorem dX3_read_25 : decode cX3_read 25 = .ok (.bipush 100, 2) := D_16 yB_cX3_read rfl rfl (sg_p (m := 128) (N := 100) rfl rfl rfl)
theorem dX3_read_27 : decode cX3_read 27 = .ok (.if_icmp .gt 81, 3) := D_163 yB_cX3_read rfl rfl (sg_p (m := 32768) (N := 81) rfl rfl rfl)
theorem dX3_read_30 : decode cX3_read 30 = .ok (.aload_n 0, 1) := D_42 yB_cX3_read rfl rfl
theorem dX3_read_31 : decode cX3_read 31 = .ok (.getfield 22, 3) := D_180 yB_cX3_read rfl rfl rfl
theorem dX3_read_34 : decode cX3_read 34 = .ok (.ifCond .ne 74, 3) := D_154 yB_cX3_read rfl rfl (sg_p (m := 32768) (N := 74) rfl rfl rfl)
theorem dX3_read_37 : decode cX3_read 37 = .ok (.iload 5, 2) := D_21 yB_cX3_read rfl rfl rfl
theorem dX3_read_39 : decode cX3_read 39 = .ok (.ifCond .eq 17, 3) := D_153 yB_cX3_read rfl rfl (sg_p (m := 32768) (N := 17) rfl rfl rfl)
theorem dX3_read_42 : decode cX3_read 42 = .ok (.aload_n 0, 1) := D_42 yB_cX3_read rfl rfl
theorem dX3_read_43 : decode cX3_read 43 = .ok (.getfield 18, 3) := D_180 yB_cX3_read rfl rfl rfl
theorem dX3_read_46 : decode cX3_read 46 = .ok (.aload_n 0, 1) := D_42 yB_cX3_read rfl rfl
theorem dX3_read_47 : decode cX3_read 47 = .ok (.getfield 12, 3) := D_180 yB_cX3_read rfl rfl rfl
theorem dX3_read_50 : decode cX3_read 50 = .ok (.getfield 26, 3) := D_180 yB_cX3_read rfl rfl rfl
theorem dX3_read_53 : decode cX3_read 53 = .ok (.if_icmp .ge 55, 3) := D_162 yB_cX3_read rfl rfl (sg_p (m := 32768) (N := 55) rfl rfl rfl)
theorem dX3_read_56 : decode cX3_read 56 = .ok (.aload_n 0, 1) := D_42 yB_cX3_read rfl rfl
theorem dX3_read_57 : decode cX3_read 57 = .ok (.getfield 18, 3) := D_180 yB_cX3_read rfl rfl rfl
theorem dX3_read_60 : decode cX3_read 60 = .ok (.istore 6, 2) := D_54 yB_cX3_read rfl rfl rfl
theorem dX3_read_62 : decode cX3_read 62 = .ok (.aload_n 0, 1) := D_42 yB_cX3_read rfl rfl
theorem dX3_read_63 : decode cX3_read 63 = .ok (.invokevirtual 29, 3) := D_182 yB_cX3_read rfl rfl rfl
theorem dX3_read_66 : decode cX3_read 66 = .ok (.aload_n 0, 1) := D_42 yB_cX3_read rfl rfl
theorem dX3_read_67 : decode cX3_read 67 = .ok (.getfield 22, 3) := D_180 yB_cX3_read rfl rfl rfl
theorem dX3_read_70 : decode cX3_read 70 = .ok (.ifCond .eq 12, 3) := D_153 yB_cX3_read rfl rfl (sg_p (m := 32768) (N := 12) rfl rfl rfl)
theorem dX3_read_73 : decode cX3_read 73 = .ok (.sipush (-1000), 3) := D_17 yB_cX3_read rfl rfl (sg_n (m := 32768) (N := 1000) rfl rfl rfl)
theorem dX3_read_76 : decode cX3_read 76 = .ok (.aload_n 0, 1) := D_42 yB_cX3_read rfl rfl
theorem dX3_read_77 : decode cX3_read 77 = .ok (.getfield 18, 3) := D_180 yB_cX3_read rfl rfl rfl
theorem dX3_read_80 : decode cX3_read 80 = .ok (.isub, 1) := D_100 yB_cX3_read rfl rfl
theorem dX3_read_81 : decode cX3_read 81 = .ok (.ireturn, 1) := D_172 yB_cX3_read rfl rfl
theorem dX3_read_82 : decode cX3_read 82 = .ok (.iload 4, 2) := D_21 yB_cX3_read rfl rfl rfl
theorem dX3_read_84 : decode cX3_read 84 = .ok (.ifCond .ge 15, 3) := D_156 yB_cX3_read rfl rfl (sg_p (m := 32768) (N := 15) rfl rfl rfl)
theorem dX3_read_87 : decode cX3_read 87 = .ok (.aload_n 0, 1) := D_42 yB_cX3_read rfl rfl
theorem dX3_read_88 : decode cX3_read 88 = .ok (.aload_n 2, 1) := D_44 yB_cX3_read rfl rfl
theorem dX3_read_89 : decode cX3_read 89 = .ok (.invokevirtual 32, 3) := D_182 yB_cX3_read rfl rfl rfl
theorem dX3_read_92 : decode cX3_read 92 = .ok (.ifCond .ne 7, 3) := D_154 yB_cX3_read rfl rfl (sg_p (m := 32768) (N := 7) rfl rfl rfl)
theorem dX3_read_95 : decode cX3_read 95 = .ok (.iload 6, 2) := D_21 yB_cX3_read rfl rfl rfl
theorem dX3_read_97 : decode cX3_read 97 = .ok (.istore 4, 2) := D_54 yB_cX3_read rfl rfl rfl
theorem dX3_read_99 : decode cX3_read 99 = .ok (.iinc 3 1, 3) := D_132 yB_cX3_read rfl rfl rfl (sg_p (m := 128) (N := 1) rfl rfl rfl)
theorem dX3_read_102 : decode cX3_read 102 = .ok (.iinc 5 1, 3) := D_132 yB_cX3_read rfl rfl rfl (sg_p (m := 128) (N := 1) rfl rfl rfl)
theorem dX3_read_105 : decode cX3_read 105 = .ok (.goto (-82), 3) := D_167 yB_cX3_read rfl rfl (sg_n (m := 32768) (N := 82) rfl rfl rfl)
theorem dX3_read_108 : decode cX3_read 108 = .ok (.iload 4, 2) := D_21 yB_cX3_read rfl rfl rfl
theorem dX3_read_110 : decode cX3_read 110 = .ok (.ifCond .ge 7, 3) := D_156 yB_cX3_read rfl rfl (sg_p (m := 32768) (N := 7) rfl rfl rfl)
theorem dX3_read_113 : decode cX3_read 113 = .ok (.iload_n 3, 1) := D_29 yB_cX3_read rfl rfl
theorem dX3_read_114 : decode cX3_read 114 = .ok (.goto 9, 3) := D_167 yB_cX3_read rfl rfl (sg_p (m := 32768) (N := 9) rfl rfl rfl)
theorem dX3_read_117 : decode cX3_read 117 = .ok (.sipush (-2000), 3) := D_17 yB_cX3_read rfl rfl (sg_n (m := 32768) (N := 2000) rfl rfl rfl)
theorem dX3_read_120 : decode cX3_read 120 = .ok (.iload 4, 2) := D_21 yB_cX3_read rfl rfl rfl
theorem dX3_read_122 : decode cX3_read 122 = .ok (.isub, 1) := D_100 yB_cX3_read rfl rfl
theorem dX3_read_123 : decode cX3_read 123 = .ok (.ireturn, 1) := D_172 yB_cX3_read rfl rfl
def F_X3_read_23 (d1 : Nat) (t2 : Nat)  : Nat → Mem → Int32 → Int32 → Int32 → Option (Mem × Int32)
  | 0, _, _, _, _ => none
  | nn + 1, σ, v5, v4, v3 => if 100 < v5 then (if 0 ≤ v4 then (some (σ, ((-2000) - v4))) else (some (σ, v3))) else (if (σ 85 2) = 0 then (if v5 = 0 then ((F_X3_readStatement σ ).bind fun σ_7 => if (σ_7 85 2) = 0 then (if 0 ≤ v4 then (F_X3_read_23 d1 t2 nn σ_7 (v5 + 1) v4 (v3 + 1)) else (bd2 (F_X3_fulfil σ_7 t2) fun σ_10 r_11 => if r_11 = 0 then (F_X3_read_23 d1 t2 nn σ_10 (v5 + 1) (σ 85 1) (v3 + 1)) else (F_X3_read_23 d1 t2 nn σ_10 (v5 + 1) v4 (v3 + 1)))) else (some (σ_7, ((-1000) - (σ_7 85 1))))) else ((tx σ).bind fun d_13 => if (σ (68 + d_13) 4) ≤ (σ 85 1) then (if 0 ≤ v4 then (some (σ, ((-2000) - v4))) else (some (σ, v3))) else ((F_X3_readStatement σ ).bind fun σ_16 => if (σ_16 85 2) = 0 then (if 0 ≤ v4 then (F_X3_read_23 d1 t2 nn σ_16 (v5 + 1) v4 (v3 + 1)) else (bd2 (F_X3_fulfil σ_16 t2) fun σ_19 r_20 => if r_20 = 0 then (F_X3_read_23 d1 t2 nn σ_19 (v5 + 1) (σ 85 1) (v3 + 1)) else (F_X3_read_23 d1 t2 nn σ_19 (v5 + 1) v4 (v3 + 1)))) else (some (σ_16, ((-1000) - (σ_16 85 1))))))) else (if 0 ≤ v4 then (some (σ, ((-2000) - v4))) else (some (σ, v3))))
def F_X3_read (σ : Mem) (d1 : Nat) (t2 : Nat) : Option (Mem × Int32) := F_X3_read_23 d1 t2 FU (stm (stm (stm σ 85 0 (nI (68 + d1))) 85 1 0) 85 2 0) 0 (-1) 0
set_option maxHeartbeats 4000000 in
set_option maxRecDepth 100000 in
theorem c_X3_read (l : Launch) (D : va_G) (cA : Nat → ClassId) (ad : Nat → Nat) (o : Int64) (σ : Mem) (d1 : Nat) (t2 : Nat) (hd1 : d1 < 8) (ht2 : t2 < 3) (res : Mem × Int32) (h : F_X3_read σ d1 t2 = some res) (sz : Nat) : Met l yX3_read (WY yX3_read cX3_read 7 (some .int)) (RM 5) (va_Pc [.ref (ad 85), .ref (ad (68 + d1)), .ref (ad (22 * t2))] (PW D cA ad o σ sz)) (va_Qi (fun r σ9 => r = res.2 ∧ σ9 = res.1) (QW D cA ad o) (FA ad sz)) 0 0 (FA ad sz) := by
  refine ct_of (own := RX3) (k := 5) (Qf := va_Qi (fun r σ9 => r = res.2 ∧ σ9 = res.1) (QW D cA ad o)) rfl (by decide) (Nat.le_of_ble_eq_true rfl) (fun p e s m below meth c ls C0 X hr hlk hP hl => ?_) sz
  have hS : va_S (FA ad s.heap.size) s.heap s.heap [] := va_S.rf
  have hl : lv_has ls 7 [(0, .ref (ad 85)), (1, .ref (ad (68 + d1))), (2, .ref (ad (22 * t2)))] := hl
  obtain ⟨hx, hb, hml, hown, hts⟩ := id C0
  unfold F_X3_read at h
  refine lv_aload_n hx hb dX3_read_0 rfl (lv_at hl 0 rfl) ?_
  refine lv_aload_n hx hb dX3_read_1 rfl (lv_at hl 1 rfl) ?_
  refine r_put85 C0 X hP hS (j := 68 + d1) (by have := hd1; omega) dX3_read_2 (fun H locs hP hS => ?_)
  refine lv_aload_n hx hb dX3_read_5 rfl (lv_at hl 0 rfl) ?_
  refine lv_iconst (v := 0) hx hb dX3_read_6 (by decide) ?_
  refine pf_X3_18 C0 X hP hS 85 ⟨by decide, rfl⟩ dX3_read_7 (fun H locs hP hS => ?_)
  refine lv_aload_n hx hb dX3_read_10 rfl (lv_at hl 0 rfl) ?_
  refine lv_iconst (v := 0) hx hb dX3_read_11 (by decide) ?_
  refine pf_X3_22 C0 X hP hS 85 (Or.inl rfl) ⟨by decide, rfl⟩ dX3_read_12 (fun H locs hP hS => ?_)
  refine lv_iconst (v := 0) hx hb dX3_read_15 (by decide) ?_
  refine lv_istore_n (lv' := [(3, .int 0), (0, .ref (ad 85)), (1, .ref (ad (68 + d1))), (2, .ref (ad (22 * t2)))]) hx hb dX3_read_16 rfl hl (by decide) rfl (fun ls hl => ?_)
  refine lv_iconst (v := (-1)) hx hb dX3_read_17 (by decide) ?_
  refine lv_istore (lv' := [(4, .int (-1)), (3, .int 0), (0, .ref (ad 85)), (1, .ref (ad (68 + d1))), (2, .ref (ad (22 * t2)))]) hx hb dX3_read_18 hl (by decide) rfl (fun ls hl => ?_)
  refine lv_iconst (v := 0) hx hb dX3_read_20 (by decide) ?_
  refine lv_istore (lv' := [(5, .int 0), (4, .int (-1)), (3, .int 0), (0, .ref (ad 85)), (1, .ref (ad (68 + d1))), (2, .ref (ad (22 * t2)))]) hx hb dX3_read_21 hl (by decide) rfl (fun ls hl => ?_)
  have lp_1 : ∀ (nn23 : Nat) (σ : Mem) (v5 : Int32) (v4 : Int32) (v3 : Int32) (H : Heap) (locs : List Loc) (ls : Array Slot), F_X3_read_23 d1 t2 nn23 σ v5 v4 v3 = some res → WP D cA ad o σ H → va_S (FA ad s.heap.size) s.heap H locs → lv_has ls 7 [(5, .int v5), (4, .int v4), (3, .int v3), (0, .ref (ad 85)), (1, .ref (ad (68 + d1))), (2, .ref (ad (22 * t2)))] → W p l e (RM 5) s m ([.ref (ad 85), .ref (ad (68 + d1)), .ref (ad (22 * t2))] : List Value).toArray below meth c H locs 0 0 (MQ below (va_Qi (fun r σ9 => r = res.2 ∧ σ9 = res.1) (QW D cA ad o) (FA ad s.heap.size)) ([.ref (ad 85), .ref (ad (68 + d1)), .ref (ad (22 * t2))] : List Value).toArray s 0 0 (FA ad s.heap.size)) (F0 m 23 ls []) := by
    intro nn23
    induction nn23 with
    | zero => intro σ v5 v4 v3 H locs ls h hP hS hl; exact absurd (show none = some res from h) nofun
    | succ nn23 ih23 =>
      intro σ v5 v4 v3 H locs ls h hP hS hl
      replace h := (F_X3_read_23.eq_2 _ _ _ _ _ _ _).symm.trans h
      refine lv_iload hx hb dX3_read_23 (lv_at hl 0 rfl) ?_
      refine lv_bipush (v := 100) hx hb dX3_read_25 (by decide) ?_
      refine lv_icmp_gt (tgt := 108) hx hb dX3_read_27 (by decide) (fun c_2 => ?_) (fun c_2 => ?_)
      · replace h := it_t h c_2
        refine lv_iload hx hb dX3_read_108 (lv_at hl 1 rfl) ?_
        refine lv_if_ge (tgt := 117) hx hb dX3_read_110 (by decide) (fun c_3 => ?_) (fun c_3 => ?_)
        · replace h := it_t h c_3
          refine lv_sipush (v := (-2000)) hx hb dX3_read_117 (by decide) ?_
          refine lv_iload hx hb dX3_read_120 (lv_at hl 1 rfl) ?_
          refine lv_isub hx hb dX3_read_122 ?_
          exact r_iret C0 X hP hS hr hlk dX3_read_123 (rt2 h)
        · replace h := it_f h c_3
          refine lv_iload_n hx hb dX3_read_113 rfl (lv_at hl 2 rfl) ?_
          refine lv_goto (tgt := 123) hx hb dX3_read_114 (by decide) ?_
          exact r_iret C0 X hP hS hr hlk dX3_read_123 (rt2 h)
      · replace h := it_f h c_2
        refine lv_aload_n hx hb dX3_read_30 rfl (lv_at hl 3 rfl) ?_
        refine gf_X3_22 C0 X hP 85 ⟨by decide, rfl⟩ dX3_read_31 ?_
        refine lv_if_ne (tgt := 108) hx hb dX3_read_34 (by decide) (fun c_4 => ?_) (fun c_4 => ?_)
        · replace h := it_f h c_4
          refine lv_iload hx hb dX3_read_108 (lv_at hl 1 rfl) ?_
          refine lv_if_ge (tgt := 117) hx hb dX3_read_110 (by decide) (fun c_5 => ?_) (fun c_5 => ?_)
          · replace h := it_t h c_5
            refine lv_sipush (v := (-2000)) hx hb dX3_read_117 (by decide) ?_
            refine lv_iload hx hb dX3_read_120 (lv_at hl 1 rfl) ?_
            refine lv_isub hx hb dX3_read_122 ?_
            exact r_iret C0 X hP hS hr hlk dX3_read_123 (rt2 h)
          · replace h := it_f h c_5
            refine lv_iload_n hx hb dX3_read_113 rfl (lv_at hl 2 rfl) ?_
            refine lv_goto (tgt := 123) hx hb dX3_read_114 (by decide) ?_
            exact r_iret C0 X hP hS hr hlk dX3_read_123 (rt2 h)
        · replace h := it_t h c_4
          refine lv_iload hx hb dX3_read_37 (lv_at hl 0 rfl) ?_
          refine lv_if_eq (tgt := 56) hx hb dX3_read_39 (by decide) (fun c_6 => ?_) (fun c_6 => ?_)
          · replace h := it_t h c_6
            refine lv_aload_n hx hb dX3_read_56 rfl (lv_at hl 3 rfl) ?_
            refine gf_X3_18 C0 X hP 85 ⟨by decide, rfl⟩ dX3_read_57 ?_
            refine lv_istore (lv' := [(6, .int (σ 85 1)), (5, .int v5), (4, .int v4), (3, .int v3), (0, .ref (ad 85)), (1, .ref (ad (68 + d1))), (2, .ref (ad (22 * t2)))]) hx hb dX3_read_60 hl (by decide) rfl (fun ls hl => ?_)
            refine lv_aload_n hx hb dX3_read_62 rfl (lv_at hl 4 rfl) ?_
            obtain ⟨σ_7, eσ_7, h⟩ := bnd h
            refine r_cv X hS (r_runV (As := []) (rest := []) C0 X hP L_X3_29 (fun sz => c_X3_readStatement l D cA ad o σ   σ_7 eσ_7 sz) (show 85 < 106 ∧ kd 85 = (3, 8) from ⟨by decide, rfl⟩).1 (show 85 < 106 ∧ kd 85 = (3, 8) from ⟨by decide, rfl⟩).2 (by decide) rfl ⟨Nat.le_of_ble_eq_true rfl, Nat.le_of_ble_eq_true rfl⟩ rfl hl.1 rfl (Nat.le_of_ble_eq_true rfl) dX3_read_63 ⟨Nat.zero_le _, Nat.zero_le _⟩) (fun σ9 H locs hw hP hS => ?_)
            rw [show σ9 = σ_7 from hw] at hP
            refine lv_aload_n hx hb dX3_read_66 rfl (lv_at hl 4 rfl) ?_
            refine gf_X3_22 C0 X hP 85 ⟨by decide, rfl⟩ dX3_read_67 ?_
            refine lv_if_eq (tgt := 82) hx hb dX3_read_70 (by decide) (fun c_8 => ?_) (fun c_8 => ?_)
            · replace h := it_t h c_8
              refine lv_iload hx hb dX3_read_82 (lv_at hl 2 rfl) ?_
              refine lv_if_ge (tgt := 99) hx hb dX3_read_84 (by decide) (fun c_9 => ?_) (fun c_9 => ?_)
              · replace h := it_t h c_9
                refine lv_iinc (v := (v3 + 1)) (lv' := [(3, .int (v3 + 1)), (6, .int (σ 85 1)), (5, .int v5), (4, .int v4), (0, .ref (ad 85)), (1, .ref (ad (68 + d1))), (2, .ref (ad (22 * t2)))]) hx hb dX3_read_99 hl (k := 3) rfl rfl (by decide) rfl (fun ls hl => ?_)
                refine lv_iinc (v := (v5 + 1)) (lv' := [(5, .int (v5 + 1)), (3, .int (v3 + 1)), (6, .int (σ 85 1)), (4, .int v4), (0, .ref (ad 85)), (1, .ref (ad (68 + d1))), (2, .ref (ad (22 * t2)))]) hx hb dX3_read_102 hl (k := 2) rfl rfl (by decide) rfl (fun ls hl => ?_)
                refine lv_goto (tgt := 23) hx hb dX3_read_105 (by decide) ?_
                exact ih23 σ_7 (v5 + 1) v4 (v3 + 1) _ _ ls  h hP hS (lv_sub hl [0, 3, 1, 4, 5, 6] rfl)
              · replace h := it_f h c_9
                refine lv_aload_n hx hb dX3_read_87 rfl (lv_at hl 4 rfl) ?_
                refine lv_aload_n hx hb dX3_read_88 rfl (lv_at hl 6 rfl) ?_
                obtain ⟨σ_10, r_11, eσ_10, h⟩ := bnd2 h
                refine r_ci X hS (r_runV (As := [.ref (ad (22 * t2))]) (rest := []) C0 X hP L_X3_32 (fun sz => c_X3_fulfil l D cA ad o σ_7 t2 ht2 (σ_10, r_11) eσ_10 sz) (show 85 < 106 ∧ kd 85 = (3, 8) from ⟨by decide, rfl⟩).1 (show 85 < 106 ∧ kd 85 = (3, 8) from ⟨by decide, rfl⟩).2 (by decide) rfl ⟨Nat.le_of_ble_eq_true rfl, Nat.le_of_ble_eq_true rfl⟩ rfl hl.1 rfl (Nat.le_of_ble_eq_true rfl) dX3_read_89 ⟨Nat.zero_le _, Nat.zero_le _⟩) (fun r9 σ9 H locs hw hP hS => ?_)
                rw [show σ9 = σ_10 from hw.2] at hP
                rw [show r9 = r_11 from hw.1]
                refine lv_if_ne (tgt := 99) hx hb dX3_read_92 (by decide) (fun c_12 => ?_) (fun c_12 => ?_)
                · replace h := it_f h c_12
                  refine lv_iinc (v := (v3 + 1)) (lv' := [(3, .int (v3 + 1)), (6, .int (σ 85 1)), (5, .int v5), (4, .int v4), (0, .ref (ad 85)), (1, .ref (ad (68 + d1))), (2, .ref (ad (22 * t2)))]) hx hb dX3_read_99 hl (k := 3) rfl rfl (by decide) rfl (fun ls hl => ?_)
                  refine lv_iinc (v := (v5 + 1)) (lv' := [(5, .int (v5 + 1)), (3, .int (v3 + 1)), (6, .int (σ 85 1)), (4, .int v4), (0, .ref (ad 85)), (1, .ref (ad (68 + d1))), (2, .ref (ad (22 * t2)))]) hx hb dX3_read_102 hl (k := 2) rfl rfl (by decide) rfl (fun ls hl => ?_)
                  refine lv_goto (tgt := 23) hx hb dX3_read_105 (by decide) ?_
                  exact ih23 σ_10 (v5 + 1) v4 (v3 + 1) _ _ ls  h hP hS (lv_sub hl [0, 3, 1, 4, 5, 6] rfl)
                · replace h := it_t h c_12
                  refine lv_iload hx hb dX3_read_95 (lv_at hl 0 rfl) ?_
                  refine lv_istore (lv' := [(4, .int (σ 85 1)), (6, .int (σ 85 1)), (5, .int v5), (3, .int v3), (0, .ref (ad 85)), (1, .ref (ad (68 + d1))), (2, .ref (ad (22 * t2)))]) hx hb dX3_read_97 hl (by decide) rfl (fun ls hl => ?_)
                  refine lv_iinc (v := (v3 + 1)) (lv' := [(3, .int (v3 + 1)), (4, .int (σ 85 1)), (6, .int (σ 85 1)), (5, .int v5), (0, .ref (ad 85)), (1, .ref (ad (68 + d1))), (2, .ref (ad (22 * t2)))]) hx hb dX3_read_99 hl (k := 3) rfl rfl (by decide) rfl (fun ls hl => ?_)
                  refine lv_iinc (v := (v5 + 1)) (lv' := [(5, .int (v5 + 1)), (3, .int (v3 + 1)), (4, .int (σ 85 1)), (6, .int (σ 85 1)), (0, .ref (ad 85)), (1, .ref (ad (68 + d1))), (2, .ref (ad (22 * t2)))]) hx hb dX3_read_102 hl (k := 3) rfl rfl (by decide) rfl (fun ls hl => ?_)
                  refine lv_goto (tgt := 23) hx hb dX3_read_105 (by decide) ?_
                  exact ih23 σ_10 (v5 + 1) (σ 85 1) (v3 + 1) _ _ ls  h hP hS (lv_sub hl [0, 2, 1, 4, 5, 6] rfl)
            · replace h := it_f h c_8
              refine lv_sipush (v := (-1000)) hx hb dX3_read_73 (by decide) ?_
              refine lv_aload_n hx hb dX3_read_76 rfl (lv_at hl 4 rfl) ?_
              refine gf_X3_18 C0 X hP 85 ⟨by decide, rfl⟩ dX3_read_77 ?_
              refine lv_isub hx hb dX3_read_80 ?_
              exact r_iret C0 X hP hS hr hlk dX3_read_81 (rt2 h)
          · replace h := it_f h c_6
            refine lv_aload_n hx hb dX3_read_42 rfl (lv_at hl 3 rfl) ?_
            refine gf_X3_18 C0 X hP 85 ⟨by decide, rfl⟩ dX3_read_43 ?_
            refine lv_aload_n hx hb dX3_read_46 rfl (lv_at hl 3 rfl) ?_
            obtain ⟨d_13, ed_13, h⟩ := bnd h
            replace ed_13 := tx_s ed_13
            refine r_get85 C0 X hP (q := 68 + d_13) ed_13.1 (by have := ed_13.2; omega) dX3_read_47 ?_
            refine gf_X3_26 C0 X hP (68 + d_13) (kdS d_13 ed_13.2) dX3_read_50 ?_
            refine lv_icmp_ge (tgt := 108) hx hb dX3_read_53 (by decide) (fun c_14 => ?_) (fun c_14 => ?_)
            · replace h := it_t h c_14
              refine lv_iload hx hb dX3_read_108 (lv_at hl 1 rfl) ?_
              refine lv_if_ge (tgt := 117) hx hb dX3_read_110 (by decide) (fun c_15 => ?_) (fun c_15 => ?_)
              · replace h := it_t h c_15
                refine lv_sipush (v := (-2000)) hx hb dX3_read_117 (by decide) ?_
                refine lv_iload hx hb dX3_read_120 (lv_at hl 1 rfl) ?_
                refine lv_isub hx hb dX3_read_122 ?_
                exact r_iret C0 X hP hS hr hlk dX3_read_123 (rt2 h)
              · replace h := it_f h c_15
                refine lv_iload_n hx hb dX3_read_113 rfl (lv_at hl 2 rfl) ?_
                refine lv_goto (tgt := 123) hx hb dX3_read_114 (by decide) ?_
                exact r_iret C0 X hP hS hr hlk dX3_read_123 (rt2 h)
            · replace h := it_f h c_14
              refine lv_aload_n hx hb dX3_read_56 rfl (lv_at hl 3 rfl) ?_
              refine gf_X3_18 C0 X hP 85 ⟨by decide, rfl⟩ dX3_read_57 ?_
              refine lv_istore (lv' := [(6, .int (σ 85 1)), (5, .int v5), (4, .int v4), (3, .int v3), (0, .ref (ad 85)), (1, .ref (ad (68 + d1))), (2, .ref (ad (22 * t2)))]) hx hb dX3_read_60 hl (by decide) rfl (fun ls hl => ?_)
              refine lv_aload_n hx hb dX3_read_62 rfl (lv_at hl 4 rfl) ?_
              obtain ⟨σ_16, eσ_16, h⟩ := bnd h
              refine r_cv X hS (r_runV (As := []) (rest := []) C0 X hP L_X3_29 (fun sz => c_X3_readStatement l D cA ad o σ   σ_16 eσ_16 sz) (show 85 < 106 ∧ kd 85 = (3, 8) from ⟨by decide, rfl⟩).1 (show 85 < 106 ∧ kd 85 = (3, 8) from ⟨by decide, rfl⟩).2 (by decide) rfl ⟨Nat.le_of_ble_eq_true rfl, Nat.le_of_ble_eq_true rfl⟩ rfl hl.1 rfl (Nat.le_of_ble_eq_true rfl) dX3_read_63 ⟨Nat.zero_le _, Nat.zero_le _⟩) (fun σ9 H locs hw hP hS => ?_)
              rw [show σ9 = σ_16 from hw] at hP
              refine lv_aload_n hx hb dX3_read_66 rfl (lv_at hl 4 rfl) ?_
              refine gf_X3_22 C0 X hP 85 ⟨by decide, rfl⟩ dX3_read_67 ?_
              refine lv_if_eq (tgt := 82) hx hb dX3_read_70 (by decide) (fun c_17 => ?_) (fun c_17 => ?_)
              · replace h := it_t h c_17
                refine lv_iload hx hb dX3_read_82 (lv_at hl 2 rfl) ?_
                refine lv_if_ge (tgt := 99) hx hb dX3_read_84 (by decide) (fun c_18 => ?_) (fun c_18 => ?_)
                · replace h := it_t h c_18
                  refine lv_iinc (v := (v3 + 1)) (lv' := [(3, .int (v3 + 1)), (6, .int (σ 85 1)), (5, .int v5), (4, .int v4), (0, .ref (ad 85)), (1, .ref (ad (68 + d1))), (2, .ref (ad (22 * t2)))]) hx hb dX3_read_99 hl (k := 3) rfl rfl (by decide) rfl (fun ls hl => ?_)
                  refine lv_iinc (v := (v5 + 1)) (lv' := [(5, .int (v5 + 1)), (3, .int (v3 + 1)), (6, .int (σ 85 1)), (4, .int v4), (0, .ref (ad 85)), (1, .ref (ad (68 + d1))), (2, .ref (ad (22 * t2)))]) hx hb dX3_read_102 hl (k := 2) rfl rfl (by decide) rfl (fun ls hl => ?_)
                  refine lv_goto (tgt := 23) hx hb dX3_read_105 (by decide) ?_
                  exact ih23 σ_16 (v5 + 1) v4 (v3 + 1) _ _ ls  h hP hS (lv_sub hl [0, 3, 1, 4, 5, 6] rfl)
                · replace h := it_f h c_18
                  refine lv_aload_n hx hb dX3_read_87 rfl (lv_at hl 4 rfl) ?_
                  refine lv_aload_n hx hb dX3_read_88 rfl (lv_at hl 6 rfl) ?_
                  obtain ⟨σ_19, r_20, eσ_19, h⟩ := bnd2 h
                  refine r_ci X hS (r_runV (As := [.ref (ad (22 * t2))]) (rest := []) C0 X hP L_X3_32 (fun sz => c_X3_fulfil l D cA ad o σ_16 t2 ht2 (σ_19, r_20) eσ_19 sz) (show 85 < 106 ∧ kd 85 = (3, 8) from ⟨by decide, rfl⟩).1 (show 85 < 106 ∧ kd 85 = (3, 8) from ⟨by decide, rfl⟩).2 (by decide) rfl ⟨Nat.le_of_ble_eq_true rfl, Nat.le_of_ble_eq_true rfl⟩ rfl hl.1 rfl (Nat.le_of_ble_eq_true rfl) dX3_read_89 ⟨Nat.zero_le _, Nat.zero_le _⟩) (fun r9 σ9 H locs hw hP hS => ?_)
                  rw [show σ9 = σ_19 from hw.2] at hP
                  rw [show r9 = r_20 from hw.1]
                  refine lv_if_ne (tgt := 99) hx hb dX3_read_92 (by decide) (fun c_21 => ?_) (fun c_21 => ?_)
                  · replace h := it_f h c_21
                    refine lv_iinc (v := (v3 + 1)) (lv' := [(3, .int (v3 + 1)), (6, .int (σ 85 1)), (5, .int v5), (4, .int v4), (0, .ref (ad 85)), (1, .ref (ad (68 + d1))), (2, .ref (ad (22 * t2)))]) hx hb dX3_read_99 hl (k := 3) rfl rfl (by decide) rfl (fun ls hl => ?_)
                    refine lv_iinc (v := (v5 + 1)) (lv' := [(5, .int (v5 + 1)), (3, .int (v3 + 1)), (6, .int (σ 85 1)), (4, .int v4), (0, .ref (ad 85)), (1, .ref (ad (68 + d1))), (2, .ref (ad (22 * t2)))]) hx hb dX3_read_102 hl (k := 2) rfl rfl (by decide) rfl (fun ls hl => ?_)
                    refine lv_goto (tgt := 23) hx hb dX3_read_105 (by decide) ?_
                    exact ih23 σ_19 (v5 + 1) v4 (v3 + 1) _ _ ls  h hP hS (lv_sub hl [0, 3, 1, 4, 5, 6] rfl)
                  · replace h := it_t h c_21
                    refine lv_iload hx hb dX3_read_95 (lv_at hl 0 rfl) ?_
                    refine lv_istore (lv' := [(4, .int (σ 85 1)), (6, .int (σ 85 1)), (5, .int v5), (3, .int v3), (0, .ref (ad 85)), (1, .ref (ad (68 + d1))), (2, .ref (ad (22 * t2)))]) hx hb dX3_read_97 hl (by decide) rfl (fun ls hl => ?_)
                    refine lv_iinc (v := (v3 + 1)) (lv' := [(3, .int (v3 + 1)), (4, .int (σ 85 1)), (6, .int (σ 85 1)), (5, .int v5), (0, .ref (ad 85)), (1, .ref (ad (68 + d1))), (2, .ref (ad (22 * t2)))]) hx hb dX3_read_99 hl (k := 3) rfl rfl (by decide) rfl (fun ls hl => ?_)
                    refine lv_iinc (v := (v5 + 1)) (lv' := [(5, .int (v5 + 1)), (3, .int (v3 + 1)), (4, .int (σ 85 1)), (6, .int (σ 85 1)), (0, .ref (ad 85)), (1, .ref (ad (68 + d1))), (2, .ref (ad (22 * t2)))]) hx hb dX3_read_102 hl (k := 3) rfl rfl (by decide) rfl (fun ls hl => ?_)
                    refine lv_goto (tgt := 23) hx hb dX3_read_105 (by decide) ?_
                    exact ih23 σ_19 (v5 + 1) (σ 85 1) (v3 + 1) _ _ ls  h hP hS (lv_sub hl [0, 2, 1, 4, 5, 6] rfl)
              · replace h := it_f h c_17
                refine lv_sipush (v := (-1000)) hx hb dX3_read_73 (by decide) ?_
                refine lv_aload_n hx hb dX3_read_76 rfl (lv_at hl 4 rfl) ?_
                refine gf_X3_18 C0 X hP 85 ⟨by decide, rfl⟩ dX3_read_77 ?_
                refine lv_isub hx hb dX3_read_80 ?_
                exact r_iret C0 X hP hS hr hlk dX3_read_81 (rt2 h)
  exact lp_1 FU (stm (stm (stm σ 85 0 (nI (68 + d1))) 85 1 0) 85 2 0) 0 (-1) 0 _ _ ls  h hP hS (lv_sub hl [0, 1, 2, 3, 4, 5] rfl)
def bB_cX7_wordsOf : Nat := 0xac05ac08ac0a10ac601b0d10ac601b07ac601b05ac0610ac08400000003d0000003800000034000000300000002d0000002b0000000700000001000000420000000000aa1a
theorem yB_cX7_wordsOf : BYS cX7_wordsOf 69 bB_cX7_wordsOf := BYS_of (by decide +kernel)
theorem dX7_wordsOf_0 : decode cX7_wordsOf 0 = .ok (.iload_n 0, 1) := D_26 yB_cX7_wordsOf rfl rfl
theorem dX7_wordsOf_1 : decode cX7_wordsOf 1 = .ok (.tableswitch 66 1 7 #[43, 45, 48, 52, 56, 61, 64], 43) := by decide +kernel
theorem dX7_wordsOf_44 : decode cX7_wordsOf 44 = .ok (.iconst 5, 1) := D_8 yB_cX7_wordsOf rfl rfl
theorem dX7_wordsOf_45 : decode cX7_wordsOf 45 = .ok (.ireturn, 1) := D_172 yB_cX7_wordsOf rfl rfl
theorem dX7_wordsOf_46 : decode cX7_wordsOf 46 = .ok (.bipush 6, 2) := D_16 yB_cX7_wordsOf rfl rfl (sg_p (m := 128) (N := 6) rfl rfl rfl)
theorem dX7_wordsOf_48 : decode cX7_wordsOf 48 = .ok (.ireturn, 1) := D_172 yB_cX7_wordsOf rfl rfl
theorem dX7_wordsOf_49 : decode cX7_wordsOf 49 = .ok (.iconst 2, 1) := D_5 yB_cX7_wordsOf rfl rfl
theorem dX7_wordsOf_50 : decode cX7_wordsOf 50 = .ok (.iload_n 1, 1) := D_27 yB_cX7_wordsOf rfl rfl
theorem dX7_wordsOf_51 : decode cX7_wordsOf 51 = .ok (.iadd, 1) := D_96 yB_cX7_wordsOf rfl rfl
theorem dX7_wordsOf_52 : decode cX7_wordsOf 52 = .ok (.ireturn, 1) := D_172 yB_cX7_wordsOf rfl rfl
theorem dX7_wordsOf_53 : decode cX7_wordsOf 53 = .ok (.iconst 4, 1) := D_7 yB_cX7_wordsOf rfl rfl
theorem dX7_wordsOf_54 : decode cX7_wordsOf 54 = .ok (.iload_n 1, 1) := D_27 yB_cX7_wordsOf rfl rfl
theorem dX7_wordsOf_55 : decode cX7_wordsOf 55 = .ok (.iadd, 1) := D_96 yB_cX7_wordsOf rfl rfl
theorem dX7_wordsOf_56 : decode cX7_wordsOf 56 = .ok (.ireturn, 1) := D_172 yB_cX7_wordsOf rfl rfl
theorem dX7_wordsOf_57 : decode cX7_wordsOf 57 = .ok (.bipush 13, 2) := D_16 yB_cX7_wordsOf rfl rfl (sg_p (m := 128) (N := 13) rfl rfl rfl)
theorem dX7_wordsOf_59 : decode cX7_wordsOf 59 = .ok (.iload_n 1, 1) := D_27 yB_cX7_wordsOf rfl rfl
theorem dX7_wordsOf_60 : decode cX7_wordsOf 60 = .ok (.iadd, 1) := D_96 yB_cX7_wordsOf rfl rfl
theorem dX7_wordsOf_61 : decode cX7_wordsOf 61 = .ok (.ireturn, 1) := D_172 yB_cX7_wordsOf rfl rfl
theorem dX7_wordsOf_62 : decode cX7_wordsOf 62 = .ok (.bipush 10, 2) := D_16 yB_cX7_wordsOf rfl rfl (sg_p (m := 128) (N := 10) rfl rfl rfl)
theorem dX7_wordsOf_64 : decode cX7_wordsOf 64 = .ok (.ireturn, 1) := D_172 yB_cX7_wordsOf rfl rfl
theorem dX7_wordsOf_65 : decode cX7_wordsOf 65 = .ok (.iconst 5, 1) := D_8 yB_cX7_wordsOf rfl rfl
theorem dX7_wordsOf_66 : decode cX7_wordsOf 66 = .ok (.ireturn, 1) := D_172 yB_cX7_wordsOf rfl rfl
theorem dX7_wordsOf_67 : decode cX7_wordsOf 67 = .ok (.iconst 2, 1) := D_5 yB_cX7_wordsOf rfl rfl
theorem dX7_wordsOf_68 : decode cX7_wordsOf 68 = .ok (.ireturn, 1) := D_172 yB_cX7_wordsOf rfl rfl
def F_X7_wordsOf (σ : Mem) (x1 : Int32) (x2 : Int32) : Option (Int32) := if x1 = 1 then (some 5) else (if x1 = 2 then (some 6) else (if x1 = 3 then (some (2 + x2)) else (if x1 = 4 then (some (4 + x2)) else (if x1 = 5 then (some (13 + x2)) else (if x1 = 6 then (some 10) else (if x1 = 7 then (some 5) else (some 2)))))))
set_option maxHeartbeats 4000000 in
set_option maxRecDepth 100000 in
theorem c_X7_wordsOf (l : Launch) (D : va_G) (cA : Nat → ClassId) (ad : Nat → Nat) (o : Int64) (σ : Mem) (x1 : Int32) (x2 : Int32)  (res : Int32) (h : F_X7_wordsOf σ x1 x2 = some res) (sz : Nat) : Met l yX7_wordsOf (WY yX7_wordsOf cX7_wordsOf 2 (some .int)) (RM 0) (va_Pc [.int x1, .int x2] (PW D cA ad o σ sz)) (va_Qi (fun r σ9 => r = res ∧ σ9 = σ) (QW D cA ad o) (FA ad sz)) 0 0 (FA ad sz) := by
  refine ct_of (own := RX7) (k := 0) (Qf := va_Qi (fun r σ9 => r = res ∧ σ9 = σ) (QW D cA ad o)) rfl (by decide) (Nat.le_of_ble_eq_true rfl) (fun p e s m below meth c ls C0 X hr hlk hP hl => ?_) sz
  have hS : va_S (FA ad s.heap.size) s.heap s.heap [] := va_S.rf
  have hl : lv_has ls 2 [(0, .int x1), (1, .int x2)] := hl
  obtain ⟨hx, hb, hml, hown, hts⟩ := id C0
  unfold F_X7_wordsOf at h
  refine lv_iload_n hx hb dX7_wordsOf_0 rfl (lv_at hl 0 rfl) ?_
  rcases sw_in (x := x1) (lo := 1) (n := 7) with c_1 | ⟨j, hj, c_1⟩
  · replace h := it_f h (sw_ne (v := 1) c_1 (by decide))
    replace h := it_f h (sw_ne (v := 2) c_1 (by decide))
    replace h := it_f h (sw_ne (v := 3) c_1 (by decide))
    replace h := it_f h (sw_ne (v := 4) c_1 (by decide))
    replace h := it_f h (sw_ne (v := 5) c_1 (by decide))
    replace h := it_f h (sw_ne (v := 6) c_1 (by decide))
    replace h := it_f h (sw_ne (v := 7) c_1 (by decide))
    refine lv_tableOut (tgt := 67) hx hb dX7_wordsOf_1 (by omega) (by decide) ?_
    refine lv_iconst (v := 2) hx hb dX7_wordsOf_67 (by decide) ?_
    exact r_iret C0 X hP hS hr hlk dX7_wordsOf_68 ⟨Option.some.inj h, rfl⟩
  · rcases (show j = 0 ∨ j = 1 ∨ j = 2 ∨ j = 3 ∨ j = 4 ∨ j = 5 ∨ j = 6 by omega) with rfl | rfl | rfl | rfl | rfl | rfl | rfl
    · have e_2 : x1 = 1 := sw_eq c_1 (by decide)
      replace h := it_t h e_2
      refine lv_tableIn (off := 43) (tgt := 44) hx hb dX7_wordsOf_1 (by rw [e_2]; decide) (by rw [e_2]; decide) (by rw [e_2]; rfl) (by decide) ?_
      refine lv_iconst (v := 5) hx hb dX7_wordsOf_44 (by decide) ?_
      exact r_iret C0 X hP hS hr hlk dX7_wordsOf_45 ⟨Option.some.inj h, rfl⟩
    · have e_3 : x1 = 2 := sw_eq c_1 (by decide)
      replace h := it_f h (show ¬ x1 = 1 by rw [e_3]; decide)
      replace h := it_t h e_3
      refine lv_tableIn (off := 45) (tgt := 46) hx hb dX7_wordsOf_1 (by rw [e_3]; decide) (by rw [e_3]; decide) (by rw [e_3]; rfl) (by decide) ?_
      refine lv_bipush (v := 6) hx hb dX7_wordsOf_46 (by decide) ?_
      exact r_iret C0 X hP hS hr hlk dX7_wordsOf_48 ⟨Option.some.inj h, rfl⟩
    · have e_4 : x1 = 3 := sw_eq c_1 (by decide)
      replace h := it_f h (show ¬ x1 = 1 by rw [e_4]; decide)
      replace h := it_f h (show ¬ x1 = 2 by rw [e_4]; decide)
      replace h := it_t h e_4
      refine lv_tableIn (off := 48) (tgt := 49) hx hb dX7_wordsOf_1 (by rw [e_4]; decide) (by rw [e_4]; decide) (by rw [e_4]; rfl) (by decide) ?_
      refine lv_iconst (v := 2) hx hb dX7_wordsOf_49 (by decide) ?_
      refine lv_iload_n hx hb dX7_wordsOf_50 rfl (lv_at hl 1 rfl) ?_
      refine lv_iadd hx hb dX7_wordsOf_51 ?_
      exact r_iret C0 X hP hS hr hlk dX7_wordsOf_52 ⟨Option.some.inj h, rfl⟩
    · have e_5 : x1 = 4 := sw_eq c_1 (by decide)
      replace h := it_f h (show ¬ x1 = 1 by rw [e_5]; decide)
      replace h := it_f h (show ¬ x1 = 2 by rw [e_5]; decide)
      replace h := it_f h (show ¬ x1 = 3 by rw [e_5]; decide)
      replace h := it_t h e_5
      refine lv_tableIn (off := 52) (tgt := 53) hx hb dX7_wordsOf_1 (by rw [e_5]; decide) (by rw [e_5]; decide) (by rw [e_5]; rfl) (by decide) ?_
      refine lv_iconst (v := 4) hx hb dX7_wordsOf_53 (by decide) ?_
      refine lv_iload_n hx hb dX7_wordsOf_54 rfl (lv_at hl 1 rfl) ?_
      refine lv_iadd hx hb dX7_wordsOf_55 ?_
      exact r_iret C0 X hP hS hr hlk dX7_wordsOf_56 ⟨Option.some.inj h, rfl⟩
    · have e_6 : x1 = 5 := sw_eq c_1 (by decide)
      replace h := it_f h (show ¬ x1 = 1 by rw [e_6]; decide)
      replace h := it_f h (show ¬ x1 = 2 by rw [e_6]; decide)
      replace h := it_f h (show ¬ x1 = 3 by rw [e_6]; decide)
      replace h := it_f h (show ¬ x1 = 4 by rw [e_6]; decide)
      replace h := it_t h e_6
      refine lv_tableIn (off := 56) (tgt := 57) hx hb dX7_wordsOf_1 (by rw [e_6]; decide) (by rw [e_6]; decide) (by rw [e_6]; rfl) (by decide) ?_
      refine lv_bipush (v := 13) hx hb dX7_wordsOf_57 (by decide) ?_
      refine lv_iload_n hx hb dX7_wordsOf_59 rfl (lv_at hl 1 rfl) ?_
      refine lv_iadd hx hb dX7_wordsOf_60 ?_
      exact r_iret C0 X hP hS hr hlk dX7_wordsOf_61 ⟨Option.some.inj h, rfl⟩
    · have e_7 : x1 = 6 := sw_eq c_1 (by decide)
      replace h := it_f h (show ¬ x1 = 1 by rw [e_7]; decide)
      replace h := it_f h (show ¬ x1 = 2 by rw [e_7]; decide)
      replace h := it_f h (show ¬ x1 = 3 by rw [e_7]; decide)
      replace h := it_f h (show ¬ x1 = 4 by rw [e_7]; decide)
      replace h := it_f h (show ¬ x1 = 5 by rw [e_7]; decide)
      replace h := it_t h e_7
      refine lv_tableIn (off := 61) (tgt := 62) hx hb dX7_wordsOf_1 (by rw [e_7]; decide) (by rw [e_7]; decide) (by rw [e_7]; rfl) (by decide) ?_
      refine lv_bipush (v := 10) hx hb dX7_wordsOf_62 (by decide) ?_
      exact r_iret C0 X hP hS hr hlk dX7_wordsOf_64 ⟨Option.some.inj h, rfl⟩
    · have e_8 : x1 = 7 := sw_eq c_1 (by decide)
      replace h := it_f h (show ¬ x1 = 1 by rw [e_8]; decide)
      replace h := it_f h (show ¬ x1 = 2 by rw [e_8]; decide)
      replace h := it_f h (show ¬ x1 = 3 by rw [e_8]; decide)
      replace h := it_f h (show ¬ x1 = 4 by rw [e_8]; decide)
      replace h := it_f h (show ¬ x1 = 5 by rw [e_8]; decide)
      replace h := it_f h (show ¬ x1 = 6 by rw [e_8]; decide)
      replace h := it_t h e_8
      refine lv_tableIn (off := 64) (tgt := 65) hx hb dX7_wordsOf_1 (by rw [e_8]; decide) (by rw [e_8]; decide) (by rw [e_8]; rfl) (by decide) ?_
      refine lv_iconst (v := 5) hx hb dX7_wordsOf_65 (by decide) ?_
      exact r_iret C0 X hP hS hr hlk dX7_wordsOf_66 ⟨Option.some.inj h, rfl⟩
def bB_cX7_cannotRun : Nat := 0xac030400a70407009a9600b40c00b42a0d00994a00b44600b40c00b42a
theorem yB_cX7_cannotRun : BYS cX7_cannotRun 29 bB_cX7_cannotRun := BYS_of (by decide +kernel)
theorem dX7_cannotRun_0 : decode cX7_cannotRun 0 = .ok (.aload_n 0, 1) := D_42 yB_cX7_cannotRun rfl rfl
theorem dX7_cannotRun_1 : decode cX7_cannotRun 1 = .ok (.getfield 12, 3) := D_180 yB_cX7_cannotRun rfl rfl rfl
theorem dX7_cannotRun_4 : decode cX7_cannotRun 4 = .ok (.getfield 70, 3) := D_180 yB_cX7_cannotRun rfl rfl rfl
theorem dX7_cannotRun_7 : decode cX7_cannotRun 7 = .ok (.getfield 74, 3) := D_180 yB_cX7_cannotRun rfl rfl rfl
theorem dX7_cannotRun_10 : decode cX7_cannotRun 10 = .ok (.ifCond .eq 13, 3) := D_153 yB_cX7_cannotRun rfl rfl (sg_p (m := 32768) (N := 13) rfl rfl rfl)
theorem dX7_cannotRun_13 : decode cX7_cannotRun 13 = .ok (.aload_n 0, 1) := D_42 yB_cX7_cannotRun rfl rfl
theorem dX7_cannotRun_14 : decode cX7_cannotRun 14 = .ok (.getfield 12, 3) := D_180 yB_cX7_cannotRun rfl rfl rfl
theorem dX7_cannotRun_17 : decode cX7_cannotRun 17 = .ok (.getfield 150, 3) := D_180 yB_cX7_cannotRun rfl rfl rfl
theorem dX7_cannotRun_20 : decode cX7_cannotRun 20 = .ok (.ifCond .ne 7, 3) := D_154 yB_cX7_cannotRun rfl rfl (sg_p (m := 32768) (N := 7) rfl rfl rfl)
theorem dX7_cannotRun_23 : decode cX7_cannotRun 23 = .ok (.iconst 1, 1) := D_4 yB_cX7_cannotRun rfl rfl
theorem dX7_cannotRun_24 : decode cX7_cannotRun 24 = .ok (.goto 4, 3) := D_167 yB_cX7_cannotRun rfl rfl (sg_p (m := 32768) (N := 4) rfl rfl rfl)
theorem dX7_cannotRun_27 : decode cX7_cannotRun 27 = .ok (.iconst 0, 1) := D_3 yB_cX7_cannotRun rfl rfl
theorem dX7_cannotRun_28 : decode cX7_cannotRun 28 = .ok (.ireturn, 1) := D_172 yB_cX7_cannotRun rfl rfl
def F_X7_cannotRun (σ : Mem)  : Option (Int32) := if (σ 1 0) = 0 then (some 1) else (if (σ 0 2) = 0 then (some 1) else (some 0))
set_option maxHeartbeats 4000000 in
set_option maxRecDepth 100000 in
theorem c_X7_cannotRun (l : Launch) (D : va_G) (cA : Nat → ClassId) (ad : Nat → Nat) (o : Int64) (σ : Mem)   (res : Int32) (h : F_X7_cannotRun σ  = some res) (sz : Nat) : Met l yX7_cannotRun (WY yX7_cannotRun cX7_cannotRun 1 (some .boolean)) (RM 0) (va_Pc [.ref (ad 66)] (PW D cA ad o σ sz)) (va_Qi (fun r σ9 => r = res ∧ σ9 = σ) (QW D cA ad o) (FA ad sz)) 0 0 (FA ad sz) := by
  refine ct_of (own := RX7) (k := 0) (Qf := va_Qi (fun r σ9 => r = res ∧ σ9 = σ) (QW D cA ad o)) rfl (by decide) (Nat.le_of_ble_eq_true rfl) (fun p e s m below meth c ls C0 X hr hlk hP hl => ?_) sz
  have hS : va_S (FA ad s.heap.size) s.heap s.heap [] := va_S.rf
  have hl : lv_has ls 1 [(0, .ref (ad 66))] := hl
  obtain ⟨hx, hb, hml, hown, hts⟩ := id C0
  unfold F_X7_cannotRun at h
  refine lv_aload_n hx hb dX7_cannotRun_0 rfl (lv_at hl 0 rfl) ?_
  refine gf_X7_12 C0 X hP 66 (q := 0) ⟨by decide, rfl⟩ (by omega) rfl dX7_cannotRun_1 ?_
  refine gf_X7_70 C0 X hP 0 (q := 1) ⟨by decide, rfl⟩ (by omega) rfl dX7_cannotRun_4 ?_
  refine gf_X7_74 C0 X hP 1 ⟨by decide, rfl⟩ dX7_cannotRun_7 ?_
  refine lv_if_eq (tgt := 23) hx hb dX7_cannotRun_10 (by decide) (fun c_1 => ?_) (fun c_1 => ?_)
  · replace h := it_t h c_1
    refine lv_iconst (v := 1) hx hb dX7_cannotRun_23 (by decide) ?_
    refine lv_goto (tgt := 28) hx hb dX7_cannotRun_24 (by decide) ?_
    exact r_zret C0 X hP hS hr hlk dX7_cannotRun_28 (Or.inr rfl) ⟨Option.some.inj h, rfl⟩
  · replace h := it_f h c_1
    refine lv_aload_n hx hb dX7_cannotRun_13 rfl (lv_at hl 0 rfl) ?_
    refine gf_X7_12 C0 X hP 66 (q := 0) ⟨by decide, rfl⟩ (by omega) rfl dX7_cannotRun_14 ?_
    refine gf_X7_150 C0 X hP 0 ⟨by decide, rfl⟩ dX7_cannotRun_17 ?_
    refine lv_if_ne (tgt := 27) hx hb dX7_cannotRun_20 (by decide) (fun c_2 => ?_) (fun c_2 => ?_)
    · replace h := it_f h c_2
      refine lv_iconst (v := 0) hx hb dX7_cannotRun_27 (by decide) ?_
      exact r_zret C0 X hP hS hr hlk dX7_cannotRun_28 (Or.inl rfl) ⟨Option.some.inj h, rfl⟩
    · replace h := it_t h c_2
      refine lv_iconst (v := 1) hx hb dX7_cannotRun_23 (by decide) ?_
      refine lv_goto (tgt := 28) hx hb dX7_cannotRun_24 (by decide) ?_
      exact r_zret C0 X hP hS hr hlk dX7_cannotRun_28 (Or.inr rfl) ⟨Option.some.inj h, rfl⟩
def bB_cX7_costInMind : Nat := 0xac4101b61300b42ae5ffa70101848d00b61300b42a10009a8a00b61300b42a1a00a2e703111b3c039300b61300b42a
theorem yB_cX7_costInMind : BYS cX7_costInMind 47 bB_cX7_costInMind := BYS_of (by decide +kernel)
theorem dX7_costInMind_0 : decode cX7_costInMind 0 = .ok (.aload_n 0, 1) := D_42 yB_cX7_costInMind rfl rfl
theorem dX7_costInMind_1 : decode cX7_costInMind 1 = .ok (.getfield 19, 3) := D_180 yB_cX7_costInMind rfl rfl rfl
theorem dX7_costInMind_4 : decode cX7_costInMind 4 = .ok (.invokevirtual 147, 3) := D_182 yB_cX7_costInMind rfl rfl rfl
theorem dX7_costInMind_7 : decode cX7_costInMind 7 = .ok (.iconst 0, 1) := D_3 yB_cX7_costInMind rfl rfl
theorem dX7_costInMind_8 : decode cX7_costInMind 8 = .ok (.istore_n 1, 1) := D_60 yB_cX7_costInMind rfl rfl
theorem dX7_costInMind_9 : decode cX7_costInMind 9 = .ok (.iload_n 1, 1) := D_27 yB_cX7_costInMind rfl rfl
theorem dX7_costInMind_10 : decode cX7_costInMind 10 = .ok (.sipush 999, 3) := D_17 yB_cX7_costInMind rfl rfl (sg_p (m := 32768) (N := 999) rfl rfl rfl)
theorem dX7_costInMind_13 : decode cX7_costInMind 13 = .ok (.if_icmp .ge 26, 3) := D_162 yB_cX7_costInMind rfl rfl (sg_p (m := 32768) (N := 26) rfl rfl rfl)
theorem dX7_costInMind_16 : decode cX7_costInMind 16 = .ok (.aload_n 0, 1) := D_42 yB_cX7_costInMind rfl rfl
theorem dX7_costInMind_17 : decode cX7_costInMind 17 = .ok (.getfield 19, 3) := D_180 yB_cX7_costInMind rfl rfl rfl
theorem dX7_costInMind_20 : decode cX7_costInMind 20 = .ok (.invokevirtual 138, 3) := D_182 yB_cX7_costInMind rfl rfl rfl
theorem dX7_costInMind_23 : decode cX7_costInMind 23 = .ok (.ifCond .ne 16, 3) := D_154 yB_cX7_costInMind rfl rfl (sg_p (m := 32768) (N := 16) rfl rfl rfl)
theorem dX7_costInMind_26 : decode cX7_costInMind 26 = .ok (.aload_n 0, 1) := D_42 yB_cX7_costInMind rfl rfl
theorem dX7_costInMind_27 : decode cX7_costInMind 27 = .ok (.getfield 19, 3) := D_180 yB_cX7_costInMind rfl rfl rfl
theorem dX7_costInMind_30 : decode cX7_costInMind 30 = .ok (.invokevirtual 141, 3) := D_182 yB_cX7_costInMind rfl rfl rfl
theorem dX7_costInMind_33 : decode cX7_costInMind 33 = .ok (.iinc 1 1, 3) := D_132 yB_cX7_costInMind rfl rfl rfl (sg_p (m := 128) (N := 1) rfl rfl rfl)
theorem dX7_costInMind_36 : decode cX7_costInMind 36 = .ok (.goto (-27), 3) := D_167 yB_cX7_costInMind rfl rfl (sg_n (m := 32768) (N := 27) rfl rfl rfl)
theorem dX7_costInMind_39 : decode cX7_costInMind 39 = .ok (.aload_n 0, 1) := D_42 yB_cX7_costInMind rfl rfl
theorem dX7_costInMind_40 : decode cX7_costInMind 40 = .ok (.getfield 19, 3) := D_180 yB_cX7_costInMind rfl rfl rfl
theorem dX7_costInMind_43 : decode cX7_costInMind 43 = .ok (.invokevirtual 321, 3) := D_182 yB_cX7_costInMind rfl rfl rfl
theorem dX7_costInMind_46 : decode cX7_costInMind 46 = .ok (.ireturn, 1) := D_172 yB_cX7_costInMind rfl rfl
def F_X7_costInMind_9   : Nat → Mem → Int32 → Option (Mem × Int32)
  | 0, _, _ => none
  | nn + 1, σ, v1 => if 999 ≤ v1 then ((F_X6_cost σ 2).bind fun r_3 => some (σ, r_3)) else ((F_X6_isEnded σ 2).bind fun r_4 => if r_4 = 0 then ((F_X6_passMinute σ 2).bind fun σ_7 => F_X7_costInMind_9 nn σ_7 (v1 + 1)) else ((F_X6_cost σ 2).bind fun r_6 => some (σ, r_6)))
def F_X7_costInMind (σ : Mem)  : Option (Mem × Int32) := F_X7_costInMind_9 FU (tbeg σ 2) 0
set_option maxHeartbeats 4000000 in
set_option maxRecDepth 100000 in
theorem c_X7_costInMind (l : Launch) (D : va_G) (cA : Nat → ClassId) (ad : Nat → Nat) (o : Int64) (σ : Mem)   (res : Mem × Int32) (h : F_X7_costInMind σ  = some res) (sz : Nat) : Met l yX7_costInMind (WY yX7_costInMind cX7_costInMind 2 (some .int)) (RM 5) (va_Pc [.ref (ad 66)] (PW D cA ad o σ sz)) (va_Qi (fun r σ9 => r = res.2 ∧ σ9 = res.1) (QW D cA ad o) (FA ad sz)) 0 0 (FA ad sz) := by
  refine ct_of (own := RX7) (k := 5) (Qf := va_Qi (fun r σ9 => r = res.2 ∧ σ9 = res.1) (QW D cA ad o)) rfl (by decide) (Nat.le_of_ble_eq_true rfl) (fun p e s m below meth c ls C0 X hr hlk hP hl => ?_) sz
  have hS : va_S (FA ad s.heap.size) s.heap s.heap [] := va_S.rf
  have hl : lv_has ls 2 [(0, .ref (ad 66))] := hl
  obtain ⟨hx, hb, hml, hown, hts⟩ := id C0
  unfold F_X7_costInMind at h
  refine lv_aload_n hx hb dX7_costInMind_0 rfl (lv_at hl 0 rfl) ?_
  refine gf_X7_19 C0 X hP 66 (q := 44) ⟨by decide, rfl⟩ (by omega) rfl dX7_costInMind_1 ?_
  refine r_cv X hS (r_runV (As := []) (rest := []) C0 X hP L_X7_147 (fun sz => c_X6_beginAnew l D cA ad o σ 2 (by decide) sz) (show 44 < 106 ∧ kd 44 = (6, 11) from ⟨by decide, rfl⟩).1 (show 44 < 106 ∧ kd 44 = (6, 11) from ⟨by decide, rfl⟩).2 (by decide) rfl ⟨Nat.le_of_ble_eq_true rfl, Nat.le_of_ble_eq_true rfl⟩ rfl hl.1 rfl (Nat.le_of_ble_eq_true rfl) dX7_costInMind_4 ⟨Nat.zero_le _, Nat.zero_le _⟩) (fun σ9 H locs hw hP hS => ?_)
  rw [show σ9 = (tbeg σ 2) from hw] at hP
  refine lv_iconst (v := 0) hx hb dX7_costInMind_7 (by decide) ?_
  refine lv_istore_n (lv' := [(1, .int 0), (0, .ref (ad 66))]) hx hb dX7_costInMind_8 rfl hl (by decide) rfl (fun ls hl => ?_)
  have lp_1 : ∀ (nn9 : Nat) (σ : Mem) (v1 : Int32) (H : Heap) (locs : List Loc) (ls : Array Slot), F_X7_costInMind_9 nn9 σ v1 = some res → WP D cA ad o σ H → va_S (FA ad s.heap.size) s.heap H locs → lv_has ls 2 [(1, .int v1), (0, .ref (ad 66))] → W p l e (RM 5) s m ([.ref (ad 66)] : List Value).toArray below meth c H locs 0 0 (MQ below (va_Qi (fun r σ9 => r = res.2 ∧ σ9 = res.1) (QW D cA ad o) (FA ad s.heap.size)) ([.ref (ad 66)] : List Value).toArray s 0 0 (FA ad s.heap.size)) (F0 m 9 ls []) := by
    intro nn9
    induction nn9 with
    | zero => intro σ v1 H locs ls h hP hS hl; exact absurd (show none = some res from h) nofun
    | succ nn9 ih9 =>
      intro σ v1 H locs ls h hP hS hl
      replace h := (F_X7_costInMind_9.eq_2 _ _ _).symm.trans h
      refine lv_iload_n hx hb dX7_costInMind_9 rfl (lv_at hl 0 rfl) ?_
      refine lv_sipush (v := 999) hx hb dX7_costInMind_10 (by decide) ?_
      refine lv_icmp_ge (tgt := 39) hx hb dX7_costInMind_13 (by decide) (fun c_2 => ?_) (fun c_2 => ?_)
      · replace h := it_t h c_2
        refine lv_aload_n hx hb dX7_costInMind_39 rfl (lv_at hl 1 rfl) ?_
        refine gf_X7_19 C0 X hP 66 (q := 44) ⟨by decide, rfl⟩ (by omega) rfl dX7_costInMind_40 ?_
        obtain ⟨r_3, er_3, h⟩ := bnd h
        refine r_ci X hS (r_runV (As := []) (rest := []) C0 X hP L_X7_321 (fun sz => c_X6_cost l D cA ad o σ 2 (by decide) r_3 er_3 sz) (show 44 < 106 ∧ kd 44 = (6, 11) from ⟨by decide, rfl⟩).1 (show 44 < 106 ∧ kd 44 = (6, 11) from ⟨by decide, rfl⟩).2 (by decide) rfl ⟨Nat.le_of_ble_eq_true rfl, Nat.le_of_ble_eq_true rfl⟩ rfl hl.1 rfl (Nat.le_of_ble_eq_true rfl) dX7_costInMind_43 ⟨Nat.zero_le _, Nat.zero_le _⟩) (fun r9 σ9 H locs hw hP hS => ?_)
        rw [hw.2] at hP
        rw [hw.1]
        exact r_iret C0 X hP hS hr hlk dX7_costInMind_46 (rt2 h)
      · replace h := it_f h c_2
        refine lv_aload_n hx hb dX7_costInMind_16 rfl (lv_at hl 1 rfl) ?_
        refine gf_X7_19 C0 X hP 66 (q := 44) ⟨by decide, rfl⟩ (by omega) rfl dX7_costInMind_17 ?_
        obtain ⟨r_4, er_4, h⟩ := bnd h
        refine r_ci X hS (r_runV (As := []) (rest := []) C0 X hP L_X7_138 (fun sz => c_X6_isEnded l D cA ad o σ 2 (by decide) r_4 er_4 sz) (show 44 < 106 ∧ kd 44 = (6, 11) from ⟨by decide, rfl⟩).1 (show 44 < 106 ∧ kd 44 = (6, 11) from ⟨by decide, rfl⟩).2 (by decide) rfl ⟨Nat.le_of_ble_eq_true rfl, Nat.le_of_ble_eq_true rfl⟩ rfl hl.1 rfl (Nat.le_of_ble_eq_true rfl) dX7_costInMind_20 ⟨Nat.zero_le _, Nat.zero_le _⟩) (fun r9 σ9 H locs hw hP hS => ?_)
        rw [hw.2] at hP
        rw [hw.1]
        refine lv_if_ne (tgt := 39) hx hb dX7_costInMind_23 (by decide) (fun c_5 => ?_) (fun c_5 => ?_)
        · replace h := it_f h c_5
          refine lv_aload_n hx hb dX7_costInMind_39 rfl (lv_at hl 1 rfl) ?_
          refine gf_X7_19 C0 X hP 66 (q := 44) ⟨by decide, rfl⟩ (by omega) rfl dX7_costInMind_40 ?_
          obtain ⟨r_6, er_6, h⟩ := bnd h
          refine r_ci X hS (r_runV (As := []) (rest := []) C0 X hP L_X7_321 (fun sz => c_X6_cost l D cA ad o σ 2 (by decide) r_6 er_6 sz) (show 44 < 106 ∧ kd 44 = (6, 11) from ⟨by decide, rfl⟩).1 (show 44 < 106 ∧ kd 44 = (6, 11) from ⟨by decide, rfl⟩).2 (by decide) rfl ⟨Nat.le_of_ble_eq_true rfl, Nat.le_of_ble_eq_true rfl⟩ rfl hl.1 rfl (Nat.le_of_ble_eq_true rfl) dX7_costInMind_43 ⟨Nat.zero_le _, Nat.zero_le _⟩) (fun r9 σ9 H locs hw hP hS => ?_)
          rw [hw.2] at hP
          rw [hw.1]
          exact r_iret C0 X hP hS hr hlk dX7_costInMind_46 (rt2 h)
        · replace h := it_t h c_5
          refine lv_aload_n hx hb dX7_costInMind_26 rfl (lv_at hl 1 rfl) ?_
          refine gf_X7_19 C0 X hP 66 (q := 44) ⟨by decide, rfl⟩ (by omega) rfl dX7_costInMind_27 ?_
          obtain ⟨σ_7, eσ_7, h⟩ := bnd h
          refine r_cv X hS (r_runV (As := []) (rest := []) C0 X hP L_X7_141 (fun sz => c_X6_passMinute l D cA ad o σ 2 (by decide) σ_7 eσ_7 sz) (show 44 < 106 ∧ kd 44 = (6, 11) from ⟨by decide, rfl⟩).1 (show 44 < 106 ∧ kd 44 = (6, 11) from ⟨by decide, rfl⟩).2 (by decide) rfl ⟨Nat.le_of_ble_eq_true rfl, Nat.le_of_ble_eq_true rfl⟩ rfl hl.1 rfl (Nat.le_of_ble_eq_true rfl) dX7_costInMind_30 ⟨Nat.zero_le _, Nat.zero_le _⟩) (fun σ9 H locs hw hP hS => ?_)
          rw [show σ9 = σ_7 from hw] at hP
          refine lv_iinc (v := (v1 + 1)) (lv' := [(1, .int (v1 + 1)), (0, .ref (ad 66))]) hx hb dX7_costInMind_33 hl (k := 0) rfl rfl (by decide) rfl (fun ls hl => ?_)
          refine lv_goto (tgt := 9) hx hb dX7_costInMind_36 (by decide) ?_
          exact ih9 σ_7 (v1 + 1) _ _ ls  h hP hS (lv_sub hl [0, 1] rfl)
  exact lp_1 FU (tbeg σ 2) 0 _ _ ls  h hP hS (lv_sub hl [0, 1] rfl)
def bB_cX7_ruleAllInMind : Nat := 0xb1eaffa7010384578300b61c1b1d4600b41300b42a1700a2061d3e03
theorem yB_cX7_ruleAllInMind : BYS cX7_ruleAllInMind 28 bB_cX7_ruleAllInMind := BYS_of (by decide +kernel)
theorem dX7_ruleAllInMind_0 : decode cX7_ruleAllInMind 0 = .ok (.iconst 0, 1) := D_3 yB_cX7_ruleAllInMind rfl rfl
theorem dX7_ruleAllInMind_1 : decode cX7_ruleAllInMind 1 = .ok (.istore_n 3, 1) := D_62 yB_cX7_ruleAllInMind rfl rfl
theorem dX7_ruleAllInMind_2 : decode cX7_ruleAllInMind 2 = .ok (.iload_n 3, 1) := D_29 yB_cX7_ruleAllInMind rfl rfl
theorem dX7_ruleAllInMind_3 : decode cX7_ruleAllInMind 3 = .ok (.iconst 3, 1) := D_6 yB_cX7_ruleAllInMind rfl rfl
theorem dX7_ruleAllInMind_4 : decode cX7_ruleAllInMind 4 = .ok (.if_icmp .ge 23, 3) := D_162 yB_cX7_ruleAllInMind rfl rfl (sg_p (m := 32768) (N := 23) rfl rfl rfl)
theorem dX7_ruleAllInMind_7 : decode cX7_ruleAllInMind 7 = .ok (.aload_n 0, 1) := D_42 yB_cX7_ruleAllInMind rfl rfl
theorem dX7_ruleAllInMind_8 : decode cX7_ruleAllInMind 8 = .ok (.getfield 19, 3) := D_180 yB_cX7_ruleAllInMind rfl rfl rfl
theorem dX7_ruleAllInMind_11 : decode cX7_ruleAllInMind 11 = .ok (.getfield 70, 3) := D_180 yB_cX7_ruleAllInMind rfl rfl rfl
theorem dX7_ruleAllInMind_14 : decode cX7_ruleAllInMind 14 = .ok (.iload_n 3, 1) := D_29 yB_cX7_ruleAllInMind rfl rfl
theorem dX7_ruleAllInMind_15 : decode cX7_ruleAllInMind 15 = .ok (.iload_n 1, 1) := D_27 yB_cX7_ruleAllInMind rfl rfl
theorem dX7_ruleAllInMind_16 : decode cX7_ruleAllInMind 16 = .ok (.iload_n 2, 1) := D_28 yB_cX7_ruleAllInMind rfl rfl
theorem dX7_ruleAllInMind_17 : decode cX7_ruleAllInMind 17 = .ok (.invokevirtual 131, 3) := D_182 yB_cX7_ruleAllInMind rfl rfl rfl
theorem dX7_ruleAllInMind_20 : decode cX7_ruleAllInMind 20 = .ok (.pop, 1) := D_87 yB_cX7_ruleAllInMind rfl rfl
theorem dX7_ruleAllInMind_21 : decode cX7_ruleAllInMind 21 = .ok (.iinc 3 1, 3) := D_132 yB_cX7_ruleAllInMind rfl rfl rfl (sg_p (m := 128) (N := 1) rfl rfl rfl)
theorem dX7_ruleAllInMind_24 : decode cX7_ruleAllInMind 24 = .ok (.goto (-22), 3) := D_167 yB_cX7_ruleAllInMind rfl rfl (sg_n (m := 32768) (N := 22) rfl rfl rfl)
theorem dX7_ruleAllInMind_27 : decode cX7_ruleAllInMind 27 = .ok (.return_, 1) := D_177 yB_cX7_ruleAllInMind rfl rfl
def F_X7_ruleAllInMind_2 (x1 : Int32) (x2 : Int32)  : Nat → Mem → Int32 → Option (Mem)
  | 0, _, _ => none
  | nn + 1, σ, v3 => if 3 ≤ v3 then (some σ) else (bd2 (F_X4_tellRule σ 2 v3 x1 x2) fun σ_3 r_4 => F_X7_ruleAllInMind_2 x1 x2 nn σ_3 (v3 + 1))
def F_X7_ruleAllInMind (σ : Mem) (x1 : Int32) (x2 : Int32) : Option (Mem) := F_X7_ruleAllInMind_2 x1 x2 FU σ 0
set_option maxHeartbeats 4000000 in
set_option maxRecDepth 100000 in
theorem c_X7_ruleAllInMind (l : Launch) (D : va_G) (cA : Nat → ClassId) (ad : Nat → Nat) (o : Int64) (σ : Mem) (x1 : Int32) (x2 : Int32)  (res : Mem) (h : F_X7_ruleAllInMind σ x1 x2 = some res) (sz : Nat) : Met l yX7_ruleAllInMind (WY yX7_ruleAllInMind cX7_ruleAllInMind 4 none) (RM 1) (va_Pc [.ref (ad 66), .int x1, .int x2] (PW D cA ad o σ sz)) (va_Qv (fun σ9 => σ9 = res) (QW D cA ad o) (FA ad sz)) 0 0 (FA ad sz) := by
  refine ct_of (own := RX7) (k := 1) (Qf := va_Qv (fun σ9 => σ9 = res) (QW D cA ad o)) rfl (by decide) (Nat.le_of_ble_eq_true rfl) (fun p e s m below meth c ls C0 X hr hlk hP hl => ?_) sz
  have hS : va_S (FA ad s.heap.size) s.heap s.heap [] := va_S.rf
  have hl : lv_has ls 4 [(0, .ref (ad 66)), (1, .int x1), (2, .int x2)] := hl
  obtain ⟨hx, hb, hml, hown, hts⟩ := id C0
  unfold F_X7_ruleAllInMind at h
  refine lv_iconst (v := 0) hx hb dX7_ruleAllInMind_0 (by decide) ?_
  refine lv_istore_n (lv' := [(3, .int 0), (0, .ref (ad 66)), (1, .int x1), (2, .int x2)]) hx hb dX7_ruleAllInMind_1 rfl hl (by decide) rfl (fun ls hl => ?_)
  have lp_1 : ∀ (nn2 : Nat) (σ : Mem) (v3 : Int32) (H : Heap) (locs : List Loc) (ls : Array Slot), F_X7_ruleAllInMind_2 x1 x2 nn2 σ v3 = some res → WP D cA ad o σ H → va_S (FA ad s.heap.size) s.heap H locs → lv_has ls 4 [(3, .int v3), (0, .ref (ad 66)), (1, .int x1), (2, .int x2)] → W p l e (RM 1) s m ([.ref (ad 66), .int x1, .int x2] : List Value).toArray below meth c H locs 0 0 (MQ below (va_Qv (fun σ9 => σ9 = res) (QW D cA ad o) (FA ad s.heap.size)) ([.ref (ad 66), .int x1, .int x2] : List Value).toArray s 0 0 (FA ad s.heap.size)) (F0 m 2 ls []) := by
    intro nn2
    induction nn2 with
    | zero => intro σ v3 H locs ls h hP hS hl; exact absurd (show none = some res from h) nofun
    | succ nn2 ih2 =>
      intro σ v3 H locs ls h hP hS hl
      replace h := (F_X7_ruleAllInMind_2.eq_2 _ _ _ _ _).symm.trans h
      refine lv_iload_n hx hb dX7_ruleAllInMind_2 rfl (lv_at hl 0 rfl) ?_
      refine lv_iconst (v := 3) hx hb dX7_ruleAllInMind_3 (by decide) ?_
      refine lv_icmp_ge (tgt := 27) hx hb dX7_ruleAllInMind_4 (by decide) (fun c_2 => ?_) (fun c_2 => ?_)
      · replace h := it_t h c_2
        exact r_vret C0 X hP hS hr hlk dX7_ruleAllInMind_27 (Option.some.inj h)
      · replace h := it_f h c_2
        refine lv_aload_n hx hb dX7_ruleAllInMind_7 rfl (lv_at hl 1 rfl) ?_
        refine gf_X7_19 C0 X hP 66 (q := 44) ⟨by decide, rfl⟩ (by omega) rfl dX7_ruleAllInMind_8 ?_
        refine gf_X7_70 C0 X hP 44 (q := 45) ⟨by decide, rfl⟩ (by omega) rfl dX7_ruleAllInMind_11 ?_
        refine lv_iload_n hx hb dX7_ruleAllInMind_14 rfl (lv_at hl 0 rfl) ?_
        refine lv_iload_n hx hb dX7_ruleAllInMind_15 rfl (lv_at hl 2 rfl) ?_
        refine lv_iload_n hx hb dX7_ruleAllInMind_16 rfl (lv_at hl 3 rfl) ?_
        obtain ⟨σ_3, r_4, eσ_3, h⟩ := bnd2 h
        refine r_ci X hS (r_runV (As := [.int v3, .int x1, .int x2]) (rest := []) C0 X hP L_X7_131 (fun sz => c_X4_tellRule l D cA ad o σ 2 v3 x1 x2 (by decide) (σ_3, r_4) eσ_3 sz) (show 45 < 106 ∧ kd 45 = (4, 13) from ⟨by decide, rfl⟩).1 (show 45 < 106 ∧ kd 45 = (4, 13) from ⟨by decide, rfl⟩).2 (by decide) rfl ⟨Nat.le_of_ble_eq_true rfl, Nat.le_of_ble_eq_true rfl⟩ rfl hl.1 rfl (Nat.le_of_ble_eq_true rfl) dX7_ruleAllInMind_17 ⟨Nat.zero_le _, Nat.zero_le _⟩) (fun r9 σ9 H locs hw hP hS => ?_)
        rw [show σ9 = σ_3 from hw.2] at hP
        rw [show r9 = r_4 from hw.1]
        refine lv_pop hx hb dX7_ruleAllInMind_20 rfl ?_
        refine lv_iinc (v := (v3 + 1)) (lv' := [(3, .int (v3 + 1)), (0, .ref (ad 66)), (1, .int x1), (2, .int x2)]) hx hb dX7_ruleAllInMind_21 hl (k := 0) rfl rfl (by decide) rfl (fun ls hl => ?_)
        refine lv_goto (tgt := 2) hx hb dX7_ruleAllInMind_24 (by decide) ?_
        exact ih2 σ_3 (v3 + 1) _ _ ls  h hP hS (lv_sub hl [0, 1, 2, 3] rfl)
  exact lp_1 FU σ 0 _ _ ls  h hP hS (lv_sub hl [0, 1, 2, 3] rfl)
def bB_cX7_road : Nat := 0xac1d3e00b61300b42a0c00b42a0e009e1d3e4200b61300b42a2c2600b42a3e00b60c00b42a1300b42aacf41006009a3a00b62cacf51006009a3600b42cac020500c72c4d3200b61b2a
theorem yB_cX7_road : BYS cX7_road 73 bB_cX7_road := BYS_of (by decide +kernel)
theorem dX7_road_0 : decode cX7_road 0 = .ok (.aload_n 0, 1) := D_42 yB_cX7_road rfl rfl
theorem dX7_road_1 : decode cX7_road 1 = .ok (.iload_n 1, 1) := D_27 yB_cX7_road rfl rfl
theorem dX7_road_2 : decode cX7_road 2 = .ok (.invokevirtual 50, 3) := D_182 yB_cX7_road rfl rfl rfl
theorem dX7_road_5 : decode cX7_road 5 = .ok (.astore_n 2, 1) := D_77 yB_cX7_road rfl rfl
theorem dX7_road_6 : decode cX7_road 6 = .ok (.aload_n 2, 1) := D_44 yB_cX7_road rfl rfl
theorem dX7_road_7 : decode cX7_road 7 = .ok (.ifnonnull 5, 3) := D_199 yB_cX7_road rfl rfl (sg_p (m := 32768) (N := 5) rfl rfl rfl)
theorem dX7_road_10 : decode cX7_road 10 = .ok (.iconst (-1), 1) := D_2 yB_cX7_road rfl rfl
theorem dX7_road_11 : decode cX7_road 11 = .ok (.ireturn, 1) := D_172 yB_cX7_road rfl rfl
theorem dX7_road_12 : decode cX7_road 12 = .ok (.aload_n 2, 1) := D_44 yB_cX7_road rfl rfl
theorem dX7_road_13 : decode cX7_road 13 = .ok (.getfield 54, 3) := D_180 yB_cX7_road rfl rfl rfl
theorem dX7_road_16 : decode cX7_road 16 = .ok (.ifCond .ne 6, 3) := D_154 yB_cX7_road rfl rfl (sg_p (m := 32768) (N := 6) rfl rfl rfl)
theorem dX7_road_19 : decode cX7_road 19 = .ok (.bipush (-11), 2) := D_16 yB_cX7_road rfl rfl (sg_n (m := 128) (N := 11) rfl rfl rfl)
theorem dX7_road_21 : decode cX7_road 21 = .ok (.ireturn, 1) := D_172 yB_cX7_road rfl rfl
theorem dX7_road_22 : decode cX7_road 22 = .ok (.aload_n 2, 1) := D_44 yB_cX7_road rfl rfl
theorem dX7_road_23 : decode cX7_road 23 = .ok (.invokevirtual 58, 3) := D_182 yB_cX7_road rfl rfl rfl
theorem dX7_road_26 : decode cX7_road 26 = .ok (.ifCond .ne 6, 3) := D_154 yB_cX7_road rfl rfl (sg_p (m := 32768) (N := 6) rfl rfl rfl)
theorem dX7_road_29 : decode cX7_road 29 = .ok (.bipush (-12), 2) := D_16 yB_cX7_road rfl rfl (sg_n (m := 128) (N := 12) rfl rfl rfl)
theorem dX7_road_31 : decode cX7_road 31 = .ok (.ireturn, 1) := D_172 yB_cX7_road rfl rfl
theorem dX7_road_32 : decode cX7_road 32 = .ok (.aload_n 0, 1) := D_42 yB_cX7_road rfl rfl
theorem dX7_road_33 : decode cX7_road 33 = .ok (.getfield 19, 3) := D_180 yB_cX7_road rfl rfl rfl
theorem dX7_road_36 : decode cX7_road 36 = .ok (.aload_n 0, 1) := D_42 yB_cX7_road rfl rfl
theorem dX7_road_37 : decode cX7_road 37 = .ok (.getfield 12, 3) := D_180 yB_cX7_road rfl rfl rfl
theorem dX7_road_40 : decode cX7_road 40 = .ok (.invokevirtual 62, 3) := D_182 yB_cX7_road rfl rfl rfl
theorem dX7_road_43 : decode cX7_road 43 = .ok (.aload_n 0, 1) := D_42 yB_cX7_road rfl rfl
theorem dX7_road_44 : decode cX7_road 44 = .ok (.getfield 38, 3) := D_180 yB_cX7_road rfl rfl rfl
theorem dX7_road_47 : decode cX7_road 47 = .ok (.aload_n 2, 1) := D_44 yB_cX7_road rfl rfl
theorem dX7_road_48 : decode cX7_road 48 = .ok (.aload_n 0, 1) := D_42 yB_cX7_road rfl rfl
theorem dX7_road_49 : decode cX7_road 49 = .ok (.getfield 19, 3) := D_180 yB_cX7_road rfl rfl rfl
theorem dX7_road_52 : decode cX7_road 52 = .ok (.invokevirtual 66, 3) := D_182 yB_cX7_road rfl rfl rfl
theorem dX7_road_55 : decode cX7_road 55 = .ok (.istore_n 3, 1) := D_62 yB_cX7_road rfl rfl
theorem dX7_road_56 : decode cX7_road 56 = .ok (.iload_n 3, 1) := D_29 yB_cX7_road rfl rfl
theorem dX7_road_57 : decode cX7_road 57 = .ok (.ifCond .le 14, 3) := D_158 yB_cX7_road rfl rfl (sg_p (m := 32768) (N := 14) rfl rfl rfl)
theorem dX7_road_60 : decode cX7_road 60 = .ok (.aload_n 0, 1) := D_42 yB_cX7_road rfl rfl
theorem dX7_road_61 : decode cX7_road 61 = .ok (.getfield 12, 3) := D_180 yB_cX7_road rfl rfl rfl
theorem dX7_road_64 : decode cX7_road 64 = .ok (.aload_n 0, 1) := D_42 yB_cX7_road rfl rfl
theorem dX7_road_65 : decode cX7_road 65 = .ok (.getfield 19, 3) := D_180 yB_cX7_road rfl rfl rfl
theorem dX7_road_68 : decode cX7_road 68 = .ok (.invokevirtual 62, 3) := D_182 yB_cX7_road rfl rfl rfl
theorem dX7_road_71 : decode cX7_road 71 = .ok (.iload_n 3, 1) := D_29 yB_cX7_road rfl rfl
theorem dX7_road_72 : decode cX7_road 72 = .ok (.ireturn, 1) := D_172 yB_cX7_road rfl rfl
def F_X7_road (σ : Mem) (x1 : Int32) : Option (Mem × Int32) := if x1 < 0 ∨ 8 ≤ x1 then (some (σ, (-1))) else ((ix 8 x1).bind fun j_1 => if (σ (68 + j_1) 0) = 0 then (some (σ, (-11))) else ((F_X5_holdsBytes σ j_1).bind fun r_3 => if r_3 = 0 then (some (σ, (-12))) else (ck (cb01 σ 0) <| bd2 (F_X3_read (tcpy σ 2 0) j_1 2) fun σ_6 r_7 => if r_7 ≤ 0 then (some (σ_6, r_7)) else (ck (cb01 σ_6 2) <| some ((tcpy σ_6 0 2), r_7)))))
set_option maxHeartbeats 4000000 in
set_option maxRecDepth 100000 in
theorem c_X7_road (l : Launch) (D : va_G) (cA : Nat → ClassId) (ad : Nat → Nat) (o : Int64) (σ : Mem) (x1 : Int32)  (res : Mem × Int32) (h : F_X7_road σ x1 = some res) (sz : Nat) : Met l yX7_road (WY yX7_road cX7_road 4 (some .int)) (RM 6) (va_Pc [.ref (ad 66), .int x1] (PW D cA ad o σ sz)) (va_Qi (fun r σ9 => r = res.2 ∧ σ9 = res.1) (QW D cA ad o) (FA ad sz)) 0 0 (FA ad sz) := by
  refine ct_of (own := RX7) (k := 6) (Qf := va_Qi (fun r σ9 => r = res.2 ∧ σ9 = res.1) (QW D cA ad o)) rfl (by decide) (Nat.le_of_ble_eq_true rfl) (fun p e s m below meth c ls C0 X hr hlk hP hl => ?_) sz
  have hS : va_S (FA ad s.heap.size) s.heap s.heap [] := va_S.rf
  have hl : lv_has ls 4 [(0, .ref (ad 66)), (1, .int x1)] := hl
  obtain ⟨hx, hb, hml, hown, hts⟩ := id C0
  unfold F_X7_road at h
  refine lv_aload_n hx hb dX7_road_0 rfl (lv_at hl 0 rfl) ?_
  refine lv_iload_n hx hb dX7_road_1 rfl (lv_at hl 1 rfl) ?_
  refine r_cq X hS (r_runV (As := [.int x1]) (rest := []) C0 X hP L_X7_50 (fun sz => c_X7_shelfAt l D cA ad o σ x1 sz) (show 66 < 106 ∧ kd 66 = (7, 8) from ⟨by decide, rfl⟩).1 (show 66 < 106 ∧ kd 66 = (7, 8) from ⟨by decide, rfl⟩).2 (by decide) rfl ⟨Nat.le_of_ble_eq_true rfl, Nat.le_of_ble_eq_true rfl⟩ rfl hl.1 rfl (Nat.le_of_ble_eq_true rfl) dX7_road_2 ⟨Nat.zero_le _, Nat.zero_le _⟩) (fun σ9 H locs hw hP hS => ?_) (fun x9 σ9 H locs hw hP hS => ?_)
  · rw [hw.1] at hP
    replace h := it_t h hw.2
    refine lv_astore_nN (lv' := [(2, .null), (0, .ref (ad 66)), (1, .int x1)]) hx hb dX7_road_5 rfl hl (by decide) rfl (fun ls hl => ?_)
    refine lv_aload_nN hx hb dX7_road_6 rfl (lv_at hl 0 rfl) ?_
    refine lv_ifnonnullN hx hb dX7_road_7 ?_
    refine lv_iconst (v := (-1)) hx hb dX7_road_10 (by decide) ?_
    exact r_iret C0 X hP hS hr hlk dX7_road_11 (rt2 h)
  · rw [hw.1] at hP
    obtain ⟨-, j_1, hj_1, ej_1, rfl⟩ := hw
    replace h := it_f h (by rw [ej_1]; exact nosh hj_1)
    obtain ⟨k9, ek9, h⟩ := bnd h
    replace ek9 := ix_s ek9 (by decide)
    obtain rfl : j_1 = k9 := nI_inj (ej_1.symm.trans ek9.1) (by omega) (by have := ek9.2; omega)
    refine lv_astore_n (lv' := [(2, .ref (ad (68 + j_1))), (0, .ref (ad 66)), (1, .int x1)]) hx hb dX7_road_5 rfl hl (by decide) rfl (fun ls hl => ?_)
    refine lv_aload_n hx hb dX7_road_6 rfl (lv_at hl 0 rfl) ?_
    refine lv_ifnonnull (tgt := 12) hx hb dX7_road_7 (by decide) ?_
    refine lv_aload_n hx hb dX7_road_12 rfl (lv_at hl 0 rfl) ?_
    refine gf_X7_54 C0 X hP (68 + j_1) (kdS j_1 hj_1) dX7_road_13 ?_
    refine lv_if_ne (tgt := 22) hx hb dX7_road_16 (by decide) (fun c_2 => ?_) (fun c_2 => ?_)
    · replace h := it_f h c_2
      refine lv_aload_n hx hb dX7_road_22 rfl (lv_at hl 0 rfl) ?_
      obtain ⟨r_3, er_3, h⟩ := bnd h
      refine r_ci X hS (r_runV (As := []) (rest := []) C0 X hP L_X7_58 (fun sz => c_X5_holdsBytes l D cA ad o σ j_1 hj_1 r_3 er_3 sz) (kdS j_1 hj_1).1 (kdS j_1 hj_1).2 (by decide) rfl ⟨Nat.le_of_ble_eq_true rfl, Nat.le_of_ble_eq_true rfl⟩ rfl hl.1 rfl (Nat.le_of_ble_eq_true rfl) dX7_road_23 ⟨Nat.zero_le _, Nat.zero_le _⟩) (fun r9 σ9 H locs hw hP hS => ?_)
      rw [hw.2] at hP
      rw [hw.1]
      refine lv_if_ne (tgt := 32) hx hb dX7_road_26 (by decide) (fun c_4 => ?_) (fun c_4 => ?_)
      · replace h := it_f h c_4
        refine lv_aload_n hx hb dX7_road_32 rfl (lv_at hl 1 rfl) ?_
        refine gf_X7_19 C0 X hP 66 (q := 44) ⟨by decide, rfl⟩ (by omega) rfl dX7_road_33 ?_
        refine lv_aload_n hx hb dX7_road_36 rfl (lv_at hl 1 rfl) ?_
        refine gf_X7_12 C0 X hP 66 (q := 0) ⟨by decide, rfl⟩ (by omega) rfl dX7_road_37 ?_
        obtain ⟨q_5, h⟩ := ckp h
        refine r_cv X hS (r_runV (As := [.ref (ad 0)]) (rest := []) C0 X hP L_X7_62 (fun sz => c_X6_copyFrom l D cA ad o σ 2 0 (by decide) (by decide) (by decide) (cb01_e q_5) sz) (show 44 < 106 ∧ kd 44 = (6, 11) from ⟨by decide, rfl⟩).1 (show 44 < 106 ∧ kd 44 = (6, 11) from ⟨by decide, rfl⟩).2 (by decide) rfl ⟨Nat.le_of_ble_eq_true rfl, Nat.le_of_ble_eq_true rfl⟩ rfl hl.1 rfl (Nat.le_of_ble_eq_true rfl) dX7_road_40 ⟨Nat.zero_le _, Nat.zero_le _⟩) (fun σ9 H locs hw hP hS => ?_)
        rw [show σ9 = (tcpy σ 2 0) from hw] at hP
        refine lv_aload_n hx hb dX7_road_43 rfl (lv_at hl 1 rfl) ?_
        refine gf_X7_38 C0 X hP 66 (q := 85) ⟨by decide, rfl⟩ (by omega) rfl dX7_road_44 ?_
        refine lv_aload_n hx hb dX7_road_47 rfl (lv_at hl 0 rfl) ?_
        refine lv_aload_n hx hb dX7_road_48 rfl (lv_at hl 1 rfl) ?_
        refine gf_X7_19 C0 X hP 66 (q := 44) ⟨by decide, rfl⟩ (by omega) rfl dX7_road_49 ?_
        obtain ⟨σ_6, r_7, eσ_6, h⟩ := bnd2 h
        refine r_ci X hS (r_runV (As := [.ref (ad (68 + j_1)), .ref (ad 44)]) (rest := []) C0 X hP L_X7_66 (fun sz => c_X3_read l D cA ad o (tcpy σ 2 0) j_1 2 hj_1 (by decide) (σ_6, r_7) eσ_6 sz) (show 85 < 106 ∧ kd 85 = (3, 8) from ⟨by decide, rfl⟩).1 (show 85 < 106 ∧ kd 85 = (3, 8) from ⟨by decide, rfl⟩).2 (by decide) rfl ⟨Nat.le_of_ble_eq_true rfl, Nat.le_of_ble_eq_true rfl⟩ rfl hl.1 rfl (Nat.le_of_ble_eq_true rfl) dX7_road_52 ⟨Nat.zero_le _, Nat.zero_le _⟩) (fun r9 σ9 H locs hw hP hS => ?_)
        rw [show σ9 = σ_6 from hw.2] at hP
        rw [show r9 = r_7 from hw.1]
        refine lv_istore_n (lv' := [(3, .int r_7), (2, .ref (ad (68 + j_1))), (0, .ref (ad 66)), (1, .int x1)]) hx hb dX7_road_55 rfl hl (by decide) rfl (fun ls hl => ?_)
        refine lv_iload_n hx hb dX7_road_56 rfl (lv_at hl 0 rfl) ?_
        refine lv_if_le (tgt := 71) hx hb dX7_road_57 (by decide) (fun c_8 => ?_) (fun c_8 => ?_)
        · replace h := it_t h c_8
          refine lv_iload_n hx hb dX7_road_71 rfl (lv_at hl 0 rfl) ?_
          exact r_iret C0 X hP hS hr hlk dX7_road_72 (rt2 h)
        · replace h := it_f h c_8
          refine lv_aload_n hx hb dX7_road_60 rfl (lv_at hl 2 rfl) ?_
          refine gf_X7_12 C0 X hP 66 (q := 0) ⟨by decide, rfl⟩ (by omega) rfl dX7_road_61 ?_
          refine lv_aload_n hx hb dX7_road_64 rfl (lv_at hl 2 rfl) ?_
          refine gf_X7_19 C0 X hP 66 (q := 44) ⟨by decide, rfl⟩ (by omega) rfl dX7_road_65 ?_
          obtain ⟨q_9, h⟩ := ckp h
          refine r_cv X hS (r_runV (As := [.ref (ad 44)]) (rest := []) C0 X hP L_X7_62 (fun sz => c_X6_copyFrom l D cA ad o σ_6 0 2 (by decide) (by decide) (by decide) (cb01_e q_9) sz) (show 0 < 106 ∧ kd 0 = (6, 11) from ⟨by decide, rfl⟩).1 (show 0 < 106 ∧ kd 0 = (6, 11) from ⟨by decide, rfl⟩).2 (by decide) rfl ⟨Nat.le_of_ble_eq_true rfl, Nat.le_of_ble_eq_true rfl⟩ rfl hl.1 rfl (Nat.le_of_ble_eq_true rfl) dX7_road_68 ⟨Nat.zero_le _, Nat.zero_le _⟩) (fun σ9 H locs hw hP hS => ?_)
          rw [show σ9 = (tcpy σ_6 0 2) from hw] at hP
          refine lv_iload_n hx hb dX7_road_71 rfl (lv_at hl 0 rfl) ?_
          exact r_iret C0 X hP hS hr hlk dX7_road_72 (rt2 h)
      · replace h := it_t h c_4
        refine lv_bipush (v := (-12)) hx hb dX7_road_29 (by decide) ?_
        exact r_iret C0 X hP hS hr hlk dX7_road_31 (rt2 h)
    · replace h := it_t h c_2
      refine lv_bipush (v := (-11)) hx hb dX7_road_19 (by decide) ?_
      exact r_iret C0 X hP hS hr hlk dX7_road_21 (rt2 h)
def bB_cX7_piece : Nat := 0xac02ac2e1b5900b42dac2e1b5600b42dac2e1b5300b42dac2e1b4f00b42d320000002b000000240000001d000000030000000000000039000000aa1cac020500a14a00b42d1b0b009b1b4e4600b40c00b42a
theorem yB_cX7_piece : BYS cX7_piece 82 bB_cX7_piece := BYS_of (by decide +kernel)
theorem dX7_piece_0 : decode cX7_piece 0 = .ok (.aload_n 0, 1) := D_42 yB_cX7_piece rfl rfl
theorem dX7_piece_1 : decode cX7_piece 1 = .ok (.getfield 12, 3) := D_180 yB_cX7_piece rfl rfl rfl
theorem dX7_piece_4 : decode cX7_piece 4 = .ok (.getfield 70, 3) := D_180 yB_cX7_piece rfl rfl rfl
theorem dX7_piece_7 : decode cX7_piece 7 = .ok (.astore_n 3, 1) := D_78 yB_cX7_piece rfl rfl
theorem dX7_piece_8 : decode cX7_piece 8 = .ok (.iload_n 1, 1) := D_27 yB_cX7_piece rfl rfl
theorem dX7_piece_9 : decode cX7_piece 9 = .ok (.ifCond .lt 11, 3) := D_155 yB_cX7_piece rfl rfl (sg_p (m := 32768) (N := 11) rfl rfl rfl)
theorem dX7_piece_12 : decode cX7_piece 12 = .ok (.iload_n 1, 1) := D_27 yB_cX7_piece rfl rfl
theorem dX7_piece_13 : decode cX7_piece 13 = .ok (.aload_n 3, 1) := D_45 yB_cX7_piece rfl rfl
theorem dX7_piece_14 : decode cX7_piece 14 = .ok (.getfield 74, 3) := D_180 yB_cX7_piece rfl rfl rfl
theorem dX7_piece_17 : decode cX7_piece 17 = .ok (.if_icmp .lt 5, 3) := D_161 yB_cX7_piece rfl rfl (sg_p (m := 32768) (N := 5) rfl rfl rfl)
theorem dX7_piece_20 : decode cX7_piece 20 = .ok (.iconst (-1), 1) := D_2 yB_cX7_piece rfl rfl
theorem dX7_piece_21 : decode cX7_piece 21 = .ok (.ireturn, 1) := D_172 yB_cX7_piece rfl rfl
theorem dX7_piece_22 : decode cX7_piece 22 = .ok (.iload_n 2, 1) := D_28 yB_cX7_piece rfl rfl
theorem dX7_piece_23 : decode cX7_piece 23 = .ok (.tableswitch 57 0 3 #[29, 36, 43, 50], 29) := by decide +kernel
theorem dX7_piece_52 : decode cX7_piece 52 = .ok (.aload_n 3, 1) := D_45 yB_cX7_piece rfl rfl
theorem dX7_piece_53 : decode cX7_piece 53 = .ok (.getfield 79, 3) := D_180 yB_cX7_piece rfl rfl rfl
theorem dX7_piece_56 : decode cX7_piece 56 = .ok (.iload_n 1, 1) := D_27 yB_cX7_piece rfl rfl
theorem dX7_piece_57 : decode cX7_piece 57 = .ok (.iaload, 1) := D_46 yB_cX7_piece rfl rfl
theorem dX7_piece_58 : decode cX7_piece 58 = .ok (.ireturn, 1) := D_172 yB_cX7_piece rfl rfl
theorem dX7_piece_59 : decode cX7_piece 59 = .ok (.aload_n 3, 1) := D_45 yB_cX7_piece rfl rfl
theorem dX7_piece_60 : decode cX7_piece 60 = .ok (.getfield 83, 3) := D_180 yB_cX7_piece rfl rfl rfl
theorem dX7_piece_63 : decode cX7_piece 63 = .ok (.iload_n 1, 1) := D_27 yB_cX7_piece rfl rfl
theorem dX7_piece_64 : decode cX7_piece 64 = .ok (.iaload, 1) := D_46 yB_cX7_piece rfl rfl
theorem dX7_piece_65 : decode cX7_piece 65 = .ok (.ireturn, 1) := D_172 yB_cX7_piece rfl rfl
theorem dX7_piece_66 : decode cX7_piece 66 = .ok (.aload_n 3, 1) := D_45 yB_cX7_piece rfl rfl
theorem dX7_piece_67 : decode cX7_piece 67 = .ok (.getfield 86, 3) := D_180 yB_cX7_piece rfl rfl rfl
theorem dX7_piece_70 : decode cX7_piece 70 = .ok (.iload_n 1, 1) := D_27 yB_cX7_piece rfl rfl
theorem dX7_piece_71 : decode cX7_piece 71 = .ok (.iaload, 1) := D_46 yB_cX7_piece rfl rfl
theorem dX7_piece_72 : decode cX7_piece 72 = .ok (.ireturn, 1) := D_172 yB_cX7_piece rfl rfl
theorem dX7_piece_73 : decode cX7_piece 73 = .ok (.aload_n 3, 1) := D_45 yB_cX7_piece rfl rfl
theorem dX7_piece_74 : decode cX7_piece 74 = .ok (.getfield 89, 3) := D_180 yB_cX7_piece rfl rfl rfl
theorem dX7_piece_77 : decode cX7_piece 77 = .ok (.iload_n 1, 1) := D_27 yB_cX7_piece rfl rfl
theorem dX7_piece_78 : decode cX7_piece 78 = .ok (.iaload, 1) := D_46 yB_cX7_piece rfl rfl
theorem dX7_piece_79 : decode cX7_piece 79 = .ok (.ireturn, 1) := D_172 yB_cX7_piece rfl rfl
theorem dX7_piece_80 : decode cX7_piece 80 = .ok (.iconst (-1), 1) := D_2 yB_cX7_piece rfl rfl
theorem dX7_piece_81 : decode cX7_piece 81 = .ok (.ireturn, 1) := D_172 yB_cX7_piece rfl rfl
def F_X7_piece (σ : Mem) (x1 : Int32) (x2 : Int32) : Option (Int32) := if x1 < 0 then (some (-1)) else (if x1 < (σ 1 0) then (if x2 = 0 then ((ix 8 x1).bind fun k_5 => some (σ 2 k_5)) else (if x2 = 1 then ((ix 8 x1).bind fun k_7 => some (σ 3 k_7)) else (if x2 = 2 then ((ix 8 x1).bind fun k_9 => some (σ 4 k_9)) else (if x2 = 3 then ((ix 9 x1).bind fun k_11 => some (σ 6 k_11)) else (some (-1)))))) else (some (-1)))
set_option maxHeartbeats 4000000 in
set_option maxRecDepth 100000 in
theorem c_X7_piece (l : Launch) (D : va_G) (cA : Nat → ClassId) (ad : Nat → Nat) (o : Int64) (σ : Mem) (x1 : Int32) (x2 : Int32)  (res : Int32) (h : F_X7_piece σ x1 x2 = some res) (sz : Nat) : Met l yX7_piece (WY yX7_piece cX7_piece 4 (some .int)) (RM 0) (va_Pc [.ref (ad 66), .int x1, .int x2] (PW D cA ad o σ sz)) (va_Qi (fun r σ9 => r = res ∧ σ9 = σ) (QW D cA ad o) (FA ad sz)) 0 0 (FA ad sz) := by
  refine ct_of (own := RX7) (k := 0) (Qf := va_Qi (fun r σ9 => r = res ∧ σ9 = σ) (QW D cA ad o)) rfl (by decide) (Nat.le_of_ble_eq_true rfl) (fun p e s m below meth c ls C0 X hr hlk hP hl => ?_) sz
  have hS : va_S (FA ad s.heap.size) s.heap s.heap [] := va_S.rf
  have hl : lv_has ls 4 [(0, .ref (ad 66)), (1, .int x1), (2, .int x2)] := hl
  obtain ⟨hx, hb, hml, hown, hts⟩ := id C0
  unfold F_X7_piece at h
  refine lv_aload_n hx hb dX7_piece_0 rfl (lv_at hl 0 rfl) ?_
  refine gf_X7_12 C0 X hP 66 (q := 0) ⟨by decide, rfl⟩ (by omega) rfl dX7_piece_1 ?_
  refine gf_X7_70 C0 X hP 0 (q := 1) ⟨by decide, rfl⟩ (by omega) rfl dX7_piece_4 ?_
  refine lv_astore_n (lv' := [(3, .ref (ad 1)), (0, .ref (ad 66)), (1, .int x1), (2, .int x2)]) hx hb dX7_piece_7 rfl hl (by decide) rfl (fun ls hl => ?_)
  refine lv_iload_n hx hb dX7_piece_8 rfl (lv_at hl 2 rfl) ?_
  refine lv_if_lt (tgt := 20) hx hb dX7_piece_9 (by decide) (fun c_1 => ?_) (fun c_1 => ?_)
  · replace h := it_t h c_1
    refine lv_iconst (v := (-1)) hx hb dX7_piece_20 (by decide) ?_
    exact r_iret C0 X hP hS hr hlk dX7_piece_21 ⟨Option.some.inj h, rfl⟩
  · replace h := it_f h c_1
    refine lv_iload_n hx hb dX7_piece_12 rfl (lv_at hl 2 rfl) ?_
    refine lv_aload_n hx hb dX7_piece_13 rfl (lv_at hl 0 rfl) ?_
    refine gf_X7_74 C0 X hP 1 ⟨by decide, rfl⟩ dX7_piece_14 ?_
    refine lv_icmp_lt (tgt := 22) hx hb dX7_piece_17 (by decide) (fun c_2 => ?_) (fun c_2 => ?_)
    · replace h := it_t h c_2
      refine lv_iload_n hx hb dX7_piece_22 rfl (lv_at hl 3 rfl) ?_
      rcases sw_in (x := x2) (lo := 0) (n := 4) with c_3 | ⟨j, hj, c_3⟩
      · replace h := it_f h (sw_ne (v := 0) c_3 (by decide))
        replace h := it_f h (sw_ne (v := 1) c_3 (by decide))
        replace h := it_f h (sw_ne (v := 2) c_3 (by decide))
        replace h := it_f h (sw_ne (v := 3) c_3 (by decide))
        refine lv_tableOut (tgt := 80) hx hb dX7_piece_23 (by omega) (by decide) ?_
        refine lv_iconst (v := (-1)) hx hb dX7_piece_80 (by decide) ?_
        exact r_iret C0 X hP hS hr hlk dX7_piece_81 ⟨Option.some.inj h, rfl⟩
      · rcases (show j = 0 ∨ j = 1 ∨ j = 2 ∨ j = 3 by omega) with rfl | rfl | rfl | rfl
        · have e_4 : x2 = 0 := sw_eq c_3 (by decide)
          replace h := it_t h e_4
          refine lv_tableIn (off := 29) (tgt := 52) hx hb dX7_piece_23 (by rw [e_4]; decide) (by rw [e_4]; decide) (by rw [e_4]; rfl) (by decide) ?_
          refine lv_aload_n hx hb dX7_piece_52 rfl (lv_at hl 0 rfl) ?_
          refine gf_X7_79 C0 X hP 1 (q := 2) ⟨by decide, rfl⟩ (by omega) rfl dX7_piece_53 ?_
          refine lv_iload_n hx hb dX7_piece_56 rfl (lv_at hl 2 rfl) ?_
          obtain ⟨k_5, ek_5, h⟩ := bnd h
          replace ek_5 := ix_s ek_5 (by decide)
          refine r_ialdN C0 X hP 2 (k := k_5) ⟨by decide, rfl⟩ ek_5.1 ek_5.2 dX7_piece_57 ?_
          exact r_iret C0 X hP hS hr hlk dX7_piece_58 ⟨Option.some.inj h, rfl⟩
        · have e_6 : x2 = 1 := sw_eq c_3 (by decide)
          replace h := it_f h (show ¬ x2 = 0 by rw [e_6]; decide)
          replace h := it_t h e_6
          refine lv_tableIn (off := 36) (tgt := 59) hx hb dX7_piece_23 (by rw [e_6]; decide) (by rw [e_6]; decide) (by rw [e_6]; rfl) (by decide) ?_
          refine lv_aload_n hx hb dX7_piece_59 rfl (lv_at hl 0 rfl) ?_
          refine gf_X7_83 C0 X hP 1 (q := 3) ⟨by decide, rfl⟩ (by omega) rfl dX7_piece_60 ?_
          refine lv_iload_n hx hb dX7_piece_63 rfl (lv_at hl 2 rfl) ?_
          obtain ⟨k_7, ek_7, h⟩ := bnd h
          replace ek_7 := ix_s ek_7 (by decide)
          refine r_ialdN C0 X hP 3 (k := k_7) ⟨by decide, rfl⟩ ek_7.1 ek_7.2 dX7_piece_64 ?_
          exact r_iret C0 X hP hS hr hlk dX7_piece_65 ⟨Option.some.inj h, rfl⟩
        · have e_8 : x2 = 2 := sw_eq c_3 (by decide)
          replace h := it_f h (show ¬ x2 = 0 by rw [e_8]; decide)
          replace h := it_f h (show ¬ x2 = 1 by rw [e_8]; decide)
          replace h := it_t h e_8
          refine lv_tableIn (off := 43) (tgt := 66) hx hb dX7_piece_23 (by rw [e_8]; decide) (by rw [e_8]; decide) (by rw [e_8]; rfl) (by decide) ?_
          refine lv_aload_n hx hb dX7_piece_66 rfl (lv_at hl 0 rfl) ?_
          refine gf_X7_86 C0 X hP 1 (q := 4) ⟨by decide, rfl⟩ (by omega) rfl dX7_piece_67 ?_
          refine lv_iload_n hx hb dX7_piece_70 rfl (lv_at hl 2 rfl) ?_
          obtain ⟨k_9, ek_9, h⟩ := bnd h
          replace ek_9 := ix_s ek_9 (by decide)
          refine r_ialdN C0 X hP 4 (k := k_9) ⟨by decide, rfl⟩ ek_9.1 ek_9.2 dX7_piece_71 ?_
          exact r_iret C0 X hP hS hr hlk dX7_piece_72 ⟨Option.some.inj h, rfl⟩
        · have e_10 : x2 = 3 := sw_eq c_3 (by decide)
          replace h := it_f h (show ¬ x2 = 0 by rw [e_10]; decide)
          replace h := it_f h (show ¬ x2 = 1 by rw [e_10]; decide)
          replace h := it_f h (show ¬ x2 = 2 by rw [e_10]; decide)
          replace h := it_t h e_10
          refine lv_tableIn (off := 50) (tgt := 73) hx hb dX7_piece_23 (by rw [e_10]; decide) (by rw [e_10]; decide) (by rw [e_10]; rfl) (by decide) ?_
          refine lv_aload_n hx hb dX7_piece_73 rfl (lv_at hl 0 rfl) ?_
          refine gf_X7_89 C0 X hP 1 (q := 6) ⟨by decide, rfl⟩ (by omega) rfl dX7_piece_74 ?_
          refine lv_iload_n hx hb dX7_piece_77 rfl (lv_at hl 2 rfl) ?_
          obtain ⟨k_11, ek_11, h⟩ := bnd h
          replace ek_11 := ix_s ek_11 (by decide)
          refine r_ialdN C0 X hP 6 (k := k_11) ⟨by decide, rfl⟩ ek_11.1 ek_11.2 dX7_piece_78 ?_
          exact r_iret C0 X hP hS hr hlk dX7_piece_79 ⟨Option.some.inj h, rfl⟩
    · replace h := it_f h c_2
      refine lv_iconst (v := (-1)) hx hb dX7_piece_20 (by decide) ?_
      exact r_iret C0 X hP hS hr hlk dX7_piece_21 ⟨Option.some.inj h, rfl⟩
def bB_cX7_room : Nat := 0xacfc100500a72e1b6000b42c0c00995c00b61b2cac020500a44a00b42c1b0b009b1b0f00994a00b42c4d4600b40c00b42a
theorem yB_cX7_room : BYS cX7_room 49 bB_cX7_room := BYS_of (by decide +kernel)
theorem dX7_room_0 : decode cX7_room 0 = .ok (.aload_n 0, 1) := D_42 yB_cX7_room rfl rfl
theorem dX7_room_1 : decode cX7_room 1 = .ok (.getfield 12, 3) := D_180 yB_cX7_room rfl rfl rfl
theorem dX7_room_4 : decode cX7_room 4 = .ok (.getfield 70, 3) := D_180 yB_cX7_room rfl rfl rfl
theorem dX7_room_7 : decode cX7_room 7 = .ok (.astore_n 2, 1) := D_77 yB_cX7_room rfl rfl
theorem dX7_room_8 : decode cX7_room 8 = .ok (.aload_n 2, 1) := D_44 yB_cX7_room rfl rfl
theorem dX7_room_9 : decode cX7_room 9 = .ok (.getfield 74, 3) := D_180 yB_cX7_room rfl rfl rfl
theorem dX7_room_12 : decode cX7_room 12 = .ok (.ifCond .eq 15, 3) := D_153 yB_cX7_room rfl rfl (sg_p (m := 32768) (N := 15) rfl rfl rfl)
theorem dX7_room_15 : decode cX7_room 15 = .ok (.iload_n 1, 1) := D_27 yB_cX7_room rfl rfl
theorem dX7_room_16 : decode cX7_room 16 = .ok (.ifCond .lt 11, 3) := D_155 yB_cX7_room rfl rfl (sg_p (m := 32768) (N := 11) rfl rfl rfl)
theorem dX7_room_19 : decode cX7_room 19 = .ok (.iload_n 1, 1) := D_27 yB_cX7_room rfl rfl
theorem dX7_room_20 : decode cX7_room 20 = .ok (.aload_n 2, 1) := D_44 yB_cX7_room rfl rfl
theorem dX7_room_21 : decode cX7_room 21 = .ok (.getfield 74, 3) := D_180 yB_cX7_room rfl rfl rfl
theorem dX7_room_24 : decode cX7_room 24 = .ok (.if_icmp .le 5, 3) := D_164 yB_cX7_room rfl rfl (sg_p (m := 32768) (N := 5) rfl rfl rfl)
theorem dX7_room_27 : decode cX7_room 27 = .ok (.iconst (-1), 1) := D_2 yB_cX7_room rfl rfl
theorem dX7_room_28 : decode cX7_room 28 = .ok (.ireturn, 1) := D_172 yB_cX7_room rfl rfl
theorem dX7_room_29 : decode cX7_room 29 = .ok (.aload_n 2, 1) := D_44 yB_cX7_room rfl rfl
theorem dX7_room_30 : decode cX7_room 30 = .ok (.iload_n 1, 1) := D_27 yB_cX7_room rfl rfl
theorem dX7_room_31 : decode cX7_room 31 = .ok (.invokevirtual 92, 3) := D_182 yB_cX7_room rfl rfl rfl
theorem dX7_room_34 : decode cX7_room 34 = .ok (.ifCond .eq 12, 3) := D_153 yB_cX7_room rfl rfl (sg_p (m := 32768) (N := 12) rfl rfl rfl)
theorem dX7_room_37 : decode cX7_room 37 = .ok (.aload_n 2, 1) := D_44 yB_cX7_room rfl rfl
theorem dX7_room_38 : decode cX7_room 38 = .ok (.getfield 96, 3) := D_180 yB_cX7_room rfl rfl rfl
theorem dX7_room_41 : decode cX7_room 41 = .ok (.iload_n 1, 1) := D_27 yB_cX7_room rfl rfl
theorem dX7_room_42 : decode cX7_room 42 = .ok (.iaload, 1) := D_46 yB_cX7_room rfl rfl
theorem dX7_room_43 : decode cX7_room 43 = .ok (.goto 5, 3) := D_167 yB_cX7_room rfl rfl (sg_p (m := 32768) (N := 5) rfl rfl rfl)
theorem dX7_room_46 : decode cX7_room 46 = .ok (.bipush (-4), 2) := D_16 yB_cX7_room rfl rfl (sg_n (m := 128) (N := 4) rfl rfl rfl)
theorem dX7_room_48 : decode cX7_room 48 = .ok (.ireturn, 1) := D_172 yB_cX7_room rfl rfl
def F_X7_room (σ : Mem) (x1 : Int32) : Option (Int32) := if (σ 1 0) = 0 then (some (-1)) else (if x1 < 0 then (some (-1)) else (if x1 ≤ (σ 1 0) then ((F_X4_isBetween σ 0 x1).bind fun r_4 => if r_4 = 0 then (some (-4)) else ((ix 9 x1).bind fun k_6 => some (σ 5 k_6))) else (some (-1))))
set_option maxHeartbeats 4000000 in
set_option maxRecDepth 100000 in
theorem c_X7_room (l : Launch) (D : va_G) (cA : Nat → ClassId) (ad : Nat → Nat) (o : Int64) (σ : Mem) (x1 : Int32)  (res : Int32) (h : F_X7_room σ x1 = some res) (sz : Nat) : Met l yX7_room (WY yX7_room cX7_room 3 (some .int)) (RM 1) (va_Pc [.ref (ad 66), .int x1] (PW D cA ad o σ sz)) (va_Qi (fun r σ9 => r = res ∧ σ9 = σ) (QW D cA ad o) (FA ad sz)) 0 0 (FA ad sz) := by
  refine ct_of (own := RX7) (k := 1) (Qf := va_Qi (fun r σ9 => r = res ∧ σ9 = σ) (QW D cA ad o)) rfl (by decide) (Nat.le_of_ble_eq_true rfl) (fun p e s m below meth c ls C0 X hr hlk hP hl => ?_) sz
  have hS : va_S (FA ad s.heap.size) s.heap s.heap [] := va_S.rf
  have hl : lv_has ls 3 [(0, .ref (ad 66)), (1, .int x1)] := hl
  obtain ⟨hx, hb, hml, hown, hts⟩ := id C0
  unfold F_X7_room at h
  refine lv_aload_n hx hb dX7_room_0 rfl (lv_at hl 0 rfl) ?_
  refine gf_X7_12 C0 X hP 66 (q := 0) ⟨by decide, rfl⟩ (by omega) rfl dX7_room_1 ?_
  refine gf_X7_70 C0 X hP 0 (q := 1) ⟨by decide, rfl⟩ (by omega) rfl dX7_room_4 ?_
  refine lv_astore_n (lv' := [(2, .ref (ad 1)), (0, .ref (ad 66)), (1, .int x1)]) hx hb dX7_room_7 rfl hl (by decide) rfl (fun ls hl => ?_)
  refine lv_aload_n hx hb dX7_room_8 rfl (lv_at hl 0 rfl) ?_
  refine gf_X7_74 C0 X hP 1 ⟨by decide, rfl⟩ dX7_room_9 ?_
  refine lv_if_eq (tgt := 27) hx hb dX7_room_12 (by decide) (fun c_1 => ?_) (fun c_1 => ?_)
  · replace h := it_t h c_1
    refine lv_iconst (v := (-1)) hx hb dX7_room_27 (by decide) ?_
    exact r_iret C0 X hP hS hr hlk dX7_room_28 ⟨Option.some.inj h, rfl⟩
  · replace h := it_f h c_1
    refine lv_iload_n hx hb dX7_room_15 rfl (lv_at hl 2 rfl) ?_
    refine lv_if_lt (tgt := 27) hx hb dX7_room_16 (by decide) (fun c_2 => ?_) (fun c_2 => ?_)
    · replace h := it_t h c_2
      refine lv_iconst (v := (-1)) hx hb dX7_room_27 (by decide) ?_
      exact r_iret C0 X hP hS hr hlk dX7_room_28 ⟨Option.some.inj h, rfl⟩
    · replace h := it_f h c_2
      refine lv_iload_n hx hb dX7_room_19 rfl (lv_at hl 2 rfl) ?_
      refine lv_aload_n hx hb dX7_room_20 rfl (lv_at hl 0 rfl) ?_
      refine gf_X7_74 C0 X hP 1 ⟨by decide, rfl⟩ dX7_room_21 ?_
      refine lv_icmp_le (tgt := 29) hx hb dX7_room_24 (by decide) (fun c_3 => ?_) (fun c_3 => ?_)
      · replace h := it_t h c_3
        refine lv_aload_n hx hb dX7_room_29 rfl (lv_at hl 0 rfl) ?_
        refine lv_iload_n hx hb dX7_room_30 rfl (lv_at hl 2 rfl) ?_
        obtain ⟨r_4, er_4, h⟩ := bnd h
        refine r_ci X hS (r_runV (As := [.int x1]) (rest := []) C0 X hP L_X7_92 (fun sz => c_X4_isBetween l D cA ad o σ 0 x1 (by decide) r_4 er_4 sz) (show 1 < 106 ∧ kd 1 = (4, 13) from ⟨by decide, rfl⟩).1 (show 1 < 106 ∧ kd 1 = (4, 13) from ⟨by decide, rfl⟩).2 (by decide) rfl ⟨Nat.le_of_ble_eq_true rfl, Nat.le_of_ble_eq_true rfl⟩ rfl hl.1 rfl (Nat.le_of_ble_eq_true rfl) dX7_room_31 ⟨Nat.zero_le _, Nat.zero_le _⟩) (fun r9 σ9 H locs hw hP hS => ?_)
        rw [hw.2] at hP
        rw [hw.1]
        refine lv_if_eq (tgt := 46) hx hb dX7_room_34 (by decide) (fun c_5 => ?_) (fun c_5 => ?_)
        · replace h := it_t h c_5
          refine lv_bipush (v := (-4)) hx hb dX7_room_46 (by decide) ?_
          exact r_iret C0 X hP hS hr hlk dX7_room_48 ⟨Option.some.inj h, rfl⟩
        · replace h := it_f h c_5
          refine lv_aload_n hx hb dX7_room_37 rfl (lv_at hl 0 rfl) ?_
          refine gf_X7_96 C0 X hP 1 (q := 5) ⟨by decide, rfl⟩ (by omega) rfl dX7_room_38 ?_
          refine lv_iload_n hx hb dX7_room_41 rfl (lv_at hl 2 rfl) ?_
          obtain ⟨k_6, ek_6, h⟩ := bnd h
          replace ek_6 := ix_s ek_6 (by decide)
          refine r_ialdN C0 X hP 5 (k := k_6) ⟨by decide, rfl⟩ ek_6.1 ek_6.2 dX7_room_42 ?_
          refine lv_goto (tgt := 48) hx hb dX7_room_43 (by decide) ?_
          exact r_iret C0 X hP hS hr hlk dX7_room_48 ⟨Option.some.inj h, rfl⟩
      · replace h := it_f h c_3
        refine lv_iconst (v := (-1)) hx hb dX7_room_27 (by decide) ?_
        exact r_iret C0 X hP hS hr hlk dX7_room_28 ⟨Option.some.inj h, rfl⟩
def bB_cX7_cart : Nat := 0xac02ac7600b42dac7300b42dac030400a7040700997000b42dac6d00b42dac030400a7040700996700b42d480000004300000036000000310000002400000004000000000000004d000000000000aa1cac020500c72d4e6300b61b0c00b42a
theorem yB_cX7_cart : BYS cX7_cart 95 bB_cX7_cart := BYS_of (by decide +kernel)
theorem dX7_cart_0 : decode cX7_cart 0 = .ok (.aload_n 0, 1) := D_42 yB_cX7_cart rfl rfl
theorem dX7_cart_1 : decode cX7_cart 1 = .ok (.getfield 12, 3) := D_180 yB_cX7_cart rfl rfl rfl
theorem dX7_cart_4 : decode cX7_cart 4 = .ok (.iload_n 1, 1) := D_27 yB_cX7_cart rfl rfl
theorem dX7_cart_5 : decode cX7_cart 5 = .ok (.invokevirtual 99, 3) := D_182 yB_cX7_cart rfl rfl rfl
theorem dX7_cart_8 : decode cX7_cart 8 = .ok (.astore_n 3, 1) := D_78 yB_cX7_cart rfl rfl
theorem dX7_cart_9 : decode cX7_cart 9 = .ok (.aload_n 3, 1) := D_45 yB_cX7_cart rfl rfl
theorem dX7_cart_10 : decode cX7_cart 10 = .ok (.ifnonnull 5, 3) := D_199 yB_cX7_cart rfl rfl (sg_p (m := 32768) (N := 5) rfl rfl rfl)
theorem dX7_cart_13 : decode cX7_cart 13 = .ok (.iconst (-1), 1) := D_2 yB_cX7_cart rfl rfl
theorem dX7_cart_14 : decode cX7_cart 14 = .ok (.ireturn, 1) := D_172 yB_cX7_cart rfl rfl
theorem dX7_cart_15 : decode cX7_cart 15 = .ok (.iload_n 2, 1) := D_28 yB_cX7_cart rfl rfl
theorem dX7_cart_16 : decode cX7_cart 16 = .ok (.tableswitch 77 0 4 #[36, 49, 54, 67, 72], 36) := by decide +kernel
theorem dX7_cart_52 : decode cX7_cart 52 = .ok (.aload_n 3, 1) := D_45 yB_cX7_cart rfl rfl
theorem dX7_cart_53 : decode cX7_cart 53 = .ok (.getfield 103, 3) := D_180 yB_cX7_cart rfl rfl rfl
theorem dX7_cart_56 : decode cX7_cart 56 = .ok (.ifCond .eq 7, 3) := D_153 yB_cX7_cart rfl rfl (sg_p (m := 32768) (N := 7) rfl rfl rfl)
theorem dX7_cart_59 : decode cX7_cart 59 = .ok (.iconst 1, 1) := D_4 yB_cX7_cart rfl rfl
theorem dX7_cart_60 : decode cX7_cart 60 = .ok (.goto 4, 3) := D_167 yB_cX7_cart rfl rfl (sg_p (m := 32768) (N := 4) rfl rfl rfl)
theorem dX7_cart_63 : decode cX7_cart 63 = .ok (.iconst 0, 1) := D_3 yB_cX7_cart rfl rfl
theorem dX7_cart_64 : decode cX7_cart 64 = .ok (.ireturn, 1) := D_172 yB_cX7_cart rfl rfl
theorem dX7_cart_65 : decode cX7_cart 65 = .ok (.aload_n 3, 1) := D_45 yB_cX7_cart rfl rfl
theorem dX7_cart_66 : decode cX7_cart 66 = .ok (.getfield 109, 3) := D_180 yB_cX7_cart rfl rfl rfl
theorem dX7_cart_69 : decode cX7_cart 69 = .ok (.ireturn, 1) := D_172 yB_cX7_cart rfl rfl
theorem dX7_cart_70 : decode cX7_cart 70 = .ok (.aload_n 3, 1) := D_45 yB_cX7_cart rfl rfl
theorem dX7_cart_71 : decode cX7_cart 71 = .ok (.getfield 112, 3) := D_180 yB_cX7_cart rfl rfl rfl
theorem dX7_cart_74 : decode cX7_cart 74 = .ok (.ifCond .eq 7, 3) := D_153 yB_cX7_cart rfl rfl (sg_p (m := 32768) (N := 7) rfl rfl rfl)
theorem dX7_cart_77 : decode cX7_cart 77 = .ok (.iconst 1, 1) := D_4 yB_cX7_cart rfl rfl
theorem dX7_cart_78 : decode cX7_cart 78 = .ok (.goto 4, 3) := D_167 yB_cX7_cart rfl rfl (sg_p (m := 32768) (N := 4) rfl rfl rfl)
theorem dX7_cart_81 : decode cX7_cart 81 = .ok (.iconst 0, 1) := D_3 yB_cX7_cart rfl rfl
theorem dX7_cart_82 : decode cX7_cart 82 = .ok (.ireturn, 1) := D_172 yB_cX7_cart rfl rfl
theorem dX7_cart_83 : decode cX7_cart 83 = .ok (.aload_n 3, 1) := D_45 yB_cX7_cart rfl rfl
theorem dX7_cart_84 : decode cX7_cart 84 = .ok (.getfield 115, 3) := D_180 yB_cX7_cart rfl rfl rfl
theorem dX7_cart_87 : decode cX7_cart 87 = .ok (.ireturn, 1) := D_172 yB_cX7_cart rfl rfl
theorem dX7_cart_88 : decode cX7_cart 88 = .ok (.aload_n 3, 1) := D_45 yB_cX7_cart rfl rfl
theorem dX7_cart_89 : decode cX7_cart 89 = .ok (.getfield 118, 3) := D_180 yB_cX7_cart rfl rfl rfl
theorem dX7_cart_92 : decode cX7_cart 92 = .ok (.ireturn, 1) := D_172 yB_cX7_cart rfl rfl
theorem dX7_cart_93 : decode cX7_cart 93 = .ok (.iconst (-1), 1) := D_2 yB_cX7_cart rfl rfl
theorem dX7_cart_94 : decode cX7_cart 94 = .ok (.ireturn, 1) := D_172 yB_cX7_cart rfl rfl
def F_X7_cart (σ : Mem) (x1 : Int32) (x2 : Int32) : Option (Int32) := if x1 < 0 ∨ σ (22 * 0) 2 ≤ x1 ∨ 7 ≤ x1 then (some (-1)) else ((ix 7 x1).bind fun j_1 => if x2 = 0 then (if (σ (22 * 0 + 15 + j_1) 0) = 0 then (some 0) else (some 1)) else (if x2 = 1 then (some (σ (22 * 0 + 15 + j_1) 2)) else (if x2 = 2 then (if (σ (22 * 0 + 15 + j_1) 1) = 0 then (some 0) else (some 1)) else (if x2 = 3 then (some (σ (22 * 0 + 15 + j_1) 3)) else (if x2 = 4 then (some (σ (22 * 0 + 15 + j_1) 4)) else (some (-1)))))))
set_option maxHeartbeats 4000000 in
set_option maxRecDepth 100000 in
theorem c_X7_cart (l : Launch) (D : va_G) (cA : Nat → ClassId) (ad : Nat → Nat) (o : Int64) (σ : Mem) (x1 : Int32) (x2 : Int32)  (res : Int32) (h : F_X7_cart σ x1 x2 = some res) (sz : Nat) : Met l yX7_cart (WY yX7_cart cX7_cart 4 (some .int)) (RM 1) (va_Pc [.ref (ad 66), .int x1, .int x2] (PW D cA ad o σ sz)) (va_Qi (fun r σ9 => r = res ∧ σ9 = σ) (QW D cA ad o) (FA ad sz)) 0 0 (FA ad sz) := by
  refine ct_of (own := RX7) (k := 1) (Qf := va_Qi (fun r σ9 => r = res ∧ σ9 = σ) (QW D cA ad o)) rfl (by decide) (Nat.le_of_ble_eq_true rfl) (fun p e s m below meth c ls C0 X hr hlk hP hl => ?_) sz
  have hS : va_S (FA ad s.heap.size) s.heap s.heap [] := va_S.rf
  have hl : lv_has ls 4 [(0, .ref (ad 66)), (1, .int x1), (2, .int x2)] := hl
  obtain ⟨hx, hb, hml, hown, hts⟩ := id C0
  unfold F_X7_cart at h
  refine lv_aload_n hx hb dX7_cart_0 rfl (lv_at hl 0 rfl) ?_
  refine gf_X7_12 C0 X hP 66 (q := 0) ⟨by decide, rfl⟩ (by omega) rfl dX7_cart_1 ?_
  refine lv_iload_n hx hb dX7_cart_4 rfl (lv_at hl 1 rfl) ?_
  refine r_cq X hS (r_runV (As := [.int x1]) (rest := []) C0 X hP L_X7_99 (fun sz => c_X6_cartAt l D cA ad o σ 0 x1 (by decide) sz) (show 0 < 106 ∧ kd 0 = (6, 11) from ⟨by decide, rfl⟩).1 (show 0 < 106 ∧ kd 0 = (6, 11) from ⟨by decide, rfl⟩).2 (by decide) rfl ⟨Nat.le_of_ble_eq_true rfl, Nat.le_of_ble_eq_true rfl⟩ rfl hl.1 rfl (Nat.le_of_ble_eq_true rfl) dX7_cart_5 ⟨Nat.zero_le _, Nat.zero_le _⟩) (fun σ9 H locs hw hP hS => ?_) (fun x9 σ9 H locs hw hP hS => ?_)
  · rw [hw.1] at hP
    replace h := it_t h hw.2
    refine lv_astore_nN (lv' := [(3, .null), (0, .ref (ad 66)), (1, .int x1), (2, .int x2)]) hx hb dX7_cart_8 rfl hl (by decide) rfl (fun ls hl => ?_)
    refine lv_aload_nN hx hb dX7_cart_9 rfl (lv_at hl 0 rfl) ?_
    refine lv_ifnonnullN hx hb dX7_cart_10 ?_
    refine lv_iconst (v := (-1)) hx hb dX7_cart_13 (by decide) ?_
    exact r_iret C0 X hP hS hr hlk dX7_cart_14 ⟨Option.some.inj h, rfl⟩
  · rw [hw.1] at hP
    obtain ⟨-, j_1, hj_1, ej_1, l9, rfl⟩ := hw
    replace h := it_f h (nocart ej_1 hj_1 l9)
    obtain ⟨k9, ek9, h⟩ := bnd h
    replace ek9 := ix_s ek9 (by decide)
    obtain rfl : j_1 = k9 := nI_inj (ej_1.symm.trans ek9.1) (by omega) (by have := ek9.2; omega)
    refine lv_astore_n (lv' := [(3, .ref (ad (22 * 0 + 15 + j_1))), (0, .ref (ad 66)), (1, .int x1), (2, .int x2)]) hx hb dX7_cart_8 rfl hl (by decide) rfl (fun ls hl => ?_)
    refine lv_aload_n hx hb dX7_cart_9 rfl (lv_at hl 0 rfl) ?_
    refine lv_ifnonnull (tgt := 15) hx hb dX7_cart_10 (by decide) ?_
    refine lv_iload_n hx hb dX7_cart_15 rfl (lv_at hl 3 rfl) ?_
    rcases sw_in (x := x2) (lo := 0) (n := 5) with c_2 | ⟨j, hj, c_2⟩
    · replace h := it_f h (sw_ne (v := 0) c_2 (by decide))
      replace h := it_f h (sw_ne (v := 1) c_2 (by decide))
      replace h := it_f h (sw_ne (v := 2) c_2 (by decide))
      replace h := it_f h (sw_ne (v := 3) c_2 (by decide))
      replace h := it_f h (sw_ne (v := 4) c_2 (by decide))
      refine lv_tableOut (tgt := 93) hx hb dX7_cart_16 (by omega) (by decide) ?_
      refine lv_iconst (v := (-1)) hx hb dX7_cart_93 (by decide) ?_
      exact r_iret C0 X hP hS hr hlk dX7_cart_94 ⟨Option.some.inj h, rfl⟩
    · rcases (show j = 0 ∨ j = 1 ∨ j = 2 ∨ j = 3 ∨ j = 4 by omega) with rfl | rfl | rfl | rfl | rfl
      · have e_3 : x2 = 0 := sw_eq c_2 (by decide)
        replace h := it_t h e_3
        refine lv_tableIn (off := 36) (tgt := 52) hx hb dX7_cart_16 (by rw [e_3]; decide) (by rw [e_3]; decide) (by rw [e_3]; rfl) (by decide) ?_
        refine lv_aload_n hx hb dX7_cart_52 rfl (lv_at hl 0 rfl) ?_
        refine gf_X7_103 C0 X hP (22 * 0 + 15 + j_1) (kdC 0 (by decide) j_1 hj_1) dX7_cart_53 ?_
        refine lv_if_eq (tgt := 63) hx hb dX7_cart_56 (by decide) (fun c_4 => ?_) (fun c_4 => ?_)
        · replace h := it_t h c_4
          refine lv_iconst (v := 0) hx hb dX7_cart_63 (by decide) ?_
          exact r_iret C0 X hP hS hr hlk dX7_cart_64 ⟨Option.some.inj h, rfl⟩
        · replace h := it_f h c_4
          refine lv_iconst (v := 1) hx hb dX7_cart_59 (by decide) ?_
          refine lv_goto (tgt := 64) hx hb dX7_cart_60 (by decide) ?_
          exact r_iret C0 X hP hS hr hlk dX7_cart_64 ⟨Option.some.inj h, rfl⟩
      · have e_5 : x2 = 1 := sw_eq c_2 (by decide)
        replace h := it_f h (show ¬ x2 = 0 by rw [e_5]; decide)
        replace h := it_t h e_5
        refine lv_tableIn (off := 49) (tgt := 65) hx hb dX7_cart_16 (by rw [e_5]; decide) (by rw [e_5]; decide) (by rw [e_5]; rfl) (by decide) ?_
        refine lv_aload_n hx hb dX7_cart_65 rfl (lv_at hl 0 rfl) ?_
        refine gf_X7_109 C0 X hP (22 * 0 + 15 + j_1) (kdC 0 (by decide) j_1 hj_1) dX7_cart_66 ?_
        exact r_iret C0 X hP hS hr hlk dX7_cart_69 ⟨Option.some.inj h, rfl⟩
      · have e_6 : x2 = 2 := sw_eq c_2 (by decide)
        replace h := it_f h (show ¬ x2 = 0 by rw [e_6]; decide)
        replace h := it_f h (show ¬ x2 = 1 by rw [e_6]; decide)
        replace h := it_t h e_6
        refine lv_tableIn (off := 54) (tgt := 70) hx hb dX7_cart_16 (by rw [e_6]; decide) (by rw [e_6]; decide) (by rw [e_6]; rfl) (by decide) ?_
        refine lv_aload_n hx hb dX7_cart_70 rfl (lv_at hl 0 rfl) ?_
        refine gf_X7_112 C0 X hP (22 * 0 + 15 + j_1) (kdC 0 (by decide) j_1 hj_1) dX7_cart_71 ?_
        refine lv_if_eq (tgt := 81) hx hb dX7_cart_74 (by decide) (fun c_7 => ?_) (fun c_7 => ?_)
        · replace h := it_t h c_7
          refine lv_iconst (v := 0) hx hb dX7_cart_81 (by decide) ?_
          exact r_iret C0 X hP hS hr hlk dX7_cart_82 ⟨Option.some.inj h, rfl⟩
        · replace h := it_f h c_7
          refine lv_iconst (v := 1) hx hb dX7_cart_77 (by decide) ?_
          refine lv_goto (tgt := 82) hx hb dX7_cart_78 (by decide) ?_
          exact r_iret C0 X hP hS hr hlk dX7_cart_82 ⟨Option.some.inj h, rfl⟩
      · have e_8 : x2 = 3 := sw_eq c_2 (by decide)
        replace h := it_f h (show ¬ x2 = 0 by rw [e_8]; decide)
        replace h := it_f h (show ¬ x2 = 1 by rw [e_8]; decide)
        replace h := it_f h (show ¬ x2 = 2 by rw [e_8]; decide)
        replace h := it_t h e_8
        refine lv_tableIn (off := 67) (tgt := 83) hx hb dX7_cart_16 (by rw [e_8]; decide) (by rw [e_8]; decide) (by rw [e_8]; rfl) (by decide) ?_
        refine lv_aload_n hx hb dX7_cart_83 rfl (lv_at hl 0 rfl) ?_
        refine gf_X7_115 C0 X hP (22 * 0 + 15 + j_1) (kdC 0 (by decide) j_1 hj_1) dX7_cart_84 ?_
        exact r_iret C0 X hP hS hr hlk dX7_cart_87 ⟨Option.some.inj h, rfl⟩
      · have e_9 : x2 = 4 := sw_eq c_2 (by decide)
        replace h := it_f h (show ¬ x2 = 0 by rw [e_9]; decide)
        replace h := it_f h (show ¬ x2 = 1 by rw [e_9]; decide)
        replace h := it_f h (show ¬ x2 = 2 by rw [e_9]; decide)
        replace h := it_f h (show ¬ x2 = 3 by rw [e_9]; decide)
        replace h := it_t h e_9
        refine lv_tableIn (off := 72) (tgt := 88) hx hb dX7_cart_16 (by rw [e_9]; decide) (by rw [e_9]; decide) (by rw [e_9]; rfl) (by decide) ?_
        refine lv_aload_n hx hb dX7_cart_88 rfl (lv_at hl 0 rfl) ?_
        refine gf_X7_118 C0 X hP (22 * 0 + 15 + j_1) (kdC 0 (by decide) j_1 hj_1) dX7_cart_89 ?_
        exact r_iret C0 X hP hS hr hlk dX7_cart_92 ⟨Option.some.inj h, rfl⟩
def bB_cX7_backs : Nat := 0xac04157300b51c2d04367300b42dac020500a4061c08009b1c0c00c62d4e6300b61b0c00b42a
theorem yB_cX7_backs : BYS cX7_backs 38 bB_cX7_backs := BYS_of (by decide +kernel)
theorem dX7_backs_0 : decode cX7_backs 0 = .ok (.aload_n 0, 1) := D_42 yB_cX7_backs rfl rfl
theorem dX7_backs_1 : decode cX7_backs 1 = .ok (.getfield 12, 3) := D_180 yB_cX7_backs rfl rfl rfl
theorem dX7_backs_4 : decode cX7_backs 4 = .ok (.iload_n 1, 1) := D_27 yB_cX7_backs rfl rfl
theorem dX7_backs_5 : decode cX7_backs 5 = .ok (.invokevirtual 99, 3) := D_182 yB_cX7_backs rfl rfl rfl
theorem dX7_backs_8 : decode cX7_backs 8 = .ok (.astore_n 3, 1) := D_78 yB_cX7_backs rfl rfl
theorem dX7_backs_9 : decode cX7_backs 9 = .ok (.aload_n 3, 1) := D_45 yB_cX7_backs rfl rfl
theorem dX7_backs_10 : decode cX7_backs 10 = .ok (.ifnull 12, 3) := D_198 yB_cX7_backs rfl rfl (sg_p (m := 32768) (N := 12) rfl rfl rfl)
theorem dX7_backs_13 : decode cX7_backs 13 = .ok (.iload_n 2, 1) := D_28 yB_cX7_backs rfl rfl
theorem dX7_backs_14 : decode cX7_backs 14 = .ok (.ifCond .lt 8, 3) := D_155 yB_cX7_backs rfl rfl (sg_p (m := 32768) (N := 8) rfl rfl rfl)
theorem dX7_backs_17 : decode cX7_backs 17 = .ok (.iload_n 2, 1) := D_28 yB_cX7_backs rfl rfl
theorem dX7_backs_18 : decode cX7_backs 18 = .ok (.iconst 3, 1) := D_6 yB_cX7_backs rfl rfl
theorem dX7_backs_19 : decode cX7_backs 19 = .ok (.if_icmp .le 5, 3) := D_164 yB_cX7_backs rfl rfl (sg_p (m := 32768) (N := 5) rfl rfl rfl)
theorem dX7_backs_22 : decode cX7_backs 22 = .ok (.iconst (-1), 1) := D_2 yB_cX7_backs rfl rfl
theorem dX7_backs_23 : decode cX7_backs 23 = .ok (.ireturn, 1) := D_172 yB_cX7_backs rfl rfl
theorem dX7_backs_24 : decode cX7_backs 24 = .ok (.aload_n 3, 1) := D_45 yB_cX7_backs rfl rfl
theorem dX7_backs_25 : decode cX7_backs 25 = .ok (.getfield 115, 3) := D_180 yB_cX7_backs rfl rfl rfl
theorem dX7_backs_28 : decode cX7_backs 28 = .ok (.istore 4, 2) := D_54 yB_cX7_backs rfl rfl rfl
theorem dX7_backs_30 : decode cX7_backs 30 = .ok (.aload_n 3, 1) := D_45 yB_cX7_backs rfl rfl
theorem dX7_backs_31 : decode cX7_backs 31 = .ok (.iload_n 2, 1) := D_28 yB_cX7_backs rfl rfl
theorem dX7_backs_32 : decode cX7_backs 32 = .ok (.putfield 115, 3) := D_181 yB_cX7_backs rfl rfl rfl
theorem dX7_backs_35 : decode cX7_backs 35 = .ok (.iload 4, 2) := D_21 yB_cX7_backs rfl rfl rfl
theorem dX7_backs_37 : decode cX7_backs 37 = .ok (.ireturn, 1) := D_172 yB_cX7_backs rfl rfl
def F_X7_backs (σ : Mem) (x1 : Int32) (x2 : Int32) : Option (Mem × Int32) := if x1 < 0 ∨ σ (22 * 0) 2 ≤ x1 ∨ 7 ≤ x1 then (some (σ, (-1))) else ((ix 7 x1).bind fun j_1 => if x2 < 0 then (some (σ, (-1))) else (if x2 ≤ 3 then (some ((stm σ (22 * 0 + 15 + j_1) 3 x2), (σ (22 * 0 + 15 + j_1) 3))) else (some (σ, (-1)))))
set_option maxHeartbeats 4000000 in
set_option maxRecDepth 100000 in
theorem c_X7_backs (l : Launch) (D : va_G) (cA : Nat → ClassId) (ad : Nat → Nat) (o : Int64) (σ : Mem) (x1 : Int32) (x2 : Int32)  (res : Mem × Int32) (h : F_X7_backs σ x1 x2 = some res) (sz : Nat) : Met l yX7_backs (WY yX7_backs cX7_backs 5 (some .int)) (RM 1) (va_Pc [.ref (ad 66), .int x1, .int x2] (PW D cA ad o σ sz)) (va_Qi (fun r σ9 => r = res.2 ∧ σ9 = res.1) (QW D cA ad o) (FA ad sz)) 0 0 (FA ad sz) := by
  refine ct_of (own := RX7) (k := 1) (Qf := va_Qi (fun r σ9 => r = res.2 ∧ σ9 = res.1) (QW D cA ad o)) rfl (by decide) (Nat.le_of_ble_eq_true rfl) (fun p e s m below meth c ls C0 X hr hlk hP hl => ?_) sz
  have hS : va_S (FA ad s.heap.size) s.heap s.heap [] := va_S.rf
  have hl : lv_has ls 5 [(0, .ref (ad 66)), (1, .int x1), (2, .int x2)] := hl
  obtain ⟨hx, hb, hml, hown, hts⟩ := id C0
  unfold F_X7_backs at h
  refine lv_aload_n hx hb dX7_backs_0 rfl (lv_at hl 0 rfl) ?_
  refine gf_X7_12 C0 X hP 66 (q := 0) ⟨by decide, rfl⟩ (by omega) rfl dX7_backs_1 ?_
  refine lv_iload_n hx hb dX7_backs_4 rfl (lv_at hl 1 rfl) ?_
  refine r_cq X hS (r_runV (As := [.int x1]) (rest := []) C0 X hP L_X7_99 (fun sz => c_X6_cartAt l D cA ad o σ 0 x1 (by decide) sz) (show 0 < 106 ∧ kd 0 = (6, 11) from ⟨by decide, rfl⟩).1 (show 0 < 106 ∧ kd 0 = (6, 11) from ⟨by decide, rfl⟩).2 (by decide) rfl ⟨Nat.le_of_ble_eq_true rfl, Nat.le_of_ble_eq_true rfl⟩ rfl hl.1 rfl (Nat.le_of_ble_eq_true rfl) dX7_backs_5 ⟨Nat.zero_le _, Nat.zero_le _⟩) (fun σ9 H locs hw hP hS => ?_) (fun x9 σ9 H locs hw hP hS => ?_)
  · rw [hw.1] at hP
    replace h := it_t h hw.2
    refine lv_astore_nN (lv' := [(3, .null), (0, .ref (ad 66)), (1, .int x1), (2, .int x2)]) hx hb dX7_backs_8 rfl hl (by decide) rfl (fun ls hl => ?_)
    refine lv_aload_nN hx hb dX7_backs_9 rfl (lv_at hl 0 rfl) ?_
    refine lv_ifnullN (tgt := 22) hx hb dX7_backs_10 (by decide) ?_
    refine lv_iconst (v := (-1)) hx hb dX7_backs_22 (by decide) ?_
    exact r_iret C0 X hP hS hr hlk dX7_backs_23 (rt2 h)
  · rw [hw.1] at hP
    obtain ⟨-, j_1, hj_1, ej_1, l9, rfl⟩ := hw
    replace h := it_f h (nocart ej_1 hj_1 l9)
    obtain ⟨k9, ek9, h⟩ := bnd h
    replace ek9 := ix_s ek9 (by decide)
    obtain rfl : j_1 = k9 := nI_inj (ej_1.symm.trans ek9.1) (by omega) (by have := ek9.2; omega)
    refine lv_astore_n (lv' := [(3, .ref (ad (22 * 0 + 15 + j_1))), (0, .ref (ad 66)), (1, .int x1), (2, .int x2)]) hx hb dX7_backs_8 rfl hl (by decide) rfl (fun ls hl => ?_)
    refine lv_aload_n hx hb dX7_backs_9 rfl (lv_at hl 0 rfl) ?_
    refine lv_ifnull hx hb dX7_backs_10 ?_
    refine lv_iload_n hx hb dX7_backs_13 rfl (lv_at hl 3 rfl) ?_
    refine lv_if_lt (tgt := 22) hx hb dX7_backs_14 (by decide) (fun c_2 => ?_) (fun c_2 => ?_)
    · replace h := it_t h c_2
      refine lv_iconst (v := (-1)) hx hb dX7_backs_22 (by decide) ?_
      exact r_iret C0 X hP hS hr hlk dX7_backs_23 (rt2 h)
    · replace h := it_f h c_2
      refine lv_iload_n hx hb dX7_backs_17 rfl (lv_at hl 3 rfl) ?_
      refine lv_iconst (v := 3) hx hb dX7_backs_18 (by decide) ?_
      refine lv_icmp_le (tgt := 24) hx hb dX7_backs_19 (by decide) (fun c_3 => ?_) (fun c_3 => ?_)
      · replace h := it_t h c_3
        refine lv_aload_n hx hb dX7_backs_24 rfl (lv_at hl 0 rfl) ?_
        refine gf_X7_115 C0 X hP (22 * 0 + 15 + j_1) (kdC 0 (by decide) j_1 hj_1) dX7_backs_25 ?_
        refine lv_istore (lv' := [(4, .int (σ (22 * 0 + 15 + j_1) 3)), (3, .ref (ad (22 * 0 + 15 + j_1))), (0, .ref (ad 66)), (1, .int x1), (2, .int x2)]) hx hb dX7_backs_28 hl (by decide) rfl (fun ls hl => ?_)
        refine lv_aload_n hx hb dX7_backs_30 rfl (lv_at hl 1 rfl) ?_
        refine lv_iload_n hx hb dX7_backs_31 rfl (lv_at hl 4 rfl) ?_
        refine pf_X7_115 C0 X hP hS (22 * 0 + 15 + j_1) (kdC 0 (by decide) j_1 hj_1) dX7_backs_32 (fun H locs hP hS => ?_)
        refine lv_iload hx hb dX7_backs_35 (lv_at hl 0 rfl) ?_
        exact r_iret C0 X hP hS hr hlk dX7_backs_37 (rt2 h)
      · replace h := it_f h c_3
        refine lv_iconst (v := (-1)) hx hb dX7_backs_22 (by decide) ?_
        exact r_iret C0 X hP hS hr hlk dX7_backs_23 (rt2 h)
def bB_cX7_village : Nat := 0xac02ac2e1b7c00b44600b40c00b42a1000a0041cac2e1b7900b44600b40c00b42a10009a1cac020500a1061b08009b1b
theorem yB_cX7_village : BYS cX7_village 48 bB_cX7_village := BYS_of (by decide +kernel)
theorem dX7_village_0 : decode cX7_village 0 = .ok (.iload_n 1, 1) := D_27 yB_cX7_village rfl rfl
theorem dX7_village_1 : decode cX7_village 1 = .ok (.ifCond .lt 8, 3) := D_155 yB_cX7_village rfl rfl (sg_p (m := 32768) (N := 8) rfl rfl rfl)
theorem dX7_village_4 : decode cX7_village 4 = .ok (.iload_n 1, 1) := D_27 yB_cX7_village rfl rfl
theorem dX7_village_5 : decode cX7_village 5 = .ok (.iconst 3, 1) := D_6 yB_cX7_village rfl rfl
theorem dX7_village_6 : decode cX7_village 6 = .ok (.if_icmp .lt 5, 3) := D_161 yB_cX7_village rfl rfl (sg_p (m := 32768) (N := 5) rfl rfl rfl)
theorem dX7_village_9 : decode cX7_village 9 = .ok (.iconst (-1), 1) := D_2 yB_cX7_village rfl rfl
theorem dX7_village_10 : decode cX7_village 10 = .ok (.ireturn, 1) := D_172 yB_cX7_village rfl rfl
theorem dX7_village_11 : decode cX7_village 11 = .ok (.iload_n 2, 1) := D_28 yB_cX7_village rfl rfl
theorem dX7_village_12 : decode cX7_village 12 = .ok (.ifCond .ne 16, 3) := D_154 yB_cX7_village rfl rfl (sg_p (m := 32768) (N := 16) rfl rfl rfl)
theorem dX7_village_15 : decode cX7_village 15 = .ok (.aload_n 0, 1) := D_42 yB_cX7_village rfl rfl
theorem dX7_village_16 : decode cX7_village 16 = .ok (.getfield 12, 3) := D_180 yB_cX7_village rfl rfl rfl
theorem dX7_village_19 : decode cX7_village 19 = .ok (.getfield 70, 3) := D_180 yB_cX7_village rfl rfl rfl
theorem dX7_village_22 : decode cX7_village 22 = .ok (.getfield 121, 3) := D_180 yB_cX7_village rfl rfl rfl
theorem dX7_village_25 : decode cX7_village 25 = .ok (.iload_n 1, 1) := D_27 yB_cX7_village rfl rfl
theorem dX7_village_26 : decode cX7_village 26 = .ok (.iaload, 1) := D_46 yB_cX7_village rfl rfl
theorem dX7_village_27 : decode cX7_village 27 = .ok (.ireturn, 1) := D_172 yB_cX7_village rfl rfl
theorem dX7_village_28 : decode cX7_village 28 = .ok (.iload_n 2, 1) := D_28 yB_cX7_village rfl rfl
theorem dX7_village_29 : decode cX7_village 29 = .ok (.iconst 1, 1) := D_4 yB_cX7_village rfl rfl
theorem dX7_village_30 : decode cX7_village 30 = .ok (.if_icmp .ne 16, 3) := D_160 yB_cX7_village rfl rfl (sg_p (m := 32768) (N := 16) rfl rfl rfl)
theorem dX7_village_33 : decode cX7_village 33 = .ok (.aload_n 0, 1) := D_42 yB_cX7_village rfl rfl
theorem dX7_village_34 : decode cX7_village 34 = .ok (.getfield 12, 3) := D_180 yB_cX7_village rfl rfl rfl
theorem dX7_village_37 : decode cX7_village 37 = .ok (.getfield 70, 3) := D_180 yB_cX7_village rfl rfl rfl
theorem dX7_village_40 : decode cX7_village 40 = .ok (.getfield 124, 3) := D_180 yB_cX7_village rfl rfl rfl
theorem dX7_village_43 : decode cX7_village 43 = .ok (.iload_n 1, 1) := D_27 yB_cX7_village rfl rfl
theorem dX7_village_44 : decode cX7_village 44 = .ok (.iaload, 1) := D_46 yB_cX7_village rfl rfl
theorem dX7_village_45 : decode cX7_village 45 = .ok (.ireturn, 1) := D_172 yB_cX7_village rfl rfl
theorem dX7_village_46 : decode cX7_village 46 = .ok (.iconst (-1), 1) := D_2 yB_cX7_village rfl rfl
theorem dX7_village_47 : decode cX7_village 47 = .ok (.ireturn, 1) := D_172 yB_cX7_village rfl rfl
def F_X7_village (σ : Mem) (x1 : Int32) (x2 : Int32) : Option (Int32) := if x1 < 0 then (some (-1)) else (if x1 < 3 then (if x2 = 0 then ((ix 3 x1).bind fun k_6 => some (σ 11 k_6)) else (if x2 = 1 then ((ix 3 x1).bind fun k_5 => some (σ 12 k_5)) else (some (-1)))) else (some (-1)))
set_option maxHeartbeats 4000000 in
set_option maxRecDepth 100000 in
theorem c_X7_village (l : Launch) (D : va_G) (cA : Nat → ClassId) (ad : Nat → Nat) (o : Int64) (σ : Mem) (x1 : Int32) (x2 : Int32)  (res : Int32) (h : F_X7_village σ x1 x2 = some res) (sz : Nat) : Met l yX7_village (WY yX7_village cX7_village 3 (some .int)) (RM 0) (va_Pc [.ref (ad 66), .int x1, .int x2] (PW D cA ad o σ sz)) (va_Qi (fun r σ9 => r = res ∧ σ9 = σ) (QW D cA ad o) (FA ad sz)) 0 0 (FA ad sz) := by
  refine ct_of (own := RX7) (k := 0) (Qf := va_Qi (fun r σ9 => r = res ∧ σ9 = σ) (QW D cA ad o)) rfl (by decide) (Nat.le_of_ble_eq_true rfl) (fun p e s m below meth c ls C0 X hr hlk hP hl => ?_) sz
  have hS : va_S (FA ad s.heap.size) s.heap s.heap [] := va_S.rf
  have hl : lv_has ls 3 [(0, .ref (ad 66)), (1, .int x1), (2, .int x2)] := hl
  obtain ⟨hx, hb, hml, hown, hts⟩ := id C0
  unfold F_X7_village at h
  refine lv_iload_n hx hb dX7_village_0 rfl (lv_at hl 1 rfl) ?_
  refine lv_if_lt (tgt := 9) hx hb dX7_village_1 (by decide) (fun c_1 => ?_) (fun c_1 => ?_)
  · replace h := it_t h c_1
    refine lv_iconst (v := (-1)) hx hb dX7_village_9 (by decide) ?_
    exact r_iret C0 X hP hS hr hlk dX7_village_10 ⟨Option.some.inj h, rfl⟩
  · replace h := it_f h c_1
    refine lv_iload_n hx hb dX7_village_4 rfl (lv_at hl 1 rfl) ?_
    refine lv_iconst (v := 3) hx hb dX7_village_5 (by decide) ?_
    refine lv_icmp_lt (tgt := 11) hx hb dX7_village_6 (by decide) (fun c_2 => ?_) (fun c_2 => ?_)
    · replace h := it_t h c_2
      refine lv_iload_n hx hb dX7_village_11 rfl (lv_at hl 2 rfl) ?_
      refine lv_if_ne (tgt := 28) hx hb dX7_village_12 (by decide) (fun c_3 => ?_) (fun c_3 => ?_)
      · replace h := it_f h c_3
        refine lv_iload_n hx hb dX7_village_28 rfl (lv_at hl 2 rfl) ?_
        refine lv_iconst (v := 1) hx hb dX7_village_29 (by decide) ?_
        refine lv_icmp_ne (tgt := 46) hx hb dX7_village_30 (by decide) (fun c_4 => ?_) (fun c_4 => ?_)
        · replace h := it_f h c_4
          refine lv_iconst (v := (-1)) hx hb dX7_village_46 (by decide) ?_
          exact r_iret C0 X hP hS hr hlk dX7_village_47 ⟨Option.some.inj h, rfl⟩
        · replace h := it_t h c_4
          refine lv_aload_n hx hb dX7_village_33 rfl (lv_at hl 0 rfl) ?_
          refine gf_X7_12 C0 X hP 66 (q := 0) ⟨by decide, rfl⟩ (by omega) rfl dX7_village_34 ?_
          refine gf_X7_70 C0 X hP 0 (q := 1) ⟨by decide, rfl⟩ (by omega) rfl dX7_village_37 ?_
          refine gf_X7_124 C0 X hP 1 (q := 12) ⟨by decide, rfl⟩ (by omega) rfl dX7_village_40 ?_
          refine lv_iload_n hx hb dX7_village_43 rfl (lv_at hl 1 rfl) ?_
          obtain ⟨k_5, ek_5, h⟩ := bnd h
          replace ek_5 := ix_s ek_5 (by decide)
          refine r_ialdN C0 X hP 12 (k := k_5) ⟨by decide, rfl⟩ ek_5.1 ek_5.2 dX7_village_44 ?_
          exact r_iret C0 X hP hS hr hlk dX7_village_45 ⟨Option.some.inj h, rfl⟩
      · replace h := it_t h c_3
        refine lv_aload_n hx hb dX7_village_15 rfl (lv_at hl 0 rfl) ?_
        refine gf_X7_12 C0 X hP 66 (q := 0) ⟨by decide, rfl⟩ (by omega) rfl dX7_village_16 ?_
        refine gf_X7_70 C0 X hP 0 (q := 1) ⟨by decide, rfl⟩ (by omega) rfl dX7_village_19 ?_
        refine gf_X7_121 C0 X hP 1 (q := 11) ⟨by decide, rfl⟩ (by omega) rfl dX7_village_22 ?_
        refine lv_iload_n hx hb dX7_village_25 rfl (lv_at hl 1 rfl) ?_
        obtain ⟨k_6, ek_6, h⟩ := bnd h
        replace ek_6 := ix_s ek_6 (by decide)
        refine r_ialdN C0 X hP 11 (k := k_6) ⟨by decide, rfl⟩ ek_6.1 ek_6.2 dX7_village_26 ?_
        exact r_iret C0 X hP hS hr hlk dX7_village_27 ⟨Option.some.inj h, rfl⟩
    · replace h := it_f h c_2
      refine lv_iconst (v := (-1)) hx hb dX7_village_9 (by decide) ?_
      exact r_iret C0 X hP hS hr hlk dX7_village_10 ⟨Option.some.inj h, rfl⟩
def bB_cX7_rule : Nat := 0xac7f00b42d578300b68100b42d7f00b42d1c4600b40c00b42aacf41006009f043600b42dacf51006009a3600b42dac020500a1061c08009b1c0c00c62d4e3200b61b2a
theorem yB_cX7_rule : BYS cX7_rule 67 bB_cX7_rule := BYS_of (by decide +kernel)
theorem dX7_rule_0 : decode cX7_rule 0 = .ok (.aload_n 0, 1) := D_42 yB_cX7_rule rfl rfl
theorem dX7_rule_1 : decode cX7_rule 1 = .ok (.iload_n 1, 1) := D_27 yB_cX7_rule rfl rfl
theorem dX7_rule_2 : decode cX7_rule 2 = .ok (.invokevirtual 50, 3) := D_182 yB_cX7_rule rfl rfl rfl
theorem dX7_rule_5 : decode cX7_rule 5 = .ok (.astore_n 3, 1) := D_78 yB_cX7_rule rfl rfl
theorem dX7_rule_6 : decode cX7_rule 6 = .ok (.aload_n 3, 1) := D_45 yB_cX7_rule rfl rfl
theorem dX7_rule_7 : decode cX7_rule 7 = .ok (.ifnull 12, 3) := D_198 yB_cX7_rule rfl rfl (sg_p (m := 32768) (N := 12) rfl rfl rfl)
theorem dX7_rule_10 : decode cX7_rule 10 = .ok (.iload_n 2, 1) := D_28 yB_cX7_rule rfl rfl
theorem dX7_rule_11 : decode cX7_rule 11 = .ok (.ifCond .lt 8, 3) := D_155 yB_cX7_rule rfl rfl (sg_p (m := 32768) (N := 8) rfl rfl rfl)
theorem dX7_rule_14 : decode cX7_rule 14 = .ok (.iload_n 2, 1) := D_28 yB_cX7_rule rfl rfl
theorem dX7_rule_15 : decode cX7_rule 15 = .ok (.iconst 3, 1) := D_6 yB_cX7_rule rfl rfl
theorem dX7_rule_16 : decode cX7_rule 16 = .ok (.if_icmp .lt 5, 3) := D_161 yB_cX7_rule rfl rfl (sg_p (m := 32768) (N := 5) rfl rfl rfl)
theorem dX7_rule_19 : decode cX7_rule 19 = .ok (.iconst (-1), 1) := D_2 yB_cX7_rule rfl rfl
theorem dX7_rule_20 : decode cX7_rule 20 = .ok (.ireturn, 1) := D_172 yB_cX7_rule rfl rfl
theorem dX7_rule_21 : decode cX7_rule 21 = .ok (.aload_n 3, 1) := D_45 yB_cX7_rule rfl rfl
theorem dX7_rule_22 : decode cX7_rule 22 = .ok (.getfield 54, 3) := D_180 yB_cX7_rule rfl rfl rfl
theorem dX7_rule_25 : decode cX7_rule 25 = .ok (.ifCond .ne 6, 3) := D_154 yB_cX7_rule rfl rfl (sg_p (m := 32768) (N := 6) rfl rfl rfl)
theorem dX7_rule_28 : decode cX7_rule 28 = .ok (.bipush (-11), 2) := D_16 yB_cX7_rule rfl rfl (sg_n (m := 128) (N := 11) rfl rfl rfl)
theorem dX7_rule_30 : decode cX7_rule 30 = .ok (.ireturn, 1) := D_172 yB_cX7_rule rfl rfl
theorem dX7_rule_31 : decode cX7_rule 31 = .ok (.aload_n 3, 1) := D_45 yB_cX7_rule rfl rfl
theorem dX7_rule_32 : decode cX7_rule 32 = .ok (.getfield 54, 3) := D_180 yB_cX7_rule rfl rfl rfl
theorem dX7_rule_35 : decode cX7_rule 35 = .ok (.iconst 1, 1) := D_4 yB_cX7_rule rfl rfl
theorem dX7_rule_36 : decode cX7_rule 36 = .ok (.if_icmp .eq 6, 3) := D_159 yB_cX7_rule rfl rfl (sg_p (m := 32768) (N := 6) rfl rfl rfl)
theorem dX7_rule_39 : decode cX7_rule 39 = .ok (.bipush (-12), 2) := D_16 yB_cX7_rule rfl rfl (sg_n (m := 128) (N := 12) rfl rfl rfl)
theorem dX7_rule_41 : decode cX7_rule 41 = .ok (.ireturn, 1) := D_172 yB_cX7_rule rfl rfl
theorem dX7_rule_42 : decode cX7_rule 42 = .ok (.aload_n 0, 1) := D_42 yB_cX7_rule rfl rfl
theorem dX7_rule_43 : decode cX7_rule 43 = .ok (.getfield 12, 3) := D_180 yB_cX7_rule rfl rfl rfl
theorem dX7_rule_46 : decode cX7_rule 46 = .ok (.getfield 70, 3) := D_180 yB_cX7_rule rfl rfl rfl
theorem dX7_rule_49 : decode cX7_rule 49 = .ok (.iload_n 2, 1) := D_28 yB_cX7_rule rfl rfl
theorem dX7_rule_50 : decode cX7_rule 50 = .ok (.aload_n 3, 1) := D_45 yB_cX7_rule rfl rfl
theorem dX7_rule_51 : decode cX7_rule 51 = .ok (.getfield 127, 3) := D_180 yB_cX7_rule rfl rfl rfl
theorem dX7_rule_54 : decode cX7_rule 54 = .ok (.aload_n 3, 1) := D_45 yB_cX7_rule rfl rfl
theorem dX7_rule_55 : decode cX7_rule 55 = .ok (.getfield 129, 3) := D_180 yB_cX7_rule rfl rfl rfl
theorem dX7_rule_58 : decode cX7_rule 58 = .ok (.invokevirtual 131, 3) := D_182 yB_cX7_rule rfl rfl rfl
theorem dX7_rule_61 : decode cX7_rule 61 = .ok (.pop, 1) := D_87 yB_cX7_rule rfl rfl
theorem dX7_rule_62 : decode cX7_rule 62 = .ok (.aload_n 3, 1) := D_45 yB_cX7_rule rfl rfl
theorem dX7_rule_63 : decode cX7_rule 63 = .ok (.getfield 127, 3) := D_180 yB_cX7_rule rfl rfl rfl
theorem dX7_rule_66 : decode cX7_rule 66 = .ok (.ireturn, 1) := D_172 yB_cX7_rule rfl rfl
def F_X7_rule (σ : Mem) (x1 : Int32) (x2 : Int32) : Option (Mem × Int32) := if x1 < 0 ∨ 8 ≤ x1 then (some (σ, (-1))) else ((ix 8 x1).bind fun j_1 => if x2 < 0 then (some (σ, (-1))) else (if x2 < 3 then (if (σ (68 + j_1) 0) = 0 then (some (σ, (-11))) else (if (σ (68 + j_1) 0) = 1 then (bd2 (F_X4_tellRule σ 0 x2 (σ (68 + j_1) 1) (σ (68 + j_1) 2)) fun σ_6 r_7 => some (σ_6, (σ_6 (68 + j_1) 1))) else (some (σ, (-12))))) else (some (σ, (-1)))))
set_option maxHeartbeats 4000000 in
set_option maxRecDepth 100000 in
theorem c_X7_rule (l : Launch) (D : va_G) (cA : Nat → ClassId) (ad : Nat → Nat) (o : Int64) (σ : Mem) (x1 : Int32) (x2 : Int32)  (res : Mem × Int32) (h : F_X7_rule σ x1 x2 = some res) (sz : Nat) : Met l yX7_rule (WY yX7_rule cX7_rule 4 (some .int)) (RM 1) (va_Pc [.ref (ad 66), .int x1, .int x2] (PW D cA ad o σ sz)) (va_Qi (fun r σ9 => r = res.2 ∧ σ9 = res.1) (QW D cA ad o) (FA ad sz)) 0 0 (FA ad sz) := by
  refine ct_of (own := RX7) (k := 1) (Qf := va_Qi (fun r σ9 => r = res.2 ∧ σ9 = res.1) (QW D cA ad o)) rfl (by decide) (Nat.le_of_ble_eq_true rfl) (fun p e s m below meth c ls C0 X hr hlk hP hl => ?_) sz
  have hS : va_S (FA ad s.heap.size) s.heap s.heap [] := va_S.rf
  have hl : lv_has ls 4 [(0, .ref (ad 66)), (1, .int x1), (2, .int x2)] := hl
  obtain ⟨hx, hb, hml, hown, hts⟩ := id C0
  unfold F_X7_rule at h
  refine lv_aload_n hx hb dX7_rule_0 rfl (lv_at hl 0 rfl) ?_
  refine lv_iload_n hx hb dX7_rule_1 rfl (lv_at hl 1 rfl) ?_
  refine r_cq X hS (r_runV (As := [.int x1]) (rest := []) C0 X hP L_X7_50 (fun sz => c_X7_shelfAt l D cA ad o σ x1 sz) (show 66 < 106 ∧ kd 66 = (7, 8) from ⟨by decide, rfl⟩).1 (show 66 < 106 ∧ kd 66 = (7, 8) from ⟨by decide, rfl⟩).2 (by decide) rfl ⟨Nat.le_of_ble_eq_true rfl, Nat.le_of_ble_eq_true rfl⟩ rfl hl.1 rfl (Nat.le_of_ble_eq_true rfl) dX7_rule_2 ⟨Nat.zero_le _, Nat.zero_le _⟩) (fun σ9 H locs hw hP hS => ?_) (fun x9 σ9 H locs hw hP hS => ?_)
  · rw [hw.1] at hP
    replace h := it_t h hw.2
    refine lv_astore_nN (lv' := [(3, .null), (0, .ref (ad 66)), (1, .int x1), (2, .int x2)]) hx hb dX7_rule_5 rfl hl (by decide) rfl (fun ls hl => ?_)
    refine lv_aload_nN hx hb dX7_rule_6 rfl (lv_at hl 0 rfl) ?_
    refine lv_ifnullN (tgt := 19) hx hb dX7_rule_7 (by decide) ?_
    refine lv_iconst (v := (-1)) hx hb dX7_rule_19 (by decide) ?_
    exact r_iret C0 X hP hS hr hlk dX7_rule_20 (rt2 h)
  · rw [hw.1] at hP
    obtain ⟨-, j_1, hj_1, ej_1, rfl⟩ := hw
    replace h := it_f h (by rw [ej_1]; exact nosh hj_1)
    obtain ⟨k9, ek9, h⟩ := bnd h
    replace ek9 := ix_s ek9 (by decide)
    obtain rfl : j_1 = k9 := nI_inj (ej_1.symm.trans ek9.1) (by omega) (by have := ek9.2; omega)
    refine lv_astore_n (lv' := [(3, .ref (ad (68 + j_1))), (0, .ref (ad 66)), (1, .int x1), (2, .int x2)]) hx hb dX7_rule_5 rfl hl (by decide) rfl (fun ls hl => ?_)
    refine lv_aload_n hx hb dX7_rule_6 rfl (lv_at hl 0 rfl) ?_
    refine lv_ifnull hx hb dX7_rule_7 ?_
    refine lv_iload_n hx hb dX7_rule_10 rfl (lv_at hl 3 rfl) ?_
    refine lv_if_lt (tgt := 19) hx hb dX7_rule_11 (by decide) (fun c_2 => ?_) (fun c_2 => ?_)
    · replace h := it_t h c_2
      refine lv_iconst (v := (-1)) hx hb dX7_rule_19 (by decide) ?_
      exact r_iret C0 X hP hS hr hlk dX7_rule_20 (rt2 h)
    · replace h := it_f h c_2
      refine lv_iload_n hx hb dX7_rule_14 rfl (lv_at hl 3 rfl) ?_
      refine lv_iconst (v := 3) hx hb dX7_rule_15 (by decide) ?_
      refine lv_icmp_lt (tgt := 21) hx hb dX7_rule_16 (by decide) (fun c_3 => ?_) (fun c_3 => ?_)
      · replace h := it_t h c_3
        refine lv_aload_n hx hb dX7_rule_21 rfl (lv_at hl 0 rfl) ?_
        refine gf_X7_54 C0 X hP (68 + j_1) (kdS j_1 hj_1) dX7_rule_22 ?_
        refine lv_if_ne (tgt := 31) hx hb dX7_rule_25 (by decide) (fun c_4 => ?_) (fun c_4 => ?_)
        · replace h := it_f h c_4
          refine lv_aload_n hx hb dX7_rule_31 rfl (lv_at hl 0 rfl) ?_
          refine gf_X7_54 C0 X hP (68 + j_1) (kdS j_1 hj_1) dX7_rule_32 ?_
          refine lv_iconst (v := 1) hx hb dX7_rule_35 (by decide) ?_
          refine lv_icmp_eq (tgt := 42) hx hb dX7_rule_36 (by decide) (fun c_5 => ?_) (fun c_5 => ?_)
          · replace h := it_t h c_5
            refine lv_aload_n hx hb dX7_rule_42 rfl (lv_at hl 1 rfl) ?_
            refine gf_X7_12 C0 X hP 66 (q := 0) ⟨by decide, rfl⟩ (by omega) rfl dX7_rule_43 ?_
            refine gf_X7_70 C0 X hP 0 (q := 1) ⟨by decide, rfl⟩ (by omega) rfl dX7_rule_46 ?_
            refine lv_iload_n hx hb dX7_rule_49 rfl (lv_at hl 3 rfl) ?_
            refine lv_aload_n hx hb dX7_rule_50 rfl (lv_at hl 0 rfl) ?_
            refine gf_X7_127 C0 X hP (68 + j_1) (kdS j_1 hj_1) dX7_rule_51 ?_
            refine lv_aload_n hx hb dX7_rule_54 rfl (lv_at hl 0 rfl) ?_
            refine gf_X7_129 C0 X hP (68 + j_1) (kdS j_1 hj_1) dX7_rule_55 ?_
            obtain ⟨σ_6, r_7, eσ_6, h⟩ := bnd2 h
            refine r_ci X hS (r_runV (As := [.int x2, .int (σ (68 + j_1) 1), .int (σ (68 + j_1) 2)]) (rest := []) C0 X hP L_X7_131 (fun sz => c_X4_tellRule l D cA ad o σ 0 x2 (σ (68 + j_1) 1) (σ (68 + j_1) 2) (by decide) (σ_6, r_7) eσ_6 sz) (show 1 < 106 ∧ kd 1 = (4, 13) from ⟨by decide, rfl⟩).1 (show 1 < 106 ∧ kd 1 = (4, 13) from ⟨by decide, rfl⟩).2 (by decide) rfl ⟨Nat.le_of_ble_eq_true rfl, Nat.le_of_ble_eq_true rfl⟩ rfl hl.1 rfl (Nat.le_of_ble_eq_true rfl) dX7_rule_58 ⟨Nat.zero_le _, Nat.zero_le _⟩) (fun r9 σ9 H locs hw hP hS => ?_)
            rw [show σ9 = σ_6 from hw.2] at hP
            rw [show r9 = r_7 from hw.1]
            refine lv_pop hx hb dX7_rule_61 rfl ?_
            refine lv_aload_n hx hb dX7_rule_62 rfl (lv_at hl 0 rfl) ?_
            refine gf_X7_127 C0 X hP (68 + j_1) (kdS j_1 hj_1) dX7_rule_63 ?_
            exact r_iret C0 X hP hS hr hlk dX7_rule_66 (rt2 h)
          · replace h := it_f h c_5
            refine lv_bipush (v := (-12)) hx hb dX7_rule_39 (by decide) ?_
            exact r_iret C0 X hP hS hr hlk dX7_rule_41 (rt2 h)
        · replace h := it_t h c_4
          refine lv_bipush (v := (-11)) hx hb dX7_rule_28 (by decide) ?_
          exact r_iret C0 X hP hS hr hlk dX7_rule_30 (rt2 h)
      · replace h := it_f h c_3
        refine lv_iconst (v := (-1)) hx hb dX7_rule_19 (by decide) ?_
        exact r_iret C0 X hP hS hr hlk dX7_rule_20 (rt2 h)
def bB_cX7_go : Nat := 0xac9000b40c00b42ae7ffa70102848d00b60c00b42a10009a8a00b60c00b42a1a00a21b1c3d03acfd100600998a00b60c00b42a0d009a8700b62aac020500a4c800111b0a00a1041b
theorem yB_cX7_go : BYS cX7_go 72 bB_cX7_go := BYS_of (by decide +kernel)
theorem dX7_go_0 : decode cX7_go 0 = .ok (.iload_n 1, 1) := D_27 yB_cX7_go rfl rfl
theorem dX7_go_1 : decode cX7_go 1 = .ok (.iconst 1, 1) := D_4 yB_cX7_go rfl rfl
theorem dX7_go_2 : decode cX7_go 2 = .ok (.if_icmp .lt 10, 3) := D_161 yB_cX7_go rfl rfl (sg_p (m := 32768) (N := 10) rfl rfl rfl)
theorem dX7_go_5 : decode cX7_go 5 = .ok (.iload_n 1, 1) := D_27 yB_cX7_go rfl rfl
theorem dX7_go_6 : decode cX7_go 6 = .ok (.sipush 200, 3) := D_17 yB_cX7_go rfl rfl (sg_p (m := 32768) (N := 200) rfl rfl rfl)
theorem dX7_go_9 : decode cX7_go 9 = .ok (.if_icmp .le 5, 3) := D_164 yB_cX7_go rfl rfl (sg_p (m := 32768) (N := 5) rfl rfl rfl)
theorem dX7_go_12 : decode cX7_go 12 = .ok (.iconst (-1), 1) := D_2 yB_cX7_go rfl rfl
theorem dX7_go_13 : decode cX7_go 13 = .ok (.ireturn, 1) := D_172 yB_cX7_go rfl rfl
theorem dX7_go_14 : decode cX7_go 14 = .ok (.aload_n 0, 1) := D_42 yB_cX7_go rfl rfl
theorem dX7_go_15 : decode cX7_go 15 = .ok (.invokevirtual 135, 3) := D_182 yB_cX7_go rfl rfl rfl
theorem dX7_go_18 : decode cX7_go 18 = .ok (.ifCond .ne 13, 3) := D_154 yB_cX7_go rfl rfl (sg_p (m := 32768) (N := 13) rfl rfl rfl)
theorem dX7_go_21 : decode cX7_go 21 = .ok (.aload_n 0, 1) := D_42 yB_cX7_go rfl rfl
theorem dX7_go_22 : decode cX7_go 22 = .ok (.getfield 12, 3) := D_180 yB_cX7_go rfl rfl rfl
theorem dX7_go_25 : decode cX7_go 25 = .ok (.invokevirtual 138, 3) := D_182 yB_cX7_go rfl rfl rfl
theorem dX7_go_28 : decode cX7_go 28 = .ok (.ifCond .eq 6, 3) := D_153 yB_cX7_go rfl rfl (sg_p (m := 32768) (N := 6) rfl rfl rfl)
theorem dX7_go_31 : decode cX7_go 31 = .ok (.bipush (-3), 2) := D_16 yB_cX7_go rfl rfl (sg_n (m := 128) (N := 3) rfl rfl rfl)
theorem dX7_go_33 : decode cX7_go 33 = .ok (.ireturn, 1) := D_172 yB_cX7_go rfl rfl
theorem dX7_go_34 : decode cX7_go 34 = .ok (.iconst 0, 1) := D_3 yB_cX7_go rfl rfl
theorem dX7_go_35 : decode cX7_go 35 = .ok (.istore_n 2, 1) := D_61 yB_cX7_go rfl rfl
theorem dX7_go_36 : decode cX7_go 36 = .ok (.iload_n 2, 1) := D_28 yB_cX7_go rfl rfl
theorem dX7_go_37 : decode cX7_go 37 = .ok (.iload_n 1, 1) := D_27 yB_cX7_go rfl rfl
theorem dX7_go_38 : decode cX7_go 38 = .ok (.if_icmp .ge 26, 3) := D_162 yB_cX7_go rfl rfl (sg_p (m := 32768) (N := 26) rfl rfl rfl)
theorem dX7_go_41 : decode cX7_go 41 = .ok (.aload_n 0, 1) := D_42 yB_cX7_go rfl rfl
theorem dX7_go_42 : decode cX7_go 42 = .ok (.getfield 12, 3) := D_180 yB_cX7_go rfl rfl rfl
theorem dX7_go_45 : decode cX7_go 45 = .ok (.invokevirtual 138, 3) := D_182 yB_cX7_go rfl rfl rfl
theorem dX7_go_48 : decode cX7_go 48 = .ok (.ifCond .ne 16, 3) := D_154 yB_cX7_go rfl rfl (sg_p (m := 32768) (N := 16) rfl rfl rfl)
theorem dX7_go_51 : decode cX7_go 51 = .ok (.aload_n 0, 1) := D_42 yB_cX7_go rfl rfl
theorem dX7_go_52 : decode cX7_go 52 = .ok (.getfield 12, 3) := D_180 yB_cX7_go rfl rfl rfl
theorem dX7_go_55 : decode cX7_go 55 = .ok (.invokevirtual 141, 3) := D_182 yB_cX7_go rfl rfl rfl
theorem dX7_go_58 : decode cX7_go 58 = .ok (.iinc 2 1, 3) := D_132 yB_cX7_go rfl rfl rfl (sg_p (m := 128) (N := 1) rfl rfl rfl)
theorem dX7_go_61 : decode cX7_go 61 = .ok (.goto (-25), 3) := D_167 yB_cX7_go rfl rfl (sg_n (m := 32768) (N := 25) rfl rfl rfl)
theorem dX7_go_64 : decode cX7_go 64 = .ok (.aload_n 0, 1) := D_42 yB_cX7_go rfl rfl
theorem dX7_go_65 : decode cX7_go 65 = .ok (.getfield 12, 3) := D_180 yB_cX7_go rfl rfl rfl
theorem dX7_go_68 : decode cX7_go 68 = .ok (.getfield 144, 3) := D_180 yB_cX7_go rfl rfl rfl
theorem dX7_go_71 : decode cX7_go 71 = .ok (.ireturn, 1) := D_172 yB_cX7_go rfl rfl
def F_X7_go_36 (x1 : Int32)  : Nat → Mem → Int32 → Option (Mem × Int32)
  | 0, _, _ => none
  | nn + 1, σ, v2 => if x1 ≤ v2 then (some (σ, (σ 0 3))) else ((F_X6_isEnded σ 0).bind fun r_9 => if r_9 = 0 then ((F_X6_passMinute σ 0).bind fun σ_11 => F_X7_go_36 x1 nn σ_11 (v2 + 1)) else (some (σ, (σ 0 3))))
def F_X7_go (σ : Mem) (x1 : Int32) : Option (Mem × Int32) := if x1 < 1 then (some (σ, (-1))) else (if x1 ≤ 200 then ((F_X7_cannotRun σ ).bind fun r_3 => if r_3 = 0 then ((F_X6_isEnded σ 0).bind fun r_5 => if r_5 = 0 then (F_X7_go_36 x1 FU σ 0) else (some (σ, (-3)))) else (some (σ, (-3)))) else (some (σ, (-1))))
set_option maxHeartbeats 4000000 in
set_option maxRecDepth 100000 in
theorem c_X7_go (l : Launch) (D : va_G) (cA : Nat → ClassId) (ad : Nat → Nat) (o : Int64) (σ : Mem) (x1 : Int32)  (res : Mem × Int32) (h : F_X7_go σ x1 = some res) (sz : Nat) : Met l yX7_go (WY yX7_go cX7_go 3 (some .int)) (RM 5) (va_Pc [.ref (ad 66), .int x1] (PW D cA ad o σ sz)) (va_Qi (fun r σ9 => r = res.2 ∧ σ9 = res.1) (QW D cA ad o) (FA ad sz)) 0 0 (FA ad sz) := by
  refine ct_of (own := RX7) (k := 5) (Qf := va_Qi (fun r σ9 => r = res.2 ∧ σ9 = res.1) (QW D cA ad o)) rfl (by decide) (Nat.le_of_ble_eq_true rfl) (fun p e s m below meth c ls C0 X hr hlk hP hl => ?_) sz
  have hS : va_S (FA ad s.heap.size) s.heap s.heap [] := va_S.rf
  have hl : lv_has ls 3 [(0, .ref (ad 66)), (1, .int x1)] := hl
  obtain ⟨hx, hb, hml, hown, hts⟩ := id C0
  unfold F_X7_go at h
  refine lv_iload_n hx hb dX7_go_0 rfl (lv_at hl 1 rfl) ?_
  refine lv_iconst (v := 1) hx hb dX7_go_1 (by decide) ?_
  refine lv_icmp_lt (tgt := 12) hx hb dX7_go_2 (by decide) (fun c_1 => ?_) (fun c_1 => ?_)
  · replace h := it_t h c_1
    refine lv_iconst (v := (-1)) hx hb dX7_go_12 (by decide) ?_
    exact r_iret C0 X hP hS hr hlk dX7_go_13 (rt2 h)
  · replace h := it_f h c_1
    refine lv_iload_n hx hb dX7_go_5 rfl (lv_at hl 1 rfl) ?_
    refine lv_sipush (v := 200) hx hb dX7_go_6 (by decide) ?_
    refine lv_icmp_le (tgt := 14) hx hb dX7_go_9 (by decide) (fun c_2 => ?_) (fun c_2 => ?_)
    · replace h := it_t h c_2
      refine lv_aload_n hx hb dX7_go_14 rfl (lv_at hl 0 rfl) ?_
      obtain ⟨r_3, er_3, h⟩ := bnd h
      refine r_ci X hS (r_runV (As := []) (rest := []) C0 X hP L_X7_135 (fun sz => c_X7_cannotRun l D cA ad o σ   r_3 er_3 sz) (show 66 < 106 ∧ kd 66 = (7, 8) from ⟨by decide, rfl⟩).1 (show 66 < 106 ∧ kd 66 = (7, 8) from ⟨by decide, rfl⟩).2 (by decide) rfl ⟨Nat.le_of_ble_eq_true rfl, Nat.le_of_ble_eq_true rfl⟩ rfl hl.1 rfl (Nat.le_of_ble_eq_true rfl) dX7_go_15 ⟨Nat.zero_le _, Nat.zero_le _⟩) (fun r9 σ9 H locs hw hP hS => ?_)
      rw [hw.2] at hP
      rw [hw.1]
      refine lv_if_ne (tgt := 31) hx hb dX7_go_18 (by decide) (fun c_4 => ?_) (fun c_4 => ?_)
      · replace h := it_f h c_4
        refine lv_bipush (v := (-3)) hx hb dX7_go_31 (by decide) ?_
        exact r_iret C0 X hP hS hr hlk dX7_go_33 (rt2 h)
      · replace h := it_t h c_4
        refine lv_aload_n hx hb dX7_go_21 rfl (lv_at hl 0 rfl) ?_
        refine gf_X7_12 C0 X hP 66 (q := 0) ⟨by decide, rfl⟩ (by omega) rfl dX7_go_22 ?_
        obtain ⟨r_5, er_5, h⟩ := bnd h
        refine r_ci X hS (r_runV (As := []) (rest := []) C0 X hP L_X7_138 (fun sz => c_X6_isEnded l D cA ad o σ 0 (by decide) r_5 er_5 sz) (show 0 < 106 ∧ kd 0 = (6, 11) from ⟨by decide, rfl⟩).1 (show 0 < 106 ∧ kd 0 = (6, 11) from ⟨by decide, rfl⟩).2 (by decide) rfl ⟨Nat.le_of_ble_eq_true rfl, Nat.le_of_ble_eq_true rfl⟩ rfl hl.1 rfl (Nat.le_of_ble_eq_true rfl) dX7_go_25 ⟨Nat.zero_le _, Nat.zero_le _⟩) (fun r9 σ9 H locs hw hP hS => ?_)
        rw [hw.2] at hP
        rw [hw.1]
        refine lv_if_eq (tgt := 34) hx hb dX7_go_28 (by decide) (fun c_6 => ?_) (fun c_6 => ?_)
        · replace h := it_t h c_6
          refine lv_iconst (v := 0) hx hb dX7_go_34 (by decide) ?_
          refine lv_istore_n (lv' := [(2, .int 0), (0, .ref (ad 66)), (1, .int x1)]) hx hb dX7_go_35 rfl hl (by decide) rfl (fun ls hl => ?_)
          have lp_7 : ∀ (nn36 : Nat) (σ : Mem) (v2 : Int32) (H : Heap) (locs : List Loc) (ls : Array Slot), F_X7_go_36 x1 nn36 σ v2 = some res → WP D cA ad o σ H → va_S (FA ad s.heap.size) s.heap H locs → lv_has ls 3 [(2, .int v2), (0, .ref (ad 66)), (1, .int x1)] → W p l e (RM 5) s m ([.ref (ad 66), .int x1] : List Value).toArray below meth c H locs 0 0 (MQ below (va_Qi (fun r σ9 => r = res.2 ∧ σ9 = res.1) (QW D cA ad o) (FA ad s.heap.size)) ([.ref (ad 66), .int x1] : List Value).toArray s 0 0 (FA ad s.heap.size)) (F0 m 36 ls []) := by
            intro nn36
            induction nn36 with
            | zero => intro σ v2 H locs ls h hP hS hl; exact absurd (show none = some res from h) nofun
            | succ nn36 ih36 =>
              intro σ v2 H locs ls h hP hS hl
              replace h := (F_X7_go_36.eq_2 _ _ _ _).symm.trans h
              refine lv_iload_n hx hb dX7_go_36 rfl (lv_at hl 0 rfl) ?_
              refine lv_iload_n hx hb dX7_go_37 rfl (lv_at hl 2 rfl) ?_
              refine lv_icmp_ge (tgt := 64) hx hb dX7_go_38 (by decide) (fun c_8 => ?_) (fun c_8 => ?_)
              · replace h := it_t h c_8
                refine lv_aload_n hx hb dX7_go_64 rfl (lv_at hl 1 rfl) ?_
                refine gf_X7_12 C0 X hP 66 (q := 0) ⟨by decide, rfl⟩ (by omega) rfl dX7_go_65 ?_
                refine gf_X7_144 C0 X hP 0 ⟨by decide, rfl⟩ dX7_go_68 ?_
                exact r_iret C0 X hP hS hr hlk dX7_go_71 (rt2 h)
              · replace h := it_f h c_8
                refine lv_aload_n hx hb dX7_go_41 rfl (lv_at hl 1 rfl) ?_
                refine gf_X7_12 C0 X hP 66 (q := 0) ⟨by decide, rfl⟩ (by omega) rfl dX7_go_42 ?_
                obtain ⟨r_9, er_9, h⟩ := bnd h
                refine r_ci X hS (r_runV (As := []) (rest := []) C0 X hP L_X7_138 (fun sz => c_X6_isEnded l D cA ad o σ 0 (by decide) r_9 er_9 sz) (show 0 < 106 ∧ kd 0 = (6, 11) from ⟨by decide, rfl⟩).1 (show 0 < 106 ∧ kd 0 = (6, 11) from ⟨by decide, rfl⟩).2 (by decide) rfl ⟨Nat.le_of_ble_eq_true rfl, Nat.le_of_ble_eq_true rfl⟩ rfl hl.1 rfl (Nat.le_of_ble_eq_true rfl) dX7_go_45 ⟨Nat.zero_le _, Nat.zero_le _⟩) (fun r9 σ9 H locs hw hP hS => ?_)
                rw [hw.2] at hP
                rw [hw.1]
                refine lv_if_ne (tgt := 64) hx hb dX7_go_48 (by decide) (fun c_10 => ?_) (fun c_10 => ?_)
                · replace h := it_f h c_10
                  refine lv_aload_n hx hb dX7_go_64 rfl (lv_at hl 1 rfl) ?_
                  refine gf_X7_12 C0 X hP 66 (q := 0) ⟨by decide, rfl⟩ (by omega) rfl dX7_go_65 ?_
                  refine gf_X7_144 C0 X hP 0 ⟨by decide, rfl⟩ dX7_go_68 ?_
                  exact r_iret C0 X hP hS hr hlk dX7_go_71 (rt2 h)
                · replace h := it_t h c_10
                  refine lv_aload_n hx hb dX7_go_51 rfl (lv_at hl 1 rfl) ?_
                  refine gf_X7_12 C0 X hP 66 (q := 0) ⟨by decide, rfl⟩ (by omega) rfl dX7_go_52 ?_
                  obtain ⟨σ_11, eσ_11, h⟩ := bnd h
                  refine r_cv X hS (r_runV (As := []) (rest := []) C0 X hP L_X7_141 (fun sz => c_X6_passMinute l D cA ad o σ 0 (by decide) σ_11 eσ_11 sz) (show 0 < 106 ∧ kd 0 = (6, 11) from ⟨by decide, rfl⟩).1 (show 0 < 106 ∧ kd 0 = (6, 11) from ⟨by decide, rfl⟩).2 (by decide) rfl ⟨Nat.le_of_ble_eq_true rfl, Nat.le_of_ble_eq_true rfl⟩ rfl hl.1 rfl (Nat.le_of_ble_eq_true rfl) dX7_go_55 ⟨Nat.zero_le _, Nat.zero_le _⟩) (fun σ9 H locs hw hP hS => ?_)
                  rw [show σ9 = σ_11 from hw] at hP
                  refine lv_iinc (v := (v2 + 1)) (lv' := [(2, .int (v2 + 1)), (0, .ref (ad 66)), (1, .int x1)]) hx hb dX7_go_58 hl (k := 0) rfl rfl (by decide) rfl (fun ls hl => ?_)
                  refine lv_goto (tgt := 36) hx hb dX7_go_61 (by decide) ?_
                  exact ih36 σ_11 (v2 + 1) _ _ ls  h hP hS (lv_sub hl [0, 1, 2] rfl)
          exact lp_7 FU σ 0 _ _ ls  h hP hS (lv_sub hl [0, 1, 2] rfl)
        · replace h := it_f h c_6
          refine lv_bipush (v := (-3)) hx hb dX7_go_31 (by decide) ?_
          exact r_iret C0 X hP hS hr hlk dX7_go_33 (rt2 h)
    · replace h := it_f h c_2
      refine lv_iconst (v := (-1)) hx hb dX7_go_12 (by decide) ?_
      exact r_iret C0 X hP hS hr hlk dX7_go_13 (rt2 h)
def bB_cX7_anew : Nat := 0xac9600b40c00b42a9300b60c00b42a
theorem yB_cX7_anew : BYS cX7_anew 15 bB_cX7_anew := BYS_of (by decide +kernel)
theorem dX7_anew_0 : decode cX7_anew 0 = .ok (.aload_n 0, 1) := D_42 yB_cX7_anew rfl rfl
theorem dX7_anew_1 : decode cX7_anew 1 = .ok (.getfield 12, 3) := D_180 yB_cX7_anew rfl rfl rfl
theorem dX7_anew_4 : decode cX7_anew 4 = .ok (.invokevirtual 147, 3) := D_182 yB_cX7_anew rfl rfl rfl
theorem dX7_anew_7 : decode cX7_anew 7 = .ok (.aload_n 0, 1) := D_42 yB_cX7_anew rfl rfl
theorem dX7_anew_8 : decode cX7_anew 8 = .ok (.getfield 12, 3) := D_180 yB_cX7_anew rfl rfl rfl
theorem dX7_anew_11 : decode cX7_anew 11 = .ok (.getfield 150, 3) := D_180 yB_cX7_anew rfl rfl rfl
theorem dX7_anew_14 : decode cX7_anew 14 = .ok (.ireturn, 1) := D_172 yB_cX7_anew rfl rfl
def F_X7_anew (σ : Mem)  : Option (Mem × Int32) := some ((tbeg σ 0), ((tbeg σ 0) 0 2))
set_option maxHeartbeats 4000000 in
set_option maxRecDepth 100000 in
theorem c_X7_anew (l : Launch) (D : va_G) (cA : Nat → ClassId) (ad : Nat → Nat) (o : Int64) (σ : Mem)   (res : Mem × Int32) (h : F_X7_anew σ  = some res) (sz : Nat) : Met l yX7_anew (WY yX7_anew cX7_anew 1 (some .int)) (RM 2) (va_Pc [.ref (ad 66)] (PW D cA ad o σ sz)) (va_Qi (fun r σ9 => r = res.2 ∧ σ9 = res.1) (QW D cA ad o) (FA ad sz)) 0 0 (FA ad sz) := by
  refine ct_of (own := RX7) (k := 2) (Qf := va_Qi (fun r σ9 => r = res.2 ∧ σ9 = res.1) (QW D cA ad o)) rfl (by decide) (Nat.le_of_ble_eq_true rfl) (fun p e s m below meth c ls C0 X hr hlk hP hl => ?_) sz
  have hS : va_S (FA ad s.heap.size) s.heap s.heap [] := va_S.rf
  have hl : lv_has ls 1 [(0, .ref (ad 66))] := hl
  obtain ⟨hx, hb, hml, hown, hts⟩ := id C0
  unfold F_X7_anew at h
  refine lv_aload_n hx hb dX7_anew_0 rfl (lv_at hl 0 rfl) ?_
  refine gf_X7_12 C0 X hP 66 (q := 0) ⟨by decide, rfl⟩ (by omega) rfl dX7_anew_1 ?_
  refine r_cv X hS (r_runV (As := []) (rest := []) C0 X hP L_X7_147 (fun sz => c_X6_beginAnew l D cA ad o σ 0 (by decide) sz) (show 0 < 106 ∧ kd 0 = (6, 11) from ⟨by decide, rfl⟩).1 (show 0 < 106 ∧ kd 0 = (6, 11) from ⟨by decide, rfl⟩).2 (by decide) rfl ⟨Nat.le_of_ble_eq_true rfl, Nat.le_of_ble_eq_true rfl⟩ rfl hl.1 rfl (Nat.le_of_ble_eq_true rfl) dX7_anew_4 ⟨Nat.zero_le _, Nat.zero_le _⟩) (fun σ9 H locs hw hP hS => ?_)
  rw [show σ9 = (tbeg σ 0) from hw] at hP
  refine lv_aload_n hx hb dX7_anew_7 rfl (lv_at hl 0 rfl) ?_
  refine gf_X7_12 C0 X hP 66 (q := 0) ⟨by decide, rfl⟩ (by omega) rfl dX7_anew_8 ?_
  refine gf_X7_150 C0 X hP 0 ⟨by decide, rfl⟩ dX7_anew_11 ?_
  exact r_iret C0 X hP hS hr hlk dX7_anew_14 (rt2 h)
def bB_cX7_where : Nat := 0xac9912aca600b42daca300b42daca000b42dac030400a7040700999d00b42dac9a00b42d3f0000003a0000003500000028000000230000000400000000000000440000000000aa1cac99120600c72d4e6300b61b0c00b42a
theorem yB_cX7_where : BYS cX7_where 88 bB_cX7_where := BYS_of (by decide +kernel)
theorem dX7_where_0 : decode cX7_where 0 = .ok (.aload_n 0, 1) := D_42 yB_cX7_where rfl rfl
theorem dX7_where_1 : decode cX7_where 1 = .ok (.getfield 12, 3) := D_180 yB_cX7_where rfl rfl rfl
theorem dX7_where_4 : decode cX7_where 4 = .ok (.iload_n 1, 1) := D_27 yB_cX7_where rfl rfl
theorem dX7_where_5 : decode cX7_where 5 = .ok (.invokevirtual 99, 3) := D_182 yB_cX7_where rfl rfl rfl
theorem dX7_where_8 : decode cX7_where 8 = .ok (.astore_n 3, 1) := D_78 yB_cX7_where rfl rfl
theorem dX7_where_9 : decode cX7_where 9 = .ok (.aload_n 3, 1) := D_45 yB_cX7_where rfl rfl
theorem dX7_where_10 : decode cX7_where 10 = .ok (.ifnonnull 6, 3) := D_199 yB_cX7_where rfl rfl (sg_p (m := 32768) (N := 6) rfl rfl rfl)
theorem dX7_where_13 : decode cX7_where 13 = .ok (.ldc 153, 2) := D_18 yB_cX7_where rfl rfl rfl
theorem dX7_where_15 : decode cX7_where 15 = .ok (.ireturn, 1) := D_172 yB_cX7_where rfl rfl
theorem dX7_where_16 : decode cX7_where 16 = .ok (.iload_n 2, 1) := D_28 yB_cX7_where rfl rfl
theorem dX7_where_17 : decode cX7_where 17 = .ok (.tableswitch 68 0 4 #[35, 40, 53, 58, 63], 35) := by decide +kernel
theorem dX7_where_52 : decode cX7_where 52 = .ok (.aload_n 3, 1) := D_45 yB_cX7_where rfl rfl
theorem dX7_where_53 : decode cX7_where 53 = .ok (.getfield 154, 3) := D_180 yB_cX7_where rfl rfl rfl
theorem dX7_where_56 : decode cX7_where 56 = .ok (.ireturn, 1) := D_172 yB_cX7_where rfl rfl
theorem dX7_where_57 : decode cX7_where 57 = .ok (.aload_n 3, 1) := D_45 yB_cX7_where rfl rfl
theorem dX7_where_58 : decode cX7_where 58 = .ok (.getfield 157, 3) := D_180 yB_cX7_where rfl rfl rfl
theorem dX7_where_61 : decode cX7_where 61 = .ok (.ifCond .eq 7, 3) := D_153 yB_cX7_where rfl rfl (sg_p (m := 32768) (N := 7) rfl rfl rfl)
theorem dX7_where_64 : decode cX7_where 64 = .ok (.iconst 1, 1) := D_4 yB_cX7_where rfl rfl
theorem dX7_where_65 : decode cX7_where 65 = .ok (.goto 4, 3) := D_167 yB_cX7_where rfl rfl (sg_p (m := 32768) (N := 4) rfl rfl rfl)
theorem dX7_where_68 : decode cX7_where 68 = .ok (.iconst 0, 1) := D_3 yB_cX7_where rfl rfl
theorem dX7_where_69 : decode cX7_where 69 = .ok (.ireturn, 1) := D_172 yB_cX7_where rfl rfl
theorem dX7_where_70 : decode cX7_where 70 = .ok (.aload_n 3, 1) := D_45 yB_cX7_where rfl rfl
theorem dX7_where_71 : decode cX7_where 71 = .ok (.getfield 160, 3) := D_180 yB_cX7_where rfl rfl rfl
theorem dX7_where_74 : decode cX7_where 74 = .ok (.ireturn, 1) := D_172 yB_cX7_where rfl rfl
theorem dX7_where_75 : decode cX7_where 75 = .ok (.aload_n 3, 1) := D_45 yB_cX7_where rfl rfl
theorem dX7_where_76 : decode cX7_where 76 = .ok (.getfield 163, 3) := D_180 yB_cX7_where rfl rfl rfl
theorem dX7_where_79 : decode cX7_where 79 = .ok (.ireturn, 1) := D_172 yB_cX7_where rfl rfl
theorem dX7_where_80 : decode cX7_where 80 = .ok (.aload_n 3, 1) := D_45 yB_cX7_where rfl rfl
theorem dX7_where_81 : decode cX7_where 81 = .ok (.getfield 166, 3) := D_180 yB_cX7_where rfl rfl rfl
theorem dX7_where_84 : decode cX7_where 84 = .ok (.ireturn, 1) := D_172 yB_cX7_where rfl rfl
theorem dX7_where_85 : decode cX7_where 85 = .ok (.ldc 153, 2) := D_18 yB_cX7_where rfl rfl rfl
theorem dX7_where_87 : decode cX7_where 87 = .ok (.ireturn, 1) := D_172 yB_cX7_where rfl rfl
def F_X7_where (σ : Mem) (x1 : Int32) (x2 : Int32) : Option (Int32) := if x1 < 0 ∨ σ (22 * 0) 2 ≤ x1 ∨ 7 ≤ x1 then (some (-1000000001)) else ((ix 7 x1).bind fun j_1 => if x2 = 0 then (some (σ (22 * 0 + 15 + j_1) 6)) else (if x2 = 1 then (if (σ (22 * 0 + 15 + j_1) 7) = 0 then (some 0) else (some 1)) else (if x2 = 2 then (some (σ (22 * 0 + 15 + j_1) 9)) else (if x2 = 3 then (some (σ (22 * 0 + 15 + j_1) 10)) else (if x2 = 4 then (some (σ (22 * 0 + 15 + j_1) 11)) else (some (-1000000001)))))))
set_option maxHeartbeats 4000000 in
set_option maxRecDepth 100000 in
theorem c_X7_where (l : Launch) (D : va_G) (cA : Nat → ClassId) (ad : Nat → Nat) (o : Int64) (σ : Mem) (x1 : Int32) (x2 : Int32)  (res : Int32) (h : F_X7_where σ x1 x2 = some res) (sz : Nat) : Met l yX7_where (WY yX7_where cX7_where 4 (some .int)) (RM 1) (va_Pc [.ref (ad 66), .int x1, .int x2] (PW D cA ad o σ sz)) (va_Qi (fun r σ9 => r = res ∧ σ9 = σ) (QW D cA ad o) (FA ad sz)) 0 0 (FA ad sz) := by
  refine ct_of (own := RX7) (k := 1) (Qf := va_Qi (fun r σ9 => r = res ∧ σ9 = σ) (QW D cA ad o)) rfl (by decide) (Nat.le_of_ble_eq_true rfl) (fun p e s m below meth c ls C0 X hr hlk hP hl => ?_) sz
  have hS : va_S (FA ad s.heap.size) s.heap s.heap [] := va_S.rf
  have hl : lv_has ls 4 [(0, .ref (ad 66)), (1, .int x1), (2, .int x2)] := hl
  obtain ⟨hx, hb, hml, hown, hts⟩ := id C0
  unfold F_X7_where at h
  refine lv_aload_n hx hb dX7_where_0 rfl (lv_at hl 0 rfl) ?_
  refine gf_X7_12 C0 X hP 66 (q := 0) ⟨by decide, rfl⟩ (by omega) rfl dX7_where_1 ?_
  refine lv_iload_n hx hb dX7_where_4 rfl (lv_at hl 1 rfl) ?_
  refine r_cq X hS (r_runV (As := [.int x1]) (rest := []) C0 X hP L_X7_99 (fun sz => c_X6_cartAt l D cA ad o σ 0 x1 (by decide) sz) (show 0 < 106 ∧ kd 0 = (6, 11) from ⟨by decide, rfl⟩).1 (show 0 < 106 ∧ kd 0 = (6, 11) from ⟨by decide, rfl⟩).2 (by decide) rfl ⟨Nat.le_of_ble_eq_true rfl, Nat.le_of_ble_eq_true rfl⟩ rfl hl.1 rfl (Nat.le_of_ble_eq_true rfl) dX7_where_5 ⟨Nat.zero_le _, Nat.zero_le _⟩) (fun σ9 H locs hw hP hS => ?_) (fun x9 σ9 H locs hw hP hS => ?_)
  · rw [hw.1] at hP
    replace h := it_t h hw.2
    refine lv_astore_nN (lv' := [(3, .null), (0, .ref (ad 66)), (1, .int x1), (2, .int x2)]) hx hb dX7_where_8 rfl hl (by decide) rfl (fun ls hl => ?_)
    refine lv_aload_nN hx hb dX7_where_9 rfl (lv_at hl 0 rfl) ?_
    refine lv_ifnonnullN hx hb dX7_where_10 ?_
    refine lv_ldc (own := RX7) (index := 153) (v := (-1000000001)) hx hb hown (hts _ (tmc sb3_9 0 rfl (by decide +kernel))) dX7_where_13 ?_
    exact r_iret C0 X hP hS hr hlk dX7_where_15 ⟨Option.some.inj h, rfl⟩
  · rw [hw.1] at hP
    obtain ⟨-, j_1, hj_1, ej_1, l9, rfl⟩ := hw
    replace h := it_f h (nocart ej_1 hj_1 l9)
    obtain ⟨k9, ek9, h⟩ := bnd h
    replace ek9 := ix_s ek9 (by decide)
    obtain rfl : j_1 = k9 := nI_inj (ej_1.symm.trans ek9.1) (by omega) (by have := ek9.2; omega)
    refine lv_astore_n (lv' := [(3, .ref (ad (22 * 0 + 15 + j_1))), (0, .ref (ad 66)), (1, .int x1), (2, .int x2)]) hx hb dX7_where_8 rfl hl (by decide) rfl (fun ls hl => ?_)
    refine lv_aload_n hx hb dX7_where_9 rfl (lv_at hl 0 rfl) ?_
    refine lv_ifnonnull (tgt := 16) hx hb dX7_where_10 (by decide) ?_
    refine lv_iload_n hx hb dX7_where_16 rfl (lv_at hl 3 rfl) ?_
    rcases sw_in (x := x2) (lo := 0) (n := 5) with c_2 | ⟨j, hj, c_2⟩
    · replace h := it_f h (sw_ne (v := 0) c_2 (by decide))
      replace h := it_f h (sw_ne (v := 1) c_2 (by decide))
      replace h := it_f h (sw_ne (v := 2) c_2 (by decide))
      replace h := it_f h (sw_ne (v := 3) c_2 (by decide))
      replace h := it_f h (sw_ne (v := 4) c_2 (by decide))
      refine lv_tableOut (tgt := 85) hx hb dX7_where_17 (by omega) (by decide) ?_
      refine lv_ldc (own := RX7) (index := 153) (v := (-1000000001)) hx hb hown (hts _ (tmc sb3_9 0 rfl (by decide +kernel))) dX7_where_85 ?_
      exact r_iret C0 X hP hS hr hlk dX7_where_87 ⟨Option.some.inj h, rfl⟩
    · rcases (show j = 0 ∨ j = 1 ∨ j = 2 ∨ j = 3 ∨ j = 4 by omega) with rfl | rfl | rfl | rfl | rfl
      · have e_3 : x2 = 0 := sw_eq c_2 (by decide)
        replace h := it_t h e_3
        refine lv_tableIn (off := 35) (tgt := 52) hx hb dX7_where_17 (by rw [e_3]; decide) (by rw [e_3]; decide) (by rw [e_3]; rfl) (by decide) ?_
        refine lv_aload_n hx hb dX7_where_52 rfl (lv_at hl 0 rfl) ?_
        refine gf_X7_154 C0 X hP (22 * 0 + 15 + j_1) (kdC 0 (by decide) j_1 hj_1) dX7_where_53 ?_
        exact r_iret C0 X hP hS hr hlk dX7_where_56 ⟨Option.some.inj h, rfl⟩
      · have e_4 : x2 = 1 := sw_eq c_2 (by decide)
        replace h := it_f h (show ¬ x2 = 0 by rw [e_4]; decide)
        replace h := it_t h e_4
        refine lv_tableIn (off := 40) (tgt := 57) hx hb dX7_where_17 (by rw [e_4]; decide) (by rw [e_4]; decide) (by rw [e_4]; rfl) (by decide) ?_
        refine lv_aload_n hx hb dX7_where_57 rfl (lv_at hl 0 rfl) ?_
        refine gf_X7_157 C0 X hP (22 * 0 + 15 + j_1) (kdC 0 (by decide) j_1 hj_1) dX7_where_58 ?_
        refine lv_if_eq (tgt := 68) hx hb dX7_where_61 (by decide) (fun c_5 => ?_) (fun c_5 => ?_)
        · replace h := it_t h c_5
          refine lv_iconst (v := 0) hx hb dX7_where_68 (by decide) ?_
          exact r_iret C0 X hP hS hr hlk dX7_where_69 ⟨Option.some.inj h, rfl⟩
        · replace h := it_f h c_5
          refine lv_iconst (v := 1) hx hb dX7_where_64 (by decide) ?_
          refine lv_goto (tgt := 69) hx hb dX7_where_65 (by decide) ?_
          exact r_iret C0 X hP hS hr hlk dX7_where_69 ⟨Option.some.inj h, rfl⟩
      · have e_6 : x2 = 2 := sw_eq c_2 (by decide)
        replace h := it_f h (show ¬ x2 = 0 by rw [e_6]; decide)
        replace h := it_f h (show ¬ x2 = 1 by rw [e_6]; decide)
        replace h := it_t h e_6
        refine lv_tableIn (off := 53) (tgt := 70) hx hb dX7_where_17 (by rw [e_6]; decide) (by rw [e_6]; decide) (by rw [e_6]; rfl) (by decide) ?_
        refine lv_aload_n hx hb dX7_where_70 rfl (lv_at hl 0 rfl) ?_
        refine gf_X7_160 C0 X hP (22 * 0 + 15 + j_1) (kdC 0 (by decide) j_1 hj_1) dX7_where_71 ?_
        exact r_iret C0 X hP hS hr hlk dX7_where_74 ⟨Option.some.inj h, rfl⟩
      · have e_7 : x2 = 3 := sw_eq c_2 (by decide)
        replace h := it_f h (show ¬ x2 = 0 by rw [e_7]; decide)
        replace h := it_f h (show ¬ x2 = 1 by rw [e_7]; decide)
        replace h := it_f h (show ¬ x2 = 2 by rw [e_7]; decide)
        replace h := it_t h e_7
        refine lv_tableIn (off := 58) (tgt := 75) hx hb dX7_where_17 (by rw [e_7]; decide) (by rw [e_7]; decide) (by rw [e_7]; rfl) (by decide) ?_
        refine lv_aload_n hx hb dX7_where_75 rfl (lv_at hl 0 rfl) ?_
        refine gf_X7_163 C0 X hP (22 * 0 + 15 + j_1) (kdC 0 (by decide) j_1 hj_1) dX7_where_76 ?_
        exact r_iret C0 X hP hS hr hlk dX7_where_79 ⟨Option.some.inj h, rfl⟩
      · have e_8 : x2 = 4 := sw_eq c_2 (by decide)
        replace h := it_f h (show ¬ x2 = 0 by rw [e_8]; decide)
        replace h := it_f h (show ¬ x2 = 1 by rw [e_8]; decide)
        replace h := it_f h (show ¬ x2 = 2 by rw [e_8]; decide)
        replace h := it_f h (show ¬ x2 = 3 by rw [e_8]; decide)
        replace h := it_t h e_8
        refine lv_tableIn (off := 63) (tgt := 80) hx hb dX7_where_17 (by rw [e_8]; decide) (by rw [e_8]; decide) (by rw [e_8]; rfl) (by decide) ?_
        refine lv_aload_n hx hb dX7_where_80 rfl (lv_at hl 0 rfl) ?_
        refine gf_X7_166 C0 X hP (22 * 0 + 15 + j_1) (kdC 0 (by decide) j_1 hj_1) dX7_where_81 ?_
        exact r_iret C0 X hP hS hr hlk dX7_where_84 ⟨Option.some.inj h, rfl⟩
def bB_cX7_state : Nat := 0xac02acb700b40c00b42aac030400a704070099b400b60c00b42aacb000b6fd100c00b42aacad00b60c00b42aaca900b60c00b42aac9000b40c00b42a59000000490000003f000000370000002f000000270000000500000000000000610000000000aa1b
theorem yB_cX7_state : BYS cX7_state 100 bB_cX7_state := BYS_of (by decide +kernel)
theorem dX7_state_0 : decode cX7_state 0 = .ok (.iload_n 1, 1) := D_27 yB_cX7_state rfl rfl
theorem dX7_state_1 : decode cX7_state 1 = .ok (.tableswitch 97 0 5 #[39, 47, 55, 63, 73, 89], 39) := by decide +kernel
theorem dX7_state_40 : decode cX7_state 40 = .ok (.aload_n 0, 1) := D_42 yB_cX7_state rfl rfl
theorem dX7_state_41 : decode cX7_state 41 = .ok (.getfield 12, 3) := D_180 yB_cX7_state rfl rfl rfl
theorem dX7_state_44 : decode cX7_state 44 = .ok (.getfield 144, 3) := D_180 yB_cX7_state rfl rfl rfl
theorem dX7_state_47 : decode cX7_state 47 = .ok (.ireturn, 1) := D_172 yB_cX7_state rfl rfl
theorem dX7_state_48 : decode cX7_state 48 = .ok (.aload_n 0, 1) := D_42 yB_cX7_state rfl rfl
theorem dX7_state_49 : decode cX7_state 49 = .ok (.getfield 12, 3) := D_180 yB_cX7_state rfl rfl rfl
theorem dX7_state_52 : decode cX7_state 52 = .ok (.invokevirtual 169, 3) := D_182 yB_cX7_state rfl rfl rfl
theorem dX7_state_55 : decode cX7_state 55 = .ok (.ireturn, 1) := D_172 yB_cX7_state rfl rfl
theorem dX7_state_56 : decode cX7_state 56 = .ok (.aload_n 0, 1) := D_42 yB_cX7_state rfl rfl
theorem dX7_state_57 : decode cX7_state 57 = .ok (.getfield 12, 3) := D_180 yB_cX7_state rfl rfl rfl
theorem dX7_state_60 : decode cX7_state 60 = .ok (.invokevirtual 173, 3) := D_182 yB_cX7_state rfl rfl rfl
theorem dX7_state_63 : decode cX7_state 63 = .ok (.ireturn, 1) := D_172 yB_cX7_state rfl rfl
theorem dX7_state_64 : decode cX7_state 64 = .ok (.aload_n 0, 1) := D_42 yB_cX7_state rfl rfl
theorem dX7_state_65 : decode cX7_state 65 = .ok (.getfield 12, 3) := D_180 yB_cX7_state rfl rfl rfl
theorem dX7_state_68 : decode cX7_state 68 = .ok (.bipush (-3), 2) := D_16 yB_cX7_state rfl rfl (sg_n (m := 128) (N := 3) rfl rfl rfl)
theorem dX7_state_70 : decode cX7_state 70 = .ok (.invokevirtual 176, 3) := D_182 yB_cX7_state rfl rfl rfl
theorem dX7_state_73 : decode cX7_state 73 = .ok (.ireturn, 1) := D_172 yB_cX7_state rfl rfl
theorem dX7_state_74 : decode cX7_state 74 = .ok (.aload_n 0, 1) := D_42 yB_cX7_state rfl rfl
theorem dX7_state_75 : decode cX7_state 75 = .ok (.getfield 12, 3) := D_180 yB_cX7_state rfl rfl rfl
theorem dX7_state_78 : decode cX7_state 78 = .ok (.invokevirtual 180, 3) := D_182 yB_cX7_state rfl rfl rfl
theorem dX7_state_81 : decode cX7_state 81 = .ok (.ifCond .eq 7, 3) := D_153 yB_cX7_state rfl rfl (sg_p (m := 32768) (N := 7) rfl rfl rfl)
theorem dX7_state_84 : decode cX7_state 84 = .ok (.iconst 1, 1) := D_4 yB_cX7_state rfl rfl
theorem dX7_state_85 : decode cX7_state 85 = .ok (.goto 4, 3) := D_167 yB_cX7_state rfl rfl (sg_p (m := 32768) (N := 4) rfl rfl rfl)
theorem dX7_state_88 : decode cX7_state 88 = .ok (.iconst 0, 1) := D_3 yB_cX7_state rfl rfl
theorem dX7_state_89 : decode cX7_state 89 = .ok (.ireturn, 1) := D_172 yB_cX7_state rfl rfl
theorem dX7_state_90 : decode cX7_state 90 = .ok (.aload_n 0, 1) := D_42 yB_cX7_state rfl rfl
theorem dX7_state_91 : decode cX7_state 91 = .ok (.getfield 12, 3) := D_180 yB_cX7_state rfl rfl rfl
theorem dX7_state_94 : decode cX7_state 94 = .ok (.getfield 183, 3) := D_180 yB_cX7_state rfl rfl rfl
theorem dX7_state_97 : decode cX7_state 97 = .ok (.ireturn, 1) := D_172 yB_cX7_state rfl rfl
theorem dX7_state_98 : decode cX7_state 98 = .ok (.iconst (-1), 1) := D_2 yB_cX7_state rfl rfl
theorem dX7_state_99 : decode cX7_state 99 = .ok (.ireturn, 1) := D_172 yB_cX7_state rfl rfl
def F_X7_state (σ : Mem) (x1 : Int32) : Option (Int32) := if x1 = 0 then (some (σ 0 3)) else (if x1 = 1 then ((F_X6_allBacked σ 0).bind fun r_4 => some r_4) else (if x1 = 2 then ((F_X6_allWaited σ 0).bind fun r_6 => some r_6) else (if x1 = 3 then ((F_X6_howMany σ 0 (-3)).bind fun r_8 => some r_8) else (if x1 = 4 then ((F_X6_stands σ 0).bind fun r_10 => if r_10 = 0 then (some 0) else (some 1)) else (if x1 = 5 then (some (σ 0 5)) else (some (-1)))))))
set_option maxHeartbeats 4000000 in
set_option maxRecDepth 100000 in
theorem c_X7_state (l : Launch) (D : va_G) (cA : Nat → ClassId) (ad : Nat → Nat) (o : Int64) (σ : Mem) (x1 : Int32)  (res : Int32) (h : F_X7_state σ x1 = some res) (sz : Nat) : Met l yX7_state (WY yX7_state cX7_state 2 (some .int)) (RM 2) (va_Pc [.ref (ad 66), .int x1] (PW D cA ad o σ sz)) (va_Qi (fun r σ9 => r = res ∧ σ9 = σ) (QW D cA ad o) (FA ad sz)) 0 0 (FA ad sz) := by
  refine ct_of (own := RX7) (k := 2) (Qf := va_Qi (fun r σ9 => r = res ∧ σ9 = σ) (QW D cA ad o)) rfl (by decide) (Nat.le_of_ble_eq_true rfl) (fun p e s m below meth c ls C0 X hr hlk hP hl => ?_) sz
  have hS : va_S (FA ad s.heap.size) s.heap s.heap [] := va_S.rf
  have hl : lv_has ls 2 [(0, .ref (ad 66)), (1, .int x1)] := hl
  obtain ⟨hx, hb, hml, hown, hts⟩ := id C0
  unfold F_X7_state at h
  refine lv_iload_n hx hb dX7_state_0 rfl (lv_at hl 1 rfl) ?_
  rcases sw_in (x := x1) (lo := 0) (n := 6) with c_1 | ⟨j, hj, c_1⟩
  · replace h := it_f h (sw_ne (v := 0) c_1 (by decide))
    replace h := it_f h (sw_ne (v := 1) c_1 (by decide))
    replace h := it_f h (sw_ne (v := 2) c_1 (by decide))
    replace h := it_f h (sw_ne (v := 3) c_1 (by decide))
    replace h := it_f h (sw_ne (v := 4) c_1 (by decide))
    replace h := it_f h (sw_ne (v := 5) c_1 (by decide))
    refine lv_tableOut (tgt := 98) hx hb dX7_state_1 (by omega) (by decide) ?_
    refine lv_iconst (v := (-1)) hx hb dX7_state_98 (by decide) ?_
    exact r_iret C0 X hP hS hr hlk dX7_state_99 ⟨Option.some.inj h, rfl⟩
  · rcases (show j = 0 ∨ j = 1 ∨ j = 2 ∨ j = 3 ∨ j = 4 ∨ j = 5 by omega) with rfl | rfl | rfl | rfl | rfl | rfl
    · have e_2 : x1 = 0 := sw_eq c_1 (by decide)
      replace h := it_t h e_2
      refine lv_tableIn (off := 39) (tgt := 40) hx hb dX7_state_1 (by rw [e_2]; decide) (by rw [e_2]; decide) (by rw [e_2]; rfl) (by decide) ?_
      refine lv_aload_n hx hb dX7_state_40 rfl (lv_at hl 0 rfl) ?_
      refine gf_X7_12 C0 X hP 66 (q := 0) ⟨by decide, rfl⟩ (by omega) rfl dX7_state_41 ?_
      refine gf_X7_144 C0 X hP 0 ⟨by decide, rfl⟩ dX7_state_44 ?_
      exact r_iret C0 X hP hS hr hlk dX7_state_47 ⟨Option.some.inj h, rfl⟩
    · have e_3 : x1 = 1 := sw_eq c_1 (by decide)
      replace h := it_f h (show ¬ x1 = 0 by rw [e_3]; decide)
      replace h := it_t h e_3
      refine lv_tableIn (off := 47) (tgt := 48) hx hb dX7_state_1 (by rw [e_3]; decide) (by rw [e_3]; decide) (by rw [e_3]; rfl) (by decide) ?_
      refine lv_aload_n hx hb dX7_state_48 rfl (lv_at hl 0 rfl) ?_
      refine gf_X7_12 C0 X hP 66 (q := 0) ⟨by decide, rfl⟩ (by omega) rfl dX7_state_49 ?_
      obtain ⟨r_4, er_4, h⟩ := bnd h
      refine r_ci X hS (r_runV (As := []) (rest := []) C0 X hP L_X7_169 (fun sz => c_X6_allBacked l D cA ad o σ 0 (by decide) r_4 er_4 sz) (show 0 < 106 ∧ kd 0 = (6, 11) from ⟨by decide, rfl⟩).1 (show 0 < 106 ∧ kd 0 = (6, 11) from ⟨by decide, rfl⟩).2 (by decide) rfl ⟨Nat.le_of_ble_eq_true rfl, Nat.le_of_ble_eq_true rfl⟩ rfl hl.1 rfl (Nat.le_of_ble_eq_true rfl) dX7_state_52 ⟨Nat.zero_le _, Nat.zero_le _⟩) (fun r9 σ9 H locs hw hP hS => ?_)
      rw [hw.2] at hP
      rw [hw.1]
      exact r_iret C0 X hP hS hr hlk dX7_state_55 ⟨Option.some.inj h, rfl⟩
    · have e_5 : x1 = 2 := sw_eq c_1 (by decide)
      replace h := it_f h (show ¬ x1 = 0 by rw [e_5]; decide)
      replace h := it_f h (show ¬ x1 = 1 by rw [e_5]; decide)
      replace h := it_t h e_5
      refine lv_tableIn (off := 55) (tgt := 56) hx hb dX7_state_1 (by rw [e_5]; decide) (by rw [e_5]; decide) (by rw [e_5]; rfl) (by decide) ?_
      refine lv_aload_n hx hb dX7_state_56 rfl (lv_at hl 0 rfl) ?_
      refine gf_X7_12 C0 X hP 66 (q := 0) ⟨by decide, rfl⟩ (by omega) rfl dX7_state_57 ?_
      obtain ⟨r_6, er_6, h⟩ := bnd h
      refine r_ci X hS (r_runV (As := []) (rest := []) C0 X hP L_X7_173 (fun sz => c_X6_allWaited l D cA ad o σ 0 (by decide) r_6 er_6 sz) (show 0 < 106 ∧ kd 0 = (6, 11) from ⟨by decide, rfl⟩).1 (show 0 < 106 ∧ kd 0 = (6, 11) from ⟨by decide, rfl⟩).2 (by decide) rfl ⟨Nat.le_of_ble_eq_true rfl, Nat.le_of_ble_eq_true rfl⟩ rfl hl.1 rfl (Nat.le_of_ble_eq_true rfl) dX7_state_60 ⟨Nat.zero_le _, Nat.zero_le _⟩) (fun r9 σ9 H locs hw hP hS => ?_)
      rw [hw.2] at hP
      rw [hw.1]
      exact r_iret C0 X hP hS hr hlk dX7_state_63 ⟨Option.some.inj h, rfl⟩
    · have e_7 : x1 = 3 := sw_eq c_1 (by decide)
      replace h := it_f h (show ¬ x1 = 0 by rw [e_7]; decide)
      replace h := it_f h (show ¬ x1 = 1 by rw [e_7]; decide)
      replace h := it_f h (show ¬ x1 = 2 by rw [e_7]; decide)
      replace h := it_t h e_7
      refine lv_tableIn (off := 63) (tgt := 64) hx hb dX7_state_1 (by rw [e_7]; decide) (by rw [e_7]; decide) (by rw [e_7]; rfl) (by decide) ?_
      refine lv_aload_n hx hb dX7_state_64 rfl (lv_at hl 0 rfl) ?_
      refine gf_X7_12 C0 X hP 66 (q := 0) ⟨by decide, rfl⟩ (by omega) rfl dX7_state_65 ?_
      refine lv_bipush (v := (-3)) hx hb dX7_state_68 (by decide) ?_
      obtain ⟨r_8, er_8, h⟩ := bnd h
      refine r_ci X hS (r_runV (As := [.int (-3)]) (rest := []) C0 X hP L_X7_176 (fun sz => c_X6_howMany l D cA ad o σ 0 (-3) (by decide) r_8 er_8 sz) (show 0 < 106 ∧ kd 0 = (6, 11) from ⟨by decide, rfl⟩).1 (show 0 < 106 ∧ kd 0 = (6, 11) from ⟨by decide, rfl⟩).2 (by decide) rfl ⟨Nat.le_of_ble_eq_true rfl, Nat.le_of_ble_eq_true rfl⟩ rfl hl.1 rfl (Nat.le_of_ble_eq_true rfl) dX7_state_70 ⟨Nat.zero_le _, Nat.zero_le _⟩) (fun r9 σ9 H locs hw hP hS => ?_)
      rw [hw.2] at hP
      rw [hw.1]
      exact r_iret C0 X hP hS hr hlk dX7_state_73 ⟨Option.some.inj h, rfl⟩
    · have e_9 : x1 = 4 := sw_eq c_1 (by decide)
      replace h := it_f h (show ¬ x1 = 0 by rw [e_9]; decide)
      replace h := it_f h (show ¬ x1 = 1 by rw [e_9]; decide)
      replace h := it_f h (show ¬ x1 = 2 by rw [e_9]; decide)
      replace h := it_f h (show ¬ x1 = 3 by rw [e_9]; decide)
      replace h := it_t h e_9
      refine lv_tableIn (off := 73) (tgt := 74) hx hb dX7_state_1 (by rw [e_9]; decide) (by rw [e_9]; decide) (by rw [e_9]; rfl) (by decide) ?_
      refine lv_aload_n hx hb dX7_state_74 rfl (lv_at hl 0 rfl) ?_
      refine gf_X7_12 C0 X hP 66 (q := 0) ⟨by decide, rfl⟩ (by omega) rfl dX7_state_75 ?_
      obtain ⟨r_10, er_10, h⟩ := bnd h
      refine r_ci X hS (r_runV (As := []) (rest := []) C0 X hP L_X7_180 (fun sz => c_X6_stands l D cA ad o σ 0 (by decide) r_10 er_10 sz) (show 0 < 106 ∧ kd 0 = (6, 11) from ⟨by decide, rfl⟩).1 (show 0 < 106 ∧ kd 0 = (6, 11) from ⟨by decide, rfl⟩).2 (by decide) rfl ⟨Nat.le_of_ble_eq_true rfl, Nat.le_of_ble_eq_true rfl⟩ rfl hl.1 rfl (Nat.le_of_ble_eq_true rfl) dX7_state_78 ⟨Nat.zero_le _, Nat.zero_le _⟩) (fun r9 σ9 H locs hw hP hS => ?_)
      rw [hw.2] at hP
      rw [hw.1]
      refine lv_if_eq (tgt := 88) hx hb dX7_state_81 (by decide) (fun c_11 => ?_) (fun c_11 => ?_)
      · replace h := it_t h c_11
        refine lv_iconst (v := 0) hx hb dX7_state_88 (by decide) ?_
        exact r_iret C0 X hP hS hr hlk dX7_state_89 ⟨Option.some.inj h, rfl⟩
      · replace h := it_f h c_11
        refine lv_iconst (v := 1) hx hb dX7_state_84 (by decide) ?_
        refine lv_goto (tgt := 89) hx hb dX7_state_85 (by decide) ?_
        exact r_iret C0 X hP hS hr hlk dX7_state_89 ⟨Option.some.inj h, rfl⟩
    · have e_12 : x1 = 5 := sw_eq c_1 (by decide)
      replace h := it_f h (show ¬ x1 = 0 by rw [e_12]; decide)
      replace h := it_f h (show ¬ x1 = 1 by rw [e_12]; decide)
      replace h := it_f h (show ¬ x1 = 2 by rw [e_12]; decide)
      replace h := it_f h (show ¬ x1 = 3 by rw [e_12]; decide)
      replace h := it_f h (show ¬ x1 = 4 by rw [e_12]; decide)
      replace h := it_t h e_12
      refine lv_tableIn (off := 89) (tgt := 90) hx hb dX7_state_1 (by rw [e_12]; decide) (by rw [e_12]; decide) (by rw [e_12]; rfl) (by decide) ?_
      refine lv_aload_n hx hb dX7_state_90 rfl (lv_at hl 0 rfl) ?_
      refine gf_X7_12 C0 X hP 66 (q := 0) ⟨by decide, rfl⟩ (by omega) rfl dX7_state_91 ?_
      refine gf_X7_183 C0 X hP 0 ⟨by decide, rfl⟩ dX7_state_94 ?_
      exact r_iret C0 X hP hS hr hlk dX7_state_97 ⟨Option.some.inj h, rfl⟩
def bB_cX7_enters : Nat := 0xac030400a704070099bd00b62c0c00b42aacfd1006009cba00b69a00b42c4600b40c00b42aac020500c72c4d6300b61b0c00b42a
theorem yB_cX7_enters : BYS cX7_enters 52 bB_cX7_enters := BYS_of (by decide +kernel)
theorem dX7_enters_0 : decode cX7_enters 0 = .ok (.aload_n 0, 1) := D_42 yB_cX7_enters rfl rfl
theorem dX7_enters_1 : decode cX7_enters 1 = .ok (.getfield 12, 3) := D_180 yB_cX7_enters rfl rfl rfl
theorem dX7_enters_4 : decode cX7_enters 4 = .ok (.iload_n 1, 1) := D_27 yB_cX7_enters rfl rfl
theorem dX7_enters_5 : decode cX7_enters 5 = .ok (.invokevirtual 99, 3) := D_182 yB_cX7_enters rfl rfl rfl
theorem dX7_enters_8 : decode cX7_enters 8 = .ok (.astore_n 2, 1) := D_77 yB_cX7_enters rfl rfl
theorem dX7_enters_9 : decode cX7_enters 9 = .ok (.aload_n 2, 1) := D_44 yB_cX7_enters rfl rfl
theorem dX7_enters_10 : decode cX7_enters 10 = .ok (.ifnonnull 5, 3) := D_199 yB_cX7_enters rfl rfl (sg_p (m := 32768) (N := 5) rfl rfl rfl)
theorem dX7_enters_13 : decode cX7_enters 13 = .ok (.iconst (-1), 1) := D_2 yB_cX7_enters rfl rfl
theorem dX7_enters_14 : decode cX7_enters 14 = .ok (.ireturn, 1) := D_172 yB_cX7_enters rfl rfl
theorem dX7_enters_15 : decode cX7_enters 15 = .ok (.aload_n 0, 1) := D_42 yB_cX7_enters rfl rfl
theorem dX7_enters_16 : decode cX7_enters 16 = .ok (.getfield 12, 3) := D_180 yB_cX7_enters rfl rfl rfl
theorem dX7_enters_19 : decode cX7_enters 19 = .ok (.getfield 70, 3) := D_180 yB_cX7_enters rfl rfl rfl
theorem dX7_enters_22 : decode cX7_enters 22 = .ok (.aload_n 2, 1) := D_44 yB_cX7_enters rfl rfl
theorem dX7_enters_23 : decode cX7_enters 23 = .ok (.getfield 154, 3) := D_180 yB_cX7_enters rfl rfl rfl
theorem dX7_enters_26 : decode cX7_enters 26 = .ok (.invokevirtual 186, 3) := D_182 yB_cX7_enters rfl rfl rfl
theorem dX7_enters_29 : decode cX7_enters 29 = .ok (.ifCond .ge 6, 3) := D_156 yB_cX7_enters rfl rfl (sg_p (m := 32768) (N := 6) rfl rfl rfl)
theorem dX7_enters_32 : decode cX7_enters 32 = .ok (.bipush (-3), 2) := D_16 yB_cX7_enters rfl rfl (sg_n (m := 128) (N := 3) rfl rfl rfl)
theorem dX7_enters_34 : decode cX7_enters 34 = .ok (.ireturn, 1) := D_172 yB_cX7_enters rfl rfl
theorem dX7_enters_35 : decode cX7_enters 35 = .ok (.aload_n 0, 1) := D_42 yB_cX7_enters rfl rfl
theorem dX7_enters_36 : decode cX7_enters 36 = .ok (.getfield 12, 3) := D_180 yB_cX7_enters rfl rfl rfl
theorem dX7_enters_39 : decode cX7_enters 39 = .ok (.aload_n 2, 1) := D_44 yB_cX7_enters rfl rfl
theorem dX7_enters_40 : decode cX7_enters 40 = .ok (.invokevirtual 189, 3) := D_182 yB_cX7_enters rfl rfl rfl
theorem dX7_enters_43 : decode cX7_enters 43 = .ok (.ifCond .eq 7, 3) := D_153 yB_cX7_enters rfl rfl (sg_p (m := 32768) (N := 7) rfl rfl rfl)
theorem dX7_enters_46 : decode cX7_enters 46 = .ok (.iconst 1, 1) := D_4 yB_cX7_enters rfl rfl
theorem dX7_enters_47 : decode cX7_enters 47 = .ok (.goto 4, 3) := D_167 yB_cX7_enters rfl rfl (sg_p (m := 32768) (N := 4) rfl rfl rfl)
theorem dX7_enters_50 : decode cX7_enters 50 = .ok (.iconst 0, 1) := D_3 yB_cX7_enters rfl rfl
theorem dX7_enters_51 : decode cX7_enters 51 = .ok (.ireturn, 1) := D_172 yB_cX7_enters rfl rfl
def F_X7_enters (σ : Mem) (x1 : Int32) : Option (Int32) := if x1 < 0 ∨ σ (22 * 0) 2 ≤ x1 ∨ 7 ≤ x1 then (some (-1)) else ((ix 7 x1).bind fun j_1 => (F_X4_placeOf σ 0 (σ (22 * 0 + 15 + j_1) 6)).bind fun r_2 => if 0 ≤ r_2 then ((F_X6_letsIn σ 0 (22 * 0 + 15 + j_1)).bind fun r_4 => if r_4 = 0 then (some 0) else (some 1)) else (some (-3)))
set_option maxHeartbeats 4000000 in
set_option maxRecDepth 100000 in
theorem c_X7_enters (l : Launch) (D : va_G) (cA : Nat → ClassId) (ad : Nat → Nat) (o : Int64) (σ : Mem) (x1 : Int32)  (res : Int32) (h : F_X7_enters σ x1 = some res) (sz : Nat) : Met l yX7_enters (WY yX7_enters cX7_enters 3 (some .int)) (RM 3) (va_Pc [.ref (ad 66), .int x1] (PW D cA ad o σ sz)) (va_Qi (fun r σ9 => r = res ∧ σ9 = σ) (QW D cA ad o) (FA ad sz)) 0 0 (FA ad sz) := by
  refine ct_of (own := RX7) (k := 3) (Qf := va_Qi (fun r σ9 => r = res ∧ σ9 = σ) (QW D cA ad o)) rfl (by decide) (Nat.le_of_ble_eq_true rfl) (fun p e s m below meth c ls C0 X hr hlk hP hl => ?_) sz
  have hS : va_S (FA ad s.heap.size) s.heap s.heap [] := va_S.rf
  have hl : lv_has ls 3 [(0, .ref (ad 66)), (1, .int x1)] := hl
  obtain ⟨hx, hb, hml, hown, hts⟩ := id C0
  unfold F_X7_enters at h
  refine lv_aload_n hx hb dX7_enters_0 rfl (lv_at hl 0 rfl) ?_
  refine gf_X7_12 C0 X hP 66 (q := 0) ⟨by decide, rfl⟩ (by omega) rfl dX7_enters_1 ?_
  refine lv_iload_n hx hb dX7_enters_4 rfl (lv_at hl 1 rfl) ?_
  refine r_cq X hS (r_runV (As := [.int x1]) (rest := []) C0 X hP L_X7_99 (fun sz => c_X6_cartAt l D cA ad o σ 0 x1 (by decide) sz) (show 0 < 106 ∧ kd 0 = (6, 11) from ⟨by decide, rfl⟩).1 (show 0 < 106 ∧ kd 0 = (6, 11) from ⟨by decide, rfl⟩).2 (by decide) rfl ⟨Nat.le_of_ble_eq_true rfl, Nat.le_of_ble_eq_true rfl⟩ rfl hl.1 rfl (Nat.le_of_ble_eq_true rfl) dX7_enters_5 ⟨Nat.zero_le _, Nat.zero_le _⟩) (fun σ9 H locs hw hP hS => ?_) (fun x9 σ9 H locs hw hP hS => ?_)
  · rw [hw.1] at hP
    replace h := it_t h hw.2
    refine lv_astore_nN (lv' := [(2, .null), (0, .ref (ad 66)), (1, .int x1)]) hx hb dX7_enters_8 rfl hl (by decide) rfl (fun ls hl => ?_)
    refine lv_aload_nN hx hb dX7_enters_9 rfl (lv_at hl 0 rfl) ?_
    refine lv_ifnonnullN hx hb dX7_enters_10 ?_
    refine lv_iconst (v := (-1)) hx hb dX7_enters_13 (by decide) ?_
    exact r_iret C0 X hP hS hr hlk dX7_enters_14 ⟨Option.some.inj h, rfl⟩
  · rw [hw.1] at hP
    obtain ⟨-, j_1, hj_1, ej_1, l9, rfl⟩ := hw
    replace h := it_f h (nocart ej_1 hj_1 l9)
    obtain ⟨k9, ek9, h⟩ := bnd h
    replace ek9 := ix_s ek9 (by decide)
    obtain rfl : j_1 = k9 := nI_inj (ej_1.symm.trans ek9.1) (by omega) (by have := ek9.2; omega)
    refine lv_astore_n (lv' := [(2, .ref (ad (22 * 0 + 15 + j_1))), (0, .ref (ad 66)), (1, .int x1)]) hx hb dX7_enters_8 rfl hl (by decide) rfl (fun ls hl => ?_)
    refine lv_aload_n hx hb dX7_enters_9 rfl (lv_at hl 0 rfl) ?_
    refine lv_ifnonnull (tgt := 15) hx hb dX7_enters_10 (by decide) ?_
    refine lv_aload_n hx hb dX7_enters_15 rfl (lv_at hl 1 rfl) ?_
    refine gf_X7_12 C0 X hP 66 (q := 0) ⟨by decide, rfl⟩ (by omega) rfl dX7_enters_16 ?_
    refine gf_X7_70 C0 X hP 0 (q := 1) ⟨by decide, rfl⟩ (by omega) rfl dX7_enters_19 ?_
    refine lv_aload_n hx hb dX7_enters_22 rfl (lv_at hl 0 rfl) ?_
    refine gf_X7_154 C0 X hP (22 * 0 + 15 + j_1) (kdC 0 (by decide) j_1 hj_1) dX7_enters_23 ?_
    obtain ⟨r_2, er_2, h⟩ := bnd h
    refine r_ci X hS (r_runV (As := [.int (σ (22 * 0 + 15 + j_1) 6)]) (rest := []) C0 X hP L_X7_186 (fun sz => c_X4_placeOf l D cA ad o σ 0 (σ (22 * 0 + 15 + j_1) 6) (by decide) r_2 er_2 sz) (show 1 < 106 ∧ kd 1 = (4, 13) from ⟨by decide, rfl⟩).1 (show 1 < 106 ∧ kd 1 = (4, 13) from ⟨by decide, rfl⟩).2 (by decide) rfl ⟨Nat.le_of_ble_eq_true rfl, Nat.le_of_ble_eq_true rfl⟩ rfl hl.1 rfl (Nat.le_of_ble_eq_true rfl) dX7_enters_26 ⟨Nat.zero_le _, Nat.zero_le _⟩) (fun r9 σ9 H locs hw hP hS => ?_)
    rw [hw.2] at hP
    rw [hw.1]
    refine lv_if_ge (tgt := 35) hx hb dX7_enters_29 (by decide) (fun c_3 => ?_) (fun c_3 => ?_)
    · replace h := it_t h c_3
      refine lv_aload_n hx hb dX7_enters_35 rfl (lv_at hl 1 rfl) ?_
      refine gf_X7_12 C0 X hP 66 (q := 0) ⟨by decide, rfl⟩ (by omega) rfl dX7_enters_36 ?_
      refine lv_aload_n hx hb dX7_enters_39 rfl (lv_at hl 0 rfl) ?_
      obtain ⟨r_4, er_4, h⟩ := bnd h
      refine r_ci X hS (r_runV (As := [.ref (ad (22 * 0 + 15 + j_1))]) (rest := []) C0 X hP L_X7_189 (fun sz => c_X6_letsIn l D cA ad o σ 0 (22 * 0 + 15 + j_1) (by decide) (kdC 0 (by decide) j_1 hj_1) r_4 er_4 sz) (show 0 < 106 ∧ kd 0 = (6, 11) from ⟨by decide, rfl⟩).1 (show 0 < 106 ∧ kd 0 = (6, 11) from ⟨by decide, rfl⟩).2 (by decide) rfl ⟨Nat.le_of_ble_eq_true rfl, Nat.le_of_ble_eq_true rfl⟩ rfl hl.1 rfl (Nat.le_of_ble_eq_true rfl) dX7_enters_40 ⟨Nat.zero_le _, Nat.zero_le _⟩) (fun r9 σ9 H locs hw hP hS => ?_)
      rw [hw.2] at hP
      rw [hw.1]
      refine lv_if_eq (tgt := 50) hx hb dX7_enters_43 (by decide) (fun c_5 => ?_) (fun c_5 => ?_)
      · replace h := it_t h c_5
        refine lv_iconst (v := 0) hx hb dX7_enters_50 (by decide) ?_
        exact r_iret C0 X hP hS hr hlk dX7_enters_51 ⟨Option.some.inj h, rfl⟩
      · replace h := it_f h c_5
        refine lv_iconst (v := 1) hx hb dX7_enters_46 (by decide) ?_
        refine lv_goto (tgt := 51) hx hb dX7_enters_47 (by decide) ?_
        exact r_iret C0 X hP hS hr hlk dX7_enters_51 ⟨Option.some.inj h, rfl⟩
    · replace h := it_f h c_3
      refine lv_bipush (v := (-3)) hx hb dX7_enters_32 (by decide) ?_
      exact r_iret C0 X hP hS hr hlk dX7_enters_34 ⟨Option.some.inj h, rfl⟩
def bB_cX7_yields : Nat := 0xacc800b607151d1c1b0c00b42a0736c500b6c100b604190c00b42a4600b40c00b42a1600a70307009906150636030400a70407009bba00b69a00b404194600b40c00b42aacfd1006009c9a00b405190b009b9a00b4041913009f6700b405196700b40419ac020500a1061d08009b1dac020500a01c1b0800c605190d00c60419053a6300b61c0c00b42a043a6300b61b0c00b42a
theorem yB_cX7_yields : BYS cX7_yields 148 bB_cX7_yields := BYS_of (by decide +kernel)
theorem dX7_yields_0 : decode cX7_yields 0 = .ok (.aload_n 0, 1) := D_42 yB_cX7_yields rfl rfl
theorem dX7_yields_1 : decode cX7_yields 1 = .ok (.getfield 12, 3) := D_180 yB_cX7_yields rfl rfl rfl
theorem dX7_yields_4 : decode cX7_yields 4 = .ok (.iload_n 1, 1) := D_27 yB_cX7_yields rfl rfl
theorem dX7_yields_5 : decode cX7_yields 5 = .ok (.invokevirtual 99, 3) := D_182 yB_cX7_yields rfl rfl rfl
theorem dX7_yields_8 : decode cX7_yields 8 = .ok (.astore 4, 2) := D_58 yB_cX7_yields rfl rfl rfl
theorem dX7_yields_10 : decode cX7_yields 10 = .ok (.aload_n 0, 1) := D_42 yB_cX7_yields rfl rfl
theorem dX7_yields_11 : decode cX7_yields 11 = .ok (.getfield 12, 3) := D_180 yB_cX7_yields rfl rfl rfl
theorem dX7_yields_14 : decode cX7_yields 14 = .ok (.iload_n 2, 1) := D_28 yB_cX7_yields rfl rfl
theorem dX7_yields_15 : decode cX7_yields 15 = .ok (.invokevirtual 99, 3) := D_182 yB_cX7_yields rfl rfl rfl
theorem dX7_yields_18 : decode cX7_yields 18 = .ok (.astore 5, 2) := D_58 yB_cX7_yields rfl rfl rfl
theorem dX7_yields_20 : decode cX7_yields 20 = .ok (.aload 4, 2) := D_25 yB_cX7_yields rfl rfl rfl
theorem dX7_yields_22 : decode cX7_yields 22 = .ok (.ifnull 13, 3) := D_198 yB_cX7_yields rfl rfl (sg_p (m := 32768) (N := 13) rfl rfl rfl)
theorem dX7_yields_25 : decode cX7_yields 25 = .ok (.aload 5, 2) := D_25 yB_cX7_yields rfl rfl rfl
theorem dX7_yields_27 : decode cX7_yields 27 = .ok (.ifnull 8, 3) := D_198 yB_cX7_yields rfl rfl (sg_p (m := 32768) (N := 8) rfl rfl rfl)
theorem dX7_yields_30 : decode cX7_yields 30 = .ok (.iload_n 1, 1) := D_27 yB_cX7_yields rfl rfl
theorem dX7_yields_31 : decode cX7_yields 31 = .ok (.iload_n 2, 1) := D_28 yB_cX7_yields rfl rfl
theorem dX7_yields_32 : decode cX7_yields 32 = .ok (.if_icmp .ne 5, 3) := D_160 yB_cX7_yields rfl rfl (sg_p (m := 32768) (N := 5) rfl rfl rfl)
theorem dX7_yields_35 : decode cX7_yields 35 = .ok (.iconst (-1), 1) := D_2 yB_cX7_yields rfl rfl
theorem dX7_yields_36 : decode cX7_yields 36 = .ok (.ireturn, 1) := D_172 yB_cX7_yields rfl rfl
theorem dX7_yields_37 : decode cX7_yields 37 = .ok (.iload_n 3, 1) := D_29 yB_cX7_yields rfl rfl
theorem dX7_yields_38 : decode cX7_yields 38 = .ok (.ifCond .lt 8, 3) := D_155 yB_cX7_yields rfl rfl (sg_p (m := 32768) (N := 8) rfl rfl rfl)
theorem dX7_yields_41 : decode cX7_yields 41 = .ok (.iload_n 3, 1) := D_29 yB_cX7_yields rfl rfl
theorem dX7_yields_42 : decode cX7_yields 42 = .ok (.iconst 3, 1) := D_6 yB_cX7_yields rfl rfl
theorem dX7_yields_43 : decode cX7_yields 43 = .ok (.if_icmp .lt 5, 3) := D_161 yB_cX7_yields rfl rfl (sg_p (m := 32768) (N := 5) rfl rfl rfl)
theorem dX7_yields_46 : decode cX7_yields 46 = .ok (.iconst (-1), 1) := D_2 yB_cX7_yields rfl rfl
theorem dX7_yields_47 : decode cX7_yields 47 = .ok (.ireturn, 1) := D_172 yB_cX7_yields rfl rfl
theorem dX7_yields_48 : decode cX7_yields 48 = .ok (.aload 4, 2) := D_25 yB_cX7_yields rfl rfl rfl
theorem dX7_yields_50 : decode cX7_yields 50 = .ok (.getfield 103, 3) := D_180 yB_cX7_yields rfl rfl rfl
theorem dX7_yields_53 : decode cX7_yields 53 = .ok (.aload 5, 2) := D_25 yB_cX7_yields rfl rfl rfl
theorem dX7_yields_55 : decode cX7_yields 55 = .ok (.getfield 103, 3) := D_180 yB_cX7_yields rfl rfl rfl
theorem dX7_yields_58 : decode cX7_yields 58 = .ok (.if_icmp .eq 19, 3) := D_159 yB_cX7_yields rfl rfl (sg_p (m := 32768) (N := 19) rfl rfl rfl)
theorem dX7_yields_61 : decode cX7_yields 61 = .ok (.aload 4, 2) := D_25 yB_cX7_yields rfl rfl rfl
theorem dX7_yields_63 : decode cX7_yields 63 = .ok (.getfield 154, 3) := D_180 yB_cX7_yields rfl rfl rfl
theorem dX7_yields_66 : decode cX7_yields 66 = .ok (.ifCond .lt 11, 3) := D_155 yB_cX7_yields rfl rfl (sg_p (m := 32768) (N := 11) rfl rfl rfl)
theorem dX7_yields_69 : decode cX7_yields 69 = .ok (.aload 5, 2) := D_25 yB_cX7_yields rfl rfl rfl
theorem dX7_yields_71 : decode cX7_yields 71 = .ok (.getfield 154, 3) := D_180 yB_cX7_yields rfl rfl rfl
theorem dX7_yields_74 : decode cX7_yields 74 = .ok (.ifCond .ge 6, 3) := D_156 yB_cX7_yields rfl rfl (sg_p (m := 32768) (N := 6) rfl rfl rfl)
theorem dX7_yields_77 : decode cX7_yields 77 = .ok (.bipush (-3), 2) := D_16 yB_cX7_yields rfl rfl (sg_n (m := 128) (N := 3) rfl rfl rfl)
theorem dX7_yields_79 : decode cX7_yields 79 = .ok (.ireturn, 1) := D_172 yB_cX7_yields rfl rfl
theorem dX7_yields_80 : decode cX7_yields 80 = .ok (.aload_n 0, 1) := D_42 yB_cX7_yields rfl rfl
theorem dX7_yields_81 : decode cX7_yields 81 = .ok (.getfield 12, 3) := D_180 yB_cX7_yields rfl rfl rfl
theorem dX7_yields_84 : decode cX7_yields 84 = .ok (.getfield 70, 3) := D_180 yB_cX7_yields rfl rfl rfl
theorem dX7_yields_87 : decode cX7_yields 87 = .ok (.aload 4, 2) := D_25 yB_cX7_yields rfl rfl rfl
theorem dX7_yields_89 : decode cX7_yields 89 = .ok (.getfield 154, 3) := D_180 yB_cX7_yields rfl rfl rfl
theorem dX7_yields_92 : decode cX7_yields 92 = .ok (.invokevirtual 186, 3) := D_182 yB_cX7_yields rfl rfl rfl
theorem dX7_yields_95 : decode cX7_yields 95 = .ok (.ifCond .lt 7, 3) := D_155 yB_cX7_yields rfl rfl (sg_p (m := 32768) (N := 7) rfl rfl rfl)
theorem dX7_yields_98 : decode cX7_yields 98 = .ok (.iconst 1, 1) := D_4 yB_cX7_yields rfl rfl
theorem dX7_yields_99 : decode cX7_yields 99 = .ok (.goto 4, 3) := D_167 yB_cX7_yields rfl rfl (sg_p (m := 32768) (N := 4) rfl rfl rfl)
theorem dX7_yields_102 : decode cX7_yields 102 = .ok (.iconst 0, 1) := D_3 yB_cX7_yields rfl rfl
theorem dX7_yields_103 : decode cX7_yields 103 = .ok (.istore 6, 2) := D_54 yB_cX7_yields rfl rfl rfl
theorem dX7_yields_105 : decode cX7_yields 105 = .ok (.iload 6, 2) := D_21 yB_cX7_yields rfl rfl rfl
theorem dX7_yields_107 : decode cX7_yields 107 = .ok (.ifCond .eq 7, 3) := D_153 yB_cX7_yields rfl rfl (sg_p (m := 32768) (N := 7) rfl rfl rfl)
theorem dX7_yields_110 : decode cX7_yields 110 = .ok (.iconst 0, 1) := D_3 yB_cX7_yields rfl rfl
theorem dX7_yields_111 : decode cX7_yields 111 = .ok (.goto 22, 3) := D_167 yB_cX7_yields rfl rfl (sg_p (m := 32768) (N := 22) rfl rfl rfl)
theorem dX7_yields_114 : decode cX7_yields 114 = .ok (.aload_n 0, 1) := D_42 yB_cX7_yields rfl rfl
theorem dX7_yields_115 : decode cX7_yields 115 = .ok (.getfield 12, 3) := D_180 yB_cX7_yields rfl rfl rfl
theorem dX7_yields_118 : decode cX7_yields 118 = .ok (.getfield 70, 3) := D_180 yB_cX7_yields rfl rfl rfl
theorem dX7_yields_121 : decode cX7_yields 121 = .ok (.aload_n 0, 1) := D_42 yB_cX7_yields rfl rfl
theorem dX7_yields_122 : decode cX7_yields 122 = .ok (.getfield 12, 3) := D_180 yB_cX7_yields rfl rfl rfl
theorem dX7_yields_125 : decode cX7_yields 125 = .ok (.aload 4, 2) := D_25 yB_cX7_yields rfl rfl rfl
theorem dX7_yields_127 : decode cX7_yields 127 = .ok (.invokevirtual 193, 3) := D_182 yB_cX7_yields rfl rfl rfl
theorem dX7_yields_130 : decode cX7_yields 130 = .ok (.invokevirtual 197, 3) := D_182 yB_cX7_yields rfl rfl rfl
theorem dX7_yields_133 : decode cX7_yields 133 = .ok (.istore 7, 2) := D_54 yB_cX7_yields rfl rfl rfl
theorem dX7_yields_135 : decode cX7_yields 135 = .ok (.aload_n 0, 1) := D_42 yB_cX7_yields rfl rfl
theorem dX7_yields_136 : decode cX7_yields 136 = .ok (.getfield 12, 3) := D_180 yB_cX7_yields rfl rfl rfl
theorem dX7_yields_139 : decode cX7_yields 139 = .ok (.iload_n 1, 1) := D_27 yB_cX7_yields rfl rfl
theorem dX7_yields_140 : decode cX7_yields 140 = .ok (.iload_n 2, 1) := D_28 yB_cX7_yields rfl rfl
theorem dX7_yields_141 : decode cX7_yields 141 = .ok (.iload_n 3, 1) := D_29 yB_cX7_yields rfl rfl
theorem dX7_yields_142 : decode cX7_yields 142 = .ok (.iload 7, 2) := D_21 yB_cX7_yields rfl rfl rfl
theorem dX7_yields_144 : decode cX7_yields 144 = .ok (.invokevirtual 200, 3) := D_182 yB_cX7_yields rfl rfl rfl
theorem dX7_yields_147 : decode cX7_yields 147 = .ok (.ireturn, 1) := D_172 yB_cX7_yields rfl rfl
def F_X7_yields (σ : Mem) (x1 : Int32) (x2 : Int32) (x3 : Int32) : Option (Int32) := if x1 < 0 ∨ σ (22 * 0) 2 ≤ x1 ∨ 7 ≤ x1 then (if x2 < 0 ∨ σ (22 * 0) 2 ≤ x2 ∨ 7 ≤ x2 then (some (-1)) else ((ix 7 x2).bind fun j_2 => some (-1))) else ((ix 7 x1).bind fun j_1 => if x2 < 0 ∨ σ (22 * 0) 2 ≤ x2 ∨ 7 ≤ x2 then (some (-1)) else ((ix 7 x2).bind fun j_3 => if x1 = x2 then (some (-1)) else (if x3 < 0 then (some (-1)) else (if x3 < 3 then (if (σ (22 * 0 + 15 + j_1) 0) = (σ (22 * 0 + 15 + j_3) 0) then (some (-3)) else (if (σ (22 * 0 + 15 + j_1) 6) < 0 then (some (-3)) else (if 0 ≤ (σ (22 * 0 + 15 + j_3) 6) then ((F_X4_placeOf σ 0 (σ (22 * 0 + 15 + j_1) 6)).bind fun r_10 => if r_10 < 0 then ((F_X6_pieceAhead σ 0 (22 * 0 + 15 + j_1)).bind fun r_13 => (F_X4_hillOf σ 0 r_13).bind fun r_14 => (F_X6_backerOf σ 0 x1 x2 x3 r_14).bind fun r_15 => some r_15) else ((F_X6_backerOf σ 0 x1 x2 x3 0).bind fun r_17 => some r_17)) else (some (-3))))) else (some (-1))))))
set_option maxHeartbeats 4000000 in
set_option maxRecDepth 100000 in
theorem c_X7_yields (l : Launch) (D : va_G) (cA : Nat → ClassId) (ad : Nat → Nat) (o : Int64) (σ : Mem) (x1 : Int32) (x2 : Int32) (x3 : Int32)  (res : Int32) (h : F_X7_yields σ x1 x2 x3 = some res) (sz : Nat) : Met l yX7_yields (WY yX7_yields cX7_yields 8 (some .int)) (RM 2) (va_Pc [.ref (ad 66), .int x1, .int x2, .int x3] (PW D cA ad o σ sz)) (va_Qi (fun r σ9 => r = res ∧ σ9 = σ) (QW D cA ad o) (FA ad sz)) 0 0 (FA ad sz) := by
  refine ct_of (own := RX7) (k := 2) (Qf := va_Qi (fun r σ9 => r = res ∧ σ9 = σ) (QW D cA ad o)) rfl (by decide) (Nat.le_of_ble_eq_true rfl) (fun p e s m below meth c ls C0 X hr hlk hP hl => ?_) sz
  have hS : va_S (FA ad s.heap.size) s.heap s.heap [] := va_S.rf
  have hl : lv_has ls 8 [(0, .ref (ad 66)), (1, .int x1), (2, .int x2), (3, .int x3)] := hl
  obtain ⟨hx, hb, hml, hown, hts⟩ := id C0
  unfold F_X7_yields at h
  refine lv_aload_n hx hb dX7_yields_0 rfl (lv_at hl 0 rfl) ?_
  refine gf_X7_12 C0 X hP 66 (q := 0) ⟨by decide, rfl⟩ (by omega) rfl dX7_yields_1 ?_
  refine lv_iload_n hx hb dX7_yields_4 rfl (lv_at hl 1 rfl) ?_
  refine r_cq X hS (r_runV (As := [.int x1]) (rest := []) C0 X hP L_X7_99 (fun sz => c_X6_cartAt l D cA ad o σ 0 x1 (by decide) sz) (show 0 < 106 ∧ kd 0 = (6, 11) from ⟨by decide, rfl⟩).1 (show 0 < 106 ∧ kd 0 = (6, 11) from ⟨by decide, rfl⟩).2 (by decide) rfl ⟨Nat.le_of_ble_eq_true rfl, Nat.le_of_ble_eq_true rfl⟩ rfl hl.1 rfl (Nat.le_of_ble_eq_true rfl) dX7_yields_5 ⟨Nat.zero_le _, Nat.zero_le _⟩) (fun σ9 H locs hw hP hS => ?_) (fun x9 σ9 H locs hw hP hS => ?_)
  · rw [hw.1] at hP
    replace h := it_t h hw.2
    refine lv_astoreN (lv' := [(4, .null), (0, .ref (ad 66)), (1, .int x1), (2, .int x2), (3, .int x3)]) hx hb dX7_yields_8 hl (by decide) rfl (fun ls hl => ?_)
    refine lv_aload_n hx hb dX7_yields_10 rfl (lv_at hl 1 rfl) ?_
    refine gf_X7_12 C0 X hP 66 (q := 0) ⟨by decide, rfl⟩ (by omega) rfl dX7_yields_11 ?_
    refine lv_iload_n hx hb dX7_yields_14 rfl (lv_at hl 3 rfl) ?_
    refine r_cq X hS (r_runV (As := [.int x2]) (rest := []) C0 X hP L_X7_99 (fun sz => c_X6_cartAt l D cA ad o σ 0 x2 (by decide) sz) (show 0 < 106 ∧ kd 0 = (6, 11) from ⟨by decide, rfl⟩).1 (show 0 < 106 ∧ kd 0 = (6, 11) from ⟨by decide, rfl⟩).2 (by decide) rfl ⟨Nat.le_of_ble_eq_true rfl, Nat.le_of_ble_eq_true rfl⟩ rfl hl.1 rfl (Nat.le_of_ble_eq_true rfl) dX7_yields_15 ⟨Nat.zero_le _, Nat.zero_le _⟩) (fun σ9 H locs hw hP hS => ?_) (fun x9 σ9 H locs hw hP hS => ?_)
    · rw [hw.1] at hP
      replace h := it_t h hw.2
      refine lv_astoreN (lv' := [(5, .null), (4, .null), (0, .ref (ad 66)), (1, .int x1), (2, .int x2), (3, .int x3)]) hx hb dX7_yields_18 hl (by decide) rfl (fun ls hl => ?_)
      refine lv_aloadN hx hb dX7_yields_20 (lv_at hl 1 rfl) ?_
      refine lv_ifnullN (tgt := 35) hx hb dX7_yields_22 (by decide) ?_
      refine lv_iconst (v := (-1)) hx hb dX7_yields_35 (by decide) ?_
      exact r_iret C0 X hP hS hr hlk dX7_yields_36 ⟨Option.some.inj h, rfl⟩
    · rw [hw.1] at hP
      obtain ⟨-, j_2, hj_2, ej_2, l9, rfl⟩ := hw
      replace h := it_f h (nocart ej_2 hj_2 l9)
      obtain ⟨k9, ek9, h⟩ := bnd h
      replace ek9 := ix_s ek9 (by decide)
      obtain rfl : j_2 = k9 := nI_inj (ej_2.symm.trans ek9.1) (by omega) (by have := ek9.2; omega)
      refine lv_astore (lv' := [(5, .ref (ad (22 * 0 + 15 + j_2))), (4, .null), (0, .ref (ad 66)), (1, .int x1), (2, .int x2), (3, .int x3)]) hx hb dX7_yields_18 hl (by decide) rfl (fun ls hl => ?_)
      refine lv_aloadN hx hb dX7_yields_20 (lv_at hl 1 rfl) ?_
      refine lv_ifnullN (tgt := 35) hx hb dX7_yields_22 (by decide) ?_
      refine lv_iconst (v := (-1)) hx hb dX7_yields_35 (by decide) ?_
      exact r_iret C0 X hP hS hr hlk dX7_yields_36 ⟨Option.some.inj h, rfl⟩
  · rw [hw.1] at hP
    obtain ⟨-, j_1, hj_1, ej_1, l9, rfl⟩ := hw
    replace h := it_f h (nocart ej_1 hj_1 l9)
    obtain ⟨k9, ek9, h⟩ := bnd h
    replace ek9 := ix_s ek9 (by decide)
    obtain rfl : j_1 = k9 := nI_inj (ej_1.symm.trans ek9.1) (by omega) (by have := ek9.2; omega)
    refine lv_astore (lv' := [(4, .ref (ad (22 * 0 + 15 + j_1))), (0, .ref (ad 66)), (1, .int x1), (2, .int x2), (3, .int x3)]) hx hb dX7_yields_8 hl (by decide) rfl (fun ls hl => ?_)
    refine lv_aload_n hx hb dX7_yields_10 rfl (lv_at hl 1 rfl) ?_
    refine gf_X7_12 C0 X hP 66 (q := 0) ⟨by decide, rfl⟩ (by omega) rfl dX7_yields_11 ?_
    refine lv_iload_n hx hb dX7_yields_14 rfl (lv_at hl 3 rfl) ?_
    refine r_cq X hS (r_runV (As := [.int x2]) (rest := []) C0 X hP L_X7_99 (fun sz => c_X6_cartAt l D cA ad o σ 0 x2 (by decide) sz) (show 0 < 106 ∧ kd 0 = (6, 11) from ⟨by decide, rfl⟩).1 (show 0 < 106 ∧ kd 0 = (6, 11) from ⟨by decide, rfl⟩).2 (by decide) rfl ⟨Nat.le_of_ble_eq_true rfl, Nat.le_of_ble_eq_true rfl⟩ rfl hl.1 rfl (Nat.le_of_ble_eq_true rfl) dX7_yields_15 ⟨Nat.zero_le _, Nat.zero_le _⟩) (fun σ9 H locs hw hP hS => ?_) (fun x9 σ9 H locs hw hP hS => ?_)
    · rw [hw.1] at hP
      replace h := it_t h hw.2
      refine lv_astoreN (lv' := [(5, .null), (4, .ref (ad (22 * 0 + 15 + j_1))), (0, .ref (ad 66)), (1, .int x1), (2, .int x2), (3, .int x3)]) hx hb dX7_yields_18 hl (by decide) rfl (fun ls hl => ?_)
      refine lv_aload hx hb dX7_yields_20 (lv_at hl 1 rfl) ?_
      refine lv_ifnull hx hb dX7_yields_22 ?_
      refine lv_aloadN hx hb dX7_yields_25 (lv_at hl 0 rfl) ?_
      refine lv_ifnullN (tgt := 35) hx hb dX7_yields_27 (by decide) ?_
      refine lv_iconst (v := (-1)) hx hb dX7_yields_35 (by decide) ?_
      exact r_iret C0 X hP hS hr hlk dX7_yields_36 ⟨Option.some.inj h, rfl⟩
    · rw [hw.1] at hP
      obtain ⟨-, j_3, hj_3, ej_3, l9, rfl⟩ := hw
      replace h := it_f h (nocart ej_3 hj_3 l9)
      obtain ⟨k9, ek9, h⟩ := bnd h
      replace ek9 := ix_s ek9 (by decide)
      obtain rfl : j_3 = k9 := nI_inj (ej_3.symm.trans ek9.1) (by omega) (by have := ek9.2; omega)
      refine lv_astore (lv' := [(5, .ref (ad (22 * 0 + 15 + j_3))), (4, .ref (ad (22 * 0 + 15 + j_1))), (0, .ref (ad 66)), (1, .int x1), (2, .int x2), (3, .int x3)]) hx hb dX7_yields_18 hl (by decide) rfl (fun ls hl => ?_)
      refine lv_aload hx hb dX7_yields_20 (lv_at hl 1 rfl) ?_
      refine lv_ifnull hx hb dX7_yields_22 ?_
      refine lv_aload hx hb dX7_yields_25 (lv_at hl 0 rfl) ?_
      refine lv_ifnull hx hb dX7_yields_27 ?_
      refine lv_iload_n hx hb dX7_yields_30 rfl (lv_at hl 3 rfl) ?_
      refine lv_iload_n hx hb dX7_yields_31 rfl (lv_at hl 4 rfl) ?_
      refine lv_icmp_ne (tgt := 37) hx hb dX7_yields_32 (by decide) (fun c_4 => ?_) (fun c_4 => ?_)
      · replace h := it_f h c_4
        refine lv_iload_n hx hb dX7_yields_37 rfl (lv_at hl 5 rfl) ?_
        refine lv_if_lt (tgt := 46) hx hb dX7_yields_38 (by decide) (fun c_5 => ?_) (fun c_5 => ?_)
        · replace h := it_t h c_5
          refine lv_iconst (v := (-1)) hx hb dX7_yields_46 (by decide) ?_
          exact r_iret C0 X hP hS hr hlk dX7_yields_47 ⟨Option.some.inj h, rfl⟩
        · replace h := it_f h c_5
          refine lv_iload_n hx hb dX7_yields_41 rfl (lv_at hl 5 rfl) ?_
          refine lv_iconst (v := 3) hx hb dX7_yields_42 (by decide) ?_
          refine lv_icmp_lt (tgt := 48) hx hb dX7_yields_43 (by decide) (fun c_6 => ?_) (fun c_6 => ?_)
          · replace h := it_t h c_6
            refine lv_aload hx hb dX7_yields_48 (lv_at hl 1 rfl) ?_
            refine gf_X7_103 C0 X hP (22 * 0 + 15 + j_1) (kdC 0 (by decide) j_1 hj_1) dX7_yields_50 ?_
            refine lv_aload hx hb dX7_yields_53 (lv_at hl 0 rfl) ?_
            refine gf_X7_103 C0 X hP (22 * 0 + 15 + j_3) (kdC 0 (by decide) j_3 hj_3) dX7_yields_55 ?_
            refine lv_icmp_eq (tgt := 77) hx hb dX7_yields_58 (by decide) (fun c_7 => ?_) (fun c_7 => ?_)
            · replace h := it_t h c_7
              refine lv_bipush (v := (-3)) hx hb dX7_yields_77 (by decide) ?_
              exact r_iret C0 X hP hS hr hlk dX7_yields_79 ⟨Option.some.inj h, rfl⟩
            · replace h := it_f h c_7
              refine lv_aload hx hb dX7_yields_61 (lv_at hl 1 rfl) ?_
              refine gf_X7_154 C0 X hP (22 * 0 + 15 + j_1) (kdC 0 (by decide) j_1 hj_1) dX7_yields_63 ?_
              refine lv_if_lt (tgt := 77) hx hb dX7_yields_66 (by decide) (fun c_8 => ?_) (fun c_8 => ?_)
              · replace h := it_t h c_8
                refine lv_bipush (v := (-3)) hx hb dX7_yields_77 (by decide) ?_
                exact r_iret C0 X hP hS hr hlk dX7_yields_79 ⟨Option.some.inj h, rfl⟩
              · replace h := it_f h c_8
                refine lv_aload hx hb dX7_yields_69 (lv_at hl 0 rfl) ?_
                refine gf_X7_154 C0 X hP (22 * 0 + 15 + j_3) (kdC 0 (by decide) j_3 hj_3) dX7_yields_71 ?_
                refine lv_if_ge (tgt := 80) hx hb dX7_yields_74 (by decide) (fun c_9 => ?_) (fun c_9 => ?_)
                · replace h := it_t h c_9
                  refine lv_aload_n hx hb dX7_yields_80 rfl (lv_at hl 2 rfl) ?_
                  refine gf_X7_12 C0 X hP 66 (q := 0) ⟨by decide, rfl⟩ (by omega) rfl dX7_yields_81 ?_
                  refine gf_X7_70 C0 X hP 0 (q := 1) ⟨by decide, rfl⟩ (by omega) rfl dX7_yields_84 ?_
                  refine lv_aload hx hb dX7_yields_87 (lv_at hl 1 rfl) ?_
                  refine gf_X7_154 C0 X hP (22 * 0 + 15 + j_1) (kdC 0 (by decide) j_1 hj_1) dX7_yields_89 ?_
                  obtain ⟨r_10, er_10, h⟩ := bnd h
                  refine r_ci X hS (r_runV (As := [.int (σ (22 * 0 + 15 + j_1) 6)]) (rest := []) C0 X hP L_X7_186 (fun sz => c_X4_placeOf l D cA ad o σ 0 (σ (22 * 0 + 15 + j_1) 6) (by decide) r_10 er_10 sz) (show 1 < 106 ∧ kd 1 = (4, 13) from ⟨by decide, rfl⟩).1 (show 1 < 106 ∧ kd 1 = (4, 13) from ⟨by decide, rfl⟩).2 (by decide) rfl ⟨Nat.le_of_ble_eq_true rfl, Nat.le_of_ble_eq_true rfl⟩ rfl hl.1 rfl (Nat.le_of_ble_eq_true rfl) dX7_yields_92 ⟨Nat.zero_le _, Nat.zero_le _⟩) (fun r9 σ9 H locs hw hP hS => ?_)
                  rw [hw.2] at hP
                  rw [hw.1]
                  refine lv_if_lt (tgt := 102) hx hb dX7_yields_95 (by decide) (fun c_11 => ?_) (fun c_11 => ?_)
                  · replace h := it_t h c_11
                    refine lv_iconst (v := 0) hx hb dX7_yields_102 (by decide) ?_
                    refine lv_istore (lv' := [(6, .int 0), (5, .ref (ad (22 * 0 + 15 + j_3))), (4, .ref (ad (22 * 0 + 15 + j_1))), (0, .ref (ad 66)), (1, .int x1), (2, .int x2), (3, .int x3)]) hx hb dX7_yields_103 hl (by decide) rfl (fun ls hl => ?_)
                    refine lv_iload hx hb dX7_yields_105 (lv_at hl 0 rfl) ?_
                    refine lv_if_eq (tgt := 114) hx hb dX7_yields_107 (by decide) (fun _ => ?_) (fun c_12 => absurd c_12 (by decide))
                    refine lv_aload_n hx hb dX7_yields_114 rfl (lv_at hl 3 rfl) ?_
                    refine gf_X7_12 C0 X hP 66 (q := 0) ⟨by decide, rfl⟩ (by omega) rfl dX7_yields_115 ?_
                    refine gf_X7_70 C0 X hP 0 (q := 1) ⟨by decide, rfl⟩ (by omega) rfl dX7_yields_118 ?_
                    refine lv_aload_n hx hb dX7_yields_121 rfl (lv_at hl 3 rfl) ?_
                    refine gf_X7_12 C0 X hP 66 (q := 0) ⟨by decide, rfl⟩ (by omega) rfl dX7_yields_122 ?_
                    refine lv_aload hx hb dX7_yields_125 (lv_at hl 2 rfl) ?_
                    obtain ⟨r_13, er_13, h⟩ := bnd h
                    refine r_ci X hS (r_runV (As := [.ref (ad (22 * 0 + 15 + j_1))]) (rest := [.ref (ad 1)]) C0 X hP L_X7_193 (fun sz => c_X6_pieceAhead l D cA ad o σ 0 (22 * 0 + 15 + j_1) (by decide) (kdC 0 (by decide) j_1 hj_1) r_13 er_13 sz) (show 0 < 106 ∧ kd 0 = (6, 11) from ⟨by decide, rfl⟩).1 (show 0 < 106 ∧ kd 0 = (6, 11) from ⟨by decide, rfl⟩).2 (by decide) rfl ⟨Nat.le_of_ble_eq_true rfl, Nat.le_of_ble_eq_true rfl⟩ rfl hl.1 rfl (Nat.le_of_ble_eq_true rfl) dX7_yields_127 ⟨Nat.zero_le _, Nat.zero_le _⟩) (fun r9 σ9 H locs hw hP hS => ?_)
                    rw [hw.2] at hP
                    rw [hw.1]
                    obtain ⟨r_14, er_14, h⟩ := bnd h
                    refine r_ci X hS (r_runV (As := [.int r_13]) (rest := []) C0 X hP L_X7_197 (fun sz => c_X4_hillOf l D cA ad o σ 0 r_13 (by decide) r_14 er_14 sz) (show 1 < 106 ∧ kd 1 = (4, 13) from ⟨by decide, rfl⟩).1 (show 1 < 106 ∧ kd 1 = (4, 13) from ⟨by decide, rfl⟩).2 (by decide) rfl ⟨Nat.le_of_ble_eq_true rfl, Nat.le_of_ble_eq_true rfl⟩ rfl hl.1 rfl (Nat.le_of_ble_eq_true rfl) dX7_yields_130 ⟨Nat.zero_le _, Nat.zero_le _⟩) (fun r9 σ9 H locs hw hP hS => ?_)
                    rw [hw.2] at hP
                    rw [hw.1]
                    refine lv_istore (lv' := [(7, .int r_14), (6, .int 0), (5, .ref (ad (22 * 0 + 15 + j_3))), (4, .ref (ad (22 * 0 + 15 + j_1))), (0, .ref (ad 66)), (1, .int x1), (2, .int x2), (3, .int x3)]) hx hb dX7_yields_133 hl (by decide) rfl (fun ls hl => ?_)
                    refine lv_aload_n hx hb dX7_yields_135 rfl (lv_at hl 4 rfl) ?_
                    refine gf_X7_12 C0 X hP 66 (q := 0) ⟨by decide, rfl⟩ (by omega) rfl dX7_yields_136 ?_
                    refine lv_iload_n hx hb dX7_yields_139 rfl (lv_at hl 5 rfl) ?_
                    refine lv_iload_n hx hb dX7_yields_140 rfl (lv_at hl 6 rfl) ?_
                    refine lv_iload_n hx hb dX7_yields_141 rfl (lv_at hl 7 rfl) ?_
                    refine lv_iload hx hb dX7_yields_142 (lv_at hl 0 rfl) ?_
                    obtain ⟨r_15, er_15, h⟩ := bnd h
                    refine r_ci X hS (r_runV (As := [.int x1, .int x2, .int x3, .int r_14]) (rest := []) C0 X hP L_X7_200 (fun sz => c_X6_backerOf l D cA ad o σ 0 x1 x2 x3 r_14 (by decide) r_15 er_15 sz) (show 0 < 106 ∧ kd 0 = (6, 11) from ⟨by decide, rfl⟩).1 (show 0 < 106 ∧ kd 0 = (6, 11) from ⟨by decide, rfl⟩).2 (by decide) rfl ⟨Nat.le_of_ble_eq_true rfl, Nat.le_of_ble_eq_true rfl⟩ rfl hl.1 rfl (Nat.le_of_ble_eq_true rfl) dX7_yields_144 ⟨Nat.zero_le _, Nat.zero_le _⟩) (fun r9 σ9 H locs hw hP hS => ?_)
                    rw [hw.2] at hP
                    rw [hw.1]
                    exact r_iret C0 X hP hS hr hlk dX7_yields_147 ⟨Option.some.inj h, rfl⟩
                  · replace h := it_f h c_11
                    refine lv_iconst (v := 1) hx hb dX7_yields_98 (by decide) ?_
                    refine lv_goto (tgt := 103) hx hb dX7_yields_99 (by decide) ?_
                    refine lv_istore (lv' := [(6, .int 1), (5, .ref (ad (22 * 0 + 15 + j_3))), (4, .ref (ad (22 * 0 + 15 + j_1))), (0, .ref (ad 66)), (1, .int x1), (2, .int x2), (3, .int x3)]) hx hb dX7_yields_103 hl (by decide) rfl (fun ls hl => ?_)
                    refine lv_iload hx hb dX7_yields_105 (lv_at hl 0 rfl) ?_
                    refine lv_if_eq (tgt := 114) hx hb dX7_yields_107 (by decide) (fun c_16 => absurd c_16 (by decide)) (fun _ => ?_)
                    refine lv_iconst (v := 0) hx hb dX7_yields_110 (by decide) ?_
                    refine lv_goto (tgt := 133) hx hb dX7_yields_111 (by decide) ?_
                    refine lv_istore (lv' := [(7, .int 0), (6, .int 1), (5, .ref (ad (22 * 0 + 15 + j_3))), (4, .ref (ad (22 * 0 + 15 + j_1))), (0, .ref (ad 66)), (1, .int x1), (2, .int x2), (3, .int x3)]) hx hb dX7_yields_133 hl (by decide) rfl (fun ls hl => ?_)
                    refine lv_aload_n hx hb dX7_yields_135 rfl (lv_at hl 4 rfl) ?_
                    refine gf_X7_12 C0 X hP 66 (q := 0) ⟨by decide, rfl⟩ (by omega) rfl dX7_yields_136 ?_
                    refine lv_iload_n hx hb dX7_yields_139 rfl (lv_at hl 5 rfl) ?_
                    refine lv_iload_n hx hb dX7_yields_140 rfl (lv_at hl 6 rfl) ?_
                    refine lv_iload_n hx hb dX7_yields_141 rfl (lv_at hl 7 rfl) ?_
                    refine lv_iload hx hb dX7_yields_142 (lv_at hl 0 rfl) ?_
                    obtain ⟨r_17, er_17, h⟩ := bnd h
                    refine r_ci X hS (r_runV (As := [.int x1, .int x2, .int x3, .int 0]) (rest := []) C0 X hP L_X7_200 (fun sz => c_X6_backerOf l D cA ad o σ 0 x1 x2 x3 0 (by decide) r_17 er_17 sz) (show 0 < 106 ∧ kd 0 = (6, 11) from ⟨by decide, rfl⟩).1 (show 0 < 106 ∧ kd 0 = (6, 11) from ⟨by decide, rfl⟩).2 (by decide) rfl ⟨Nat.le_of_ble_eq_true rfl, Nat.le_of_ble_eq_true rfl⟩ rfl hl.1 rfl (Nat.le_of_ble_eq_true rfl) dX7_yields_144 ⟨Nat.zero_le _, Nat.zero_le _⟩) (fun r9 σ9 H locs hw hP hS => ?_)
                    rw [hw.2] at hP
                    rw [hw.1]
                    exact r_iret C0 X hP hS hr hlk dX7_yields_147 ⟨Option.some.inj h, rfl⟩
                · replace h := it_f h c_9
                  refine lv_bipush (v := (-3)) hx hb dX7_yields_77 (by decide) ?_
                  exact r_iret C0 X hP hS hr hlk dX7_yields_79 ⟨Option.some.inj h, rfl⟩
          · replace h := it_f h c_6
            refine lv_iconst (v := (-1)) hx hb dX7_yields_46 (by decide) ?_
            exact r_iret C0 X hP hS hr hlk dX7_yields_47 ⟨Option.some.inj h, rfl⟩
      · replace h := it_t h c_4
        refine lv_iconst (v := (-1)) hx hb dX7_yields_35 (by decide) ?_
        exact r_iret C0 X hP hS hr hlk dX7_yields_36 ⟨Option.some.inj h, rfl⟩
def bB_cX7_judge : Nat := 0xacfc10bcffa7010584ac051506009f9a00b404192e0515cf00b42d15009fd200b62d2e0515cf00b42d8d00b61300b42a0a009a8a00b61300b42a3a00a2641005154100a2cc00b42d0515053603ac020500c70419043a6300b61b1300b42a3e00b60c00b42a1300b42aacfd1006009a4a00b44600b40c00b42aacf41006009f053600b42dacf51006009a3600b42dac020500c76300b61b0c00b42a0e00c62d4e3200b61c2a
theorem yB_cX7_judge : BYS cX7_judge 165 bB_cX7_judge := BYS_of (by decide +kernel)
theorem dX7_judge_0 : decode cX7_judge 0 = .ok (.aload_n 0, 1) := D_42 yB_cX7_judge rfl rfl
theorem dX7_judge_1 : decode cX7_judge 1 = .ok (.iload_n 2, 1) := D_28 yB_cX7_judge rfl rfl
theorem dX7_judge_2 : decode cX7_judge 2 = .ok (.invokevirtual 50, 3) := D_182 yB_cX7_judge rfl rfl rfl
theorem dX7_judge_5 : decode cX7_judge 5 = .ok (.astore_n 3, 1) := D_78 yB_cX7_judge rfl rfl
theorem dX7_judge_6 : decode cX7_judge 6 = .ok (.aload_n 3, 1) := D_45 yB_cX7_judge rfl rfl
theorem dX7_judge_7 : decode cX7_judge 7 = .ok (.ifnull 14, 3) := D_198 yB_cX7_judge rfl rfl (sg_p (m := 32768) (N := 14) rfl rfl rfl)
theorem dX7_judge_10 : decode cX7_judge 10 = .ok (.aload_n 0, 1) := D_42 yB_cX7_judge rfl rfl
theorem dX7_judge_11 : decode cX7_judge 11 = .ok (.getfield 12, 3) := D_180 yB_cX7_judge rfl rfl rfl
theorem dX7_judge_14 : decode cX7_judge 14 = .ok (.iload_n 1, 1) := D_27 yB_cX7_judge rfl rfl
theorem dX7_judge_15 : decode cX7_judge 15 = .ok (.invokevirtual 99, 3) := D_182 yB_cX7_judge rfl rfl rfl
theorem dX7_judge_18 : decode cX7_judge 18 = .ok (.ifnonnull 5, 3) := D_199 yB_cX7_judge rfl rfl (sg_p (m := 32768) (N := 5) rfl rfl rfl)
theorem dX7_judge_21 : decode cX7_judge 21 = .ok (.iconst (-1), 1) := D_2 yB_cX7_judge rfl rfl
theorem dX7_judge_22 : decode cX7_judge 22 = .ok (.ireturn, 1) := D_172 yB_cX7_judge rfl rfl
theorem dX7_judge_23 : decode cX7_judge 23 = .ok (.aload_n 3, 1) := D_45 yB_cX7_judge rfl rfl
theorem dX7_judge_24 : decode cX7_judge 24 = .ok (.getfield 54, 3) := D_180 yB_cX7_judge rfl rfl rfl
theorem dX7_judge_27 : decode cX7_judge 27 = .ok (.ifCond .ne 6, 3) := D_154 yB_cX7_judge rfl rfl (sg_p (m := 32768) (N := 6) rfl rfl rfl)
theorem dX7_judge_30 : decode cX7_judge 30 = .ok (.bipush (-11), 2) := D_16 yB_cX7_judge rfl rfl (sg_n (m := 128) (N := 11) rfl rfl rfl)
theorem dX7_judge_32 : decode cX7_judge 32 = .ok (.ireturn, 1) := D_172 yB_cX7_judge rfl rfl
theorem dX7_judge_33 : decode cX7_judge 33 = .ok (.aload_n 3, 1) := D_45 yB_cX7_judge rfl rfl
theorem dX7_judge_34 : decode cX7_judge 34 = .ok (.getfield 54, 3) := D_180 yB_cX7_judge rfl rfl rfl
theorem dX7_judge_37 : decode cX7_judge 37 = .ok (.iconst 2, 1) := D_5 yB_cX7_judge rfl rfl
theorem dX7_judge_38 : decode cX7_judge 38 = .ok (.if_icmp .eq 6, 3) := D_159 yB_cX7_judge rfl rfl (sg_p (m := 32768) (N := 6) rfl rfl rfl)
theorem dX7_judge_41 : decode cX7_judge 41 = .ok (.bipush (-12), 2) := D_16 yB_cX7_judge rfl rfl (sg_n (m := 128) (N := 12) rfl rfl rfl)
theorem dX7_judge_43 : decode cX7_judge 43 = .ok (.ireturn, 1) := D_172 yB_cX7_judge rfl rfl
theorem dX7_judge_44 : decode cX7_judge 44 = .ok (.aload_n 0, 1) := D_42 yB_cX7_judge rfl rfl
theorem dX7_judge_45 : decode cX7_judge 45 = .ok (.getfield 12, 3) := D_180 yB_cX7_judge rfl rfl rfl
theorem dX7_judge_48 : decode cX7_judge 48 = .ok (.getfield 70, 3) := D_180 yB_cX7_judge rfl rfl rfl
theorem dX7_judge_51 : decode cX7_judge 51 = .ok (.getfield 74, 3) := D_180 yB_cX7_judge rfl rfl rfl
theorem dX7_judge_54 : decode cX7_judge 54 = .ok (.ifCond .ne 6, 3) := D_154 yB_cX7_judge rfl rfl (sg_p (m := 32768) (N := 6) rfl rfl rfl)
theorem dX7_judge_57 : decode cX7_judge 57 = .ok (.bipush (-3), 2) := D_16 yB_cX7_judge rfl rfl (sg_n (m := 128) (N := 3) rfl rfl rfl)
theorem dX7_judge_59 : decode cX7_judge 59 = .ok (.ireturn, 1) := D_172 yB_cX7_judge rfl rfl
theorem dX7_judge_60 : decode cX7_judge 60 = .ok (.aload_n 0, 1) := D_42 yB_cX7_judge rfl rfl
theorem dX7_judge_61 : decode cX7_judge 61 = .ok (.getfield 19, 3) := D_180 yB_cX7_judge rfl rfl rfl
theorem dX7_judge_64 : decode cX7_judge 64 = .ok (.aload_n 0, 1) := D_42 yB_cX7_judge rfl rfl
theorem dX7_judge_65 : decode cX7_judge 65 = .ok (.getfield 12, 3) := D_180 yB_cX7_judge rfl rfl rfl
theorem dX7_judge_68 : decode cX7_judge 68 = .ok (.invokevirtual 62, 3) := D_182 yB_cX7_judge rfl rfl rfl
theorem dX7_judge_71 : decode cX7_judge 71 = .ok (.aload_n 0, 1) := D_42 yB_cX7_judge rfl rfl
theorem dX7_judge_72 : decode cX7_judge 72 = .ok (.getfield 19, 3) := D_180 yB_cX7_judge rfl rfl rfl
theorem dX7_judge_75 : decode cX7_judge 75 = .ok (.iload_n 1, 1) := D_27 yB_cX7_judge rfl rfl
theorem dX7_judge_76 : decode cX7_judge 76 = .ok (.invokevirtual 99, 3) := D_182 yB_cX7_judge rfl rfl rfl
theorem dX7_judge_79 : decode cX7_judge 79 = .ok (.astore 4, 2) := D_58 yB_cX7_judge rfl rfl rfl
theorem dX7_judge_81 : decode cX7_judge 81 = .ok (.aload 4, 2) := D_25 yB_cX7_judge rfl rfl rfl
theorem dX7_judge_83 : decode cX7_judge 83 = .ok (.ifnonnull 5, 3) := D_199 yB_cX7_judge rfl rfl (sg_p (m := 32768) (N := 5) rfl rfl rfl)
theorem dX7_judge_86 : decode cX7_judge 86 = .ok (.iconst (-1), 1) := D_2 yB_cX7_judge rfl rfl
theorem dX7_judge_87 : decode cX7_judge 87 = .ok (.ireturn, 1) := D_172 yB_cX7_judge rfl rfl
theorem dX7_judge_88 : decode cX7_judge 88 = .ok (.iconst 0, 1) := D_3 yB_cX7_judge rfl rfl
theorem dX7_judge_89 : decode cX7_judge 89 = .ok (.istore 5, 2) := D_54 yB_cX7_judge rfl rfl rfl
theorem dX7_judge_91 : decode cX7_judge 91 = .ok (.iload 5, 2) := D_21 yB_cX7_judge rfl rfl rfl
theorem dX7_judge_93 : decode cX7_judge 93 = .ok (.aload_n 3, 1) := D_45 yB_cX7_judge rfl rfl
theorem dX7_judge_94 : decode cX7_judge 94 = .ok (.getfield 204, 3) := D_180 yB_cX7_judge rfl rfl rfl
theorem dX7_judge_97 : decode cX7_judge 97 = .ok (.if_icmp .ge 65, 3) := D_162 yB_cX7_judge rfl rfl (sg_p (m := 32768) (N := 65) rfl rfl rfl)
theorem dX7_judge_100 : decode cX7_judge 100 = .ok (.iload 5, 2) := D_21 yB_cX7_judge rfl rfl rfl
theorem dX7_judge_102 : decode cX7_judge 102 = .ok (.bipush 100, 2) := D_16 yB_cX7_judge rfl rfl (sg_p (m := 128) (N := 100) rfl rfl rfl)
theorem dX7_judge_104 : decode cX7_judge 104 = .ok (.if_icmp .ge 58, 3) := D_162 yB_cX7_judge rfl rfl (sg_p (m := 32768) (N := 58) rfl rfl rfl)
theorem dX7_judge_107 : decode cX7_judge 107 = .ok (.aload_n 0, 1) := D_42 yB_cX7_judge rfl rfl
theorem dX7_judge_108 : decode cX7_judge 108 = .ok (.getfield 19, 3) := D_180 yB_cX7_judge rfl rfl rfl
theorem dX7_judge_111 : decode cX7_judge 111 = .ok (.invokevirtual 138, 3) := D_182 yB_cX7_judge rfl rfl rfl
theorem dX7_judge_114 : decode cX7_judge 114 = .ok (.ifCond .ne 10, 3) := D_154 yB_cX7_judge rfl rfl (sg_p (m := 32768) (N := 10) rfl rfl rfl)
theorem dX7_judge_117 : decode cX7_judge 117 = .ok (.aload_n 0, 1) := D_42 yB_cX7_judge rfl rfl
theorem dX7_judge_118 : decode cX7_judge 118 = .ok (.getfield 19, 3) := D_180 yB_cX7_judge rfl rfl rfl
theorem dX7_judge_121 : decode cX7_judge 121 = .ok (.invokevirtual 141, 3) := D_182 yB_cX7_judge rfl rfl rfl
theorem dX7_judge_124 : decode cX7_judge 124 = .ok (.aload_n 3, 1) := D_45 yB_cX7_judge rfl rfl
theorem dX7_judge_125 : decode cX7_judge 125 = .ok (.getfield 207, 3) := D_180 yB_cX7_judge rfl rfl rfl
theorem dX7_judge_128 : decode cX7_judge 128 = .ok (.iload 5, 2) := D_21 yB_cX7_judge rfl rfl rfl
theorem dX7_judge_130 : decode cX7_judge 130 = .ok (.iaload, 1) := D_46 yB_cX7_judge rfl rfl
theorem dX7_judge_131 : decode cX7_judge 131 = .ok (.aload_n 3, 1) := D_45 yB_cX7_judge rfl rfl
theorem dX7_judge_132 : decode cX7_judge 132 = .ok (.invokevirtual 210, 3) := D_182 yB_cX7_judge rfl rfl rfl
theorem dX7_judge_135 : decode cX7_judge 135 = .ok (.if_icmp .eq 21, 3) := D_159 yB_cX7_judge rfl rfl (sg_p (m := 32768) (N := 21) rfl rfl rfl)
theorem dX7_judge_138 : decode cX7_judge 138 = .ok (.aload_n 3, 1) := D_45 yB_cX7_judge rfl rfl
theorem dX7_judge_139 : decode cX7_judge 139 = .ok (.getfield 207, 3) := D_180 yB_cX7_judge rfl rfl rfl
theorem dX7_judge_142 : decode cX7_judge 142 = .ok (.iload 5, 2) := D_21 yB_cX7_judge rfl rfl rfl
theorem dX7_judge_144 : decode cX7_judge 144 = .ok (.iaload, 1) := D_46 yB_cX7_judge rfl rfl
theorem dX7_judge_145 : decode cX7_judge 145 = .ok (.aload 4, 2) := D_25 yB_cX7_judge rfl rfl rfl
theorem dX7_judge_147 : decode cX7_judge 147 = .ok (.getfield 154, 3) := D_180 yB_cX7_judge rfl rfl rfl
theorem dX7_judge_150 : decode cX7_judge 150 = .ok (.if_icmp .eq 6, 3) := D_159 yB_cX7_judge rfl rfl (sg_p (m := 32768) (N := 6) rfl rfl rfl)
theorem dX7_judge_153 : decode cX7_judge 153 = .ok (.iload 5, 2) := D_21 yB_cX7_judge rfl rfl rfl
theorem dX7_judge_155 : decode cX7_judge 155 = .ok (.ireturn, 1) := D_172 yB_cX7_judge rfl rfl
theorem dX7_judge_156 : decode cX7_judge 156 = .ok (.iinc 5 1, 3) := D_132 yB_cX7_judge rfl rfl rfl (sg_p (m := 128) (N := 1) rfl rfl rfl)
theorem dX7_judge_159 : decode cX7_judge 159 = .ok (.goto (-68), 3) := D_167 yB_cX7_judge rfl rfl (sg_n (m := 32768) (N := 68) rfl rfl rfl)
theorem dX7_judge_162 : decode cX7_judge 162 = .ok (.bipush (-4), 2) := D_16 yB_cX7_judge rfl rfl (sg_n (m := 128) (N := 4) rfl rfl rfl)
theorem dX7_judge_164 : decode cX7_judge 164 = .ok (.ireturn, 1) := D_172 yB_cX7_judge rfl rfl
def F_X7_judge_91 (x1 : Int32) (x2 : Int32)  : Nat → Mem → Int32 → Nat → Nat → Option (Mem × Int32)
  | 0, _, _, _, _ => none
  | nn + 1, σ, v5, y4, y3 => if (σ (68 + y3) 4) ≤ v5 then (some (σ, (-4))) else (if 100 ≤ v5 then (some (σ, (-4))) else ((F_X6_isEnded σ 2).bind fun r_11 => if r_11 = 0 then ((F_X6_passMinute σ 2).bind fun σ_18 => (ix 100 v5).bind fun k_19 => (F_X5_leastNumber σ_18 y3).bind fun r_20 => if (σ_18 (76 + y3) k_19) = r_20 then (F_X7_judge_91 x1 x2 nn σ_18 (v5 + 1) y4 y3) else ((ix 100 v5).bind fun k_22 => if (σ_18 (76 + y3) k_22) = (σ_18 y4 6) then (F_X7_judge_91 x1 x2 nn σ_18 (v5 + 1) y4 y3) else (some (σ_18, v5)))) else ((ix 100 v5).bind fun k_13 => (F_X5_leastNumber σ y3).bind fun r_14 => if (σ (76 + y3) k_13) = r_14 then (F_X7_judge_91 x1 x2 nn σ (v5 + 1) y4 y3) else ((ix 100 v5).bind fun k_16 => if (σ (76 + y3) k_16) = (σ y4 6) then (F_X7_judge_91 x1 x2 nn σ (v5 + 1) y4 y3) else (some (σ, v5))))))
def F_X7_judge (σ : Mem) (x1 : Int32) (x2 : Int32) : Option (Mem × Int32) := if x2 < 0 ∨ 8 ≤ x2 then (some (σ, (-1))) else ((ix 8 x2).bind fun j_1 => if x1 < 0 ∨ σ (22 * 0) 2 ≤ x1 ∨ 7 ≤ x1 then (some (σ, (-1))) else ((ix 7 x1).bind fun j_2 => if (σ (68 + j_1) 0) = 0 then (some (σ, (-11))) else (if (σ (68 + j_1) 0) = 2 then (if (σ 1 0) = 0 then (some (σ, (-3))) else (ck (cb01 σ 0) <| if x1 < 0 ∨ (tcpy σ 2 0) (22 * 2) 2 ≤ x1 ∨ 7 ≤ x1 then (some ((tcpy σ 2 0), (-1))) else ((ix 7 x1).bind fun j_7 => F_X7_judge_91 x1 x2 FU (tcpy σ 2 0) 0 (22 * 2 + 15 + j_7) j_1))) else (some (σ, (-12))))))
set_option maxHeartbeats 4000000 in
set_option maxRecDepth 100000 in
theorem c_X7_judge (l : Launch) (D : va_G) (cA : Nat → ClassId) (ad : Nat → Nat) (o : Int64) (σ : Mem) (x1 : Int32) (x2 : Int32)  (res : Mem × Int32) (h : F_X7_judge σ x1 x2 = some res) (sz : Nat) : Met l yX7_judge (WY yX7_judge cX7_judge 6 (some .int)) (RM 5) (va_Pc [.ref (ad 66), .int x1, .int x2] (PW D cA ad o σ sz)) (va_Qi (fun r σ9 => r = res.2 ∧ σ9 = res.1) (QW D cA ad o) (FA ad sz)) 0 0 (FA ad sz) := by
  refine ct_of (own := RX7) (k := 5) (Qf := va_Qi (fun r σ9 => r = res.2 ∧ σ9 = res.1) (QW D cA ad o)) rfl (by decide) (Nat.le_of_ble_eq_true rfl) (fun p e s m below meth c ls C0 X hr hlk hP hl => ?_) sz
  have hS : va_S (FA ad s.heap.size) s.heap s.heap [] := va_S.rf
  have hl : lv_has ls 6 [(0, .ref (ad 66)), (1, .int x1), (2, .int x2)] := hl
  obtain ⟨hx, hb, hml, hown, hts⟩ := id C0
  unfold F_X7_judge at h
  refine lv_aload_n hx hb dX7_judge_0 rfl (lv_at hl 0 rfl) ?_
  refine lv_iload_n hx hb dX7_judge_1 rfl (lv_at hl 2 rfl) ?_
  refine r_cq X hS (r_runV (As := [.int x2]) (rest := []) C0 X hP L_X7_50 (fun sz => c_X7_shelfAt l D cA ad o σ x2 sz) (show 66 < 106 ∧ kd 66 = (7, 8) from ⟨by decide, rfl⟩).1 (show 66 < 106 ∧ kd 66 = (7, 8) from ⟨by decide, rfl⟩).2 (by decide) rfl ⟨Nat.le_of_ble_eq_true rfl, Nat.le_of_ble_eq_true rfl⟩ rfl hl.1 rfl (Nat.le_of_ble_eq_true rfl) dX7_judge_2 ⟨Nat.zero_le _, Nat.zero_le _⟩) (fun σ9 H locs hw hP hS => ?_) (fun x9 σ9 H locs hw hP hS => ?_)
  · rw [hw.1] at hP
    replace h := it_t h hw.2
    refine lv_astore_nN (lv' := [(3, .null), (0, .ref (ad 66)), (1, .int x1), (2, .int x2)]) hx hb dX7_judge_5 rfl hl (by decide) rfl (fun ls hl => ?_)
    refine lv_aload_nN hx hb dX7_judge_6 rfl (lv_at hl 0 rfl) ?_
    refine lv_ifnullN (tgt := 21) hx hb dX7_judge_7 (by decide) ?_
    refine lv_iconst (v := (-1)) hx hb dX7_judge_21 (by decide) ?_
    exact r_iret C0 X hP hS hr hlk dX7_judge_22 (rt2 h)
  · rw [hw.1] at hP
    obtain ⟨-, j_1, hj_1, ej_1, rfl⟩ := hw
    replace h := it_f h (by rw [ej_1]; exact nosh hj_1)
    obtain ⟨k9, ek9, h⟩ := bnd h
    replace ek9 := ix_s ek9 (by decide)
    obtain rfl : j_1 = k9 := nI_inj (ej_1.symm.trans ek9.1) (by omega) (by have := ek9.2; omega)
    refine lv_astore_n (lv' := [(3, .ref (ad (68 + j_1))), (0, .ref (ad 66)), (1, .int x1), (2, .int x2)]) hx hb dX7_judge_5 rfl hl (by decide) rfl (fun ls hl => ?_)
    refine lv_aload_n hx hb dX7_judge_6 rfl (lv_at hl 0 rfl) ?_
    refine lv_ifnull hx hb dX7_judge_7 ?_
    refine lv_aload_n hx hb dX7_judge_10 rfl (lv_at hl 1 rfl) ?_
    refine gf_X7_12 C0 X hP 66 (q := 0) ⟨by decide, rfl⟩ (by omega) rfl dX7_judge_11 ?_
    refine lv_iload_n hx hb dX7_judge_14 rfl (lv_at hl 2 rfl) ?_
    refine r_cq X hS (r_runV (As := [.int x1]) (rest := []) C0 X hP L_X7_99 (fun sz => c_X6_cartAt l D cA ad o σ 0 x1 (by decide) sz) (show 0 < 106 ∧ kd 0 = (6, 11) from ⟨by decide, rfl⟩).1 (show 0 < 106 ∧ kd 0 = (6, 11) from ⟨by decide, rfl⟩).2 (by decide) rfl ⟨Nat.le_of_ble_eq_true rfl, Nat.le_of_ble_eq_true rfl⟩ rfl hl.1 rfl (Nat.le_of_ble_eq_true rfl) dX7_judge_15 ⟨Nat.zero_le _, Nat.zero_le _⟩) (fun σ9 H locs hw hP hS => ?_) (fun x9 σ9 H locs hw hP hS => ?_)
    · rw [hw.1] at hP
      replace h := it_t h hw.2
      refine lv_ifnonnullN hx hb dX7_judge_18 ?_
      refine lv_iconst (v := (-1)) hx hb dX7_judge_21 (by decide) ?_
      exact r_iret C0 X hP hS hr hlk dX7_judge_22 (rt2 h)
    · rw [hw.1] at hP
      obtain ⟨-, j_2, hj_2, ej_2, l9, rfl⟩ := hw
      replace h := it_f h (nocart ej_2 hj_2 l9)
      obtain ⟨k9, ek9, h⟩ := bnd h
      replace ek9 := ix_s ek9 (by decide)
      obtain rfl : j_2 = k9 := nI_inj (ej_2.symm.trans ek9.1) (by omega) (by have := ek9.2; omega)
      refine lv_ifnonnull (tgt := 23) hx hb dX7_judge_18 (by decide) ?_
      refine lv_aload_n hx hb dX7_judge_23 rfl (lv_at hl 0 rfl) ?_
      refine gf_X7_54 C0 X hP (68 + j_1) (kdS j_1 hj_1) dX7_judge_24 ?_
      refine lv_if_ne (tgt := 33) hx hb dX7_judge_27 (by decide) (fun c_3 => ?_) (fun c_3 => ?_)
      · replace h := it_f h c_3
        refine lv_aload_n hx hb dX7_judge_33 rfl (lv_at hl 0 rfl) ?_
        refine gf_X7_54 C0 X hP (68 + j_1) (kdS j_1 hj_1) dX7_judge_34 ?_
        refine lv_iconst (v := 2) hx hb dX7_judge_37 (by decide) ?_
        refine lv_icmp_eq (tgt := 44) hx hb dX7_judge_38 (by decide) (fun c_4 => ?_) (fun c_4 => ?_)
        · replace h := it_t h c_4
          refine lv_aload_n hx hb dX7_judge_44 rfl (lv_at hl 1 rfl) ?_
          refine gf_X7_12 C0 X hP 66 (q := 0) ⟨by decide, rfl⟩ (by omega) rfl dX7_judge_45 ?_
          refine gf_X7_70 C0 X hP 0 (q := 1) ⟨by decide, rfl⟩ (by omega) rfl dX7_judge_48 ?_
          refine gf_X7_74 C0 X hP 1 ⟨by decide, rfl⟩ dX7_judge_51 ?_
          refine lv_if_ne (tgt := 60) hx hb dX7_judge_54 (by decide) (fun c_5 => ?_) (fun c_5 => ?_)
          · replace h := it_f h c_5
            refine lv_aload_n hx hb dX7_judge_60 rfl (lv_at hl 1 rfl) ?_
            refine gf_X7_19 C0 X hP 66 (q := 44) ⟨by decide, rfl⟩ (by omega) rfl dX7_judge_61 ?_
            refine lv_aload_n hx hb dX7_judge_64 rfl (lv_at hl 1 rfl) ?_
            refine gf_X7_12 C0 X hP 66 (q := 0) ⟨by decide, rfl⟩ (by omega) rfl dX7_judge_65 ?_
            obtain ⟨q_6, h⟩ := ckp h
            refine r_cv X hS (r_runV (As := [.ref (ad 0)]) (rest := []) C0 X hP L_X7_62 (fun sz => c_X6_copyFrom l D cA ad o σ 2 0 (by decide) (by decide) (by decide) (cb01_e q_6) sz) (show 44 < 106 ∧ kd 44 = (6, 11) from ⟨by decide, rfl⟩).1 (show 44 < 106 ∧ kd 44 = (6, 11) from ⟨by decide, rfl⟩).2 (by decide) rfl ⟨Nat.le_of_ble_eq_true rfl, Nat.le_of_ble_eq_true rfl⟩ rfl hl.1 rfl (Nat.le_of_ble_eq_true rfl) dX7_judge_68 ⟨Nat.zero_le _, Nat.zero_le _⟩) (fun σ9 H locs hw hP hS => ?_)
            rw [show σ9 = (tcpy σ 2 0) from hw] at hP
            refine lv_aload_n hx hb dX7_judge_71 rfl (lv_at hl 1 rfl) ?_
            refine gf_X7_19 C0 X hP 66 (q := 44) ⟨by decide, rfl⟩ (by omega) rfl dX7_judge_72 ?_
            refine lv_iload_n hx hb dX7_judge_75 rfl (lv_at hl 2 rfl) ?_
            refine r_cq X hS (r_runV (As := [.int x1]) (rest := []) C0 X hP L_X7_99 (fun sz => c_X6_cartAt l D cA ad o (tcpy σ 2 0) 2 x1 (by decide) sz) (show 44 < 106 ∧ kd 44 = (6, 11) from ⟨by decide, rfl⟩).1 (show 44 < 106 ∧ kd 44 = (6, 11) from ⟨by decide, rfl⟩).2 (by decide) rfl ⟨Nat.le_of_ble_eq_true rfl, Nat.le_of_ble_eq_true rfl⟩ rfl hl.1 rfl (Nat.le_of_ble_eq_true rfl) dX7_judge_76 ⟨Nat.zero_le _, Nat.zero_le _⟩) (fun σ9 H locs hw hP hS => ?_) (fun x9 σ9 H locs hw hP hS => ?_)
            · rw [hw.1] at hP
              replace h := it_t h hw.2
              refine lv_astoreN (lv' := [(4, .null), (3, .ref (ad (68 + j_1))), (0, .ref (ad 66)), (1, .int x1), (2, .int x2)]) hx hb dX7_judge_79 hl (by decide) rfl (fun ls hl => ?_)
              refine lv_aloadN hx hb dX7_judge_81 (lv_at hl 0 rfl) ?_
              refine lv_ifnonnullN hx hb dX7_judge_83 ?_
              refine lv_iconst (v := (-1)) hx hb dX7_judge_86 (by decide) ?_
              exact r_iret C0 X hP hS hr hlk dX7_judge_87 (rt2 h)
            · rw [hw.1] at hP
              obtain ⟨-, j_7, hj_7, ej_7, l9, rfl⟩ := hw
              replace h := it_f h (nocart ej_7 hj_7 l9)
              obtain ⟨k9, ek9, h⟩ := bnd h
              replace ek9 := ix_s ek9 (by decide)
              obtain rfl : j_7 = k9 := nI_inj (ej_7.symm.trans ek9.1) (by omega) (by have := ek9.2; omega)
              refine lv_astore (lv' := [(4, .ref (ad (22 * 2 + 15 + j_7))), (3, .ref (ad (68 + j_1))), (0, .ref (ad 66)), (1, .int x1), (2, .int x2)]) hx hb dX7_judge_79 hl (by decide) rfl (fun ls hl => ?_)
              refine lv_aload hx hb dX7_judge_81 (lv_at hl 0 rfl) ?_
              refine lv_ifnonnull (tgt := 88) hx hb dX7_judge_83 (by decide) ?_
              refine lv_iconst (v := 0) hx hb dX7_judge_88 (by decide) ?_
              refine lv_istore (lv' := [(5, .int 0), (4, .ref (ad (22 * 2 + 15 + j_7))), (3, .ref (ad (68 + j_1))), (0, .ref (ad 66)), (1, .int x1), (2, .int x2)]) hx hb dX7_judge_89 hl (by decide) rfl (fun ls hl => ?_)
              have lp_8 : ∀ (nn91 : Nat) (σ : Mem) (v5 : Int32) (y4 : Nat) (y3 : Nat) (H : Heap) (locs : List Loc) (ls : Array Slot), y4 < 106 ∧ kd y4 = (0, 12) → y3 < 8 → F_X7_judge_91 x1 x2 nn91 σ v5 y4 y3 = some res → WP D cA ad o σ H → va_S (FA ad s.heap.size) s.heap H locs → lv_has ls 6 [(5, .int v5), (4, .ref (ad y4)), (3, .ref (ad (68 + y3))), (0, .ref (ad 66)), (1, .int x1), (2, .int x2)] → W p l e (RM 5) s m ([.ref (ad 66), .int x1, .int x2] : List Value).toArray below meth c H locs 0 0 (MQ below (va_Qi (fun r σ9 => r = res.2 ∧ σ9 = res.1) (QW D cA ad o) (FA ad s.heap.size)) ([.ref (ad 66), .int x1, .int x2] : List Value).toArray s 0 0 (FA ad s.heap.size)) (F0 m 91 ls []) := by
                intro nn91
                induction nn91 with
                | zero => intro σ v5 y4 y3 H locs ls hy4 hy3 h hP hS hl; exact absurd (show none = some res from h) nofun
                | succ nn91 ih91 =>
                  intro σ v5 y4 y3 H locs ls hy4 hy3 h hP hS hl
                  replace h := (F_X7_judge_91.eq_2 _ _ _ _ _ _ _).symm.trans h
                  refine lv_iload hx hb dX7_judge_91 (lv_at hl 0 rfl) ?_
                  refine lv_aload_n hx hb dX7_judge_93 rfl (lv_at hl 2 rfl) ?_
                  refine gf_X7_204 C0 X hP (68 + y3) (kdS y3 hy3) dX7_judge_94 ?_
                  refine lv_icmp_ge (tgt := 162) hx hb dX7_judge_97 (by decide) (fun c_9 => ?_) (fun c_9 => ?_)
                  · replace h := it_t h c_9
                    refine lv_bipush (v := (-4)) hx hb dX7_judge_162 (by decide) ?_
                    exact r_iret C0 X hP hS hr hlk dX7_judge_164 (rt2 h)
                  · replace h := it_f h c_9
                    refine lv_iload hx hb dX7_judge_100 (lv_at hl 0 rfl) ?_
                    refine lv_bipush (v := 100) hx hb dX7_judge_102 (by decide) ?_
                    refine lv_icmp_ge (tgt := 162) hx hb dX7_judge_104 (by decide) (fun c_10 => ?_) (fun c_10 => ?_)
                    · replace h := it_t h c_10
                      refine lv_bipush (v := (-4)) hx hb dX7_judge_162 (by decide) ?_
                      exact r_iret C0 X hP hS hr hlk dX7_judge_164 (rt2 h)
                    · replace h := it_f h c_10
                      refine lv_aload_n hx hb dX7_judge_107 rfl (lv_at hl 3 rfl) ?_
                      refine gf_X7_19 C0 X hP 66 (q := 44) ⟨by decide, rfl⟩ (by omega) rfl dX7_judge_108 ?_
                      obtain ⟨r_11, er_11, h⟩ := bnd h
                      refine r_ci X hS (r_runV (As := []) (rest := []) C0 X hP L_X7_138 (fun sz => c_X6_isEnded l D cA ad o σ 2 (by decide) r_11 er_11 sz) (show 44 < 106 ∧ kd 44 = (6, 11) from ⟨by decide, rfl⟩).1 (show 44 < 106 ∧ kd 44 = (6, 11) from ⟨by decide, rfl⟩).2 (by decide) rfl ⟨Nat.le_of_ble_eq_true rfl, Nat.le_of_ble_eq_true rfl⟩ rfl hl.1 rfl (Nat.le_of_ble_eq_true rfl) dX7_judge_111 ⟨Nat.zero_le _, Nat.zero_le _⟩) (fun r9 σ9 H locs hw hP hS => ?_)
                      rw [hw.2] at hP
                      rw [hw.1]
                      refine lv_if_ne (tgt := 124) hx hb dX7_judge_114 (by decide) (fun c_12 => ?_) (fun c_12 => ?_)
                      · replace h := it_f h c_12
                        refine lv_aload_n hx hb dX7_judge_124 rfl (lv_at hl 2 rfl) ?_
                        refine gf_X7_207 C0 X hP (68 + y3) (q := (76 + y3)) (kdS y3 hy3) (by omega) (lkS5 y3 hy3) dX7_judge_125 ?_
                        refine lv_iload hx hb dX7_judge_128 (lv_at hl 0 rfl) ?_
                        obtain ⟨k_13, ek_13, h⟩ := bnd h
                        replace ek_13 := ix_s ek_13 (by decide)
                        refine r_ialdN C0 X hP (76 + y3) (k := k_13) (kdV y3 hy3) ek_13.1 ek_13.2 dX7_judge_130 ?_
                        refine lv_aload_n hx hb dX7_judge_131 rfl (lv_at hl 2 rfl) ?_
                        obtain ⟨r_14, er_14, h⟩ := bnd h
                        refine r_ci X hS (r_runV (As := []) (rest := [.int (σ (76 + y3) k_13)]) C0 X hP L_X7_210 (fun sz => c_X5_leastNumber l D cA ad o σ y3 hy3 r_14 er_14 sz) (kdS y3 hy3).1 (kdS y3 hy3).2 (by decide) rfl ⟨Nat.le_of_ble_eq_true rfl, Nat.le_of_ble_eq_true rfl⟩ rfl hl.1 rfl (Nat.le_of_ble_eq_true rfl) dX7_judge_132 ⟨Nat.zero_le _, Nat.zero_le _⟩) (fun r9 σ9 H locs hw hP hS => ?_)
                        rw [hw.2] at hP
                        rw [hw.1]
                        refine lv_icmp_eq (tgt := 156) hx hb dX7_judge_135 (by decide) (fun c_15 => ?_) (fun c_15 => ?_)
                        · replace h := it_t h c_15
                          refine lv_iinc (v := (v5 + 1)) (lv' := [(5, .int (v5 + 1)), (4, .ref (ad y4)), (3, .ref (ad (68 + y3))), (0, .ref (ad 66)), (1, .int x1), (2, .int x2)]) hx hb dX7_judge_156 hl (k := 0) rfl rfl (by decide) rfl (fun ls hl => ?_)
                          refine lv_goto (tgt := 91) hx hb dX7_judge_159 (by decide) ?_
                          exact ih91 σ (v5 + 1) y4 y3 _ _ ls hy4 hy3 h hP hS (lv_sub hl [0, 1, 2, 3, 4, 5] rfl)
                        · replace h := it_f h c_15
                          refine lv_aload_n hx hb dX7_judge_138 rfl (lv_at hl 2 rfl) ?_
                          refine gf_X7_207 C0 X hP (68 + y3) (q := (76 + y3)) (kdS y3 hy3) (by omega) (lkS5 y3 hy3) dX7_judge_139 ?_
                          refine lv_iload hx hb dX7_judge_142 (lv_at hl 0 rfl) ?_
                          obtain ⟨k_16, ek_16, h⟩ := bnd h
                          replace ek_16 := ix_s ek_16 (by decide)
                          refine r_ialdN C0 X hP (76 + y3) (k := k_16) (kdV y3 hy3) ek_16.1 ek_16.2 dX7_judge_144 ?_
                          refine lv_aload hx hb dX7_judge_145 (lv_at hl 1 rfl) ?_
                          refine gf_X7_154 C0 X hP y4 hy4 dX7_judge_147 ?_
                          refine lv_icmp_eq (tgt := 156) hx hb dX7_judge_150 (by decide) (fun c_17 => ?_) (fun c_17 => ?_)
                          · replace h := it_t h c_17
                            refine lv_iinc (v := (v5 + 1)) (lv' := [(5, .int (v5 + 1)), (4, .ref (ad y4)), (3, .ref (ad (68 + y3))), (0, .ref (ad 66)), (1, .int x1), (2, .int x2)]) hx hb dX7_judge_156 hl (k := 0) rfl rfl (by decide) rfl (fun ls hl => ?_)
                            refine lv_goto (tgt := 91) hx hb dX7_judge_159 (by decide) ?_
                            exact ih91 σ (v5 + 1) y4 y3 _ _ ls hy4 hy3 h hP hS (lv_sub hl [0, 1, 2, 3, 4, 5] rfl)
                          · replace h := it_f h c_17
                            refine lv_iload hx hb dX7_judge_153 (lv_at hl 0 rfl) ?_
                            exact r_iret C0 X hP hS hr hlk dX7_judge_155 (rt2 h)
                      · replace h := it_t h c_12
                        refine lv_aload_n hx hb dX7_judge_117 rfl (lv_at hl 3 rfl) ?_
                        refine gf_X7_19 C0 X hP 66 (q := 44) ⟨by decide, rfl⟩ (by omega) rfl dX7_judge_118 ?_
                        obtain ⟨σ_18, eσ_18, h⟩ := bnd h
                        refine r_cv X hS (r_runV (As := []) (rest := []) C0 X hP L_X7_141 (fun sz => c_X6_passMinute l D cA ad o σ 2 (by decide) σ_18 eσ_18 sz) (show 44 < 106 ∧ kd 44 = (6, 11) from ⟨by decide, rfl⟩).1 (show 44 < 106 ∧ kd 44 = (6, 11) from ⟨by decide, rfl⟩).2 (by decide) rfl ⟨Nat.le_of_ble_eq_true rfl, Nat.le_of_ble_eq_true rfl⟩ rfl hl.1 rfl (Nat.le_of_ble_eq_true rfl) dX7_judge_121 ⟨Nat.zero_le _, Nat.zero_le _⟩) (fun σ9 H locs hw hP hS => ?_)
                        rw [show σ9 = σ_18 from hw] at hP
                        refine lv_aload_n hx hb dX7_judge_124 rfl (lv_at hl 2 rfl) ?_
                        refine gf_X7_207 C0 X hP (68 + y3) (q := (76 + y3)) (kdS y3 hy3) (by omega) (lkS5 y3 hy3) dX7_judge_125 ?_
                        refine lv_iload hx hb dX7_judge_128 (lv_at hl 0 rfl) ?_
                        obtain ⟨k_19, ek_19, h⟩ := bnd h
                        replace ek_19 := ix_s ek_19 (by decide)
                        refine r_ialdN C0 X hP (76 + y3) (k := k_19) (kdV y3 hy3) ek_19.1 ek_19.2 dX7_judge_130 ?_
                        refine lv_aload_n hx hb dX7_judge_131 rfl (lv_at hl 2 rfl) ?_
                        obtain ⟨r_20, er_20, h⟩ := bnd h
                        refine r_ci X hS (r_runV (As := []) (rest := [.int (σ_18 (76 + y3) k_19)]) C0 X hP L_X7_210 (fun sz => c_X5_leastNumber l D cA ad o σ_18 y3 hy3 r_20 er_20 sz) (kdS y3 hy3).1 (kdS y3 hy3).2 (by decide) rfl ⟨Nat.le_of_ble_eq_true rfl, Nat.le_of_ble_eq_true rfl⟩ rfl hl.1 rfl (Nat.le_of_ble_eq_true rfl) dX7_judge_132 ⟨Nat.zero_le _, Nat.zero_le _⟩) (fun r9 σ9 H locs hw hP hS => ?_)
                        rw [hw.2] at hP
                        rw [hw.1]
                        refine lv_icmp_eq (tgt := 156) hx hb dX7_judge_135 (by decide) (fun c_21 => ?_) (fun c_21 => ?_)
                        · replace h := it_t h c_21
                          refine lv_iinc (v := (v5 + 1)) (lv' := [(5, .int (v5 + 1)), (4, .ref (ad y4)), (3, .ref (ad (68 + y3))), (0, .ref (ad 66)), (1, .int x1), (2, .int x2)]) hx hb dX7_judge_156 hl (k := 0) rfl rfl (by decide) rfl (fun ls hl => ?_)
                          refine lv_goto (tgt := 91) hx hb dX7_judge_159 (by decide) ?_
                          exact ih91 σ_18 (v5 + 1) y4 y3 _ _ ls hy4 hy3 h hP hS (lv_sub hl [0, 1, 2, 3, 4, 5] rfl)
                        · replace h := it_f h c_21
                          refine lv_aload_n hx hb dX7_judge_138 rfl (lv_at hl 2 rfl) ?_
                          refine gf_X7_207 C0 X hP (68 + y3) (q := (76 + y3)) (kdS y3 hy3) (by omega) (lkS5 y3 hy3) dX7_judge_139 ?_
                          refine lv_iload hx hb dX7_judge_142 (lv_at hl 0 rfl) ?_
                          obtain ⟨k_22, ek_22, h⟩ := bnd h
                          replace ek_22 := ix_s ek_22 (by decide)
                          refine r_ialdN C0 X hP (76 + y3) (k := k_22) (kdV y3 hy3) ek_22.1 ek_22.2 dX7_judge_144 ?_
                          refine lv_aload hx hb dX7_judge_145 (lv_at hl 1 rfl) ?_
                          refine gf_X7_154 C0 X hP y4 hy4 dX7_judge_147 ?_
                          refine lv_icmp_eq (tgt := 156) hx hb dX7_judge_150 (by decide) (fun c_23 => ?_) (fun c_23 => ?_)
                          · replace h := it_t h c_23
                            refine lv_iinc (v := (v5 + 1)) (lv' := [(5, .int (v5 + 1)), (4, .ref (ad y4)), (3, .ref (ad (68 + y3))), (0, .ref (ad 66)), (1, .int x1), (2, .int x2)]) hx hb dX7_judge_156 hl (k := 0) rfl rfl (by decide) rfl (fun ls hl => ?_)
                            refine lv_goto (tgt := 91) hx hb dX7_judge_159 (by decide) ?_
                            exact ih91 σ_18 (v5 + 1) y4 y3 _ _ ls hy4 hy3 h hP hS (lv_sub hl [0, 1, 2, 3, 4, 5] rfl)
                          · replace h := it_f h c_23
                            refine lv_iload hx hb dX7_judge_153 (lv_at hl 0 rfl) ?_
                            exact r_iret C0 X hP hS hr hlk dX7_judge_155 (rt2 h)
              exact lp_8 FU (tcpy σ 2 0) 0 (22 * 2 + 15 + j_7) j_1 _ _ ls (kdC 2 (by decide) j_7 hj_7) hj_1 h hP hS (lv_sub hl [0, 1, 2, 3, 4, 5] rfl)
          · replace h := it_t h c_5
            refine lv_bipush (v := (-3)) hx hb dX7_judge_57 (by decide) ?_
            exact r_iret C0 X hP hS hr hlk dX7_judge_59 (rt2 h)
        · replace h := it_f h c_4
          refine lv_bipush (v := (-12)) hx hb dX7_judge_41 (by decide) ?_
          exact r_iret C0 X hP hS hr hlk dX7_judge_43 (rt2 h)
      · replace h := it_t h c_3
        refine lv_bipush (v := (-11)) hx hb dX7_judge_30 (by decide) ?_
        exact r_iret C0 X hP hS hr hlk dX7_judge_32 (rt2 h)
def bB_cX7_run : Nat := 0xac030400a704070099b400b61300b42aac9000b41300b42aacad00b61300b42aaca900b61300b42aac04153100000029000000210000001e00000003000000000000003900000000aa1c0436e000b62ad0ffa7010484dd00b5030400a72e0415cf00b42d0d00a2cc00b42d0415320415d900b41300b42a2a00a29600b41300b42a04150436033e00b60c00b42a1300b42aacfd100600998700b62aacf31006009ad500b6c80011032dacf41006009f053600b42dacf51006009a3600b42dac020500a4071c08009b1c0c00c62d4e3200b61b2a
theorem yB_cX7_run : BYS cX7_run 211 bB_cX7_run := BYS_of (by decide +kernel)
theorem dX7_run_0 : decode cX7_run 0 = .ok (.aload_n 0, 1) := D_42 yB_cX7_run rfl rfl
theorem dX7_run_1 : decode cX7_run 1 = .ok (.iload_n 1, 1) := D_27 yB_cX7_run rfl rfl
theorem dX7_run_2 : decode cX7_run 2 = .ok (.invokevirtual 50, 3) := D_182 yB_cX7_run rfl rfl rfl
theorem dX7_run_5 : decode cX7_run 5 = .ok (.astore_n 3, 1) := D_78 yB_cX7_run rfl rfl
theorem dX7_run_6 : decode cX7_run 6 = .ok (.aload_n 3, 1) := D_45 yB_cX7_run rfl rfl
theorem dX7_run_7 : decode cX7_run 7 = .ok (.ifnull 12, 3) := D_198 yB_cX7_run rfl rfl (sg_p (m := 32768) (N := 12) rfl rfl rfl)
theorem dX7_run_10 : decode cX7_run 10 = .ok (.iload_n 2, 1) := D_28 yB_cX7_run rfl rfl
theorem dX7_run_11 : decode cX7_run 11 = .ok (.ifCond .lt 8, 3) := D_155 yB_cX7_run rfl rfl (sg_p (m := 32768) (N := 8) rfl rfl rfl)
theorem dX7_run_14 : decode cX7_run 14 = .ok (.iload_n 2, 1) := D_28 yB_cX7_run rfl rfl
theorem dX7_run_15 : decode cX7_run 15 = .ok (.iconst 4, 1) := D_7 yB_cX7_run rfl rfl
theorem dX7_run_16 : decode cX7_run 16 = .ok (.if_icmp .le 5, 3) := D_164 yB_cX7_run rfl rfl (sg_p (m := 32768) (N := 5) rfl rfl rfl)
theorem dX7_run_19 : decode cX7_run 19 = .ok (.iconst (-1), 1) := D_2 yB_cX7_run rfl rfl
theorem dX7_run_20 : decode cX7_run 20 = .ok (.ireturn, 1) := D_172 yB_cX7_run rfl rfl
theorem dX7_run_21 : decode cX7_run 21 = .ok (.aload_n 3, 1) := D_45 yB_cX7_run rfl rfl
theorem dX7_run_22 : decode cX7_run 22 = .ok (.getfield 54, 3) := D_180 yB_cX7_run rfl rfl rfl
theorem dX7_run_25 : decode cX7_run 25 = .ok (.ifCond .ne 6, 3) := D_154 yB_cX7_run rfl rfl (sg_p (m := 32768) (N := 6) rfl rfl rfl)
theorem dX7_run_28 : decode cX7_run 28 = .ok (.bipush (-11), 2) := D_16 yB_cX7_run rfl rfl (sg_n (m := 128) (N := 11) rfl rfl rfl)
theorem dX7_run_30 : decode cX7_run 30 = .ok (.ireturn, 1) := D_172 yB_cX7_run rfl rfl
theorem dX7_run_31 : decode cX7_run 31 = .ok (.aload_n 3, 1) := D_45 yB_cX7_run rfl rfl
theorem dX7_run_32 : decode cX7_run 32 = .ok (.getfield 54, 3) := D_180 yB_cX7_run rfl rfl rfl
theorem dX7_run_35 : decode cX7_run 35 = .ok (.iconst 2, 1) := D_5 yB_cX7_run rfl rfl
theorem dX7_run_36 : decode cX7_run 36 = .ok (.if_icmp .eq 6, 3) := D_159 yB_cX7_run rfl rfl (sg_p (m := 32768) (N := 6) rfl rfl rfl)
theorem dX7_run_39 : decode cX7_run 39 = .ok (.bipush (-12), 2) := D_16 yB_cX7_run rfl rfl (sg_n (m := 128) (N := 12) rfl rfl rfl)
theorem dX7_run_41 : decode cX7_run 41 = .ok (.ireturn, 1) := D_172 yB_cX7_run rfl rfl
theorem dX7_run_42 : decode cX7_run 42 = .ok (.aload_n 3, 1) := D_45 yB_cX7_run rfl rfl
theorem dX7_run_43 : decode cX7_run 43 = .ok (.iconst 0, 1) := D_3 yB_cX7_run rfl rfl
theorem dX7_run_44 : decode cX7_run 44 = .ok (.sipush 200, 3) := D_17 yB_cX7_run rfl rfl (sg_p (m := 32768) (N := 200) rfl rfl rfl)
theorem dX7_run_47 : decode cX7_run 47 = .ok (.invokevirtual 213, 3) := D_182 yB_cX7_run rfl rfl rfl
theorem dX7_run_50 : decode cX7_run 50 = .ok (.ifCond .ne 6, 3) := D_154 yB_cX7_run rfl rfl (sg_p (m := 32768) (N := 6) rfl rfl rfl)
theorem dX7_run_53 : decode cX7_run 53 = .ok (.bipush (-13), 2) := D_16 yB_cX7_run rfl rfl (sg_n (m := 128) (N := 13) rfl rfl rfl)
theorem dX7_run_55 : decode cX7_run 55 = .ok (.ireturn, 1) := D_172 yB_cX7_run rfl rfl
theorem dX7_run_56 : decode cX7_run 56 = .ok (.aload_n 0, 1) := D_42 yB_cX7_run rfl rfl
theorem dX7_run_57 : decode cX7_run 57 = .ok (.invokevirtual 135, 3) := D_182 yB_cX7_run rfl rfl rfl
theorem dX7_run_60 : decode cX7_run 60 = .ok (.ifCond .eq 6, 3) := D_153 yB_cX7_run rfl rfl (sg_p (m := 32768) (N := 6) rfl rfl rfl)
theorem dX7_run_63 : decode cX7_run 63 = .ok (.bipush (-3), 2) := D_16 yB_cX7_run rfl rfl (sg_n (m := 128) (N := 3) rfl rfl rfl)
theorem dX7_run_65 : decode cX7_run 65 = .ok (.ireturn, 1) := D_172 yB_cX7_run rfl rfl
theorem dX7_run_66 : decode cX7_run 66 = .ok (.aload_n 0, 1) := D_42 yB_cX7_run rfl rfl
theorem dX7_run_67 : decode cX7_run 67 = .ok (.getfield 19, 3) := D_180 yB_cX7_run rfl rfl rfl
theorem dX7_run_70 : decode cX7_run 70 = .ok (.aload_n 0, 1) := D_42 yB_cX7_run rfl rfl
theorem dX7_run_71 : decode cX7_run 71 = .ok (.getfield 12, 3) := D_180 yB_cX7_run rfl rfl rfl
theorem dX7_run_74 : decode cX7_run 74 = .ok (.invokevirtual 62, 3) := D_182 yB_cX7_run rfl rfl rfl
theorem dX7_run_77 : decode cX7_run 77 = .ok (.iconst 0, 1) := D_3 yB_cX7_run rfl rfl
theorem dX7_run_78 : decode cX7_run 78 = .ok (.istore 4, 2) := D_54 yB_cX7_run rfl rfl rfl
theorem dX7_run_80 : decode cX7_run 80 = .ok (.iload 4, 2) := D_21 yB_cX7_run rfl rfl rfl
theorem dX7_run_82 : decode cX7_run 82 = .ok (.aload_n 0, 1) := D_42 yB_cX7_run rfl rfl
theorem dX7_run_83 : decode cX7_run 83 = .ok (.getfield 19, 3) := D_180 yB_cX7_run rfl rfl rfl
theorem dX7_run_86 : decode cX7_run 86 = .ok (.getfield 150, 3) := D_180 yB_cX7_run rfl rfl rfl
theorem dX7_run_89 : decode cX7_run 89 = .ok (.if_icmp .ge 42, 3) := D_162 yB_cX7_run rfl rfl (sg_p (m := 32768) (N := 42) rfl rfl rfl)
theorem dX7_run_92 : decode cX7_run 92 = .ok (.aload_n 0, 1) := D_42 yB_cX7_run rfl rfl
theorem dX7_run_93 : decode cX7_run 93 = .ok (.getfield 19, 3) := D_180 yB_cX7_run rfl rfl rfl
theorem dX7_run_96 : decode cX7_run 96 = .ok (.getfield 217, 3) := D_180 yB_cX7_run rfl rfl rfl
theorem dX7_run_99 : decode cX7_run 99 = .ok (.iload 4, 2) := D_21 yB_cX7_run rfl rfl rfl
theorem dX7_run_101 : decode cX7_run 101 = .ok (.aaload, 1) := D_50 yB_cX7_run rfl rfl
theorem dX7_run_102 : decode cX7_run 102 = .ok (.iload 4, 2) := D_21 yB_cX7_run rfl rfl rfl
theorem dX7_run_104 : decode cX7_run 104 = .ok (.aload_n 3, 1) := D_45 yB_cX7_run rfl rfl
theorem dX7_run_105 : decode cX7_run 105 = .ok (.getfield 204, 3) := D_180 yB_cX7_run rfl rfl rfl
theorem dX7_run_108 : decode cX7_run 108 = .ok (.if_icmp .ge 13, 3) := D_162 yB_cX7_run rfl rfl (sg_p (m := 32768) (N := 13) rfl rfl rfl)
theorem dX7_run_111 : decode cX7_run 111 = .ok (.aload_n 3, 1) := D_45 yB_cX7_run rfl rfl
theorem dX7_run_112 : decode cX7_run 112 = .ok (.getfield 207, 3) := D_180 yB_cX7_run rfl rfl rfl
theorem dX7_run_115 : decode cX7_run 115 = .ok (.iload 4, 2) := D_21 yB_cX7_run rfl rfl rfl
theorem dX7_run_117 : decode cX7_run 117 = .ok (.iaload, 1) := D_46 yB_cX7_run rfl rfl
theorem dX7_run_118 : decode cX7_run 118 = .ok (.goto 4, 3) := D_167 yB_cX7_run rfl rfl (sg_p (m := 32768) (N := 4) rfl rfl rfl)
theorem dX7_run_121 : decode cX7_run 121 = .ok (.iconst 0, 1) := D_3 yB_cX7_run rfl rfl
theorem dX7_run_122 : decode cX7_run 122 = .ok (.putfield 221, 3) := D_181 yB_cX7_run rfl rfl rfl
theorem dX7_run_125 : decode cX7_run 125 = .ok (.iinc 4 1, 3) := D_132 yB_cX7_run rfl rfl rfl (sg_p (m := 128) (N := 1) rfl rfl rfl)
theorem dX7_run_128 : decode cX7_run 128 = .ok (.goto (-48), 3) := D_167 yB_cX7_run rfl rfl (sg_n (m := 32768) (N := 48) rfl rfl rfl)
theorem dX7_run_131 : decode cX7_run 131 = .ok (.aload_n 0, 1) := D_42 yB_cX7_run rfl rfl
theorem dX7_run_132 : decode cX7_run 132 = .ok (.invokevirtual 224, 3) := D_182 yB_cX7_run rfl rfl rfl
theorem dX7_run_135 : decode cX7_run 135 = .ok (.istore 4, 2) := D_54 yB_cX7_run rfl rfl rfl
theorem dX7_run_137 : decode cX7_run 137 = .ok (.iload_n 2, 1) := D_28 yB_cX7_run rfl rfl
theorem dX7_run_138 : decode cX7_run 138 = .ok (.tableswitch 57 0 3 #[30, 33, 41, 49], 30) := by decide +kernel
theorem dX7_run_168 : decode cX7_run 168 = .ok (.iload 4, 2) := D_21 yB_cX7_run rfl rfl rfl
theorem dX7_run_170 : decode cX7_run 170 = .ok (.ireturn, 1) := D_172 yB_cX7_run rfl rfl
theorem dX7_run_171 : decode cX7_run 171 = .ok (.aload_n 0, 1) := D_42 yB_cX7_run rfl rfl
theorem dX7_run_172 : decode cX7_run 172 = .ok (.getfield 19, 3) := D_180 yB_cX7_run rfl rfl rfl
theorem dX7_run_175 : decode cX7_run 175 = .ok (.invokevirtual 169, 3) := D_182 yB_cX7_run rfl rfl rfl
theorem dX7_run_178 : decode cX7_run 178 = .ok (.ireturn, 1) := D_172 yB_cX7_run rfl rfl
theorem dX7_run_179 : decode cX7_run 179 = .ok (.aload_n 0, 1) := D_42 yB_cX7_run rfl rfl
theorem dX7_run_180 : decode cX7_run 180 = .ok (.getfield 19, 3) := D_180 yB_cX7_run rfl rfl rfl
theorem dX7_run_183 : decode cX7_run 183 = .ok (.invokevirtual 173, 3) := D_182 yB_cX7_run rfl rfl rfl
theorem dX7_run_186 : decode cX7_run 186 = .ok (.ireturn, 1) := D_172 yB_cX7_run rfl rfl
theorem dX7_run_187 : decode cX7_run 187 = .ok (.aload_n 0, 1) := D_42 yB_cX7_run rfl rfl
theorem dX7_run_188 : decode cX7_run 188 = .ok (.getfield 19, 3) := D_180 yB_cX7_run rfl rfl rfl
theorem dX7_run_191 : decode cX7_run 191 = .ok (.getfield 144, 3) := D_180 yB_cX7_run rfl rfl rfl
theorem dX7_run_194 : decode cX7_run 194 = .ok (.ireturn, 1) := D_172 yB_cX7_run rfl rfl
theorem dX7_run_195 : decode cX7_run 195 = .ok (.aload_n 0, 1) := D_42 yB_cX7_run rfl rfl
theorem dX7_run_196 : decode cX7_run 196 = .ok (.getfield 19, 3) := D_180 yB_cX7_run rfl rfl rfl
theorem dX7_run_199 : decode cX7_run 199 = .ok (.invokevirtual 180, 3) := D_182 yB_cX7_run rfl rfl rfl
theorem dX7_run_202 : decode cX7_run 202 = .ok (.ifCond .eq 7, 3) := D_153 yB_cX7_run rfl rfl (sg_p (m := 32768) (N := 7) rfl rfl rfl)
theorem dX7_run_205 : decode cX7_run 205 = .ok (.iconst 1, 1) := D_4 yB_cX7_run rfl rfl
theorem dX7_run_206 : decode cX7_run 206 = .ok (.goto 4, 3) := D_167 yB_cX7_run rfl rfl (sg_p (m := 32768) (N := 4) rfl rfl rfl)
theorem dX7_run_209 : decode cX7_run 209 = .ok (.iconst 0, 1) := D_3 yB_cX7_run rfl rfl
theorem dX7_run_210 : decode cX7_run 210 = .ok (.ireturn, 1) := D_172 yB_cX7_run rfl rfl
def F_X7_run_80 (x1 : Int32) (x2 : Int32)  : Nat → Mem → Int32 → Nat → Option (Mem × Int32)
  | 0, _, _, _ => none
  | nn + 1, σ, v4, y3 => if (σ 44 2) ≤ v4 then (bd2 (F_X7_costInMind σ ) fun σ_13 r_14 => if x2 = 0 then (some (σ_13, r_14)) else (if x2 = 1 then ((F_X6_allBacked σ_13 2).bind fun r_20 => some (σ_13, r_20)) else (if x2 = 2 then ((F_X6_allWaited σ_13 2).bind fun r_22 => some (σ_13, r_22)) else (if x2 = 3 then (some (σ_13, (σ_13 44 3))) else ((F_X6_stands σ_13 2).bind fun r_16 => if r_16 = 0 then (some (σ_13, 0)) else (some (σ_13, 1))))))) else ((ix 7 v4).bind fun k_24 => if (σ (68 + y3) 4) ≤ v4 then (F_X7_run_80 x1 x2 nn (stm σ (22 * 2 + 15 + k_24) 5 0) (v4 + 1) y3) else ((ix 100 v4).bind fun k_26 => F_X7_run_80 x1 x2 nn (stm σ (22 * 2 + 15 + k_24) 5 (σ (76 + y3) k_26)) (v4 + 1) y3))
def F_X7_run (σ : Mem) (x1 : Int32) (x2 : Int32) : Option (Mem × Int32) := if x1 < 0 ∨ 8 ≤ x1 then (some (σ, (-1))) else ((ix 8 x1).bind fun j_1 => if x2 < 0 then (some (σ, (-1))) else (if x2 ≤ 4 then (if (σ (68 + j_1) 0) = 0 then (some (σ, (-11))) else (if (σ (68 + j_1) 0) = 2 then ((F_X5_isWithin σ j_1 0 200).bind fun r_6 => if r_6 = 0 then (some (σ, (-13))) else ((F_X7_cannotRun σ ).bind fun r_8 => if r_8 = 0 then (ck (cb01 σ 0) <| F_X7_run_80 x1 x2 FU (tcpy σ 2 0) 0 j_1) else (some (σ, (-3))))) else (some (σ, (-12))))) else (some (σ, (-1)))))
set_option maxHeartbeats 4000000 in
set_option maxRecDepth 100000 in
theorem c_X7_run (l : Launch) (D : va_G) (cA : Nat → ClassId) (ad : Nat → Nat) (o : Int64) (σ : Mem) (x1 : Int32) (x2 : Int32)  (res : Mem × Int32) (h : F_X7_run σ x1 x2 = some res) (sz : Nat) : Met l yX7_run (WY yX7_run cX7_run 5 (some .int)) (RM 6) (va_Pc [.ref (ad 66), .int x1, .int x2] (PW D cA ad o σ sz)) (va_Qi (fun r σ9 => r = res.2 ∧ σ9 = res.1) (QW D cA ad o) (FA ad sz)) 0 0 (FA ad sz) := by
  refine ct_of (own := RX7) (k := 6) (Qf := va_Qi (fun r σ9 => r = res.2 ∧ σ9 = res.1) (QW D cA ad o)) rfl (by decide) (Nat.le_of_ble_eq_true rfl) (fun p e s m below meth c ls C0 X hr hlk hP hl => ?_) sz
  have hS : va_S (FA ad s.heap.size) s.heap s.heap [] := va_S.rf
  have hl : lv_has ls 5 [(0, .ref (ad 66)), (1, .int x1), (2, .int x2)] := hl
  obtain ⟨hx, hb, hml, hown, hts⟩ := id C0
  unfold F_X7_run at h
  refine lv_aload_n hx hb dX7_run_0 rfl (lv_at hl 0 rfl) ?_
  refine lv_iload_n hx hb dX7_run_1 rfl (lv_at hl 1 rfl) ?_
  refine r_cq X hS (r_runV (As := [.int x1]) (rest := []) C0 X hP L_X7_50 (fun sz => c_X7_shelfAt l D cA ad o σ x1 sz) (show 66 < 106 ∧ kd 66 = (7, 8) from ⟨by decide, rfl⟩).1 (show 66 < 106 ∧ kd 66 = (7, 8) from ⟨by decide, rfl⟩).2 (by decide) rfl ⟨Nat.le_of_ble_eq_true rfl, Nat.le_of_ble_eq_true rfl⟩ rfl hl.1 rfl (Nat.le_of_ble_eq_true rfl) dX7_run_2 ⟨Nat.zero_le _, Nat.zero_le _⟩) (fun σ9 H locs hw hP hS => ?_) (fun x9 σ9 H locs hw hP hS => ?_)
  · rw [hw.1] at hP
    replace h := it_t h hw.2
    refine lv_astore_nN (lv' := [(3, .null), (0, .ref (ad 66)), (1, .int x1), (2, .int x2)]) hx hb dX7_run_5 rfl hl (by decide) rfl (fun ls hl => ?_)
    refine lv_aload_nN hx hb dX7_run_6 rfl (lv_at hl 0 rfl) ?_
    refine lv_ifnullN (tgt := 19) hx hb dX7_run_7 (by decide) ?_
    refine lv_iconst (v := (-1)) hx hb dX7_run_19 (by decide) ?_
    exact r_iret C0 X hP hS hr hlk dX7_run_20 (rt2 h)
  · rw [hw.1] at hP
    obtain ⟨-, j_1, hj_1, ej_1, rfl⟩ := hw
    replace h := it_f h (by rw [ej_1]; exact nosh hj_1)
    obtain ⟨k9, ek9, h⟩ := bnd h
    replace ek9 := ix_s ek9 (by decide)
    obtain rfl : j_1 = k9 := nI_inj (ej_1.symm.trans ek9.1) (by omega) (by have := ek9.2; omega)
    refine lv_astore_n (lv' := [(3, .ref (ad (68 + j_1))), (0, .ref (ad 66)), (1, .int x1), (2, .int x2)]) hx hb dX7_run_5 rfl hl (by decide) rfl (fun ls hl => ?_)
    refine lv_aload_n hx hb dX7_run_6 rfl (lv_at hl 0 rfl) ?_
    refine lv_ifnull hx hb dX7_run_7 ?_
    refine lv_iload_n hx hb dX7_run_10 rfl (lv_at hl 3 rfl) ?_
    refine lv_if_lt (tgt := 19) hx hb dX7_run_11 (by decide) (fun c_2 => ?_) (fun c_2 => ?_)
    · replace h := it_t h c_2
      refine lv_iconst (v := (-1)) hx hb dX7_run_19 (by decide) ?_
      exact r_iret C0 X hP hS hr hlk dX7_run_20 (rt2 h)
    · replace h := it_f h c_2
      refine lv_iload_n hx hb dX7_run_14 rfl (lv_at hl 3 rfl) ?_
      refine lv_iconst (v := 4) hx hb dX7_run_15 (by decide) ?_
      refine lv_icmp_le (tgt := 21) hx hb dX7_run_16 (by decide) (fun c_3 => ?_) (fun c_3 => ?_)
      · replace h := it_t h c_3
        refine lv_aload_n hx hb dX7_run_21 rfl (lv_at hl 0 rfl) ?_
        refine gf_X7_54 C0 X hP (68 + j_1) (kdS j_1 hj_1) dX7_run_22 ?_
        refine lv_if_ne (tgt := 31) hx hb dX7_run_25 (by decide) (fun c_4 => ?_) (fun c_4 => ?_)
        · replace h := it_f h c_4
          refine lv_aload_n hx hb dX7_run_31 rfl (lv_at hl 0 rfl) ?_
          refine gf_X7_54 C0 X hP (68 + j_1) (kdS j_1 hj_1) dX7_run_32 ?_
          refine lv_iconst (v := 2) hx hb dX7_run_35 (by decide) ?_
          refine lv_icmp_eq (tgt := 42) hx hb dX7_run_36 (by decide) (fun c_5 => ?_) (fun c_5 => ?_)
          · replace h := it_t h c_5
            refine lv_aload_n hx hb dX7_run_42 rfl (lv_at hl 0 rfl) ?_
            refine lv_iconst (v := 0) hx hb dX7_run_43 (by decide) ?_
            refine lv_sipush (v := 200) hx hb dX7_run_44 (by decide) ?_
            obtain ⟨r_6, er_6, h⟩ := bnd h
            refine r_ci X hS (r_runV (As := [.int 0, .int 200]) (rest := []) C0 X hP L_X7_213 (fun sz => c_X5_isWithin l D cA ad o σ j_1 0 200 hj_1 r_6 er_6 sz) (kdS j_1 hj_1).1 (kdS j_1 hj_1).2 (by decide) rfl ⟨Nat.le_of_ble_eq_true rfl, Nat.le_of_ble_eq_true rfl⟩ rfl hl.1 rfl (Nat.le_of_ble_eq_true rfl) dX7_run_47 ⟨Nat.zero_le _, Nat.zero_le _⟩) (fun r9 σ9 H locs hw hP hS => ?_)
            rw [hw.2] at hP
            rw [hw.1]
            refine lv_if_ne (tgt := 56) hx hb dX7_run_50 (by decide) (fun c_7 => ?_) (fun c_7 => ?_)
            · replace h := it_f h c_7
              refine lv_aload_n hx hb dX7_run_56 rfl (lv_at hl 1 rfl) ?_
              obtain ⟨r_8, er_8, h⟩ := bnd h
              refine r_ci X hS (r_runV (As := []) (rest := []) C0 X hP L_X7_135 (fun sz => c_X7_cannotRun l D cA ad o σ   r_8 er_8 sz) (show 66 < 106 ∧ kd 66 = (7, 8) from ⟨by decide, rfl⟩).1 (show 66 < 106 ∧ kd 66 = (7, 8) from ⟨by decide, rfl⟩).2 (by decide) rfl ⟨Nat.le_of_ble_eq_true rfl, Nat.le_of_ble_eq_true rfl⟩ rfl hl.1 rfl (Nat.le_of_ble_eq_true rfl) dX7_run_57 ⟨Nat.zero_le _, Nat.zero_le _⟩) (fun r9 σ9 H locs hw hP hS => ?_)
              rw [hw.2] at hP
              rw [hw.1]
              refine lv_if_eq (tgt := 66) hx hb dX7_run_60 (by decide) (fun c_9 => ?_) (fun c_9 => ?_)
              · replace h := it_t h c_9
                refine lv_aload_n hx hb dX7_run_66 rfl (lv_at hl 1 rfl) ?_
                refine gf_X7_19 C0 X hP 66 (q := 44) ⟨by decide, rfl⟩ (by omega) rfl dX7_run_67 ?_
                refine lv_aload_n hx hb dX7_run_70 rfl (lv_at hl 1 rfl) ?_
                refine gf_X7_12 C0 X hP 66 (q := 0) ⟨by decide, rfl⟩ (by omega) rfl dX7_run_71 ?_
                obtain ⟨q_10, h⟩ := ckp h
                refine r_cv X hS (r_runV (As := [.ref (ad 0)]) (rest := []) C0 X hP L_X7_62 (fun sz => c_X6_copyFrom l D cA ad o σ 2 0 (by decide) (by decide) (by decide) (cb01_e q_10) sz) (show 44 < 106 ∧ kd 44 = (6, 11) from ⟨by decide, rfl⟩).1 (show 44 < 106 ∧ kd 44 = (6, 11) from ⟨by decide, rfl⟩).2 (by decide) rfl ⟨Nat.le_of_ble_eq_true rfl, Nat.le_of_ble_eq_true rfl⟩ rfl hl.1 rfl (Nat.le_of_ble_eq_true rfl) dX7_run_74 ⟨Nat.zero_le _, Nat.zero_le _⟩) (fun σ9 H locs hw hP hS => ?_)
                rw [show σ9 = (tcpy σ 2 0) from hw] at hP
                refine lv_iconst (v := 0) hx hb dX7_run_77 (by decide) ?_
                refine lv_istore (lv' := [(4, .int 0), (3, .ref (ad (68 + j_1))), (0, .ref (ad 66)), (1, .int x1), (2, .int x2)]) hx hb dX7_run_78 hl (by decide) rfl (fun ls hl => ?_)
                have lp_11 : ∀ (nn80 : Nat) (σ : Mem) (v4 : Int32) (y3 : Nat) (H : Heap) (locs : List Loc) (ls : Array Slot), y3 < 8 → F_X7_run_80 x1 x2 nn80 σ v4 y3 = some res → WP D cA ad o σ H → va_S (FA ad s.heap.size) s.heap H locs → lv_has ls 5 [(4, .int v4), (3, .ref (ad (68 + y3))), (0, .ref (ad 66)), (1, .int x1), (2, .int x2)] → W p l e (RM 6) s m ([.ref (ad 66), .int x1, .int x2] : List Value).toArray below meth c H locs 0 0 (MQ below (va_Qi (fun r σ9 => r = res.2 ∧ σ9 = res.1) (QW D cA ad o) (FA ad s.heap.size)) ([.ref (ad 66), .int x1, .int x2] : List Value).toArray s 0 0 (FA ad s.heap.size)) (F0 m 80 ls []) := by
                  intro nn80
                  induction nn80 with
                  | zero => intro σ v4 y3 H locs ls hy3 h hP hS hl; exact absurd (show none = some res from h) nofun
                  | succ nn80 ih80 =>
                    intro σ v4 y3 H locs ls hy3 h hP hS hl
                    replace h := (F_X7_run_80.eq_2 _ _ _ _ _ _).symm.trans h
                    refine lv_iload hx hb dX7_run_80 (lv_at hl 0 rfl) ?_
                    refine lv_aload_n hx hb dX7_run_82 rfl (lv_at hl 2 rfl) ?_
                    refine gf_X7_19 C0 X hP 66 (q := 44) ⟨by decide, rfl⟩ (by omega) rfl dX7_run_83 ?_
                    refine gf_X7_150 C0 X hP 44 ⟨by decide, rfl⟩ dX7_run_86 ?_
                    refine lv_icmp_ge (tgt := 131) hx hb dX7_run_89 (by decide) (fun c_12 => ?_) (fun c_12 => ?_)
                    · replace h := it_t h c_12
                      refine lv_aload_n hx hb dX7_run_131 rfl (lv_at hl 2 rfl) ?_
                      obtain ⟨σ_13, r_14, eσ_13, h⟩ := bnd2 h
                      refine r_ci X hS (r_runV (As := []) (rest := []) C0 X hP L_X7_224 (fun sz => c_X7_costInMind l D cA ad o σ   (σ_13, r_14) eσ_13 sz) (show 66 < 106 ∧ kd 66 = (7, 8) from ⟨by decide, rfl⟩).1 (show 66 < 106 ∧ kd 66 = (7, 8) from ⟨by decide, rfl⟩).2 (by decide) rfl ⟨Nat.le_of_ble_eq_true rfl, Nat.le_of_ble_eq_true rfl⟩ rfl hl.1 rfl (Nat.le_of_ble_eq_true rfl) dX7_run_132 ⟨Nat.zero_le _, Nat.zero_le _⟩) (fun r9 σ9 H locs hw hP hS => ?_)
                      rw [show σ9 = σ_13 from hw.2] at hP
                      rw [show r9 = r_14 from hw.1]
                      refine lv_istore (lv' := [(4, .int r_14), (3, .ref (ad (68 + y3))), (0, .ref (ad 66)), (1, .int x1), (2, .int x2)]) hx hb dX7_run_135 hl (by decide) rfl (fun ls hl => ?_)
                      refine lv_iload_n hx hb dX7_run_137 rfl (lv_at hl 4 rfl) ?_
                      rcases sw_in (x := x2) (lo := 0) (n := 4) with c_15 | ⟨j, hj, c_15⟩
                      · replace h := it_f h (sw_ne (v := 0) c_15 (by decide))
                        replace h := it_f h (sw_ne (v := 1) c_15 (by decide))
                        replace h := it_f h (sw_ne (v := 2) c_15 (by decide))
                        replace h := it_f h (sw_ne (v := 3) c_15 (by decide))
                        refine lv_tableOut (tgt := 195) hx hb dX7_run_138 (by omega) (by decide) ?_
                        refine lv_aload_n hx hb dX7_run_195 rfl (lv_at hl 2 rfl) ?_
                        refine gf_X7_19 C0 X hP 66 (q := 44) ⟨by decide, rfl⟩ (by omega) rfl dX7_run_196 ?_
                        obtain ⟨r_16, er_16, h⟩ := bnd h
                        refine r_ci X hS (r_runV (As := []) (rest := []) C0 X hP L_X7_180 (fun sz => c_X6_stands l D cA ad o σ_13 2 (by decide) r_16 er_16 sz) (show 44 < 106 ∧ kd 44 = (6, 11) from ⟨by decide, rfl⟩).1 (show 44 < 106 ∧ kd 44 = (6, 11) from ⟨by decide, rfl⟩).2 (by decide) rfl ⟨Nat.le_of_ble_eq_true rfl, Nat.le_of_ble_eq_true rfl⟩ rfl hl.1 rfl (Nat.le_of_ble_eq_true rfl) dX7_run_199 ⟨Nat.zero_le _, Nat.zero_le _⟩) (fun r9 σ9 H locs hw hP hS => ?_)
                        rw [hw.2] at hP
                        rw [hw.1]
                        refine lv_if_eq (tgt := 209) hx hb dX7_run_202 (by decide) (fun c_17 => ?_) (fun c_17 => ?_)
                        · replace h := it_t h c_17
                          refine lv_iconst (v := 0) hx hb dX7_run_209 (by decide) ?_
                          exact r_iret C0 X hP hS hr hlk dX7_run_210 (rt2 h)
                        · replace h := it_f h c_17
                          refine lv_iconst (v := 1) hx hb dX7_run_205 (by decide) ?_
                          refine lv_goto (tgt := 210) hx hb dX7_run_206 (by decide) ?_
                          exact r_iret C0 X hP hS hr hlk dX7_run_210 (rt2 h)
                      · rcases (show j = 0 ∨ j = 1 ∨ j = 2 ∨ j = 3 by omega) with rfl | rfl | rfl | rfl
                        · have e_18 : x2 = 0 := sw_eq c_15 (by decide)
                          replace h := it_t h e_18
                          refine lv_tableIn (off := 30) (tgt := 168) hx hb dX7_run_138 (by rw [e_18]; decide) (by rw [e_18]; decide) (by rw [e_18]; rfl) (by decide) ?_
                          refine lv_iload hx hb dX7_run_168 (lv_at hl 0 rfl) ?_
                          exact r_iret C0 X hP hS hr hlk dX7_run_170 (rt2 h)
                        · have e_19 : x2 = 1 := sw_eq c_15 (by decide)
                          replace h := it_f h (show ¬ x2 = 0 by rw [e_19]; decide)
                          replace h := it_t h e_19
                          refine lv_tableIn (off := 33) (tgt := 171) hx hb dX7_run_138 (by rw [e_19]; decide) (by rw [e_19]; decide) (by rw [e_19]; rfl) (by decide) ?_
                          refine lv_aload_n hx hb dX7_run_171 rfl (lv_at hl 2 rfl) ?_
                          refine gf_X7_19 C0 X hP 66 (q := 44) ⟨by decide, rfl⟩ (by omega) rfl dX7_run_172 ?_
                          obtain ⟨r_20, er_20, h⟩ := bnd h
                          refine r_ci X hS (r_runV (As := []) (rest := []) C0 X hP L_X7_169 (fun sz => c_X6_allBacked l D cA ad o σ_13 2 (by decide) r_20 er_20 sz) (show 44 < 106 ∧ kd 44 = (6, 11) from ⟨by decide, rfl⟩).1 (show 44 < 106 ∧ kd 44 = (6, 11) from ⟨by decide, rfl⟩).2 (by decide) rfl ⟨Nat.le_of_ble_eq_true rfl, Nat.le_of_ble_eq_true rfl⟩ rfl hl.1 rfl (Nat.le_of_ble_eq_true rfl) dX7_run_175 ⟨Nat.zero_le _, Nat.zero_le _⟩) (fun r9 σ9 H locs hw hP hS => ?_)
                          rw [hw.2] at hP
                          rw [hw.1]
                          exact r_iret C0 X hP hS hr hlk dX7_run_178 (rt2 h)
                        · have e_21 : x2 = 2 := sw_eq c_15 (by decide)
                          replace h := it_f h (show ¬ x2 = 0 by rw [e_21]; decide)
                          replace h := it_f h (show ¬ x2 = 1 by rw [e_21]; decide)
                          replace h := it_t h e_21
                          refine lv_tableIn (off := 41) (tgt := 179) hx hb dX7_run_138 (by rw [e_21]; decide) (by rw [e_21]; decide) (by rw [e_21]; rfl) (by decide) ?_
                          refine lv_aload_n hx hb dX7_run_179 rfl (lv_at hl 2 rfl) ?_
                          refine gf_X7_19 C0 X hP 66 (q := 44) ⟨by decide, rfl⟩ (by omega) rfl dX7_run_180 ?_
                          obtain ⟨r_22, er_22, h⟩ := bnd h
                          refine r_ci X hS (r_runV (As := []) (rest := []) C0 X hP L_X7_173 (fun sz => c_X6_allWaited l D cA ad o σ_13 2 (by decide) r_22 er_22 sz) (show 44 < 106 ∧ kd 44 = (6, 11) from ⟨by decide, rfl⟩).1 (show 44 < 106 ∧ kd 44 = (6, 11) from ⟨by decide, rfl⟩).2 (by decide) rfl ⟨Nat.le_of_ble_eq_true rfl, Nat.le_of_ble_eq_true rfl⟩ rfl hl.1 rfl (Nat.le_of_ble_eq_true rfl) dX7_run_183 ⟨Nat.zero_le _, Nat.zero_le _⟩) (fun r9 σ9 H locs hw hP hS => ?_)
                          rw [hw.2] at hP
                          rw [hw.1]
                          exact r_iret C0 X hP hS hr hlk dX7_run_186 (rt2 h)
                        · have e_23 : x2 = 3 := sw_eq c_15 (by decide)
                          replace h := it_f h (show ¬ x2 = 0 by rw [e_23]; decide)
                          replace h := it_f h (show ¬ x2 = 1 by rw [e_23]; decide)
                          replace h := it_f h (show ¬ x2 = 2 by rw [e_23]; decide)
                          replace h := it_t h e_23
                          refine lv_tableIn (off := 49) (tgt := 187) hx hb dX7_run_138 (by rw [e_23]; decide) (by rw [e_23]; decide) (by rw [e_23]; rfl) (by decide) ?_
                          refine lv_aload_n hx hb dX7_run_187 rfl (lv_at hl 2 rfl) ?_
                          refine gf_X7_19 C0 X hP 66 (q := 44) ⟨by decide, rfl⟩ (by omega) rfl dX7_run_188 ?_
                          refine gf_X7_144 C0 X hP 44 ⟨by decide, rfl⟩ dX7_run_191 ?_
                          exact r_iret C0 X hP hS hr hlk dX7_run_194 (rt2 h)
                    · replace h := it_f h c_12
                      refine lv_aload_n hx hb dX7_run_92 rfl (lv_at hl 2 rfl) ?_
                      refine gf_X7_19 C0 X hP 66 (q := 44) ⟨by decide, rfl⟩ (by omega) rfl dX7_run_93 ?_
                      refine gf_X7_217 C0 X hP 44 (q := 57) ⟨by decide, rfl⟩ (by omega) rfl dX7_run_96 ?_
                      refine lv_iload hx hb dX7_run_99 (lv_at hl 0 rfl) ?_
                      obtain ⟨k_24, ek_24, h⟩ := bnd h
                      replace ek_24 := ix_s ek_24 (by decide)
                      refine r_aaldCN C0 X hP 57 (k := k_24) (q := (22 * 2 + 15 + k_24)) ⟨by decide, rfl⟩ ek_24.1 ek_24.2 (lkCA 2 (by decide) k_24 ek_24.2) dX7_run_101 ?_
                      refine lv_iload hx hb dX7_run_102 (lv_at hl 0 rfl) ?_
                      refine lv_aload_n hx hb dX7_run_104 rfl (lv_at hl 1 rfl) ?_
                      refine gf_X7_204 C0 X hP (68 + y3) (kdS y3 hy3) dX7_run_105 ?_
                      refine lv_icmp_ge (tgt := 121) hx hb dX7_run_108 (by decide) (fun c_25 => ?_) (fun c_25 => ?_)
                      · replace h := it_t h c_25
                        refine lv_iconst (v := 0) hx hb dX7_run_121 (by decide) ?_
                        refine pf_X7_221 C0 X hP hS (22 * 2 + 15 + k_24) (kdC 2 (by decide) k_24 ek_24.2) dX7_run_122 (fun H locs hP hS => ?_)
                        refine lv_iinc (v := (v4 + 1)) (lv' := [(4, .int (v4 + 1)), (3, .ref (ad (68 + y3))), (0, .ref (ad 66)), (1, .int x1), (2, .int x2)]) hx hb dX7_run_125 hl (k := 0) rfl rfl (by decide) rfl (fun ls hl => ?_)
                        refine lv_goto (tgt := 80) hx hb dX7_run_128 (by decide) ?_
                        exact ih80 (stm σ (22 * 2 + 15 + k_24) 5 0) (v4 + 1) y3 _ _ ls hy3 h hP hS (lv_sub hl [0, 1, 2, 3, 4] rfl)
                      · replace h := it_f h c_25
                        refine lv_aload_n hx hb dX7_run_111 rfl (lv_at hl 1 rfl) ?_
                        refine gf_X7_207 C0 X hP (68 + y3) (q := (76 + y3)) (kdS y3 hy3) (by omega) (lkS5 y3 hy3) dX7_run_112 ?_
                        refine lv_iload hx hb dX7_run_115 (lv_at hl 0 rfl) ?_
                        obtain ⟨k_26, ek_26, h⟩ := bnd h
                        replace ek_26 := ix_s ek_26 (by decide)
                        refine r_ialdN C0 X hP (76 + y3) (k := k_26) (kdV y3 hy3) ek_26.1 ek_26.2 dX7_run_117 ?_
                        refine lv_goto (tgt := 122) hx hb dX7_run_118 (by decide) ?_
                        refine pf_X7_221 C0 X hP hS (22 * 2 + 15 + k_24) (kdC 2 (by decide) k_24 ek_24.2) dX7_run_122 (fun H locs hP hS => ?_)
                        refine lv_iinc (v := (v4 + 1)) (lv' := [(4, .int (v4 + 1)), (3, .ref (ad (68 + y3))), (0, .ref (ad 66)), (1, .int x1), (2, .int x2)]) hx hb dX7_run_125 hl (k := 0) rfl rfl (by decide) rfl (fun ls hl => ?_)
                        refine lv_goto (tgt := 80) hx hb dX7_run_128 (by decide) ?_
                        exact ih80 (stm σ (22 * 2 + 15 + k_24) 5 (σ (76 + y3) k_26)) (v4 + 1) y3 _ _ ls hy3 h hP hS (lv_sub hl [0, 1, 2, 3, 4] rfl)
                exact lp_11 FU (tcpy σ 2 0) 0 j_1 _ _ ls hj_1 h hP hS (lv_sub hl [0, 1, 2, 3, 4] rfl)
              · replace h := it_f h c_9
                refine lv_bipush (v := (-3)) hx hb dX7_run_63 (by decide) ?_
                exact r_iret C0 X hP hS hr hlk dX7_run_65 (rt2 h)
            · replace h := it_t h c_7
              refine lv_bipush (v := (-13)) hx hb dX7_run_53 (by decide) ?_
              exact r_iret C0 X hP hS hr hlk dX7_run_55 (rt2 h)
          · replace h := it_f h c_5
            refine lv_bipush (v := (-12)) hx hb dX7_run_39 (by decide) ?_
            exact r_iret C0 X hP hS hr hlk dX7_run_41 (rt2 h)
        · replace h := it_t h c_4
          refine lv_bipush (v := (-11)) hx hb dX7_run_28 (by decide) ?_
          exact r_iret C0 X hP hS hr hlk dX7_run_30 (rt2 h)
      · replace h := it_f h c_3
        refine lv_iconst (v := (-1)) hx hb dX7_run_19 (by decide) ?_
        exact r_iret C0 X hP hS hr hlk dX7_run_20 (rt2 h)
def bB_cX7_ever : Nat := 0xacfc10e1ffa7010384ac1d050099b400b61300b42a57e000b62add00b51d2c1f00a328101d3e03ac020500c72c4d6300b61b1300b42a3e00b60c00b42a1300b42aacfd1006009a4a00b44600b40c00b42aac020500c76300b61b0c00b42a
theorem yB_cX7_ever : BYS cX7_ever 94 bB_cX7_ever := BYS_of (by decide +kernel)
theorem dX7_ever_0 : decode cX7_ever 0 = .ok (.aload_n 0, 1) := D_42 yB_cX7_ever rfl rfl
theorem dX7_ever_1 : decode cX7_ever 1 = .ok (.getfield 12, 3) := D_180 yB_cX7_ever rfl rfl rfl
theorem dX7_ever_4 : decode cX7_ever 4 = .ok (.iload_n 1, 1) := D_27 yB_cX7_ever rfl rfl
theorem dX7_ever_5 : decode cX7_ever 5 = .ok (.invokevirtual 99, 3) := D_182 yB_cX7_ever rfl rfl rfl
theorem dX7_ever_8 : decode cX7_ever 8 = .ok (.ifnonnull 5, 3) := D_199 yB_cX7_ever rfl rfl (sg_p (m := 32768) (N := 5) rfl rfl rfl)
theorem dX7_ever_11 : decode cX7_ever 11 = .ok (.iconst (-1), 1) := D_2 yB_cX7_ever rfl rfl
theorem dX7_ever_12 : decode cX7_ever 12 = .ok (.ireturn, 1) := D_172 yB_cX7_ever rfl rfl
theorem dX7_ever_13 : decode cX7_ever 13 = .ok (.aload_n 0, 1) := D_42 yB_cX7_ever rfl rfl
theorem dX7_ever_14 : decode cX7_ever 14 = .ok (.getfield 12, 3) := D_180 yB_cX7_ever rfl rfl rfl
theorem dX7_ever_17 : decode cX7_ever 17 = .ok (.getfield 70, 3) := D_180 yB_cX7_ever rfl rfl rfl
theorem dX7_ever_20 : decode cX7_ever 20 = .ok (.getfield 74, 3) := D_180 yB_cX7_ever rfl rfl rfl
theorem dX7_ever_23 : decode cX7_ever 23 = .ok (.ifCond .ne 6, 3) := D_154 yB_cX7_ever rfl rfl (sg_p (m := 32768) (N := 6) rfl rfl rfl)
theorem dX7_ever_26 : decode cX7_ever 26 = .ok (.bipush (-3), 2) := D_16 yB_cX7_ever rfl rfl (sg_n (m := 128) (N := 3) rfl rfl rfl)
theorem dX7_ever_28 : decode cX7_ever 28 = .ok (.ireturn, 1) := D_172 yB_cX7_ever rfl rfl
theorem dX7_ever_29 : decode cX7_ever 29 = .ok (.aload_n 0, 1) := D_42 yB_cX7_ever rfl rfl
theorem dX7_ever_30 : decode cX7_ever 30 = .ok (.getfield 19, 3) := D_180 yB_cX7_ever rfl rfl rfl
theorem dX7_ever_33 : decode cX7_ever 33 = .ok (.aload_n 0, 1) := D_42 yB_cX7_ever rfl rfl
theorem dX7_ever_34 : decode cX7_ever 34 = .ok (.getfield 12, 3) := D_180 yB_cX7_ever rfl rfl rfl
theorem dX7_ever_37 : decode cX7_ever 37 = .ok (.invokevirtual 62, 3) := D_182 yB_cX7_ever rfl rfl rfl
theorem dX7_ever_40 : decode cX7_ever 40 = .ok (.aload_n 0, 1) := D_42 yB_cX7_ever rfl rfl
theorem dX7_ever_41 : decode cX7_ever 41 = .ok (.getfield 19, 3) := D_180 yB_cX7_ever rfl rfl rfl
theorem dX7_ever_44 : decode cX7_ever 44 = .ok (.iload_n 1, 1) := D_27 yB_cX7_ever rfl rfl
theorem dX7_ever_45 : decode cX7_ever 45 = .ok (.invokevirtual 99, 3) := D_182 yB_cX7_ever rfl rfl rfl
theorem dX7_ever_48 : decode cX7_ever 48 = .ok (.astore_n 2, 1) := D_77 yB_cX7_ever rfl rfl
theorem dX7_ever_49 : decode cX7_ever 49 = .ok (.aload_n 2, 1) := D_44 yB_cX7_ever rfl rfl
theorem dX7_ever_50 : decode cX7_ever 50 = .ok (.ifnonnull 5, 3) := D_199 yB_cX7_ever rfl rfl (sg_p (m := 32768) (N := 5) rfl rfl rfl)
theorem dX7_ever_53 : decode cX7_ever 53 = .ok (.iconst (-1), 1) := D_2 yB_cX7_ever rfl rfl
theorem dX7_ever_54 : decode cX7_ever 54 = .ok (.ireturn, 1) := D_172 yB_cX7_ever rfl rfl
theorem dX7_ever_55 : decode cX7_ever 55 = .ok (.iconst 0, 1) := D_3 yB_cX7_ever rfl rfl
theorem dX7_ever_56 : decode cX7_ever 56 = .ok (.istore_n 3, 1) := D_62 yB_cX7_ever rfl rfl
theorem dX7_ever_57 : decode cX7_ever 57 = .ok (.iload_n 3, 1) := D_29 yB_cX7_ever rfl rfl
theorem dX7_ever_58 : decode cX7_ever 58 = .ok (.bipush 40, 2) := D_16 yB_cX7_ever rfl rfl (sg_p (m := 128) (N := 40) rfl rfl rfl)
theorem dX7_ever_60 : decode cX7_ever 60 = .ok (.if_icmp .gt 31, 3) := D_163 yB_cX7_ever rfl rfl (sg_p (m := 32768) (N := 31) rfl rfl rfl)
theorem dX7_ever_63 : decode cX7_ever 63 = .ok (.aload_n 2, 1) := D_44 yB_cX7_ever rfl rfl
theorem dX7_ever_64 : decode cX7_ever 64 = .ok (.iload_n 3, 1) := D_29 yB_cX7_ever rfl rfl
theorem dX7_ever_65 : decode cX7_ever 65 = .ok (.putfield 221, 3) := D_181 yB_cX7_ever rfl rfl rfl
theorem dX7_ever_68 : decode cX7_ever 68 = .ok (.aload_n 0, 1) := D_42 yB_cX7_ever rfl rfl
theorem dX7_ever_69 : decode cX7_ever 69 = .ok (.invokevirtual 224, 3) := D_182 yB_cX7_ever rfl rfl rfl
theorem dX7_ever_72 : decode cX7_ever 72 = .ok (.pop, 1) := D_87 yB_cX7_ever rfl rfl
theorem dX7_ever_73 : decode cX7_ever 73 = .ok (.aload_n 0, 1) := D_42 yB_cX7_ever rfl rfl
theorem dX7_ever_74 : decode cX7_ever 74 = .ok (.getfield 19, 3) := D_180 yB_cX7_ever rfl rfl rfl
theorem dX7_ever_77 : decode cX7_ever 77 = .ok (.invokevirtual 180, 3) := D_182 yB_cX7_ever rfl rfl rfl
theorem dX7_ever_80 : decode cX7_ever 80 = .ok (.ifCond .eq 5, 3) := D_153 yB_cX7_ever rfl rfl (sg_p (m := 32768) (N := 5) rfl rfl rfl)
theorem dX7_ever_83 : decode cX7_ever 83 = .ok (.iload_n 3, 1) := D_29 yB_cX7_ever rfl rfl
theorem dX7_ever_84 : decode cX7_ever 84 = .ok (.ireturn, 1) := D_172 yB_cX7_ever rfl rfl
theorem dX7_ever_85 : decode cX7_ever 85 = .ok (.iinc 3 1, 3) := D_132 yB_cX7_ever rfl rfl rfl (sg_p (m := 128) (N := 1) rfl rfl rfl)
theorem dX7_ever_88 : decode cX7_ever 88 = .ok (.goto (-31), 3) := D_167 yB_cX7_ever rfl rfl (sg_n (m := 32768) (N := 31) rfl rfl rfl)
theorem dX7_ever_91 : decode cX7_ever 91 = .ok (.bipush (-4), 2) := D_16 yB_cX7_ever rfl rfl (sg_n (m := 128) (N := 4) rfl rfl rfl)
theorem dX7_ever_93 : decode cX7_ever 93 = .ok (.ireturn, 1) := D_172 yB_cX7_ever rfl rfl
def F_X7_ever_57 (x1 : Int32)  : Nat → Mem → Int32 → Nat → Option (Mem × Int32)
  | 0, _, _, _ => none
  | nn + 1, σ, v3, y2 => if 40 < v3 then (some (σ, (-4))) else (bd2 (F_X7_costInMind (stm σ y2 5 v3) ) fun σ_7 r_8 => (F_X6_stands σ_7 2).bind fun r_9 => if r_9 = 0 then (F_X7_ever_57 x1 nn σ_7 (v3 + 1) y2) else (some (σ_7, v3)))
def F_X7_ever (σ : Mem) (x1 : Int32) : Option (Mem × Int32) := if x1 < 0 ∨ σ (22 * 0) 2 ≤ x1 ∨ 7 ≤ x1 then (some (σ, (-1))) else ((ix 7 x1).bind fun j_1 => if (σ 1 0) = 0 then (some (σ, (-3))) else (ck (cb01 σ 0) <| if x1 < 0 ∨ (tcpy σ 2 0) (22 * 2) 2 ≤ x1 ∨ 7 ≤ x1 then (some ((tcpy σ 2 0), (-1))) else ((ix 7 x1).bind fun j_4 => F_X7_ever_57 x1 FU (tcpy σ 2 0) 0 (22 * 2 + 15 + j_4))))
set_option maxHeartbeats 4000000 in
set_option maxRecDepth 100000 in
theorem c_X7_ever (l : Launch) (D : va_G) (cA : Nat → ClassId) (ad : Nat → Nat) (o : Int64) (σ : Mem) (x1 : Int32)  (res : Mem × Int32) (h : F_X7_ever σ x1 = some res) (sz : Nat) : Met l yX7_ever (WY yX7_ever cX7_ever 4 (some .int)) (RM 6) (va_Pc [.ref (ad 66), .int x1] (PW D cA ad o σ sz)) (va_Qi (fun r σ9 => r = res.2 ∧ σ9 = res.1) (QW D cA ad o) (FA ad sz)) 0 0 (FA ad sz) := by
  refine ct_of (own := RX7) (k := 6) (Qf := va_Qi (fun r σ9 => r = res.2 ∧ σ9 = res.1) (QW D cA ad o)) rfl (by decide) (Nat.le_of_ble_eq_true rfl) (fun p e s m below meth c ls C0 X hr hlk hP hl => ?_) sz
  have hS : va_S (FA ad s.heap.size) s.heap s.heap [] := va_S.rf
  have hl : lv_has ls 4 [(0, .ref (ad 66)), (1, .int x1)] := hl
  obtain ⟨hx, hb, hml, hown, hts⟩ := id C0
  unfold F_X7_ever at h
  refine lv_aload_n hx hb dX7_ever_0 rfl (lv_at hl 0 rfl) ?_
  refine gf_X7_12 C0 X hP 66 (q := 0) ⟨by decide, rfl⟩ (by omega) rfl dX7_ever_1 ?_
  refine lv_iload_n hx hb dX7_ever_4 rfl (lv_at hl 1 rfl) ?_
  refine r_cq X hS (r_runV (As := [.int x1]) (rest := []) C0 X hP L_X7_99 (fun sz => c_X6_cartAt l D cA ad o σ 0 x1 (by decide) sz) (show 0 < 106 ∧ kd 0 = (6, 11) from ⟨by decide, rfl⟩).1 (show 0 < 106 ∧ kd 0 = (6, 11) from ⟨by decide, rfl⟩).2 (by decide) rfl ⟨Nat.le_of_ble_eq_true rfl, Nat.le_of_ble_eq_true rfl⟩ rfl hl.1 rfl (Nat.le_of_ble_eq_true rfl) dX7_ever_5 ⟨Nat.zero_le _, Nat.zero_le _⟩) (fun σ9 H locs hw hP hS => ?_) (fun x9 σ9 H locs hw hP hS => ?_)
  · rw [hw.1] at hP
    replace h := it_t h hw.2
    refine lv_ifnonnullN hx hb dX7_ever_8 ?_
    refine lv_iconst (v := (-1)) hx hb dX7_ever_11 (by decide) ?_
    exact r_iret C0 X hP hS hr hlk dX7_ever_12 (rt2 h)
  · rw [hw.1] at hP
    obtain ⟨-, j_1, hj_1, ej_1, l9, rfl⟩ := hw
    replace h := it_f h (nocart ej_1 hj_1 l9)
    obtain ⟨k9, ek9, h⟩ := bnd h
    replace ek9 := ix_s ek9 (by decide)
    obtain rfl : j_1 = k9 := nI_inj (ej_1.symm.trans ek9.1) (by omega) (by have := ek9.2; omega)
    refine lv_ifnonnull (tgt := 13) hx hb dX7_ever_8 (by decide) ?_
    refine lv_aload_n hx hb dX7_ever_13 rfl (lv_at hl 0 rfl) ?_
    refine gf_X7_12 C0 X hP 66 (q := 0) ⟨by decide, rfl⟩ (by omega) rfl dX7_ever_14 ?_
    refine gf_X7_70 C0 X hP 0 (q := 1) ⟨by decide, rfl⟩ (by omega) rfl dX7_ever_17 ?_
    refine gf_X7_74 C0 X hP 1 ⟨by decide, rfl⟩ dX7_ever_20 ?_
    refine lv_if_ne (tgt := 29) hx hb dX7_ever_23 (by decide) (fun c_2 => ?_) (fun c_2 => ?_)
    · replace h := it_f h c_2
      refine lv_aload_n hx hb dX7_ever_29 rfl (lv_at hl 0 rfl) ?_
      refine gf_X7_19 C0 X hP 66 (q := 44) ⟨by decide, rfl⟩ (by omega) rfl dX7_ever_30 ?_
      refine lv_aload_n hx hb dX7_ever_33 rfl (lv_at hl 0 rfl) ?_
      refine gf_X7_12 C0 X hP 66 (q := 0) ⟨by decide, rfl⟩ (by omega) rfl dX7_ever_34 ?_
      obtain ⟨q_3, h⟩ := ckp h
      refine r_cv X hS (r_runV (As := [.ref (ad 0)]) (rest := []) C0 X hP L_X7_62 (fun sz => c_X6_copyFrom l D cA ad o σ 2 0 (by decide) (by decide) (by decide) (cb01_e q_3) sz) (show 44 < 106 ∧ kd 44 = (6, 11) from ⟨by decide, rfl⟩).1 (show 44 < 106 ∧ kd 44 = (6, 11) from ⟨by decide, rfl⟩).2 (by decide) rfl ⟨Nat.le_of_ble_eq_true rfl, Nat.le_of_ble_eq_true rfl⟩ rfl hl.1 rfl (Nat.le_of_ble_eq_true rfl) dX7_ever_37 ⟨Nat.zero_le _, Nat.zero_le _⟩) (fun σ9 H locs hw hP hS => ?_)
      rw [show σ9 = (tcpy σ 2 0) from hw] at hP
      refine lv_aload_n hx hb dX7_ever_40 rfl (lv_at hl 0 rfl) ?_
      refine gf_X7_19 C0 X hP 66 (q := 44) ⟨by decide, rfl⟩ (by omega) rfl dX7_ever_41 ?_
      refine lv_iload_n hx hb dX7_ever_44 rfl (lv_at hl 1 rfl) ?_
      refine r_cq X hS (r_runV (As := [.int x1]) (rest := []) C0 X hP L_X7_99 (fun sz => c_X6_cartAt l D cA ad o (tcpy σ 2 0) 2 x1 (by decide) sz) (show 44 < 106 ∧ kd 44 = (6, 11) from ⟨by decide, rfl⟩).1 (show 44 < 106 ∧ kd 44 = (6, 11) from ⟨by decide, rfl⟩).2 (by decide) rfl ⟨Nat.le_of_ble_eq_true rfl, Nat.le_of_ble_eq_true rfl⟩ rfl hl.1 rfl (Nat.le_of_ble_eq_true rfl) dX7_ever_45 ⟨Nat.zero_le _, Nat.zero_le _⟩) (fun σ9 H locs hw hP hS => ?_) (fun x9 σ9 H locs hw hP hS => ?_)
      · rw [hw.1] at hP
        replace h := it_t h hw.2
        refine lv_astore_nN (lv' := [(2, .null), (0, .ref (ad 66)), (1, .int x1)]) hx hb dX7_ever_48 rfl hl (by decide) rfl (fun ls hl => ?_)
        refine lv_aload_nN hx hb dX7_ever_49 rfl (lv_at hl 0 rfl) ?_
        refine lv_ifnonnullN hx hb dX7_ever_50 ?_
        refine lv_iconst (v := (-1)) hx hb dX7_ever_53 (by decide) ?_
        exact r_iret C0 X hP hS hr hlk dX7_ever_54 (rt2 h)
      · rw [hw.1] at hP
        obtain ⟨-, j_4, hj_4, ej_4, l9, rfl⟩ := hw
        replace h := it_f h (nocart ej_4 hj_4 l9)
        obtain ⟨k9, ek9, h⟩ := bnd h
        replace ek9 := ix_s ek9 (by decide)
        obtain rfl : j_4 = k9 := nI_inj (ej_4.symm.trans ek9.1) (by omega) (by have := ek9.2; omega)
        refine lv_astore_n (lv' := [(2, .ref (ad (22 * 2 + 15 + j_4))), (0, .ref (ad 66)), (1, .int x1)]) hx hb dX7_ever_48 rfl hl (by decide) rfl (fun ls hl => ?_)
        refine lv_aload_n hx hb dX7_ever_49 rfl (lv_at hl 0 rfl) ?_
        refine lv_ifnonnull (tgt := 55) hx hb dX7_ever_50 (by decide) ?_
        refine lv_iconst (v := 0) hx hb dX7_ever_55 (by decide) ?_
        refine lv_istore_n (lv' := [(3, .int 0), (2, .ref (ad (22 * 2 + 15 + j_4))), (0, .ref (ad 66)), (1, .int x1)]) hx hb dX7_ever_56 rfl hl (by decide) rfl (fun ls hl => ?_)
        have lp_5 : ∀ (nn57 : Nat) (σ : Mem) (v3 : Int32) (y2 : Nat) (H : Heap) (locs : List Loc) (ls : Array Slot), y2 < 106 ∧ kd y2 = (0, 12) → F_X7_ever_57 x1 nn57 σ v3 y2 = some res → WP D cA ad o σ H → va_S (FA ad s.heap.size) s.heap H locs → lv_has ls 4 [(3, .int v3), (2, .ref (ad y2)), (0, .ref (ad 66)), (1, .int x1)] → W p l e (RM 6) s m ([.ref (ad 66), .int x1] : List Value).toArray below meth c H locs 0 0 (MQ below (va_Qi (fun r σ9 => r = res.2 ∧ σ9 = res.1) (QW D cA ad o) (FA ad s.heap.size)) ([.ref (ad 66), .int x1] : List Value).toArray s 0 0 (FA ad s.heap.size)) (F0 m 57 ls []) := by
          intro nn57
          induction nn57 with
          | zero => intro σ v3 y2 H locs ls hy2 h hP hS hl; exact absurd (show none = some res from h) nofun
          | succ nn57 ih57 =>
            intro σ v3 y2 H locs ls hy2 h hP hS hl
            replace h := (F_X7_ever_57.eq_2 _ _ _ _ _).symm.trans h
            refine lv_iload_n hx hb dX7_ever_57 rfl (lv_at hl 0 rfl) ?_
            refine lv_bipush (v := 40) hx hb dX7_ever_58 (by decide) ?_
            refine lv_icmp_gt (tgt := 91) hx hb dX7_ever_60 (by decide) (fun c_6 => ?_) (fun c_6 => ?_)
            · replace h := it_t h c_6
              refine lv_bipush (v := (-4)) hx hb dX7_ever_91 (by decide) ?_
              exact r_iret C0 X hP hS hr hlk dX7_ever_93 (rt2 h)
            · replace h := it_f h c_6
              refine lv_aload_n hx hb dX7_ever_63 rfl (lv_at hl 1 rfl) ?_
              refine lv_iload_n hx hb dX7_ever_64 rfl (lv_at hl 0 rfl) ?_
              refine pf_X7_221 C0 X hP hS y2 hy2 dX7_ever_65 (fun H locs hP hS => ?_)
              refine lv_aload_n hx hb dX7_ever_68 rfl (lv_at hl 2 rfl) ?_
              obtain ⟨σ_7, r_8, eσ_7, h⟩ := bnd2 h
              refine r_ci X hS (r_runV (As := []) (rest := []) C0 X hP L_X7_224 (fun sz => c_X7_costInMind l D cA ad o (stm σ y2 5 v3)   (σ_7, r_8) eσ_7 sz) (show 66 < 106 ∧ kd 66 = (7, 8) from ⟨by decide, rfl⟩).1 (show 66 < 106 ∧ kd 66 = (7, 8) from ⟨by decide, rfl⟩).2 (by decide) rfl ⟨Nat.le_of_ble_eq_true rfl, Nat.le_of_ble_eq_true rfl⟩ rfl hl.1 rfl (Nat.le_of_ble_eq_true rfl) dX7_ever_69 ⟨Nat.zero_le _, Nat.zero_le _⟩) (fun r9 σ9 H locs hw hP hS => ?_)
              rw [show σ9 = σ_7 from hw.2] at hP
              rw [show r9 = r_8 from hw.1]
              refine lv_pop hx hb dX7_ever_72 rfl ?_
              refine lv_aload_n hx hb dX7_ever_73 rfl (lv_at hl 2 rfl) ?_
              refine gf_X7_19 C0 X hP 66 (q := 44) ⟨by decide, rfl⟩ (by omega) rfl dX7_ever_74 ?_
              obtain ⟨r_9, er_9, h⟩ := bnd h
              refine r_ci X hS (r_runV (As := []) (rest := []) C0 X hP L_X7_180 (fun sz => c_X6_stands l D cA ad o σ_7 2 (by decide) r_9 er_9 sz) (show 44 < 106 ∧ kd 44 = (6, 11) from ⟨by decide, rfl⟩).1 (show 44 < 106 ∧ kd 44 = (6, 11) from ⟨by decide, rfl⟩).2 (by decide) rfl ⟨Nat.le_of_ble_eq_true rfl, Nat.le_of_ble_eq_true rfl⟩ rfl hl.1 rfl (Nat.le_of_ble_eq_true rfl) dX7_ever_77 ⟨Nat.zero_le _, Nat.zero_le _⟩) (fun r9 σ9 H locs hw hP hS => ?_)
              rw [hw.2] at hP
              rw [hw.1]
              refine lv_if_eq (tgt := 85) hx hb dX7_ever_80 (by decide) (fun c_10 => ?_) (fun c_10 => ?_)
              · replace h := it_t h c_10
                refine lv_iinc (v := (v3 + 1)) (lv' := [(3, .int (v3 + 1)), (2, .ref (ad y2)), (0, .ref (ad 66)), (1, .int x1)]) hx hb dX7_ever_85 hl (k := 0) rfl rfl (by decide) rfl (fun ls hl => ?_)
                refine lv_goto (tgt := 57) hx hb dX7_ever_88 (by decide) ?_
                exact ih57 σ_7 (v3 + 1) y2 _ _ ls hy2 h hP hS (lv_sub hl [0, 1, 2, 3] rfl)
              · replace h := it_f h c_10
                refine lv_iload_n hx hb dX7_ever_83 rfl (lv_at hl 0 rfl) ?_
                exact r_iret C0 X hP hS hr hlk dX7_ever_84 (rt2 h)
        exact lp_5 FU (tcpy σ 2 0) 0 (22 * 2 + 15 + j_4) _ _ ls (kdC 2 (by decide) j_4 hj_4) h hP hS (lv_sub hl [0, 1, 2, 3] rfl)
    · replace h := it_t h c_2
      refine lv_bipush (v := (-3)) hx hb dX7_ever_26 (by decide) ?_
      exact r_iret C0 X hP hS hr hlk dX7_ever_28 (rt2 h)
def bB_cX7_best : Nat := 0xacf300b41f00b42a0a00a7f000b41f00b42a0d009a1bc2ffa7010384ec00b6e000b62a1d1f00b42ae0ffa7010484dd00b5687e067a680415051d08320415d900b41300b42a2000a21c04150436033b00a278681c05041d3e03e900b61f00b42a3de300b89600b41300b42a073e00b60c00b42a1300b42aacfd100600998700b62aac0205009f041b0a00991b
theorem yB_cX7_best : BYS cX7_best 140 bB_cX7_best := BYS_of (by decide +kernel)
theorem dX7_best_0 : decode cX7_best 0 = .ok (.iload_n 1, 1) := D_27 yB_cX7_best rfl rfl
theorem dX7_best_1 : decode cX7_best 1 = .ok (.ifCond .eq 10, 3) := D_153 yB_cX7_best rfl rfl (sg_p (m := 32768) (N := 10) rfl rfl rfl)
theorem dX7_best_4 : decode cX7_best 4 = .ok (.iload_n 1, 1) := D_27 yB_cX7_best rfl rfl
theorem dX7_best_5 : decode cX7_best 5 = .ok (.iconst 1, 1) := D_4 yB_cX7_best rfl rfl
theorem dX7_best_6 : decode cX7_best 6 = .ok (.if_icmp .eq 5, 3) := D_159 yB_cX7_best rfl rfl (sg_p (m := 32768) (N := 5) rfl rfl rfl)
theorem dX7_best_9 : decode cX7_best 9 = .ok (.iconst (-1), 1) := D_2 yB_cX7_best rfl rfl
theorem dX7_best_10 : decode cX7_best 10 = .ok (.ireturn, 1) := D_172 yB_cX7_best rfl rfl
theorem dX7_best_11 : decode cX7_best 11 = .ok (.aload_n 0, 1) := D_42 yB_cX7_best rfl rfl
theorem dX7_best_12 : decode cX7_best 12 = .ok (.invokevirtual 135, 3) := D_182 yB_cX7_best rfl rfl rfl
theorem dX7_best_15 : decode cX7_best 15 = .ok (.ifCond .eq 6, 3) := D_153 yB_cX7_best rfl rfl (sg_p (m := 32768) (N := 6) rfl rfl rfl)
theorem dX7_best_18 : decode cX7_best 18 = .ok (.bipush (-3), 2) := D_16 yB_cX7_best rfl rfl (sg_n (m := 128) (N := 3) rfl rfl rfl)
theorem dX7_best_20 : decode cX7_best 20 = .ok (.ireturn, 1) := D_172 yB_cX7_best rfl rfl
theorem dX7_best_21 : decode cX7_best 21 = .ok (.aload_n 0, 1) := D_42 yB_cX7_best rfl rfl
theorem dX7_best_22 : decode cX7_best 22 = .ok (.getfield 19, 3) := D_180 yB_cX7_best rfl rfl rfl
theorem dX7_best_25 : decode cX7_best 25 = .ok (.aload_n 0, 1) := D_42 yB_cX7_best rfl rfl
theorem dX7_best_26 : decode cX7_best 26 = .ok (.getfield 12, 3) := D_180 yB_cX7_best rfl rfl rfl
theorem dX7_best_29 : decode cX7_best 29 = .ok (.invokevirtual 62, 3) := D_182 yB_cX7_best rfl rfl rfl
theorem dX7_best_32 : decode cX7_best 32 = .ok (.iconst 4, 1) := D_7 yB_cX7_best rfl rfl
theorem dX7_best_33 : decode cX7_best 33 = .ok (.aload_n 0, 1) := D_42 yB_cX7_best rfl rfl
theorem dX7_best_34 : decode cX7_best 34 = .ok (.getfield 19, 3) := D_180 yB_cX7_best rfl rfl rfl
theorem dX7_best_37 : decode cX7_best 37 = .ok (.getfield 150, 3) := D_180 yB_cX7_best rfl rfl rfl
theorem dX7_best_40 : decode cX7_best 40 = .ok (.invokestatic 227, 3) := D_184 yB_cX7_best rfl rfl rfl
theorem dX7_best_43 : decode cX7_best 43 = .ok (.istore_n 2, 1) := D_61 yB_cX7_best rfl rfl
theorem dX7_best_44 : decode cX7_best 44 = .ok (.aload_n 0, 1) := D_42 yB_cX7_best rfl rfl
theorem dX7_best_45 : decode cX7_best 45 = .ok (.getfield 31, 3) := D_180 yB_cX7_best rfl rfl rfl
theorem dX7_best_48 : decode cX7_best 48 = .ok (.invokevirtual 233, 3) := D_182 yB_cX7_best rfl rfl rfl
theorem dX7_best_51 : decode cX7_best 51 = .ok (.iconst 0, 1) := D_3 yB_cX7_best rfl rfl
theorem dX7_best_52 : decode cX7_best 52 = .ok (.istore_n 3, 1) := D_62 yB_cX7_best rfl rfl
theorem dX7_best_53 : decode cX7_best 53 = .ok (.iload_n 3, 1) := D_29 yB_cX7_best rfl rfl
theorem dX7_best_54 : decode cX7_best 54 = .ok (.iconst 1, 1) := D_4 yB_cX7_best rfl rfl
theorem dX7_best_55 : decode cX7_best 55 = .ok (.iconst 2, 1) := D_5 yB_cX7_best rfl rfl
theorem dX7_best_56 : decode cX7_best 56 = .ok (.iload_n 2, 1) := D_28 yB_cX7_best rfl rfl
theorem dX7_best_57 : decode cX7_best 57 = .ok (.imul, 1) := D_104 yB_cX7_best rfl rfl
theorem dX7_best_58 : decode cX7_best 58 = .ok (.ishl, 1) := D_120 yB_cX7_best rfl rfl
theorem dX7_best_59 : decode cX7_best 59 = .ok (.if_icmp .ge 59, 3) := D_162 yB_cX7_best rfl rfl (sg_p (m := 32768) (N := 59) rfl rfl rfl)
theorem dX7_best_62 : decode cX7_best 62 = .ok (.iconst 0, 1) := D_3 yB_cX7_best rfl rfl
theorem dX7_best_63 : decode cX7_best 63 = .ok (.istore 4, 2) := D_54 yB_cX7_best rfl rfl rfl
theorem dX7_best_65 : decode cX7_best 65 = .ok (.iload 4, 2) := D_21 yB_cX7_best rfl rfl rfl
theorem dX7_best_67 : decode cX7_best 67 = .ok (.iload_n 2, 1) := D_28 yB_cX7_best rfl rfl
theorem dX7_best_68 : decode cX7_best 68 = .ok (.if_icmp .ge 32, 3) := D_162 yB_cX7_best rfl rfl (sg_p (m := 32768) (N := 32) rfl rfl rfl)
theorem dX7_best_71 : decode cX7_best 71 = .ok (.aload_n 0, 1) := D_42 yB_cX7_best rfl rfl
theorem dX7_best_72 : decode cX7_best 72 = .ok (.getfield 19, 3) := D_180 yB_cX7_best rfl rfl rfl
theorem dX7_best_75 : decode cX7_best 75 = .ok (.getfield 217, 3) := D_180 yB_cX7_best rfl rfl rfl
theorem dX7_best_78 : decode cX7_best 78 = .ok (.iload 4, 2) := D_21 yB_cX7_best rfl rfl rfl
theorem dX7_best_80 : decode cX7_best 80 = .ok (.aaload, 1) := D_50 yB_cX7_best rfl rfl
theorem dX7_best_81 : decode cX7_best 81 = .ok (.iconst 5, 1) := D_8 yB_cX7_best rfl rfl
theorem dX7_best_82 : decode cX7_best 82 = .ok (.iload_n 3, 1) := D_29 yB_cX7_best rfl rfl
theorem dX7_best_83 : decode cX7_best 83 = .ok (.iconst 2, 1) := D_5 yB_cX7_best rfl rfl
theorem dX7_best_84 : decode cX7_best 84 = .ok (.iload 4, 2) := D_21 yB_cX7_best rfl rfl rfl
theorem dX7_best_86 : decode cX7_best 86 = .ok (.imul, 1) := D_104 yB_cX7_best rfl rfl
theorem dX7_best_87 : decode cX7_best 87 = .ok (.ishr, 1) := D_122 yB_cX7_best rfl rfl
theorem dX7_best_88 : decode cX7_best 88 = .ok (.iconst 3, 1) := D_6 yB_cX7_best rfl rfl
theorem dX7_best_89 : decode cX7_best 89 = .ok (.iand, 1) := D_126 yB_cX7_best rfl rfl
theorem dX7_best_90 : decode cX7_best 90 = .ok (.imul, 1) := D_104 yB_cX7_best rfl rfl
theorem dX7_best_91 : decode cX7_best 91 = .ok (.putfield 221, 3) := D_181 yB_cX7_best rfl rfl rfl
theorem dX7_best_94 : decode cX7_best 94 = .ok (.iinc 4 1, 3) := D_132 yB_cX7_best rfl rfl rfl (sg_p (m := 128) (N := 1) rfl rfl rfl)
theorem dX7_best_97 : decode cX7_best 97 = .ok (.goto (-32), 3) := D_167 yB_cX7_best rfl rfl (sg_n (m := 32768) (N := 32) rfl rfl rfl)
theorem dX7_best_100 : decode cX7_best 100 = .ok (.aload_n 0, 1) := D_42 yB_cX7_best rfl rfl
theorem dX7_best_101 : decode cX7_best 101 = .ok (.getfield 31, 3) := D_180 yB_cX7_best rfl rfl rfl
theorem dX7_best_104 : decode cX7_best 104 = .ok (.iload_n 3, 1) := D_29 yB_cX7_best rfl rfl
theorem dX7_best_105 : decode cX7_best 105 = .ok (.aload_n 0, 1) := D_42 yB_cX7_best rfl rfl
theorem dX7_best_106 : decode cX7_best 106 = .ok (.invokevirtual 224, 3) := D_182 yB_cX7_best rfl rfl rfl
theorem dX7_best_109 : decode cX7_best 109 = .ok (.invokevirtual 236, 3) := D_182 yB_cX7_best rfl rfl rfl
theorem dX7_best_112 : decode cX7_best 112 = .ok (.iinc 3 1, 3) := D_132 yB_cX7_best rfl rfl rfl (sg_p (m := 128) (N := 1) rfl rfl rfl)
theorem dX7_best_115 : decode cX7_best 115 = .ok (.goto (-62), 3) := D_167 yB_cX7_best rfl rfl (sg_n (m := 32768) (N := 62) rfl rfl rfl)
theorem dX7_best_118 : decode cX7_best 118 = .ok (.iload_n 1, 1) := D_27 yB_cX7_best rfl rfl
theorem dX7_best_119 : decode cX7_best 119 = .ok (.ifCond .ne 13, 3) := D_154 yB_cX7_best rfl rfl (sg_p (m := 32768) (N := 13) rfl rfl rfl)
theorem dX7_best_122 : decode cX7_best 122 = .ok (.aload_n 0, 1) := D_42 yB_cX7_best rfl rfl
theorem dX7_best_123 : decode cX7_best 123 = .ok (.getfield 31, 3) := D_180 yB_cX7_best rfl rfl rfl
theorem dX7_best_126 : decode cX7_best 126 = .ok (.getfield 240, 3) := D_180 yB_cX7_best rfl rfl rfl
theorem dX7_best_129 : decode cX7_best 129 = .ok (.goto 10, 3) := D_167 yB_cX7_best rfl rfl (sg_p (m := 32768) (N := 10) rfl rfl rfl)
theorem dX7_best_132 : decode cX7_best 132 = .ok (.aload_n 0, 1) := D_42 yB_cX7_best rfl rfl
theorem dX7_best_133 : decode cX7_best 133 = .ok (.getfield 31, 3) := D_180 yB_cX7_best rfl rfl rfl
theorem dX7_best_136 : decode cX7_best 136 = .ok (.getfield 243, 3) := D_180 yB_cX7_best rfl rfl rfl
theorem dX7_best_139 : decode cX7_best 139 = .ok (.ireturn, 1) := D_172 yB_cX7_best rfl rfl
def F_X7_best_65 (x1 : Int32) (k53 : Mem → Int32 → Int32 → Option (Mem × Int32)) : Nat → Mem → Int32 → Int32 → Int32 → Option (Mem × Int32)
  | 0, _, _, _, _ => none
  | nn + 1, σ, v4, v3, v2 => if v2 ≤ v4 then (bd2 (F_X7_costInMind σ ) fun σ_11 r_12 => (F_X1_offer σ_11 v3 r_12).bind fun σ_13 => k53 σ_13 (v3 + 1) v2) else ((ix 7 v4).bind fun k_14 => F_X7_best_65 x1 k53 nn (stm σ (22 * 2 + 15 + k_14) 5 (5 * ((v3 >>> ((2 * v4) &&& 31)) &&& 3))) (v4 + 1) v3 v2)
def F_X7_best_53 (x1 : Int32)  : Nat → Mem → Int32 → Int32 → Option (Mem × Int32)
  | 0, _, _, _ => none
  | nn + 1, σ, v3, v2 => if (1 <<< ((2 * v2) &&& 31)) ≤ v3 then (if x1 = 0 then (some (σ, (σ 84 0))) else (some (σ, (σ 84 1)))) else (F_X7_best_65 x1 (fun σ v3 v2 => F_X7_best_53 x1 nn σ v3 v2) FU σ 0 v3 v2)
def F_X7_best_65b (x1 : Int32) (k53 : Mem → Int32 → Int32 → Option (Mem × Int32)) : Nat → Mem → Int32 → Int32 → Int32 → Option (Mem × Int32)
  | 0, _, _, _, _ => none
  | nn + 1, σ, v4, v3, v2 => if v2 ≤ v4 then (bd2 (F_X7_costInMind σ ) fun σ_25 r_26 => (F_X1_offer σ_25 v3 r_26).bind fun σ_27 => k53 σ_27 (v3 + 1) v2) else ((ix 7 v4).bind fun k_28 => F_X7_best_65b x1 k53 nn (stm σ (22 * 2 + 15 + k_28) 5 (5 * ((v3 >>> ((2 * v4) &&& 31)) &&& 3))) (v4 + 1) v3 v2)
def F_X7_best_53b (x1 : Int32)  : Nat → Mem → Int32 → Int32 → Option (Mem × Int32)
  | 0, _, _, _ => none
  | nn + 1, σ, v3, v2 => if (1 <<< ((2 * v2) &&& 31)) ≤ v3 then (if x1 = 0 then (some (σ, (σ 84 0))) else (some (σ, (σ 84 1)))) else (F_X7_best_65b x1 (fun σ v3 v2 => F_X7_best_53b x1 nn σ v3 v2) FU σ 0 v3 v2)
def F_X7_best (σ : Mem) (x1 : Int32) : Option (Mem × Int32) := if x1 = 0 then ((F_X7_cannotRun σ ).bind fun r_2 => if r_2 = 0 then (ck (cb01 σ 0) <| (F_X1_begin (tcpy σ 2 0) ).bind fun σ_5 => F_X7_best_53 x1 FU σ_5 0 (if ((tcpy σ 2 0) 44 2) < 4 then ((tcpy σ 2 0) 44 2) else 4)) else (some (σ, (-3)))) else (if x1 = 1 then ((F_X7_cannotRun σ ).bind fun r_16 => if r_16 = 0 then (ck (cb01 σ 0) <| (F_X1_begin (tcpy σ 2 0) ).bind fun σ_19 => F_X7_best_53b x1 FU σ_19 0 (if ((tcpy σ 2 0) 44 2) < 4 then ((tcpy σ 2 0) 44 2) else 4)) else (some (σ, (-3)))) else (some (σ, (-1))))
set_option maxHeartbeats 4000000 in
set_option maxRecDepth 100000 in
theorem c_X7_best (l : Launch) (D : va_G) (cA : Nat → ClassId) (ad : Nat → Nat) (o : Int64) (σ : Mem) (x1 : Int32)  (res : Mem × Int32) (h : F_X7_best σ x1 = some res) (sz : Nat) : Met l yX7_best (WY yX7_best cX7_best 5 (some .int)) (RM 6) (va_Pc [.ref (ad 66), .int x1] (PW D cA ad o σ sz)) (va_Qi (fun r σ9 => r = res.2 ∧ σ9 = res.1) (QW D cA ad o) (FA ad sz)) 0 0 (FA ad sz) := by
  refine ct_of (own := RX7) (k := 6) (Qf := va_Qi (fun r σ9 => r = res.2 ∧ σ9 = res.1) (QW D cA ad o)) rfl (by decide) (Nat.le_of_ble_eq_true rfl) (fun p e s m below meth c ls C0 X hr hlk hP hl => ?_) sz
  have hS : va_S (FA ad s.heap.size) s.heap s.heap [] := va_S.rf
  have hl : lv_has ls 5 [(0, .ref (ad 66)), (1, .int x1)] := hl
  obtain ⟨hx, hb, hml, hown, hts⟩ := id C0
  unfold F_X7_best at h
  refine lv_iload_n hx hb dX7_best_0 rfl (lv_at hl 1 rfl) ?_
  refine lv_if_eq (tgt := 11) hx hb dX7_best_1 (by decide) (fun c_1 => ?_) (fun c_1 => ?_)
  · replace h := it_t h c_1
    refine lv_aload_n hx hb dX7_best_11 rfl (lv_at hl 0 rfl) ?_
    obtain ⟨r_2, er_2, h⟩ := bnd h
    refine r_ci X hS (r_runV (As := []) (rest := []) C0 X hP L_X7_135 (fun sz => c_X7_cannotRun l D cA ad o σ   r_2 er_2 sz) (show 66 < 106 ∧ kd 66 = (7, 8) from ⟨by decide, rfl⟩).1 (show 66 < 106 ∧ kd 66 = (7, 8) from ⟨by decide, rfl⟩).2 (by decide) rfl ⟨Nat.le_of_ble_eq_true rfl, Nat.le_of_ble_eq_true rfl⟩ rfl hl.1 rfl (Nat.le_of_ble_eq_true rfl) dX7_best_12 ⟨Nat.zero_le _, Nat.zero_le _⟩) (fun r9 σ9 H locs hw hP hS => ?_)
    rw [hw.2] at hP
    rw [hw.1]
    refine lv_if_eq (tgt := 21) hx hb dX7_best_15 (by decide) (fun c_3 => ?_) (fun c_3 => ?_)
    · replace h := it_t h c_3
      refine lv_aload_n hx hb dX7_best_21 rfl (lv_at hl 0 rfl) ?_
      refine gf_X7_19 C0 X hP 66 (q := 44) ⟨by decide, rfl⟩ (by omega) rfl dX7_best_22 ?_
      refine lv_aload_n hx hb dX7_best_25 rfl (lv_at hl 0 rfl) ?_
      refine gf_X7_12 C0 X hP 66 (q := 0) ⟨by decide, rfl⟩ (by omega) rfl dX7_best_26 ?_
      obtain ⟨q_4, h⟩ := ckp h
      refine r_cv X hS (r_runV (As := [.ref (ad 0)]) (rest := []) C0 X hP L_X7_62 (fun sz => c_X6_copyFrom l D cA ad o σ 2 0 (by decide) (by decide) (by decide) (cb01_e q_4) sz) (show 44 < 106 ∧ kd 44 = (6, 11) from ⟨by decide, rfl⟩).1 (show 44 < 106 ∧ kd 44 = (6, 11) from ⟨by decide, rfl⟩).2 (by decide) rfl ⟨Nat.le_of_ble_eq_true rfl, Nat.le_of_ble_eq_true rfl⟩ rfl hl.1 rfl (Nat.le_of_ble_eq_true rfl) dX7_best_29 ⟨Nat.zero_le _, Nat.zero_le _⟩) (fun σ9 H locs hw hP hS => ?_)
      rw [show σ9 = (tcpy σ 2 0) from hw] at hP
      refine lv_iconst (v := 4) hx hb dX7_best_32 (by decide) ?_
      refine lv_aload_n hx hb dX7_best_33 rfl (lv_at hl 0 rfl) ?_
      refine gf_X7_19 C0 X hP 66 (q := 44) ⟨by decide, rfl⟩ (by omega) rfl dX7_best_34 ?_
      refine gf_X7_150 C0 X hP 44 ⟨by decide, rfl⟩ dX7_best_37 ?_
      refine va_mmin (own := RX7) (index := 227) (rest := []) (x := 4) (y := ((tcpy σ 2 0) 44 2)) hx hb (by rw [hml]; exact hl.1.symm) hown (hts _ (tmc sb3_12 15 rfl (by decide +kernel))) (hts _ (tmc sb2_11 7 rfl (by decide +kernel))) (hts _ (tmc sb1_0 11 rfl (by decide +kernel))) (hts _ (tmc sb2_11 8 rfl (by decide +kernel))) (by decide) (Nat.le_of_ble_eq_true rfl) (Nat.zero_le _) (Nat.zero_le _) dX7_best_40 ?_
      refine lv_istore_n (lv' := [(2, .int (if ((tcpy σ 2 0) 44 2) < 4 then ((tcpy σ 2 0) 44 2) else 4)), (0, .ref (ad 66)), (1, .int x1)]) hx hb dX7_best_43 rfl hl (by decide) rfl (fun ls hl => ?_)
      refine lv_aload_n hx hb dX7_best_44 rfl (lv_at hl 1 rfl) ?_
      refine gf_X7_31 C0 X hP 66 (q := 84) ⟨by decide, rfl⟩ (by omega) rfl dX7_best_45 ?_
      obtain ⟨σ_5, eσ_5, h⟩ := bnd h
      refine r_cv X hS (r_runV (As := []) (rest := []) C0 X hP L_X7_233 (fun sz => c_X1_begin l D cA ad o (tcpy σ 2 0)   σ_5 eσ_5 sz) (show 84 < 106 ∧ kd 84 = (1, 2) from ⟨by decide, rfl⟩).1 (show 84 < 106 ∧ kd 84 = (1, 2) from ⟨by decide, rfl⟩).2 (by decide) rfl ⟨Nat.le_of_ble_eq_true rfl, Nat.le_of_ble_eq_true rfl⟩ rfl hl.1 rfl (Nat.le_of_ble_eq_true rfl) dX7_best_48 ⟨Nat.zero_le _, Nat.zero_le _⟩) (fun σ9 H locs hw hP hS => ?_)
      rw [show σ9 = σ_5 from hw] at hP
      refine lv_iconst (v := 0) hx hb dX7_best_51 (by decide) ?_
      refine lv_istore_n (lv' := [(3, .int 0), (2, .int (if ((tcpy σ 2 0) 44 2) < 4 then ((tcpy σ 2 0) 44 2) else 4)), (0, .ref (ad 66)), (1, .int x1)]) hx hb dX7_best_52 rfl hl (by decide) rfl (fun ls hl => ?_)
      have lp_6 : ∀ (nn53 : Nat) (σ : Mem) (v3 : Int32) (v2 : Int32) (H : Heap) (locs : List Loc) (ls : Array Slot), F_X7_best_53 x1 nn53 σ v3 v2 = some res → WP D cA ad o σ H → va_S (FA ad s.heap.size) s.heap H locs → lv_has ls 5 [(3, .int v3), (2, .int v2), (0, .ref (ad 66)), (1, .int x1)] → W p l e (RM 6) s m ([.ref (ad 66), .int x1] : List Value).toArray below meth c H locs 0 0 (MQ below (va_Qi (fun r σ9 => r = res.2 ∧ σ9 = res.1) (QW D cA ad o) (FA ad s.heap.size)) ([.ref (ad 66), .int x1] : List Value).toArray s 0 0 (FA ad s.heap.size)) (F0 m 53 ls []) := by
        intro nn53
        induction nn53 with
        | zero => intro σ v3 v2 H locs ls h hP hS hl; exact absurd (show none = some res from h) nofun
        | succ nn53 ih53 =>
          intro σ v3 v2 H locs ls h hP hS hl
          replace h := (F_X7_best_53.eq_2 _ _ _ _ _).symm.trans h
          refine lv_iload_n hx hb dX7_best_53 rfl (lv_at hl 0 rfl) ?_
          refine lv_iconst (v := 1) hx hb dX7_best_54 (by decide) ?_
          refine lv_iconst (v := 2) hx hb dX7_best_55 (by decide) ?_
          refine lv_iload_n hx hb dX7_best_56 rfl (lv_at hl 1 rfl) ?_
          refine lv_imul hx hb dX7_best_57 ?_
          refine lv_ishl hx hb dX7_best_58 ?_
          refine lv_icmp_ge (tgt := 118) hx hb dX7_best_59 (by decide) (fun c_7 => ?_) (fun c_7 => ?_)
          · replace h := it_t h c_7
            refine lv_iload_n hx hb dX7_best_118 rfl (lv_at hl 3 rfl) ?_
            refine lv_if_ne (tgt := 132) hx hb dX7_best_119 (by decide) (fun c_8 => ?_) (fun c_8 => ?_)
            · replace h := it_f h c_8
              refine lv_aload_n hx hb dX7_best_132 rfl (lv_at hl 2 rfl) ?_
              refine gf_X7_31 C0 X hP 66 (q := 84) ⟨by decide, rfl⟩ (by omega) rfl dX7_best_133 ?_
              refine gf_X7_243 C0 X hP 84 ⟨by decide, rfl⟩ dX7_best_136 ?_
              exact r_iret C0 X hP hS hr hlk dX7_best_139 (rt2 h)
            · replace h := it_t h c_8
              refine lv_aload_n hx hb dX7_best_122 rfl (lv_at hl 2 rfl) ?_
              refine gf_X7_31 C0 X hP 66 (q := 84) ⟨by decide, rfl⟩ (by omega) rfl dX7_best_123 ?_
              refine gf_X7_240 C0 X hP 84 ⟨by decide, rfl⟩ dX7_best_126 ?_
              refine lv_goto (tgt := 139) hx hb dX7_best_129 (by decide) ?_
              exact r_iret C0 X hP hS hr hlk dX7_best_139 (rt2 h)
          · replace h := it_f h c_7
            refine lv_iconst (v := 0) hx hb dX7_best_62 (by decide) ?_
            refine lv_istore (lv' := [(4, .int 0), (3, .int v3), (2, .int v2), (0, .ref (ad 66)), (1, .int x1)]) hx hb dX7_best_63 hl (by decide) rfl (fun ls hl => ?_)
            have lp_9 : ∀ (nn65 : Nat) (σ : Mem) (v4 : Int32) (v3 : Int32) (v2 : Int32) (H : Heap) (locs : List Loc) (ls : Array Slot), F_X7_best_65 x1 (fun σ v3 v2 => F_X7_best_53 x1 nn53 σ v3 v2) nn65 σ v4 v3 v2 = some res → WP D cA ad o σ H → va_S (FA ad s.heap.size) s.heap H locs → lv_has ls 5 [(4, .int v4), (3, .int v3), (2, .int v2), (0, .ref (ad 66)), (1, .int x1)] → W p l e (RM 6) s m ([.ref (ad 66), .int x1] : List Value).toArray below meth c H locs 0 0 (MQ below (va_Qi (fun r σ9 => r = res.2 ∧ σ9 = res.1) (QW D cA ad o) (FA ad s.heap.size)) ([.ref (ad 66), .int x1] : List Value).toArray s 0 0 (FA ad s.heap.size)) (F0 m 65 ls []) := by
              intro nn65
              induction nn65 with
              | zero => intro σ v4 v3 v2 H locs ls h hP hS hl; exact absurd (show none = some res from h) nofun
              | succ nn65 ih65 =>
                intro σ v4 v3 v2 H locs ls h hP hS hl
                replace h := (F_X7_best_65.eq_2 _ _ _ _ _ _ _).symm.trans h
                refine lv_iload hx hb dX7_best_65 (lv_at hl 0 rfl) ?_
                refine lv_iload_n hx hb dX7_best_67 rfl (lv_at hl 2 rfl) ?_
                refine lv_icmp_ge (tgt := 100) hx hb dX7_best_68 (by decide) (fun c_10 => ?_) (fun c_10 => ?_)
                · replace h := it_t h c_10
                  refine lv_aload_n hx hb dX7_best_100 rfl (lv_at hl 3 rfl) ?_
                  refine gf_X7_31 C0 X hP 66 (q := 84) ⟨by decide, rfl⟩ (by omega) rfl dX7_best_101 ?_
                  refine lv_iload_n hx hb dX7_best_104 rfl (lv_at hl 1 rfl) ?_
                  refine lv_aload_n hx hb dX7_best_105 rfl (lv_at hl 3 rfl) ?_
                  obtain ⟨σ_11, r_12, eσ_11, h⟩ := bnd2 h
                  refine r_ci X hS (r_runV (As := []) (rest := [.int v3, .ref (ad 84)]) C0 X hP L_X7_224 (fun sz => c_X7_costInMind l D cA ad o σ   (σ_11, r_12) eσ_11 sz) (show 66 < 106 ∧ kd 66 = (7, 8) from ⟨by decide, rfl⟩).1 (show 66 < 106 ∧ kd 66 = (7, 8) from ⟨by decide, rfl⟩).2 (by decide) rfl ⟨Nat.le_of_ble_eq_true rfl, Nat.le_of_ble_eq_true rfl⟩ rfl hl.1 rfl (Nat.le_of_ble_eq_true rfl) dX7_best_106 ⟨Nat.zero_le _, Nat.zero_le _⟩) (fun r9 σ9 H locs hw hP hS => ?_)
                  rw [show σ9 = σ_11 from hw.2] at hP
                  rw [show r9 = r_12 from hw.1]
                  obtain ⟨σ_13, eσ_13, h⟩ := bnd h
                  refine r_cv X hS (r_runV (As := [.int v3, .int r_12]) (rest := []) C0 X hP L_X7_236 (fun sz => c_X1_offer l D cA ad o σ_11 v3 r_12  σ_13 eσ_13 sz) (show 84 < 106 ∧ kd 84 = (1, 2) from ⟨by decide, rfl⟩).1 (show 84 < 106 ∧ kd 84 = (1, 2) from ⟨by decide, rfl⟩).2 (by decide) rfl ⟨Nat.le_of_ble_eq_true rfl, Nat.le_of_ble_eq_true rfl⟩ rfl hl.1 rfl (Nat.le_of_ble_eq_true rfl) dX7_best_109 ⟨Nat.zero_le _, Nat.zero_le _⟩) (fun σ9 H locs hw hP hS => ?_)
                  rw [show σ9 = σ_13 from hw] at hP
                  refine lv_iinc (v := (v3 + 1)) (lv' := [(3, .int (v3 + 1)), (4, .int v4), (2, .int v2), (0, .ref (ad 66)), (1, .int x1)]) hx hb dX7_best_112 hl (k := 1) rfl rfl (by decide) rfl (fun ls hl => ?_)
                  refine lv_goto (tgt := 53) hx hb dX7_best_115 (by decide) ?_
                  exact ih53 σ_13 (v3 + 1) v2 _ _ ls  h hP hS (lv_sub hl [0, 2, 3, 4] rfl)
                · replace h := it_f h c_10
                  refine lv_aload_n hx hb dX7_best_71 rfl (lv_at hl 3 rfl) ?_
                  refine gf_X7_19 C0 X hP 66 (q := 44) ⟨by decide, rfl⟩ (by omega) rfl dX7_best_72 ?_
                  refine gf_X7_217 C0 X hP 44 (q := 57) ⟨by decide, rfl⟩ (by omega) rfl dX7_best_75 ?_
                  refine lv_iload hx hb dX7_best_78 (lv_at hl 0 rfl) ?_
                  obtain ⟨k_14, ek_14, h⟩ := bnd h
                  replace ek_14 := ix_s ek_14 (by decide)
                  refine r_aaldCN C0 X hP 57 (k := k_14) (q := (22 * 2 + 15 + k_14)) ⟨by decide, rfl⟩ ek_14.1 ek_14.2 (lkCA 2 (by decide) k_14 ek_14.2) dX7_best_80 ?_
                  refine lv_iconst (v := 5) hx hb dX7_best_81 (by decide) ?_
                  refine lv_iload_n hx hb dX7_best_82 rfl (lv_at hl 1 rfl) ?_
                  refine lv_iconst (v := 2) hx hb dX7_best_83 (by decide) ?_
                  refine lv_iload hx hb dX7_best_84 (lv_at hl 0 rfl) ?_
                  refine lv_imul hx hb dX7_best_86 ?_
                  refine lv_ishr hx hb dX7_best_87 ?_
                  refine lv_iconst (v := 3) hx hb dX7_best_88 (by decide) ?_
                  refine lv_iand hx hb dX7_best_89 ?_
                  refine lv_imul hx hb dX7_best_90 ?_
                  refine pf_X7_221 C0 X hP hS (22 * 2 + 15 + k_14) (kdC 2 (by decide) k_14 ek_14.2) dX7_best_91 (fun H locs hP hS => ?_)
                  refine lv_iinc (v := (v4 + 1)) (lv' := [(4, .int (v4 + 1)), (3, .int v3), (2, .int v2), (0, .ref (ad 66)), (1, .int x1)]) hx hb dX7_best_94 hl (k := 0) rfl rfl (by decide) rfl (fun ls hl => ?_)
                  refine lv_goto (tgt := 65) hx hb dX7_best_97 (by decide) ?_
                  exact ih65 (stm σ (22 * 2 + 15 + k_14) 5 (5 * ((v3 >>> ((2 * v4) &&& 31)) &&& 3))) (v4 + 1) v3 v2 _ _ ls  h hP hS (lv_sub hl [0, 1, 2, 3, 4] rfl)
            exact lp_9 FU σ 0 v3 v2 _ _ ls  h hP hS (lv_sub hl [0, 1, 2, 3, 4] rfl)
      exact lp_6 FU σ_5 0 (if ((tcpy σ 2 0) 44 2) < 4 then ((tcpy σ 2 0) 44 2) else 4) _ _ ls  h hP hS (lv_sub hl [0, 1, 2, 3] rfl)
    · replace h := it_f h c_3
      refine lv_bipush (v := (-3)) hx hb dX7_best_18 (by decide) ?_
      exact r_iret C0 X hP hS hr hlk dX7_best_20 (rt2 h)
  · replace h := it_f h c_1
    refine lv_iload_n hx hb dX7_best_4 rfl (lv_at hl 1 rfl) ?_
    refine lv_iconst (v := 1) hx hb dX7_best_5 (by decide) ?_
    refine lv_icmp_eq (tgt := 11) hx hb dX7_best_6 (by decide) (fun c_15 => ?_) (fun c_15 => ?_)
    · replace h := it_t h c_15
      refine lv_aload_n hx hb dX7_best_11 rfl (lv_at hl 0 rfl) ?_
      obtain ⟨r_16, er_16, h⟩ := bnd h
      refine r_ci X hS (r_runV (As := []) (rest := []) C0 X hP L_X7_135 (fun sz => c_X7_cannotRun l D cA ad o σ   r_16 er_16 sz) (show 66 < 106 ∧ kd 66 = (7, 8) from ⟨by decide, rfl⟩).1 (show 66 < 106 ∧ kd 66 = (7, 8) from ⟨by decide, rfl⟩).2 (by decide) rfl ⟨Nat.le_of_ble_eq_true rfl, Nat.le_of_ble_eq_true rfl⟩ rfl hl.1 rfl (Nat.le_of_ble_eq_true rfl) dX7_best_12 ⟨Nat.zero_le _, Nat.zero_le _⟩) (fun r9 σ9 H locs hw hP hS => ?_)
      rw [hw.2] at hP
      rw [hw.1]
      refine lv_if_eq (tgt := 21) hx hb dX7_best_15 (by decide) (fun c_17 => ?_) (fun c_17 => ?_)
      · replace h := it_t h c_17
        refine lv_aload_n hx hb dX7_best_21 rfl (lv_at hl 0 rfl) ?_
        refine gf_X7_19 C0 X hP 66 (q := 44) ⟨by decide, rfl⟩ (by omega) rfl dX7_best_22 ?_
        refine lv_aload_n hx hb dX7_best_25 rfl (lv_at hl 0 rfl) ?_
        refine gf_X7_12 C0 X hP 66 (q := 0) ⟨by decide, rfl⟩ (by omega) rfl dX7_best_26 ?_
        obtain ⟨q_18, h⟩ := ckp h
        refine r_cv X hS (r_runV (As := [.ref (ad 0)]) (rest := []) C0 X hP L_X7_62 (fun sz => c_X6_copyFrom l D cA ad o σ 2 0 (by decide) (by decide) (by decide) (cb01_e q_18) sz) (show 44 < 106 ∧ kd 44 = (6, 11) from ⟨by decide, rfl⟩).1 (show 44 < 106 ∧ kd 44 = (6, 11) from ⟨by decide, rfl⟩).2 (by decide) rfl ⟨Nat.le_of_ble_eq_true rfl, Nat.le_of_ble_eq_true rfl⟩ rfl hl.1 rfl (Nat.le_of_ble_eq_true rfl) dX7_best_29 ⟨Nat.zero_le _, Nat.zero_le _⟩) (fun σ9 H locs hw hP hS => ?_)
        rw [show σ9 = (tcpy σ 2 0) from hw] at hP
        refine lv_iconst (v := 4) hx hb dX7_best_32 (by decide) ?_
        refine lv_aload_n hx hb dX7_best_33 rfl (lv_at hl 0 rfl) ?_
        refine gf_X7_19 C0 X hP 66 (q := 44) ⟨by decide, rfl⟩ (by omega) rfl dX7_best_34 ?_
        refine gf_X7_150 C0 X hP 44 ⟨by decide, rfl⟩ dX7_best_37 ?_
        refine va_mmin (own := RX7) (index := 227) (rest := []) (x := 4) (y := ((tcpy σ 2 0) 44 2)) hx hb (by rw [hml]; exact hl.1.symm) hown (hts _ (tmc sb3_12 15 rfl (by decide +kernel))) (hts _ (tmc sb2_11 7 rfl (by decide +kernel))) (hts _ (tmc sb1_0 11 rfl (by decide +kernel))) (hts _ (tmc sb2_11 8 rfl (by decide +kernel))) (by decide) (Nat.le_of_ble_eq_true rfl) (Nat.zero_le _) (Nat.zero_le _) dX7_best_40 ?_
        refine lv_istore_n (lv' := [(2, .int (if ((tcpy σ 2 0) 44 2) < 4 then ((tcpy σ 2 0) 44 2) else 4)), (0, .ref (ad 66)), (1, .int x1)]) hx hb dX7_best_43 rfl hl (by decide) rfl (fun ls hl => ?_)
        refine lv_aload_n hx hb dX7_best_44 rfl (lv_at hl 1 rfl) ?_
        refine gf_X7_31 C0 X hP 66 (q := 84) ⟨by decide, rfl⟩ (by omega) rfl dX7_best_45 ?_
        obtain ⟨σ_19, eσ_19, h⟩ := bnd h
        refine r_cv X hS (r_runV (As := []) (rest := []) C0 X hP L_X7_233 (fun sz => c_X1_begin l D cA ad o (tcpy σ 2 0)   σ_19 eσ_19 sz) (show 84 < 106 ∧ kd 84 = (1, 2) from ⟨by decide, rfl⟩).1 (show 84 < 106 ∧ kd 84 = (1, 2) from ⟨by decide, rfl⟩).2 (by decide) rfl ⟨Nat.le_of_ble_eq_true rfl, Nat.le_of_ble_eq_true rfl⟩ rfl hl.1 rfl (Nat.le_of_ble_eq_true rfl) dX7_best_48 ⟨Nat.zero_le _, Nat.zero_le _⟩) (fun σ9 H locs hw hP hS => ?_)
        rw [show σ9 = σ_19 from hw] at hP
        refine lv_iconst (v := 0) hx hb dX7_best_51 (by decide) ?_
        refine lv_istore_n (lv' := [(3, .int 0), (2, .int (if ((tcpy σ 2 0) 44 2) < 4 then ((tcpy σ 2 0) 44 2) else 4)), (0, .ref (ad 66)), (1, .int x1)]) hx hb dX7_best_52 rfl hl (by decide) rfl (fun ls hl => ?_)
        have lp_20 : ∀ (nn53 : Nat) (σ : Mem) (v3 : Int32) (v2 : Int32) (H : Heap) (locs : List Loc) (ls : Array Slot), F_X7_best_53b x1 nn53 σ v3 v2 = some res → WP D cA ad o σ H → va_S (FA ad s.heap.size) s.heap H locs → lv_has ls 5 [(3, .int v3), (2, .int v2), (0, .ref (ad 66)), (1, .int x1)] → W p l e (RM 6) s m ([.ref (ad 66), .int x1] : List Value).toArray below meth c H locs 0 0 (MQ below (va_Qi (fun r σ9 => r = res.2 ∧ σ9 = res.1) (QW D cA ad o) (FA ad s.heap.size)) ([.ref (ad 66), .int x1] : List Value).toArray s 0 0 (FA ad s.heap.size)) (F0 m 53 ls []) := by
          intro nn53
          induction nn53 with
          | zero => intro σ v3 v2 H locs ls h hP hS hl; exact absurd (show none = some res from h) nofun
          | succ nn53 ih53 =>
            intro σ v3 v2 H locs ls h hP hS hl
            replace h := (F_X7_best_53b.eq_2 _ _ _ _ _).symm.trans h
            refine lv_iload_n hx hb dX7_best_53 rfl (lv_at hl 0 rfl) ?_
            refine lv_iconst (v := 1) hx hb dX7_best_54 (by decide) ?_
            refine lv_iconst (v := 2) hx hb dX7_best_55 (by decide) ?_
            refine lv_iload_n hx hb dX7_best_56 rfl (lv_at hl 1 rfl) ?_
            refine lv_imul hx hb dX7_best_57 ?_
            refine lv_ishl hx hb dX7_best_58 ?_
            refine lv_icmp_ge (tgt := 118) hx hb dX7_best_59 (by decide) (fun c_21 => ?_) (fun c_21 => ?_)
            · replace h := it_t h c_21
              refine lv_iload_n hx hb dX7_best_118 rfl (lv_at hl 3 rfl) ?_
              refine lv_if_ne (tgt := 132) hx hb dX7_best_119 (by decide) (fun c_22 => ?_) (fun c_22 => ?_)
              · replace h := it_f h c_22
                refine lv_aload_n hx hb dX7_best_132 rfl (lv_at hl 2 rfl) ?_
                refine gf_X7_31 C0 X hP 66 (q := 84) ⟨by decide, rfl⟩ (by omega) rfl dX7_best_133 ?_
                refine gf_X7_243 C0 X hP 84 ⟨by decide, rfl⟩ dX7_best_136 ?_
                exact r_iret C0 X hP hS hr hlk dX7_best_139 (rt2 h)
              · replace h := it_t h c_22
                refine lv_aload_n hx hb dX7_best_122 rfl (lv_at hl 2 rfl) ?_
                refine gf_X7_31 C0 X hP 66 (q := 84) ⟨by decide, rfl⟩ (by omega) rfl dX7_best_123 ?_
                refine gf_X7_240 C0 X hP 84 ⟨by decide, rfl⟩ dX7_best_126 ?_
                refine lv_goto (tgt := 139) hx hb dX7_best_129 (by decide) ?_
                exact r_iret C0 X hP hS hr hlk dX7_best_139 (rt2 h)
            · replace h := it_f h c_21
              refine lv_iconst (v := 0) hx hb dX7_best_62 (by decide) ?_
              refine lv_istore (lv' := [(4, .int 0), (3, .int v3), (2, .int v2), (0, .ref (ad 66)), (1, .int x1)]) hx hb dX7_best_63 hl (by decide) rfl (fun ls hl => ?_)
              have lp_23 : ∀ (nn65 : Nat) (σ : Mem) (v4 : Int32) (v3 : Int32) (v2 : Int32) (H : Heap) (locs : List Loc) (ls : Array Slot), F_X7_best_65b x1 (fun σ v3 v2 => F_X7_best_53b x1 nn53 σ v3 v2) nn65 σ v4 v3 v2 = some res → WP D cA ad o σ H → va_S (FA ad s.heap.size) s.heap H locs → lv_has ls 5 [(4, .int v4), (3, .int v3), (2, .int v2), (0, .ref (ad 66)), (1, .int x1)] → W p l e (RM 6) s m ([.ref (ad 66), .int x1] : List Value).toArray below meth c H locs 0 0 (MQ below (va_Qi (fun r σ9 => r = res.2 ∧ σ9 = res.1) (QW D cA ad o) (FA ad s.heap.size)) ([.ref (ad 66), .int x1] : List Value).toArray s 0 0 (FA ad s.heap.size)) (F0 m 65 ls []) := by
                intro nn65
                induction nn65 with
                | zero => intro σ v4 v3 v2 H locs ls h hP hS hl; exact absurd (show none = some res from h) nofun
                | succ nn65 ih65 =>
                  intro σ v4 v3 v2 H locs ls h hP hS hl
                  replace h := (F_X7_best_65b.eq_2 _ _ _ _ _ _ _).symm.trans h
                  refine lv_iload hx hb dX7_best_65 (lv_at hl 0 rfl) ?_
                  refine lv_iload_n hx hb dX7_best_67 rfl (lv_at hl 2 rfl) ?_
                  refine lv_icmp_ge (tgt := 100) hx hb dX7_best_68 (by decide) (fun c_24 => ?_) (fun c_24 => ?_)
                  · replace h := it_t h c_24
                    refine lv_aload_n hx hb dX7_best_100 rfl (lv_at hl 3 rfl) ?_
                    refine gf_X7_31 C0 X hP 66 (q := 84) ⟨by decide, rfl⟩ (by omega) rfl dX7_best_101 ?_
                    refine lv_iload_n hx hb dX7_best_104 rfl (lv_at hl 1 rfl) ?_
                    refine lv_aload_n hx hb dX7_best_105 rfl (lv_at hl 3 rfl) ?_
                    obtain ⟨σ_25, r_26, eσ_25, h⟩ := bnd2 h
                    refine r_ci X hS (r_runV (As := []) (rest := [.int v3, .ref (ad 84)]) C0 X hP L_X7_224 (fun sz => c_X7_costInMind l D cA ad o σ   (σ_25, r_26) eσ_25 sz) (show 66 < 106 ∧ kd 66 = (7, 8) from ⟨by decide, rfl⟩).1 (show 66 < 106 ∧ kd 66 = (7, 8) from ⟨by decide, rfl⟩).2 (by decide) rfl ⟨Nat.le_of_ble_eq_true rfl, Nat.le_of_ble_eq_true rfl⟩ rfl hl.1 rfl (Nat.le_of_ble_eq_true rfl) dX7_best_106 ⟨Nat.zero_le _, Nat.zero_le _⟩) (fun r9 σ9 H locs hw hP hS => ?_)
                    rw [show σ9 = σ_25 from hw.2] at hP
                    rw [show r9 = r_26 from hw.1]
                    obtain ⟨σ_27, eσ_27, h⟩ := bnd h
                    refine r_cv X hS (r_runV (As := [.int v3, .int r_26]) (rest := []) C0 X hP L_X7_236 (fun sz => c_X1_offer l D cA ad o σ_25 v3 r_26  σ_27 eσ_27 sz) (show 84 < 106 ∧ kd 84 = (1, 2) from ⟨by decide, rfl⟩).1 (show 84 < 106 ∧ kd 84 = (1, 2) from ⟨by decide, rfl⟩).2 (by decide) rfl ⟨Nat.le_of_ble_eq_true rfl, Nat.le_of_ble_eq_true rfl⟩ rfl hl.1 rfl (Nat.le_of_ble_eq_true rfl) dX7_best_109 ⟨Nat.zero_le _, Nat.zero_le _⟩) (fun σ9 H locs hw hP hS => ?_)
                    rw [show σ9 = σ_27 from hw] at hP
                    refine lv_iinc (v := (v3 + 1)) (lv' := [(3, .int (v3 + 1)), (4, .int v4), (2, .int v2), (0, .ref (ad 66)), (1, .int x1)]) hx hb dX7_best_112 hl (k := 1) rfl rfl (by decide) rfl (fun ls hl => ?_)
                    refine lv_goto (tgt := 53) hx hb dX7_best_115 (by decide) ?_
                    exact ih53 σ_27 (v3 + 1) v2 _ _ ls  h hP hS (lv_sub hl [0, 2, 3, 4] rfl)
                  · replace h := it_f h c_24
                    refine lv_aload_n hx hb dX7_best_71 rfl (lv_at hl 3 rfl) ?_
                    refine gf_X7_19 C0 X hP 66 (q := 44) ⟨by decide, rfl⟩ (by omega) rfl dX7_best_72 ?_
                    refine gf_X7_217 C0 X hP 44 (q := 57) ⟨by decide, rfl⟩ (by omega) rfl dX7_best_75 ?_
                    refine lv_iload hx hb dX7_best_78 (lv_at hl 0 rfl) ?_
                    obtain ⟨k_28, ek_28, h⟩ := bnd h
                    replace ek_28 := ix_s ek_28 (by decide)
                    refine r_aaldCN C0 X hP 57 (k := k_28) (q := (22 * 2 + 15 + k_28)) ⟨by decide, rfl⟩ ek_28.1 ek_28.2 (lkCA 2 (by decide) k_28 ek_28.2) dX7_best_80 ?_
                    refine lv_iconst (v := 5) hx hb dX7_best_81 (by decide) ?_
                    refine lv_iload_n hx hb dX7_best_82 rfl (lv_at hl 1 rfl) ?_
                    refine lv_iconst (v := 2) hx hb dX7_best_83 (by decide) ?_
                    refine lv_iload hx hb dX7_best_84 (lv_at hl 0 rfl) ?_
                    refine lv_imul hx hb dX7_best_86 ?_
                    refine lv_ishr hx hb dX7_best_87 ?_
                    refine lv_iconst (v := 3) hx hb dX7_best_88 (by decide) ?_
                    refine lv_iand hx hb dX7_best_89 ?_
                    refine lv_imul hx hb dX7_best_90 ?_
                    refine pf_X7_221 C0 X hP hS (22 * 2 + 15 + k_28) (kdC 2 (by decide) k_28 ek_28.2) dX7_best_91 (fun H locs hP hS => ?_)
                    refine lv_iinc (v := (v4 + 1)) (lv' := [(4, .int (v4 + 1)), (3, .int v3), (2, .int v2), (0, .ref (ad 66)), (1, .int x1)]) hx hb dX7_best_94 hl (k := 0) rfl rfl (by decide) rfl (fun ls hl => ?_)
                    refine lv_goto (tgt := 65) hx hb dX7_best_97 (by decide) ?_
                    exact ih65 (stm σ (22 * 2 + 15 + k_28) 5 (5 * ((v3 >>> ((2 * v4) &&& 31)) &&& 3))) (v4 + 1) v3 v2 _ _ ls  h hP hS (lv_sub hl [0, 1, 2, 3, 4] rfl)
              exact lp_23 FU σ 0 v3 v2 _ _ ls  h hP hS (lv_sub hl [0, 1, 2, 3, 4] rfl)
        exact lp_20 FU σ_19 0 (if ((tcpy σ 2 0) 44 2) < 4 then ((tcpy σ 2 0) 44 2) else 4) _ _ ls  h hP hS (lv_sub hl [0, 1, 2, 3] rfl)
      · replace h := it_f h c_17
        refine lv_bipush (v := (-3)) hx hb dX7_best_18 (by decide) ?_
        exact r_iret C0 X hP hS hr hlk dX7_best_20 (rt2 h)
    · replace h := it_f h c_15
      refine lv_iconst (v := (-1)) hx hb dX7_best_9 (by decide) ?_
      exact r_iret C0 X hP hS hr hlk dX7_best_10 (rt2 h)
def bB_cX7_more : Nat := 0xacf300b41f00b42a0a00a7f000b41f00b42a0d009a1baaffa70102844f64042e5c1c6000b44600b41300b42aec00b6e000b62a1c1f00b42a4f60042e5c1c6000b44600b41300b42a2f00a70600a1072e1c6000b44600b41300b42a4800a208101c4e00a24a00b44600b41300b42a1c3d04e900b61f00b42a3e00b60c00b42a1300b42aacfd100600998700b62aac0205009f041b0a00991b
theorem yB_cX7_more : BYS cX7_more 152 bB_cX7_more := BYS_of (by decide +kernel)
theorem dX7_more_0 : decode cX7_more 0 = .ok (.iload_n 1, 1) := D_27 yB_cX7_more rfl rfl
theorem dX7_more_1 : decode cX7_more 1 = .ok (.ifCond .eq 10, 3) := D_153 yB_cX7_more rfl rfl (sg_p (m := 32768) (N := 10) rfl rfl rfl)
theorem dX7_more_4 : decode cX7_more 4 = .ok (.iload_n 1, 1) := D_27 yB_cX7_more rfl rfl
theorem dX7_more_5 : decode cX7_more 5 = .ok (.iconst 1, 1) := D_4 yB_cX7_more rfl rfl
theorem dX7_more_6 : decode cX7_more 6 = .ok (.if_icmp .eq 5, 3) := D_159 yB_cX7_more rfl rfl (sg_p (m := 32768) (N := 5) rfl rfl rfl)
theorem dX7_more_9 : decode cX7_more 9 = .ok (.iconst (-1), 1) := D_2 yB_cX7_more rfl rfl
theorem dX7_more_10 : decode cX7_more 10 = .ok (.ireturn, 1) := D_172 yB_cX7_more rfl rfl
theorem dX7_more_11 : decode cX7_more 11 = .ok (.aload_n 0, 1) := D_42 yB_cX7_more rfl rfl
theorem dX7_more_12 : decode cX7_more 12 = .ok (.invokevirtual 135, 3) := D_182 yB_cX7_more rfl rfl rfl
theorem dX7_more_15 : decode cX7_more 15 = .ok (.ifCond .eq 6, 3) := D_153 yB_cX7_more rfl rfl (sg_p (m := 32768) (N := 6) rfl rfl rfl)
theorem dX7_more_18 : decode cX7_more 18 = .ok (.bipush (-3), 2) := D_16 yB_cX7_more rfl rfl (sg_n (m := 128) (N := 3) rfl rfl rfl)
theorem dX7_more_20 : decode cX7_more 20 = .ok (.ireturn, 1) := D_172 yB_cX7_more rfl rfl
theorem dX7_more_21 : decode cX7_more 21 = .ok (.aload_n 0, 1) := D_42 yB_cX7_more rfl rfl
theorem dX7_more_22 : decode cX7_more 22 = .ok (.getfield 19, 3) := D_180 yB_cX7_more rfl rfl rfl
theorem dX7_more_25 : decode cX7_more 25 = .ok (.aload_n 0, 1) := D_42 yB_cX7_more rfl rfl
theorem dX7_more_26 : decode cX7_more 26 = .ok (.getfield 12, 3) := D_180 yB_cX7_more rfl rfl rfl
theorem dX7_more_29 : decode cX7_more 29 = .ok (.invokevirtual 62, 3) := D_182 yB_cX7_more rfl rfl rfl
theorem dX7_more_32 : decode cX7_more 32 = .ok (.aload_n 0, 1) := D_42 yB_cX7_more rfl rfl
theorem dX7_more_33 : decode cX7_more 33 = .ok (.getfield 31, 3) := D_180 yB_cX7_more rfl rfl rfl
theorem dX7_more_36 : decode cX7_more 36 = .ok (.invokevirtual 233, 3) := D_182 yB_cX7_more rfl rfl rfl
theorem dX7_more_39 : decode cX7_more 39 = .ok (.iconst 1, 1) := D_4 yB_cX7_more rfl rfl
theorem dX7_more_40 : decode cX7_more 40 = .ok (.istore_n 2, 1) := D_61 yB_cX7_more rfl rfl
theorem dX7_more_41 : decode cX7_more 41 = .ok (.iload_n 2, 1) := D_28 yB_cX7_more rfl rfl
theorem dX7_more_42 : decode cX7_more 42 = .ok (.aload_n 0, 1) := D_42 yB_cX7_more rfl rfl
theorem dX7_more_43 : decode cX7_more 43 = .ok (.getfield 19, 3) := D_180 yB_cX7_more rfl rfl rfl
theorem dX7_more_46 : decode cX7_more 46 = .ok (.getfield 70, 3) := D_180 yB_cX7_more rfl rfl rfl
theorem dX7_more_49 : decode cX7_more 49 = .ok (.getfield 74, 3) := D_180 yB_cX7_more rfl rfl rfl
theorem dX7_more_52 : decode cX7_more 52 = .ok (.if_icmp .ge 78, 3) := D_162 yB_cX7_more rfl rfl (sg_p (m := 32768) (N := 78) rfl rfl rfl)
theorem dX7_more_55 : decode cX7_more 55 = .ok (.iload_n 2, 1) := D_28 yB_cX7_more rfl rfl
theorem dX7_more_56 : decode cX7_more 56 = .ok (.bipush 8, 2) := D_16 yB_cX7_more rfl rfl (sg_p (m := 128) (N := 8) rfl rfl rfl)
theorem dX7_more_58 : decode cX7_more 58 = .ok (.if_icmp .ge 72, 3) := D_162 yB_cX7_more rfl rfl (sg_p (m := 32768) (N := 72) rfl rfl rfl)
theorem dX7_more_61 : decode cX7_more 61 = .ok (.aload_n 0, 1) := D_42 yB_cX7_more rfl rfl
theorem dX7_more_62 : decode cX7_more 62 = .ok (.getfield 19, 3) := D_180 yB_cX7_more rfl rfl rfl
theorem dX7_more_65 : decode cX7_more 65 = .ok (.getfield 70, 3) := D_180 yB_cX7_more rfl rfl rfl
theorem dX7_more_68 : decode cX7_more 68 = .ok (.getfield 96, 3) := D_180 yB_cX7_more rfl rfl rfl
theorem dX7_more_71 : decode cX7_more 71 = .ok (.iload_n 2, 1) := D_28 yB_cX7_more rfl rfl
theorem dX7_more_72 : decode cX7_more 72 = .ok (.iaload, 1) := D_46 yB_cX7_more rfl rfl
theorem dX7_more_73 : decode cX7_more 73 = .ok (.iconst 4, 1) := D_7 yB_cX7_more rfl rfl
theorem dX7_more_74 : decode cX7_more 74 = .ok (.if_icmp .lt 6, 3) := D_161 yB_cX7_more rfl rfl (sg_p (m := 32768) (N := 6) rfl rfl rfl)
theorem dX7_more_77 : decode cX7_more 77 = .ok (.goto 47, 3) := D_167 yB_cX7_more rfl rfl (sg_p (m := 32768) (N := 47) rfl rfl rfl)
theorem dX7_more_80 : decode cX7_more 80 = .ok (.aload_n 0, 1) := D_42 yB_cX7_more rfl rfl
theorem dX7_more_81 : decode cX7_more 81 = .ok (.getfield 19, 3) := D_180 yB_cX7_more rfl rfl rfl
theorem dX7_more_84 : decode cX7_more 84 = .ok (.getfield 70, 3) := D_180 yB_cX7_more rfl rfl rfl
theorem dX7_more_87 : decode cX7_more 87 = .ok (.getfield 96, 3) := D_180 yB_cX7_more rfl rfl rfl
theorem dX7_more_90 : decode cX7_more 90 = .ok (.iload_n 2, 1) := D_28 yB_cX7_more rfl rfl
theorem dX7_more_91 : decode cX7_more 91 = .ok (.dup2, 1) := D_92 yB_cX7_more rfl rfl
theorem dX7_more_92 : decode cX7_more 92 = .ok (.iaload, 1) := D_46 yB_cX7_more rfl rfl
theorem dX7_more_93 : decode cX7_more 93 = .ok (.iconst 1, 1) := D_4 yB_cX7_more rfl rfl
theorem dX7_more_94 : decode cX7_more 94 = .ok (.iadd, 1) := D_96 yB_cX7_more rfl rfl
theorem dX7_more_95 : decode cX7_more 95 = .ok (.iastore, 1) := D_79 yB_cX7_more rfl rfl
theorem dX7_more_96 : decode cX7_more 96 = .ok (.aload_n 0, 1) := D_42 yB_cX7_more rfl rfl
theorem dX7_more_97 : decode cX7_more 97 = .ok (.getfield 31, 3) := D_180 yB_cX7_more rfl rfl rfl
theorem dX7_more_100 : decode cX7_more 100 = .ok (.iload_n 2, 1) := D_28 yB_cX7_more rfl rfl
theorem dX7_more_101 : decode cX7_more 101 = .ok (.aload_n 0, 1) := D_42 yB_cX7_more rfl rfl
theorem dX7_more_102 : decode cX7_more 102 = .ok (.invokevirtual 224, 3) := D_182 yB_cX7_more rfl rfl rfl
theorem dX7_more_105 : decode cX7_more 105 = .ok (.invokevirtual 236, 3) := D_182 yB_cX7_more rfl rfl rfl
theorem dX7_more_108 : decode cX7_more 108 = .ok (.aload_n 0, 1) := D_42 yB_cX7_more rfl rfl
theorem dX7_more_109 : decode cX7_more 109 = .ok (.getfield 19, 3) := D_180 yB_cX7_more rfl rfl rfl
theorem dX7_more_112 : decode cX7_more 112 = .ok (.getfield 70, 3) := D_180 yB_cX7_more rfl rfl rfl
theorem dX7_more_115 : decode cX7_more 115 = .ok (.getfield 96, 3) := D_180 yB_cX7_more rfl rfl rfl
theorem dX7_more_118 : decode cX7_more 118 = .ok (.iload_n 2, 1) := D_28 yB_cX7_more rfl rfl
theorem dX7_more_119 : decode cX7_more 119 = .ok (.dup2, 1) := D_92 yB_cX7_more rfl rfl
theorem dX7_more_120 : decode cX7_more 120 = .ok (.iaload, 1) := D_46 yB_cX7_more rfl rfl
theorem dX7_more_121 : decode cX7_more 121 = .ok (.iconst 1, 1) := D_4 yB_cX7_more rfl rfl
theorem dX7_more_122 : decode cX7_more 122 = .ok (.isub, 1) := D_100 yB_cX7_more rfl rfl
theorem dX7_more_123 : decode cX7_more 123 = .ok (.iastore, 1) := D_79 yB_cX7_more rfl rfl
theorem dX7_more_124 : decode cX7_more 124 = .ok (.iinc 2 1, 3) := D_132 yB_cX7_more rfl rfl rfl (sg_p (m := 128) (N := 1) rfl rfl rfl)
theorem dX7_more_127 : decode cX7_more 127 = .ok (.goto (-86), 3) := D_167 yB_cX7_more rfl rfl (sg_n (m := 32768) (N := 86) rfl rfl rfl)
theorem dX7_more_130 : decode cX7_more 130 = .ok (.iload_n 1, 1) := D_27 yB_cX7_more rfl rfl
theorem dX7_more_131 : decode cX7_more 131 = .ok (.ifCond .ne 13, 3) := D_154 yB_cX7_more rfl rfl (sg_p (m := 32768) (N := 13) rfl rfl rfl)
theorem dX7_more_134 : decode cX7_more 134 = .ok (.aload_n 0, 1) := D_42 yB_cX7_more rfl rfl
theorem dX7_more_135 : decode cX7_more 135 = .ok (.getfield 31, 3) := D_180 yB_cX7_more rfl rfl rfl
theorem dX7_more_138 : decode cX7_more 138 = .ok (.getfield 240, 3) := D_180 yB_cX7_more rfl rfl rfl
theorem dX7_more_141 : decode cX7_more 141 = .ok (.goto 10, 3) := D_167 yB_cX7_more rfl rfl (sg_p (m := 32768) (N := 10) rfl rfl rfl)
theorem dX7_more_144 : decode cX7_more 144 = .ok (.aload_n 0, 1) := D_42 yB_cX7_more rfl rfl
theorem dX7_more_145 : decode cX7_more 145 = .ok (.getfield 31, 3) := D_180 yB_cX7_more rfl rfl rfl
theorem dX7_more_148 : decode cX7_more 148 = .ok (.getfield 243, 3) := D_180 yB_cX7_more rfl rfl rfl
theorem dX7_more_151 : decode cX7_more 151 = .ok (.ireturn, 1) := D_172 yB_cX7_more rfl rfl
def F_X7_more_41 (x1 : Int32)  : Nat → Mem → Int32 → Option (Mem × Int32)
  | 0, _, _ => none
  | nn + 1, σ, v2 => if (σ 45 0) ≤ v2 then (if x1 = 0 then (some (σ, (σ 84 0))) else (some (σ, (σ 84 1)))) else (if 8 ≤ v2 then (if x1 = 0 then (some (σ, (σ 84 0))) else (some (σ, (σ 84 1)))) else ((ix 9 v2).bind fun k_11 => if (σ 49 k_11) < 4 then ((ix 9 v2).bind fun k_13 => (ix 9 v2).bind fun k_14 => bd2 (F_X7_costInMind (stm σ 49 k_14 ((σ 49 k_13) + 1)) ) fun σ_15 r_16 => (F_X1_offer σ_15 v2 r_16).bind fun σ_17 => (ix 9 v2).bind fun k_18 => (ix 9 v2).bind fun k_19 => F_X7_more_41 x1 nn (stm σ_17 49 k_19 ((σ_17 49 k_18) - 1)) (v2 + 1)) else (F_X7_more_41 x1 nn σ (v2 + 1))))
def F_X7_more_41b (x1 : Int32)  : Nat → Mem → Int32 → Option (Mem × Int32)
  | 0, _, _ => none
  | nn + 1, σ, v2 => if (σ 45 0) ≤ v2 then (if x1 = 0 then (some (σ, (σ 84 0))) else (some (σ, (σ 84 1)))) else (if 8 ≤ v2 then (if x1 = 0 then (some (σ, (σ 84 0))) else (some (σ, (σ 84 1)))) else ((ix 9 v2).bind fun k_30 => if (σ 49 k_30) < 4 then ((ix 9 v2).bind fun k_32 => (ix 9 v2).bind fun k_33 => bd2 (F_X7_costInMind (stm σ 49 k_33 ((σ 49 k_32) + 1)) ) fun σ_34 r_35 => (F_X1_offer σ_34 v2 r_35).bind fun σ_36 => (ix 9 v2).bind fun k_37 => (ix 9 v2).bind fun k_38 => F_X7_more_41b x1 nn (stm σ_36 49 k_38 ((σ_36 49 k_37) - 1)) (v2 + 1)) else (F_X7_more_41b x1 nn σ (v2 + 1))))
def F_X7_more (σ : Mem) (x1 : Int32) : Option (Mem × Int32) := if x1 = 0 then ((F_X7_cannotRun σ ).bind fun r_2 => if r_2 = 0 then (ck (cb01 σ 0) <| (F_X1_begin (tcpy σ 2 0) ).bind fun σ_5 => F_X7_more_41 x1 FU σ_5 1) else (some (σ, (-3)))) else (if x1 = 1 then ((F_X7_cannotRun σ ).bind fun r_21 => if r_21 = 0 then (ck (cb01 σ 0) <| (F_X1_begin (tcpy σ 2 0) ).bind fun σ_24 => F_X7_more_41b x1 FU σ_24 1) else (some (σ, (-3)))) else (some (σ, (-1))))
set_option maxHeartbeats 4000000 in
set_option maxRecDepth 100000 in
theorem c_X7_more (l : Launch) (D : va_G) (cA : Nat → ClassId) (ad : Nat → Nat) (o : Int64) (σ : Mem) (x1 : Int32)  (res : Mem × Int32) (h : F_X7_more σ x1 = some res) (sz : Nat) : Met l yX7_more (WY yX7_more cX7_more 3 (some .int)) (RM 6) (va_Pc [.ref (ad 66), .int x1] (PW D cA ad o σ sz)) (va_Qi (fun r σ9 => r = res.2 ∧ σ9 = res.1) (QW D cA ad o) (FA ad sz)) 0 0 (FA ad sz) := by
  refine ct_of (own := RX7) (k := 6) (Qf := va_Qi (fun r σ9 => r = res.2 ∧ σ9 = res.1) (QW D cA ad o)) rfl (by decide) (Nat.le_of_ble_eq_true rfl) (fun p e s m below meth c ls C0 X hr hlk hP hl => ?_) sz
  have hS : va_S (FA ad s.heap.size) s.heap s.heap [] := va_S.rf
  have hl : lv_has ls 3 [(0, .ref (ad 66)), (1, .int x1)] := hl
  obtain ⟨hx, hb, hml, hown, hts⟩ := id C0
  unfold F_X7_more at h
  refine lv_iload_n hx hb dX7_more_0 rfl (lv_at hl 1 rfl) ?_
  refine lv_if_eq (tgt := 11) hx hb dX7_more_1 (by decide) (fun c_1 => ?_) (fun c_1 => ?_)
  · replace h := it_t h c_1
    refine lv_aload_n hx hb dX7_more_11 rfl (lv_at hl 0 rfl) ?_
    obtain ⟨r_2, er_2, h⟩ := bnd h
    refine r_ci X hS (r_runV (As := []) (rest := []) C0 X hP L_X7_135 (fun sz => c_X7_cannotRun l D cA ad o σ   r_2 er_2 sz) (show 66 < 106 ∧ kd 66 = (7, 8) from ⟨by decide, rfl⟩).1 (show 66 < 106 ∧ kd 66 = (7, 8) from ⟨by decide, rfl⟩).2 (by decide) rfl ⟨Nat.le_of_ble_eq_true rfl, Nat.le_of_ble_eq_true rfl⟩ rfl hl.1 rfl (Nat.le_of_ble_eq_true rfl) dX7_more_12 ⟨Nat.zero_le _, Nat.zero_le _⟩) (fun r9 σ9 H locs hw hP hS => ?_)
    rw [hw.2] at hP
    rw [hw.1]
    refine lv_if_eq (tgt := 21) hx hb dX7_more_15 (by decide) (fun c_3 => ?_) (fun c_3 => ?_)
    · replace h := it_t h c_3
      refine lv_aload_n hx hb dX7_more_21 rfl (lv_at hl 0 rfl) ?_
      refine gf_X7_19 C0 X hP 66 (q := 44) ⟨by decide, rfl⟩ (by omega) rfl dX7_more_22 ?_
      refine lv_aload_n hx hb dX7_more_25 rfl (lv_at hl 0 rfl) ?_
      refine gf_X7_12 C0 X hP 66 (q := 0) ⟨by decide, rfl⟩ (by omega) rfl dX7_more_26 ?_
      obtain ⟨q_4, h⟩ := ckp h
      refine r_cv X hS (r_runV (As := [.ref (ad 0)]) (rest := []) C0 X hP L_X7_62 (fun sz => c_X6_copyFrom l D cA ad o σ 2 0 (by decide) (by decide) (by decide) (cb01_e q_4) sz) (show 44 < 106 ∧ kd 44 = (6, 11) from ⟨by decide, rfl⟩).1 (show 44 < 106 ∧ kd 44 = (6, 11) from ⟨by decide, rfl⟩).2 (by decide) rfl ⟨Nat.le_of_ble_eq_true rfl, Nat.le_of_ble_eq_true rfl⟩ rfl hl.1 rfl (Nat.le_of_ble_eq_true rfl) dX7_more_29 ⟨Nat.zero_le _, Nat.zero_le _⟩) (fun σ9 H locs hw hP hS => ?_)
      rw [show σ9 = (tcpy σ 2 0) from hw] at hP
      refine lv_aload_n hx hb dX7_more_32 rfl (lv_at hl 0 rfl) ?_
      refine gf_X7_31 C0 X hP 66 (q := 84) ⟨by decide, rfl⟩ (by omega) rfl dX7_more_33 ?_
      obtain ⟨σ_5, eσ_5, h⟩ := bnd h
      refine r_cv X hS (r_runV (As := []) (rest := []) C0 X hP L_X7_233 (fun sz => c_X1_begin l D cA ad o (tcpy σ 2 0)   σ_5 eσ_5 sz) (show 84 < 106 ∧ kd 84 = (1, 2) from ⟨by decide, rfl⟩).1 (show 84 < 106 ∧ kd 84 = (1, 2) from ⟨by decide, rfl⟩).2 (by decide) rfl ⟨Nat.le_of_ble_eq_true rfl, Nat.le_of_ble_eq_true rfl⟩ rfl hl.1 rfl (Nat.le_of_ble_eq_true rfl) dX7_more_36 ⟨Nat.zero_le _, Nat.zero_le _⟩) (fun σ9 H locs hw hP hS => ?_)
      rw [show σ9 = σ_5 from hw] at hP
      refine lv_iconst (v := 1) hx hb dX7_more_39 (by decide) ?_
      refine lv_istore_n (lv' := [(2, .int 1), (0, .ref (ad 66)), (1, .int x1)]) hx hb dX7_more_40 rfl hl (by decide) rfl (fun ls hl => ?_)
      have lp_6 : ∀ (nn41 : Nat) (σ : Mem) (v2 : Int32) (H : Heap) (locs : List Loc) (ls : Array Slot), F_X7_more_41 x1 nn41 σ v2 = some res → WP D cA ad o σ H → va_S (FA ad s.heap.size) s.heap H locs → lv_has ls 3 [(2, .int v2), (0, .ref (ad 66)), (1, .int x1)] → W p l e (RM 6) s m ([.ref (ad 66), .int x1] : List Value).toArray below meth c H locs 0 0 (MQ below (va_Qi (fun r σ9 => r = res.2 ∧ σ9 = res.1) (QW D cA ad o) (FA ad s.heap.size)) ([.ref (ad 66), .int x1] : List Value).toArray s 0 0 (FA ad s.heap.size)) (F0 m 41 ls []) := by
        intro nn41
        induction nn41 with
        | zero => intro σ v2 H locs ls h hP hS hl; exact absurd (show none = some res from h) nofun
        | succ nn41 ih41 =>
          intro σ v2 H locs ls h hP hS hl
          replace h := (F_X7_more_41.eq_2 _ _ _ _).symm.trans h
          refine lv_iload_n hx hb dX7_more_41 rfl (lv_at hl 0 rfl) ?_
          refine lv_aload_n hx hb dX7_more_42 rfl (lv_at hl 1 rfl) ?_
          refine gf_X7_19 C0 X hP 66 (q := 44) ⟨by decide, rfl⟩ (by omega) rfl dX7_more_43 ?_
          refine gf_X7_70 C0 X hP 44 (q := 45) ⟨by decide, rfl⟩ (by omega) rfl dX7_more_46 ?_
          refine gf_X7_74 C0 X hP 45 ⟨by decide, rfl⟩ dX7_more_49 ?_
          refine lv_icmp_ge (tgt := 130) hx hb dX7_more_52 (by decide) (fun c_7 => ?_) (fun c_7 => ?_)
          · replace h := it_t h c_7
            refine lv_iload_n hx hb dX7_more_130 rfl (lv_at hl 2 rfl) ?_
            refine lv_if_ne (tgt := 144) hx hb dX7_more_131 (by decide) (fun c_8 => ?_) (fun c_8 => ?_)
            · replace h := it_f h c_8
              refine lv_aload_n hx hb dX7_more_144 rfl (lv_at hl 1 rfl) ?_
              refine gf_X7_31 C0 X hP 66 (q := 84) ⟨by decide, rfl⟩ (by omega) rfl dX7_more_145 ?_
              refine gf_X7_243 C0 X hP 84 ⟨by decide, rfl⟩ dX7_more_148 ?_
              exact r_iret C0 X hP hS hr hlk dX7_more_151 (rt2 h)
            · replace h := it_t h c_8
              refine lv_aload_n hx hb dX7_more_134 rfl (lv_at hl 1 rfl) ?_
              refine gf_X7_31 C0 X hP 66 (q := 84) ⟨by decide, rfl⟩ (by omega) rfl dX7_more_135 ?_
              refine gf_X7_240 C0 X hP 84 ⟨by decide, rfl⟩ dX7_more_138 ?_
              refine lv_goto (tgt := 151) hx hb dX7_more_141 (by decide) ?_
              exact r_iret C0 X hP hS hr hlk dX7_more_151 (rt2 h)
          · replace h := it_f h c_7
            refine lv_iload_n hx hb dX7_more_55 rfl (lv_at hl 0 rfl) ?_
            refine lv_bipush (v := 8) hx hb dX7_more_56 (by decide) ?_
            refine lv_icmp_ge (tgt := 130) hx hb dX7_more_58 (by decide) (fun c_9 => ?_) (fun c_9 => ?_)
            · replace h := it_t h c_9
              refine lv_iload_n hx hb dX7_more_130 rfl (lv_at hl 2 rfl) ?_
              refine lv_if_ne (tgt := 144) hx hb dX7_more_131 (by decide) (fun c_10 => ?_) (fun c_10 => ?_)
              · replace h := it_f h c_10
                refine lv_aload_n hx hb dX7_more_144 rfl (lv_at hl 1 rfl) ?_
                refine gf_X7_31 C0 X hP 66 (q := 84) ⟨by decide, rfl⟩ (by omega) rfl dX7_more_145 ?_
                refine gf_X7_243 C0 X hP 84 ⟨by decide, rfl⟩ dX7_more_148 ?_
                exact r_iret C0 X hP hS hr hlk dX7_more_151 (rt2 h)
              · replace h := it_t h c_10
                refine lv_aload_n hx hb dX7_more_134 rfl (lv_at hl 1 rfl) ?_
                refine gf_X7_31 C0 X hP 66 (q := 84) ⟨by decide, rfl⟩ (by omega) rfl dX7_more_135 ?_
                refine gf_X7_240 C0 X hP 84 ⟨by decide, rfl⟩ dX7_more_138 ?_
                refine lv_goto (tgt := 151) hx hb dX7_more_141 (by decide) ?_
                exact r_iret C0 X hP hS hr hlk dX7_more_151 (rt2 h)
            · replace h := it_f h c_9
              refine lv_aload_n hx hb dX7_more_61 rfl (lv_at hl 1 rfl) ?_
              refine gf_X7_19 C0 X hP 66 (q := 44) ⟨by decide, rfl⟩ (by omega) rfl dX7_more_62 ?_
              refine gf_X7_70 C0 X hP 44 (q := 45) ⟨by decide, rfl⟩ (by omega) rfl dX7_more_65 ?_
              refine gf_X7_96 C0 X hP 45 (q := 49) ⟨by decide, rfl⟩ (by omega) rfl dX7_more_68 ?_
              refine lv_iload_n hx hb dX7_more_71 rfl (lv_at hl 0 rfl) ?_
              obtain ⟨k_11, ek_11, h⟩ := bnd h
              replace ek_11 := ix_s ek_11 (by decide)
              refine r_ialdN C0 X hP 49 (k := k_11) ⟨by decide, rfl⟩ ek_11.1 ek_11.2 dX7_more_72 ?_
              refine lv_iconst (v := 4) hx hb dX7_more_73 (by decide) ?_
              refine lv_icmp_lt (tgt := 80) hx hb dX7_more_74 (by decide) (fun c_12 => ?_) (fun c_12 => ?_)
              · replace h := it_t h c_12
                refine lv_aload_n hx hb dX7_more_80 rfl (lv_at hl 1 rfl) ?_
                refine gf_X7_19 C0 X hP 66 (q := 44) ⟨by decide, rfl⟩ (by omega) rfl dX7_more_81 ?_
                refine gf_X7_70 C0 X hP 44 (q := 45) ⟨by decide, rfl⟩ (by omega) rfl dX7_more_84 ?_
                refine gf_X7_96 C0 X hP 45 (q := 49) ⟨by decide, rfl⟩ (by omega) rfl dX7_more_87 ?_
                refine lv_iload_n hx hb dX7_more_90 rfl (lv_at hl 0 rfl) ?_
                refine lv_dup2_11 hx hb dX7_more_91 rfl rfl ?_
                obtain ⟨k_13, ek_13, h⟩ := bnd h
                replace ek_13 := ix_s ek_13 (by decide)
                refine r_ialdN C0 X hP 49 (k := k_13) ⟨by decide, rfl⟩ ek_13.1 ek_13.2 dX7_more_92 ?_
                refine lv_iconst (v := 1) hx hb dX7_more_93 (by decide) ?_
                refine lv_iadd hx hb dX7_more_94 ?_
                obtain ⟨k_14, ek_14, h⟩ := bnd h
                replace ek_14 := ix_s ek_14 (by decide)
                refine r_iastN C0 X hP hS 49 (k := k_14) ⟨by decide, rfl⟩ ek_14.1 ek_14.2 dX7_more_95 (fun H locs hP hS => ?_)
                refine lv_aload_n hx hb dX7_more_96 rfl (lv_at hl 1 rfl) ?_
                refine gf_X7_31 C0 X hP 66 (q := 84) ⟨by decide, rfl⟩ (by omega) rfl dX7_more_97 ?_
                refine lv_iload_n hx hb dX7_more_100 rfl (lv_at hl 0 rfl) ?_
                refine lv_aload_n hx hb dX7_more_101 rfl (lv_at hl 1 rfl) ?_
                obtain ⟨σ_15, r_16, eσ_15, h⟩ := bnd2 h
                refine r_ci X hS (r_runV (As := []) (rest := [.int v2, .ref (ad 84)]) C0 X hP L_X7_224 (fun sz => c_X7_costInMind l D cA ad o (stm σ 49 k_14 ((σ 49 k_13) + 1))   (σ_15, r_16) eσ_15 sz) (show 66 < 106 ∧ kd 66 = (7, 8) from ⟨by decide, rfl⟩).1 (show 66 < 106 ∧ kd 66 = (7, 8) from ⟨by decide, rfl⟩).2 (by decide) rfl ⟨Nat.le_of_ble_eq_true rfl, Nat.le_of_ble_eq_true rfl⟩ rfl hl.1 rfl (Nat.le_of_ble_eq_true rfl) dX7_more_102 ⟨Nat.zero_le _, Nat.zero_le _⟩) (fun r9 σ9 H locs hw hP hS => ?_)
                rw [show σ9 = σ_15 from hw.2] at hP
                rw [show r9 = r_16 from hw.1]
                obtain ⟨σ_17, eσ_17, h⟩ := bnd h
                refine r_cv X hS (r_runV (As := [.int v2, .int r_16]) (rest := []) C0 X hP L_X7_236 (fun sz => c_X1_offer l D cA ad o σ_15 v2 r_16  σ_17 eσ_17 sz) (show 84 < 106 ∧ kd 84 = (1, 2) from ⟨by decide, rfl⟩).1 (show 84 < 106 ∧ kd 84 = (1, 2) from ⟨by decide, rfl⟩).2 (by decide) rfl ⟨Nat.le_of_ble_eq_true rfl, Nat.le_of_ble_eq_true rfl⟩ rfl hl.1 rfl (Nat.le_of_ble_eq_true rfl) dX7_more_105 ⟨Nat.zero_le _, Nat.zero_le _⟩) (fun σ9 H locs hw hP hS => ?_)
                rw [show σ9 = σ_17 from hw] at hP
                refine lv_aload_n hx hb dX7_more_108 rfl (lv_at hl 1 rfl) ?_
                refine gf_X7_19 C0 X hP 66 (q := 44) ⟨by decide, rfl⟩ (by omega) rfl dX7_more_109 ?_
                refine gf_X7_70 C0 X hP 44 (q := 45) ⟨by decide, rfl⟩ (by omega) rfl dX7_more_112 ?_
                refine gf_X7_96 C0 X hP 45 (q := 49) ⟨by decide, rfl⟩ (by omega) rfl dX7_more_115 ?_
                refine lv_iload_n hx hb dX7_more_118 rfl (lv_at hl 0 rfl) ?_
                refine lv_dup2_11 hx hb dX7_more_119 rfl rfl ?_
                obtain ⟨k_18, ek_18, h⟩ := bnd h
                replace ek_18 := ix_s ek_18 (by decide)
                refine r_ialdN C0 X hP 49 (k := k_18) ⟨by decide, rfl⟩ ek_18.1 ek_18.2 dX7_more_120 ?_
                refine lv_iconst (v := 1) hx hb dX7_more_121 (by decide) ?_
                refine lv_isub hx hb dX7_more_122 ?_
                obtain ⟨k_19, ek_19, h⟩ := bnd h
                replace ek_19 := ix_s ek_19 (by decide)
                refine r_iastN C0 X hP hS 49 (k := k_19) ⟨by decide, rfl⟩ ek_19.1 ek_19.2 dX7_more_123 (fun H locs hP hS => ?_)
                refine lv_iinc (v := (v2 + 1)) (lv' := [(2, .int (v2 + 1)), (0, .ref (ad 66)), (1, .int x1)]) hx hb dX7_more_124 hl (k := 0) rfl rfl (by decide) rfl (fun ls hl => ?_)
                refine lv_goto (tgt := 41) hx hb dX7_more_127 (by decide) ?_
                exact ih41 (stm σ_17 49 k_19 ((σ_17 49 k_18) - 1)) (v2 + 1) _ _ ls  h hP hS (lv_sub hl [0, 1, 2] rfl)
              · replace h := it_f h c_12
                refine lv_goto (tgt := 124) hx hb dX7_more_77 (by decide) ?_
                refine lv_iinc (v := (v2 + 1)) (lv' := [(2, .int (v2 + 1)), (0, .ref (ad 66)), (1, .int x1)]) hx hb dX7_more_124 hl (k := 0) rfl rfl (by decide) rfl (fun ls hl => ?_)
                refine lv_goto (tgt := 41) hx hb dX7_more_127 (by decide) ?_
                exact ih41 σ (v2 + 1) _ _ ls  h hP hS (lv_sub hl [0, 1, 2] rfl)
      exact lp_6 FU σ_5 1 _ _ ls  h hP hS (lv_sub hl [0, 1, 2] rfl)
    · replace h := it_f h c_3
      refine lv_bipush (v := (-3)) hx hb dX7_more_18 (by decide) ?_
      exact r_iret C0 X hP hS hr hlk dX7_more_20 (rt2 h)
  · replace h := it_f h c_1
    refine lv_iload_n hx hb dX7_more_4 rfl (lv_at hl 1 rfl) ?_
    refine lv_iconst (v := 1) hx hb dX7_more_5 (by decide) ?_
    refine lv_icmp_eq (tgt := 11) hx hb dX7_more_6 (by decide) (fun c_20 => ?_) (fun c_20 => ?_)
    · replace h := it_t h c_20
      refine lv_aload_n hx hb dX7_more_11 rfl (lv_at hl 0 rfl) ?_
      obtain ⟨r_21, er_21, h⟩ := bnd h
      refine r_ci X hS (r_runV (As := []) (rest := []) C0 X hP L_X7_135 (fun sz => c_X7_cannotRun l D cA ad o σ   r_21 er_21 sz) (show 66 < 106 ∧ kd 66 = (7, 8) from ⟨by decide, rfl⟩).1 (show 66 < 106 ∧ kd 66 = (7, 8) from ⟨by decide, rfl⟩).2 (by decide) rfl ⟨Nat.le_of_ble_eq_true rfl, Nat.le_of_ble_eq_true rfl⟩ rfl hl.1 rfl (Nat.le_of_ble_eq_true rfl) dX7_more_12 ⟨Nat.zero_le _, Nat.zero_le _⟩) (fun r9 σ9 H locs hw hP hS => ?_)
      rw [hw.2] at hP
      rw [hw.1]
      refine lv_if_eq (tgt := 21) hx hb dX7_more_15 (by decide) (fun c_22 => ?_) (fun c_22 => ?_)
      · replace h := it_t h c_22
        refine lv_aload_n hx hb dX7_more_21 rfl (lv_at hl 0 rfl) ?_
        refine gf_X7_19 C0 X hP 66 (q := 44) ⟨by decide, rfl⟩ (by omega) rfl dX7_more_22 ?_
        refine lv_aload_n hx hb dX7_more_25 rfl (lv_at hl 0 rfl) ?_
        refine gf_X7_12 C0 X hP 66 (q := 0) ⟨by decide, rfl⟩ (by omega) rfl dX7_more_26 ?_
        obtain ⟨q_23, h⟩ := ckp h
        refine r_cv X hS (r_runV (As := [.ref (ad 0)]) (rest := []) C0 X hP L_X7_62 (fun sz => c_X6_copyFrom l D cA ad o σ 2 0 (by decide) (by decide) (by decide) (cb01_e q_23) sz) (show 44 < 106 ∧ kd 44 = (6, 11) from ⟨by decide, rfl⟩).1 (show 44 < 106 ∧ kd 44 = (6, 11) from ⟨by decide, rfl⟩).2 (by decide) rfl ⟨Nat.le_of_ble_eq_true rfl, Nat.le_of_ble_eq_true rfl⟩ rfl hl.1 rfl (Nat.le_of_ble_eq_true rfl) dX7_more_29 ⟨Nat.zero_le _, Nat.zero_le _⟩) (fun σ9 H locs hw hP hS => ?_)
        rw [show σ9 = (tcpy σ 2 0) from hw] at hP
        refine lv_aload_n hx hb dX7_more_32 rfl (lv_at hl 0 rfl) ?_
        refine gf_X7_31 C0 X hP 66 (q := 84) ⟨by decide, rfl⟩ (by omega) rfl dX7_more_33 ?_
        obtain ⟨σ_24, eσ_24, h⟩ := bnd h
        refine r_cv X hS (r_runV (As := []) (rest := []) C0 X hP L_X7_233 (fun sz => c_X1_begin l D cA ad o (tcpy σ 2 0)   σ_24 eσ_24 sz) (show 84 < 106 ∧ kd 84 = (1, 2) from ⟨by decide, rfl⟩).1 (show 84 < 106 ∧ kd 84 = (1, 2) from ⟨by decide, rfl⟩).2 (by decide) rfl ⟨Nat.le_of_ble_eq_true rfl, Nat.le_of_ble_eq_true rfl⟩ rfl hl.1 rfl (Nat.le_of_ble_eq_true rfl) dX7_more_36 ⟨Nat.zero_le _, Nat.zero_le _⟩) (fun σ9 H locs hw hP hS => ?_)
        rw [show σ9 = σ_24 from hw] at hP
        refine lv_iconst (v := 1) hx hb dX7_more_39 (by decide) ?_
        refine lv_istore_n (lv' := [(2, .int 1), (0, .ref (ad 66)), (1, .int x1)]) hx hb dX7_more_40 rfl hl (by decide) rfl (fun ls hl => ?_)
        have lp_25 : ∀ (nn41 : Nat) (σ : Mem) (v2 : Int32) (H : Heap) (locs : List Loc) (ls : Array Slot), F_X7_more_41b x1 nn41 σ v2 = some res → WP D cA ad o σ H → va_S (FA ad s.heap.size) s.heap H locs → lv_has ls 3 [(2, .int v2), (0, .ref (ad 66)), (1, .int x1)] → W p l e (RM 6) s m ([.ref (ad 66), .int x1] : List Value).toArray below meth c H locs 0 0 (MQ below (va_Qi (fun r σ9 => r = res.2 ∧ σ9 = res.1) (QW D cA ad o) (FA ad s.heap.size)) ([.ref (ad 66), .int x1] : List Value).toArray s 0 0 (FA ad s.heap.size)) (F0 m 41 ls []) := by
          intro nn41
          induction nn41 with
          | zero => intro σ v2 H locs ls h hP hS hl; exact absurd (show none = some res from h) nofun
          | succ nn41 ih41 =>
            intro σ v2 H locs ls h hP hS hl
            replace h := (F_X7_more_41b.eq_2 _ _ _ _).symm.trans h
            refine lv_iload_n hx hb dX7_more_41 rfl (lv_at hl 0 rfl) ?_
            refine lv_aload_n hx hb dX7_more_42 rfl (lv_at hl 1 rfl) ?_
            refine gf_X7_19 C0 X hP 66 (q := 44) ⟨by decide, rfl⟩ (by omega) rfl dX7_more_43 ?_
            refine gf_X7_70 C0 X hP 44 (q := 45) ⟨by decide, rfl⟩ (by omega) rfl dX7_more_46 ?_
            refine gf_X7_74 C0 X hP 45 ⟨by decide, rfl⟩ dX7_more_49 ?_
            refine lv_icmp_ge (tgt := 130) hx hb dX7_more_52 (by decide) (fun c_26 => ?_) (fun c_26 => ?_)
            · replace h := it_t h c_26
              refine lv_iload_n hx hb dX7_more_130 rfl (lv_at hl 2 rfl) ?_
              refine lv_if_ne (tgt := 144) hx hb dX7_more_131 (by decide) (fun c_27 => ?_) (fun c_27 => ?_)
              · replace h := it_f h c_27
                refine lv_aload_n hx hb dX7_more_144 rfl (lv_at hl 1 rfl) ?_
                refine gf_X7_31 C0 X hP 66 (q := 84) ⟨by decide, rfl⟩ (by omega) rfl dX7_more_145 ?_
                refine gf_X7_243 C0 X hP 84 ⟨by decide, rfl⟩ dX7_more_148 ?_
                exact r_iret C0 X hP hS hr hlk dX7_more_151 (rt2 h)
              · replace h := it_t h c_27
                refine lv_aload_n hx hb dX7_more_134 rfl (lv_at hl 1 rfl) ?_
                refine gf_X7_31 C0 X hP 66 (q := 84) ⟨by decide, rfl⟩ (by omega) rfl dX7_more_135 ?_
                refine gf_X7_240 C0 X hP 84 ⟨by decide, rfl⟩ dX7_more_138 ?_
                refine lv_goto (tgt := 151) hx hb dX7_more_141 (by decide) ?_
                exact r_iret C0 X hP hS hr hlk dX7_more_151 (rt2 h)
            · replace h := it_f h c_26
              refine lv_iload_n hx hb dX7_more_55 rfl (lv_at hl 0 rfl) ?_
              refine lv_bipush (v := 8) hx hb dX7_more_56 (by decide) ?_
              refine lv_icmp_ge (tgt := 130) hx hb dX7_more_58 (by decide) (fun c_28 => ?_) (fun c_28 => ?_)
              · replace h := it_t h c_28
                refine lv_iload_n hx hb dX7_more_130 rfl (lv_at hl 2 rfl) ?_
                refine lv_if_ne (tgt := 144) hx hb dX7_more_131 (by decide) (fun c_29 => ?_) (fun c_29 => ?_)
                · replace h := it_f h c_29
                  refine lv_aload_n hx hb dX7_more_144 rfl (lv_at hl 1 rfl) ?_
                  refine gf_X7_31 C0 X hP 66 (q := 84) ⟨by decide, rfl⟩ (by omega) rfl dX7_more_145 ?_
                  refine gf_X7_243 C0 X hP 84 ⟨by decide, rfl⟩ dX7_more_148 ?_
                  exact r_iret C0 X hP hS hr hlk dX7_more_151 (rt2 h)
                · replace h := it_t h c_29
                  refine lv_aload_n hx hb dX7_more_134 rfl (lv_at hl 1 rfl) ?_
                  refine gf_X7_31 C0 X hP 66 (q := 84) ⟨by decide, rfl⟩ (by omega) rfl dX7_more_135 ?_
                  refine gf_X7_240 C0 X hP 84 ⟨by decide, rfl⟩ dX7_more_138 ?_
                  refine lv_goto (tgt := 151) hx hb dX7_more_141 (by decide) ?_
                  exact r_iret C0 X hP hS hr hlk dX7_more_151 (rt2 h)
              · replace h := it_f h c_28
                refine lv_aload_n hx hb dX7_more_61 rfl (lv_at hl 1 rfl) ?_
                refine gf_X7_19 C0 X hP 66 (q := 44) ⟨by decide, rfl⟩ (by omega) rfl dX7_more_62 ?_
                refine gf_X7_70 C0 X hP 44 (q := 45) ⟨by decide, rfl⟩ (by omega) rfl dX7_more_65 ?_
                refine gf_X7_96 C0 X hP 45 (q := 49) ⟨by decide, rfl⟩ (by omega) rfl dX7_more_68 ?_
                refine lv_iload_n hx hb dX7_more_71 rfl (lv_at hl 0 rfl) ?_
                obtain ⟨k_30, ek_30, h⟩ := bnd h
                replace ek_30 := ix_s ek_30 (by decide)
                refine r_ialdN C0 X hP 49 (k := k_30) ⟨by decide, rfl⟩ ek_30.1 ek_30.2 dX7_more_72 ?_
                refine lv_iconst (v := 4) hx hb dX7_more_73 (by decide) ?_
                refine lv_icmp_lt (tgt := 80) hx hb dX7_more_74 (by decide) (fun c_31 => ?_) (fun c_31 => ?_)
                · replace h := it_t h c_31
                  refine lv_aload_n hx hb dX7_more_80 rfl (lv_at hl 1 rfl) ?_
                  refine gf_X7_19 C0 X hP 66 (q := 44) ⟨by decide, rfl⟩ (by omega) rfl dX7_more_81 ?_
                  refine gf_X7_70 C0 X hP 44 (q := 45) ⟨by decide, rfl⟩ (by omega) rfl dX7_more_84 ?_
                  refine gf_X7_96 C0 X hP 45 (q := 49) ⟨by decide, rfl⟩ (by omega) rfl dX7_more_87 ?_
                  refine lv_iload_n hx hb dX7_more_90 rfl (lv_at hl 0 rfl) ?_
                  refine lv_dup2_11 hx hb dX7_more_91 rfl rfl ?_
                  obtain ⟨k_32, ek_32, h⟩ := bnd h
                  replace ek_32 := ix_s ek_32 (by decide)
                  refine r_ialdN C0 X hP 49 (k := k_32) ⟨by decide, rfl⟩ ek_32.1 ek_32.2 dX7_more_92 ?_
                  refine lv_iconst (v := 1) hx hb dX7_more_93 (by decide) ?_
                  refine lv_iadd hx hb dX7_more_94 ?_
                  obtain ⟨k_33, ek_33, h⟩ := bnd h
                  replace ek_33 := ix_s ek_33 (by decide)
                  refine r_iastN C0 X hP hS 49 (k := k_33) ⟨by decide, rfl⟩ ek_33.1 ek_33.2 dX7_more_95 (fun H locs hP hS => ?_)
                  refine lv_aload_n hx hb dX7_more_96 rfl (lv_at hl 1 rfl) ?_
                  refine gf_X7_31 C0 X hP 66 (q := 84) ⟨by decide, rfl⟩ (by omega) rfl dX7_more_97 ?_
                  refine lv_iload_n hx hb dX7_more_100 rfl (lv_at hl 0 rfl) ?_
                  refine lv_aload_n hx hb dX7_more_101 rfl (lv_at hl 1 rfl) ?_
                  obtain ⟨σ_34, r_35, eσ_34, h⟩ := bnd2 h
                  refine r_ci X hS (r_runV (As := []) (rest := [.int v2, .ref (ad 84)]) C0 X hP L_X7_224 (fun sz => c_X7_costInMind l D cA ad o (stm σ 49 k_33 ((σ 49 k_32) + 1))   (σ_34, r_35) eσ_34 sz) (show 66 < 106 ∧ kd 66 = (7, 8) from ⟨by decide, rfl⟩).1 (show 66 < 106 ∧ kd 66 = (7, 8) from ⟨by decide, rfl⟩).2 (by decide) rfl ⟨Nat.le_of_ble_eq_true rfl, Nat.le_of_ble_eq_true rfl⟩ rfl hl.1 rfl (Nat.le_of_ble_eq_true rfl) dX7_more_102 ⟨Nat.zero_le _, Nat.zero_le _⟩) (fun r9 σ9 H locs hw hP hS => ?_)
                  rw [show σ9 = σ_34 from hw.2] at hP
                  rw [show r9 = r_35 from hw.1]
                  obtain ⟨σ_36, eσ_36, h⟩ := bnd h
                  refine r_cv X hS (r_runV (As := [.int v2, .int r_35]) (rest := []) C0 X hP L_X7_236 (fun sz => c_X1_offer l D cA ad o σ_34 v2 r_35  σ_36 eσ_36 sz) (show 84 < 106 ∧ kd 84 = (1, 2) from ⟨by decide, rfl⟩).1 (show 84 < 106 ∧ kd 84 = (1, 2) from ⟨by decide, rfl⟩).2 (by decide) rfl ⟨Nat.le_of_ble_eq_true rfl, Nat.le_of_ble_eq_true rfl⟩ rfl hl.1 rfl (Nat.le_of_ble_eq_true rfl) dX7_more_105 ⟨Nat.zero_le _, Nat.zero_le _⟩) (fun σ9 H locs hw hP hS => ?_)
                  rw [show σ9 = σ_36 from hw] at hP
                  refine lv_aload_n hx hb dX7_more_108 rfl (lv_at hl 1 rfl) ?_
                  refine gf_X7_19 C0 X hP 66 (q := 44) ⟨by decide, rfl⟩ (by omega) rfl dX7_more_109 ?_
                  refine gf_X7_70 C0 X hP 44 (q := 45) ⟨by decide, rfl⟩ (by omega) rfl dX7_more_112 ?_
                  refine gf_X7_96 C0 X hP 45 (q := 49) ⟨by decide, rfl⟩ (by omega) rfl dX7_more_115 ?_
                  refine lv_iload_n hx hb dX7_more_118 rfl (lv_at hl 0 rfl) ?_
                  refine lv_dup2_11 hx hb dX7_more_119 rfl rfl ?_
                  obtain ⟨k_37, ek_37, h⟩ := bnd h
                  replace ek_37 := ix_s ek_37 (by decide)
                  refine r_ialdN C0 X hP 49 (k := k_37) ⟨by decide, rfl⟩ ek_37.1 ek_37.2 dX7_more_120 ?_
                  refine lv_iconst (v := 1) hx hb dX7_more_121 (by decide) ?_
                  refine lv_isub hx hb dX7_more_122 ?_
                  obtain ⟨k_38, ek_38, h⟩ := bnd h
                  replace ek_38 := ix_s ek_38 (by decide)
                  refine r_iastN C0 X hP hS 49 (k := k_38) ⟨by decide, rfl⟩ ek_38.1 ek_38.2 dX7_more_123 (fun H locs hP hS => ?_)
                  refine lv_iinc (v := (v2 + 1)) (lv' := [(2, .int (v2 + 1)), (0, .ref (ad 66)), (1, .int x1)]) hx hb dX7_more_124 hl (k := 0) rfl rfl (by decide) rfl (fun ls hl => ?_)
                  refine lv_goto (tgt := 41) hx hb dX7_more_127 (by decide) ?_
                  exact ih41 (stm σ_36 49 k_38 ((σ_36 49 k_37) - 1)) (v2 + 1) _ _ ls  h hP hS (lv_sub hl [0, 1, 2] rfl)
                · replace h := it_f h c_31
                  refine lv_goto (tgt := 124) hx hb dX7_more_77 (by decide) ?_
                  refine lv_iinc (v := (v2 + 1)) (lv' := [(2, .int (v2 + 1)), (0, .ref (ad 66)), (1, .int x1)]) hx hb dX7_more_124 hl (k := 0) rfl rfl (by decide) rfl (fun ls hl => ?_)
                  refine lv_goto (tgt := 41) hx hb dX7_more_127 (by decide) ?_
                  exact ih41 σ (v2 + 1) _ _ ls  h hP hS (lv_sub hl [0, 1, 2] rfl)
        exact lp_25 FU σ_24 1 _ _ ls  h hP hS (lv_sub hl [0, 1, 2] rfl)
      · replace h := it_f h c_22
        refine lv_bipush (v := (-3)) hx hb dX7_more_18 (by decide) ?_
        exact r_iret C0 X hP hS hr hlk dX7_more_20 (rt2 h)
    · replace h := it_f h c_20
      refine lv_iconst (v := (-1)) hx hb dX7_more_9 (by decide) ?_
      exact r_iret C0 X hP hS hr hlk dX7_more_10 (rt2 h)
def bB_cX7_fit : Nat := 0xacf000b41f00b42ad4ffa7010484ec00b6e000b62a04151f00b42af600b61c2e0415cf00b42d2a2200a2641004152900a2cc00b42d0415043603e900b61f00b42a3e00b60c00b42a1300b42aacfd100600998700b62aacf31006009ad500b60710032d0d0099cc00b42dacf41006009a3a00b62dacf51006009a3600b42dac020500a409101c09009b1c0d00c62d4e3200b61b2a
theorem yB_cX7_fit : BYS cX7_fit 148 bB_cX7_fit := BYS_of (by decide +kernel)
theorem dX7_fit_0 : decode cX7_fit 0 = .ok (.aload_n 0, 1) := D_42 yB_cX7_fit rfl rfl
theorem dX7_fit_1 : decode cX7_fit 1 = .ok (.iload_n 1, 1) := D_27 yB_cX7_fit rfl rfl
theorem dX7_fit_2 : decode cX7_fit 2 = .ok (.invokevirtual 50, 3) := D_182 yB_cX7_fit rfl rfl rfl
theorem dX7_fit_5 : decode cX7_fit 5 = .ok (.astore_n 3, 1) := D_78 yB_cX7_fit rfl rfl
theorem dX7_fit_6 : decode cX7_fit 6 = .ok (.aload_n 3, 1) := D_45 yB_cX7_fit rfl rfl
theorem dX7_fit_7 : decode cX7_fit 7 = .ok (.ifnull 13, 3) := D_198 yB_cX7_fit rfl rfl (sg_p (m := 32768) (N := 13) rfl rfl rfl)
theorem dX7_fit_10 : decode cX7_fit 10 = .ok (.iload_n 2, 1) := D_28 yB_cX7_fit rfl rfl
theorem dX7_fit_11 : decode cX7_fit 11 = .ok (.ifCond .lt 9, 3) := D_155 yB_cX7_fit rfl rfl (sg_p (m := 32768) (N := 9) rfl rfl rfl)
theorem dX7_fit_14 : decode cX7_fit 14 = .ok (.iload_n 2, 1) := D_28 yB_cX7_fit rfl rfl
theorem dX7_fit_15 : decode cX7_fit 15 = .ok (.bipush 9, 2) := D_16 yB_cX7_fit rfl rfl (sg_p (m := 128) (N := 9) rfl rfl rfl)
theorem dX7_fit_17 : decode cX7_fit 17 = .ok (.if_icmp .le 5, 3) := D_164 yB_cX7_fit rfl rfl (sg_p (m := 32768) (N := 5) rfl rfl rfl)
theorem dX7_fit_20 : decode cX7_fit 20 = .ok (.iconst (-1), 1) := D_2 yB_cX7_fit rfl rfl
theorem dX7_fit_21 : decode cX7_fit 21 = .ok (.ireturn, 1) := D_172 yB_cX7_fit rfl rfl
theorem dX7_fit_22 : decode cX7_fit 22 = .ok (.aload_n 3, 1) := D_45 yB_cX7_fit rfl rfl
theorem dX7_fit_23 : decode cX7_fit 23 = .ok (.getfield 54, 3) := D_180 yB_cX7_fit rfl rfl rfl
theorem dX7_fit_26 : decode cX7_fit 26 = .ok (.ifCond .ne 6, 3) := D_154 yB_cX7_fit rfl rfl (sg_p (m := 32768) (N := 6) rfl rfl rfl)
theorem dX7_fit_29 : decode cX7_fit 29 = .ok (.bipush (-11), 2) := D_16 yB_cX7_fit rfl rfl (sg_n (m := 128) (N := 11) rfl rfl rfl)
theorem dX7_fit_31 : decode cX7_fit 31 = .ok (.ireturn, 1) := D_172 yB_cX7_fit rfl rfl
theorem dX7_fit_32 : decode cX7_fit 32 = .ok (.aload_n 3, 1) := D_45 yB_cX7_fit rfl rfl
theorem dX7_fit_33 : decode cX7_fit 33 = .ok (.invokevirtual 58, 3) := D_182 yB_cX7_fit rfl rfl rfl
theorem dX7_fit_36 : decode cX7_fit 36 = .ok (.ifCond .ne 6, 3) := D_154 yB_cX7_fit rfl rfl (sg_p (m := 32768) (N := 6) rfl rfl rfl)
theorem dX7_fit_39 : decode cX7_fit 39 = .ok (.bipush (-12), 2) := D_16 yB_cX7_fit rfl rfl (sg_n (m := 128) (N := 12) rfl rfl rfl)
theorem dX7_fit_41 : decode cX7_fit 41 = .ok (.ireturn, 1) := D_172 yB_cX7_fit rfl rfl
theorem dX7_fit_42 : decode cX7_fit 42 = .ok (.aload_n 3, 1) := D_45 yB_cX7_fit rfl rfl
theorem dX7_fit_43 : decode cX7_fit 43 = .ok (.getfield 204, 3) := D_180 yB_cX7_fit rfl rfl rfl
theorem dX7_fit_46 : decode cX7_fit 46 = .ok (.ifCond .eq 13, 3) := D_153 yB_cX7_fit rfl rfl (sg_p (m := 32768) (N := 13) rfl rfl rfl)
theorem dX7_fit_49 : decode cX7_fit 49 = .ok (.aload_n 3, 1) := D_45 yB_cX7_fit rfl rfl
theorem dX7_fit_50 : decode cX7_fit 50 = .ok (.iconst 0, 1) := D_3 yB_cX7_fit rfl rfl
theorem dX7_fit_51 : decode cX7_fit 51 = .ok (.bipush 7, 2) := D_16 yB_cX7_fit rfl rfl (sg_p (m := 128) (N := 7) rfl rfl rfl)
theorem dX7_fit_53 : decode cX7_fit 53 = .ok (.invokevirtual 213, 3) := D_182 yB_cX7_fit rfl rfl rfl
theorem dX7_fit_56 : decode cX7_fit 56 = .ok (.ifCond .ne 6, 3) := D_154 yB_cX7_fit rfl rfl (sg_p (m := 32768) (N := 6) rfl rfl rfl)
theorem dX7_fit_59 : decode cX7_fit 59 = .ok (.bipush (-13), 2) := D_16 yB_cX7_fit rfl rfl (sg_n (m := 128) (N := 13) rfl rfl rfl)
theorem dX7_fit_61 : decode cX7_fit 61 = .ok (.ireturn, 1) := D_172 yB_cX7_fit rfl rfl
theorem dX7_fit_62 : decode cX7_fit 62 = .ok (.aload_n 0, 1) := D_42 yB_cX7_fit rfl rfl
theorem dX7_fit_63 : decode cX7_fit 63 = .ok (.invokevirtual 135, 3) := D_182 yB_cX7_fit rfl rfl rfl
theorem dX7_fit_66 : decode cX7_fit 66 = .ok (.ifCond .eq 6, 3) := D_153 yB_cX7_fit rfl rfl (sg_p (m := 32768) (N := 6) rfl rfl rfl)
theorem dX7_fit_69 : decode cX7_fit 69 = .ok (.bipush (-3), 2) := D_16 yB_cX7_fit rfl rfl (sg_n (m := 128) (N := 3) rfl rfl rfl)
theorem dX7_fit_71 : decode cX7_fit 71 = .ok (.ireturn, 1) := D_172 yB_cX7_fit rfl rfl
theorem dX7_fit_72 : decode cX7_fit 72 = .ok (.aload_n 0, 1) := D_42 yB_cX7_fit rfl rfl
theorem dX7_fit_73 : decode cX7_fit 73 = .ok (.getfield 19, 3) := D_180 yB_cX7_fit rfl rfl rfl
theorem dX7_fit_76 : decode cX7_fit 76 = .ok (.aload_n 0, 1) := D_42 yB_cX7_fit rfl rfl
theorem dX7_fit_77 : decode cX7_fit 77 = .ok (.getfield 12, 3) := D_180 yB_cX7_fit rfl rfl rfl
theorem dX7_fit_80 : decode cX7_fit 80 = .ok (.invokevirtual 62, 3) := D_182 yB_cX7_fit rfl rfl rfl
theorem dX7_fit_83 : decode cX7_fit 83 = .ok (.aload_n 0, 1) := D_42 yB_cX7_fit rfl rfl
theorem dX7_fit_84 : decode cX7_fit 84 = .ok (.getfield 31, 3) := D_180 yB_cX7_fit rfl rfl rfl
theorem dX7_fit_87 : decode cX7_fit 87 = .ok (.invokevirtual 233, 3) := D_182 yB_cX7_fit rfl rfl rfl
theorem dX7_fit_90 : decode cX7_fit 90 = .ok (.iconst 0, 1) := D_3 yB_cX7_fit rfl rfl
theorem dX7_fit_91 : decode cX7_fit 91 = .ok (.istore 4, 2) := D_54 yB_cX7_fit rfl rfl rfl
theorem dX7_fit_93 : decode cX7_fit 93 = .ok (.iload 4, 2) := D_21 yB_cX7_fit rfl rfl rfl
theorem dX7_fit_95 : decode cX7_fit 95 = .ok (.aload_n 3, 1) := D_45 yB_cX7_fit rfl rfl
theorem dX7_fit_96 : decode cX7_fit 96 = .ok (.getfield 204, 3) := D_180 yB_cX7_fit rfl rfl rfl
theorem dX7_fit_99 : decode cX7_fit 99 = .ok (.if_icmp .ge 41, 3) := D_162 yB_cX7_fit rfl rfl (sg_p (m := 32768) (N := 41) rfl rfl rfl)
theorem dX7_fit_102 : decode cX7_fit 102 = .ok (.iload 4, 2) := D_21 yB_cX7_fit rfl rfl rfl
theorem dX7_fit_104 : decode cX7_fit 104 = .ok (.bipush 100, 2) := D_16 yB_cX7_fit rfl rfl (sg_p (m := 128) (N := 100) rfl rfl rfl)
theorem dX7_fit_106 : decode cX7_fit 106 = .ok (.if_icmp .ge 34, 3) := D_162 yB_cX7_fit rfl rfl (sg_p (m := 32768) (N := 34) rfl rfl rfl)
theorem dX7_fit_109 : decode cX7_fit 109 = .ok (.aload_n 0, 1) := D_42 yB_cX7_fit rfl rfl
theorem dX7_fit_110 : decode cX7_fit 110 = .ok (.aload_n 3, 1) := D_45 yB_cX7_fit rfl rfl
theorem dX7_fit_111 : decode cX7_fit 111 = .ok (.getfield 207, 3) := D_180 yB_cX7_fit rfl rfl rfl
theorem dX7_fit_114 : decode cX7_fit 114 = .ok (.iload 4, 2) := D_21 yB_cX7_fit rfl rfl rfl
theorem dX7_fit_116 : decode cX7_fit 116 = .ok (.iaload, 1) := D_46 yB_cX7_fit rfl rfl
theorem dX7_fit_117 : decode cX7_fit 117 = .ok (.iload_n 2, 1) := D_28 yB_cX7_fit rfl rfl
theorem dX7_fit_118 : decode cX7_fit 118 = .ok (.invokevirtual 246, 3) := D_182 yB_cX7_fit rfl rfl rfl
theorem dX7_fit_121 : decode cX7_fit 121 = .ok (.aload_n 0, 1) := D_42 yB_cX7_fit rfl rfl
theorem dX7_fit_122 : decode cX7_fit 122 = .ok (.getfield 31, 3) := D_180 yB_cX7_fit rfl rfl rfl
theorem dX7_fit_125 : decode cX7_fit 125 = .ok (.iload 4, 2) := D_21 yB_cX7_fit rfl rfl rfl
theorem dX7_fit_127 : decode cX7_fit 127 = .ok (.aload_n 0, 1) := D_42 yB_cX7_fit rfl rfl
theorem dX7_fit_128 : decode cX7_fit 128 = .ok (.invokevirtual 224, 3) := D_182 yB_cX7_fit rfl rfl rfl
theorem dX7_fit_131 : decode cX7_fit 131 = .ok (.invokevirtual 236, 3) := D_182 yB_cX7_fit rfl rfl rfl
theorem dX7_fit_134 : decode cX7_fit 134 = .ok (.iinc 4 1, 3) := D_132 yB_cX7_fit rfl rfl rfl (sg_p (m := 128) (N := 1) rfl rfl rfl)
theorem dX7_fit_137 : decode cX7_fit 137 = .ok (.goto (-44), 3) := D_167 yB_cX7_fit rfl rfl (sg_n (m := 32768) (N := 44) rfl rfl rfl)
theorem dX7_fit_140 : decode cX7_fit 140 = .ok (.aload_n 0, 1) := D_42 yB_cX7_fit rfl rfl
theorem dX7_fit_141 : decode cX7_fit 141 = .ok (.getfield 31, 3) := D_180 yB_cX7_fit rfl rfl rfl
theorem dX7_fit_144 : decode cX7_fit 144 = .ok (.getfield 240, 3) := D_180 yB_cX7_fit rfl rfl rfl
theorem dX7_fit_147 : decode cX7_fit 147 = .ok (.ireturn, 1) := D_172 yB_cX7_fit rfl rfl
def F_X7_fit_93 (x1 : Int32) (x2 : Int32)  : Nat → Mem → Int32 → Nat → Option (Mem × Int32)
  | 0, _, _, _ => none
  | nn + 1, σ, v4, y3 => if (σ (68 + y3) 4) ≤ v4 then (some (σ, (σ 84 0))) else (if 100 ≤ v4 then (some (σ, (σ 84 0))) else ((ix 100 v4).bind fun k_17 => (F_X7_ruleAllInMind σ (σ (76 + y3) k_17) x2).bind fun σ_18 => bd2 (F_X7_costInMind σ_18 ) fun σ_19 r_20 => (F_X1_offer σ_19 v4 r_20).bind fun σ_21 => F_X7_fit_93 x1 x2 nn σ_21 (v4 + 1) y3))
def F_X7_fit (σ : Mem) (x1 : Int32) (x2 : Int32) : Option (Mem × Int32) := if x1 < 0 ∨ 8 ≤ x1 then (some (σ, (-1))) else ((ix 8 x1).bind fun j_1 => if x2 < 0 then (some (σ, (-1))) else (if x2 ≤ 9 then (if (σ (68 + j_1) 0) = 0 then (some (σ, (-11))) else ((F_X5_holdsBytes σ j_1).bind fun r_5 => if r_5 = 0 then (some (σ, (-12))) else (if (σ (68 + j_1) 4) = 0 then (some (σ, (-13))) else ((F_X5_isWithin σ j_1 0 7).bind fun r_8 => if r_8 = 0 then (some (σ, (-13))) else ((F_X7_cannotRun σ ).bind fun r_10 => if r_10 = 0 then (ck (cb01 σ 0) <| (F_X1_begin (tcpy σ 2 0) ).bind fun σ_13 => F_X7_fit_93 x1 x2 FU σ_13 0 j_1) else (some (σ, (-3)))))))) else (some (σ, (-1)))))
set_option maxHeartbeats 4000000 in
set_option maxRecDepth 100000 in
theorem c_X7_fit (l : Launch) (D : va_G) (cA : Nat → ClassId) (ad : Nat → Nat) (o : Int64) (σ : Mem) (x1 : Int32) (x2 : Int32)  (res : Mem × Int32) (h : F_X7_fit σ x1 x2 = some res) (sz : Nat) : Met l yX7_fit (WY yX7_fit cX7_fit 5 (some .int)) (RM 6) (va_Pc [.ref (ad 66), .int x1, .int x2] (PW D cA ad o σ sz)) (va_Qi (fun r σ9 => r = res.2 ∧ σ9 = res.1) (QW D cA ad o) (FA ad sz)) 0 0 (FA ad sz) := by
  refine ct_of (own := RX7) (k := 6) (Qf := va_Qi (fun r σ9 => r = res.2 ∧ σ9 = res.1) (QW D cA ad o)) rfl (by decide) (Nat.le_of_ble_eq_true rfl) (fun p e s m below meth c ls C0 X hr hlk hP hl => ?_) sz
  have hS : va_S (FA ad s.heap.size) s.heap s.heap [] := va_S.rf
  have hl : lv_has ls 5 [(0, .ref (ad 66)), (1, .int x1), (2, .int x2)] := hl
  obtain ⟨hx, hb, hml, hown, hts⟩ := id C0
  unfold F_X7_fit at h
  refine lv_aload_n hx hb dX7_fit_0 rfl (lv_at hl 0 rfl) ?_
  refine lv_iload_n hx hb dX7_fit_1 rfl (lv_at hl 1 rfl) ?_
  refine r_cq X hS (r_runV (As := [.int x1]) (rest := []) C0 X hP L_X7_50 (fun sz => c_X7_shelfAt l D cA ad o σ x1 sz) (show 66 < 106 ∧ kd 66 = (7, 8) from ⟨by decide, rfl⟩).1 (show 66 < 106 ∧ kd 66 = (7, 8) from ⟨by decide, rfl⟩).2 (by decide) rfl ⟨Nat.le_of_ble_eq_true rfl, Nat.le_of_ble_eq_true rfl⟩ rfl hl.1 rfl (Nat.le_of_ble_eq_true rfl) dX7_fit_2 ⟨Nat.zero_le _, Nat.zero_le _⟩) (fun σ9 H locs hw hP hS => ?_) (fun x9 σ9 H locs hw hP hS => ?_)
  · rw [hw.1] at hP
    replace h := it_t h hw.2
    refine lv_astore_nN (lv' := [(3, .null), (0, .ref (ad 66)), (1, .int x1), (2, .int x2)]) hx hb dX7_fit_5 rfl hl (by decide) rfl (fun ls hl => ?_)
    refine lv_aload_nN hx hb dX7_fit_6 rfl (lv_at hl 0 rfl) ?_
    refine lv_ifnullN (tgt := 20) hx hb dX7_fit_7 (by decide) ?_
    refine lv_iconst (v := (-1)) hx hb dX7_fit_20 (by decide) ?_
    exact r_iret C0 X hP hS hr hlk dX7_fit_21 (rt2 h)
  · rw [hw.1] at hP
    obtain ⟨-, j_1, hj_1, ej_1, rfl⟩ := hw
    replace h := it_f h (by rw [ej_1]; exact nosh hj_1)
    obtain ⟨k9, ek9, h⟩ := bnd h
    replace ek9 := ix_s ek9 (by decide)
    obtain rfl : j_1 = k9 := nI_inj (ej_1.symm.trans ek9.1) (by omega) (by have := ek9.2; omega)
    refine lv_astore_n (lv' := [(3, .ref (ad (68 + j_1))), (0, .ref (ad 66)), (1, .int x1), (2, .int x2)]) hx hb dX7_fit_5 rfl hl (by decide) rfl (fun ls hl => ?_)
    refine lv_aload_n hx hb dX7_fit_6 rfl (lv_at hl 0 rfl) ?_
    refine lv_ifnull hx hb dX7_fit_7 ?_
    refine lv_iload_n hx hb dX7_fit_10 rfl (lv_at hl 3 rfl) ?_
    refine lv_if_lt (tgt := 20) hx hb dX7_fit_11 (by decide) (fun c_2 => ?_) (fun c_2 => ?_)
    · replace h := it_t h c_2
      refine lv_iconst (v := (-1)) hx hb dX7_fit_20 (by decide) ?_
      exact r_iret C0 X hP hS hr hlk dX7_fit_21 (rt2 h)
    · replace h := it_f h c_2
      refine lv_iload_n hx hb dX7_fit_14 rfl (lv_at hl 3 rfl) ?_
      refine lv_bipush (v := 9) hx hb dX7_fit_15 (by decide) ?_
      refine lv_icmp_le (tgt := 22) hx hb dX7_fit_17 (by decide) (fun c_3 => ?_) (fun c_3 => ?_)
      · replace h := it_t h c_3
        refine lv_aload_n hx hb dX7_fit_22 rfl (lv_at hl 0 rfl) ?_
        refine gf_X7_54 C0 X hP (68 + j_1) (kdS j_1 hj_1) dX7_fit_23 ?_
        refine lv_if_ne (tgt := 32) hx hb dX7_fit_26 (by decide) (fun c_4 => ?_) (fun c_4 => ?_)
        · replace h := it_f h c_4
          refine lv_aload_n hx hb dX7_fit_32 rfl (lv_at hl 0 rfl) ?_
          obtain ⟨r_5, er_5, h⟩ := bnd h
          refine r_ci X hS (r_runV (As := []) (rest := []) C0 X hP L_X7_58 (fun sz => c_X5_holdsBytes l D cA ad o σ j_1 hj_1 r_5 er_5 sz) (kdS j_1 hj_1).1 (kdS j_1 hj_1).2 (by decide) rfl ⟨Nat.le_of_ble_eq_true rfl, Nat.le_of_ble_eq_true rfl⟩ rfl hl.1 rfl (Nat.le_of_ble_eq_true rfl) dX7_fit_33 ⟨Nat.zero_le _, Nat.zero_le _⟩) (fun r9 σ9 H locs hw hP hS => ?_)
          rw [hw.2] at hP
          rw [hw.1]
          refine lv_if_ne (tgt := 42) hx hb dX7_fit_36 (by decide) (fun c_6 => ?_) (fun c_6 => ?_)
          · replace h := it_f h c_6
            refine lv_aload_n hx hb dX7_fit_42 rfl (lv_at hl 0 rfl) ?_
            refine gf_X7_204 C0 X hP (68 + j_1) (kdS j_1 hj_1) dX7_fit_43 ?_
            refine lv_if_eq (tgt := 59) hx hb dX7_fit_46 (by decide) (fun c_7 => ?_) (fun c_7 => ?_)
            · replace h := it_t h c_7
              refine lv_bipush (v := (-13)) hx hb dX7_fit_59 (by decide) ?_
              exact r_iret C0 X hP hS hr hlk dX7_fit_61 (rt2 h)
            · replace h := it_f h c_7
              refine lv_aload_n hx hb dX7_fit_49 rfl (lv_at hl 0 rfl) ?_
              refine lv_iconst (v := 0) hx hb dX7_fit_50 (by decide) ?_
              refine lv_bipush (v := 7) hx hb dX7_fit_51 (by decide) ?_
              obtain ⟨r_8, er_8, h⟩ := bnd h
              refine r_ci X hS (r_runV (As := [.int 0, .int 7]) (rest := []) C0 X hP L_X7_213 (fun sz => c_X5_isWithin l D cA ad o σ j_1 0 7 hj_1 r_8 er_8 sz) (kdS j_1 hj_1).1 (kdS j_1 hj_1).2 (by decide) rfl ⟨Nat.le_of_ble_eq_true rfl, Nat.le_of_ble_eq_true rfl⟩ rfl hl.1 rfl (Nat.le_of_ble_eq_true rfl) dX7_fit_53 ⟨Nat.zero_le _, Nat.zero_le _⟩) (fun r9 σ9 H locs hw hP hS => ?_)
              rw [hw.2] at hP
              rw [hw.1]
              refine lv_if_ne (tgt := 62) hx hb dX7_fit_56 (by decide) (fun c_9 => ?_) (fun c_9 => ?_)
              · replace h := it_f h c_9
                refine lv_aload_n hx hb dX7_fit_62 rfl (lv_at hl 1 rfl) ?_
                obtain ⟨r_10, er_10, h⟩ := bnd h
                refine r_ci X hS (r_runV (As := []) (rest := []) C0 X hP L_X7_135 (fun sz => c_X7_cannotRun l D cA ad o σ   r_10 er_10 sz) (show 66 < 106 ∧ kd 66 = (7, 8) from ⟨by decide, rfl⟩).1 (show 66 < 106 ∧ kd 66 = (7, 8) from ⟨by decide, rfl⟩).2 (by decide) rfl ⟨Nat.le_of_ble_eq_true rfl, Nat.le_of_ble_eq_true rfl⟩ rfl hl.1 rfl (Nat.le_of_ble_eq_true rfl) dX7_fit_63 ⟨Nat.zero_le _, Nat.zero_le _⟩) (fun r9 σ9 H locs hw hP hS => ?_)
                rw [hw.2] at hP
                rw [hw.1]
                refine lv_if_eq (tgt := 72) hx hb dX7_fit_66 (by decide) (fun c_11 => ?_) (fun c_11 => ?_)
                · replace h := it_t h c_11
                  refine lv_aload_n hx hb dX7_fit_72 rfl (lv_at hl 1 rfl) ?_
                  refine gf_X7_19 C0 X hP 66 (q := 44) ⟨by decide, rfl⟩ (by omega) rfl dX7_fit_73 ?_
                  refine lv_aload_n hx hb dX7_fit_76 rfl (lv_at hl 1 rfl) ?_
                  refine gf_X7_12 C0 X hP 66 (q := 0) ⟨by decide, rfl⟩ (by omega) rfl dX7_fit_77 ?_
                  obtain ⟨q_12, h⟩ := ckp h
                  refine r_cv X hS (r_runV (As := [.ref (ad 0)]) (rest := []) C0 X hP L_X7_62 (fun sz => c_X6_copyFrom l D cA ad o σ 2 0 (by decide) (by decide) (by decide) (cb01_e q_12) sz) (show 44 < 106 ∧ kd 44 = (6, 11) from ⟨by decide, rfl⟩).1 (show 44 < 106 ∧ kd 44 = (6, 11) from ⟨by decide, rfl⟩).2 (by decide) rfl ⟨Nat.le_of_ble_eq_true rfl, Nat.le_of_ble_eq_true rfl⟩ rfl hl.1 rfl (Nat.le_of_ble_eq_true rfl) dX7_fit_80 ⟨Nat.zero_le _, Nat.zero_le _⟩) (fun σ9 H locs hw hP hS => ?_)
                  rw [show σ9 = (tcpy σ 2 0) from hw] at hP
                  refine lv_aload_n hx hb dX7_fit_83 rfl (lv_at hl 1 rfl) ?_
                  refine gf_X7_31 C0 X hP 66 (q := 84) ⟨by decide, rfl⟩ (by omega) rfl dX7_fit_84 ?_
                  obtain ⟨σ_13, eσ_13, h⟩ := bnd h
                  refine r_cv X hS (r_runV (As := []) (rest := []) C0 X hP L_X7_233 (fun sz => c_X1_begin l D cA ad o (tcpy σ 2 0)   σ_13 eσ_13 sz) (show 84 < 106 ∧ kd 84 = (1, 2) from ⟨by decide, rfl⟩).1 (show 84 < 106 ∧ kd 84 = (1, 2) from ⟨by decide, rfl⟩).2 (by decide) rfl ⟨Nat.le_of_ble_eq_true rfl, Nat.le_of_ble_eq_true rfl⟩ rfl hl.1 rfl (Nat.le_of_ble_eq_true rfl) dX7_fit_87 ⟨Nat.zero_le _, Nat.zero_le _⟩) (fun σ9 H locs hw hP hS => ?_)
                  rw [show σ9 = σ_13 from hw] at hP
                  refine lv_iconst (v := 0) hx hb dX7_fit_90 (by decide) ?_
                  refine lv_istore (lv' := [(4, .int 0), (3, .ref (ad (68 + j_1))), (0, .ref (ad 66)), (1, .int x1), (2, .int x2)]) hx hb dX7_fit_91 hl (by decide) rfl (fun ls hl => ?_)
                  have lp_14 : ∀ (nn93 : Nat) (σ : Mem) (v4 : Int32) (y3 : Nat) (H : Heap) (locs : List Loc) (ls : Array Slot), y3 < 8 → F_X7_fit_93 x1 x2 nn93 σ v4 y3 = some res → WP D cA ad o σ H → va_S (FA ad s.heap.size) s.heap H locs → lv_has ls 5 [(4, .int v4), (3, .ref (ad (68 + y3))), (0, .ref (ad 66)), (1, .int x1), (2, .int x2)] → W p l e (RM 6) s m ([.ref (ad 66), .int x1, .int x2] : List Value).toArray below meth c H locs 0 0 (MQ below (va_Qi (fun r σ9 => r = res.2 ∧ σ9 = res.1) (QW D cA ad o) (FA ad s.heap.size)) ([.ref (ad 66), .int x1, .int x2] : List Value).toArray s 0 0 (FA ad s.heap.size)) (F0 m 93 ls []) := by
                    intro nn93
                    induction nn93 with
                    | zero => intro σ v4 y3 H locs ls hy3 h hP hS hl; exact absurd (show none = some res from h) nofun
                    | succ nn93 ih93 =>
                      intro σ v4 y3 H locs ls hy3 h hP hS hl
                      replace h := (F_X7_fit_93.eq_2 _ _ _ _ _ _).symm.trans h
                      refine lv_iload hx hb dX7_fit_93 (lv_at hl 0 rfl) ?_
                      refine lv_aload_n hx hb dX7_fit_95 rfl (lv_at hl 1 rfl) ?_
                      refine gf_X7_204 C0 X hP (68 + y3) (kdS y3 hy3) dX7_fit_96 ?_
                      refine lv_icmp_ge (tgt := 140) hx hb dX7_fit_99 (by decide) (fun c_15 => ?_) (fun c_15 => ?_)
                      · replace h := it_t h c_15
                        refine lv_aload_n hx hb dX7_fit_140 rfl (lv_at hl 2 rfl) ?_
                        refine gf_X7_31 C0 X hP 66 (q := 84) ⟨by decide, rfl⟩ (by omega) rfl dX7_fit_141 ?_
                        refine gf_X7_240 C0 X hP 84 ⟨by decide, rfl⟩ dX7_fit_144 ?_
                        exact r_iret C0 X hP hS hr hlk dX7_fit_147 (rt2 h)
                      · replace h := it_f h c_15
                        refine lv_iload hx hb dX7_fit_102 (lv_at hl 0 rfl) ?_
                        refine lv_bipush (v := 100) hx hb dX7_fit_104 (by decide) ?_
                        refine lv_icmp_ge (tgt := 140) hx hb dX7_fit_106 (by decide) (fun c_16 => ?_) (fun c_16 => ?_)
                        · replace h := it_t h c_16
                          refine lv_aload_n hx hb dX7_fit_140 rfl (lv_at hl 2 rfl) ?_
                          refine gf_X7_31 C0 X hP 66 (q := 84) ⟨by decide, rfl⟩ (by omega) rfl dX7_fit_141 ?_
                          refine gf_X7_240 C0 X hP 84 ⟨by decide, rfl⟩ dX7_fit_144 ?_
                          exact r_iret C0 X hP hS hr hlk dX7_fit_147 (rt2 h)
                        · replace h := it_f h c_16
                          refine lv_aload_n hx hb dX7_fit_109 rfl (lv_at hl 2 rfl) ?_
                          refine lv_aload_n hx hb dX7_fit_110 rfl (lv_at hl 1 rfl) ?_
                          refine gf_X7_207 C0 X hP (68 + y3) (q := (76 + y3)) (kdS y3 hy3) (by omega) (lkS5 y3 hy3) dX7_fit_111 ?_
                          refine lv_iload hx hb dX7_fit_114 (lv_at hl 0 rfl) ?_
                          obtain ⟨k_17, ek_17, h⟩ := bnd h
                          replace ek_17 := ix_s ek_17 (by decide)
                          refine r_ialdN C0 X hP (76 + y3) (k := k_17) (kdV y3 hy3) ek_17.1 ek_17.2 dX7_fit_116 ?_
                          refine lv_iload_n hx hb dX7_fit_117 rfl (lv_at hl 4 rfl) ?_
                          obtain ⟨σ_18, eσ_18, h⟩ := bnd h
                          refine r_cv X hS (r_runV (As := [.int (σ (76 + y3) k_17), .int x2]) (rest := []) C0 X hP L_X7_246 (fun sz => c_X7_ruleAllInMind l D cA ad o σ (σ (76 + y3) k_17) x2  σ_18 eσ_18 sz) (show 66 < 106 ∧ kd 66 = (7, 8) from ⟨by decide, rfl⟩).1 (show 66 < 106 ∧ kd 66 = (7, 8) from ⟨by decide, rfl⟩).2 (by decide) rfl ⟨Nat.le_of_ble_eq_true rfl, Nat.le_of_ble_eq_true rfl⟩ rfl hl.1 rfl (Nat.le_of_ble_eq_true rfl) dX7_fit_118 ⟨Nat.zero_le _, Nat.zero_le _⟩) (fun σ9 H locs hw hP hS => ?_)
                          rw [show σ9 = σ_18 from hw] at hP
                          refine lv_aload_n hx hb dX7_fit_121 rfl (lv_at hl 2 rfl) ?_
                          refine gf_X7_31 C0 X hP 66 (q := 84) ⟨by decide, rfl⟩ (by omega) rfl dX7_fit_122 ?_
                          refine lv_iload hx hb dX7_fit_125 (lv_at hl 0 rfl) ?_
                          refine lv_aload_n hx hb dX7_fit_127 rfl (lv_at hl 2 rfl) ?_
                          obtain ⟨σ_19, r_20, eσ_19, h⟩ := bnd2 h
                          refine r_ci X hS (r_runV (As := []) (rest := [.int v4, .ref (ad 84)]) C0 X hP L_X7_224 (fun sz => c_X7_costInMind l D cA ad o σ_18   (σ_19, r_20) eσ_19 sz) (show 66 < 106 ∧ kd 66 = (7, 8) from ⟨by decide, rfl⟩).1 (show 66 < 106 ∧ kd 66 = (7, 8) from ⟨by decide, rfl⟩).2 (by decide) rfl ⟨Nat.le_of_ble_eq_true rfl, Nat.le_of_ble_eq_true rfl⟩ rfl hl.1 rfl (Nat.le_of_ble_eq_true rfl) dX7_fit_128 ⟨Nat.zero_le _, Nat.zero_le _⟩) (fun r9 σ9 H locs hw hP hS => ?_)
                          rw [show σ9 = σ_19 from hw.2] at hP
                          rw [show r9 = r_20 from hw.1]
                          obtain ⟨σ_21, eσ_21, h⟩ := bnd h
                          refine r_cv X hS (r_runV (As := [.int v4, .int r_20]) (rest := []) C0 X hP L_X7_236 (fun sz => c_X1_offer l D cA ad o σ_19 v4 r_20  σ_21 eσ_21 sz) (show 84 < 106 ∧ kd 84 = (1, 2) from ⟨by decide, rfl⟩).1 (show 84 < 106 ∧ kd 84 = (1, 2) from ⟨by decide, rfl⟩).2 (by decide) rfl ⟨Nat.le_of_ble_eq_true rfl, Nat.le_of_ble_eq_true rfl⟩ rfl hl.1 rfl (Nat.le_of_ble_eq_true rfl) dX7_fit_131 ⟨Nat.zero_le _, Nat.zero_le _⟩) (fun σ9 H locs hw hP hS => ?_)
                          rw [show σ9 = σ_21 from hw] at hP
                          refine lv_iinc (v := (v4 + 1)) (lv' := [(4, .int (v4 + 1)), (3, .ref (ad (68 + y3))), (0, .ref (ad 66)), (1, .int x1), (2, .int x2)]) hx hb dX7_fit_134 hl (k := 0) rfl rfl (by decide) rfl (fun ls hl => ?_)
                          refine lv_goto (tgt := 93) hx hb dX7_fit_137 (by decide) ?_
                          exact ih93 σ_21 (v4 + 1) y3 _ _ ls hy3 h hP hS (lv_sub hl [0, 1, 2, 3, 4] rfl)
                  exact lp_14 FU σ_13 0 j_1 _ _ ls hj_1 h hP hS (lv_sub hl [0, 1, 2, 3, 4] rfl)
                · replace h := it_f h c_11
                  refine lv_bipush (v := (-3)) hx hb dX7_fit_69 (by decide) ?_
                  exact r_iret C0 X hP hS hr hlk dX7_fit_71 (rt2 h)
              · replace h := it_t h c_9
                refine lv_bipush (v := (-13)) hx hb dX7_fit_59 (by decide) ?_
                exact r_iret C0 X hP hS hr hlk dX7_fit_61 (rt2 h)
          · replace h := it_t h c_6
            refine lv_bipush (v := (-12)) hx hb dX7_fit_39 (by decide) ?_
            exact r_iret C0 X hP hS hr hlk dX7_fit_41 (rt2 h)
        · replace h := it_t h c_4
          refine lv_bipush (v := (-11)) hx hb dX7_fit_29 (by decide) ?_
          exact r_iret C0 X hP hS hr hlk dX7_fit_31 (rt2 h)
      · replace h := it_f h c_3
        refine lv_iconst (v := (-1)) hx hb dX7_fit_20 (by decide) ?_
        exact r_iret C0 X hP hS hr hlk dX7_fit_21 (rt2 h)
def bB_cX7_shortest : Nat := 0xacf000b41f00b42ac3ffa7010184d1ffa7010284ec00b6f900b81c1b601c681b0a101f00b42a15009ab400b61300b42a57e000b62af600b61c1b2a3000a3071c3d033d00a208101b3c03e900b61f00b42a3e00b60c00b42a1300b42aacfd100600998700b62a
theorem yB_cX7_shortest : BYS cX7_shortest 102 bB_cX7_shortest := BYS_of (by decide +kernel)
theorem dX7_shortest_0 : decode cX7_shortest 0 = .ok (.aload_n 0, 1) := D_42 yB_cX7_shortest rfl rfl
theorem dX7_shortest_1 : decode cX7_shortest 1 = .ok (.invokevirtual 135, 3) := D_182 yB_cX7_shortest rfl rfl rfl
theorem dX7_shortest_4 : decode cX7_shortest 4 = .ok (.ifCond .eq 6, 3) := D_153 yB_cX7_shortest rfl rfl (sg_p (m := 32768) (N := 6) rfl rfl rfl)
theorem dX7_shortest_7 : decode cX7_shortest 7 = .ok (.bipush (-3), 2) := D_16 yB_cX7_shortest rfl rfl (sg_n (m := 128) (N := 3) rfl rfl rfl)
theorem dX7_shortest_9 : decode cX7_shortest 9 = .ok (.ireturn, 1) := D_172 yB_cX7_shortest rfl rfl
theorem dX7_shortest_10 : decode cX7_shortest 10 = .ok (.aload_n 0, 1) := D_42 yB_cX7_shortest rfl rfl
theorem dX7_shortest_11 : decode cX7_shortest 11 = .ok (.getfield 19, 3) := D_180 yB_cX7_shortest rfl rfl rfl
theorem dX7_shortest_14 : decode cX7_shortest 14 = .ok (.aload_n 0, 1) := D_42 yB_cX7_shortest rfl rfl
theorem dX7_shortest_15 : decode cX7_shortest 15 = .ok (.getfield 12, 3) := D_180 yB_cX7_shortest rfl rfl rfl
theorem dX7_shortest_18 : decode cX7_shortest 18 = .ok (.invokevirtual 62, 3) := D_182 yB_cX7_shortest rfl rfl rfl
theorem dX7_shortest_21 : decode cX7_shortest 21 = .ok (.aload_n 0, 1) := D_42 yB_cX7_shortest rfl rfl
theorem dX7_shortest_22 : decode cX7_shortest 22 = .ok (.getfield 31, 3) := D_180 yB_cX7_shortest rfl rfl rfl
theorem dX7_shortest_25 : decode cX7_shortest 25 = .ok (.invokevirtual 233, 3) := D_182 yB_cX7_shortest rfl rfl rfl
theorem dX7_shortest_28 : decode cX7_shortest 28 = .ok (.iconst 0, 1) := D_3 yB_cX7_shortest rfl rfl
theorem dX7_shortest_29 : decode cX7_shortest 29 = .ok (.istore_n 1, 1) := D_60 yB_cX7_shortest rfl rfl
theorem dX7_shortest_30 : decode cX7_shortest 30 = .ok (.iload_n 1, 1) := D_27 yB_cX7_shortest rfl rfl
theorem dX7_shortest_31 : decode cX7_shortest 31 = .ok (.bipush 8, 2) := D_16 yB_cX7_shortest rfl rfl (sg_p (m := 128) (N := 8) rfl rfl rfl)
theorem dX7_shortest_33 : decode cX7_shortest 33 = .ok (.if_icmp .ge 61, 3) := D_162 yB_cX7_shortest rfl rfl (sg_p (m := 32768) (N := 61) rfl rfl rfl)
theorem dX7_shortest_36 : decode cX7_shortest 36 = .ok (.iconst 0, 1) := D_3 yB_cX7_shortest rfl rfl
theorem dX7_shortest_37 : decode cX7_shortest 37 = .ok (.istore_n 2, 1) := D_61 yB_cX7_shortest rfl rfl
theorem dX7_shortest_38 : decode cX7_shortest 38 = .ok (.iload_n 2, 1) := D_28 yB_cX7_shortest rfl rfl
theorem dX7_shortest_39 : decode cX7_shortest 39 = .ok (.iconst 4, 1) := D_7 yB_cX7_shortest rfl rfl
theorem dX7_shortest_40 : decode cX7_shortest 40 = .ok (.if_icmp .gt 48, 3) := D_163 yB_cX7_shortest rfl rfl (sg_p (m := 32768) (N := 48) rfl rfl rfl)
theorem dX7_shortest_43 : decode cX7_shortest 43 = .ok (.aload_n 0, 1) := D_42 yB_cX7_shortest rfl rfl
theorem dX7_shortest_44 : decode cX7_shortest 44 = .ok (.iload_n 1, 1) := D_27 yB_cX7_shortest rfl rfl
theorem dX7_shortest_45 : decode cX7_shortest 45 = .ok (.iload_n 2, 1) := D_28 yB_cX7_shortest rfl rfl
theorem dX7_shortest_46 : decode cX7_shortest 46 = .ok (.invokevirtual 246, 3) := D_182 yB_cX7_shortest rfl rfl rfl
theorem dX7_shortest_49 : decode cX7_shortest 49 = .ok (.aload_n 0, 1) := D_42 yB_cX7_shortest rfl rfl
theorem dX7_shortest_50 : decode cX7_shortest 50 = .ok (.invokevirtual 224, 3) := D_182 yB_cX7_shortest rfl rfl rfl
theorem dX7_shortest_53 : decode cX7_shortest 53 = .ok (.pop, 1) := D_87 yB_cX7_shortest rfl rfl
theorem dX7_shortest_54 : decode cX7_shortest 54 = .ok (.aload_n 0, 1) := D_42 yB_cX7_shortest rfl rfl
theorem dX7_shortest_55 : decode cX7_shortest 55 = .ok (.getfield 19, 3) := D_180 yB_cX7_shortest rfl rfl rfl
theorem dX7_shortest_58 : decode cX7_shortest 58 = .ok (.invokevirtual 180, 3) := D_182 yB_cX7_shortest rfl rfl rfl
theorem dX7_shortest_61 : decode cX7_shortest 61 = .ok (.ifCond .ne 21, 3) := D_154 yB_cX7_shortest rfl rfl (sg_p (m := 32768) (N := 21) rfl rfl rfl)
theorem dX7_shortest_64 : decode cX7_shortest 64 = .ok (.aload_n 0, 1) := D_42 yB_cX7_shortest rfl rfl
theorem dX7_shortest_65 : decode cX7_shortest 65 = .ok (.getfield 31, 3) := D_180 yB_cX7_shortest rfl rfl rfl
theorem dX7_shortest_68 : decode cX7_shortest 68 = .ok (.bipush 10, 2) := D_16 yB_cX7_shortest rfl rfl (sg_p (m := 128) (N := 10) rfl rfl rfl)
theorem dX7_shortest_70 : decode cX7_shortest 70 = .ok (.iload_n 1, 1) := D_27 yB_cX7_shortest rfl rfl
theorem dX7_shortest_71 : decode cX7_shortest 71 = .ok (.imul, 1) := D_104 yB_cX7_shortest rfl rfl
theorem dX7_shortest_72 : decode cX7_shortest 72 = .ok (.iload_n 2, 1) := D_28 yB_cX7_shortest rfl rfl
theorem dX7_shortest_73 : decode cX7_shortest 73 = .ok (.iadd, 1) := D_96 yB_cX7_shortest rfl rfl
theorem dX7_shortest_74 : decode cX7_shortest 74 = .ok (.iload_n 1, 1) := D_27 yB_cX7_shortest rfl rfl
theorem dX7_shortest_75 : decode cX7_shortest 75 = .ok (.iload_n 2, 1) := D_28 yB_cX7_shortest rfl rfl
theorem dX7_shortest_76 : decode cX7_shortest 76 = .ok (.invokestatic 249, 3) := D_184 yB_cX7_shortest rfl rfl rfl
theorem dX7_shortest_79 : decode cX7_shortest 79 = .ok (.invokevirtual 236, 3) := D_182 yB_cX7_shortest rfl rfl rfl
theorem dX7_shortest_82 : decode cX7_shortest 82 = .ok (.iinc 2 1, 3) := D_132 yB_cX7_shortest rfl rfl rfl (sg_p (m := 128) (N := 1) rfl rfl rfl)
theorem dX7_shortest_85 : decode cX7_shortest 85 = .ok (.goto (-47), 3) := D_167 yB_cX7_shortest rfl rfl (sg_n (m := 32768) (N := 47) rfl rfl rfl)
theorem dX7_shortest_88 : decode cX7_shortest 88 = .ok (.iinc 1 1, 3) := D_132 yB_cX7_shortest rfl rfl rfl (sg_p (m := 128) (N := 1) rfl rfl rfl)
theorem dX7_shortest_91 : decode cX7_shortest 91 = .ok (.goto (-61), 3) := D_167 yB_cX7_shortest rfl rfl (sg_n (m := 32768) (N := 61) rfl rfl rfl)
theorem dX7_shortest_94 : decode cX7_shortest 94 = .ok (.aload_n 0, 1) := D_42 yB_cX7_shortest rfl rfl
theorem dX7_shortest_95 : decode cX7_shortest 95 = .ok (.getfield 31, 3) := D_180 yB_cX7_shortest rfl rfl rfl
theorem dX7_shortest_98 : decode cX7_shortest 98 = .ok (.getfield 240, 3) := D_180 yB_cX7_shortest rfl rfl rfl
theorem dX7_shortest_101 : decode cX7_shortest 101 = .ok (.ireturn, 1) := D_172 yB_cX7_shortest rfl rfl
def F_X7_shortest_38  (k30 : Mem → Int32 → Option (Mem × Int32)) : Nat → Mem → Int32 → Int32 → Option (Mem × Int32)
  | 0, _, _, _ => none
  | nn + 1, σ, v2, v1 => if 4 < v2 then (k30 σ (v1 + 1)) else ((F_X7_ruleAllInMind σ v1 v2).bind fun σ_9 => bd2 (F_X7_costInMind σ_9 ) fun σ_10 r_11 => (F_X6_stands σ_10 2).bind fun r_12 => if r_12 = 0 then ((F_X7_wordsOf σ_10 v1 v2).bind fun r_14 => (F_X1_offer σ_10 ((10 * v1) + v2) r_14).bind fun σ_15 => F_X7_shortest_38 k30 nn σ_15 (v2 + 1) v1) else (F_X7_shortest_38 k30 nn σ_10 (v2 + 1) v1))
def F_X7_shortest_30   : Nat → Mem → Int32 → Option (Mem × Int32)
  | 0, _, _ => none
  | nn + 1, σ, v1 => if 8 ≤ v1 then (some (σ, (σ 84 0))) else (F_X7_shortest_38 (fun σ v1 => F_X7_shortest_30 nn σ v1) FU σ 0 v1)
def F_X7_shortest (σ : Mem)  : Option (Mem × Int32) := (F_X7_cannotRun σ ).bind fun r_1 => if r_1 = 0 then (ck (cb01 σ 0) <| (F_X1_begin (tcpy σ 2 0) ).bind fun σ_4 => F_X7_shortest_30 FU σ_4 0) else (some (σ, (-3)))
set_option maxHeartbeats 4000000 in
set_option maxRecDepth 100000 in
theorem c_X7_shortest (l : Launch) (D : va_G) (cA : Nat → ClassId) (ad : Nat → Nat) (o : Int64) (σ : Mem)   (res : Mem × Int32) (h : F_X7_shortest σ  = some res) (sz : Nat) : Met l yX7_shortest (WY yX7_shortest cX7_shortest 3 (some .int)) (RM 6) (va_Pc [.ref (ad 66)] (PW D cA ad o σ sz)) (va_Qi (fun r σ9 => r = res.2 ∧ σ9 = res.1) (QW D cA ad o) (FA ad sz)) 0 0 (FA ad sz) := by
  refine ct_of (own := RX7) (k := 6) (Qf := va_Qi (fun r σ9 => r = res.2 ∧ σ9 = res.1) (QW D cA ad o)) rfl (by decide) (Nat.le_of_ble_eq_true rfl) (fun p e s m below meth c ls C0 X hr hlk hP hl => ?_) sz
  have hS : va_S (FA ad s.heap.size) s.heap s.heap [] := va_S.rf
  have hl : lv_has ls 3 [(0, .ref (ad 66))] := hl
  obtain ⟨hx, hb, hml, hown, hts⟩ := id C0
  unfold F_X7_shortest at h
  refine lv_aload_n hx hb dX7_shortest_0 rfl (lv_at hl 0 rfl) ?_
  obtain ⟨r_1, er_1, h⟩ := bnd h
  refine r_ci X hS (r_runV (As := []) (rest := []) C0 X hP L_X7_135 (fun sz => c_X7_cannotRun l D cA ad o σ   r_1 er_1 sz) (show 66 < 106 ∧ kd 66 = (7, 8) from ⟨by decide, rfl⟩).1 (show 66 < 106 ∧ kd 66 = (7, 8) from ⟨by decide, rfl⟩).2 (by decide) rfl ⟨Nat.le_of_ble_eq_true rfl, Nat.le_of_ble_eq_true rfl⟩ rfl hl.1 rfl (Nat.le_of_ble_eq_true rfl) dX7_shortest_1 ⟨Nat.zero_le _, Nat.zero_le _⟩) (fun r9 σ9 H locs hw hP hS => ?_)
  rw [hw.2] at hP
  rw [hw.1]
  refine lv_if_eq (tgt := 10) hx hb dX7_shortest_4 (by decide) (fun c_2 => ?_) (fun c_2 => ?_)
  · replace h := it_t h c_2
    refine lv_aload_n hx hb dX7_shortest_10 rfl (lv_at hl 0 rfl) ?_
    refine gf_X7_19 C0 X hP 66 (q := 44) ⟨by decide, rfl⟩ (by omega) rfl dX7_shortest_11 ?_
    refine lv_aload_n hx hb dX7_shortest_14 rfl (lv_at hl 0 rfl) ?_
    refine gf_X7_12 C0 X hP 66 (q := 0) ⟨by decide, rfl⟩ (by omega) rfl dX7_shortest_15 ?_
    obtain ⟨q_3, h⟩ := ckp h
    refine r_cv X hS (r_runV (As := [.ref (ad 0)]) (rest := []) C0 X hP L_X7_62 (fun sz => c_X6_copyFrom l D cA ad o σ 2 0 (by decide) (by decide) (by decide) (cb01_e q_3) sz) (show 44 < 106 ∧ kd 44 = (6, 11) from ⟨by decide, rfl⟩).1 (show 44 < 106 ∧ kd 44 = (6, 11) from ⟨by decide, rfl⟩).2 (by decide) rfl ⟨Nat.le_of_ble_eq_true rfl, Nat.le_of_ble_eq_true rfl⟩ rfl hl.1 rfl (Nat.le_of_ble_eq_true rfl) dX7_shortest_18 ⟨Nat.zero_le _, Nat.zero_le _⟩) (fun σ9 H locs hw hP hS => ?_)
    rw [show σ9 = (tcpy σ 2 0) from hw] at hP
    refine lv_aload_n hx hb dX7_shortest_21 rfl (lv_at hl 0 rfl) ?_
    refine gf_X7_31 C0 X hP 66 (q := 84) ⟨by decide, rfl⟩ (by omega) rfl dX7_shortest_22 ?_
    obtain ⟨σ_4, eσ_4, h⟩ := bnd h
    refine r_cv X hS (r_runV (As := []) (rest := []) C0 X hP L_X7_233 (fun sz => c_X1_begin l D cA ad o (tcpy σ 2 0)   σ_4 eσ_4 sz) (show 84 < 106 ∧ kd 84 = (1, 2) from ⟨by decide, rfl⟩).1 (show 84 < 106 ∧ kd 84 = (1, 2) from ⟨by decide, rfl⟩).2 (by decide) rfl ⟨Nat.le_of_ble_eq_true rfl, Nat.le_of_ble_eq_true rfl⟩ rfl hl.1 rfl (Nat.le_of_ble_eq_true rfl) dX7_shortest_25 ⟨Nat.zero_le _, Nat.zero_le _⟩) (fun σ9 H locs hw hP hS => ?_)
    rw [show σ9 = σ_4 from hw] at hP
    refine lv_iconst (v := 0) hx hb dX7_shortest_28 (by decide) ?_
    refine lv_istore_n (lv' := [(1, .int 0), (0, .ref (ad 66))]) hx hb dX7_shortest_29 rfl hl (by decide) rfl (fun ls hl => ?_)
    have lp_5 : ∀ (nn30 : Nat) (σ : Mem) (v1 : Int32) (H : Heap) (locs : List Loc) (ls : Array Slot), F_X7_shortest_30 nn30 σ v1 = some res → WP D cA ad o σ H → va_S (FA ad s.heap.size) s.heap H locs → lv_has ls 3 [(1, .int v1), (0, .ref (ad 66))] → W p l e (RM 6) s m ([.ref (ad 66)] : List Value).toArray below meth c H locs 0 0 (MQ below (va_Qi (fun r σ9 => r = res.2 ∧ σ9 = res.1) (QW D cA ad o) (FA ad s.heap.size)) ([.ref (ad 66)] : List Value).toArray s 0 0 (FA ad s.heap.size)) (F0 m 30 ls []) := by
      intro nn30
      induction nn30 with
      | zero => intro σ v1 H locs ls h hP hS hl; exact absurd (show none = some res from h) nofun
      | succ nn30 ih30 =>
        intro σ v1 H locs ls h hP hS hl
        replace h := (F_X7_shortest_30.eq_2 _ _ _).symm.trans h
        refine lv_iload_n hx hb dX7_shortest_30 rfl (lv_at hl 0 rfl) ?_
        refine lv_bipush (v := 8) hx hb dX7_shortest_31 (by decide) ?_
        refine lv_icmp_ge (tgt := 94) hx hb dX7_shortest_33 (by decide) (fun c_6 => ?_) (fun c_6 => ?_)
        · replace h := it_t h c_6
          refine lv_aload_n hx hb dX7_shortest_94 rfl (lv_at hl 1 rfl) ?_
          refine gf_X7_31 C0 X hP 66 (q := 84) ⟨by decide, rfl⟩ (by omega) rfl dX7_shortest_95 ?_
          refine gf_X7_240 C0 X hP 84 ⟨by decide, rfl⟩ dX7_shortest_98 ?_
          exact r_iret C0 X hP hS hr hlk dX7_shortest_101 (rt2 h)
        · replace h := it_f h c_6
          refine lv_iconst (v := 0) hx hb dX7_shortest_36 (by decide) ?_
          refine lv_istore_n (lv' := [(2, .int 0), (1, .int v1), (0, .ref (ad 66))]) hx hb dX7_shortest_37 rfl hl (by decide) rfl (fun ls hl => ?_)
          have lp_7 : ∀ (nn38 : Nat) (σ : Mem) (v2 : Int32) (v1 : Int32) (H : Heap) (locs : List Loc) (ls : Array Slot), F_X7_shortest_38 (fun σ v1 => F_X7_shortest_30 nn30 σ v1) nn38 σ v2 v1 = some res → WP D cA ad o σ H → va_S (FA ad s.heap.size) s.heap H locs → lv_has ls 3 [(2, .int v2), (1, .int v1), (0, .ref (ad 66))] → W p l e (RM 6) s m ([.ref (ad 66)] : List Value).toArray below meth c H locs 0 0 (MQ below (va_Qi (fun r σ9 => r = res.2 ∧ σ9 = res.1) (QW D cA ad o) (FA ad s.heap.size)) ([.ref (ad 66)] : List Value).toArray s 0 0 (FA ad s.heap.size)) (F0 m 38 ls []) := by
            intro nn38
            induction nn38 with
            | zero => intro σ v2 v1 H locs ls h hP hS hl; exact absurd (show none = some res from h) nofun
            | succ nn38 ih38 =>
              intro σ v2 v1 H locs ls h hP hS hl
              replace h := (F_X7_shortest_38.eq_2 _ _ _ _ _).symm.trans h
              refine lv_iload_n hx hb dX7_shortest_38 rfl (lv_at hl 0 rfl) ?_
              refine lv_iconst (v := 4) hx hb dX7_shortest_39 (by decide) ?_
              refine lv_icmp_gt (tgt := 88) hx hb dX7_shortest_40 (by decide) (fun c_8 => ?_) (fun c_8 => ?_)
              · replace h := it_t h c_8
                refine lv_iinc (v := (v1 + 1)) (lv' := [(1, .int (v1 + 1)), (2, .int v2), (0, .ref (ad 66))]) hx hb dX7_shortest_88 hl (k := 1) rfl rfl (by decide) rfl (fun ls hl => ?_)
                refine lv_goto (tgt := 30) hx hb dX7_shortest_91 (by decide) ?_
                exact ih30 σ (v1 + 1) _ _ ls  h hP hS (lv_sub hl [0, 2] rfl)
              · replace h := it_f h c_8
                refine lv_aload_n hx hb dX7_shortest_43 rfl (lv_at hl 2 rfl) ?_
                refine lv_iload_n hx hb dX7_shortest_44 rfl (lv_at hl 1 rfl) ?_
                refine lv_iload_n hx hb dX7_shortest_45 rfl (lv_at hl 0 rfl) ?_
                obtain ⟨σ_9, eσ_9, h⟩ := bnd h
                refine r_cv X hS (r_runV (As := [.int v1, .int v2]) (rest := []) C0 X hP L_X7_246 (fun sz => c_X7_ruleAllInMind l D cA ad o σ v1 v2  σ_9 eσ_9 sz) (show 66 < 106 ∧ kd 66 = (7, 8) from ⟨by decide, rfl⟩).1 (show 66 < 106 ∧ kd 66 = (7, 8) from ⟨by decide, rfl⟩).2 (by decide) rfl ⟨Nat.le_of_ble_eq_true rfl, Nat.le_of_ble_eq_true rfl⟩ rfl hl.1 rfl (Nat.le_of_ble_eq_true rfl) dX7_shortest_46 ⟨Nat.zero_le _, Nat.zero_le _⟩) (fun σ9 H locs hw hP hS => ?_)
                rw [show σ9 = σ_9 from hw] at hP
                refine lv_aload_n hx hb dX7_shortest_49 rfl (lv_at hl 2 rfl) ?_
                obtain ⟨σ_10, r_11, eσ_10, h⟩ := bnd2 h
                refine r_ci X hS (r_runV (As := []) (rest := []) C0 X hP L_X7_224 (fun sz => c_X7_costInMind l D cA ad o σ_9   (σ_10, r_11) eσ_10 sz) (show 66 < 106 ∧ kd 66 = (7, 8) from ⟨by decide, rfl⟩).1 (show 66 < 106 ∧ kd 66 = (7, 8) from ⟨by decide, rfl⟩).2 (by decide) rfl ⟨Nat.le_of_ble_eq_true rfl, Nat.le_of_ble_eq_true rfl⟩ rfl hl.1 rfl (Nat.le_of_ble_eq_true rfl) dX7_shortest_50 ⟨Nat.zero_le _, Nat.zero_le _⟩) (fun r9 σ9 H locs hw hP hS => ?_)
                rw [show σ9 = σ_10 from hw.2] at hP
                rw [show r9 = r_11 from hw.1]
                refine lv_pop hx hb dX7_shortest_53 rfl ?_
                refine lv_aload_n hx hb dX7_shortest_54 rfl (lv_at hl 2 rfl) ?_
                refine gf_X7_19 C0 X hP 66 (q := 44) ⟨by decide, rfl⟩ (by omega) rfl dX7_shortest_55 ?_
                obtain ⟨r_12, er_12, h⟩ := bnd h
                refine r_ci X hS (r_runV (As := []) (rest := []) C0 X hP L_X7_180 (fun sz => c_X6_stands l D cA ad o σ_10 2 (by decide) r_12 er_12 sz) (show 44 < 106 ∧ kd 44 = (6, 11) from ⟨by decide, rfl⟩).1 (show 44 < 106 ∧ kd 44 = (6, 11) from ⟨by decide, rfl⟩).2 (by decide) rfl ⟨Nat.le_of_ble_eq_true rfl, Nat.le_of_ble_eq_true rfl⟩ rfl hl.1 rfl (Nat.le_of_ble_eq_true rfl) dX7_shortest_58 ⟨Nat.zero_le _, Nat.zero_le _⟩) (fun r9 σ9 H locs hw hP hS => ?_)
                rw [hw.2] at hP
                rw [hw.1]
                refine lv_if_ne (tgt := 82) hx hb dX7_shortest_61 (by decide) (fun c_13 => ?_) (fun c_13 => ?_)
                · replace h := it_f h c_13
                  refine lv_iinc (v := (v2 + 1)) (lv' := [(2, .int (v2 + 1)), (1, .int v1), (0, .ref (ad 66))]) hx hb dX7_shortest_82 hl (k := 0) rfl rfl (by decide) rfl (fun ls hl => ?_)
                  refine lv_goto (tgt := 38) hx hb dX7_shortest_85 (by decide) ?_
                  exact ih38 σ_10 (v2 + 1) v1 _ _ ls  h hP hS (lv_sub hl [0, 1, 2] rfl)
                · replace h := it_t h c_13
                  refine lv_aload_n hx hb dX7_shortest_64 rfl (lv_at hl 2 rfl) ?_
                  refine gf_X7_31 C0 X hP 66 (q := 84) ⟨by decide, rfl⟩ (by omega) rfl dX7_shortest_65 ?_
                  refine lv_bipush (v := 10) hx hb dX7_shortest_68 (by decide) ?_
                  refine lv_iload_n hx hb dX7_shortest_70 rfl (lv_at hl 1 rfl) ?_
                  refine lv_imul hx hb dX7_shortest_71 ?_
                  refine lv_iload_n hx hb dX7_shortest_72 rfl (lv_at hl 0 rfl) ?_
                  refine lv_iadd hx hb dX7_shortest_73 ?_
                  refine lv_iload_n hx hb dX7_shortest_74 rfl (lv_at hl 1 rfl) ?_
                  refine lv_iload_n hx hb dX7_shortest_75 rfl (lv_at hl 0 rfl) ?_
                  obtain ⟨r_14, er_14, h⟩ := bnd h
                  refine r_ci X hS (r_runS (As := [.int v1, .int v2]) (rest := [.int ((10 * v1) + v2), .ref (ad 84)]) C0 X hP L_X7_249 (fun sz => c_X7_wordsOf l D cA ad o σ_10 v1 v2  r_14 er_14 sz) ⟨Nat.le_of_ble_eq_true rfl, Nat.le_of_ble_eq_true rfl⟩ rfl hl.1 rfl (Nat.le_of_ble_eq_true rfl) dX7_shortest_76 ⟨Nat.zero_le _, Nat.zero_le _⟩) (fun r9 σ9 H locs hw hP hS => ?_)
                  rw [hw.2] at hP
                  rw [hw.1]
                  obtain ⟨σ_15, eσ_15, h⟩ := bnd h
                  refine r_cv X hS (r_runV (As := [.int ((10 * v1) + v2), .int r_14]) (rest := []) C0 X hP L_X7_236 (fun sz => c_X1_offer l D cA ad o σ_10 ((10 * v1) + v2) r_14  σ_15 eσ_15 sz) (show 84 < 106 ∧ kd 84 = (1, 2) from ⟨by decide, rfl⟩).1 (show 84 < 106 ∧ kd 84 = (1, 2) from ⟨by decide, rfl⟩).2 (by decide) rfl ⟨Nat.le_of_ble_eq_true rfl, Nat.le_of_ble_eq_true rfl⟩ rfl hl.1 rfl (Nat.le_of_ble_eq_true rfl) dX7_shortest_79 ⟨Nat.zero_le _, Nat.zero_le _⟩) (fun σ9 H locs hw hP hS => ?_)
                  rw [show σ9 = σ_15 from hw] at hP
                  refine lv_iinc (v := (v2 + 1)) (lv' := [(2, .int (v2 + 1)), (1, .int v1), (0, .ref (ad 66))]) hx hb dX7_shortest_82 hl (k := 0) rfl rfl (by decide) rfl (fun ls hl => ?_)
                  refine lv_goto (tgt := 38) hx hb dX7_shortest_85 (by decide) ?_
                  exact ih38 σ_15 (v2 + 1) v1 _ _ ls  h hP hS (lv_sub hl [0, 1, 2] rfl)
          exact lp_7 FU σ 0 v1 _ _ ls  h hP hS (lv_sub hl [0, 1, 2] rfl)
    exact lp_5 FU σ_4 0 _ _ ls  h hP hS (lv_sub hl [0, 1] rfl)
  · replace h := it_f h c_2
    refine lv_bipush (v := (-3)) hx hb dX7_shortest_7 (by decide) ?_
    exact r_iret C0 X hP hS hr hlk dX7_shortest_9 (rt2 h)
def bB_cX7_hours : Nat := 0xacf300b41f00b42a0a00a7f000b41f00b42a0d009a1be5ffa7010284ec00b6e000b62a1c1f00b42af600b61c062a1b00a309101c3d03e900b61f00b42a3e00b60c00b42a1300b42aacfd100600998700b62aac0205009f041b0a00991b
theorem yB_cX7_hours : BYS cX7_hours 93 bB_cX7_hours := BYS_of (by decide +kernel)
theorem dX7_hours_0 : decode cX7_hours 0 = .ok (.iload_n 1, 1) := D_27 yB_cX7_hours rfl rfl
theorem dX7_hours_1 : decode cX7_hours 1 = .ok (.ifCond .eq 10, 3) := D_153 yB_cX7_hours rfl rfl (sg_p (m := 32768) (N := 10) rfl rfl rfl)
theorem dX7_hours_4 : decode cX7_hours 4 = .ok (.iload_n 1, 1) := D_27 yB_cX7_hours rfl rfl
theorem dX7_hours_5 : decode cX7_hours 5 = .ok (.iconst 1, 1) := D_4 yB_cX7_hours rfl rfl
theorem dX7_hours_6 : decode cX7_hours 6 = .ok (.if_icmp .eq 5, 3) := D_159 yB_cX7_hours rfl rfl (sg_p (m := 32768) (N := 5) rfl rfl rfl)
theorem dX7_hours_9 : decode cX7_hours 9 = .ok (.iconst (-1), 1) := D_2 yB_cX7_hours rfl rfl
theorem dX7_hours_10 : decode cX7_hours 10 = .ok (.ireturn, 1) := D_172 yB_cX7_hours rfl rfl
theorem dX7_hours_11 : decode cX7_hours 11 = .ok (.aload_n 0, 1) := D_42 yB_cX7_hours rfl rfl
theorem dX7_hours_12 : decode cX7_hours 12 = .ok (.invokevirtual 135, 3) := D_182 yB_cX7_hours rfl rfl rfl
theorem dX7_hours_15 : decode cX7_hours 15 = .ok (.ifCond .eq 6, 3) := D_153 yB_cX7_hours rfl rfl (sg_p (m := 32768) (N := 6) rfl rfl rfl)
theorem dX7_hours_18 : decode cX7_hours 18 = .ok (.bipush (-3), 2) := D_16 yB_cX7_hours rfl rfl (sg_n (m := 128) (N := 3) rfl rfl rfl)
theorem dX7_hours_20 : decode cX7_hours 20 = .ok (.ireturn, 1) := D_172 yB_cX7_hours rfl rfl
theorem dX7_hours_21 : decode cX7_hours 21 = .ok (.aload_n 0, 1) := D_42 yB_cX7_hours rfl rfl
theorem dX7_hours_22 : decode cX7_hours 22 = .ok (.getfield 19, 3) := D_180 yB_cX7_hours rfl rfl rfl
theorem dX7_hours_25 : decode cX7_hours 25 = .ok (.aload_n 0, 1) := D_42 yB_cX7_hours rfl rfl
theorem dX7_hours_26 : decode cX7_hours 26 = .ok (.getfield 12, 3) := D_180 yB_cX7_hours rfl rfl rfl
theorem dX7_hours_29 : decode cX7_hours 29 = .ok (.invokevirtual 62, 3) := D_182 yB_cX7_hours rfl rfl rfl
theorem dX7_hours_32 : decode cX7_hours 32 = .ok (.aload_n 0, 1) := D_42 yB_cX7_hours rfl rfl
theorem dX7_hours_33 : decode cX7_hours 33 = .ok (.getfield 31, 3) := D_180 yB_cX7_hours rfl rfl rfl
theorem dX7_hours_36 : decode cX7_hours 36 = .ok (.invokevirtual 233, 3) := D_182 yB_cX7_hours rfl rfl rfl
theorem dX7_hours_39 : decode cX7_hours 39 = .ok (.iconst 0, 1) := D_3 yB_cX7_hours rfl rfl
theorem dX7_hours_40 : decode cX7_hours 40 = .ok (.istore_n 2, 1) := D_61 yB_cX7_hours rfl rfl
theorem dX7_hours_41 : decode cX7_hours 41 = .ok (.iload_n 2, 1) := D_28 yB_cX7_hours rfl rfl
theorem dX7_hours_42 : decode cX7_hours 42 = .ok (.bipush 9, 2) := D_16 yB_cX7_hours rfl rfl (sg_p (m := 128) (N := 9) rfl rfl rfl)
theorem dX7_hours_44 : decode cX7_hours 44 = .ok (.if_icmp .gt 27, 3) := D_163 yB_cX7_hours rfl rfl (sg_p (m := 32768) (N := 27) rfl rfl rfl)
theorem dX7_hours_47 : decode cX7_hours 47 = .ok (.aload_n 0, 1) := D_42 yB_cX7_hours rfl rfl
theorem dX7_hours_48 : decode cX7_hours 48 = .ok (.iconst 3, 1) := D_6 yB_cX7_hours rfl rfl
theorem dX7_hours_49 : decode cX7_hours 49 = .ok (.iload_n 2, 1) := D_28 yB_cX7_hours rfl rfl
theorem dX7_hours_50 : decode cX7_hours 50 = .ok (.invokevirtual 246, 3) := D_182 yB_cX7_hours rfl rfl rfl
theorem dX7_hours_53 : decode cX7_hours 53 = .ok (.aload_n 0, 1) := D_42 yB_cX7_hours rfl rfl
theorem dX7_hours_54 : decode cX7_hours 54 = .ok (.getfield 31, 3) := D_180 yB_cX7_hours rfl rfl rfl
theorem dX7_hours_57 : decode cX7_hours 57 = .ok (.iload_n 2, 1) := D_28 yB_cX7_hours rfl rfl
theorem dX7_hours_58 : decode cX7_hours 58 = .ok (.aload_n 0, 1) := D_42 yB_cX7_hours rfl rfl
theorem dX7_hours_59 : decode cX7_hours 59 = .ok (.invokevirtual 224, 3) := D_182 yB_cX7_hours rfl rfl rfl
theorem dX7_hours_62 : decode cX7_hours 62 = .ok (.invokevirtual 236, 3) := D_182 yB_cX7_hours rfl rfl rfl
theorem dX7_hours_65 : decode cX7_hours 65 = .ok (.iinc 2 1, 3) := D_132 yB_cX7_hours rfl rfl rfl (sg_p (m := 128) (N := 1) rfl rfl rfl)
theorem dX7_hours_68 : decode cX7_hours 68 = .ok (.goto (-27), 3) := D_167 yB_cX7_hours rfl rfl (sg_n (m := 32768) (N := 27) rfl rfl rfl)
theorem dX7_hours_71 : decode cX7_hours 71 = .ok (.iload_n 1, 1) := D_27 yB_cX7_hours rfl rfl
theorem dX7_hours_72 : decode cX7_hours 72 = .ok (.ifCond .ne 13, 3) := D_154 yB_cX7_hours rfl rfl (sg_p (m := 32768) (N := 13) rfl rfl rfl)
theorem dX7_hours_75 : decode cX7_hours 75 = .ok (.aload_n 0, 1) := D_42 yB_cX7_hours rfl rfl
theorem dX7_hours_76 : decode cX7_hours 76 = .ok (.getfield 31, 3) := D_180 yB_cX7_hours rfl rfl rfl
theorem dX7_hours_79 : decode cX7_hours 79 = .ok (.getfield 240, 3) := D_180 yB_cX7_hours rfl rfl rfl
theorem dX7_hours_82 : decode cX7_hours 82 = .ok (.goto 10, 3) := D_167 yB_cX7_hours rfl rfl (sg_p (m := 32768) (N := 10) rfl rfl rfl)
theorem dX7_hours_85 : decode cX7_hours 85 = .ok (.aload_n 0, 1) := D_42 yB_cX7_hours rfl rfl
theorem dX7_hours_86 : decode cX7_hours 86 = .ok (.getfield 31, 3) := D_180 yB_cX7_hours rfl rfl rfl
theorem dX7_hours_89 : decode cX7_hours 89 = .ok (.getfield 243, 3) := D_180 yB_cX7_hours rfl rfl rfl
theorem dX7_hours_92 : decode cX7_hours 92 = .ok (.ireturn, 1) := D_172 yB_cX7_hours rfl rfl
def F_X7_hours_41 (x1 : Int32)  : Nat → Mem → Int32 → Option (Mem × Int32)
  | 0, _, _ => none
  | nn + 1, σ, v2 => if 9 < v2 then (if x1 = 0 then (some (σ, (σ 84 0))) else (some (σ, (σ 84 1)))) else ((F_X7_ruleAllInMind σ 3 v2).bind fun σ_9 => bd2 (F_X7_costInMind σ_9 ) fun σ_10 r_11 => (F_X1_offer σ_10 v2 r_11).bind fun σ_12 => F_X7_hours_41 x1 nn σ_12 (v2 + 1))
def F_X7_hours_41b (x1 : Int32)  : Nat → Mem → Int32 → Option (Mem × Int32)
  | 0, _, _ => none
  | nn + 1, σ, v2 => if 9 < v2 then (if x1 = 0 then (some (σ, (σ 84 0))) else (some (σ, (σ 84 1)))) else ((F_X7_ruleAllInMind σ 3 v2).bind fun σ_21 => bd2 (F_X7_costInMind σ_21 ) fun σ_22 r_23 => (F_X1_offer σ_22 v2 r_23).bind fun σ_24 => F_X7_hours_41b x1 nn σ_24 (v2 + 1))
def F_X7_hours (σ : Mem) (x1 : Int32) : Option (Mem × Int32) := if x1 = 0 then ((F_X7_cannotRun σ ).bind fun r_2 => if r_2 = 0 then (ck (cb01 σ 0) <| (F_X1_begin (tcpy σ 2 0) ).bind fun σ_5 => F_X7_hours_41 x1 FU σ_5 0) else (some (σ, (-3)))) else (if x1 = 1 then ((F_X7_cannotRun σ ).bind fun r_14 => if r_14 = 0 then (ck (cb01 σ 0) <| (F_X1_begin (tcpy σ 2 0) ).bind fun σ_17 => F_X7_hours_41b x1 FU σ_17 0) else (some (σ, (-3)))) else (some (σ, (-1))))
set_option maxHeartbeats 4000000 in
set_option maxRecDepth 100000 in
theorem c_X7_hours (l : Launch) (D : va_G) (cA : Nat → ClassId) (ad : Nat → Nat) (o : Int64) (σ : Mem) (x1 : Int32)  (res : Mem × Int32) (h : F_X7_hours σ x1 = some res) (sz : Nat) : Met l yX7_hours (WY yX7_hours cX7_hours 3 (some .int)) (RM 6) (va_Pc [.ref (ad 66), .int x1] (PW D cA ad o σ sz)) (va_Qi (fun r σ9 => r = res.2 ∧ σ9 = res.1) (QW D cA ad o) (FA ad sz)) 0 0 (FA ad sz) := by
  refine ct_of (own := RX7) (k := 6) (Qf := va_Qi (fun r σ9 => r = res.2 ∧ σ9 = res.1) (QW D cA ad o)) rfl (by decide) (Nat.le_of_ble_eq_true rfl) (fun p e s m below meth c ls C0 X hr hlk hP hl => ?_) sz
  have hS : va_S (FA ad s.heap.size) s.heap s.heap [] := va_S.rf
  have hl : lv_has ls 3 [(0, .ref (ad 66)), (1, .int x1)] := hl
  obtain ⟨hx, hb, hml, hown, hts⟩ := id C0
  unfold F_X7_hours at h
  refine lv_iload_n hx hb dX7_hours_0 rfl (lv_at hl 1 rfl) ?_
  refine lv_if_eq (tgt := 11) hx hb dX7_hours_1 (by decide) (fun c_1 => ?_) (fun c_1 => ?_)
  · replace h := it_t h c_1
    refine lv_aload_n hx hb dX7_hours_11 rfl (lv_at hl 0 rfl) ?_
    obtain ⟨r_2, er_2, h⟩ := bnd h
    refine r_ci X hS (r_runV (As := []) (rest := []) C0 X hP L_X7_135 (fun sz => c_X7_cannotRun l D cA ad o σ   r_2 er_2 sz) (show 66 < 106 ∧ kd 66 = (7, 8) from ⟨by decide, rfl⟩).1 (show 66 < 106 ∧ kd 66 = (7, 8) from ⟨by decide, rfl⟩).2 (by decide) rfl ⟨Nat.le_of_ble_eq_true rfl, Nat.le_of_ble_eq_true rfl⟩ rfl hl.1 rfl (Nat.le_of_ble_eq_true rfl) dX7_hours_12 ⟨Nat.zero_le _, Nat.zero_le _⟩) (fun r9 σ9 H locs hw hP hS => ?_)
    rw [hw.2] at hP
    rw [hw.1]
    refine lv_if_eq (tgt := 21) hx hb dX7_hours_15 (by decide) (fun c_3 => ?_) (fun c_3 => ?_)
    · replace h := it_t h c_3
      refine lv_aload_n hx hb dX7_hours_21 rfl (lv_at hl 0 rfl) ?_
      refine gf_X7_19 C0 X hP 66 (q := 44) ⟨by decide, rfl⟩ (by omega) rfl dX7_hours_22 ?_
      refine lv_aload_n hx hb dX7_hours_25 rfl (lv_at hl 0 rfl) ?_
      refine gf_X7_12 C0 X hP 66 (q := 0) ⟨by decide, rfl⟩ (by omega) rfl dX7_hours_26 ?_
      obtain ⟨q_4, h⟩ := ckp h
      refine r_cv X hS (r_runV (As := [.ref (ad 0)]) (rest := []) C0 X hP L_X7_62 (fun sz => c_X6_copyFrom l D cA ad o σ 2 0 (by decide) (by decide) (by decide) (cb01_e q_4) sz) (show 44 < 106 ∧ kd 44 = (6, 11) from ⟨by decide, rfl⟩).1 (show 44 < 106 ∧ kd 44 = (6, 11) from ⟨by decide, rfl⟩).2 (by decide) rfl ⟨Nat.le_of_ble_eq_true rfl, Nat.le_of_ble_eq_true rfl⟩ rfl hl.1 rfl (Nat.le_of_ble_eq_true rfl) dX7_hours_29 ⟨Nat.zero_le _, Nat.zero_le _⟩) (fun σ9 H locs hw hP hS => ?_)
      rw [show σ9 = (tcpy σ 2 0) from hw] at hP
      refine lv_aload_n hx hb dX7_hours_32 rfl (lv_at hl 0 rfl) ?_
      refine gf_X7_31 C0 X hP 66 (q := 84) ⟨by decide, rfl⟩ (by omega) rfl dX7_hours_33 ?_
      obtain ⟨σ_5, eσ_5, h⟩ := bnd h
      refine r_cv X hS (r_runV (As := []) (rest := []) C0 X hP L_X7_233 (fun sz => c_X1_begin l D cA ad o (tcpy σ 2 0)   σ_5 eσ_5 sz) (show 84 < 106 ∧ kd 84 = (1, 2) from ⟨by decide, rfl⟩).1 (show 84 < 106 ∧ kd 84 = (1, 2) from ⟨by decide, rfl⟩).2 (by decide) rfl ⟨Nat.le_of_ble_eq_true rfl, Nat.le_of_ble_eq_true rfl⟩ rfl hl.1 rfl (Nat.le_of_ble_eq_true rfl) dX7_hours_36 ⟨Nat.zero_le _, Nat.zero_le _⟩) (fun σ9 H locs hw hP hS => ?_)
      rw [show σ9 = σ_5 from hw] at hP
      refine lv_iconst (v := 0) hx hb dX7_hours_39 (by decide) ?_
      refine lv_istore_n (lv' := [(2, .int 0), (0, .ref (ad 66)), (1, .int x1)]) hx hb dX7_hours_40 rfl hl (by decide) rfl (fun ls hl => ?_)
      have lp_6 : ∀ (nn41 : Nat) (σ : Mem) (v2 : Int32) (H : Heap) (locs : List Loc) (ls : Array Slot), F_X7_hours_41 x1 nn41 σ v2 = some res → WP D cA ad o σ H → va_S (FA ad s.heap.size) s.heap H locs → lv_has ls 3 [(2, .int v2), (0, .ref (ad 66)), (1, .int x1)] → W p l e (RM 6) s m ([.ref (ad 66), .int x1] : List Value).toArray below meth c H locs 0 0 (MQ below (va_Qi (fun r σ9 => r = res.2 ∧ σ9 = res.1) (QW D cA ad o) (FA ad s.heap.size)) ([.ref (ad 66), .int x1] : List Value).toArray s 0 0 (FA ad s.heap.size)) (F0 m 41 ls []) := by
        intro nn41
        induction nn41 with
        | zero => intro σ v2 H locs ls h hP hS hl; exact absurd (show none = some res from h) nofun
        | succ nn41 ih41 =>
          intro σ v2 H locs ls h hP hS hl
          replace h := (F_X7_hours_41.eq_2 _ _ _ _).symm.trans h
          refine lv_iload_n hx hb dX7_hours_41 rfl (lv_at hl 0 rfl) ?_
          refine lv_bipush (v := 9) hx hb dX7_hours_42 (by decide) ?_
          refine lv_icmp_gt (tgt := 71) hx hb dX7_hours_44 (by decide) (fun c_7 => ?_) (fun c_7 => ?_)
          · replace h := it_t h c_7
            refine lv_iload_n hx hb dX7_hours_71 rfl (lv_at hl 2 rfl) ?_
            refine lv_if_ne (tgt := 85) hx hb dX7_hours_72 (by decide) (fun c_8 => ?_) (fun c_8 => ?_)
            · replace h := it_f h c_8
              refine lv_aload_n hx hb dX7_hours_85 rfl (lv_at hl 1 rfl) ?_
              refine gf_X7_31 C0 X hP 66 (q := 84) ⟨by decide, rfl⟩ (by omega) rfl dX7_hours_86 ?_
              refine gf_X7_243 C0 X hP 84 ⟨by decide, rfl⟩ dX7_hours_89 ?_
              exact r_iret C0 X hP hS hr hlk dX7_hours_92 (rt2 h)
            · replace h := it_t h c_8
              refine lv_aload_n hx hb dX7_hours_75 rfl (lv_at hl 1 rfl) ?_
              refine gf_X7_31 C0 X hP 66 (q := 84) ⟨by decide, rfl⟩ (by omega) rfl dX7_hours_76 ?_
              refine gf_X7_240 C0 X hP 84 ⟨by decide, rfl⟩ dX7_hours_79 ?_
              refine lv_goto (tgt := 92) hx hb dX7_hours_82 (by decide) ?_
              exact r_iret C0 X hP hS hr hlk dX7_hours_92 (rt2 h)
          · replace h := it_f h c_7
            refine lv_aload_n hx hb dX7_hours_47 rfl (lv_at hl 1 rfl) ?_
            refine lv_iconst (v := 3) hx hb dX7_hours_48 (by decide) ?_
            refine lv_iload_n hx hb dX7_hours_49 rfl (lv_at hl 0 rfl) ?_
            obtain ⟨σ_9, eσ_9, h⟩ := bnd h
            refine r_cv X hS (r_runV (As := [.int 3, .int v2]) (rest := []) C0 X hP L_X7_246 (fun sz => c_X7_ruleAllInMind l D cA ad o σ 3 v2  σ_9 eσ_9 sz) (show 66 < 106 ∧ kd 66 = (7, 8) from ⟨by decide, rfl⟩).1 (show 66 < 106 ∧ kd 66 = (7, 8) from ⟨by decide, rfl⟩).2 (by decide) rfl ⟨Nat.le_of_ble_eq_true rfl, Nat.le_of_ble_eq_true rfl⟩ rfl hl.1 rfl (Nat.le_of_ble_eq_true rfl) dX7_hours_50 ⟨Nat.zero_le _, Nat.zero_le _⟩) (fun σ9 H locs hw hP hS => ?_)
            rw [show σ9 = σ_9 from hw] at hP
            refine lv_aload_n hx hb dX7_hours_53 rfl (lv_at hl 1 rfl) ?_
            refine gf_X7_31 C0 X hP 66 (q := 84) ⟨by decide, rfl⟩ (by omega) rfl dX7_hours_54 ?_
            refine lv_iload_n hx hb dX7_hours_57 rfl (lv_at hl 0 rfl) ?_
            refine lv_aload_n hx hb dX7_hours_58 rfl (lv_at hl 1 rfl) ?_
            obtain ⟨σ_10, r_11, eσ_10, h⟩ := bnd2 h
            refine r_ci X hS (r_runV (As := []) (rest := [.int v2, .ref (ad 84)]) C0 X hP L_X7_224 (fun sz => c_X7_costInMind l D cA ad o σ_9   (σ_10, r_11) eσ_10 sz) (show 66 < 106 ∧ kd 66 = (7, 8) from ⟨by decide, rfl⟩).1 (show 66 < 106 ∧ kd 66 = (7, 8) from ⟨by decide, rfl⟩).2 (by decide) rfl ⟨Nat.le_of_ble_eq_true rfl, Nat.le_of_ble_eq_true rfl⟩ rfl hl.1 rfl (Nat.le_of_ble_eq_true rfl) dX7_hours_59 ⟨Nat.zero_le _, Nat.zero_le _⟩) (fun r9 σ9 H locs hw hP hS => ?_)
            rw [show σ9 = σ_10 from hw.2] at hP
            rw [show r9 = r_11 from hw.1]
            obtain ⟨σ_12, eσ_12, h⟩ := bnd h
            refine r_cv X hS (r_runV (As := [.int v2, .int r_11]) (rest := []) C0 X hP L_X7_236 (fun sz => c_X1_offer l D cA ad o σ_10 v2 r_11  σ_12 eσ_12 sz) (show 84 < 106 ∧ kd 84 = (1, 2) from ⟨by decide, rfl⟩).1 (show 84 < 106 ∧ kd 84 = (1, 2) from ⟨by decide, rfl⟩).2 (by decide) rfl ⟨Nat.le_of_ble_eq_true rfl, Nat.le_of_ble_eq_true rfl⟩ rfl hl.1 rfl (Nat.le_of_ble_eq_true rfl) dX7_hours_62 ⟨Nat.zero_le _, Nat.zero_le _⟩) (fun σ9 H locs hw hP hS => ?_)
            rw [show σ9 = σ_12 from hw] at hP
            refine lv_iinc (v := (v2 + 1)) (lv' := [(2, .int (v2 + 1)), (0, .ref (ad 66)), (1, .int x1)]) hx hb dX7_hours_65 hl (k := 0) rfl rfl (by decide) rfl (fun ls hl => ?_)
            refine lv_goto (tgt := 41) hx hb dX7_hours_68 (by decide) ?_
            exact ih41 σ_12 (v2 + 1) _ _ ls  h hP hS (lv_sub hl [0, 1, 2] rfl)
      exact lp_6 FU σ_5 0 _ _ ls  h hP hS (lv_sub hl [0, 1, 2] rfl)
    · replace h := it_f h c_3
      refine lv_bipush (v := (-3)) hx hb dX7_hours_18 (by decide) ?_
      exact r_iret C0 X hP hS hr hlk dX7_hours_20 (rt2 h)
  · replace h := it_f h c_1
    refine lv_iload_n hx hb dX7_hours_4 rfl (lv_at hl 1 rfl) ?_
    refine lv_iconst (v := 1) hx hb dX7_hours_5 (by decide) ?_
    refine lv_icmp_eq (tgt := 11) hx hb dX7_hours_6 (by decide) (fun c_13 => ?_) (fun c_13 => ?_)
    · replace h := it_t h c_13
      refine lv_aload_n hx hb dX7_hours_11 rfl (lv_at hl 0 rfl) ?_
      obtain ⟨r_14, er_14, h⟩ := bnd h
      refine r_ci X hS (r_runV (As := []) (rest := []) C0 X hP L_X7_135 (fun sz => c_X7_cannotRun l D cA ad o σ   r_14 er_14 sz) (show 66 < 106 ∧ kd 66 = (7, 8) from ⟨by decide, rfl⟩).1 (show 66 < 106 ∧ kd 66 = (7, 8) from ⟨by decide, rfl⟩).2 (by decide) rfl ⟨Nat.le_of_ble_eq_true rfl, Nat.le_of_ble_eq_true rfl⟩ rfl hl.1 rfl (Nat.le_of_ble_eq_true rfl) dX7_hours_12 ⟨Nat.zero_le _, Nat.zero_le _⟩) (fun r9 σ9 H locs hw hP hS => ?_)
      rw [hw.2] at hP
      rw [hw.1]
      refine lv_if_eq (tgt := 21) hx hb dX7_hours_15 (by decide) (fun c_15 => ?_) (fun c_15 => ?_)
      · replace h := it_t h c_15
        refine lv_aload_n hx hb dX7_hours_21 rfl (lv_at hl 0 rfl) ?_
        refine gf_X7_19 C0 X hP 66 (q := 44) ⟨by decide, rfl⟩ (by omega) rfl dX7_hours_22 ?_
        refine lv_aload_n hx hb dX7_hours_25 rfl (lv_at hl 0 rfl) ?_
        refine gf_X7_12 C0 X hP 66 (q := 0) ⟨by decide, rfl⟩ (by omega) rfl dX7_hours_26 ?_
        obtain ⟨q_16, h⟩ := ckp h
        refine r_cv X hS (r_runV (As := [.ref (ad 0)]) (rest := []) C0 X hP L_X7_62 (fun sz => c_X6_copyFrom l D cA ad o σ 2 0 (by decide) (by decide) (by decide) (cb01_e q_16) sz) (show 44 < 106 ∧ kd 44 = (6, 11) from ⟨by decide, rfl⟩).1 (show 44 < 106 ∧ kd 44 = (6, 11) from ⟨by decide, rfl⟩).2 (by decide) rfl ⟨Nat.le_of_ble_eq_true rfl, Nat.le_of_ble_eq_true rfl⟩ rfl hl.1 rfl (Nat.le_of_ble_eq_true rfl) dX7_hours_29 ⟨Nat.zero_le _, Nat.zero_le _⟩) (fun σ9 H locs hw hP hS => ?_)
        rw [show σ9 = (tcpy σ 2 0) from hw] at hP
        refine lv_aload_n hx hb dX7_hours_32 rfl (lv_at hl 0 rfl) ?_
        refine gf_X7_31 C0 X hP 66 (q := 84) ⟨by decide, rfl⟩ (by omega) rfl dX7_hours_33 ?_
        obtain ⟨σ_17, eσ_17, h⟩ := bnd h
        refine r_cv X hS (r_runV (As := []) (rest := []) C0 X hP L_X7_233 (fun sz => c_X1_begin l D cA ad o (tcpy σ 2 0)   σ_17 eσ_17 sz) (show 84 < 106 ∧ kd 84 = (1, 2) from ⟨by decide, rfl⟩).1 (show 84 < 106 ∧ kd 84 = (1, 2) from ⟨by decide, rfl⟩).2 (by decide) rfl ⟨Nat.le_of_ble_eq_true rfl, Nat.le_of_ble_eq_true rfl⟩ rfl hl.1 rfl (Nat.le_of_ble_eq_true rfl) dX7_hours_36 ⟨Nat.zero_le _, Nat.zero_le _⟩) (fun σ9 H locs hw hP hS => ?_)
        rw [show σ9 = σ_17 from hw] at hP
        refine lv_iconst (v := 0) hx hb dX7_hours_39 (by decide) ?_
        refine lv_istore_n (lv' := [(2, .int 0), (0, .ref (ad 66)), (1, .int x1)]) hx hb dX7_hours_40 rfl hl (by decide) rfl (fun ls hl => ?_)
        have lp_18 : ∀ (nn41 : Nat) (σ : Mem) (v2 : Int32) (H : Heap) (locs : List Loc) (ls : Array Slot), F_X7_hours_41b x1 nn41 σ v2 = some res → WP D cA ad o σ H → va_S (FA ad s.heap.size) s.heap H locs → lv_has ls 3 [(2, .int v2), (0, .ref (ad 66)), (1, .int x1)] → W p l e (RM 6) s m ([.ref (ad 66), .int x1] : List Value).toArray below meth c H locs 0 0 (MQ below (va_Qi (fun r σ9 => r = res.2 ∧ σ9 = res.1) (QW D cA ad o) (FA ad s.heap.size)) ([.ref (ad 66), .int x1] : List Value).toArray s 0 0 (FA ad s.heap.size)) (F0 m 41 ls []) := by
          intro nn41
          induction nn41 with
          | zero => intro σ v2 H locs ls h hP hS hl; exact absurd (show none = some res from h) nofun
          | succ nn41 ih41 =>
            intro σ v2 H locs ls h hP hS hl
            replace h := (F_X7_hours_41b.eq_2 _ _ _ _).symm.trans h
            refine lv_iload_n hx hb dX7_hours_41 rfl (lv_at hl 0 rfl) ?_
            refine lv_bipush (v := 9) hx hb dX7_hours_42 (by decide) ?_
            refine lv_icmp_gt (tgt := 71) hx hb dX7_hours_44 (by decide) (fun c_19 => ?_) (fun c_19 => ?_)
            · replace h := it_t h c_19
              refine lv_iload_n hx hb dX7_hours_71 rfl (lv_at hl 2 rfl) ?_
              refine lv_if_ne (tgt := 85) hx hb dX7_hours_72 (by decide) (fun c_20 => ?_) (fun c_20 => ?_)
              · replace h := it_f h c_20
                refine lv_aload_n hx hb dX7_hours_85 rfl (lv_at hl 1 rfl) ?_
                refine gf_X7_31 C0 X hP 66 (q := 84) ⟨by decide, rfl⟩ (by omega) rfl dX7_hours_86 ?_
                refine gf_X7_243 C0 X hP 84 ⟨by decide, rfl⟩ dX7_hours_89 ?_
                exact r_iret C0 X hP hS hr hlk dX7_hours_92 (rt2 h)
              · replace h := it_t h c_20
                refine lv_aload_n hx hb dX7_hours_75 rfl (lv_at hl 1 rfl) ?_
                refine gf_X7_31 C0 X hP 66 (q := 84) ⟨by decide, rfl⟩ (by omega) rfl dX7_hours_76 ?_
                refine gf_X7_240 C0 X hP 84 ⟨by decide, rfl⟩ dX7_hours_79 ?_
                refine lv_goto (tgt := 92) hx hb dX7_hours_82 (by decide) ?_
                exact r_iret C0 X hP hS hr hlk dX7_hours_92 (rt2 h)
            · replace h := it_f h c_19
              refine lv_aload_n hx hb dX7_hours_47 rfl (lv_at hl 1 rfl) ?_
              refine lv_iconst (v := 3) hx hb dX7_hours_48 (by decide) ?_
              refine lv_iload_n hx hb dX7_hours_49 rfl (lv_at hl 0 rfl) ?_
              obtain ⟨σ_21, eσ_21, h⟩ := bnd h
              refine r_cv X hS (r_runV (As := [.int 3, .int v2]) (rest := []) C0 X hP L_X7_246 (fun sz => c_X7_ruleAllInMind l D cA ad o σ 3 v2  σ_21 eσ_21 sz) (show 66 < 106 ∧ kd 66 = (7, 8) from ⟨by decide, rfl⟩).1 (show 66 < 106 ∧ kd 66 = (7, 8) from ⟨by decide, rfl⟩).2 (by decide) rfl ⟨Nat.le_of_ble_eq_true rfl, Nat.le_of_ble_eq_true rfl⟩ rfl hl.1 rfl (Nat.le_of_ble_eq_true rfl) dX7_hours_50 ⟨Nat.zero_le _, Nat.zero_le _⟩) (fun σ9 H locs hw hP hS => ?_)
              rw [show σ9 = σ_21 from hw] at hP
              refine lv_aload_n hx hb dX7_hours_53 rfl (lv_at hl 1 rfl) ?_
              refine gf_X7_31 C0 X hP 66 (q := 84) ⟨by decide, rfl⟩ (by omega) rfl dX7_hours_54 ?_
              refine lv_iload_n hx hb dX7_hours_57 rfl (lv_at hl 0 rfl) ?_
              refine lv_aload_n hx hb dX7_hours_58 rfl (lv_at hl 1 rfl) ?_
              obtain ⟨σ_22, r_23, eσ_22, h⟩ := bnd2 h
              refine r_ci X hS (r_runV (As := []) (rest := [.int v2, .ref (ad 84)]) C0 X hP L_X7_224 (fun sz => c_X7_costInMind l D cA ad o σ_21   (σ_22, r_23) eσ_22 sz) (show 66 < 106 ∧ kd 66 = (7, 8) from ⟨by decide, rfl⟩).1 (show 66 < 106 ∧ kd 66 = (7, 8) from ⟨by decide, rfl⟩).2 (by decide) rfl ⟨Nat.le_of_ble_eq_true rfl, Nat.le_of_ble_eq_true rfl⟩ rfl hl.1 rfl (Nat.le_of_ble_eq_true rfl) dX7_hours_59 ⟨Nat.zero_le _, Nat.zero_le _⟩) (fun r9 σ9 H locs hw hP hS => ?_)
              rw [show σ9 = σ_22 from hw.2] at hP
              rw [show r9 = r_23 from hw.1]
              obtain ⟨σ_24, eσ_24, h⟩ := bnd h
              refine r_cv X hS (r_runV (As := [.int v2, .int r_23]) (rest := []) C0 X hP L_X7_236 (fun sz => c_X1_offer l D cA ad o σ_22 v2 r_23  σ_24 eσ_24 sz) (show 84 < 106 ∧ kd 84 = (1, 2) from ⟨by decide, rfl⟩).1 (show 84 < 106 ∧ kd 84 = (1, 2) from ⟨by decide, rfl⟩).2 (by decide) rfl ⟨Nat.le_of_ble_eq_true rfl, Nat.le_of_ble_eq_true rfl⟩ rfl hl.1 rfl (Nat.le_of_ble_eq_true rfl) dX7_hours_62 ⟨Nat.zero_le _, Nat.zero_le _⟩) (fun σ9 H locs hw hP hS => ?_)
              rw [show σ9 = σ_24 from hw] at hP
              refine lv_iinc (v := (v2 + 1)) (lv' := [(2, .int (v2 + 1)), (0, .ref (ad 66)), (1, .int x1)]) hx hb dX7_hours_65 hl (k := 0) rfl rfl (by decide) rfl (fun ls hl => ?_)
              refine lv_goto (tgt := 41) hx hb dX7_hours_68 (by decide) ?_
              exact ih41 σ_24 (v2 + 1) _ _ ls  h hP hS (lv_sub hl [0, 1, 2] rfl)
        exact lp_18 FU σ_17 0 _ _ ls  h hP hS (lv_sub hl [0, 1, 2] rfl)
      · replace h := it_f h c_15
        refine lv_bipush (v := (-3)) hx hb dX7_hours_18 (by decide) ?_
        exact r_iret C0 X hP hS hr hlk dX7_hours_20 (rt2 h)
    · replace h := it_f h c_13
      refine lv_iconst (v := (-1)) hx hb dX7_hours_9 (by decide) ?_
      exact r_iret C0 X hP hS hr hlk dX7_hours_10 (rt2 h)
def bB_cX7_stubborn : Nat := 0xac641ce000b62a7300b5032dac99120600c72d4e6300b61b1300b42a3de000b62a3e00b60c00b42a1300b42aacfc1206009a4a00b44600b40c00b42aac99120600c76300b61b0c00b42a
theorem yB_cX7_stubborn : BYS cX7_stubborn 74 bB_cX7_stubborn := BYS_of (by decide +kernel)
theorem dX7_stubborn_0 : decode cX7_stubborn 0 = .ok (.aload_n 0, 1) := D_42 yB_cX7_stubborn rfl rfl
theorem dX7_stubborn_1 : decode cX7_stubborn 1 = .ok (.getfield 12, 3) := D_180 yB_cX7_stubborn rfl rfl rfl
theorem dX7_stubborn_4 : decode cX7_stubborn 4 = .ok (.iload_n 1, 1) := D_27 yB_cX7_stubborn rfl rfl
theorem dX7_stubborn_5 : decode cX7_stubborn 5 = .ok (.invokevirtual 99, 3) := D_182 yB_cX7_stubborn rfl rfl rfl
theorem dX7_stubborn_8 : decode cX7_stubborn 8 = .ok (.ifnonnull 6, 3) := D_199 yB_cX7_stubborn rfl rfl (sg_p (m := 32768) (N := 6) rfl rfl rfl)
theorem dX7_stubborn_11 : decode cX7_stubborn 11 = .ok (.ldc 153, 2) := D_18 yB_cX7_stubborn rfl rfl rfl
theorem dX7_stubborn_13 : decode cX7_stubborn 13 = .ok (.ireturn, 1) := D_172 yB_cX7_stubborn rfl rfl
theorem dX7_stubborn_14 : decode cX7_stubborn 14 = .ok (.aload_n 0, 1) := D_42 yB_cX7_stubborn rfl rfl
theorem dX7_stubborn_15 : decode cX7_stubborn 15 = .ok (.getfield 12, 3) := D_180 yB_cX7_stubborn rfl rfl rfl
theorem dX7_stubborn_18 : decode cX7_stubborn 18 = .ok (.getfield 70, 3) := D_180 yB_cX7_stubborn rfl rfl rfl
theorem dX7_stubborn_21 : decode cX7_stubborn 21 = .ok (.getfield 74, 3) := D_180 yB_cX7_stubborn rfl rfl rfl
theorem dX7_stubborn_24 : decode cX7_stubborn 24 = .ok (.ifCond .ne 6, 3) := D_154 yB_cX7_stubborn rfl rfl (sg_p (m := 32768) (N := 6) rfl rfl rfl)
theorem dX7_stubborn_27 : decode cX7_stubborn 27 = .ok (.ldc 252, 2) := D_18 yB_cX7_stubborn rfl rfl rfl
theorem dX7_stubborn_29 : decode cX7_stubborn 29 = .ok (.ireturn, 1) := D_172 yB_cX7_stubborn rfl rfl
theorem dX7_stubborn_30 : decode cX7_stubborn 30 = .ok (.aload_n 0, 1) := D_42 yB_cX7_stubborn rfl rfl
theorem dX7_stubborn_31 : decode cX7_stubborn 31 = .ok (.getfield 19, 3) := D_180 yB_cX7_stubborn rfl rfl rfl
theorem dX7_stubborn_34 : decode cX7_stubborn 34 = .ok (.aload_n 0, 1) := D_42 yB_cX7_stubborn rfl rfl
theorem dX7_stubborn_35 : decode cX7_stubborn 35 = .ok (.getfield 12, 3) := D_180 yB_cX7_stubborn rfl rfl rfl
theorem dX7_stubborn_38 : decode cX7_stubborn 38 = .ok (.invokevirtual 62, 3) := D_182 yB_cX7_stubborn rfl rfl rfl
theorem dX7_stubborn_41 : decode cX7_stubborn 41 = .ok (.aload_n 0, 1) := D_42 yB_cX7_stubborn rfl rfl
theorem dX7_stubborn_42 : decode cX7_stubborn 42 = .ok (.invokevirtual 224, 3) := D_182 yB_cX7_stubborn rfl rfl rfl
theorem dX7_stubborn_45 : decode cX7_stubborn 45 = .ok (.istore_n 2, 1) := D_61 yB_cX7_stubborn rfl rfl
theorem dX7_stubborn_46 : decode cX7_stubborn 46 = .ok (.aload_n 0, 1) := D_42 yB_cX7_stubborn rfl rfl
theorem dX7_stubborn_47 : decode cX7_stubborn 47 = .ok (.getfield 19, 3) := D_180 yB_cX7_stubborn rfl rfl rfl
theorem dX7_stubborn_50 : decode cX7_stubborn 50 = .ok (.iload_n 1, 1) := D_27 yB_cX7_stubborn rfl rfl
theorem dX7_stubborn_51 : decode cX7_stubborn 51 = .ok (.invokevirtual 99, 3) := D_182 yB_cX7_stubborn rfl rfl rfl
theorem dX7_stubborn_54 : decode cX7_stubborn 54 = .ok (.astore_n 3, 1) := D_78 yB_cX7_stubborn rfl rfl
theorem dX7_stubborn_55 : decode cX7_stubborn 55 = .ok (.aload_n 3, 1) := D_45 yB_cX7_stubborn rfl rfl
theorem dX7_stubborn_56 : decode cX7_stubborn 56 = .ok (.ifnonnull 6, 3) := D_199 yB_cX7_stubborn rfl rfl (sg_p (m := 32768) (N := 6) rfl rfl rfl)
theorem dX7_stubborn_59 : decode cX7_stubborn 59 = .ok (.ldc 153, 2) := D_18 yB_cX7_stubborn rfl rfl rfl
theorem dX7_stubborn_61 : decode cX7_stubborn 61 = .ok (.ireturn, 1) := D_172 yB_cX7_stubborn rfl rfl
theorem dX7_stubborn_62 : decode cX7_stubborn 62 = .ok (.aload_n 3, 1) := D_45 yB_cX7_stubborn rfl rfl
theorem dX7_stubborn_63 : decode cX7_stubborn 63 = .ok (.iconst 0, 1) := D_3 yB_cX7_stubborn rfl rfl
theorem dX7_stubborn_64 : decode cX7_stubborn 64 = .ok (.putfield 115, 3) := D_181 yB_cX7_stubborn rfl rfl rfl
theorem dX7_stubborn_67 : decode cX7_stubborn 67 = .ok (.aload_n 0, 1) := D_42 yB_cX7_stubborn rfl rfl
theorem dX7_stubborn_68 : decode cX7_stubborn 68 = .ok (.invokevirtual 224, 3) := D_182 yB_cX7_stubborn rfl rfl rfl
theorem dX7_stubborn_71 : decode cX7_stubborn 71 = .ok (.iload_n 2, 1) := D_28 yB_cX7_stubborn rfl rfl
theorem dX7_stubborn_72 : decode cX7_stubborn 72 = .ok (.isub, 1) := D_100 yB_cX7_stubborn rfl rfl
theorem dX7_stubborn_73 : decode cX7_stubborn 73 = .ok (.ireturn, 1) := D_172 yB_cX7_stubborn rfl rfl
def F_X7_stubborn (σ : Mem) (x1 : Int32) : Option (Mem × Int32) := if x1 < 0 ∨ σ (22 * 0) 2 ≤ x1 ∨ 7 ≤ x1 then (some (σ, (-1000000001))) else ((ix 7 x1).bind fun j_1 => if (σ 1 0) = 0 then (some (σ, (-1000000003))) else (ck (cb01 σ 0) <| bd2 (F_X7_costInMind (tcpy σ 2 0) ) fun σ_4 r_5 => if x1 < 0 ∨ σ_4 (22 * 2) 2 ≤ x1 ∨ 7 ≤ x1 then (some (σ_4, (-1000000001))) else ((ix 7 x1).bind fun j_6 => bd2 (F_X7_costInMind (stm σ_4 (22 * 2 + 15 + j_6) 3 0) ) fun σ_7 r_8 => some (σ_7, (r_8 - r_5)))))
set_option maxHeartbeats 4000000 in
set_option maxRecDepth 100000 in
theorem c_X7_stubborn (l : Launch) (D : va_G) (cA : Nat → ClassId) (ad : Nat → Nat) (o : Int64) (σ : Mem) (x1 : Int32)  (res : Mem × Int32) (h : F_X7_stubborn σ x1 = some res) (sz : Nat) : Met l yX7_stubborn (WY yX7_stubborn cX7_stubborn 4 (some .int)) (RM 6) (va_Pc [.ref (ad 66), .int x1] (PW D cA ad o σ sz)) (va_Qi (fun r σ9 => r = res.2 ∧ σ9 = res.1) (QW D cA ad o) (FA ad sz)) 0 0 (FA ad sz) := by
  refine ct_of (own := RX7) (k := 6) (Qf := va_Qi (fun r σ9 => r = res.2 ∧ σ9 = res.1) (QW D cA ad o)) rfl (by decide) (Nat.le_of_ble_eq_true rfl) (fun p e s m below meth c ls C0 X hr hlk hP hl => ?_) sz
  have hS : va_S (FA ad s.heap.size) s.heap s.heap [] := va_S.rf
  have hl : lv_has ls 4 [(0, .ref (ad 66)), (1, .int x1)] := hl
  obtain ⟨hx, hb, hml, hown, hts⟩ := id C0
  unfold F_X7_stubborn at h
  refine lv_aload_n hx hb dX7_stubborn_0 rfl (lv_at hl 0 rfl) ?_
  refine gf_X7_12 C0 X hP 66 (q := 0) ⟨by decide, rfl⟩ (by omega) rfl dX7_stubborn_1 ?_
  refine lv_iload_n hx hb dX7_stubborn_4 rfl (lv_at hl 1 rfl) ?_
  refine r_cq X hS (r_runV (As := [.int x1]) (rest := []) C0 X hP L_X7_99 (fun sz => c_X6_cartAt l D cA ad o σ 0 x1 (by decide) sz) (show 0 < 106 ∧ kd 0 = (6, 11) from ⟨by decide, rfl⟩).1 (show 0 < 106 ∧ kd 0 = (6, 11) from ⟨by decide, rfl⟩).2 (by decide) rfl ⟨Nat.le_of_ble_eq_true rfl, Nat.le_of_ble_eq_true rfl⟩ rfl hl.1 rfl (Nat.le_of_ble_eq_true rfl) dX7_stubborn_5 ⟨Nat.zero_le _, Nat.zero_le _⟩) (fun σ9 H locs hw hP hS => ?_) (fun x9 σ9 H locs hw hP hS => ?_)
  · rw [hw.1] at hP
    replace h := it_t h hw.2
    refine lv_ifnonnullN hx hb dX7_stubborn_8 ?_
    refine lv_ldc (own := RX7) (index := 153) (v := (-1000000001)) hx hb hown (hts _ (tmc sb3_9 0 rfl (by decide +kernel))) dX7_stubborn_11 ?_
    exact r_iret C0 X hP hS hr hlk dX7_stubborn_13 (rt2 h)
  · rw [hw.1] at hP
    obtain ⟨-, j_1, hj_1, ej_1, l9, rfl⟩ := hw
    replace h := it_f h (nocart ej_1 hj_1 l9)
    obtain ⟨k9, ek9, h⟩ := bnd h
    replace ek9 := ix_s ek9 (by decide)
    obtain rfl : j_1 = k9 := nI_inj (ej_1.symm.trans ek9.1) (by omega) (by have := ek9.2; omega)
    refine lv_ifnonnull (tgt := 14) hx hb dX7_stubborn_8 (by decide) ?_
    refine lv_aload_n hx hb dX7_stubborn_14 rfl (lv_at hl 0 rfl) ?_
    refine gf_X7_12 C0 X hP 66 (q := 0) ⟨by decide, rfl⟩ (by omega) rfl dX7_stubborn_15 ?_
    refine gf_X7_70 C0 X hP 0 (q := 1) ⟨by decide, rfl⟩ (by omega) rfl dX7_stubborn_18 ?_
    refine gf_X7_74 C0 X hP 1 ⟨by decide, rfl⟩ dX7_stubborn_21 ?_
    refine lv_if_ne (tgt := 30) hx hb dX7_stubborn_24 (by decide) (fun c_2 => ?_) (fun c_2 => ?_)
    · replace h := it_f h c_2
      refine lv_aload_n hx hb dX7_stubborn_30 rfl (lv_at hl 0 rfl) ?_
      refine gf_X7_19 C0 X hP 66 (q := 44) ⟨by decide, rfl⟩ (by omega) rfl dX7_stubborn_31 ?_
      refine lv_aload_n hx hb dX7_stubborn_34 rfl (lv_at hl 0 rfl) ?_
      refine gf_X7_12 C0 X hP 66 (q := 0) ⟨by decide, rfl⟩ (by omega) rfl dX7_stubborn_35 ?_
      obtain ⟨q_3, h⟩ := ckp h
      refine r_cv X hS (r_runV (As := [.ref (ad 0)]) (rest := []) C0 X hP L_X7_62 (fun sz => c_X6_copyFrom l D cA ad o σ 2 0 (by decide) (by decide) (by decide) (cb01_e q_3) sz) (show 44 < 106 ∧ kd 44 = (6, 11) from ⟨by decide, rfl⟩).1 (show 44 < 106 ∧ kd 44 = (6, 11) from ⟨by decide, rfl⟩).2 (by decide) rfl ⟨Nat.le_of_ble_eq_true rfl, Nat.le_of_ble_eq_true rfl⟩ rfl hl.1 rfl (Nat.le_of_ble_eq_true rfl) dX7_stubborn_38 ⟨Nat.zero_le _, Nat.zero_le _⟩) (fun σ9 H locs hw hP hS => ?_)
      rw [show σ9 = (tcpy σ 2 0) from hw] at hP
      refine lv_aload_n hx hb dX7_stubborn_41 rfl (lv_at hl 0 rfl) ?_
      obtain ⟨σ_4, r_5, eσ_4, h⟩ := bnd2 h
      refine r_ci X hS (r_runV (As := []) (rest := []) C0 X hP L_X7_224 (fun sz => c_X7_costInMind l D cA ad o (tcpy σ 2 0)   (σ_4, r_5) eσ_4 sz) (show 66 < 106 ∧ kd 66 = (7, 8) from ⟨by decide, rfl⟩).1 (show 66 < 106 ∧ kd 66 = (7, 8) from ⟨by decide, rfl⟩).2 (by decide) rfl ⟨Nat.le_of_ble_eq_true rfl, Nat.le_of_ble_eq_true rfl⟩ rfl hl.1 rfl (Nat.le_of_ble_eq_true rfl) dX7_stubborn_42 ⟨Nat.zero_le _, Nat.zero_le _⟩) (fun r9 σ9 H locs hw hP hS => ?_)
      rw [show σ9 = σ_4 from hw.2] at hP
      rw [show r9 = r_5 from hw.1]
      refine lv_istore_n (lv' := [(2, .int r_5), (0, .ref (ad 66)), (1, .int x1)]) hx hb dX7_stubborn_45 rfl hl (by decide) rfl (fun ls hl => ?_)
      refine lv_aload_n hx hb dX7_stubborn_46 rfl (lv_at hl 1 rfl) ?_
      refine gf_X7_19 C0 X hP 66 (q := 44) ⟨by decide, rfl⟩ (by omega) rfl dX7_stubborn_47 ?_
      refine lv_iload_n hx hb dX7_stubborn_50 rfl (lv_at hl 2 rfl) ?_
      refine r_cq X hS (r_runV (As := [.int x1]) (rest := []) C0 X hP L_X7_99 (fun sz => c_X6_cartAt l D cA ad o σ_4 2 x1 (by decide) sz) (show 44 < 106 ∧ kd 44 = (6, 11) from ⟨by decide, rfl⟩).1 (show 44 < 106 ∧ kd 44 = (6, 11) from ⟨by decide, rfl⟩).2 (by decide) rfl ⟨Nat.le_of_ble_eq_true rfl, Nat.le_of_ble_eq_true rfl⟩ rfl hl.1 rfl (Nat.le_of_ble_eq_true rfl) dX7_stubborn_51 ⟨Nat.zero_le _, Nat.zero_le _⟩) (fun σ9 H locs hw hP hS => ?_) (fun x9 σ9 H locs hw hP hS => ?_)
      · rw [hw.1] at hP
        replace h := it_t h hw.2
        refine lv_astore_nN (lv' := [(3, .null), (2, .int r_5), (0, .ref (ad 66)), (1, .int x1)]) hx hb dX7_stubborn_54 rfl hl (by decide) rfl (fun ls hl => ?_)
        refine lv_aload_nN hx hb dX7_stubborn_55 rfl (lv_at hl 0 rfl) ?_
        refine lv_ifnonnullN hx hb dX7_stubborn_56 ?_
        refine lv_ldc (own := RX7) (index := 153) (v := (-1000000001)) hx hb hown (hts _ (tmc sb3_9 0 rfl (by decide +kernel))) dX7_stubborn_59 ?_
        exact r_iret C0 X hP hS hr hlk dX7_stubborn_61 (rt2 h)
      · rw [hw.1] at hP
        obtain ⟨-, j_6, hj_6, ej_6, l9, rfl⟩ := hw
        replace h := it_f h (nocart ej_6 hj_6 l9)
        obtain ⟨k9, ek9, h⟩ := bnd h
        replace ek9 := ix_s ek9 (by decide)
        obtain rfl : j_6 = k9 := nI_inj (ej_6.symm.trans ek9.1) (by omega) (by have := ek9.2; omega)
        refine lv_astore_n (lv' := [(3, .ref (ad (22 * 2 + 15 + j_6))), (2, .int r_5), (0, .ref (ad 66)), (1, .int x1)]) hx hb dX7_stubborn_54 rfl hl (by decide) rfl (fun ls hl => ?_)
        refine lv_aload_n hx hb dX7_stubborn_55 rfl (lv_at hl 0 rfl) ?_
        refine lv_ifnonnull (tgt := 62) hx hb dX7_stubborn_56 (by decide) ?_
        refine lv_aload_n hx hb dX7_stubborn_62 rfl (lv_at hl 0 rfl) ?_
        refine lv_iconst (v := 0) hx hb dX7_stubborn_63 (by decide) ?_
        refine pf_X7_115 C0 X hP hS (22 * 2 + 15 + j_6) (kdC 2 (by decide) j_6 hj_6) dX7_stubborn_64 (fun H locs hP hS => ?_)
        refine lv_aload_n hx hb dX7_stubborn_67 rfl (lv_at hl 2 rfl) ?_
        obtain ⟨σ_7, r_8, eσ_7, h⟩ := bnd2 h
        refine r_ci X hS (r_runV (As := []) (rest := []) C0 X hP L_X7_224 (fun sz => c_X7_costInMind l D cA ad o (stm σ_4 (22 * 2 + 15 + j_6) 3 0)   (σ_7, r_8) eσ_7 sz) (show 66 < 106 ∧ kd 66 = (7, 8) from ⟨by decide, rfl⟩).1 (show 66 < 106 ∧ kd 66 = (7, 8) from ⟨by decide, rfl⟩).2 (by decide) rfl ⟨Nat.le_of_ble_eq_true rfl, Nat.le_of_ble_eq_true rfl⟩ rfl hl.1 rfl (Nat.le_of_ble_eq_true rfl) dX7_stubborn_68 ⟨Nat.zero_le _, Nat.zero_le _⟩) (fun r9 σ9 H locs hw hP hS => ?_)
        rw [show σ9 = σ_7 from hw.2] at hP
        rw [show r9 = r_8 from hw.1]
        refine lv_iload_n hx hb dX7_stubborn_71 rfl (lv_at hl 1 rfl) ?_
        refine lv_isub hx hb dX7_stubborn_72 ?_
        exact r_iret C0 X hP hS hr hlk dX7_stubborn_73 (rt2 h)
    · replace h := it_t h c_2
      refine lv_ldc (own := RX7) (index := 252) (v := (-1000000003)) hx hb hown (hts _ (tmc sb4_0 3 rfl (by decide +kernel))) dX7_stubborn_27 ?_
      exact r_iret C0 X hP hS hr hlk dX7_stubborn_29 (rt2 h)
def bB_cX7_heard : Nat := 0xac64e000b62a1cf600b61b072a3de000b62af600b603072a3e00b60c00b42a1300b42aacfc120600998700b62aac99120600a409101b09009b1b
theorem yB_cX7_heard : BYS cX7_heard 58 bB_cX7_heard := BYS_of (by decide +kernel)
theorem dX7_heard_0 : decode cX7_heard 0 = .ok (.iload_n 1, 1) := D_27 yB_cX7_heard rfl rfl
theorem dX7_heard_1 : decode cX7_heard 1 = .ok (.ifCond .lt 9, 3) := D_155 yB_cX7_heard rfl rfl (sg_p (m := 32768) (N := 9) rfl rfl rfl)
theorem dX7_heard_4 : decode cX7_heard 4 = .ok (.iload_n 1, 1) := D_27 yB_cX7_heard rfl rfl
theorem dX7_heard_5 : decode cX7_heard 5 = .ok (.bipush 9, 2) := D_16 yB_cX7_heard rfl rfl (sg_p (m := 128) (N := 9) rfl rfl rfl)
theorem dX7_heard_7 : decode cX7_heard 7 = .ok (.if_icmp .le 6, 3) := D_164 yB_cX7_heard rfl rfl (sg_p (m := 32768) (N := 6) rfl rfl rfl)
theorem dX7_heard_10 : decode cX7_heard 10 = .ok (.ldc 153, 2) := D_18 yB_cX7_heard rfl rfl rfl
theorem dX7_heard_12 : decode cX7_heard 12 = .ok (.ireturn, 1) := D_172 yB_cX7_heard rfl rfl
theorem dX7_heard_13 : decode cX7_heard 13 = .ok (.aload_n 0, 1) := D_42 yB_cX7_heard rfl rfl
theorem dX7_heard_14 : decode cX7_heard 14 = .ok (.invokevirtual 135, 3) := D_182 yB_cX7_heard rfl rfl rfl
theorem dX7_heard_17 : decode cX7_heard 17 = .ok (.ifCond .eq 6, 3) := D_153 yB_cX7_heard rfl rfl (sg_p (m := 32768) (N := 6) rfl rfl rfl)
theorem dX7_heard_20 : decode cX7_heard 20 = .ok (.ldc 252, 2) := D_18 yB_cX7_heard rfl rfl rfl
theorem dX7_heard_22 : decode cX7_heard 22 = .ok (.ireturn, 1) := D_172 yB_cX7_heard rfl rfl
theorem dX7_heard_23 : decode cX7_heard 23 = .ok (.aload_n 0, 1) := D_42 yB_cX7_heard rfl rfl
theorem dX7_heard_24 : decode cX7_heard 24 = .ok (.getfield 19, 3) := D_180 yB_cX7_heard rfl rfl rfl
theorem dX7_heard_27 : decode cX7_heard 27 = .ok (.aload_n 0, 1) := D_42 yB_cX7_heard rfl rfl
theorem dX7_heard_28 : decode cX7_heard 28 = .ok (.getfield 12, 3) := D_180 yB_cX7_heard rfl rfl rfl
theorem dX7_heard_31 : decode cX7_heard 31 = .ok (.invokevirtual 62, 3) := D_182 yB_cX7_heard rfl rfl rfl
theorem dX7_heard_34 : decode cX7_heard 34 = .ok (.aload_n 0, 1) := D_42 yB_cX7_heard rfl rfl
theorem dX7_heard_35 : decode cX7_heard 35 = .ok (.iconst 4, 1) := D_7 yB_cX7_heard rfl rfl
theorem dX7_heard_36 : decode cX7_heard 36 = .ok (.iconst 0, 1) := D_3 yB_cX7_heard rfl rfl
theorem dX7_heard_37 : decode cX7_heard 37 = .ok (.invokevirtual 246, 3) := D_182 yB_cX7_heard rfl rfl rfl
theorem dX7_heard_40 : decode cX7_heard 40 = .ok (.aload_n 0, 1) := D_42 yB_cX7_heard rfl rfl
theorem dX7_heard_41 : decode cX7_heard 41 = .ok (.invokevirtual 224, 3) := D_182 yB_cX7_heard rfl rfl rfl
theorem dX7_heard_44 : decode cX7_heard 44 = .ok (.istore_n 2, 1) := D_61 yB_cX7_heard rfl rfl
theorem dX7_heard_45 : decode cX7_heard 45 = .ok (.aload_n 0, 1) := D_42 yB_cX7_heard rfl rfl
theorem dX7_heard_46 : decode cX7_heard 46 = .ok (.iconst 4, 1) := D_7 yB_cX7_heard rfl rfl
theorem dX7_heard_47 : decode cX7_heard 47 = .ok (.iload_n 1, 1) := D_27 yB_cX7_heard rfl rfl
theorem dX7_heard_48 : decode cX7_heard 48 = .ok (.invokevirtual 246, 3) := D_182 yB_cX7_heard rfl rfl rfl
theorem dX7_heard_51 : decode cX7_heard 51 = .ok (.iload_n 2, 1) := D_28 yB_cX7_heard rfl rfl
theorem dX7_heard_52 : decode cX7_heard 52 = .ok (.aload_n 0, 1) := D_42 yB_cX7_heard rfl rfl
theorem dX7_heard_53 : decode cX7_heard 53 = .ok (.invokevirtual 224, 3) := D_182 yB_cX7_heard rfl rfl rfl
theorem dX7_heard_56 : decode cX7_heard 56 = .ok (.isub, 1) := D_100 yB_cX7_heard rfl rfl
theorem dX7_heard_57 : decode cX7_heard 57 = .ok (.ireturn, 1) := D_172 yB_cX7_heard rfl rfl
def F_X7_heard (σ : Mem) (x1 : Int32) : Option (Mem × Int32) := if x1 < 0 then (some (σ, (-1000000001))) else (if x1 ≤ 9 then ((F_X7_cannotRun σ ).bind fun r_3 => if r_3 = 0 then (ck (cb01 σ 0) <| (F_X7_ruleAllInMind (tcpy σ 2 0) 4 0).bind fun σ_6 => bd2 (F_X7_costInMind σ_6 ) fun σ_7 r_8 => (F_X7_ruleAllInMind σ_7 4 x1).bind fun σ_9 => bd2 (F_X7_costInMind σ_9 ) fun σ_10 r_11 => some (σ_10, (r_8 - r_11))) else (some (σ, (-1000000003)))) else (some (σ, (-1000000001))))
set_option maxHeartbeats 4000000 in
set_option maxRecDepth 100000 in
theorem c_X7_heard (l : Launch) (D : va_G) (cA : Nat → ClassId) (ad : Nat → Nat) (o : Int64) (σ : Mem) (x1 : Int32)  (res : Mem × Int32) (h : F_X7_heard σ x1 = some res) (sz : Nat) : Met l yX7_heard (WY yX7_heard cX7_heard 3 (some .int)) (RM 6) (va_Pc [.ref (ad 66), .int x1] (PW D cA ad o σ sz)) (va_Qi (fun r σ9 => r = res.2 ∧ σ9 = res.1) (QW D cA ad o) (FA ad sz)) 0 0 (FA ad sz) := by
  refine ct_of (own := RX7) (k := 6) (Qf := va_Qi (fun r σ9 => r = res.2 ∧ σ9 = res.1) (QW D cA ad o)) rfl (by decide) (Nat.le_of_ble_eq_true rfl) (fun p e s m below meth c ls C0 X hr hlk hP hl => ?_) sz
  have hS : va_S (FA ad s.heap.size) s.heap s.heap [] := va_S.rf
  have hl : lv_has ls 3 [(0, .ref (ad 66)), (1, .int x1)] := hl
  obtain ⟨hx, hb, hml, hown, hts⟩ := id C0
  unfold F_X7_heard at h
  refine lv_iload_n hx hb dX7_heard_0 rfl (lv_at hl 1 rfl) ?_
  refine lv_if_lt (tgt := 10) hx hb dX7_heard_1 (by decide) (fun c_1 => ?_) (fun c_1 => ?_)
  · replace h := it_t h c_1
    refine lv_ldc (own := RX7) (index := 153) (v := (-1000000001)) hx hb hown (hts _ (tmc sb3_9 0 rfl (by decide +kernel))) dX7_heard_10 ?_
    exact r_iret C0 X hP hS hr hlk dX7_heard_12 (rt2 h)
  · replace h := it_f h c_1
    refine lv_iload_n hx hb dX7_heard_4 rfl (lv_at hl 1 rfl) ?_
    refine lv_bipush (v := 9) hx hb dX7_heard_5 (by decide) ?_
    refine lv_icmp_le (tgt := 13) hx hb dX7_heard_7 (by decide) (fun c_2 => ?_) (fun c_2 => ?_)
    · replace h := it_t h c_2
      refine lv_aload_n hx hb dX7_heard_13 rfl (lv_at hl 0 rfl) ?_
      obtain ⟨r_3, er_3, h⟩ := bnd h
      refine r_ci X hS (r_runV (As := []) (rest := []) C0 X hP L_X7_135 (fun sz => c_X7_cannotRun l D cA ad o σ   r_3 er_3 sz) (show 66 < 106 ∧ kd 66 = (7, 8) from ⟨by decide, rfl⟩).1 (show 66 < 106 ∧ kd 66 = (7, 8) from ⟨by decide, rfl⟩).2 (by decide) rfl ⟨Nat.le_of_ble_eq_true rfl, Nat.le_of_ble_eq_true rfl⟩ rfl hl.1 rfl (Nat.le_of_ble_eq_true rfl) dX7_heard_14 ⟨Nat.zero_le _, Nat.zero_le _⟩) (fun r9 σ9 H locs hw hP hS => ?_)
      rw [hw.2] at hP
      rw [hw.1]
      refine lv_if_eq (tgt := 23) hx hb dX7_heard_17 (by decide) (fun c_4 => ?_) (fun c_4 => ?_)
      · replace h := it_t h c_4
        refine lv_aload_n hx hb dX7_heard_23 rfl (lv_at hl 0 rfl) ?_
        refine gf_X7_19 C0 X hP 66 (q := 44) ⟨by decide, rfl⟩ (by omega) rfl dX7_heard_24 ?_
        refine lv_aload_n hx hb dX7_heard_27 rfl (lv_at hl 0 rfl) ?_
        refine gf_X7_12 C0 X hP 66 (q := 0) ⟨by decide, rfl⟩ (by omega) rfl dX7_heard_28 ?_
        obtain ⟨q_5, h⟩ := ckp h
        refine r_cv X hS (r_runV (As := [.ref (ad 0)]) (rest := []) C0 X hP L_X7_62 (fun sz => c_X6_copyFrom l D cA ad o σ 2 0 (by decide) (by decide) (by decide) (cb01_e q_5) sz) (show 44 < 106 ∧ kd 44 = (6, 11) from ⟨by decide, rfl⟩).1 (show 44 < 106 ∧ kd 44 = (6, 11) from ⟨by decide, rfl⟩).2 (by decide) rfl ⟨Nat.le_of_ble_eq_true rfl, Nat.le_of_ble_eq_true rfl⟩ rfl hl.1 rfl (Nat.le_of_ble_eq_true rfl) dX7_heard_31 ⟨Nat.zero_le _, Nat.zero_le _⟩) (fun σ9 H locs hw hP hS => ?_)
        rw [show σ9 = (tcpy σ 2 0) from hw] at hP
        refine lv_aload_n hx hb dX7_heard_34 rfl (lv_at hl 0 rfl) ?_
        refine lv_iconst (v := 4) hx hb dX7_heard_35 (by decide) ?_
        refine lv_iconst (v := 0) hx hb dX7_heard_36 (by decide) ?_
        obtain ⟨σ_6, eσ_6, h⟩ := bnd h
        refine r_cv X hS (r_runV (As := [.int 4, .int 0]) (rest := []) C0 X hP L_X7_246 (fun sz => c_X7_ruleAllInMind l D cA ad o (tcpy σ 2 0) 4 0  σ_6 eσ_6 sz) (show 66 < 106 ∧ kd 66 = (7, 8) from ⟨by decide, rfl⟩).1 (show 66 < 106 ∧ kd 66 = (7, 8) from ⟨by decide, rfl⟩).2 (by decide) rfl ⟨Nat.le_of_ble_eq_true rfl, Nat.le_of_ble_eq_true rfl⟩ rfl hl.1 rfl (Nat.le_of_ble_eq_true rfl) dX7_heard_37 ⟨Nat.zero_le _, Nat.zero_le _⟩) (fun σ9 H locs hw hP hS => ?_)
        rw [show σ9 = σ_6 from hw] at hP
        refine lv_aload_n hx hb dX7_heard_40 rfl (lv_at hl 0 rfl) ?_
        obtain ⟨σ_7, r_8, eσ_7, h⟩ := bnd2 h
        refine r_ci X hS (r_runV (As := []) (rest := []) C0 X hP L_X7_224 (fun sz => c_X7_costInMind l D cA ad o σ_6   (σ_7, r_8) eσ_7 sz) (show 66 < 106 ∧ kd 66 = (7, 8) from ⟨by decide, rfl⟩).1 (show 66 < 106 ∧ kd 66 = (7, 8) from ⟨by decide, rfl⟩).2 (by decide) rfl ⟨Nat.le_of_ble_eq_true rfl, Nat.le_of_ble_eq_true rfl⟩ rfl hl.1 rfl (Nat.le_of_ble_eq_true rfl) dX7_heard_41 ⟨Nat.zero_le _, Nat.zero_le _⟩) (fun r9 σ9 H locs hw hP hS => ?_)
        rw [show σ9 = σ_7 from hw.2] at hP
        rw [show r9 = r_8 from hw.1]
        refine lv_istore_n (lv' := [(2, .int r_8), (0, .ref (ad 66)), (1, .int x1)]) hx hb dX7_heard_44 rfl hl (by decide) rfl (fun ls hl => ?_)
        refine lv_aload_n hx hb dX7_heard_45 rfl (lv_at hl 1 rfl) ?_
        refine lv_iconst (v := 4) hx hb dX7_heard_46 (by decide) ?_
        refine lv_iload_n hx hb dX7_heard_47 rfl (lv_at hl 2 rfl) ?_
        obtain ⟨σ_9, eσ_9, h⟩ := bnd h
        refine r_cv X hS (r_runV (As := [.int 4, .int x1]) (rest := []) C0 X hP L_X7_246 (fun sz => c_X7_ruleAllInMind l D cA ad o σ_7 4 x1  σ_9 eσ_9 sz) (show 66 < 106 ∧ kd 66 = (7, 8) from ⟨by decide, rfl⟩).1 (show 66 < 106 ∧ kd 66 = (7, 8) from ⟨by decide, rfl⟩).2 (by decide) rfl ⟨Nat.le_of_ble_eq_true rfl, Nat.le_of_ble_eq_true rfl⟩ rfl hl.1 rfl (Nat.le_of_ble_eq_true rfl) dX7_heard_48 ⟨Nat.zero_le _, Nat.zero_le _⟩) (fun σ9 H locs hw hP hS => ?_)
        rw [show σ9 = σ_9 from hw] at hP
        refine lv_iload_n hx hb dX7_heard_51 rfl (lv_at hl 0 rfl) ?_
        refine lv_aload_n hx hb dX7_heard_52 rfl (lv_at hl 1 rfl) ?_
        obtain ⟨σ_10, r_11, eσ_10, h⟩ := bnd2 h
        refine r_ci X hS (r_runV (As := []) (rest := [.int r_8]) C0 X hP L_X7_224 (fun sz => c_X7_costInMind l D cA ad o σ_9   (σ_10, r_11) eσ_10 sz) (show 66 < 106 ∧ kd 66 = (7, 8) from ⟨by decide, rfl⟩).1 (show 66 < 106 ∧ kd 66 = (7, 8) from ⟨by decide, rfl⟩).2 (by decide) rfl ⟨Nat.le_of_ble_eq_true rfl, Nat.le_of_ble_eq_true rfl⟩ rfl hl.1 rfl (Nat.le_of_ble_eq_true rfl) dX7_heard_53 ⟨Nat.zero_le _, Nat.zero_le _⟩) (fun r9 σ9 H locs hw hP hS => ?_)
        rw [show σ9 = σ_10 from hw.2] at hP
        rw [show r9 = r_11 from hw.1]
        refine lv_isub hx hb dX7_heard_56 ?_
        exact r_iret C0 X hP hS hr hlk dX7_heard_57 (rt2 h)
      · replace h := it_f h c_4
        refine lv_ldc (own := RX7) (index := 252) (v := (-1000000003)) hx hb hown (hts _ (tmc sb4_0 3 rfl (by decide +kernel))) dX7_heard_20 ?_
        exact r_iret C0 X hP hS hr hlk dX7_heard_22 (rt2 h)
    · replace h := it_f h c_2
      refine lv_ldc (own := RX7) (index := 153) (v := (-1000000001)) hx hb hown (hts _ (tmc sb3_9 0 rfl (by decide +kernel))) dX7_heard_10 ?_
      exact r_iret C0 X hP hS hr hlk dX7_heard_12 (rt2 h)
def bB_cX7_days : Nat := 0xac0415b1ffa7010584043660e000b62a0415cfffa7010784dd00b5701c7a10107efe120615320715d900b41300b42a06366039301168fd1206152b00a29600b41300b42a071507360306366005151d4f00a21b05150536030436033e00b60c00b42a1300b42aacfd100600998700b62aac020500a43c101c0900a1041c0e00a3081b1300a1041b
theorem yB_cX7_days : BYS cX7_days 135 bB_cX7_days := BYS_of (by decide +kernel)
theorem dX7_days_0 : decode cX7_days 0 = .ok (.iload_n 1, 1) := D_27 yB_cX7_days rfl rfl
theorem dX7_days_1 : decode cX7_days 1 = .ok (.iconst 1, 1) := D_4 yB_cX7_days rfl rfl
theorem dX7_days_2 : decode cX7_days 2 = .ok (.if_icmp .lt 19, 3) := D_161 yB_cX7_days rfl rfl (sg_p (m := 32768) (N := 19) rfl rfl rfl)
theorem dX7_days_5 : decode cX7_days 5 = .ok (.iload_n 1, 1) := D_27 yB_cX7_days rfl rfl
theorem dX7_days_6 : decode cX7_days 6 = .ok (.iconst 5, 1) := D_8 yB_cX7_days rfl rfl
theorem dX7_days_7 : decode cX7_days 7 = .ok (.if_icmp .gt 14, 3) := D_163 yB_cX7_days rfl rfl (sg_p (m := 32768) (N := 14) rfl rfl rfl)
theorem dX7_days_10 : decode cX7_days 10 = .ok (.iload_n 2, 1) := D_28 yB_cX7_days rfl rfl
theorem dX7_days_11 : decode cX7_days 11 = .ok (.iconst 1, 1) := D_4 yB_cX7_days rfl rfl
theorem dX7_days_12 : decode cX7_days 12 = .ok (.if_icmp .lt 9, 3) := D_161 yB_cX7_days rfl rfl (sg_p (m := 32768) (N := 9) rfl rfl rfl)
theorem dX7_days_15 : decode cX7_days 15 = .ok (.iload_n 2, 1) := D_28 yB_cX7_days rfl rfl
theorem dX7_days_16 : decode cX7_days 16 = .ok (.bipush 60, 2) := D_16 yB_cX7_days rfl rfl (sg_p (m := 128) (N := 60) rfl rfl rfl)
theorem dX7_days_18 : decode cX7_days 18 = .ok (.if_icmp .le 5, 3) := D_164 yB_cX7_days rfl rfl (sg_p (m := 32768) (N := 5) rfl rfl rfl)
theorem dX7_days_21 : decode cX7_days 21 = .ok (.iconst (-1), 1) := D_2 yB_cX7_days rfl rfl
theorem dX7_days_22 : decode cX7_days 22 = .ok (.ireturn, 1) := D_172 yB_cX7_days rfl rfl
theorem dX7_days_23 : decode cX7_days 23 = .ok (.aload_n 0, 1) := D_42 yB_cX7_days rfl rfl
theorem dX7_days_24 : decode cX7_days 24 = .ok (.invokevirtual 135, 3) := D_182 yB_cX7_days rfl rfl rfl
theorem dX7_days_27 : decode cX7_days 27 = .ok (.ifCond .eq 6, 3) := D_153 yB_cX7_days rfl rfl (sg_p (m := 32768) (N := 6) rfl rfl rfl)
theorem dX7_days_30 : decode cX7_days 30 = .ok (.bipush (-3), 2) := D_16 yB_cX7_days rfl rfl (sg_n (m := 128) (N := 3) rfl rfl rfl)
theorem dX7_days_32 : decode cX7_days 32 = .ok (.ireturn, 1) := D_172 yB_cX7_days rfl rfl
theorem dX7_days_33 : decode cX7_days 33 = .ok (.aload_n 0, 1) := D_42 yB_cX7_days rfl rfl
theorem dX7_days_34 : decode cX7_days 34 = .ok (.getfield 19, 3) := D_180 yB_cX7_days rfl rfl rfl
theorem dX7_days_37 : decode cX7_days 37 = .ok (.aload_n 0, 1) := D_42 yB_cX7_days rfl rfl
theorem dX7_days_38 : decode cX7_days 38 = .ok (.getfield 12, 3) := D_180 yB_cX7_days rfl rfl rfl
theorem dX7_days_41 : decode cX7_days 41 = .ok (.invokevirtual 62, 3) := D_182 yB_cX7_days rfl rfl rfl
theorem dX7_days_44 : decode cX7_days 44 = .ok (.iconst 0, 1) := D_3 yB_cX7_days rfl rfl
theorem dX7_days_45 : decode cX7_days 45 = .ok (.istore 4, 2) := D_54 yB_cX7_days rfl rfl rfl
theorem dX7_days_47 : decode cX7_days 47 = .ok (.iconst 0, 1) := D_3 yB_cX7_days rfl rfl
theorem dX7_days_48 : decode cX7_days 48 = .ok (.istore 5, 2) := D_54 yB_cX7_days rfl rfl rfl
theorem dX7_days_50 : decode cX7_days 50 = .ok (.iload 5, 2) := D_21 yB_cX7_days rfl rfl rfl
theorem dX7_days_52 : decode cX7_days 52 = .ok (.iload_n 1, 1) := D_27 yB_cX7_days rfl rfl
theorem dX7_days_53 : decode cX7_days 53 = .ok (.if_icmp .ge 79, 3) := D_162 yB_cX7_days rfl rfl (sg_p (m := 32768) (N := 79) rfl rfl rfl)
theorem dX7_days_56 : decode cX7_days 56 = .ok (.iload_n 3, 1) := D_29 yB_cX7_days rfl rfl
theorem dX7_days_57 : decode cX7_days 57 = .ok (.iload 5, 2) := D_21 yB_cX7_days rfl rfl rfl
theorem dX7_days_59 : decode cX7_days 59 = .ok (.iadd, 1) := D_96 yB_cX7_days rfl rfl
theorem dX7_days_60 : decode cX7_days 60 = .ok (.istore 6, 2) := D_54 yB_cX7_days rfl rfl rfl
theorem dX7_days_62 : decode cX7_days 62 = .ok (.iconst 0, 1) := D_3 yB_cX7_days rfl rfl
theorem dX7_days_63 : decode cX7_days 63 = .ok (.istore 7, 2) := D_54 yB_cX7_days rfl rfl rfl
theorem dX7_days_65 : decode cX7_days 65 = .ok (.iload 7, 2) := D_21 yB_cX7_days rfl rfl rfl
theorem dX7_days_67 : decode cX7_days 67 = .ok (.aload_n 0, 1) := D_42 yB_cX7_days rfl rfl
theorem dX7_days_68 : decode cX7_days 68 = .ok (.getfield 19, 3) := D_180 yB_cX7_days rfl rfl rfl
theorem dX7_days_71 : decode cX7_days 71 = .ok (.getfield 150, 3) := D_180 yB_cX7_days rfl rfl rfl
theorem dX7_days_74 : decode cX7_days 74 = .ok (.if_icmp .ge 43, 3) := D_162 yB_cX7_days rfl rfl (sg_p (m := 32768) (N := 43) rfl rfl rfl)
theorem dX7_days_77 : decode cX7_days 77 = .ok (.iload 6, 2) := D_21 yB_cX7_days rfl rfl rfl
theorem dX7_days_79 : decode cX7_days 79 = .ok (.ldc 253, 2) := D_18 yB_cX7_days rfl rfl rfl
theorem dX7_days_81 : decode cX7_days 81 = .ok (.imul, 1) := D_104 yB_cX7_days rfl rfl
theorem dX7_days_82 : decode cX7_days 82 = .ok (.sipush 12345, 3) := D_17 yB_cX7_days rfl rfl (sg_p (m := 32768) (N := 12345) rfl rfl rfl)
theorem dX7_days_85 : decode cX7_days 85 = .ok (.iadd, 1) := D_96 yB_cX7_days rfl rfl
theorem dX7_days_86 : decode cX7_days 86 = .ok (.istore 6, 2) := D_54 yB_cX7_days rfl rfl rfl
theorem dX7_days_88 : decode cX7_days 88 = .ok (.aload_n 0, 1) := D_42 yB_cX7_days rfl rfl
theorem dX7_days_89 : decode cX7_days 89 = .ok (.getfield 19, 3) := D_180 yB_cX7_days rfl rfl rfl
theorem dX7_days_92 : decode cX7_days 92 = .ok (.getfield 217, 3) := D_180 yB_cX7_days rfl rfl rfl
theorem dX7_days_95 : decode cX7_days 95 = .ok (.iload 7, 2) := D_21 yB_cX7_days rfl rfl rfl
theorem dX7_days_97 : decode cX7_days 97 = .ok (.aaload, 1) := D_50 yB_cX7_days rfl rfl
theorem dX7_days_98 : decode cX7_days 98 = .ok (.iload 6, 2) := D_21 yB_cX7_days rfl rfl rfl
theorem dX7_days_100 : decode cX7_days 100 = .ok (.ldc 254, 2) := D_18 yB_cX7_days rfl rfl rfl
theorem dX7_days_102 : decode cX7_days 102 = .ok (.iand, 1) := D_126 yB_cX7_days rfl rfl
theorem dX7_days_103 : decode cX7_days 103 = .ok (.bipush 16, 2) := D_16 yB_cX7_days rfl rfl (sg_p (m := 128) (N := 16) rfl rfl rfl)
theorem dX7_days_105 : decode cX7_days 105 = .ok (.ishr, 1) := D_122 yB_cX7_days rfl rfl
theorem dX7_days_106 : decode cX7_days 106 = .ok (.iload_n 2, 1) := D_28 yB_cX7_days rfl rfl
theorem dX7_days_107 : decode cX7_days 107 = .ok (.irem, 1) := D_112 yB_cX7_days rfl rfl
theorem dX7_days_108 : decode cX7_days 108 = .ok (.putfield 221, 3) := D_181 yB_cX7_days rfl rfl rfl
theorem dX7_days_111 : decode cX7_days 111 = .ok (.iinc 7 1, 3) := D_132 yB_cX7_days rfl rfl rfl (sg_p (m := 128) (N := 1) rfl rfl rfl)
theorem dX7_days_114 : decode cX7_days 114 = .ok (.goto (-49), 3) := D_167 yB_cX7_days rfl rfl (sg_n (m := 32768) (N := 49) rfl rfl rfl)
theorem dX7_days_117 : decode cX7_days 117 = .ok (.iload 4, 2) := D_21 yB_cX7_days rfl rfl rfl
theorem dX7_days_119 : decode cX7_days 119 = .ok (.aload_n 0, 1) := D_42 yB_cX7_days rfl rfl
theorem dX7_days_120 : decode cX7_days 120 = .ok (.invokevirtual 224, 3) := D_182 yB_cX7_days rfl rfl rfl
theorem dX7_days_123 : decode cX7_days 123 = .ok (.iadd, 1) := D_96 yB_cX7_days rfl rfl
theorem dX7_days_124 : decode cX7_days 124 = .ok (.istore 4, 2) := D_54 yB_cX7_days rfl rfl rfl
theorem dX7_days_126 : decode cX7_days 126 = .ok (.iinc 5 1, 3) := D_132 yB_cX7_days rfl rfl rfl (sg_p (m := 128) (N := 1) rfl rfl rfl)
theorem dX7_days_129 : decode cX7_days 129 = .ok (.goto (-79), 3) := D_167 yB_cX7_days rfl rfl (sg_n (m := 32768) (N := 79) rfl rfl rfl)
theorem dX7_days_132 : decode cX7_days 132 = .ok (.iload 4, 2) := D_21 yB_cX7_days rfl rfl rfl
theorem dX7_days_134 : decode cX7_days 134 = .ok (.ireturn, 1) := D_172 yB_cX7_days rfl rfl
def F_X7_days_65 (x1 : Int32) (x2 : Int32) (x3 : Int32) (k50 : Mem → Int32 → Int32 → Option (Mem × Int32)) : Nat → Mem → Int32 → Int32 → Int32 → Int32 → Option (Mem × Int32)
  | 0, _, _, _, _, _ => none
  | nn + 1, σ, v7, v6, v5, v4 => if (σ 44 2) ≤ v7 then (bd2 (F_X7_costInMind σ ) fun σ_12 r_13 => k50 σ_12 (v5 + 1) (v4 + r_13)) else ((ix 7 v7).bind fun k_14 => ck (¬ x2 = 0) <| F_X7_days_65 x1 x2 x3 k50 nn (stm σ (22 * 2 + 15 + k_14) 5 (((((v6 * 1103515245) + 12345) &&& 2147483647) >>> (16 &&& 31)) - ((((v6 * 1103515245) + 12345) &&& 2147483647) >>> (16 &&& 31)) / x2 * x2)) (v7 + 1) ((v6 * 1103515245) + 12345) v5 v4)
def F_X7_days_50 (x1 : Int32) (x2 : Int32) (x3 : Int32)  : Nat → Mem → Int32 → Int32 → Option (Mem × Int32)
  | 0, _, _, _ => none
  | nn + 1, σ, v5, v4 => if x1 ≤ v5 then (some (σ, v4)) else (F_X7_days_65 x1 x2 x3 (fun σ v5 v4 => F_X7_days_50 x1 x2 x3 nn σ v5 v4) FU σ 0 (x3 + v5) v5 v4)
def F_X7_days (σ : Mem) (x1 : Int32) (x2 : Int32) (x3 : Int32) : Option (Mem × Int32) := if x1 < 1 then (some (σ, (-1))) else (if 5 < x1 then (some (σ, (-1))) else (if x2 < 1 then (some (σ, (-1))) else (if x2 ≤ 60 then ((F_X7_cannotRun σ ).bind fun r_5 => if r_5 = 0 then (ck (cb01 σ 0) <| F_X7_days_50 x1 x2 x3 FU (tcpy σ 2 0) 0 0) else (some (σ, (-3)))) else (some (σ, (-1))))))
set_option maxHeartbeats 4000000 in
set_option maxRecDepth 100000 in
theorem c_X7_days (l : Launch) (D : va_G) (cA : Nat → ClassId) (ad : Nat → Nat) (o : Int64) (σ : Mem) (x1 : Int32) (x2 : Int32) (x3 : Int32)  (res : Mem × Int32) (h : F_X7_days σ x1 x2 x3 = some res) (sz : Nat) : Met l yX7_days (WY yX7_days cX7_days 8 (some .int)) (RM 6) (va_Pc [.ref (ad 66), .int x1, .int x2, .int x3] (PW D cA ad o σ sz)) (va_Qi (fun r σ9 => r = res.2 ∧ σ9 = res.1) (QW D cA ad o) (FA ad sz)) 0 0 (FA ad sz) := by
  refine ct_of (own := RX7) (k := 6) (Qf := va_Qi (fun r σ9 => r = res.2 ∧ σ9 = res.1) (QW D cA ad o)) rfl (by decide) (Nat.le_of_ble_eq_true rfl) (fun p e s m below meth c ls C0 X hr hlk hP hl => ?_) sz
  have hS : va_S (FA ad s.heap.size) s.heap s.heap [] := va_S.rf
  have hl : lv_has ls 8 [(0, .ref (ad 66)), (1, .int x1), (2, .int x2), (3, .int x3)] := hl
  obtain ⟨hx, hb, hml, hown, hts⟩ := id C0
  unfold F_X7_days at h
  refine lv_iload_n hx hb dX7_days_0 rfl (lv_at hl 1 rfl) ?_
  refine lv_iconst (v := 1) hx hb dX7_days_1 (by decide) ?_
  refine lv_icmp_lt (tgt := 21) hx hb dX7_days_2 (by decide) (fun c_1 => ?_) (fun c_1 => ?_)
  · replace h := it_t h c_1
    refine lv_iconst (v := (-1)) hx hb dX7_days_21 (by decide) ?_
    exact r_iret C0 X hP hS hr hlk dX7_days_22 (rt2 h)
  · replace h := it_f h c_1
    refine lv_iload_n hx hb dX7_days_5 rfl (lv_at hl 1 rfl) ?_
    refine lv_iconst (v := 5) hx hb dX7_days_6 (by decide) ?_
    refine lv_icmp_gt (tgt := 21) hx hb dX7_days_7 (by decide) (fun c_2 => ?_) (fun c_2 => ?_)
    · replace h := it_t h c_2
      refine lv_iconst (v := (-1)) hx hb dX7_days_21 (by decide) ?_
      exact r_iret C0 X hP hS hr hlk dX7_days_22 (rt2 h)
    · replace h := it_f h c_2
      refine lv_iload_n hx hb dX7_days_10 rfl (lv_at hl 2 rfl) ?_
      refine lv_iconst (v := 1) hx hb dX7_days_11 (by decide) ?_
      refine lv_icmp_lt (tgt := 21) hx hb dX7_days_12 (by decide) (fun c_3 => ?_) (fun c_3 => ?_)
      · replace h := it_t h c_3
        refine lv_iconst (v := (-1)) hx hb dX7_days_21 (by decide) ?_
        exact r_iret C0 X hP hS hr hlk dX7_days_22 (rt2 h)
      · replace h := it_f h c_3
        refine lv_iload_n hx hb dX7_days_15 rfl (lv_at hl 2 rfl) ?_
        refine lv_bipush (v := 60) hx hb dX7_days_16 (by decide) ?_
        refine lv_icmp_le (tgt := 23) hx hb dX7_days_18 (by decide) (fun c_4 => ?_) (fun c_4 => ?_)
        · replace h := it_t h c_4
          refine lv_aload_n hx hb dX7_days_23 rfl (lv_at hl 0 rfl) ?_
          obtain ⟨r_5, er_5, h⟩ := bnd h
          refine r_ci X hS (r_runV (As := []) (rest := []) C0 X hP L_X7_135 (fun sz => c_X7_cannotRun l D cA ad o σ   r_5 er_5 sz) (show 66 < 106 ∧ kd 66 = (7, 8) from ⟨by decide, rfl⟩).1 (show 66 < 106 ∧ kd 66 = (7, 8) from ⟨by decide, rfl⟩).2 (by decide) rfl ⟨Nat.le_of_ble_eq_true rfl, Nat.le_of_ble_eq_true rfl⟩ rfl hl.1 rfl (Nat.le_of_ble_eq_true rfl) dX7_days_24 ⟨Nat.zero_le _, Nat.zero_le _⟩) (fun r9 σ9 H locs hw hP hS => ?_)
          rw [hw.2] at hP
          rw [hw.1]
          refine lv_if_eq (tgt := 33) hx hb dX7_days_27 (by decide) (fun c_6 => ?_) (fun c_6 => ?_)
          · replace h := it_t h c_6
            refine lv_aload_n hx hb dX7_days_33 rfl (lv_at hl 0 rfl) ?_
            refine gf_X7_19 C0 X hP 66 (q := 44) ⟨by decide, rfl⟩ (by omega) rfl dX7_days_34 ?_
            refine lv_aload_n hx hb dX7_days_37 rfl (lv_at hl 0 rfl) ?_
            refine gf_X7_12 C0 X hP 66 (q := 0) ⟨by decide, rfl⟩ (by omega) rfl dX7_days_38 ?_
            obtain ⟨q_7, h⟩ := ckp h
            refine r_cv X hS (r_runV (As := [.ref (ad 0)]) (rest := []) C0 X hP L_X7_62 (fun sz => c_X6_copyFrom l D cA ad o σ 2 0 (by decide) (by decide) (by decide) (cb01_e q_7) sz) (show 44 < 106 ∧ kd 44 = (6, 11) from ⟨by decide, rfl⟩).1 (show 44 < 106 ∧ kd 44 = (6, 11) from ⟨by decide, rfl⟩).2 (by decide) rfl ⟨Nat.le_of_ble_eq_true rfl, Nat.le_of_ble_eq_true rfl⟩ rfl hl.1 rfl (Nat.le_of_ble_eq_true rfl) dX7_days_41 ⟨Nat.zero_le _, Nat.zero_le _⟩) (fun σ9 H locs hw hP hS => ?_)
            rw [show σ9 = (tcpy σ 2 0) from hw] at hP
            refine lv_iconst (v := 0) hx hb dX7_days_44 (by decide) ?_
            refine lv_istore (lv' := [(4, .int 0), (0, .ref (ad 66)), (1, .int x1), (2, .int x2), (3, .int x3)]) hx hb dX7_days_45 hl (by decide) rfl (fun ls hl => ?_)
            refine lv_iconst (v := 0) hx hb dX7_days_47 (by decide) ?_
            refine lv_istore (lv' := [(5, .int 0), (4, .int 0), (0, .ref (ad 66)), (1, .int x1), (2, .int x2), (3, .int x3)]) hx hb dX7_days_48 hl (by decide) rfl (fun ls hl => ?_)
            have lp_8 : ∀ (nn50 : Nat) (σ : Mem) (v5 : Int32) (v4 : Int32) (H : Heap) (locs : List Loc) (ls : Array Slot), F_X7_days_50 x1 x2 x3 nn50 σ v5 v4 = some res → WP D cA ad o σ H → va_S (FA ad s.heap.size) s.heap H locs → lv_has ls 8 [(5, .int v5), (4, .int v4), (0, .ref (ad 66)), (1, .int x1), (2, .int x2), (3, .int x3)] → W p l e (RM 6) s m ([.ref (ad 66), .int x1, .int x2, .int x3] : List Value).toArray below meth c H locs 0 0 (MQ below (va_Qi (fun r σ9 => r = res.2 ∧ σ9 = res.1) (QW D cA ad o) (FA ad s.heap.size)) ([.ref (ad 66), .int x1, .int x2, .int x3] : List Value).toArray s 0 0 (FA ad s.heap.size)) (F0 m 50 ls []) := by
              intro nn50
              induction nn50 with
              | zero => intro σ v5 v4 H locs ls h hP hS hl; exact absurd (show none = some res from h) nofun
              | succ nn50 ih50 =>
                intro σ v5 v4 H locs ls h hP hS hl
                replace h := (F_X7_days_50.eq_2 _ _ _ _ _ _ _).symm.trans h
                refine lv_iload hx hb dX7_days_50 (lv_at hl 0 rfl) ?_
                refine lv_iload_n hx hb dX7_days_52 rfl (lv_at hl 3 rfl) ?_
                refine lv_icmp_ge (tgt := 132) hx hb dX7_days_53 (by decide) (fun c_9 => ?_) (fun c_9 => ?_)
                · replace h := it_t h c_9
                  refine lv_iload hx hb dX7_days_132 (lv_at hl 1 rfl) ?_
                  exact r_iret C0 X hP hS hr hlk dX7_days_134 (rt2 h)
                · replace h := it_f h c_9
                  refine lv_iload_n hx hb dX7_days_56 rfl (lv_at hl 5 rfl) ?_
                  refine lv_iload hx hb dX7_days_57 (lv_at hl 0 rfl) ?_
                  refine lv_iadd hx hb dX7_days_59 ?_
                  refine lv_istore (lv' := [(6, .int (x3 + v5)), (5, .int v5), (4, .int v4), (0, .ref (ad 66)), (1, .int x1), (2, .int x2), (3, .int x3)]) hx hb dX7_days_60 hl (by decide) rfl (fun ls hl => ?_)
                  refine lv_iconst (v := 0) hx hb dX7_days_62 (by decide) ?_
                  refine lv_istore (lv' := [(7, .int 0), (6, .int (x3 + v5)), (5, .int v5), (4, .int v4), (0, .ref (ad 66)), (1, .int x1), (2, .int x2), (3, .int x3)]) hx hb dX7_days_63 hl (by decide) rfl (fun ls hl => ?_)
                  have lp_10 : ∀ (nn65 : Nat) (σ : Mem) (v7 : Int32) (v6 : Int32) (v5 : Int32) (v4 : Int32) (H : Heap) (locs : List Loc) (ls : Array Slot), F_X7_days_65 x1 x2 x3 (fun σ v5 v4 => F_X7_days_50 x1 x2 x3 nn50 σ v5 v4) nn65 σ v7 v6 v5 v4 = some res → WP D cA ad o σ H → va_S (FA ad s.heap.size) s.heap H locs → lv_has ls 8 [(7, .int v7), (6, .int v6), (5, .int v5), (4, .int v4), (0, .ref (ad 66)), (1, .int x1), (2, .int x2), (3, .int x3)] → W p l e (RM 6) s m ([.ref (ad 66), .int x1, .int x2, .int x3] : List Value).toArray below meth c H locs 0 0 (MQ below (va_Qi (fun r σ9 => r = res.2 ∧ σ9 = res.1) (QW D cA ad o) (FA ad s.heap.size)) ([.ref (ad 66), .int x1, .int x2, .int x3] : List Value).toArray s 0 0 (FA ad s.heap.size)) (F0 m 65 ls []) := by
                    intro nn65
                    induction nn65 with
                    | zero => intro σ v7 v6 v5 v4 H locs ls h hP hS hl; exact absurd (show none = some res from h) nofun
                    | succ nn65 ih65 =>
                      intro σ v7 v6 v5 v4 H locs ls h hP hS hl
                      replace h := (F_X7_days_65.eq_2 _ _ _ _ _ _ _ _ _ _).symm.trans h
                      refine lv_iload hx hb dX7_days_65 (lv_at hl 0 rfl) ?_
                      refine lv_aload_n hx hb dX7_days_67 rfl (lv_at hl 4 rfl) ?_
                      refine gf_X7_19 C0 X hP 66 (q := 44) ⟨by decide, rfl⟩ (by omega) rfl dX7_days_68 ?_
                      refine gf_X7_150 C0 X hP 44 ⟨by decide, rfl⟩ dX7_days_71 ?_
                      refine lv_icmp_ge (tgt := 117) hx hb dX7_days_74 (by decide) (fun c_11 => ?_) (fun c_11 => ?_)
                      · replace h := it_t h c_11
                        refine lv_iload hx hb dX7_days_117 (lv_at hl 3 rfl) ?_
                        refine lv_aload_n hx hb dX7_days_119 rfl (lv_at hl 4 rfl) ?_
                        obtain ⟨σ_12, r_13, eσ_12, h⟩ := bnd2 h
                        refine r_ci X hS (r_runV (As := []) (rest := [.int v4]) C0 X hP L_X7_224 (fun sz => c_X7_costInMind l D cA ad o σ   (σ_12, r_13) eσ_12 sz) (show 66 < 106 ∧ kd 66 = (7, 8) from ⟨by decide, rfl⟩).1 (show 66 < 106 ∧ kd 66 = (7, 8) from ⟨by decide, rfl⟩).2 (by decide) rfl ⟨Nat.le_of_ble_eq_true rfl, Nat.le_of_ble_eq_true rfl⟩ rfl hl.1 rfl (Nat.le_of_ble_eq_true rfl) dX7_days_120 ⟨Nat.zero_le _, Nat.zero_le _⟩) (fun r9 σ9 H locs hw hP hS => ?_)
                        rw [show σ9 = σ_12 from hw.2] at hP
                        rw [show r9 = r_13 from hw.1]
                        refine lv_iadd hx hb dX7_days_123 ?_
                        refine lv_istore (lv' := [(4, .int (v4 + r_13)), (7, .int v7), (6, .int v6), (5, .int v5), (0, .ref (ad 66)), (1, .int x1), (2, .int x2), (3, .int x3)]) hx hb dX7_days_124 hl (by decide) rfl (fun ls hl => ?_)
                        refine lv_iinc (v := (v5 + 1)) (lv' := [(5, .int (v5 + 1)), (4, .int (v4 + r_13)), (7, .int v7), (6, .int v6), (0, .ref (ad 66)), (1, .int x1), (2, .int x2), (3, .int x3)]) hx hb dX7_days_126 hl (k := 3) rfl rfl (by decide) rfl (fun ls hl => ?_)
                        refine lv_goto (tgt := 50) hx hb dX7_days_129 (by decide) ?_
                        exact ih50 σ_12 (v5 + 1) (v4 + r_13) _ _ ls  h hP hS (lv_sub hl [0, 1, 4, 5, 6, 7] rfl)
                      · replace h := it_f h c_11
                        refine lv_iload hx hb dX7_days_77 (lv_at hl 1 rfl) ?_
                        refine lv_ldc (own := RX7) (index := 253) (v := 1103515245) hx hb hown (hts _ (tmc sb4_0 12 rfl (by decide +kernel))) dX7_days_79 ?_
                        refine lv_imul hx hb dX7_days_81 ?_
                        refine lv_sipush (v := 12345) hx hb dX7_days_82 (by decide) ?_
                        refine lv_iadd hx hb dX7_days_85 ?_
                        refine lv_istore (lv' := [(6, .int ((v6 * 1103515245) + 12345)), (7, .int v7), (5, .int v5), (4, .int v4), (0, .ref (ad 66)), (1, .int x1), (2, .int x2), (3, .int x3)]) hx hb dX7_days_86 hl (by decide) rfl (fun ls hl => ?_)
                        refine lv_aload_n hx hb dX7_days_88 rfl (lv_at hl 4 rfl) ?_
                        refine gf_X7_19 C0 X hP 66 (q := 44) ⟨by decide, rfl⟩ (by omega) rfl dX7_days_89 ?_
                        refine gf_X7_217 C0 X hP 44 (q := 57) ⟨by decide, rfl⟩ (by omega) rfl dX7_days_92 ?_
                        refine lv_iload hx hb dX7_days_95 (lv_at hl 1 rfl) ?_
                        obtain ⟨k_14, ek_14, h⟩ := bnd h
                        replace ek_14 := ix_s ek_14 (by decide)
                        refine r_aaldCN C0 X hP 57 (k := k_14) (q := (22 * 2 + 15 + k_14)) ⟨by decide, rfl⟩ ek_14.1 ek_14.2 (lkCA 2 (by decide) k_14 ek_14.2) dX7_days_97 ?_
                        refine lv_iload hx hb dX7_days_98 (lv_at hl 0 rfl) ?_
                        refine lv_ldc (own := RX7) (index := 254) (v := 2147483647) hx hb hown (hts _ (tmc sb4_0 13 rfl (by decide +kernel))) dX7_days_100 ?_
                        refine lv_iand hx hb dX7_days_102 ?_
                        refine lv_bipush (v := 16) hx hb dX7_days_103 (by decide) ?_
                        refine lv_ishr hx hb dX7_days_105 ?_
                        refine lv_iload_n hx hb dX7_days_106 rfl (lv_at hl 6 rfl) ?_
                        obtain ⟨q_15, h⟩ := ckp h
                        refine lv_irem hx hb dX7_days_107 q_15 ?_
                        refine pf_X7_221 C0 X hP hS (22 * 2 + 15 + k_14) (kdC 2 (by decide) k_14 ek_14.2) dX7_days_108 (fun H locs hP hS => ?_)
                        refine lv_iinc (v := (v7 + 1)) (lv' := [(7, .int (v7 + 1)), (6, .int ((v6 * 1103515245) + 12345)), (5, .int v5), (4, .int v4), (0, .ref (ad 66)), (1, .int x1), (2, .int x2), (3, .int x3)]) hx hb dX7_days_111 hl (k := 1) rfl rfl (by decide) rfl (fun ls hl => ?_)
                        refine lv_goto (tgt := 65) hx hb dX7_days_114 (by decide) ?_
                        exact ih65 (stm σ (22 * 2 + 15 + k_14) 5 (((((v6 * 1103515245) + 12345) &&& 2147483647) >>> (16 &&& 31)) - ((((v6 * 1103515245) + 12345) &&& 2147483647) >>> (16 &&& 31)) / x2 * x2)) (v7 + 1) ((v6 * 1103515245) + 12345) v5 v4 _ _ ls  h hP hS (lv_sub hl [0, 1, 2, 3, 4, 5, 6, 7] rfl)
                  exact lp_10 FU σ 0 (x3 + v5) v5 v4 _ _ ls  h hP hS (lv_sub hl [0, 1, 2, 3, 4, 5, 6, 7] rfl)
            exact lp_8 FU (tcpy σ 2 0) 0 0 _ _ ls  h hP hS (lv_sub hl [0, 1, 2, 3, 4, 5] rfl)
          · replace h := it_f h c_6
            refine lv_bipush (v := (-3)) hx hb dX7_days_30 (by decide) ?_
            exact r_iret C0 X hP hS hr hlk dX7_days_32 (rt2 h)
        · replace h := it_f h c_4
          refine lv_iconst (v := (-1)) hx hb dX7_days_21 (by decide) ?_
          exact r_iret C0 X hP hS hr hlk dX7_days_22 (rt2 h)
def bB_cX7_met : Nat := 0xac1dff00b6fc10fc101300b42a3e0201b41300b42a57e000b62aff00b61c1b1300b42a3e00b60c00b42a1300b42aacfd1006009a4a00b44600b40c00b42aac020500a01c1b0800c66300b61c0c00b42a1300c66300b61b0c00b42a
theorem yB_cX7_met : BYS cX7_met 91 bB_cX7_met := BYS_of (by decide +kernel)
theorem dX7_met_0 : decode cX7_met 0 = .ok (.aload_n 0, 1) := D_42 yB_cX7_met rfl rfl
theorem dX7_met_1 : decode cX7_met 1 = .ok (.getfield 12, 3) := D_180 yB_cX7_met rfl rfl rfl
theorem dX7_met_4 : decode cX7_met 4 = .ok (.iload_n 1, 1) := D_27 yB_cX7_met rfl rfl
theorem dX7_met_5 : decode cX7_met 5 = .ok (.invokevirtual 99, 3) := D_182 yB_cX7_met rfl rfl rfl
theorem dX7_met_8 : decode cX7_met 8 = .ok (.ifnull 19, 3) := D_198 yB_cX7_met rfl rfl (sg_p (m := 32768) (N := 19) rfl rfl rfl)
theorem dX7_met_11 : decode cX7_met 11 = .ok (.aload_n 0, 1) := D_42 yB_cX7_met rfl rfl
theorem dX7_met_12 : decode cX7_met 12 = .ok (.getfield 12, 3) := D_180 yB_cX7_met rfl rfl rfl
theorem dX7_met_15 : decode cX7_met 15 = .ok (.iload_n 2, 1) := D_28 yB_cX7_met rfl rfl
theorem dX7_met_16 : decode cX7_met 16 = .ok (.invokevirtual 99, 3) := D_182 yB_cX7_met rfl rfl rfl
theorem dX7_met_19 : decode cX7_met 19 = .ok (.ifnull 8, 3) := D_198 yB_cX7_met rfl rfl (sg_p (m := 32768) (N := 8) rfl rfl rfl)
theorem dX7_met_22 : decode cX7_met 22 = .ok (.iload_n 1, 1) := D_27 yB_cX7_met rfl rfl
theorem dX7_met_23 : decode cX7_met 23 = .ok (.iload_n 2, 1) := D_28 yB_cX7_met rfl rfl
theorem dX7_met_24 : decode cX7_met 24 = .ok (.if_icmp .ne 5, 3) := D_160 yB_cX7_met rfl rfl (sg_p (m := 32768) (N := 5) rfl rfl rfl)
theorem dX7_met_27 : decode cX7_met 27 = .ok (.iconst (-1), 1) := D_2 yB_cX7_met rfl rfl
theorem dX7_met_28 : decode cX7_met 28 = .ok (.ireturn, 1) := D_172 yB_cX7_met rfl rfl
theorem dX7_met_29 : decode cX7_met 29 = .ok (.aload_n 0, 1) := D_42 yB_cX7_met rfl rfl
theorem dX7_met_30 : decode cX7_met 30 = .ok (.getfield 12, 3) := D_180 yB_cX7_met rfl rfl rfl
theorem dX7_met_33 : decode cX7_met 33 = .ok (.getfield 70, 3) := D_180 yB_cX7_met rfl rfl rfl
theorem dX7_met_36 : decode cX7_met 36 = .ok (.getfield 74, 3) := D_180 yB_cX7_met rfl rfl rfl
theorem dX7_met_39 : decode cX7_met 39 = .ok (.ifCond .ne 6, 3) := D_154 yB_cX7_met rfl rfl (sg_p (m := 32768) (N := 6) rfl rfl rfl)
theorem dX7_met_42 : decode cX7_met 42 = .ok (.bipush (-3), 2) := D_16 yB_cX7_met rfl rfl (sg_n (m := 128) (N := 3) rfl rfl rfl)
theorem dX7_met_44 : decode cX7_met 44 = .ok (.ireturn, 1) := D_172 yB_cX7_met rfl rfl
theorem dX7_met_45 : decode cX7_met 45 = .ok (.aload_n 0, 1) := D_42 yB_cX7_met rfl rfl
theorem dX7_met_46 : decode cX7_met 46 = .ok (.getfield 19, 3) := D_180 yB_cX7_met rfl rfl rfl
theorem dX7_met_49 : decode cX7_met 49 = .ok (.aload_n 0, 1) := D_42 yB_cX7_met rfl rfl
theorem dX7_met_50 : decode cX7_met 50 = .ok (.getfield 12, 3) := D_180 yB_cX7_met rfl rfl rfl
theorem dX7_met_53 : decode cX7_met 53 = .ok (.invokevirtual 62, 3) := D_182 yB_cX7_met rfl rfl rfl
theorem dX7_met_56 : decode cX7_met 56 = .ok (.aload_n 0, 1) := D_42 yB_cX7_met rfl rfl
theorem dX7_met_57 : decode cX7_met 57 = .ok (.getfield 19, 3) := D_180 yB_cX7_met rfl rfl rfl
theorem dX7_met_60 : decode cX7_met 60 = .ok (.iload_n 1, 1) := D_27 yB_cX7_met rfl rfl
theorem dX7_met_61 : decode cX7_met 61 = .ok (.iload_n 2, 1) := D_28 yB_cX7_met rfl rfl
theorem dX7_met_62 : decode cX7_met 62 = .ok (.invokevirtual 255, 3) := D_182 yB_cX7_met rfl rfl rfl
theorem dX7_met_65 : decode cX7_met 65 = .ok (.aload_n 0, 1) := D_42 yB_cX7_met rfl rfl
theorem dX7_met_66 : decode cX7_met 66 = .ok (.invokevirtual 224, 3) := D_182 yB_cX7_met rfl rfl rfl
theorem dX7_met_69 : decode cX7_met 69 = .ok (.pop, 1) := D_87 yB_cX7_met rfl rfl
theorem dX7_met_70 : decode cX7_met 70 = .ok (.aload_n 0, 1) := D_42 yB_cX7_met rfl rfl
theorem dX7_met_71 : decode cX7_met 71 = .ok (.getfield 19, 3) := D_180 yB_cX7_met rfl rfl rfl
theorem dX7_met_74 : decode cX7_met 74 = .ok (.getfield 258, 3) := D_180 yB_cX7_met rfl rfl rfl
theorem dX7_met_77 : decode cX7_met 77 = .ok (.istore_n 3, 1) := D_62 yB_cX7_met rfl rfl
theorem dX7_met_78 : decode cX7_met 78 = .ok (.aload_n 0, 1) := D_42 yB_cX7_met rfl rfl
theorem dX7_met_79 : decode cX7_met 79 = .ok (.getfield 19, 3) := D_180 yB_cX7_met rfl rfl rfl
theorem dX7_met_82 : decode cX7_met 82 = .ok (.bipush (-4), 2) := D_16 yB_cX7_met rfl rfl (sg_n (m := 128) (N := 4) rfl rfl rfl)
theorem dX7_met_84 : decode cX7_met 84 = .ok (.bipush (-4), 2) := D_16 yB_cX7_met rfl rfl (sg_n (m := 128) (N := 4) rfl rfl rfl)
theorem dX7_met_86 : decode cX7_met 86 = .ok (.invokevirtual 255, 3) := D_182 yB_cX7_met rfl rfl rfl
theorem dX7_met_89 : decode cX7_met 89 = .ok (.iload_n 3, 1) := D_29 yB_cX7_met rfl rfl
theorem dX7_met_90 : decode cX7_met 90 = .ok (.ireturn, 1) := D_172 yB_cX7_met rfl rfl
def F_X7_met (σ : Mem) (x1 : Int32) (x2 : Int32) : Option (Mem × Int32) := if x1 < 0 ∨ σ (22 * 0) 2 ≤ x1 ∨ 7 ≤ x1 then (some (σ, (-1))) else ((ix 7 x1).bind fun j_1 => if x2 < 0 ∨ σ (22 * 0) 2 ≤ x2 ∨ 7 ≤ x2 then (some (σ, (-1))) else ((ix 7 x2).bind fun j_2 => if x1 = x2 then (some (σ, (-1))) else (if (σ 1 0) = 0 then (some (σ, (-3))) else (ck (cb01 σ 0) <| (F_X6_watch (tcpy σ 2 0) 2 x1 x2).bind fun σ_6 => bd2 (F_X7_costInMind σ_6 ) fun σ_7 r_8 => (F_X6_watch σ_7 2 (-4) (-4)).bind fun σ_9 => some (σ_9, (σ_7 44 10))))))
set_option maxHeartbeats 4000000 in
set_option maxRecDepth 100000 in
theorem c_X7_met (l : Launch) (D : va_G) (cA : Nat → ClassId) (ad : Nat → Nat) (o : Int64) (σ : Mem) (x1 : Int32) (x2 : Int32)  (res : Mem × Int32) (h : F_X7_met σ x1 x2 = some res) (sz : Nat) : Met l yX7_met (WY yX7_met cX7_met 4 (some .int)) (RM 6) (va_Pc [.ref (ad 66), .int x1, .int x2] (PW D cA ad o σ sz)) (va_Qi (fun r σ9 => r = res.2 ∧ σ9 = res.1) (QW D cA ad o) (FA ad sz)) 0 0 (FA ad sz) := by
  refine ct_of (own := RX7) (k := 6) (Qf := va_Qi (fun r σ9 => r = res.2 ∧ σ9 = res.1) (QW D cA ad o)) rfl (by decide) (Nat.le_of_ble_eq_true rfl) (fun p e s m below meth c ls C0 X hr hlk hP hl => ?_) sz
  have hS : va_S (FA ad s.heap.size) s.heap s.heap [] := va_S.rf
  have hl : lv_has ls 4 [(0, .ref (ad 66)), (1, .int x1), (2, .int x2)] := hl
  obtain ⟨hx, hb, hml, hown, hts⟩ := id C0
  unfold F_X7_met at h
  refine lv_aload_n hx hb dX7_met_0 rfl (lv_at hl 0 rfl) ?_
  refine gf_X7_12 C0 X hP 66 (q := 0) ⟨by decide, rfl⟩ (by omega) rfl dX7_met_1 ?_
  refine lv_iload_n hx hb dX7_met_4 rfl (lv_at hl 1 rfl) ?_
  refine r_cq X hS (r_runV (As := [.int x1]) (rest := []) C0 X hP L_X7_99 (fun sz => c_X6_cartAt l D cA ad o σ 0 x1 (by decide) sz) (show 0 < 106 ∧ kd 0 = (6, 11) from ⟨by decide, rfl⟩).1 (show 0 < 106 ∧ kd 0 = (6, 11) from ⟨by decide, rfl⟩).2 (by decide) rfl ⟨Nat.le_of_ble_eq_true rfl, Nat.le_of_ble_eq_true rfl⟩ rfl hl.1 rfl (Nat.le_of_ble_eq_true rfl) dX7_met_5 ⟨Nat.zero_le _, Nat.zero_le _⟩) (fun σ9 H locs hw hP hS => ?_) (fun x9 σ9 H locs hw hP hS => ?_)
  · rw [hw.1] at hP
    replace h := it_t h hw.2
    refine lv_ifnullN (tgt := 27) hx hb dX7_met_8 (by decide) ?_
    refine lv_iconst (v := (-1)) hx hb dX7_met_27 (by decide) ?_
    exact r_iret C0 X hP hS hr hlk dX7_met_28 (rt2 h)
  · rw [hw.1] at hP
    obtain ⟨-, j_1, hj_1, ej_1, l9, rfl⟩ := hw
    replace h := it_f h (nocart ej_1 hj_1 l9)
    obtain ⟨k9, ek9, h⟩ := bnd h
    replace ek9 := ix_s ek9 (by decide)
    obtain rfl : j_1 = k9 := nI_inj (ej_1.symm.trans ek9.1) (by omega) (by have := ek9.2; omega)
    refine lv_ifnull hx hb dX7_met_8 ?_
    refine lv_aload_n hx hb dX7_met_11 rfl (lv_at hl 0 rfl) ?_
    refine gf_X7_12 C0 X hP 66 (q := 0) ⟨by decide, rfl⟩ (by omega) rfl dX7_met_12 ?_
    refine lv_iload_n hx hb dX7_met_15 rfl (lv_at hl 2 rfl) ?_
    refine r_cq X hS (r_runV (As := [.int x2]) (rest := []) C0 X hP L_X7_99 (fun sz => c_X6_cartAt l D cA ad o σ 0 x2 (by decide) sz) (show 0 < 106 ∧ kd 0 = (6, 11) from ⟨by decide, rfl⟩).1 (show 0 < 106 ∧ kd 0 = (6, 11) from ⟨by decide, rfl⟩).2 (by decide) rfl ⟨Nat.le_of_ble_eq_true rfl, Nat.le_of_ble_eq_true rfl⟩ rfl hl.1 rfl (Nat.le_of_ble_eq_true rfl) dX7_met_16 ⟨Nat.zero_le _, Nat.zero_le _⟩) (fun σ9 H locs hw hP hS => ?_) (fun x9 σ9 H locs hw hP hS => ?_)
    · rw [hw.1] at hP
      replace h := it_t h hw.2
      refine lv_ifnullN (tgt := 27) hx hb dX7_met_19 (by decide) ?_
      refine lv_iconst (v := (-1)) hx hb dX7_met_27 (by decide) ?_
      exact r_iret C0 X hP hS hr hlk dX7_met_28 (rt2 h)
    · rw [hw.1] at hP
      obtain ⟨-, j_2, hj_2, ej_2, l9, rfl⟩ := hw
      replace h := it_f h (nocart ej_2 hj_2 l9)
      obtain ⟨k9, ek9, h⟩ := bnd h
      replace ek9 := ix_s ek9 (by decide)
      obtain rfl : j_2 = k9 := nI_inj (ej_2.symm.trans ek9.1) (by omega) (by have := ek9.2; omega)
      refine lv_ifnull hx hb dX7_met_19 ?_
      refine lv_iload_n hx hb dX7_met_22 rfl (lv_at hl 1 rfl) ?_
      refine lv_iload_n hx hb dX7_met_23 rfl (lv_at hl 2 rfl) ?_
      refine lv_icmp_ne (tgt := 29) hx hb dX7_met_24 (by decide) (fun c_3 => ?_) (fun c_3 => ?_)
      · replace h := it_f h c_3
        refine lv_aload_n hx hb dX7_met_29 rfl (lv_at hl 0 rfl) ?_
        refine gf_X7_12 C0 X hP 66 (q := 0) ⟨by decide, rfl⟩ (by omega) rfl dX7_met_30 ?_
        refine gf_X7_70 C0 X hP 0 (q := 1) ⟨by decide, rfl⟩ (by omega) rfl dX7_met_33 ?_
        refine gf_X7_74 C0 X hP 1 ⟨by decide, rfl⟩ dX7_met_36 ?_
        refine lv_if_ne (tgt := 45) hx hb dX7_met_39 (by decide) (fun c_4 => ?_) (fun c_4 => ?_)
        · replace h := it_f h c_4
          refine lv_aload_n hx hb dX7_met_45 rfl (lv_at hl 0 rfl) ?_
          refine gf_X7_19 C0 X hP 66 (q := 44) ⟨by decide, rfl⟩ (by omega) rfl dX7_met_46 ?_
          refine lv_aload_n hx hb dX7_met_49 rfl (lv_at hl 0 rfl) ?_
          refine gf_X7_12 C0 X hP 66 (q := 0) ⟨by decide, rfl⟩ (by omega) rfl dX7_met_50 ?_
          obtain ⟨q_5, h⟩ := ckp h
          refine r_cv X hS (r_runV (As := [.ref (ad 0)]) (rest := []) C0 X hP L_X7_62 (fun sz => c_X6_copyFrom l D cA ad o σ 2 0 (by decide) (by decide) (by decide) (cb01_e q_5) sz) (show 44 < 106 ∧ kd 44 = (6, 11) from ⟨by decide, rfl⟩).1 (show 44 < 106 ∧ kd 44 = (6, 11) from ⟨by decide, rfl⟩).2 (by decide) rfl ⟨Nat.le_of_ble_eq_true rfl, Nat.le_of_ble_eq_true rfl⟩ rfl hl.1 rfl (Nat.le_of_ble_eq_true rfl) dX7_met_53 ⟨Nat.zero_le _, Nat.zero_le _⟩) (fun σ9 H locs hw hP hS => ?_)
          rw [show σ9 = (tcpy σ 2 0) from hw] at hP
          refine lv_aload_n hx hb dX7_met_56 rfl (lv_at hl 0 rfl) ?_
          refine gf_X7_19 C0 X hP 66 (q := 44) ⟨by decide, rfl⟩ (by omega) rfl dX7_met_57 ?_
          refine lv_iload_n hx hb dX7_met_60 rfl (lv_at hl 1 rfl) ?_
          refine lv_iload_n hx hb dX7_met_61 rfl (lv_at hl 2 rfl) ?_
          obtain ⟨σ_6, eσ_6, h⟩ := bnd h
          refine r_cv X hS (r_runV (As := [.int x1, .int x2]) (rest := []) C0 X hP L_X7_255 (fun sz => c_X6_watch l D cA ad o (tcpy σ 2 0) 2 x1 x2 (by decide) σ_6 eσ_6 sz) (show 44 < 106 ∧ kd 44 = (6, 11) from ⟨by decide, rfl⟩).1 (show 44 < 106 ∧ kd 44 = (6, 11) from ⟨by decide, rfl⟩).2 (by decide) rfl ⟨Nat.le_of_ble_eq_true rfl, Nat.le_of_ble_eq_true rfl⟩ rfl hl.1 rfl (Nat.le_of_ble_eq_true rfl) dX7_met_62 ⟨Nat.zero_le _, Nat.zero_le _⟩) (fun σ9 H locs hw hP hS => ?_)
          rw [show σ9 = σ_6 from hw] at hP
          refine lv_aload_n hx hb dX7_met_65 rfl (lv_at hl 0 rfl) ?_
          obtain ⟨σ_7, r_8, eσ_7, h⟩ := bnd2 h
          refine r_ci X hS (r_runV (As := []) (rest := []) C0 X hP L_X7_224 (fun sz => c_X7_costInMind l D cA ad o σ_6   (σ_7, r_8) eσ_7 sz) (show 66 < 106 ∧ kd 66 = (7, 8) from ⟨by decide, rfl⟩).1 (show 66 < 106 ∧ kd 66 = (7, 8) from ⟨by decide, rfl⟩).2 (by decide) rfl ⟨Nat.le_of_ble_eq_true rfl, Nat.le_of_ble_eq_true rfl⟩ rfl hl.1 rfl (Nat.le_of_ble_eq_true rfl) dX7_met_66 ⟨Nat.zero_le _, Nat.zero_le _⟩) (fun r9 σ9 H locs hw hP hS => ?_)
          rw [show σ9 = σ_7 from hw.2] at hP
          rw [show r9 = r_8 from hw.1]
          refine lv_pop hx hb dX7_met_69 rfl ?_
          refine lv_aload_n hx hb dX7_met_70 rfl (lv_at hl 0 rfl) ?_
          refine gf_X7_19 C0 X hP 66 (q := 44) ⟨by decide, rfl⟩ (by omega) rfl dX7_met_71 ?_
          refine gf_X7_258 C0 X hP 44 ⟨by decide, rfl⟩ dX7_met_74 ?_
          refine lv_istore_n (lv' := [(3, .int (σ_7 44 10)), (0, .ref (ad 66)), (1, .int x1), (2, .int x2)]) hx hb dX7_met_77 rfl hl (by decide) rfl (fun ls hl => ?_)
          refine lv_aload_n hx hb dX7_met_78 rfl (lv_at hl 1 rfl) ?_
          refine gf_X7_19 C0 X hP 66 (q := 44) ⟨by decide, rfl⟩ (by omega) rfl dX7_met_79 ?_
          refine lv_bipush (v := (-4)) hx hb dX7_met_82 (by decide) ?_
          refine lv_bipush (v := (-4)) hx hb dX7_met_84 (by decide) ?_
          obtain ⟨σ_9, eσ_9, h⟩ := bnd h
          refine r_cv X hS (r_runV (As := [.int (-4), .int (-4)]) (rest := []) C0 X hP L_X7_255 (fun sz => c_X6_watch l D cA ad o σ_7 2 (-4) (-4) (by decide) σ_9 eσ_9 sz) (show 44 < 106 ∧ kd 44 = (6, 11) from ⟨by decide, rfl⟩).1 (show 44 < 106 ∧ kd 44 = (6, 11) from ⟨by decide, rfl⟩).2 (by decide) rfl ⟨Nat.le_of_ble_eq_true rfl, Nat.le_of_ble_eq_true rfl⟩ rfl hl.1 rfl (Nat.le_of_ble_eq_true rfl) dX7_met_86 ⟨Nat.zero_le _, Nat.zero_le _⟩) (fun σ9 H locs hw hP hS => ?_)
          rw [show σ9 = σ_9 from hw] at hP
          refine lv_iload_n hx hb dX7_met_89 rfl (lv_at hl 0 rfl) ?_
          exact r_iret C0 X hP hS hr hlk dX7_met_90 (rt2 h)
        · replace h := it_t h c_4
          refine lv_bipush (v := (-3)) hx hb dX7_met_42 (by decide) ?_
          exact r_iret C0 X hP hS hr hlk dX7_met_44 (rt2 h)
      · replace h := it_t h c_3
        refine lv_iconst (v := (-1)) hx hb dX7_met_27 (by decide) ?_
        exact r_iret C0 X hP hS hr hlk dX7_met_28 (rt2 h)
def bB_cX7_image : Nat := 0xac9000b40c00b42a0d01b5042a3e00b60c00b42a1000b42a
theorem yB_cX7_image : BYS cX7_image 24 bB_cX7_image := BYS_of (by decide +kernel)
theorem dX7_image_0 : decode cX7_image 0 = .ok (.aload_n 0, 1) := D_42 yB_cX7_image rfl rfl
theorem dX7_image_1 : decode cX7_image 1 = .ok (.getfield 16, 3) := D_180 yB_cX7_image rfl rfl rfl
theorem dX7_image_4 : decode cX7_image 4 = .ok (.aload_n 0, 1) := D_42 yB_cX7_image rfl rfl
theorem dX7_image_5 : decode cX7_image 5 = .ok (.getfield 12, 3) := D_180 yB_cX7_image rfl rfl rfl
theorem dX7_image_8 : decode cX7_image 8 = .ok (.invokevirtual 62, 3) := D_182 yB_cX7_image rfl rfl rfl
theorem dX7_image_11 : decode cX7_image 11 = .ok (.aload_n 0, 1) := D_42 yB_cX7_image rfl rfl
theorem dX7_image_12 : decode cX7_image 12 = .ok (.iconst 1, 1) := D_4 yB_cX7_image rfl rfl
theorem dX7_image_13 : decode cX7_image 13 = .ok (.putfield 269, 3) := D_181 yB_cX7_image rfl rfl rfl
theorem dX7_image_16 : decode cX7_image 16 = .ok (.aload_n 0, 1) := D_42 yB_cX7_image rfl rfl
theorem dX7_image_17 : decode cX7_image 17 = .ok (.getfield 12, 3) := D_180 yB_cX7_image rfl rfl rfl
theorem dX7_image_20 : decode cX7_image 20 = .ok (.getfield 144, 3) := D_180 yB_cX7_image rfl rfl rfl
theorem dX7_image_23 : decode cX7_image 23 = .ok (.ireturn, 1) := D_172 yB_cX7_image rfl rfl
def F_X7_image (σ : Mem)  : Option (Mem × Int32) := ck (cb01 σ 0) <| some ((stm (tcpy σ 1 0) 66 3 1), ((stm (tcpy σ 1 0) 66 3 1) 0 3))
set_option maxHeartbeats 4000000 in
set_option maxRecDepth 100000 in
theorem c_X7_image (l : Launch) (D : va_G) (cA : Nat → ClassId) (ad : Nat → Nat) (o : Int64) (σ : Mem)   (res : Mem × Int32) (h : F_X7_image σ  = some res) (sz : Nat) : Met l yX7_image (WY yX7_image cX7_image 1 (some .int)) (RM 3) (va_Pc [.ref (ad 66)] (PW D cA ad o σ sz)) (va_Qi (fun r σ9 => r = res.2 ∧ σ9 = res.1) (QW D cA ad o) (FA ad sz)) 0 0 (FA ad sz) := by
  refine ct_of (own := RX7) (k := 3) (Qf := va_Qi (fun r σ9 => r = res.2 ∧ σ9 = res.1) (QW D cA ad o)) rfl (by decide) (Nat.le_of_ble_eq_true rfl) (fun p e s m below meth c ls C0 X hr hlk hP hl => ?_) sz
  have hS : va_S (FA ad s.heap.size) s.heap s.heap [] := va_S.rf
  have hl : lv_has ls 1 [(0, .ref (ad 66))] := hl
  obtain ⟨hx, hb, hml, hown, hts⟩ := id C0
  unfold F_X7_image at h
  refine lv_aload_n hx hb dX7_image_0 rfl (lv_at hl 0 rfl) ?_
  refine gf_X7_16 C0 X hP 66 (q := 22) ⟨by decide, rfl⟩ (by omega) rfl dX7_image_1 ?_
  refine lv_aload_n hx hb dX7_image_4 rfl (lv_at hl 0 rfl) ?_
  refine gf_X7_12 C0 X hP 66 (q := 0) ⟨by decide, rfl⟩ (by omega) rfl dX7_image_5 ?_
  obtain ⟨q_1, h⟩ := ckp h
  refine r_cv X hS (r_runV (As := [.ref (ad 0)]) (rest := []) C0 X hP L_X7_62 (fun sz => c_X6_copyFrom l D cA ad o σ 1 0 (by decide) (by decide) (by decide) (cb01_e q_1) sz) (show 22 < 106 ∧ kd 22 = (6, 11) from ⟨by decide, rfl⟩).1 (show 22 < 106 ∧ kd 22 = (6, 11) from ⟨by decide, rfl⟩).2 (by decide) rfl ⟨Nat.le_of_ble_eq_true rfl, Nat.le_of_ble_eq_true rfl⟩ rfl hl.1 rfl (Nat.le_of_ble_eq_true rfl) dX7_image_8 ⟨Nat.zero_le _, Nat.zero_le _⟩) (fun σ9 H locs hw hP hS => ?_)
  rw [show σ9 = (tcpy σ 1 0) from hw] at hP
  refine lv_aload_n hx hb dX7_image_11 rfl (lv_at hl 0 rfl) ?_
  refine lv_iconst (v := 1) hx hb dX7_image_12 (by decide) ?_
  refine pf_X7_269 C0 X hP hS 66 (Or.inr rfl) ⟨by decide, rfl⟩ dX7_image_13 (fun H locs hP hS => ?_)
  refine lv_aload_n hx hb dX7_image_16 rfl (lv_at hl 0 rfl) ?_
  refine gf_X7_12 C0 X hP 66 (q := 0) ⟨by decide, rfl⟩ (by omega) rfl dX7_image_17 ?_
  refine gf_X7_144 C0 X hP 0 ⟨by decide, rfl⟩ dX7_image_20 ?_
  exact r_iret C0 X hP hS hr hlk dX7_image_23 (rt2 h)
def bB_cX7_restore : Nat := 0xac9000b40c00b42a3e00b61000b42a0c00b42aacfd1006009a0d01b42a
theorem yB_cX7_restore : BYS cX7_restore 29 bB_cX7_restore := BYS_of (by decide +kernel)
theorem dX7_restore_0 : decode cX7_restore 0 = .ok (.aload_n 0, 1) := D_42 yB_cX7_restore rfl rfl
theorem dX7_restore_1 : decode cX7_restore 1 = .ok (.getfield 269, 3) := D_180 yB_cX7_restore rfl rfl rfl
theorem dX7_restore_4 : decode cX7_restore 4 = .ok (.ifCond .ne 6, 3) := D_154 yB_cX7_restore rfl rfl (sg_p (m := 32768) (N := 6) rfl rfl rfl)
theorem dX7_restore_7 : decode cX7_restore 7 = .ok (.bipush (-3), 2) := D_16 yB_cX7_restore rfl rfl (sg_n (m := 128) (N := 3) rfl rfl rfl)
theorem dX7_restore_9 : decode cX7_restore 9 = .ok (.ireturn, 1) := D_172 yB_cX7_restore rfl rfl
theorem dX7_restore_10 : decode cX7_restore 10 = .ok (.aload_n 0, 1) := D_42 yB_cX7_restore rfl rfl
theorem dX7_restore_11 : decode cX7_restore 11 = .ok (.getfield 12, 3) := D_180 yB_cX7_restore rfl rfl rfl
theorem dX7_restore_14 : decode cX7_restore 14 = .ok (.aload_n 0, 1) := D_42 yB_cX7_restore rfl rfl
theorem dX7_restore_15 : decode cX7_restore 15 = .ok (.getfield 16, 3) := D_180 yB_cX7_restore rfl rfl rfl
theorem dX7_restore_18 : decode cX7_restore 18 = .ok (.invokevirtual 62, 3) := D_182 yB_cX7_restore rfl rfl rfl
theorem dX7_restore_21 : decode cX7_restore 21 = .ok (.aload_n 0, 1) := D_42 yB_cX7_restore rfl rfl
theorem dX7_restore_22 : decode cX7_restore 22 = .ok (.getfield 12, 3) := D_180 yB_cX7_restore rfl rfl rfl
theorem dX7_restore_25 : decode cX7_restore 25 = .ok (.getfield 144, 3) := D_180 yB_cX7_restore rfl rfl rfl
theorem dX7_restore_28 : decode cX7_restore 28 = .ok (.ireturn, 1) := D_172 yB_cX7_restore rfl rfl
def F_X7_restore (σ : Mem)  : Option (Mem × Int32) := if (σ 66 3) = 0 then (some (σ, (-3))) else (ck (cb01 σ 1) <| some ((tcpy σ 0 1), ((tcpy σ 0 1) 0 3)))
set_option maxHeartbeats 4000000 in
set_option maxRecDepth 100000 in
theorem c_X7_restore (l : Launch) (D : va_G) (cA : Nat → ClassId) (ad : Nat → Nat) (o : Int64) (σ : Mem)   (res : Mem × Int32) (h : F_X7_restore σ  = some res) (sz : Nat) : Met l yX7_restore (WY yX7_restore cX7_restore 1 (some .int)) (RM 3) (va_Pc [.ref (ad 66)] (PW D cA ad o σ sz)) (va_Qi (fun r σ9 => r = res.2 ∧ σ9 = res.1) (QW D cA ad o) (FA ad sz)) 0 0 (FA ad sz) := by
  refine ct_of (own := RX7) (k := 3) (Qf := va_Qi (fun r σ9 => r = res.2 ∧ σ9 = res.1) (QW D cA ad o)) rfl (by decide) (Nat.le_of_ble_eq_true rfl) (fun p e s m below meth c ls C0 X hr hlk hP hl => ?_) sz
  have hS : va_S (FA ad s.heap.size) s.heap s.heap [] := va_S.rf
  have hl : lv_has ls 1 [(0, .ref (ad 66))] := hl
  obtain ⟨hx, hb, hml, hown, hts⟩ := id C0
  unfold F_X7_restore at h
  refine lv_aload_n hx hb dX7_restore_0 rfl (lv_at hl 0 rfl) ?_
  refine gf_X7_269 C0 X hP 66 ⟨by decide, rfl⟩ dX7_restore_1 ?_
  refine lv_if_ne (tgt := 10) hx hb dX7_restore_4 (by decide) (fun c_1 => ?_) (fun c_1 => ?_)
  · replace h := it_f h c_1
    refine lv_aload_n hx hb dX7_restore_10 rfl (lv_at hl 0 rfl) ?_
    refine gf_X7_12 C0 X hP 66 (q := 0) ⟨by decide, rfl⟩ (by omega) rfl dX7_restore_11 ?_
    refine lv_aload_n hx hb dX7_restore_14 rfl (lv_at hl 0 rfl) ?_
    refine gf_X7_16 C0 X hP 66 (q := 22) ⟨by decide, rfl⟩ (by omega) rfl dX7_restore_15 ?_
    obtain ⟨q_2, h⟩ := ckp h
    refine r_cv X hS (r_runV (As := [.ref (ad 22)]) (rest := []) C0 X hP L_X7_62 (fun sz => c_X6_copyFrom l D cA ad o σ 0 1 (by decide) (by decide) (by decide) (cb01_e q_2) sz) (show 0 < 106 ∧ kd 0 = (6, 11) from ⟨by decide, rfl⟩).1 (show 0 < 106 ∧ kd 0 = (6, 11) from ⟨by decide, rfl⟩).2 (by decide) rfl ⟨Nat.le_of_ble_eq_true rfl, Nat.le_of_ble_eq_true rfl⟩ rfl hl.1 rfl (Nat.le_of_ble_eq_true rfl) dX7_restore_18 ⟨Nat.zero_le _, Nat.zero_le _⟩) (fun σ9 H locs hw hP hS => ?_)
    rw [show σ9 = (tcpy σ 0 1) from hw] at hP
    refine lv_aload_n hx hb dX7_restore_21 rfl (lv_at hl 0 rfl) ?_
    refine gf_X7_12 C0 X hP 66 (q := 0) ⟨by decide, rfl⟩ (by omega) rfl dX7_restore_22 ?_
    refine gf_X7_144 C0 X hP 0 ⟨by decide, rfl⟩ dX7_restore_25 ?_
    exact r_iret C0 X hP hS hr hlk dX7_restore_28 (rt2 h)
  · replace h := it_t h c_1
    refine lv_bipush (v := (-3)) hx hb dX7_restore_7 (by decide) ?_
    exact r_iret C0 X hP hS hr hlk dX7_restore_9 (rt2 h)
def bB_cX7_count : Nat := 0xac02ac1601b60c00b42aac64b000b6fd100c00b42a64b000b6fe100c00b42a9600b40c00b42aac1301b64600b40c00b42aac1001b44600b40c00b42aac9600b40c00b42aac4a00b44600b40c00b42a6c00000050000000450000003a00000032000000270000000500000000000000740000000000aa1b
theorem yB_cX7_count : BYS cX7_count 119 bB_cX7_count := BYS_of (by decide +kernel)
theorem dX7_count_0 : decode cX7_count 0 = .ok (.iload_n 1, 1) := D_27 yB_cX7_count rfl rfl
theorem dX7_count_1 : decode cX7_count 1 = .ok (.tableswitch 116 0 5 #[39, 50, 58, 69, 80, 108], 39) := by decide +kernel
theorem dX7_count_40 : decode cX7_count 40 = .ok (.aload_n 0, 1) := D_42 yB_cX7_count rfl rfl
theorem dX7_count_41 : decode cX7_count 41 = .ok (.getfield 12, 3) := D_180 yB_cX7_count rfl rfl rfl
theorem dX7_count_44 : decode cX7_count 44 = .ok (.getfield 70, 3) := D_180 yB_cX7_count rfl rfl rfl
theorem dX7_count_47 : decode cX7_count 47 = .ok (.getfield 74, 3) := D_180 yB_cX7_count rfl rfl rfl
theorem dX7_count_50 : decode cX7_count 50 = .ok (.ireturn, 1) := D_172 yB_cX7_count rfl rfl
theorem dX7_count_51 : decode cX7_count 51 = .ok (.aload_n 0, 1) := D_42 yB_cX7_count rfl rfl
theorem dX7_count_52 : decode cX7_count 52 = .ok (.getfield 12, 3) := D_180 yB_cX7_count rfl rfl rfl
theorem dX7_count_55 : decode cX7_count 55 = .ok (.getfield 150, 3) := D_180 yB_cX7_count rfl rfl rfl
theorem dX7_count_58 : decode cX7_count 58 = .ok (.ireturn, 1) := D_172 yB_cX7_count rfl rfl
theorem dX7_count_59 : decode cX7_count 59 = .ok (.aload_n 0, 1) := D_42 yB_cX7_count rfl rfl
theorem dX7_count_60 : decode cX7_count 60 = .ok (.getfield 12, 3) := D_180 yB_cX7_count rfl rfl rfl
theorem dX7_count_63 : decode cX7_count 63 = .ok (.getfield 70, 3) := D_180 yB_cX7_count rfl rfl rfl
theorem dX7_count_66 : decode cX7_count 66 = .ok (.getfield 272, 3) := D_180 yB_cX7_count rfl rfl rfl
theorem dX7_count_69 : decode cX7_count 69 = .ok (.ireturn, 1) := D_172 yB_cX7_count rfl rfl
theorem dX7_count_70 : decode cX7_count 70 = .ok (.aload_n 0, 1) := D_42 yB_cX7_count rfl rfl
theorem dX7_count_71 : decode cX7_count 71 = .ok (.getfield 12, 3) := D_180 yB_cX7_count rfl rfl rfl
theorem dX7_count_74 : decode cX7_count 74 = .ok (.getfield 70, 3) := D_180 yB_cX7_count rfl rfl rfl
theorem dX7_count_77 : decode cX7_count 77 = .ok (.invokevirtual 275, 3) := D_182 yB_cX7_count rfl rfl rfl
theorem dX7_count_80 : decode cX7_count 80 = .ok (.ireturn, 1) := D_172 yB_cX7_count rfl rfl
theorem dX7_count_81 : decode cX7_count 81 = .ok (.aload_n 0, 1) := D_42 yB_cX7_count rfl rfl
theorem dX7_count_82 : decode cX7_count 82 = .ok (.getfield 12, 3) := D_180 yB_cX7_count rfl rfl rfl
theorem dX7_count_85 : decode cX7_count 85 = .ok (.getfield 150, 3) := D_180 yB_cX7_count rfl rfl rfl
theorem dX7_count_88 : decode cX7_count 88 = .ok (.aload_n 0, 1) := D_42 yB_cX7_count rfl rfl
theorem dX7_count_89 : decode cX7_count 89 = .ok (.getfield 12, 3) := D_180 yB_cX7_count rfl rfl rfl
theorem dX7_count_92 : decode cX7_count 92 = .ok (.bipush (-2), 2) := D_16 yB_cX7_count rfl rfl (sg_n (m := 128) (N := 2) rfl rfl rfl)
theorem dX7_count_94 : decode cX7_count 94 = .ok (.invokevirtual 176, 3) := D_182 yB_cX7_count rfl rfl rfl
theorem dX7_count_97 : decode cX7_count 97 = .ok (.isub, 1) := D_100 yB_cX7_count rfl rfl
theorem dX7_count_98 : decode cX7_count 98 = .ok (.aload_n 0, 1) := D_42 yB_cX7_count rfl rfl
theorem dX7_count_99 : decode cX7_count 99 = .ok (.getfield 12, 3) := D_180 yB_cX7_count rfl rfl rfl
theorem dX7_count_102 : decode cX7_count 102 = .ok (.bipush (-3), 2) := D_16 yB_cX7_count rfl rfl (sg_n (m := 128) (N := 3) rfl rfl rfl)
theorem dX7_count_104 : decode cX7_count 104 = .ok (.invokevirtual 176, 3) := D_182 yB_cX7_count rfl rfl rfl
theorem dX7_count_107 : decode cX7_count 107 = .ok (.isub, 1) := D_100 yB_cX7_count rfl rfl
theorem dX7_count_108 : decode cX7_count 108 = .ok (.ireturn, 1) := D_172 yB_cX7_count rfl rfl
theorem dX7_count_109 : decode cX7_count 109 = .ok (.aload_n 0, 1) := D_42 yB_cX7_count rfl rfl
theorem dX7_count_110 : decode cX7_count 110 = .ok (.getfield 12, 3) := D_180 yB_cX7_count rfl rfl rfl
theorem dX7_count_113 : decode cX7_count 113 = .ok (.invokevirtual 278, 3) := D_182 yB_cX7_count rfl rfl rfl
theorem dX7_count_116 : decode cX7_count 116 = .ok (.ireturn, 1) := D_172 yB_cX7_count rfl rfl
theorem dX7_count_117 : decode cX7_count 117 = .ok (.iconst (-1), 1) := D_2 yB_cX7_count rfl rfl
theorem dX7_count_118 : decode cX7_count 118 = .ok (.ireturn, 1) := D_172 yB_cX7_count rfl rfl
def F_X7_count (σ : Mem) (x1 : Int32) : Option (Int32) := if x1 = 0 then (some (σ 1 0)) else (if x1 = 1 then (some (σ 0 2)) else (if x1 = 2 then (some (σ 1 1)) else (if x1 = 3 then ((F_X4_allRoom σ 0).bind fun r_6 => some r_6) else (if x1 = 4 then ((F_X6_howMany σ 0 (-2)).bind fun r_8 => (F_X6_howMany σ 0 (-3)).bind fun r_9 => some (((σ 0 2) - r_8) - r_9)) else (if x1 = 5 then ((F_X6_allWorth σ 0).bind fun r_11 => some r_11) else (some (-1)))))))
set_option maxHeartbeats 4000000 in
set_option maxRecDepth 100000 in
theorem c_X7_count (l : Launch) (D : va_G) (cA : Nat → ClassId) (ad : Nat → Nat) (o : Int64) (σ : Mem) (x1 : Int32)  (res : Int32) (h : F_X7_count σ x1 = some res) (sz : Nat) : Met l yX7_count (WY yX7_count cX7_count 2 (some .int)) (RM 1) (va_Pc [.ref (ad 66), .int x1] (PW D cA ad o σ sz)) (va_Qi (fun r σ9 => r = res ∧ σ9 = σ) (QW D cA ad o) (FA ad sz)) 0 0 (FA ad sz) := by
  refine ct_of (own := RX7) (k := 1) (Qf := va_Qi (fun r σ9 => r = res ∧ σ9 = σ) (QW D cA ad o)) rfl (by decide) (Nat.le_of_ble_eq_true rfl) (fun p e s m below meth c ls C0 X hr hlk hP hl => ?_) sz
  have hS : va_S (FA ad s.heap.size) s.heap s.heap [] := va_S.rf
  have hl : lv_has ls 2 [(0, .ref (ad 66)), (1, .int x1)] := hl
  obtain ⟨hx, hb, hml, hown, hts⟩ := id C0
  unfold F_X7_count at h
  refine lv_iload_n hx hb dX7_count_0 rfl (lv_at hl 1 rfl) ?_
  rcases sw_in (x := x1) (lo := 0) (n := 6) with c_1 | ⟨j, hj, c_1⟩
  · replace h := it_f h (sw_ne (v := 0) c_1 (by decide))
    replace h := it_f h (sw_ne (v := 1) c_1 (by decide))
    replace h := it_f h (sw_ne (v := 2) c_1 (by decide))
    replace h := it_f h (sw_ne (v := 3) c_1 (by decide))
    replace h := it_f h (sw_ne (v := 4) c_1 (by decide))
    replace h := it_f h (sw_ne (v := 5) c_1 (by decide))
    refine lv_tableOut (tgt := 117) hx hb dX7_count_1 (by omega) (by decide) ?_
    refine lv_iconst (v := (-1)) hx hb dX7_count_117 (by decide) ?_
    exact r_iret C0 X hP hS hr hlk dX7_count_118 ⟨Option.some.inj h, rfl⟩
  · rcases (show j = 0 ∨ j = 1 ∨ j = 2 ∨ j = 3 ∨ j = 4 ∨ j = 5 by omega) with rfl | rfl | rfl | rfl | rfl | rfl
    · have e_2 : x1 = 0 := sw_eq c_1 (by decide)
      replace h := it_t h e_2
      refine lv_tableIn (off := 39) (tgt := 40) hx hb dX7_count_1 (by rw [e_2]; decide) (by rw [e_2]; decide) (by rw [e_2]; rfl) (by decide) ?_
      refine lv_aload_n hx hb dX7_count_40 rfl (lv_at hl 0 rfl) ?_
      refine gf_X7_12 C0 X hP 66 (q := 0) ⟨by decide, rfl⟩ (by omega) rfl dX7_count_41 ?_
      refine gf_X7_70 C0 X hP 0 (q := 1) ⟨by decide, rfl⟩ (by omega) rfl dX7_count_44 ?_
      refine gf_X7_74 C0 X hP 1 ⟨by decide, rfl⟩ dX7_count_47 ?_
      exact r_iret C0 X hP hS hr hlk dX7_count_50 ⟨Option.some.inj h, rfl⟩
    · have e_3 : x1 = 1 := sw_eq c_1 (by decide)
      replace h := it_f h (show ¬ x1 = 0 by rw [e_3]; decide)
      replace h := it_t h e_3
      refine lv_tableIn (off := 50) (tgt := 51) hx hb dX7_count_1 (by rw [e_3]; decide) (by rw [e_3]; decide) (by rw [e_3]; rfl) (by decide) ?_
      refine lv_aload_n hx hb dX7_count_51 rfl (lv_at hl 0 rfl) ?_
      refine gf_X7_12 C0 X hP 66 (q := 0) ⟨by decide, rfl⟩ (by omega) rfl dX7_count_52 ?_
      refine gf_X7_150 C0 X hP 0 ⟨by decide, rfl⟩ dX7_count_55 ?_
      exact r_iret C0 X hP hS hr hlk dX7_count_58 ⟨Option.some.inj h, rfl⟩
    · have e_4 : x1 = 2 := sw_eq c_1 (by decide)
      replace h := it_f h (show ¬ x1 = 0 by rw [e_4]; decide)
      replace h := it_f h (show ¬ x1 = 1 by rw [e_4]; decide)
      replace h := it_t h e_4
      refine lv_tableIn (off := 58) (tgt := 59) hx hb dX7_count_1 (by rw [e_4]; decide) (by rw [e_4]; decide) (by rw [e_4]; rfl) (by decide) ?_
      refine lv_aload_n hx hb dX7_count_59 rfl (lv_at hl 0 rfl) ?_
      refine gf_X7_12 C0 X hP 66 (q := 0) ⟨by decide, rfl⟩ (by omega) rfl dX7_count_60 ?_
      refine gf_X7_70 C0 X hP 0 (q := 1) ⟨by decide, rfl⟩ (by omega) rfl dX7_count_63 ?_
      refine gf_X7_272 C0 X hP 1 ⟨by decide, rfl⟩ dX7_count_66 ?_
      exact r_iret C0 X hP hS hr hlk dX7_count_69 ⟨Option.some.inj h, rfl⟩
    · have e_5 : x1 = 3 := sw_eq c_1 (by decide)
      replace h := it_f h (show ¬ x1 = 0 by rw [e_5]; decide)
      replace h := it_f h (show ¬ x1 = 1 by rw [e_5]; decide)
      replace h := it_f h (show ¬ x1 = 2 by rw [e_5]; decide)
      replace h := it_t h e_5
      refine lv_tableIn (off := 69) (tgt := 70) hx hb dX7_count_1 (by rw [e_5]; decide) (by rw [e_5]; decide) (by rw [e_5]; rfl) (by decide) ?_
      refine lv_aload_n hx hb dX7_count_70 rfl (lv_at hl 0 rfl) ?_
      refine gf_X7_12 C0 X hP 66 (q := 0) ⟨by decide, rfl⟩ (by omega) rfl dX7_count_71 ?_
      refine gf_X7_70 C0 X hP 0 (q := 1) ⟨by decide, rfl⟩ (by omega) rfl dX7_count_74 ?_
      obtain ⟨r_6, er_6, h⟩ := bnd h
      refine r_ci X hS (r_runV (As := []) (rest := []) C0 X hP L_X7_275 (fun sz => c_X4_allRoom l D cA ad o σ 0 (by decide) r_6 er_6 sz) (show 1 < 106 ∧ kd 1 = (4, 13) from ⟨by decide, rfl⟩).1 (show 1 < 106 ∧ kd 1 = (4, 13) from ⟨by decide, rfl⟩).2 (by decide) rfl ⟨Nat.le_of_ble_eq_true rfl, Nat.le_of_ble_eq_true rfl⟩ rfl hl.1 rfl (Nat.le_of_ble_eq_true rfl) dX7_count_77 ⟨Nat.zero_le _, Nat.zero_le _⟩) (fun r9 σ9 H locs hw hP hS => ?_)
      rw [hw.2] at hP
      rw [hw.1]
      exact r_iret C0 X hP hS hr hlk dX7_count_80 ⟨Option.some.inj h, rfl⟩
    · have e_7 : x1 = 4 := sw_eq c_1 (by decide)
      replace h := it_f h (show ¬ x1 = 0 by rw [e_7]; decide)
      replace h := it_f h (show ¬ x1 = 1 by rw [e_7]; decide)
      replace h := it_f h (show ¬ x1 = 2 by rw [e_7]; decide)
      replace h := it_f h (show ¬ x1 = 3 by rw [e_7]; decide)
      replace h := it_t h e_7
      refine lv_tableIn (off := 80) (tgt := 81) hx hb dX7_count_1 (by rw [e_7]; decide) (by rw [e_7]; decide) (by rw [e_7]; rfl) (by decide) ?_
      refine lv_aload_n hx hb dX7_count_81 rfl (lv_at hl 0 rfl) ?_
      refine gf_X7_12 C0 X hP 66 (q := 0) ⟨by decide, rfl⟩ (by omega) rfl dX7_count_82 ?_
      refine gf_X7_150 C0 X hP 0 ⟨by decide, rfl⟩ dX7_count_85 ?_
      refine lv_aload_n hx hb dX7_count_88 rfl (lv_at hl 0 rfl) ?_
      refine gf_X7_12 C0 X hP 66 (q := 0) ⟨by decide, rfl⟩ (by omega) rfl dX7_count_89 ?_
      refine lv_bipush (v := (-2)) hx hb dX7_count_92 (by decide) ?_
      obtain ⟨r_8, er_8, h⟩ := bnd h
      refine r_ci X hS (r_runV (As := [.int (-2)]) (rest := [.int (σ 0 2)]) C0 X hP L_X7_176 (fun sz => c_X6_howMany l D cA ad o σ 0 (-2) (by decide) r_8 er_8 sz) (show 0 < 106 ∧ kd 0 = (6, 11) from ⟨by decide, rfl⟩).1 (show 0 < 106 ∧ kd 0 = (6, 11) from ⟨by decide, rfl⟩).2 (by decide) rfl ⟨Nat.le_of_ble_eq_true rfl, Nat.le_of_ble_eq_true rfl⟩ rfl hl.1 rfl (Nat.le_of_ble_eq_true rfl) dX7_count_94 ⟨Nat.zero_le _, Nat.zero_le _⟩) (fun r9 σ9 H locs hw hP hS => ?_)
      rw [hw.2] at hP
      rw [hw.1]
      refine lv_isub hx hb dX7_count_97 ?_
      refine lv_aload_n hx hb dX7_count_98 rfl (lv_at hl 0 rfl) ?_
      refine gf_X7_12 C0 X hP 66 (q := 0) ⟨by decide, rfl⟩ (by omega) rfl dX7_count_99 ?_
      refine lv_bipush (v := (-3)) hx hb dX7_count_102 (by decide) ?_
      obtain ⟨r_9, er_9, h⟩ := bnd h
      refine r_ci X hS (r_runV (As := [.int (-3)]) (rest := [.int ((σ 0 2) - r_8)]) C0 X hP L_X7_176 (fun sz => c_X6_howMany l D cA ad o σ 0 (-3) (by decide) r_9 er_9 sz) (show 0 < 106 ∧ kd 0 = (6, 11) from ⟨by decide, rfl⟩).1 (show 0 < 106 ∧ kd 0 = (6, 11) from ⟨by decide, rfl⟩).2 (by decide) rfl ⟨Nat.le_of_ble_eq_true rfl, Nat.le_of_ble_eq_true rfl⟩ rfl hl.1 rfl (Nat.le_of_ble_eq_true rfl) dX7_count_104 ⟨Nat.zero_le _, Nat.zero_le _⟩) (fun r9 σ9 H locs hw hP hS => ?_)
      rw [hw.2] at hP
      rw [hw.1]
      refine lv_isub hx hb dX7_count_107 ?_
      exact r_iret C0 X hP hS hr hlk dX7_count_108 ⟨Option.some.inj h, rfl⟩
    · have e_10 : x1 = 5 := sw_eq c_1 (by decide)
      replace h := it_f h (show ¬ x1 = 0 by rw [e_10]; decide)
      replace h := it_f h (show ¬ x1 = 1 by rw [e_10]; decide)
      replace h := it_f h (show ¬ x1 = 2 by rw [e_10]; decide)
      replace h := it_f h (show ¬ x1 = 3 by rw [e_10]; decide)
      replace h := it_f h (show ¬ x1 = 4 by rw [e_10]; decide)
      replace h := it_t h e_10
      refine lv_tableIn (off := 108) (tgt := 109) hx hb dX7_count_1 (by rw [e_10]; decide) (by rw [e_10]; decide) (by rw [e_10]; rfl) (by decide) ?_
      refine lv_aload_n hx hb dX7_count_109 rfl (lv_at hl 0 rfl) ?_
      refine gf_X7_12 C0 X hP 66 (q := 0) ⟨by decide, rfl⟩ (by omega) rfl dX7_count_110 ?_
      obtain ⟨r_11, er_11, h⟩ := bnd h
      refine r_ci X hS (r_runV (As := []) (rest := []) C0 X hP L_X7_278 (fun sz => c_X6_allWorth l D cA ad o σ 0 (by decide) r_11 er_11 sz) (show 0 < 106 ∧ kd 0 = (6, 11) from ⟨by decide, rfl⟩).1 (show 0 < 106 ∧ kd 0 = (6, 11) from ⟨by decide, rfl⟩).2 (by decide) rfl ⟨Nat.le_of_ble_eq_true rfl, Nat.le_of_ble_eq_true rfl⟩ rfl hl.1 rfl (Nat.le_of_ble_eq_true rfl) dX7_count_113 ⟨Nat.zero_le _, Nat.zero_le _⟩) (fun r9 σ9 H locs hw hP hS => ?_)
      rw [hw.2] at hP
      rw [hw.1]
      exact r_iret C0 X hP hS hr hlk dX7_count_116 ⟨Option.some.inj h, rfl⟩
def bB_cX7_keep : Nat := 0xac038100b5041505197f00b51d05193600b5040519ac020500a4091004150a009b04150f00a208101d15009b1dac033600b50305190b009a1cac020500a4041c08009b1c0c00c60519053a3200b61b2a
theorem yB_cX7_keep : BYS cX7_keep 80 bB_cX7_keep := BYS_of (by decide +kernel)
theorem dX7_keep_0 : decode cX7_keep 0 = .ok (.aload_n 0, 1) := D_42 yB_cX7_keep rfl rfl
theorem dX7_keep_1 : decode cX7_keep 1 = .ok (.iload_n 1, 1) := D_27 yB_cX7_keep rfl rfl
theorem dX7_keep_2 : decode cX7_keep 2 = .ok (.invokevirtual 50, 3) := D_182 yB_cX7_keep rfl rfl rfl
theorem dX7_keep_5 : decode cX7_keep 5 = .ok (.astore 5, 2) := D_58 yB_cX7_keep rfl rfl rfl
theorem dX7_keep_7 : decode cX7_keep 7 = .ok (.aload 5, 2) := D_25 yB_cX7_keep rfl rfl rfl
theorem dX7_keep_9 : decode cX7_keep 9 = .ok (.ifnull 12, 3) := D_198 yB_cX7_keep rfl rfl (sg_p (m := 32768) (N := 12) rfl rfl rfl)
theorem dX7_keep_12 : decode cX7_keep 12 = .ok (.iload_n 2, 1) := D_28 yB_cX7_keep rfl rfl
theorem dX7_keep_13 : decode cX7_keep 13 = .ok (.ifCond .lt 8, 3) := D_155 yB_cX7_keep rfl rfl (sg_p (m := 32768) (N := 8) rfl rfl rfl)
theorem dX7_keep_16 : decode cX7_keep 16 = .ok (.iload_n 2, 1) := D_28 yB_cX7_keep rfl rfl
theorem dX7_keep_17 : decode cX7_keep 17 = .ok (.iconst 1, 1) := D_4 yB_cX7_keep rfl rfl
theorem dX7_keep_18 : decode cX7_keep 18 = .ok (.if_icmp .le 5, 3) := D_164 yB_cX7_keep rfl rfl (sg_p (m := 32768) (N := 5) rfl rfl rfl)
theorem dX7_keep_21 : decode cX7_keep 21 = .ok (.iconst (-1), 1) := D_2 yB_cX7_keep rfl rfl
theorem dX7_keep_22 : decode cX7_keep 22 = .ok (.ireturn, 1) := D_172 yB_cX7_keep rfl rfl
theorem dX7_keep_23 : decode cX7_keep 23 = .ok (.iload_n 2, 1) := D_28 yB_cX7_keep rfl rfl
theorem dX7_keep_24 : decode cX7_keep 24 = .ok (.ifCond .ne 11, 3) := D_154 yB_cX7_keep rfl rfl (sg_p (m := 32768) (N := 11) rfl rfl rfl)
theorem dX7_keep_27 : decode cX7_keep 27 = .ok (.aload 5, 2) := D_25 yB_cX7_keep rfl rfl rfl
theorem dX7_keep_29 : decode cX7_keep 29 = .ok (.iconst 0, 1) := D_3 yB_cX7_keep rfl rfl
theorem dX7_keep_30 : decode cX7_keep 30 = .ok (.putfield 54, 3) := D_181 yB_cX7_keep rfl rfl rfl
theorem dX7_keep_33 : decode cX7_keep 33 = .ok (.iconst 0, 1) := D_3 yB_cX7_keep rfl rfl
theorem dX7_keep_34 : decode cX7_keep 34 = .ok (.ireturn, 1) := D_172 yB_cX7_keep rfl rfl
theorem dX7_keep_35 : decode cX7_keep 35 = .ok (.iload_n 3, 1) := D_29 yB_cX7_keep rfl rfl
theorem dX7_keep_36 : decode cX7_keep 36 = .ok (.ifCond .lt 21, 3) := D_155 yB_cX7_keep rfl rfl (sg_p (m := 32768) (N := 21) rfl rfl rfl)
theorem dX7_keep_39 : decode cX7_keep 39 = .ok (.iload_n 3, 1) := D_29 yB_cX7_keep rfl rfl
theorem dX7_keep_40 : decode cX7_keep 40 = .ok (.bipush 8, 2) := D_16 yB_cX7_keep rfl rfl (sg_p (m := 128) (N := 8) rfl rfl rfl)
theorem dX7_keep_42 : decode cX7_keep 42 = .ok (.if_icmp .ge 15, 3) := D_162 yB_cX7_keep rfl rfl (sg_p (m := 32768) (N := 15) rfl rfl rfl)
theorem dX7_keep_45 : decode cX7_keep 45 = .ok (.iload 4, 2) := D_21 yB_cX7_keep rfl rfl rfl
theorem dX7_keep_47 : decode cX7_keep 47 = .ok (.ifCond .lt 10, 3) := D_155 yB_cX7_keep rfl rfl (sg_p (m := 32768) (N := 10) rfl rfl rfl)
theorem dX7_keep_50 : decode cX7_keep 50 = .ok (.iload 4, 2) := D_21 yB_cX7_keep rfl rfl rfl
theorem dX7_keep_52 : decode cX7_keep 52 = .ok (.bipush 9, 2) := D_16 yB_cX7_keep rfl rfl (sg_p (m := 128) (N := 9) rfl rfl rfl)
theorem dX7_keep_54 : decode cX7_keep 54 = .ok (.if_icmp .le 5, 3) := D_164 yB_cX7_keep rfl rfl (sg_p (m := 32768) (N := 5) rfl rfl rfl)
theorem dX7_keep_57 : decode cX7_keep 57 = .ok (.iconst (-1), 1) := D_2 yB_cX7_keep rfl rfl
theorem dX7_keep_58 : decode cX7_keep 58 = .ok (.ireturn, 1) := D_172 yB_cX7_keep rfl rfl
theorem dX7_keep_59 : decode cX7_keep 59 = .ok (.aload 5, 2) := D_25 yB_cX7_keep rfl rfl rfl
theorem dX7_keep_61 : decode cX7_keep 61 = .ok (.iconst 1, 1) := D_4 yB_cX7_keep rfl rfl
theorem dX7_keep_62 : decode cX7_keep 62 = .ok (.putfield 54, 3) := D_181 yB_cX7_keep rfl rfl rfl
theorem dX7_keep_65 : decode cX7_keep 65 = .ok (.aload 5, 2) := D_25 yB_cX7_keep rfl rfl rfl
theorem dX7_keep_67 : decode cX7_keep 67 = .ok (.iload_n 3, 1) := D_29 yB_cX7_keep rfl rfl
theorem dX7_keep_68 : decode cX7_keep 68 = .ok (.putfield 127, 3) := D_181 yB_cX7_keep rfl rfl rfl
theorem dX7_keep_71 : decode cX7_keep 71 = .ok (.aload 5, 2) := D_25 yB_cX7_keep rfl rfl rfl
theorem dX7_keep_73 : decode cX7_keep 73 = .ok (.iload 4, 2) := D_21 yB_cX7_keep rfl rfl rfl
theorem dX7_keep_75 : decode cX7_keep 75 = .ok (.putfield 129, 3) := D_181 yB_cX7_keep rfl rfl rfl
theorem dX7_keep_78 : decode cX7_keep 78 = .ok (.iconst 0, 1) := D_3 yB_cX7_keep rfl rfl
theorem dX7_keep_79 : decode cX7_keep 79 = .ok (.ireturn, 1) := D_172 yB_cX7_keep rfl rfl
def F_X7_keep (σ : Mem) (x1 : Int32) (x2 : Int32) (x3 : Int32) (x4 : Int32) : Option (Mem × Int32) := if x1 < 0 ∨ 8 ≤ x1 then (some (σ, (-1))) else ((ix 8 x1).bind fun j_1 => if x2 < 0 then (some (σ, (-1))) else (if x2 ≤ 1 then (if x2 = 0 then (some ((stm σ (68 + j_1) 0 0), 0)) else (if x3 < 0 then (some (σ, (-1))) else (if 8 ≤ x3 then (some (σ, (-1))) else (if x4 < 0 then (some (σ, (-1))) else (if x4 ≤ 9 then (some ((stm (stm (stm σ (68 + j_1) 0 1) (68 + j_1) 1 x3) (68 + j_1) 2 x4), 0)) else (some (σ, (-1)))))))) else (some (σ, (-1)))))
set_option maxHeartbeats 4000000 in
set_option maxRecDepth 100000 in
theorem c_X7_keep (l : Launch) (D : va_G) (cA : Nat → ClassId) (ad : Nat → Nat) (o : Int64) (σ : Mem) (x1 : Int32) (x2 : Int32) (x3 : Int32) (x4 : Int32)  (res : Mem × Int32) (h : F_X7_keep σ x1 x2 x3 x4 = some res) (sz : Nat) : Met l yX7_keep (WY yX7_keep cX7_keep 6 (some .int)) (RM 1) (va_Pc [.ref (ad 66), .int x1, .int x2, .int x3, .int x4] (PW D cA ad o σ sz)) (va_Qi (fun r σ9 => r = res.2 ∧ σ9 = res.1) (QW D cA ad o) (FA ad sz)) 0 0 (FA ad sz) := by
  refine ct_of (own := RX7) (k := 1) (Qf := va_Qi (fun r σ9 => r = res.2 ∧ σ9 = res.1) (QW D cA ad o)) rfl (by decide) (Nat.le_of_ble_eq_true rfl) (fun p e s m below meth c ls C0 X hr hlk hP hl => ?_) sz
  have hS : va_S (FA ad s.heap.size) s.heap s.heap [] := va_S.rf
  have hl : lv_has ls 6 [(0, .ref (ad 66)), (1, .int x1), (2, .int x2), (3, .int x3), (4, .int x4)] := hl
  obtain ⟨hx, hb, hml, hown, hts⟩ := id C0
  unfold F_X7_keep at h
  refine lv_aload_n hx hb dX7_keep_0 rfl (lv_at hl 0 rfl) ?_
  refine lv_iload_n hx hb dX7_keep_1 rfl (lv_at hl 1 rfl) ?_
  refine r_cq X hS (r_runV (As := [.int x1]) (rest := []) C0 X hP L_X7_50 (fun sz => c_X7_shelfAt l D cA ad o σ x1 sz) (show 66 < 106 ∧ kd 66 = (7, 8) from ⟨by decide, rfl⟩).1 (show 66 < 106 ∧ kd 66 = (7, 8) from ⟨by decide, rfl⟩).2 (by decide) rfl ⟨Nat.le_of_ble_eq_true rfl, Nat.le_of_ble_eq_true rfl⟩ rfl hl.1 rfl (Nat.le_of_ble_eq_true rfl) dX7_keep_2 ⟨Nat.zero_le _, Nat.zero_le _⟩) (fun σ9 H locs hw hP hS => ?_) (fun x9 σ9 H locs hw hP hS => ?_)
  · rw [hw.1] at hP
    replace h := it_t h hw.2
    refine lv_astoreN (lv' := [(5, .null), (0, .ref (ad 66)), (1, .int x1), (2, .int x2), (3, .int x3), (4, .int x4)]) hx hb dX7_keep_5 hl (by decide) rfl (fun ls hl => ?_)
    refine lv_aloadN hx hb dX7_keep_7 (lv_at hl 0 rfl) ?_
    refine lv_ifnullN (tgt := 21) hx hb dX7_keep_9 (by decide) ?_
    refine lv_iconst (v := (-1)) hx hb dX7_keep_21 (by decide) ?_
    exact r_iret C0 X hP hS hr hlk dX7_keep_22 (rt2 h)
  · rw [hw.1] at hP
    obtain ⟨-, j_1, hj_1, ej_1, rfl⟩ := hw
    replace h := it_f h (by rw [ej_1]; exact nosh hj_1)
    obtain ⟨k9, ek9, h⟩ := bnd h
    replace ek9 := ix_s ek9 (by decide)
    obtain rfl : j_1 = k9 := nI_inj (ej_1.symm.trans ek9.1) (by omega) (by have := ek9.2; omega)
    refine lv_astore (lv' := [(5, .ref (ad (68 + j_1))), (0, .ref (ad 66)), (1, .int x1), (2, .int x2), (3, .int x3), (4, .int x4)]) hx hb dX7_keep_5 hl (by decide) rfl (fun ls hl => ?_)
    refine lv_aload hx hb dX7_keep_7 (lv_at hl 0 rfl) ?_
    refine lv_ifnull hx hb dX7_keep_9 ?_
    refine lv_iload_n hx hb dX7_keep_12 rfl (lv_at hl 3 rfl) ?_
    refine lv_if_lt (tgt := 21) hx hb dX7_keep_13 (by decide) (fun c_2 => ?_) (fun c_2 => ?_)
    · replace h := it_t h c_2
      refine lv_iconst (v := (-1)) hx hb dX7_keep_21 (by decide) ?_
      exact r_iret C0 X hP hS hr hlk dX7_keep_22 (rt2 h)
    · replace h := it_f h c_2
      refine lv_iload_n hx hb dX7_keep_16 rfl (lv_at hl 3 rfl) ?_
      refine lv_iconst (v := 1) hx hb dX7_keep_17 (by decide) ?_
      refine lv_icmp_le (tgt := 23) hx hb dX7_keep_18 (by decide) (fun c_3 => ?_) (fun c_3 => ?_)
      · replace h := it_t h c_3
        refine lv_iload_n hx hb dX7_keep_23 rfl (lv_at hl 3 rfl) ?_
        refine lv_if_ne (tgt := 35) hx hb dX7_keep_24 (by decide) (fun c_4 => ?_) (fun c_4 => ?_)
        · replace h := it_f h c_4
          refine lv_iload_n hx hb dX7_keep_35 rfl (lv_at hl 4 rfl) ?_
          refine lv_if_lt (tgt := 57) hx hb dX7_keep_36 (by decide) (fun c_5 => ?_) (fun c_5 => ?_)
          · replace h := it_t h c_5
            refine lv_iconst (v := (-1)) hx hb dX7_keep_57 (by decide) ?_
            exact r_iret C0 X hP hS hr hlk dX7_keep_58 (rt2 h)
          · replace h := it_f h c_5
            refine lv_iload_n hx hb dX7_keep_39 rfl (lv_at hl 4 rfl) ?_
            refine lv_bipush (v := 8) hx hb dX7_keep_40 (by decide) ?_
            refine lv_icmp_ge (tgt := 57) hx hb dX7_keep_42 (by decide) (fun c_6 => ?_) (fun c_6 => ?_)
            · replace h := it_t h c_6
              refine lv_iconst (v := (-1)) hx hb dX7_keep_57 (by decide) ?_
              exact r_iret C0 X hP hS hr hlk dX7_keep_58 (rt2 h)
            · replace h := it_f h c_6
              refine lv_iload hx hb dX7_keep_45 (lv_at hl 5 rfl) ?_
              refine lv_if_lt (tgt := 57) hx hb dX7_keep_47 (by decide) (fun c_7 => ?_) (fun c_7 => ?_)
              · replace h := it_t h c_7
                refine lv_iconst (v := (-1)) hx hb dX7_keep_57 (by decide) ?_
                exact r_iret C0 X hP hS hr hlk dX7_keep_58 (rt2 h)
              · replace h := it_f h c_7
                refine lv_iload hx hb dX7_keep_50 (lv_at hl 5 rfl) ?_
                refine lv_bipush (v := 9) hx hb dX7_keep_52 (by decide) ?_
                refine lv_icmp_le (tgt := 59) hx hb dX7_keep_54 (by decide) (fun c_8 => ?_) (fun c_8 => ?_)
                · replace h := it_t h c_8
                  refine lv_aload hx hb dX7_keep_59 (lv_at hl 0 rfl) ?_
                  refine lv_iconst (v := 1) hx hb dX7_keep_61 (by decide) ?_
                  refine pf_X7_54 C0 X hP hS (68 + j_1) (kdS j_1 hj_1) dX7_keep_62 (fun H locs hP hS => ?_)
                  refine lv_aload hx hb dX7_keep_65 (lv_at hl 0 rfl) ?_
                  refine lv_iload_n hx hb dX7_keep_67 rfl (lv_at hl 4 rfl) ?_
                  refine pf_X7_127 C0 X hP hS (68 + j_1) (kdS j_1 hj_1) dX7_keep_68 (fun H locs hP hS => ?_)
                  refine lv_aload hx hb dX7_keep_71 (lv_at hl 0 rfl) ?_
                  refine lv_iload hx hb dX7_keep_73 (lv_at hl 5 rfl) ?_
                  refine pf_X7_129 C0 X hP hS (68 + j_1) (kdS j_1 hj_1) dX7_keep_75 (fun H locs hP hS => ?_)
                  refine lv_iconst (v := 0) hx hb dX7_keep_78 (by decide) ?_
                  exact r_iret C0 X hP hS hr hlk dX7_keep_79 (rt2 h)
                · replace h := it_f h c_8
                  refine lv_iconst (v := (-1)) hx hb dX7_keep_57 (by decide) ?_
                  exact r_iret C0 X hP hS hr hlk dX7_keep_58 (rt2 h)
        · replace h := it_t h c_4
          refine lv_aload hx hb dX7_keep_27 (lv_at hl 0 rfl) ?_
          refine lv_iconst (v := 0) hx hb dX7_keep_29 (by decide) ?_
          refine pf_X7_54 C0 X hP hS (68 + j_1) (kdS j_1 hj_1) dX7_keep_30 (fun H locs hP hS => ?_)
          refine lv_iconst (v := 0) hx hb dX7_keep_33 (by decide) ?_
          exact r_iret C0 X hP hS hr hlk dX7_keep_34 (rt2 h)
      · replace h := it_f h c_3
        refine lv_iconst (v := (-1)) hx hb dX7_keep_21 (by decide) ?_
        exact r_iret C0 X hP hS hr hlk dX7_keep_22 (rt2 h)
def bB_cX7_row : Nat := 0xac031901b61d1c0419acf21006009c1dac020500a464101d0900a3051c0e009b1c1200c60419043a3200b61b2a
theorem yB_cX7_row : BYS cX7_row 45 bB_cX7_row := BYS_of (by decide +kernel)
theorem dX7_row_0 : decode cX7_row 0 = .ok (.aload_n 0, 1) := D_42 yB_cX7_row rfl rfl
theorem dX7_row_1 : decode cX7_row 1 = .ok (.iload_n 1, 1) := D_27 yB_cX7_row rfl rfl
theorem dX7_row_2 : decode cX7_row 2 = .ok (.invokevirtual 50, 3) := D_182 yB_cX7_row rfl rfl rfl
theorem dX7_row_5 : decode cX7_row 5 = .ok (.astore 4, 2) := D_58 yB_cX7_row rfl rfl rfl
theorem dX7_row_7 : decode cX7_row 7 = .ok (.aload 4, 2) := D_25 yB_cX7_row rfl rfl rfl
theorem dX7_row_9 : decode cX7_row 9 = .ok (.ifnull 18, 3) := D_198 yB_cX7_row rfl rfl (sg_p (m := 32768) (N := 18) rfl rfl rfl)
theorem dX7_row_12 : decode cX7_row 12 = .ok (.iload_n 2, 1) := D_28 yB_cX7_row rfl rfl
theorem dX7_row_13 : decode cX7_row 13 = .ok (.ifCond .lt 14, 3) := D_155 yB_cX7_row rfl rfl (sg_p (m := 32768) (N := 14) rfl rfl rfl)
theorem dX7_row_16 : decode cX7_row 16 = .ok (.iload_n 2, 1) := D_28 yB_cX7_row rfl rfl
theorem dX7_row_17 : decode cX7_row 17 = .ok (.iconst 2, 1) := D_5 yB_cX7_row rfl rfl
theorem dX7_row_18 : decode cX7_row 18 = .ok (.if_icmp .gt 9, 3) := D_163 yB_cX7_row rfl rfl (sg_p (m := 32768) (N := 9) rfl rfl rfl)
theorem dX7_row_21 : decode cX7_row 21 = .ok (.iload_n 3, 1) := D_29 yB_cX7_row rfl rfl
theorem dX7_row_22 : decode cX7_row 22 = .ok (.bipush 100, 2) := D_16 yB_cX7_row rfl rfl (sg_p (m := 128) (N := 100) rfl rfl rfl)
theorem dX7_row_24 : decode cX7_row 24 = .ok (.if_icmp .le 5, 3) := D_164 yB_cX7_row rfl rfl (sg_p (m := 32768) (N := 5) rfl rfl rfl)
theorem dX7_row_27 : decode cX7_row 27 = .ok (.iconst (-1), 1) := D_2 yB_cX7_row rfl rfl
theorem dX7_row_28 : decode cX7_row 28 = .ok (.ireturn, 1) := D_172 yB_cX7_row rfl rfl
theorem dX7_row_29 : decode cX7_row 29 = .ok (.iload_n 3, 1) := D_29 yB_cX7_row rfl rfl
theorem dX7_row_30 : decode cX7_row 30 = .ok (.ifCond .ge 6, 3) := D_156 yB_cX7_row rfl rfl (sg_p (m := 32768) (N := 6) rfl rfl rfl)
theorem dX7_row_33 : decode cX7_row 33 = .ok (.bipush (-14), 2) := D_16 yB_cX7_row rfl rfl (sg_n (m := 128) (N := 14) rfl rfl rfl)
theorem dX7_row_35 : decode cX7_row 35 = .ok (.ireturn, 1) := D_172 yB_cX7_row rfl rfl
theorem dX7_row_36 : decode cX7_row 36 = .ok (.aload 4, 2) := D_25 yB_cX7_row rfl rfl rfl
theorem dX7_row_38 : decode cX7_row 38 = .ok (.iload_n 2, 1) := D_28 yB_cX7_row rfl rfl
theorem dX7_row_39 : decode cX7_row 39 = .ok (.iload_n 3, 1) := D_29 yB_cX7_row rfl rfl
theorem dX7_row_40 : decode cX7_row 40 = .ok (.invokevirtual 281, 3) := D_182 yB_cX7_row rfl rfl rfl
theorem dX7_row_43 : decode cX7_row 43 = .ok (.iconst 0, 1) := D_3 yB_cX7_row rfl rfl
theorem dX7_row_44 : decode cX7_row 44 = .ok (.ireturn, 1) := D_172 yB_cX7_row rfl rfl
def F_X7_row (σ : Mem) (x1 : Int32) (x2 : Int32) (x3 : Int32) : Option (Mem × Int32) := if x1 < 0 ∨ 8 ≤ x1 then (some (σ, (-1))) else ((ix 8 x1).bind fun j_1 => if x2 < 0 then (some (σ, (-1))) else (if 2 < x2 then (some (σ, (-1))) else (if x3 ≤ 100 then (if 0 ≤ x3 then ((F_X5_becomeRow σ j_1 x2 x3).bind fun σ_6 => some (σ_6, 0)) else (some (σ, (-14)))) else (some (σ, (-1))))))
set_option maxHeartbeats 4000000 in
set_option maxRecDepth 100000 in
theorem c_X7_row (l : Launch) (D : va_G) (cA : Nat → ClassId) (ad : Nat → Nat) (o : Int64) (σ : Mem) (x1 : Int32) (x2 : Int32) (x3 : Int32)  (res : Mem × Int32) (h : F_X7_row σ x1 x2 x3 = some res) (sz : Nat) : Met l yX7_row (WY yX7_row cX7_row 5 (some .int)) (RM 1) (va_Pc [.ref (ad 66), .int x1, .int x2, .int x3] (PW D cA ad o σ sz)) (va_Qi (fun r σ9 => r = res.2 ∧ σ9 = res.1) (QW D cA ad o) (FA ad sz)) 0 0 (FA ad sz) := by
  refine ct_of (own := RX7) (k := 1) (Qf := va_Qi (fun r σ9 => r = res.2 ∧ σ9 = res.1) (QW D cA ad o)) rfl (by decide) (Nat.le_of_ble_eq_true rfl) (fun p e s m below meth c ls C0 X hr hlk hP hl => ?_) sz
  have hS : va_S (FA ad s.heap.size) s.heap s.heap [] := va_S.rf
  have hl : lv_has ls 5 [(0, .ref (ad 66)), (1, .int x1), (2, .int x2), (3, .int x3)] := hl
  obtain ⟨hx, hb, hml, hown, hts⟩ := id C0
  unfold F_X7_row at h
  refine lv_aload_n hx hb dX7_row_0 rfl (lv_at hl 0 rfl) ?_
  refine lv_iload_n hx hb dX7_row_1 rfl (lv_at hl 1 rfl) ?_
  refine r_cq X hS (r_runV (As := [.int x1]) (rest := []) C0 X hP L_X7_50 (fun sz => c_X7_shelfAt l D cA ad o σ x1 sz) (show 66 < 106 ∧ kd 66 = (7, 8) from ⟨by decide, rfl⟩).1 (show 66 < 106 ∧ kd 66 = (7, 8) from ⟨by decide, rfl⟩).2 (by decide) rfl ⟨Nat.le_of_ble_eq_true rfl, Nat.le_of_ble_eq_true rfl⟩ rfl hl.1 rfl (Nat.le_of_ble_eq_true rfl) dX7_row_2 ⟨Nat.zero_le _, Nat.zero_le _⟩) (fun σ9 H locs hw hP hS => ?_) (fun x9 σ9 H locs hw hP hS => ?_)
  · rw [hw.1] at hP
    replace h := it_t h hw.2
    refine lv_astoreN (lv' := [(4, .null), (0, .ref (ad 66)), (1, .int x1), (2, .int x2), (3, .int x3)]) hx hb dX7_row_5 hl (by decide) rfl (fun ls hl => ?_)
    refine lv_aloadN hx hb dX7_row_7 (lv_at hl 0 rfl) ?_
    refine lv_ifnullN (tgt := 27) hx hb dX7_row_9 (by decide) ?_
    refine lv_iconst (v := (-1)) hx hb dX7_row_27 (by decide) ?_
    exact r_iret C0 X hP hS hr hlk dX7_row_28 (rt2 h)
  · rw [hw.1] at hP
    obtain ⟨-, j_1, hj_1, ej_1, rfl⟩ := hw
    replace h := it_f h (by rw [ej_1]; exact nosh hj_1)
    obtain ⟨k9, ek9, h⟩ := bnd h
    replace ek9 := ix_s ek9 (by decide)
    obtain rfl : j_1 = k9 := nI_inj (ej_1.symm.trans ek9.1) (by omega) (by have := ek9.2; omega)
    refine lv_astore (lv' := [(4, .ref (ad (68 + j_1))), (0, .ref (ad 66)), (1, .int x1), (2, .int x2), (3, .int x3)]) hx hb dX7_row_5 hl (by decide) rfl (fun ls hl => ?_)
    refine lv_aload hx hb dX7_row_7 (lv_at hl 0 rfl) ?_
    refine lv_ifnull hx hb dX7_row_9 ?_
    refine lv_iload_n hx hb dX7_row_12 rfl (lv_at hl 3 rfl) ?_
    refine lv_if_lt (tgt := 27) hx hb dX7_row_13 (by decide) (fun c_2 => ?_) (fun c_2 => ?_)
    · replace h := it_t h c_2
      refine lv_iconst (v := (-1)) hx hb dX7_row_27 (by decide) ?_
      exact r_iret C0 X hP hS hr hlk dX7_row_28 (rt2 h)
    · replace h := it_f h c_2
      refine lv_iload_n hx hb dX7_row_16 rfl (lv_at hl 3 rfl) ?_
      refine lv_iconst (v := 2) hx hb dX7_row_17 (by decide) ?_
      refine lv_icmp_gt (tgt := 27) hx hb dX7_row_18 (by decide) (fun c_3 => ?_) (fun c_3 => ?_)
      · replace h := it_t h c_3
        refine lv_iconst (v := (-1)) hx hb dX7_row_27 (by decide) ?_
        exact r_iret C0 X hP hS hr hlk dX7_row_28 (rt2 h)
      · replace h := it_f h c_3
        refine lv_iload_n hx hb dX7_row_21 rfl (lv_at hl 4 rfl) ?_
        refine lv_bipush (v := 100) hx hb dX7_row_22 (by decide) ?_
        refine lv_icmp_le (tgt := 29) hx hb dX7_row_24 (by decide) (fun c_4 => ?_) (fun c_4 => ?_)
        · replace h := it_t h c_4
          refine lv_iload_n hx hb dX7_row_29 rfl (lv_at hl 4 rfl) ?_
          refine lv_if_ge (tgt := 36) hx hb dX7_row_30 (by decide) (fun c_5 => ?_) (fun c_5 => ?_)
          · replace h := it_t h c_5
            refine lv_aload hx hb dX7_row_36 (lv_at hl 0 rfl) ?_
            refine lv_iload_n hx hb dX7_row_38 rfl (lv_at hl 3 rfl) ?_
            refine lv_iload_n hx hb dX7_row_39 rfl (lv_at hl 4 rfl) ?_
            obtain ⟨σ_6, eσ_6, h⟩ := bnd h
            refine r_cv X hS (r_runV (As := [.int x2, .int x3]) (rest := []) C0 X hP L_X7_281 (fun sz => c_X5_becomeRow l D cA ad o σ j_1 x2 x3 hj_1 σ_6 eσ_6 sz) (kdS j_1 hj_1).1 (kdS j_1 hj_1).2 (by decide) rfl ⟨Nat.le_of_ble_eq_true rfl, Nat.le_of_ble_eq_true rfl⟩ rfl hl.1 rfl (Nat.le_of_ble_eq_true rfl) dX7_row_40 ⟨Nat.zero_le _, Nat.zero_le _⟩) (fun σ9 H locs hw hP hS => ?_)
            rw [show σ9 = σ_6 from hw] at hP
            refine lv_iconst (v := 0) hx hb dX7_row_43 (by decide) ?_
            exact r_iret C0 X hP hS hr hlk dX7_row_44 (rt2 h)
          · replace h := it_f h c_5
            refine lv_bipush (v := (-14)) hx hb dX7_row_33 (by decide) ?_
            exact r_iret C0 X hP hS hr hlk dX7_row_35 (rt2 h)
        · replace h := it_f h c_4
          refine lv_iconst (v := (-1)) hx hb dX7_row_27 (by decide) ?_
          exact r_iret C0 X hP hS hr hlk dX7_row_28 (rt2 h)
def bB_cX7_put : Nat := 0xac034f1f01b61d04191ccf00b40419acf31006009a1c01b61c0419acf41006009f053600b40419acf51006009a3600b40419ac020500c70419043a3200b61b2a
theorem yB_cX7_put : BYS cX7_put 64 bB_cX7_put := BYS_of (by decide +kernel)
theorem dX7_put_0 : decode cX7_put 0 = .ok (.aload_n 0, 1) := D_42 yB_cX7_put rfl rfl
theorem dX7_put_1 : decode cX7_put 1 = .ok (.iload_n 1, 1) := D_27 yB_cX7_put rfl rfl
theorem dX7_put_2 : decode cX7_put 2 = .ok (.invokevirtual 50, 3) := D_182 yB_cX7_put rfl rfl rfl
theorem dX7_put_5 : decode cX7_put 5 = .ok (.astore 4, 2) := D_58 yB_cX7_put rfl rfl rfl
theorem dX7_put_7 : decode cX7_put 7 = .ok (.aload 4, 2) := D_25 yB_cX7_put rfl rfl rfl
theorem dX7_put_9 : decode cX7_put 9 = .ok (.ifnonnull 5, 3) := D_199 yB_cX7_put rfl rfl (sg_p (m := 32768) (N := 5) rfl rfl rfl)
theorem dX7_put_12 : decode cX7_put 12 = .ok (.iconst (-1), 1) := D_2 yB_cX7_put rfl rfl
theorem dX7_put_13 : decode cX7_put 13 = .ok (.ireturn, 1) := D_172 yB_cX7_put rfl rfl
theorem dX7_put_14 : decode cX7_put 14 = .ok (.aload 4, 2) := D_25 yB_cX7_put rfl rfl rfl
theorem dX7_put_16 : decode cX7_put 16 = .ok (.getfield 54, 3) := D_180 yB_cX7_put rfl rfl rfl
theorem dX7_put_19 : decode cX7_put 19 = .ok (.ifCond .ne 6, 3) := D_154 yB_cX7_put rfl rfl (sg_p (m := 32768) (N := 6) rfl rfl rfl)
theorem dX7_put_22 : decode cX7_put 22 = .ok (.bipush (-11), 2) := D_16 yB_cX7_put rfl rfl (sg_n (m := 128) (N := 11) rfl rfl rfl)
theorem dX7_put_24 : decode cX7_put 24 = .ok (.ireturn, 1) := D_172 yB_cX7_put rfl rfl
theorem dX7_put_25 : decode cX7_put 25 = .ok (.aload 4, 2) := D_25 yB_cX7_put rfl rfl rfl
theorem dX7_put_27 : decode cX7_put 27 = .ok (.getfield 54, 3) := D_180 yB_cX7_put rfl rfl rfl
theorem dX7_put_30 : decode cX7_put 30 = .ok (.iconst 2, 1) := D_5 yB_cX7_put rfl rfl
theorem dX7_put_31 : decode cX7_put 31 = .ok (.if_icmp .eq 6, 3) := D_159 yB_cX7_put rfl rfl (sg_p (m := 32768) (N := 6) rfl rfl rfl)
theorem dX7_put_34 : decode cX7_put 34 = .ok (.bipush (-12), 2) := D_16 yB_cX7_put rfl rfl (sg_n (m := 128) (N := 12) rfl rfl rfl)
theorem dX7_put_36 : decode cX7_put 36 = .ok (.ireturn, 1) := D_172 yB_cX7_put rfl rfl
theorem dX7_put_37 : decode cX7_put 37 = .ok (.aload 4, 2) := D_25 yB_cX7_put rfl rfl rfl
theorem dX7_put_39 : decode cX7_put 39 = .ok (.iload_n 2, 1) := D_28 yB_cX7_put rfl rfl
theorem dX7_put_40 : decode cX7_put 40 = .ok (.invokevirtual 284, 3) := D_182 yB_cX7_put rfl rfl rfl
theorem dX7_put_43 : decode cX7_put 43 = .ok (.ifCond .ne 6, 3) := D_154 yB_cX7_put rfl rfl (sg_p (m := 32768) (N := 6) rfl rfl rfl)
theorem dX7_put_46 : decode cX7_put 46 = .ok (.bipush (-13), 2) := D_16 yB_cX7_put rfl rfl (sg_n (m := 128) (N := 13) rfl rfl rfl)
theorem dX7_put_48 : decode cX7_put 48 = .ok (.ireturn, 1) := D_172 yB_cX7_put rfl rfl
theorem dX7_put_49 : decode cX7_put 49 = .ok (.aload 4, 2) := D_25 yB_cX7_put rfl rfl rfl
theorem dX7_put_51 : decode cX7_put 51 = .ok (.getfield 207, 3) := D_180 yB_cX7_put rfl rfl rfl
theorem dX7_put_54 : decode cX7_put 54 = .ok (.iload_n 2, 1) := D_28 yB_cX7_put rfl rfl
theorem dX7_put_55 : decode cX7_put 55 = .ok (.aload 4, 2) := D_25 yB_cX7_put rfl rfl rfl
theorem dX7_put_57 : decode cX7_put 57 = .ok (.iload_n 3, 1) := D_29 yB_cX7_put rfl rfl
theorem dX7_put_58 : decode cX7_put 58 = .ok (.invokevirtual 287, 3) := D_182 yB_cX7_put rfl rfl rfl
theorem dX7_put_61 : decode cX7_put 61 = .ok (.iastore, 1) := D_79 yB_cX7_put rfl rfl
theorem dX7_put_62 : decode cX7_put 62 = .ok (.iconst 0, 1) := D_3 yB_cX7_put rfl rfl
theorem dX7_put_63 : decode cX7_put 63 = .ok (.ireturn, 1) := D_172 yB_cX7_put rfl rfl
def F_X7_put (σ : Mem) (x1 : Int32) (x2 : Int32) (x3 : Int32) : Option (Mem × Int32) := if x1 < 0 ∨ 8 ≤ x1 then (some (σ, (-1))) else ((ix 8 x1).bind fun j_1 => if (σ (68 + j_1) 0) = 0 then (some (σ, (-11))) else (if (σ (68 + j_1) 0) = 2 then ((F_X5_hasElement σ j_1 x2).bind fun r_4 => if r_4 = 0 then (some (σ, (-13))) else ((F_X5_lowestBits σ j_1 x3).bind fun r_6 => (ix 100 x2).bind fun k_7 => some ((stm σ (76 + j_1) k_7 r_6), 0))) else (some (σ, (-12)))))
set_option maxHeartbeats 4000000 in
set_option maxRecDepth 100000 in
theorem c_X7_put (l : Launch) (D : va_G) (cA : Nat → ClassId) (ad : Nat → Nat) (o : Int64) (σ : Mem) (x1 : Int32) (x2 : Int32) (x3 : Int32)  (res : Mem × Int32) (h : F_X7_put σ x1 x2 x3 = some res) (sz : Nat) : Met l yX7_put (WY yX7_put cX7_put 5 (some .int)) (RM 1) (va_Pc [.ref (ad 66), .int x1, .int x2, .int x3] (PW D cA ad o σ sz)) (va_Qi (fun r σ9 => r = res.2 ∧ σ9 = res.1) (QW D cA ad o) (FA ad sz)) 0 0 (FA ad sz) := by
  refine ct_of (own := RX7) (k := 1) (Qf := va_Qi (fun r σ9 => r = res.2 ∧ σ9 = res.1) (QW D cA ad o)) rfl (by decide) (Nat.le_of_ble_eq_true rfl) (fun p e s m below meth c ls C0 X hr hlk hP hl => ?_) sz
  have hS : va_S (FA ad s.heap.size) s.heap s.heap [] := va_S.rf
  have hl : lv_has ls 5 [(0, .ref (ad 66)), (1, .int x1), (2, .int x2), (3, .int x3)] := hl
  obtain ⟨hx, hb, hml, hown, hts⟩ := id C0
  unfold F_X7_put at h
  refine lv_aload_n hx hb dX7_put_0 rfl (lv_at hl 0 rfl) ?_
  refine lv_iload_n hx hb dX7_put_1 rfl (lv_at hl 1 rfl) ?_
  refine r_cq X hS (r_runV (As := [.int x1]) (rest := []) C0 X hP L_X7_50 (fun sz => c_X7_shelfAt l D cA ad o σ x1 sz) (show 66 < 106 ∧ kd 66 = (7, 8) from ⟨by decide, rfl⟩).1 (show 66 < 106 ∧ kd 66 = (7, 8) from ⟨by decide, rfl⟩).2 (by decide) rfl ⟨Nat.le_of_ble_eq_true rfl, Nat.le_of_ble_eq_true rfl⟩ rfl hl.1 rfl (Nat.le_of_ble_eq_true rfl) dX7_put_2 ⟨Nat.zero_le _, Nat.zero_le _⟩) (fun σ9 H locs hw hP hS => ?_) (fun x9 σ9 H locs hw hP hS => ?_)
  · rw [hw.1] at hP
    replace h := it_t h hw.2
    refine lv_astoreN (lv' := [(4, .null), (0, .ref (ad 66)), (1, .int x1), (2, .int x2), (3, .int x3)]) hx hb dX7_put_5 hl (by decide) rfl (fun ls hl => ?_)
    refine lv_aloadN hx hb dX7_put_7 (lv_at hl 0 rfl) ?_
    refine lv_ifnonnullN hx hb dX7_put_9 ?_
    refine lv_iconst (v := (-1)) hx hb dX7_put_12 (by decide) ?_
    exact r_iret C0 X hP hS hr hlk dX7_put_13 (rt2 h)
  · rw [hw.1] at hP
    obtain ⟨-, j_1, hj_1, ej_1, rfl⟩ := hw
    replace h := it_f h (by rw [ej_1]; exact nosh hj_1)
    obtain ⟨k9, ek9, h⟩ := bnd h
    replace ek9 := ix_s ek9 (by decide)
    obtain rfl : j_1 = k9 := nI_inj (ej_1.symm.trans ek9.1) (by omega) (by have := ek9.2; omega)
    refine lv_astore (lv' := [(4, .ref (ad (68 + j_1))), (0, .ref (ad 66)), (1, .int x1), (2, .int x2), (3, .int x3)]) hx hb dX7_put_5 hl (by decide) rfl (fun ls hl => ?_)
    refine lv_aload hx hb dX7_put_7 (lv_at hl 0 rfl) ?_
    refine lv_ifnonnull (tgt := 14) hx hb dX7_put_9 (by decide) ?_
    refine lv_aload hx hb dX7_put_14 (lv_at hl 0 rfl) ?_
    refine gf_X7_54 C0 X hP (68 + j_1) (kdS j_1 hj_1) dX7_put_16 ?_
    refine lv_if_ne (tgt := 25) hx hb dX7_put_19 (by decide) (fun c_2 => ?_) (fun c_2 => ?_)
    · replace h := it_f h c_2
      refine lv_aload hx hb dX7_put_25 (lv_at hl 0 rfl) ?_
      refine gf_X7_54 C0 X hP (68 + j_1) (kdS j_1 hj_1) dX7_put_27 ?_
      refine lv_iconst (v := 2) hx hb dX7_put_30 (by decide) ?_
      refine lv_icmp_eq (tgt := 37) hx hb dX7_put_31 (by decide) (fun c_3 => ?_) (fun c_3 => ?_)
      · replace h := it_t h c_3
        refine lv_aload hx hb dX7_put_37 (lv_at hl 0 rfl) ?_
        refine lv_iload_n hx hb dX7_put_39 rfl (lv_at hl 3 rfl) ?_
        obtain ⟨r_4, er_4, h⟩ := bnd h
        refine r_ci X hS (r_runV (As := [.int x2]) (rest := []) C0 X hP L_X7_284 (fun sz => c_X5_hasElement l D cA ad o σ j_1 x2 hj_1 r_4 er_4 sz) (kdS j_1 hj_1).1 (kdS j_1 hj_1).2 (by decide) rfl ⟨Nat.le_of_ble_eq_true rfl, Nat.le_of_ble_eq_true rfl⟩ rfl hl.1 rfl (Nat.le_of_ble_eq_true rfl) dX7_put_40 ⟨Nat.zero_le _, Nat.zero_le _⟩) (fun r9 σ9 H locs hw hP hS => ?_)
        rw [hw.2] at hP
        rw [hw.1]
        refine lv_if_ne (tgt := 49) hx hb dX7_put_43 (by decide) (fun c_5 => ?_) (fun c_5 => ?_)
        · replace h := it_f h c_5
          refine lv_aload hx hb dX7_put_49 (lv_at hl 0 rfl) ?_
          refine gf_X7_207 C0 X hP (68 + j_1) (q := (76 + j_1)) (kdS j_1 hj_1) (by omega) (lkS5 j_1 hj_1) dX7_put_51 ?_
          refine lv_iload_n hx hb dX7_put_54 rfl (lv_at hl 3 rfl) ?_
          refine lv_aload hx hb dX7_put_55 (lv_at hl 0 rfl) ?_
          refine lv_iload_n hx hb dX7_put_57 rfl (lv_at hl 4 rfl) ?_
          obtain ⟨r_6, er_6, h⟩ := bnd h
          refine r_ci X hS (r_runV (As := [.int x3]) (rest := [.int x2, .ref (ad (76 + j_1))]) C0 X hP L_X7_287 (fun sz => c_X5_lowestBits l D cA ad o σ j_1 x3 hj_1 r_6 er_6 sz) (kdS j_1 hj_1).1 (kdS j_1 hj_1).2 (by decide) rfl ⟨Nat.le_of_ble_eq_true rfl, Nat.le_of_ble_eq_true rfl⟩ rfl hl.1 rfl (Nat.le_of_ble_eq_true rfl) dX7_put_58 ⟨Nat.zero_le _, Nat.zero_le _⟩) (fun r9 σ9 H locs hw hP hS => ?_)
          rw [hw.2] at hP
          rw [hw.1]
          obtain ⟨k_7, ek_7, h⟩ := bnd h
          replace ek_7 := ix_s ek_7 (by decide)
          refine r_iastN C0 X hP hS (76 + j_1) (k := k_7) (kdV j_1 hj_1) ek_7.1 ek_7.2 dX7_put_61 (fun H locs hP hS => ?_)
          refine lv_iconst (v := 0) hx hb dX7_put_62 (by decide) ?_
          exact r_iret C0 X hP hS hr hlk dX7_put_63 (rt2 h)
        · replace h := it_t h c_5
          refine lv_bipush (v := (-13)) hx hb dX7_put_46 (by decide) ?_
          exact r_iret C0 X hP hS hr hlk dX7_put_48 (rt2 h)
      · replace h := it_f h c_3
        refine lv_bipush (v := (-12)) hx hb dX7_put_34 (by decide) ?_
        exact r_iret C0 X hP hS hr hlk dX7_put_36 (rt2 h)
    · replace h := it_t h c_2
      refine lv_bipush (v := (-11)) hx hb dX7_put_22 (by decide) ?_
      exact r_iret C0 X hP hS hr hlk dX7_put_24 (rt2 h)
def bB_cX7_copy : Nat := 0xac05153601b805150415cf00b407191ccf00b40619acf31006009a3301b60515041507190f00993301b605151c0619acf41006009f3001b407193001b406191000a0053600b407191900a0053600b40619acf51006009a3600b407190b00993600b40619ac020500c707190800c60619073a3200b61d2a063a3200b61b2a
theorem yB_cX7_copy : BYS cX7_copy 126 bB_cX7_copy := BYS_of (by decide +kernel)
theorem dX7_copy_0 : decode cX7_copy 0 = .ok (.aload_n 0, 1) := D_42 yB_cX7_copy rfl rfl
theorem dX7_copy_1 : decode cX7_copy 1 = .ok (.iload_n 1, 1) := D_27 yB_cX7_copy rfl rfl
theorem dX7_copy_2 : decode cX7_copy 2 = .ok (.invokevirtual 50, 3) := D_182 yB_cX7_copy rfl rfl rfl
theorem dX7_copy_5 : decode cX7_copy 5 = .ok (.astore 6, 2) := D_58 yB_cX7_copy rfl rfl rfl
theorem dX7_copy_7 : decode cX7_copy 7 = .ok (.aload_n 0, 1) := D_42 yB_cX7_copy rfl rfl
theorem dX7_copy_8 : decode cX7_copy 8 = .ok (.iload_n 3, 1) := D_29 yB_cX7_copy rfl rfl
theorem dX7_copy_9 : decode cX7_copy 9 = .ok (.invokevirtual 50, 3) := D_182 yB_cX7_copy rfl rfl rfl
theorem dX7_copy_12 : decode cX7_copy 12 = .ok (.astore 7, 2) := D_58 yB_cX7_copy rfl rfl rfl
theorem dX7_copy_14 : decode cX7_copy 14 = .ok (.aload 6, 2) := D_25 yB_cX7_copy rfl rfl rfl
theorem dX7_copy_16 : decode cX7_copy 16 = .ok (.ifnull 8, 3) := D_198 yB_cX7_copy rfl rfl (sg_p (m := 32768) (N := 8) rfl rfl rfl)
theorem dX7_copy_19 : decode cX7_copy 19 = .ok (.aload 7, 2) := D_25 yB_cX7_copy rfl rfl rfl
theorem dX7_copy_21 : decode cX7_copy 21 = .ok (.ifnonnull 5, 3) := D_199 yB_cX7_copy rfl rfl (sg_p (m := 32768) (N := 5) rfl rfl rfl)
theorem dX7_copy_24 : decode cX7_copy 24 = .ok (.iconst (-1), 1) := D_2 yB_cX7_copy rfl rfl
theorem dX7_copy_25 : decode cX7_copy 25 = .ok (.ireturn, 1) := D_172 yB_cX7_copy rfl rfl
theorem dX7_copy_26 : decode cX7_copy 26 = .ok (.aload 6, 2) := D_25 yB_cX7_copy rfl rfl rfl
theorem dX7_copy_28 : decode cX7_copy 28 = .ok (.getfield 54, 3) := D_180 yB_cX7_copy rfl rfl rfl
theorem dX7_copy_31 : decode cX7_copy 31 = .ok (.ifCond .eq 11, 3) := D_153 yB_cX7_copy rfl rfl (sg_p (m := 32768) (N := 11) rfl rfl rfl)
theorem dX7_copy_34 : decode cX7_copy 34 = .ok (.aload 7, 2) := D_25 yB_cX7_copy rfl rfl rfl
theorem dX7_copy_36 : decode cX7_copy 36 = .ok (.getfield 54, 3) := D_180 yB_cX7_copy rfl rfl rfl
theorem dX7_copy_39 : decode cX7_copy 39 = .ok (.ifCond .ne 6, 3) := D_154 yB_cX7_copy rfl rfl (sg_p (m := 32768) (N := 6) rfl rfl rfl)
theorem dX7_copy_42 : decode cX7_copy 42 = .ok (.bipush (-11), 2) := D_16 yB_cX7_copy rfl rfl (sg_n (m := 128) (N := 11) rfl rfl rfl)
theorem dX7_copy_44 : decode cX7_copy 44 = .ok (.ireturn, 1) := D_172 yB_cX7_copy rfl rfl
theorem dX7_copy_45 : decode cX7_copy 45 = .ok (.aload 6, 2) := D_25 yB_cX7_copy rfl rfl rfl
theorem dX7_copy_47 : decode cX7_copy 47 = .ok (.getfield 54, 3) := D_180 yB_cX7_copy rfl rfl rfl
theorem dX7_copy_50 : decode cX7_copy 50 = .ok (.iconst 2, 1) := D_5 yB_cX7_copy rfl rfl
theorem dX7_copy_51 : decode cX7_copy 51 = .ok (.if_icmp .ne 25, 3) := D_160 yB_cX7_copy rfl rfl (sg_p (m := 32768) (N := 25) rfl rfl rfl)
theorem dX7_copy_54 : decode cX7_copy 54 = .ok (.aload 7, 2) := D_25 yB_cX7_copy rfl rfl rfl
theorem dX7_copy_56 : decode cX7_copy 56 = .ok (.getfield 54, 3) := D_180 yB_cX7_copy rfl rfl rfl
theorem dX7_copy_59 : decode cX7_copy 59 = .ok (.iconst 2, 1) := D_5 yB_cX7_copy rfl rfl
theorem dX7_copy_60 : decode cX7_copy 60 = .ok (.if_icmp .ne 16, 3) := D_160 yB_cX7_copy rfl rfl (sg_p (m := 32768) (N := 16) rfl rfl rfl)
theorem dX7_copy_63 : decode cX7_copy 63 = .ok (.aload 6, 2) := D_25 yB_cX7_copy rfl rfl rfl
theorem dX7_copy_65 : decode cX7_copy 65 = .ok (.getfield 304, 3) := D_180 yB_cX7_copy rfl rfl rfl
theorem dX7_copy_68 : decode cX7_copy 68 = .ok (.aload 7, 2) := D_25 yB_cX7_copy rfl rfl rfl
theorem dX7_copy_70 : decode cX7_copy 70 = .ok (.getfield 304, 3) := D_180 yB_cX7_copy rfl rfl rfl
theorem dX7_copy_73 : decode cX7_copy 73 = .ok (.if_icmp .eq 6, 3) := D_159 yB_cX7_copy rfl rfl (sg_p (m := 32768) (N := 6) rfl rfl rfl)
theorem dX7_copy_76 : decode cX7_copy 76 = .ok (.bipush (-12), 2) := D_16 yB_cX7_copy rfl rfl (sg_n (m := 128) (N := 12) rfl rfl rfl)
theorem dX7_copy_78 : decode cX7_copy 78 = .ok (.ireturn, 1) := D_172 yB_cX7_copy rfl rfl
theorem dX7_copy_79 : decode cX7_copy 79 = .ok (.aload 6, 2) := D_25 yB_cX7_copy rfl rfl rfl
theorem dX7_copy_81 : decode cX7_copy 81 = .ok (.iload_n 2, 1) := D_28 yB_cX7_copy rfl rfl
theorem dX7_copy_82 : decode cX7_copy 82 = .ok (.iload 5, 2) := D_21 yB_cX7_copy rfl rfl rfl
theorem dX7_copy_84 : decode cX7_copy 84 = .ok (.invokevirtual 307, 3) := D_182 yB_cX7_copy rfl rfl rfl
theorem dX7_copy_87 : decode cX7_copy 87 = .ok (.ifCond .eq 15, 3) := D_153 yB_cX7_copy rfl rfl (sg_p (m := 32768) (N := 15) rfl rfl rfl)
theorem dX7_copy_90 : decode cX7_copy 90 = .ok (.aload 7, 2) := D_25 yB_cX7_copy rfl rfl rfl
theorem dX7_copy_92 : decode cX7_copy 92 = .ok (.iload 4, 2) := D_21 yB_cX7_copy rfl rfl rfl
theorem dX7_copy_94 : decode cX7_copy 94 = .ok (.iload 5, 2) := D_21 yB_cX7_copy rfl rfl rfl
theorem dX7_copy_96 : decode cX7_copy 96 = .ok (.invokevirtual 307, 3) := D_182 yB_cX7_copy rfl rfl rfl
theorem dX7_copy_99 : decode cX7_copy 99 = .ok (.ifCond .ne 6, 3) := D_154 yB_cX7_copy rfl rfl (sg_p (m := 32768) (N := 6) rfl rfl rfl)
theorem dX7_copy_102 : decode cX7_copy 102 = .ok (.bipush (-13), 2) := D_16 yB_cX7_copy rfl rfl (sg_n (m := 128) (N := 13) rfl rfl rfl)
theorem dX7_copy_104 : decode cX7_copy 104 = .ok (.ireturn, 1) := D_172 yB_cX7_copy rfl rfl
theorem dX7_copy_105 : decode cX7_copy 105 = .ok (.aload 6, 2) := D_25 yB_cX7_copy rfl rfl rfl
theorem dX7_copy_107 : decode cX7_copy 107 = .ok (.getfield 207, 3) := D_180 yB_cX7_copy rfl rfl rfl
theorem dX7_copy_110 : decode cX7_copy 110 = .ok (.iload_n 2, 1) := D_28 yB_cX7_copy rfl rfl
theorem dX7_copy_111 : decode cX7_copy 111 = .ok (.aload 7, 2) := D_25 yB_cX7_copy rfl rfl rfl
theorem dX7_copy_113 : decode cX7_copy 113 = .ok (.getfield 207, 3) := D_180 yB_cX7_copy rfl rfl rfl
theorem dX7_copy_116 : decode cX7_copy 116 = .ok (.iload 4, 2) := D_21 yB_cX7_copy rfl rfl rfl
theorem dX7_copy_118 : decode cX7_copy 118 = .ok (.iload 5, 2) := D_21 yB_cX7_copy rfl rfl rfl
theorem dX7_copy_120 : decode cX7_copy 120 = .ok (.invokestatic 310, 3) := D_184 yB_cX7_copy rfl rfl rfl
theorem dX7_copy_123 : decode cX7_copy 123 = .ok (.iload 5, 2) := D_21 yB_cX7_copy rfl rfl rfl
theorem dX7_copy_125 : decode cX7_copy 125 = .ok (.ireturn, 1) := D_172 yB_cX7_copy rfl rfl
def F_X7_copy (σ : Mem) (x1 : Int32) (x2 : Int32) (x3 : Int32) (x4 : Int32) (x5 : Int32) : Option (Mem × Int32) := if x1 < 0 ∨ 8 ≤ x1 then (if x3 < 0 ∨ 8 ≤ x3 then (some (σ, (-1))) else ((ix 8 x3).bind fun j_2 => some (σ, (-1)))) else ((ix 8 x1).bind fun j_1 => if x3 < 0 ∨ 8 ≤ x3 then (some (σ, (-1))) else ((ix 8 x3).bind fun j_3 => if (σ (68 + j_1) 0) = 0 then (some (σ, (-11))) else (if (σ (68 + j_3) 0) = 0 then (some (σ, (-11))) else (if (σ (68 + j_1) 0) = 2 then (if (σ (68 + j_3) 0) = 2 then (if (σ (68 + j_1) 3) = (σ (68 + j_3) 3) then ((F_X5_hasElements σ j_1 x2 x5).bind fun r_9 => if r_9 = 0 then (some (σ, (-13))) else ((F_X5_hasElements σ j_3 x4 x5).bind fun r_11 => if r_11 = 0 then (some (σ, (-13))) else (ck (cpok x2 x4 x5 100 100) <| some ((cpm σ (76 + j_1) x2.toNatClampNeg (76 + j_3) x4.toNatClampNeg x5.toNatClampNeg), x5)))) else (some (σ, (-12)))) else (some (σ, (-12)))) else (some (σ, (-12)))))))
set_option maxHeartbeats 4000000 in
set_option maxRecDepth 100000 in
theorem c_X7_copy (l : Launch) (D : va_G) (cA : Nat → ClassId) (ad : Nat → Nat) (o : Int64) (σ : Mem) (x1 : Int32) (x2 : Int32) (x3 : Int32) (x4 : Int32) (x5 : Int32)  (res : Mem × Int32) (h : F_X7_copy σ x1 x2 x3 x4 x5 = some res) (sz : Nat) : Met l yX7_copy (WY yX7_copy cX7_copy 8 (some .int)) (RM 1) (va_Pc [.ref (ad 66), .int x1, .int x2, .int x3, .int x4, .int x5] (PW D cA ad o σ sz)) (va_Qi (fun r σ9 => r = res.2 ∧ σ9 = res.1) (QW D cA ad o) (FA ad sz)) 0 0 (FA ad sz) := by
  refine ct_of (own := RX7) (k := 1) (Qf := va_Qi (fun r σ9 => r = res.2 ∧ σ9 = res.1) (QW D cA ad o)) rfl (by decide) (Nat.le_of_ble_eq_true rfl) (fun p e s m below meth c ls C0 X hr hlk hP hl => ?_) sz
  have hS : va_S (FA ad s.heap.size) s.heap s.heap [] := va_S.rf
  have hl : lv_has ls 8 [(0, .ref (ad 66)), (1, .int x1), (2, .int x2), (3, .int x3), (4, .int x4), (5, .int x5)] := hl
  obtain ⟨hx, hb, hml, hown, hts⟩ := id C0
  unfold F_X7_copy at h
  refine lv_aload_n hx hb dX7_copy_0 rfl (lv_at hl 0 rfl) ?_
  refine lv_iload_n hx hb dX7_copy_1 rfl (lv_at hl 1 rfl) ?_
  refine r_cq X hS (r_runV (As := [.int x1]) (rest := []) C0 X hP L_X7_50 (fun sz => c_X7_shelfAt l D cA ad o σ x1 sz) (show 66 < 106 ∧ kd 66 = (7, 8) from ⟨by decide, rfl⟩).1 (show 66 < 106 ∧ kd 66 = (7, 8) from ⟨by decide, rfl⟩).2 (by decide) rfl ⟨Nat.le_of_ble_eq_true rfl, Nat.le_of_ble_eq_true rfl⟩ rfl hl.1 rfl (Nat.le_of_ble_eq_true rfl) dX7_copy_2 ⟨Nat.zero_le _, Nat.zero_le _⟩) (fun σ9 H locs hw hP hS => ?_) (fun x9 σ9 H locs hw hP hS => ?_)
  · rw [hw.1] at hP
    replace h := it_t h hw.2
    refine lv_astoreN (lv' := [(6, .null), (0, .ref (ad 66)), (1, .int x1), (2, .int x2), (3, .int x3), (4, .int x4), (5, .int x5)]) hx hb dX7_copy_5 hl (by decide) rfl (fun ls hl => ?_)
    refine lv_aload_n hx hb dX7_copy_7 rfl (lv_at hl 1 rfl) ?_
    refine lv_iload_n hx hb dX7_copy_8 rfl (lv_at hl 4 rfl) ?_
    refine r_cq X hS (r_runV (As := [.int x3]) (rest := []) C0 X hP L_X7_50 (fun sz => c_X7_shelfAt l D cA ad o σ x3 sz) (show 66 < 106 ∧ kd 66 = (7, 8) from ⟨by decide, rfl⟩).1 (show 66 < 106 ∧ kd 66 = (7, 8) from ⟨by decide, rfl⟩).2 (by decide) rfl ⟨Nat.le_of_ble_eq_true rfl, Nat.le_of_ble_eq_true rfl⟩ rfl hl.1 rfl (Nat.le_of_ble_eq_true rfl) dX7_copy_9 ⟨Nat.zero_le _, Nat.zero_le _⟩) (fun σ9 H locs hw hP hS => ?_) (fun x9 σ9 H locs hw hP hS => ?_)
    · rw [hw.1] at hP
      replace h := it_t h hw.2
      refine lv_astoreN (lv' := [(7, .null), (6, .null), (0, .ref (ad 66)), (1, .int x1), (2, .int x2), (3, .int x3), (4, .int x4), (5, .int x5)]) hx hb dX7_copy_12 hl (by decide) rfl (fun ls hl => ?_)
      refine lv_aloadN hx hb dX7_copy_14 (lv_at hl 1 rfl) ?_
      refine lv_ifnullN (tgt := 24) hx hb dX7_copy_16 (by decide) ?_
      refine lv_iconst (v := (-1)) hx hb dX7_copy_24 (by decide) ?_
      exact r_iret C0 X hP hS hr hlk dX7_copy_25 (rt2 h)
    · rw [hw.1] at hP
      obtain ⟨-, j_2, hj_2, ej_2, rfl⟩ := hw
      replace h := it_f h (by rw [ej_2]; exact nosh hj_2)
      obtain ⟨k9, ek9, h⟩ := bnd h
      replace ek9 := ix_s ek9 (by decide)
      obtain rfl : j_2 = k9 := nI_inj (ej_2.symm.trans ek9.1) (by omega) (by have := ek9.2; omega)
      refine lv_astore (lv' := [(7, .ref (ad (68 + j_2))), (6, .null), (0, .ref (ad 66)), (1, .int x1), (2, .int x2), (3, .int x3), (4, .int x4), (5, .int x5)]) hx hb dX7_copy_12 hl (by decide) rfl (fun ls hl => ?_)
      refine lv_aloadN hx hb dX7_copy_14 (lv_at hl 1 rfl) ?_
      refine lv_ifnullN (tgt := 24) hx hb dX7_copy_16 (by decide) ?_
      refine lv_iconst (v := (-1)) hx hb dX7_copy_24 (by decide) ?_
      exact r_iret C0 X hP hS hr hlk dX7_copy_25 (rt2 h)
  · rw [hw.1] at hP
    obtain ⟨-, j_1, hj_1, ej_1, rfl⟩ := hw
    replace h := it_f h (by rw [ej_1]; exact nosh hj_1)
    obtain ⟨k9, ek9, h⟩ := bnd h
    replace ek9 := ix_s ek9 (by decide)
    obtain rfl : j_1 = k9 := nI_inj (ej_1.symm.trans ek9.1) (by omega) (by have := ek9.2; omega)
    refine lv_astore (lv' := [(6, .ref (ad (68 + j_1))), (0, .ref (ad 66)), (1, .int x1), (2, .int x2), (3, .int x3), (4, .int x4), (5, .int x5)]) hx hb dX7_copy_5 hl (by decide) rfl (fun ls hl => ?_)
    refine lv_aload_n hx hb dX7_copy_7 rfl (lv_at hl 1 rfl) ?_
    refine lv_iload_n hx hb dX7_copy_8 rfl (lv_at hl 4 rfl) ?_
    refine r_cq X hS (r_runV (As := [.int x3]) (rest := []) C0 X hP L_X7_50 (fun sz => c_X7_shelfAt l D cA ad o σ x3 sz) (show 66 < 106 ∧ kd 66 = (7, 8) from ⟨by decide, rfl⟩).1 (show 66 < 106 ∧ kd 66 = (7, 8) from ⟨by decide, rfl⟩).2 (by decide) rfl ⟨Nat.le_of_ble_eq_true rfl, Nat.le_of_ble_eq_true rfl⟩ rfl hl.1 rfl (Nat.le_of_ble_eq_true rfl) dX7_copy_9 ⟨Nat.zero_le _, Nat.zero_le _⟩) (fun σ9 H locs hw hP hS => ?_) (fun x9 σ9 H locs hw hP hS => ?_)
    · rw [hw.1] at hP
      replace h := it_t h hw.2
      refine lv_astoreN (lv' := [(7, .null), (6, .ref (ad (68 + j_1))), (0, .ref (ad 66)), (1, .int x1), (2, .int x2), (3, .int x3), (4, .int x4), (5, .int x5)]) hx hb dX7_copy_12 hl (by decide) rfl (fun ls hl => ?_)
      refine lv_aload hx hb dX7_copy_14 (lv_at hl 1 rfl) ?_
      refine lv_ifnull hx hb dX7_copy_16 ?_
      refine lv_aloadN hx hb dX7_copy_19 (lv_at hl 0 rfl) ?_
      refine lv_ifnonnullN hx hb dX7_copy_21 ?_
      refine lv_iconst (v := (-1)) hx hb dX7_copy_24 (by decide) ?_
      exact r_iret C0 X hP hS hr hlk dX7_copy_25 (rt2 h)
    · rw [hw.1] at hP
      obtain ⟨-, j_3, hj_3, ej_3, rfl⟩ := hw
      replace h := it_f h (by rw [ej_3]; exact nosh hj_3)
      obtain ⟨k9, ek9, h⟩ := bnd h
      replace ek9 := ix_s ek9 (by decide)
      obtain rfl : j_3 = k9 := nI_inj (ej_3.symm.trans ek9.1) (by omega) (by have := ek9.2; omega)
      refine lv_astore (lv' := [(7, .ref (ad (68 + j_3))), (6, .ref (ad (68 + j_1))), (0, .ref (ad 66)), (1, .int x1), (2, .int x2), (3, .int x3), (4, .int x4), (5, .int x5)]) hx hb dX7_copy_12 hl (by decide) rfl (fun ls hl => ?_)
      refine lv_aload hx hb dX7_copy_14 (lv_at hl 1 rfl) ?_
      refine lv_ifnull hx hb dX7_copy_16 ?_
      refine lv_aload hx hb dX7_copy_19 (lv_at hl 0 rfl) ?_
      refine lv_ifnonnull (tgt := 26) hx hb dX7_copy_21 (by decide) ?_
      refine lv_aload hx hb dX7_copy_26 (lv_at hl 1 rfl) ?_
      refine gf_X7_54 C0 X hP (68 + j_1) (kdS j_1 hj_1) dX7_copy_28 ?_
      refine lv_if_eq (tgt := 42) hx hb dX7_copy_31 (by decide) (fun c_4 => ?_) (fun c_4 => ?_)
      · replace h := it_t h c_4
        refine lv_bipush (v := (-11)) hx hb dX7_copy_42 (by decide) ?_
        exact r_iret C0 X hP hS hr hlk dX7_copy_44 (rt2 h)
      · replace h := it_f h c_4
        refine lv_aload hx hb dX7_copy_34 (lv_at hl 0 rfl) ?_
        refine gf_X7_54 C0 X hP (68 + j_3) (kdS j_3 hj_3) dX7_copy_36 ?_
        refine lv_if_ne (tgt := 45) hx hb dX7_copy_39 (by decide) (fun c_5 => ?_) (fun c_5 => ?_)
        · replace h := it_f h c_5
          refine lv_aload hx hb dX7_copy_45 (lv_at hl 1 rfl) ?_
          refine gf_X7_54 C0 X hP (68 + j_1) (kdS j_1 hj_1) dX7_copy_47 ?_
          refine lv_iconst (v := 2) hx hb dX7_copy_50 (by decide) ?_
          refine lv_icmp_ne (tgt := 76) hx hb dX7_copy_51 (by decide) (fun c_6 => ?_) (fun c_6 => ?_)
          · replace h := it_f h c_6
            refine lv_bipush (v := (-12)) hx hb dX7_copy_76 (by decide) ?_
            exact r_iret C0 X hP hS hr hlk dX7_copy_78 (rt2 h)
          · replace h := it_t h c_6
            refine lv_aload hx hb dX7_copy_54 (lv_at hl 0 rfl) ?_
            refine gf_X7_54 C0 X hP (68 + j_3) (kdS j_3 hj_3) dX7_copy_56 ?_
            refine lv_iconst (v := 2) hx hb dX7_copy_59 (by decide) ?_
            refine lv_icmp_ne (tgt := 76) hx hb dX7_copy_60 (by decide) (fun c_7 => ?_) (fun c_7 => ?_)
            · replace h := it_f h c_7
              refine lv_bipush (v := (-12)) hx hb dX7_copy_76 (by decide) ?_
              exact r_iret C0 X hP hS hr hlk dX7_copy_78 (rt2 h)
            · replace h := it_t h c_7
              refine lv_aload hx hb dX7_copy_63 (lv_at hl 1 rfl) ?_
              refine gf_X7_304 C0 X hP (68 + j_1) (kdS j_1 hj_1) dX7_copy_65 ?_
              refine lv_aload hx hb dX7_copy_68 (lv_at hl 0 rfl) ?_
              refine gf_X7_304 C0 X hP (68 + j_3) (kdS j_3 hj_3) dX7_copy_70 ?_
              refine lv_icmp_eq (tgt := 79) hx hb dX7_copy_73 (by decide) (fun c_8 => ?_) (fun c_8 => ?_)
              · replace h := it_t h c_8
                refine lv_aload hx hb dX7_copy_79 (lv_at hl 1 rfl) ?_
                refine lv_iload_n hx hb dX7_copy_81 rfl (lv_at hl 4 rfl) ?_
                refine lv_iload hx hb dX7_copy_82 (lv_at hl 7 rfl) ?_
                obtain ⟨r_9, er_9, h⟩ := bnd h
                refine r_ci X hS (r_runV (As := [.int x2, .int x5]) (rest := []) C0 X hP L_X7_307 (fun sz => c_X5_hasElements l D cA ad o σ j_1 x2 x5 hj_1 r_9 er_9 sz) (kdS j_1 hj_1).1 (kdS j_1 hj_1).2 (by decide) rfl ⟨Nat.le_of_ble_eq_true rfl, Nat.le_of_ble_eq_true rfl⟩ rfl hl.1 rfl (Nat.le_of_ble_eq_true rfl) dX7_copy_84 ⟨Nat.zero_le _, Nat.zero_le _⟩) (fun r9 σ9 H locs hw hP hS => ?_)
                rw [hw.2] at hP
                rw [hw.1]
                refine lv_if_eq (tgt := 102) hx hb dX7_copy_87 (by decide) (fun c_10 => ?_) (fun c_10 => ?_)
                · replace h := it_t h c_10
                  refine lv_bipush (v := (-13)) hx hb dX7_copy_102 (by decide) ?_
                  exact r_iret C0 X hP hS hr hlk dX7_copy_104 (rt2 h)
                · replace h := it_f h c_10
                  refine lv_aload hx hb dX7_copy_90 (lv_at hl 0 rfl) ?_
                  refine lv_iload hx hb dX7_copy_92 (lv_at hl 6 rfl) ?_
                  refine lv_iload hx hb dX7_copy_94 (lv_at hl 7 rfl) ?_
                  obtain ⟨r_11, er_11, h⟩ := bnd h
                  refine r_ci X hS (r_runV (As := [.int x4, .int x5]) (rest := []) C0 X hP L_X7_307 (fun sz => c_X5_hasElements l D cA ad o σ j_3 x4 x5 hj_3 r_11 er_11 sz) (kdS j_3 hj_3).1 (kdS j_3 hj_3).2 (by decide) rfl ⟨Nat.le_of_ble_eq_true rfl, Nat.le_of_ble_eq_true rfl⟩ rfl hl.1 rfl (Nat.le_of_ble_eq_true rfl) dX7_copy_96 ⟨Nat.zero_le _, Nat.zero_le _⟩) (fun r9 σ9 H locs hw hP hS => ?_)
                  rw [hw.2] at hP
                  rw [hw.1]
                  refine lv_if_ne (tgt := 105) hx hb dX7_copy_99 (by decide) (fun c_12 => ?_) (fun c_12 => ?_)
                  · replace h := it_f h c_12
                    refine lv_aload hx hb dX7_copy_105 (lv_at hl 1 rfl) ?_
                    refine gf_X7_207 C0 X hP (68 + j_1) (q := (76 + j_1)) (kdS j_1 hj_1) (by omega) (lkS5 j_1 hj_1) dX7_copy_107 ?_
                    refine lv_iload_n hx hb dX7_copy_110 rfl (lv_at hl 4 rfl) ?_
                    refine lv_aload hx hb dX7_copy_111 (lv_at hl 0 rfl) ?_
                    refine gf_X7_207 C0 X hP (68 + j_3) (q := (76 + j_3)) (kdS j_3 hj_3) (by omega) (lkS5 j_3 hj_3) dX7_copy_113 ?_
                    refine lv_iload hx hb dX7_copy_116 (lv_at hl 6 rfl) ?_
                    refine lv_iload hx hb dX7_copy_118 (lv_at hl 7 rfl) ?_
                    obtain ⟨q_13, h⟩ := ckp h
                    refine r_copyF C0 X hP hS lkWh310 hl.1 (76 + j_1) (76 + j_3) (kdV j_1 hj_1) (kdV j_3 hj_3) q_13 (by decide) (Nat.le_of_ble_eq_true rfl) dX7_copy_120 (fun H locs hP hS => ?_)
                    refine lv_iload hx hb dX7_copy_123 (lv_at hl 7 rfl) ?_
                    exact r_iret C0 X hP hS hr hlk dX7_copy_125 (rt2 h)
                  · replace h := it_t h c_12
                    refine lv_bipush (v := (-13)) hx hb dX7_copy_102 (by decide) ?_
                    exact r_iret C0 X hP hS hr hlk dX7_copy_104 (rt2 h)
              · replace h := it_f h c_8
                refine lv_bipush (v := (-12)) hx hb dX7_copy_76 (by decide) ?_
                exact r_iret C0 X hP hS hr hlk dX7_copy_78 (rt2 h)
        · replace h := it_t h c_5
          refine lv_bipush (v := (-11)) hx hb dX7_copy_42 (by decide) ?_
          exact r_iret C0 X hP hS hr hlk dX7_copy_44 (rt2 h)
def bB_cX7_words : Nat := 0xacf900b88100b42c7f00b42cacf41006009f043600b42cacf51006009a3600b42cac020500c72c4d3200b61b2a
theorem yB_cX7_words : BYS cX7_words 45 bB_cX7_words := BYS_of (by decide +kernel)
theorem dX7_words_0 : decode cX7_words 0 = .ok (.aload_n 0, 1) := D_42 yB_cX7_words rfl rfl
theorem dX7_words_1 : decode cX7_words 1 = .ok (.iload_n 1, 1) := D_27 yB_cX7_words rfl rfl
theorem dX7_words_2 : decode cX7_words 2 = .ok (.invokevirtual 50, 3) := D_182 yB_cX7_words rfl rfl rfl
theorem dX7_words_5 : decode cX7_words 5 = .ok (.astore_n 2, 1) := D_77 yB_cX7_words rfl rfl
theorem dX7_words_6 : decode cX7_words 6 = .ok (.aload_n 2, 1) := D_44 yB_cX7_words rfl rfl
theorem dX7_words_7 : decode cX7_words 7 = .ok (.ifnonnull 5, 3) := D_199 yB_cX7_words rfl rfl (sg_p (m := 32768) (N := 5) rfl rfl rfl)
theorem dX7_words_10 : decode cX7_words 10 = .ok (.iconst (-1), 1) := D_2 yB_cX7_words rfl rfl
theorem dX7_words_11 : decode cX7_words 11 = .ok (.ireturn, 1) := D_172 yB_cX7_words rfl rfl
theorem dX7_words_12 : decode cX7_words 12 = .ok (.aload_n 2, 1) := D_44 yB_cX7_words rfl rfl
theorem dX7_words_13 : decode cX7_words 13 = .ok (.getfield 54, 3) := D_180 yB_cX7_words rfl rfl rfl
theorem dX7_words_16 : decode cX7_words 16 = .ok (.ifCond .ne 6, 3) := D_154 yB_cX7_words rfl rfl (sg_p (m := 32768) (N := 6) rfl rfl rfl)
theorem dX7_words_19 : decode cX7_words 19 = .ok (.bipush (-11), 2) := D_16 yB_cX7_words rfl rfl (sg_n (m := 128) (N := 11) rfl rfl rfl)
theorem dX7_words_21 : decode cX7_words 21 = .ok (.ireturn, 1) := D_172 yB_cX7_words rfl rfl
theorem dX7_words_22 : decode cX7_words 22 = .ok (.aload_n 2, 1) := D_44 yB_cX7_words rfl rfl
theorem dX7_words_23 : decode cX7_words 23 = .ok (.getfield 54, 3) := D_180 yB_cX7_words rfl rfl rfl
theorem dX7_words_26 : decode cX7_words 26 = .ok (.iconst 1, 1) := D_4 yB_cX7_words rfl rfl
theorem dX7_words_27 : decode cX7_words 27 = .ok (.if_icmp .eq 6, 3) := D_159 yB_cX7_words rfl rfl (sg_p (m := 32768) (N := 6) rfl rfl rfl)
theorem dX7_words_30 : decode cX7_words 30 = .ok (.bipush (-12), 2) := D_16 yB_cX7_words rfl rfl (sg_n (m := 128) (N := 12) rfl rfl rfl)
theorem dX7_words_32 : decode cX7_words 32 = .ok (.ireturn, 1) := D_172 yB_cX7_words rfl rfl
theorem dX7_words_33 : decode cX7_words 33 = .ok (.aload_n 2, 1) := D_44 yB_cX7_words rfl rfl
theorem dX7_words_34 : decode cX7_words 34 = .ok (.getfield 127, 3) := D_180 yB_cX7_words rfl rfl rfl
theorem dX7_words_37 : decode cX7_words 37 = .ok (.aload_n 2, 1) := D_44 yB_cX7_words rfl rfl
theorem dX7_words_38 : decode cX7_words 38 = .ok (.getfield 129, 3) := D_180 yB_cX7_words rfl rfl rfl
theorem dX7_words_41 : decode cX7_words 41 = .ok (.invokestatic 249, 3) := D_184 yB_cX7_words rfl rfl rfl
theorem dX7_words_44 : decode cX7_words 44 = .ok (.ireturn, 1) := D_172 yB_cX7_words rfl rfl
def F_X7_words (σ : Mem) (x1 : Int32) : Option (Int32) := if x1 < 0 ∨ 8 ≤ x1 then (some (-1)) else ((ix 8 x1).bind fun j_1 => if (σ (68 + j_1) 0) = 0 then (some (-11)) else (if (σ (68 + j_1) 0) = 1 then ((F_X7_wordsOf σ (σ (68 + j_1) 1) (σ (68 + j_1) 2)).bind fun r_4 => some r_4) else (some (-12))))
set_option maxHeartbeats 4000000 in
set_option maxRecDepth 100000 in
theorem c_X7_words (l : Launch) (D : va_G) (cA : Nat → ClassId) (ad : Nat → Nat) (o : Int64) (σ : Mem) (x1 : Int32)  (res : Int32) (h : F_X7_words σ x1 = some res) (sz : Nat) : Met l yX7_words (WY yX7_words cX7_words 3 (some .int)) (RM 1) (va_Pc [.ref (ad 66), .int x1] (PW D cA ad o σ sz)) (va_Qi (fun r σ9 => r = res ∧ σ9 = σ) (QW D cA ad o) (FA ad sz)) 0 0 (FA ad sz) := by
  refine ct_of (own := RX7) (k := 1) (Qf := va_Qi (fun r σ9 => r = res ∧ σ9 = σ) (QW D cA ad o)) rfl (by decide) (Nat.le_of_ble_eq_true rfl) (fun p e s m below meth c ls C0 X hr hlk hP hl => ?_) sz
  have hS : va_S (FA ad s.heap.size) s.heap s.heap [] := va_S.rf
  have hl : lv_has ls 3 [(0, .ref (ad 66)), (1, .int x1)] := hl
  obtain ⟨hx, hb, hml, hown, hts⟩ := id C0
  unfold F_X7_words at h
  refine lv_aload_n hx hb dX7_words_0 rfl (lv_at hl 0 rfl) ?_
  refine lv_iload_n hx hb dX7_words_1 rfl (lv_at hl 1 rfl) ?_
  refine r_cq X hS (r_runV (As := [.int x1]) (rest := []) C0 X hP L_X7_50 (fun sz => c_X7_shelfAt l D cA ad o σ x1 sz) (show 66 < 106 ∧ kd 66 = (7, 8) from ⟨by decide, rfl⟩).1 (show 66 < 106 ∧ kd 66 = (7, 8) from ⟨by decide, rfl⟩).2 (by decide) rfl ⟨Nat.le_of_ble_eq_true rfl, Nat.le_of_ble_eq_true rfl⟩ rfl hl.1 rfl (Nat.le_of_ble_eq_true rfl) dX7_words_2 ⟨Nat.zero_le _, Nat.zero_le _⟩) (fun σ9 H locs hw hP hS => ?_) (fun x9 σ9 H locs hw hP hS => ?_)
  · rw [hw.1] at hP
    replace h := it_t h hw.2
    refine lv_astore_nN (lv' := [(2, .null), (0, .ref (ad 66)), (1, .int x1)]) hx hb dX7_words_5 rfl hl (by decide) rfl (fun ls hl => ?_)
    refine lv_aload_nN hx hb dX7_words_6 rfl (lv_at hl 0 rfl) ?_
    refine lv_ifnonnullN hx hb dX7_words_7 ?_
    refine lv_iconst (v := (-1)) hx hb dX7_words_10 (by decide) ?_
    exact r_iret C0 X hP hS hr hlk dX7_words_11 ⟨Option.some.inj h, rfl⟩
  · rw [hw.1] at hP
    obtain ⟨-, j_1, hj_1, ej_1, rfl⟩ := hw
    replace h := it_f h (by rw [ej_1]; exact nosh hj_1)
    obtain ⟨k9, ek9, h⟩ := bnd h
    replace ek9 := ix_s ek9 (by decide)
    obtain rfl : j_1 = k9 := nI_inj (ej_1.symm.trans ek9.1) (by omega) (by have := ek9.2; omega)
    refine lv_astore_n (lv' := [(2, .ref (ad (68 + j_1))), (0, .ref (ad 66)), (1, .int x1)]) hx hb dX7_words_5 rfl hl (by decide) rfl (fun ls hl => ?_)
    refine lv_aload_n hx hb dX7_words_6 rfl (lv_at hl 0 rfl) ?_
    refine lv_ifnonnull (tgt := 12) hx hb dX7_words_7 (by decide) ?_
    refine lv_aload_n hx hb dX7_words_12 rfl (lv_at hl 0 rfl) ?_
    refine gf_X7_54 C0 X hP (68 + j_1) (kdS j_1 hj_1) dX7_words_13 ?_
    refine lv_if_ne (tgt := 22) hx hb dX7_words_16 (by decide) (fun c_2 => ?_) (fun c_2 => ?_)
    · replace h := it_f h c_2
      refine lv_aload_n hx hb dX7_words_22 rfl (lv_at hl 0 rfl) ?_
      refine gf_X7_54 C0 X hP (68 + j_1) (kdS j_1 hj_1) dX7_words_23 ?_
      refine lv_iconst (v := 1) hx hb dX7_words_26 (by decide) ?_
      refine lv_icmp_eq (tgt := 33) hx hb dX7_words_27 (by decide) (fun c_3 => ?_) (fun c_3 => ?_)
      · replace h := it_t h c_3
        refine lv_aload_n hx hb dX7_words_33 rfl (lv_at hl 0 rfl) ?_
        refine gf_X7_127 C0 X hP (68 + j_1) (kdS j_1 hj_1) dX7_words_34 ?_
        refine lv_aload_n hx hb dX7_words_37 rfl (lv_at hl 0 rfl) ?_
        refine gf_X7_129 C0 X hP (68 + j_1) (kdS j_1 hj_1) dX7_words_38 ?_
        obtain ⟨r_4, er_4, h⟩ := bnd h
        refine r_ci X hS (r_runS (As := [.int (σ (68 + j_1) 1), .int (σ (68 + j_1) 2)]) (rest := []) C0 X hP L_X7_249 (fun sz => c_X7_wordsOf l D cA ad o σ (σ (68 + j_1) 1) (σ (68 + j_1) 2)  r_4 er_4 sz) ⟨Nat.le_of_ble_eq_true rfl, Nat.le_of_ble_eq_true rfl⟩ rfl hl.1 rfl (Nat.le_of_ble_eq_true rfl) dX7_words_41 ⟨Nat.zero_le _, Nat.zero_le _⟩) (fun r9 σ9 H locs hw hP hS => ?_)
        rw [hw.2] at hP
        rw [hw.1]
        exact r_iret C0 X hP hS hr hlk dX7_words_44 ⟨Option.some.inj h, rfl⟩
      · replace h := it_f h c_3
        refine lv_bipush (v := (-12)) hx hb dX7_words_30 (by decide) ?_
        exact r_iret C0 X hP hS hr hlk dX7_words_32 ⟨Option.some.inj h, rfl⟩
    · replace h := it_t h c_2
      refine lv_bipush (v := (-11)) hx hb dX7_words_19 (by decide) ?_
      exact r_iret C0 X hP hS hr hlk dX7_words_21 ⟨Option.some.inj h, rfl⟩
