section
/-! ROWS: lines of bits, codes, queues -/
def woN (l b : Nat) : Nat := l / 2 ^ (b + 1) * 2 ^ b + l % 2 ^ b
def lgN (l e t : Nat) : Nat := (l / 2 ^ e * 2 + t) * 2 ^ e + l % 2 ^ e
def pcN (l : Nat) : Nat := l % 2 + l / 2 % 2 + l / 4 % 2 + l / 8 % 2 + l / 16 % 2 + l / 32 % 2 + l / 64 % 2
theorem wo_ok : ∀ l, l < 128 → ∀ b, b < 7 → ((nI l >>> ((nI b + 1) &&& 31)) <<< (nI b &&& 31)) ||| (nI l &&& (((1 : Int32) <<< (nI b &&& 31)) - 1)) = nI (woN l b) := by decide +kernel
theorem lg_ok : ∀ l, l < 128 → ∀ e, e < 7 → ∀ t, t < 2 → ((((nI l >>> (nI e &&& 31)) <<< ((1 : Int32) &&& 31)) ||| nI t) <<< (nI e &&& 31)) ||| (nI l &&& (((1 : Int32) <<< (nI e &&& 31)) - 1)) = nI (lgN l e t) := by decide +kernel
theorem ln_ok : ∀ l, l < 128 → ∀ k, k < 8 → ((nI l >>> ((nI k + 1) &&& 31)) = 0 ↔ Nat.log2 l ≤ k) := by decide +kernel
theorem ln_lt : ∀ l, l < 128 → Nat.log2 l < 7 := by decide +kernel
/-- a line's bars: bar carts at the one side, the rest at the other -/
def vc (a b c : Nat) : Prop := c / 128 ≤ Nat.log2 (c % 128) ∧ 1 ≤ c % 128 ∧ pcN (c % 128) - 1 ≤ a ∧ Nat.log2 (c % 128) - (pcN (c % 128) - 1) ≤ b ∧ c < 896
def nbr (a b r x z c : Nat) : List Nat :=
  (if 0 < c / 128 ∧ Nat.log2 (c % 128) - c / 128 < z then [(c / 128 - 1) * 128 + c % 128] else []) ++
  (if 0 < Nat.log2 (c % 128) - c / 128 ∧ c / 128 < x then [(c / 128 + 1) * 128 + c % 128] else []) ++
  (if a + b - Nat.log2 (c % 128) < r ∧ 0 < c / 128 then [(c / 128 - 1) * 128 + woN (c % 128) (Nat.log2 (c % 128) - c / 128)] else []) ++
  (if a + b - Nat.log2 (c % 128) < r ∧ 0 < Nat.log2 (c % 128) - c / 128 then [c / 128 * 128 + woN (c % 128) (Nat.log2 (c % 128) - c / 128 - 1)] else []) ++
  (if pcN (c % 128) - 1 < a ∧ c / 128 < x then [(c / 128 + 1) * 128 + lgN (c % 128) (Nat.log2 (c % 128) - c / 128) 1] else []) ++
  (if pcN (c % 128) - 1 < a ∧ Nat.log2 (c % 128) - c / 128 < z then [c / 128 * 128 + lgN (c % 128) (Nat.log2 (c % 128) - c / 128) 1] else []) ++
  (if Nat.log2 (c % 128) - (pcN (c % 128) - 1) < b ∧ c / 128 < x then [(c / 128 + 1) * 128 + lgN (c % 128) (Nat.log2 (c % 128) - c / 128) 0] else []) ++
  (if Nat.log2 (c % 128) - (pcN (c % 128) - 1) < b ∧ Nat.log2 (c % 128) - c / 128 < z then [c / 128 * 128 + lgN (c % 128) (Nat.log2 (c % 128) - c / 128) 0] else [])
/-- the plain facts of a line: what each move makes of it -/
theorem ln_f1 : ∀ l, l < 128 → (1 ≤ l → 1 ≤ pcN l ∧ pcN l - 1 ≤ Nat.log2 l) := by decide +kernel
theorem ln_f2 : ∀ l, l < 128 → ∀ b, b < 7 → (b < Nat.log2 l → woN l b < 128 ∧ 1 ≤ woN l b ∧ Nat.log2 (woN l b) = Nat.log2 l - 1 ∧ pcN (woN l b) = pcN l - (l / 2 ^ b % 2)) := by decide +kernel
theorem ln_f3a : ∀ l, l < 128 → ∀ e, e < 7 → (1 ≤ l ∧ e ≤ Nat.log2 l ∧ Nat.log2 l < 6 → lgN l e 0 < 128 ∧ 1 ≤ lgN l e 0 ∧ Nat.log2 (lgN l e 0) = Nat.log2 l + 1 ∧ pcN (lgN l e 0) = pcN l) := by decide +kernel
theorem ln_f3b : ∀ l, l < 128 → ∀ e, e < 7 → (1 ≤ l ∧ e ≤ Nat.log2 l ∧ Nat.log2 l < 6 → lgN l e 1 < 128 ∧ 1 ≤ lgN l e 1 ∧ Nat.log2 (lgN l e 1) = Nat.log2 l + 1 ∧ pcN (lgN l e 1) = pcN l + 1) := by decide +kernel
theorem ln_f3 : ∀ l, l < 128 → ∀ e, e < 7 → ∀ t, t < 2 → (1 ≤ l ∧ e ≤ Nat.log2 l ∧ Nat.log2 l < 6 → lgN l e t < 128 ∧ 1 ≤ lgN l e t ∧ Nat.log2 (lgN l e t) = Nat.log2 l + 1 ∧ pcN (lgN l e t) = pcN l + t) := by
  intro l hl e he t ht h
  rcases (show t = 0 ∨ t = 1 by omega) with rfl | rfl
  · exact ln_f3a l hl e he h
  · exact ln_f3b l hl e he h
theorem ln_f4 : ∀ l, l < 128 → ∀ b, b < 7 → (b < Nat.log2 l → pcN (woN l b) - 1 ≤ pcN l - 1 ∧ Nat.log2 l - 1 - (pcN (woN l b) - 1) ≤ Nat.log2 l - (pcN l - 1)) := by decide +kernel
def pushQ (Q : List (Nat × Nat)) (c d : Nat) : List (Nat × Nat) := if c ∈ Q.map Prod.fst then Q else Q ++ [(c, d)]
def foldQ (Q : List (Nat × Nat)) (cs : List Nat) (d : Nat) : List (Nat × Nat) := cs.foldl (fun q c => pushQ q c d) Q
theorem foldQ_app (Q : List (Nat × Nat)) (xs ys : List Nat) (d : Nat) : foldQ Q (xs ++ ys) d = foldQ (foldQ Q xs d) ys d := by simp [foldQ, List.foldl_append]
theorem foldQ_nil (Q : List (Nat × Nat)) (d : Nat) : foldQ Q [] d = Q := rfl
theorem foldQ_one (Q : List (Nat × Nat)) (c d : Nat) : foldQ Q [c] d = pushQ Q c d := rfl
theorem pigeon : ∀ (n : Nat) (l : List Nat), l.Nodup → (∀ c ∈ l, c < n) → l.length ≤ n := by
  intro n
  induction n with
  | zero =>
    intro l _ h
    cases l with
    | nil => exact Nat.le_refl 0
    | cons c r => exact absurd (h c List.mem_cons_self) (Nat.not_lt_zero _)
  | succ n ih =>
    intro l hn h
    have h1 := ih (l.erase n) (hn.erase n) (fun c hc => by
      have h2 := h c (List.mem_of_mem_erase hc)
      have h3 : c ≠ n := fun e => by
        subst e
        exact (List.Nodup.not_mem_erase hn) hc
      omega)
    by_cases hm : n ∈ l
    · rw [List.length_erase_of_mem hm] at h1
      omega
    · rw [List.erase_of_not_mem hm] at h1
      omega
/-- the class's rows hold the queue Q -/
def RepC (Q : List (Nat × Nat)) (σ : Mem) : Prop := σ 88 2 = nI Q.length ∧ (Q.map Prod.fst).Nodup ∧ (∀ k c d : Nat, Q[k]? = some (c, d) → σ 90 k = nI c ∧ σ 89 c = nI d ∧ c < 896 ∧ d ≤ k) ∧ (∀ c, c < 896 → c ∉ Q.map Prod.fst → σ 89 c = -4)
theorem mem_fst {Q : List (Nat × Nat)} {c : Nat} (h : c ∈ Q.map Prod.fst) : ∃ k d : Nat, Q[k]? = some (c, d) := by
  obtain ⟨⟨c', d⟩, hm, rfl⟩ := List.mem_map.mp h
  obtain ⟨k, hk⟩ := List.getElem?_of_mem hm
  exact ⟨k, d, hk⟩
theorem RepC_len {Q : List (Nat × Nat)} {σ : Mem} (h : RepC Q σ) : Q.length ≤ 896 := by
  have := pigeon 896 (Q.map Prod.fst) h.2.1 (fun c hc => by
    obtain ⟨k, d, hk⟩ := mem_fst hc
    exact (h.2.2.1 k c d hk).2.2.1)
  simpa using this
theorem nodup_snoc {l : List Nat} {c : Nat} (h : l.Nodup) (hn : c ∉ l) : (l ++ [c]).Nodup := by
  rw [List.nodup_append]
  exact ⟨h, by simp, fun a ha b hb e => hn (by rw [List.mem_singleton.mp hb] at e; rw [← e]; exact ha)⟩
theorem RepC_new {Q : List (Nat × Nat)} {σ : Mem} (h : RepC Q σ) {c : Nat} (hc : c < 896) (hn : c ∉ Q.map Prod.fst) : Q.length < 896 := by
  have := pigeon 896 ((Q.map Prod.fst) ++ [c]) (by
    rw [List.nodup_append]
    exact ⟨h.2.1, by simp, fun a ha b hb e => hn (by rw [List.mem_singleton.mp hb] at e; rw [← e]; exact ha)⟩) (fun x hx => by
    rcases List.mem_append.mp hx with hx | hx
    · obtain ⟨k, d, hk⟩ := mem_fst hx
      exact (h.2.2.1 k x d hk).2.2.1
    · rw [List.mem_singleton.mp hx]
      exact hc)
  simp at this
  omega
theorem nI_nm4 {d : Nat} (h : d < 2 ^ 31) : ¬ nI d = -4 := fun e => by
  have h1 := congrArg Int32.toInt e
  rw [nI_toInt h] at h1
  have h2 : (-4 : Int32).toInt = -4 := by decide
  omega
theorem RepC_iff {Q : List (Nat × Nat)} {σ : Mem} (h : RepC Q σ) {c : Nat} (hc : c < 896) : σ 89 c = -4 ↔ c ∉ Q.map Prod.fst := by
  constructor
  · intro e hm
    obtain ⟨k, d, hk⟩ := mem_fst hm
    have h1 := h.2.2.1 k c d hk
    have h2 := RepC_len h
    have h3 := (List.getElem?_eq_some_iff.mp hk).1
    rw [h1.2.1] at e
    exact nI_nm4 (by omega) e
  · exact h.2.2.2 c hc
theorem RepC_push {Q : List (Nat × Nat)} {σ : Mem} (h : RepC Q σ) {c d : Nat} (hc : c < 896) (hn : c ∉ Q.map Prod.fst) (hd : d ≤ Q.length) : RepC (Q ++ [(c, d)]) (stm (stm (stm σ 89 c (nI d)) 90 Q.length (nI c)) 88 2 (nI (Q.length + 1))) := by
  have hl := RepC_new h hc hn
  refine ⟨by simp [stm, upd], ?_, ?_, ?_⟩
  · rw [List.map_append]
    exact nodup_snoc h.2.1 hn
  · intro k c' d' hk
    by_cases h1 : k < Q.length
    · rw [List.getElem?_append_left h1] at hk
      have h2 := h.2.2.1 k c' d' hk
      have h3 : c' ≠ c := fun e => hn (by rw [← e]; exact List.mem_map.mpr ⟨(c', d'), List.mem_of_getElem? hk, rfl⟩)
      have h4 : k ≠ Q.length := by omega
      refine ⟨?_, ?_, h2.2.2⟩
      · simp [stm, upd, h4, h2.1]
      · simp [stm, upd, h3, h2.2.1]
    · have h2 : k = Q.length := by
        have := (List.getElem?_eq_some_iff.mp hk).1
        simp at this
        omega
      subst h2
      simp at hk
      obtain ⟨rfl, rfl⟩ := hk
      exact ⟨by simp [stm, upd], by simp [stm, upd], hc, hd⟩
  · intro c' hc' hm
    rw [List.map_append, List.mem_append] at hm
    have h1 : c' ∉ Q.map Prod.fst := fun q => hm (Or.inl q)
    have h2 : c' ≠ c := fun e => hm (Or.inr (by rw [e]; exact List.mem_singleton.mpr rfl))
    simp [stm, upd, h2, h.2.2.2 c' hc' h1]
end
section
/-! Passing's own methods -/
def bc1 (i : Int32) : Int32 := i - ((i.toUInt32 >>> ((1 : Int32).toUInt32 &&& Int32.toUInt32 31)).toInt32 &&& 1431655765)
def bc2 (i : Int32) : Int32 := (i &&& 858993459) + ((i.toUInt32 >>> ((2 : Int32).toUInt32 &&& Int32.toUInt32 31)).toInt32 &&& 858993459)
def bc3 (i : Int32) : Int32 := (i + (i.toUInt32 >>> ((4 : Int32).toUInt32 &&& Int32.toUInt32 31)).toInt32) &&& 252645135
def bc4 (i : Int32) : Int32 := i + (i.toUInt32 >>> ((8 : Int32).toUInt32 &&& Int32.toUInt32 31)).toInt32
def bc5 (i : Int32) : Int32 := i + (i.toUInt32 >>> ((16 : Int32).toUInt32 &&& Int32.toUInt32 31)).toInt32
theorem bc_ok : ∀ l, l < 128 → bc5 (bc4 (bc3 (bc2 (bc1 (nI l))))) &&& 63 = nI (pcN l) := by decide +kernel
def FrP (σ σ' : Mem) : Prop := (∀ a, a ≠ 88 → a ≠ 89 → a ≠ 90 → σ' a = σ a) ∧ (∀ k, k ≠ 2 → σ' 88 k = σ 88 k)
theorem FrP_refl (σ : Mem) : FrP σ σ := ⟨fun _ _ _ _ => rfl, fun _ _ => rfl⟩
theorem FrP_trans {σ σ' σ'' : Mem} (h : FrP σ σ') (k : FrP σ' σ'') : FrP σ σ'' := ⟨fun a h1 h2 h3 => (k.1 a h1 h2 h3).trans (h.1 a h1 h2 h3), fun j hj => (k.2 j hj).trans (h.2 j hj)⟩
theorem FrP_push (σ : Mem) (c k : Nat) (x y w : Int32) : FrP σ (stm (stm (stm σ 89 c x) 90 k y) 88 2 w) := by
  refine ⟨fun a h1 h2 h3 => by rw [stm_ne _ _ _ h1, stm_ne _ _ _ h3, stm_ne _ _ _ h2], fun j hj => ?_⟩
  rw [stm_row]
  simp only [upd, if_neg hj]
  rw [stm_ne _ _ _ (by decide), stm_ne _ _ _ (by decide)]
def bB_cX2_lengthOf : Nat := 0xac1befffa70101840900997a60041b1a1100a207101b3c03
theorem yB_cX2_lengthOf : BYS cX2_lengthOf 24 bB_cX2_lengthOf := BYS_of (by decide +kernel)
theorem dX2_lengthOf_0 : decode cX2_lengthOf 0 = .ok (.iconst 0, 1) := D_3 yB_cX2_lengthOf rfl rfl
theorem dX2_lengthOf_1 : decode cX2_lengthOf 1 = .ok (.istore_n 1, 1) := D_60 yB_cX2_lengthOf rfl rfl
theorem dX2_lengthOf_2 : decode cX2_lengthOf 2 = .ok (.iload_n 1, 1) := D_27 yB_cX2_lengthOf rfl rfl
theorem dX2_lengthOf_3 : decode cX2_lengthOf 3 = .ok (.bipush 7, 2) := D_16 yB_cX2_lengthOf rfl rfl (sg_p (m := 128) (N := 7) rfl rfl rfl)
theorem dX2_lengthOf_5 : decode cX2_lengthOf 5 = .ok (.if_icmp .ge 17, 3) := D_162 yB_cX2_lengthOf rfl rfl (sg_p (m := 32768) (N := 17) rfl rfl rfl)
theorem dX2_lengthOf_8 : decode cX2_lengthOf 8 = .ok (.iload_n 0, 1) := D_26 yB_cX2_lengthOf rfl rfl
theorem dX2_lengthOf_9 : decode cX2_lengthOf 9 = .ok (.iload_n 1, 1) := D_27 yB_cX2_lengthOf rfl rfl
theorem dX2_lengthOf_10 : decode cX2_lengthOf 10 = .ok (.iconst 1, 1) := D_4 yB_cX2_lengthOf rfl rfl
theorem dX2_lengthOf_11 : decode cX2_lengthOf 11 = .ok (.iadd, 1) := D_96 yB_cX2_lengthOf rfl rfl
theorem dX2_lengthOf_12 : decode cX2_lengthOf 12 = .ok (.ishr, 1) := D_122 yB_cX2_lengthOf rfl rfl
theorem dX2_lengthOf_13 : decode cX2_lengthOf 13 = .ok (.ifCond .eq 9, 3) := D_153 yB_cX2_lengthOf rfl rfl (sg_p (m := 32768) (N := 9) rfl rfl rfl)
theorem dX2_lengthOf_16 : decode cX2_lengthOf 16 = .ok (.iinc 1 1, 3) := D_132 yB_cX2_lengthOf rfl rfl rfl (sg_p (m := 128) (N := 1) rfl rfl rfl)
theorem dX2_lengthOf_19 : decode cX2_lengthOf 19 = .ok (.goto (-17), 3) := D_167 yB_cX2_lengthOf rfl rfl (sg_n (m := 32768) (N := 17) rfl rfl rfl)
theorem dX2_lengthOf_22 : decode cX2_lengthOf 22 = .ok (.iload_n 1, 1) := D_27 yB_cX2_lengthOf rfl rfl
theorem dX2_lengthOf_23 : decode cX2_lengthOf 23 = .ok (.ireturn, 1) := D_172 yB_cX2_lengthOf rfl rfl
set_option maxHeartbeats 4000000 in
set_option maxRecDepth 100000 in
theorem c_X2_lengthOf (l : Launch) (D : va_G) (cA : Nat → ClassId) (ad : Nat → Nat) (o : Int64) (σ : Mem) (ln : Nat) (hln : ln < 128) (sz : Nat) : Met l yX2_lengthOf (WY yX2_lengthOf cX2_lengthOf 2 (some .int)) (RM 0) (va_Pc [.int (nI ln)] (PW D cA ad o σ sz)) (va_Qi (fun r σ9 => r = nI (Nat.log2 ln) ∧ σ9 = σ) (QW D cA ad o) (FA ad sz)) 0 0 (FA ad sz) := by
  refine ct_of (own := RX2) (k := 0) (Qf := va_Qi (fun r σ9 => r = nI (Nat.log2 ln) ∧ σ9 = σ) (QW D cA ad o)) rfl (by decide) (Nat.le_of_ble_eq_true rfl) (fun p e s m below meth c ls C0 X hr hlk hP hl => ?_) sz
  have hS : va_S (FA ad s.heap.size) s.heap s.heap [] := va_S.rf
  have hl : lv_has ls 2 [(0, .int (nI ln))] := hl
  obtain ⟨hx, hb, hml, hown, hts⟩ := id C0
  have h7 := ln_lt ln hln
  refine lv_iconst (v := 0) hx hb dX2_lengthOf_0 (by decide) ?_
  refine lv_istore_n (lv' := [(1, .int 0), (0, .int (nI ln))]) hx hb dX2_lengthOf_1 rfl hl (by decide) rfl (fun ls hl => ?_)
  have lp_1 : ∀ (nn : Nat) (k : Nat) (H : Heap) (locs : List Loc) (ls : Array Slot), k ≤ Nat.log2 ln → WP D cA ad o σ H → va_S (FA ad s.heap.size) s.heap H locs → lv_has ls 2 [(0, .int (nI ln)), (1, .int (nI k))] → (7 - k) < nn → W p l e (RM 0) s m ([.int (nI ln)] : List Value).toArray below meth c H locs 0 0 (MQ below (va_Qi (fun r σ9 => r = nI (Nat.log2 ln) ∧ σ9 = σ) (QW D cA ad o) (FA ad s.heap.size)) ([.int (nI ln)] : List Value).toArray s 0 0 (FA ad s.heap.size)) (F0 m 2 ls []) := by
    intro nn
    induction nn with
    | zero => intro k H locs ls hk hP hS hl hn; exact absurd hn (Nat.not_lt_zero _)
    | succ nn ih =>
      intro k H locs ls hk hP hS hl hn
      refine lv_iload_n hx hb dX2_lengthOf_2 rfl (lv_at hl 1 rfl) ?_
      refine lv_bipush (v := 7) hx hb dX2_lengthOf_3 (by decide) ?_
      refine lv_icmp_ge (tgt := 22) hx hb dX2_lengthOf_5 (by decide) (fun c_2 => absurd c_2 (nI_ge (a := k) (b := 7) (by omega) (by decide))) (fun c_2 => ?_)
      refine lv_iload_n hx hb dX2_lengthOf_8 rfl (lv_at hl 0 rfl) ?_
      refine lv_iload_n hx hb dX2_lengthOf_9 rfl (lv_at hl 1 rfl) ?_
      refine lv_iconst (v := 1) hx hb dX2_lengthOf_10 (by decide) ?_
      refine lv_iadd hx hb dX2_lengthOf_11 ?_
      refine lv_ishr hx hb dX2_lengthOf_12 ?_
      refine lv_if_eq (tgt := 22) hx hb dX2_lengthOf_13 (by decide) (fun c_3 => ?_) (fun c_3 => ?_)
      · refine lv_iload_n hx hb dX2_lengthOf_22 rfl (lv_at hl 1 rfl) ?_
        exact r_iret C0 X hP hS hr hlk dX2_lengthOf_23 ⟨by rw [Nat.le_antisymm hk ((ln_ok ln hln k (by omega)).mp c_3)], rfl⟩
      · refine lv_iinc (v := (nI (k + 1))) (lv' := [(1, .int (nI (k + 1))), (0, .int (nI ln))]) hx hb dX2_lengthOf_16 hl (k := 1) rfl (nI_1 _) (by decide) rfl (fun ls hl => ?_)
        refine lv_goto (tgt := 2) hx hb dX2_lengthOf_19 (by decide) ?_
        exact ih (k + 1) _ _ ls (by have h9 : ¬ Nat.log2 ln ≤ k := (fun q => c_3 ((ln_ok ln hln k (by omega)).mpr q)); omega) hP hS (lv_sub hl [1, 0] rfl) (by omega)
  exact lp_1 ((7 - 0) + 1) 0 _ _ ls (Nat.zero_le _) hP hS (lv_sub hl [1, 0] rfl) (by omega)
def bB_cX2_without : Nat := 0xac807e6404781b041a781b7a60041b1a
theorem yB_cX2_without : BYS cX2_without 16 bB_cX2_without := BYS_of (by decide +kernel)
theorem dX2_without_0 : decode cX2_without 0 = .ok (.iload_n 0, 1) := D_26 yB_cX2_without rfl rfl
theorem dX2_without_1 : decode cX2_without 1 = .ok (.iload_n 1, 1) := D_27 yB_cX2_without rfl rfl
theorem dX2_without_2 : decode cX2_without 2 = .ok (.iconst 1, 1) := D_4 yB_cX2_without rfl rfl
theorem dX2_without_3 : decode cX2_without 3 = .ok (.iadd, 1) := D_96 yB_cX2_without rfl rfl
theorem dX2_without_4 : decode cX2_without 4 = .ok (.ishr, 1) := D_122 yB_cX2_without rfl rfl
theorem dX2_without_5 : decode cX2_without 5 = .ok (.iload_n 1, 1) := D_27 yB_cX2_without rfl rfl
theorem dX2_without_6 : decode cX2_without 6 = .ok (.ishl, 1) := D_120 yB_cX2_without rfl rfl
theorem dX2_without_7 : decode cX2_without 7 = .ok (.iload_n 0, 1) := D_26 yB_cX2_without rfl rfl
theorem dX2_without_8 : decode cX2_without 8 = .ok (.iconst 1, 1) := D_4 yB_cX2_without rfl rfl
theorem dX2_without_9 : decode cX2_without 9 = .ok (.iload_n 1, 1) := D_27 yB_cX2_without rfl rfl
theorem dX2_without_10 : decode cX2_without 10 = .ok (.ishl, 1) := D_120 yB_cX2_without rfl rfl
theorem dX2_without_11 : decode cX2_without 11 = .ok (.iconst 1, 1) := D_4 yB_cX2_without rfl rfl
theorem dX2_without_12 : decode cX2_without 12 = .ok (.isub, 1) := D_100 yB_cX2_without rfl rfl
theorem dX2_without_13 : decode cX2_without 13 = .ok (.iand, 1) := D_126 yB_cX2_without rfl rfl
theorem dX2_without_14 : decode cX2_without 14 = .ok (.ior, 1) := D_128 yB_cX2_without rfl rfl
theorem dX2_without_15 : decode cX2_without 15 = .ok (.ireturn, 1) := D_172 yB_cX2_without rfl rfl
set_option maxHeartbeats 4000000 in
set_option maxRecDepth 100000 in
theorem c_X2_without (l : Launch) (D : va_G) (cA : Nat → ClassId) (ad : Nat → Nat) (o : Int64) (σ : Mem) (ln : Nat) (bt : Nat) (hln : ln < 128) (hbt : bt < 7) (sz : Nat) : Met l yX2_without (WY yX2_without cX2_without 2 (some .int)) (RM 0) (va_Pc [.int (nI ln), .int (nI bt)] (PW D cA ad o σ sz)) (va_Qi (fun r σ9 => r = nI (woN ln bt) ∧ σ9 = σ) (QW D cA ad o) (FA ad sz)) 0 0 (FA ad sz) := by
  refine ct_of (own := RX2) (k := 0) (Qf := va_Qi (fun r σ9 => r = nI (woN ln bt) ∧ σ9 = σ) (QW D cA ad o)) rfl (by decide) (Nat.le_of_ble_eq_true rfl) (fun p e s m below meth c ls C0 X hr hlk hP hl => ?_) sz
  have hS : va_S (FA ad s.heap.size) s.heap s.heap [] := va_S.rf
  have hl : lv_has ls 2 [(0, .int (nI ln)), (1, .int (nI bt))] := hl
  obtain ⟨hx, hb, hml, hown, hts⟩ := id C0
  refine lv_iload_n hx hb dX2_without_0 rfl (lv_at hl 0 rfl) ?_
  refine lv_iload_n hx hb dX2_without_1 rfl (lv_at hl 1 rfl) ?_
  refine lv_iconst (v := 1) hx hb dX2_without_2 (by decide) ?_
  refine lv_iadd hx hb dX2_without_3 ?_
  refine lv_ishr hx hb dX2_without_4 ?_
  refine lv_iload_n hx hb dX2_without_5 rfl (lv_at hl 1 rfl) ?_
  refine lv_ishl hx hb dX2_without_6 ?_
  refine lv_iload_n hx hb dX2_without_7 rfl (lv_at hl 0 rfl) ?_
  refine lv_iconst (v := 1) hx hb dX2_without_8 (by decide) ?_
  refine lv_iload_n hx hb dX2_without_9 rfl (lv_at hl 1 rfl) ?_
  refine lv_ishl hx hb dX2_without_10 ?_
  refine lv_iconst (v := 1) hx hb dX2_without_11 (by decide) ?_
  refine lv_isub hx hb dX2_without_12 ?_
  refine lv_iand hx hb dX2_without_13 ?_
  refine lv_ior hx hb dX2_without_14 ?_
  exact r_iret C0 X hP hS hr hlk dX2_without_15 ⟨wo_ok ln hln bt hbt, rfl⟩
def bB_cJ6_bitCount_0f7a4 : Nat := 0xac7e3f101a3b607c10101a1a3b607c08101a1a3b7e0b0113607c071a1a3b607e0a01137c051a7e0a01131a3b647e0901137c041a1a
theorem yB_cJ6_bitCount_0f7a4 : BYS cJ6_bitCount_0f7a4 53 bB_cJ6_bitCount_0f7a4 := BYS_of (by decide +kernel)
theorem dJ6_bitCount_0f7a4_0 : decode cJ6_bitCount_0f7a4 0 = .ok (.iload_n 0, 1) := D_26 yB_cJ6_bitCount_0f7a4 rfl rfl
theorem dJ6_bitCount_0f7a4_1 : decode cJ6_bitCount_0f7a4 1 = .ok (.iload_n 0, 1) := D_26 yB_cJ6_bitCount_0f7a4 rfl rfl
theorem dJ6_bitCount_0f7a4_2 : decode cJ6_bitCount_0f7a4 2 = .ok (.iconst 1, 1) := D_4 yB_cJ6_bitCount_0f7a4 rfl rfl
theorem dJ6_bitCount_0f7a4_3 : decode cJ6_bitCount_0f7a4 3 = .ok (.iushr, 1) := D_124 yB_cJ6_bitCount_0f7a4 rfl rfl
theorem dJ6_bitCount_0f7a4_4 : decode cJ6_bitCount_0f7a4 4 = .ok (.ldc_w 265, 3) := D_19 yB_cJ6_bitCount_0f7a4 rfl rfl rfl
theorem dJ6_bitCount_0f7a4_7 : decode cJ6_bitCount_0f7a4 7 = .ok (.iand, 1) := D_126 yB_cJ6_bitCount_0f7a4 rfl rfl
theorem dJ6_bitCount_0f7a4_8 : decode cJ6_bitCount_0f7a4 8 = .ok (.isub, 1) := D_100 yB_cJ6_bitCount_0f7a4 rfl rfl
theorem dJ6_bitCount_0f7a4_9 : decode cJ6_bitCount_0f7a4 9 = .ok (.istore_n 0, 1) := D_59 yB_cJ6_bitCount_0f7a4 rfl rfl
theorem dJ6_bitCount_0f7a4_10 : decode cJ6_bitCount_0f7a4 10 = .ok (.iload_n 0, 1) := D_26 yB_cJ6_bitCount_0f7a4 rfl rfl
theorem dJ6_bitCount_0f7a4_11 : decode cJ6_bitCount_0f7a4 11 = .ok (.ldc_w 266, 3) := D_19 yB_cJ6_bitCount_0f7a4 rfl rfl rfl
theorem dJ6_bitCount_0f7a4_14 : decode cJ6_bitCount_0f7a4 14 = .ok (.iand, 1) := D_126 yB_cJ6_bitCount_0f7a4 rfl rfl
theorem dJ6_bitCount_0f7a4_15 : decode cJ6_bitCount_0f7a4 15 = .ok (.iload_n 0, 1) := D_26 yB_cJ6_bitCount_0f7a4 rfl rfl
theorem dJ6_bitCount_0f7a4_16 : decode cJ6_bitCount_0f7a4 16 = .ok (.iconst 2, 1) := D_5 yB_cJ6_bitCount_0f7a4 rfl rfl
theorem dJ6_bitCount_0f7a4_17 : decode cJ6_bitCount_0f7a4 17 = .ok (.iushr, 1) := D_124 yB_cJ6_bitCount_0f7a4 rfl rfl
theorem dJ6_bitCount_0f7a4_18 : decode cJ6_bitCount_0f7a4 18 = .ok (.ldc_w 266, 3) := D_19 yB_cJ6_bitCount_0f7a4 rfl rfl rfl
theorem dJ6_bitCount_0f7a4_21 : decode cJ6_bitCount_0f7a4 21 = .ok (.iand, 1) := D_126 yB_cJ6_bitCount_0f7a4 rfl rfl
theorem dJ6_bitCount_0f7a4_22 : decode cJ6_bitCount_0f7a4 22 = .ok (.iadd, 1) := D_96 yB_cJ6_bitCount_0f7a4 rfl rfl
theorem dJ6_bitCount_0f7a4_23 : decode cJ6_bitCount_0f7a4 23 = .ok (.istore_n 0, 1) := D_59 yB_cJ6_bitCount_0f7a4 rfl rfl
theorem dJ6_bitCount_0f7a4_24 : decode cJ6_bitCount_0f7a4 24 = .ok (.iload_n 0, 1) := D_26 yB_cJ6_bitCount_0f7a4 rfl rfl
theorem dJ6_bitCount_0f7a4_25 : decode cJ6_bitCount_0f7a4 25 = .ok (.iload_n 0, 1) := D_26 yB_cJ6_bitCount_0f7a4 rfl rfl
theorem dJ6_bitCount_0f7a4_26 : decode cJ6_bitCount_0f7a4 26 = .ok (.iconst 4, 1) := D_7 yB_cJ6_bitCount_0f7a4 rfl rfl
theorem dJ6_bitCount_0f7a4_27 : decode cJ6_bitCount_0f7a4 27 = .ok (.iushr, 1) := D_124 yB_cJ6_bitCount_0f7a4 rfl rfl
theorem dJ6_bitCount_0f7a4_28 : decode cJ6_bitCount_0f7a4 28 = .ok (.iadd, 1) := D_96 yB_cJ6_bitCount_0f7a4 rfl rfl
theorem dJ6_bitCount_0f7a4_29 : decode cJ6_bitCount_0f7a4 29 = .ok (.ldc_w 267, 3) := D_19 yB_cJ6_bitCount_0f7a4 rfl rfl rfl
theorem dJ6_bitCount_0f7a4_32 : decode cJ6_bitCount_0f7a4 32 = .ok (.iand, 1) := D_126 yB_cJ6_bitCount_0f7a4 rfl rfl
theorem dJ6_bitCount_0f7a4_33 : decode cJ6_bitCount_0f7a4 33 = .ok (.istore_n 0, 1) := D_59 yB_cJ6_bitCount_0f7a4 rfl rfl
theorem dJ6_bitCount_0f7a4_34 : decode cJ6_bitCount_0f7a4 34 = .ok (.iload_n 0, 1) := D_26 yB_cJ6_bitCount_0f7a4 rfl rfl
theorem dJ6_bitCount_0f7a4_35 : decode cJ6_bitCount_0f7a4 35 = .ok (.iload_n 0, 1) := D_26 yB_cJ6_bitCount_0f7a4 rfl rfl
theorem dJ6_bitCount_0f7a4_36 : decode cJ6_bitCount_0f7a4 36 = .ok (.bipush 8, 2) := D_16 yB_cJ6_bitCount_0f7a4 rfl rfl (sg_p (m := 128) (N := 8) rfl rfl rfl)
theorem dJ6_bitCount_0f7a4_38 : decode cJ6_bitCount_0f7a4 38 = .ok (.iushr, 1) := D_124 yB_cJ6_bitCount_0f7a4 rfl rfl
theorem dJ6_bitCount_0f7a4_39 : decode cJ6_bitCount_0f7a4 39 = .ok (.iadd, 1) := D_96 yB_cJ6_bitCount_0f7a4 rfl rfl
theorem dJ6_bitCount_0f7a4_40 : decode cJ6_bitCount_0f7a4 40 = .ok (.istore_n 0, 1) := D_59 yB_cJ6_bitCount_0f7a4 rfl rfl
theorem dJ6_bitCount_0f7a4_41 : decode cJ6_bitCount_0f7a4 41 = .ok (.iload_n 0, 1) := D_26 yB_cJ6_bitCount_0f7a4 rfl rfl
theorem dJ6_bitCount_0f7a4_42 : decode cJ6_bitCount_0f7a4 42 = .ok (.iload_n 0, 1) := D_26 yB_cJ6_bitCount_0f7a4 rfl rfl
theorem dJ6_bitCount_0f7a4_43 : decode cJ6_bitCount_0f7a4 43 = .ok (.bipush 16, 2) := D_16 yB_cJ6_bitCount_0f7a4 rfl rfl (sg_p (m := 128) (N := 16) rfl rfl rfl)
theorem dJ6_bitCount_0f7a4_45 : decode cJ6_bitCount_0f7a4 45 = .ok (.iushr, 1) := D_124 yB_cJ6_bitCount_0f7a4 rfl rfl
theorem dJ6_bitCount_0f7a4_46 : decode cJ6_bitCount_0f7a4 46 = .ok (.iadd, 1) := D_96 yB_cJ6_bitCount_0f7a4 rfl rfl
theorem dJ6_bitCount_0f7a4_47 : decode cJ6_bitCount_0f7a4 47 = .ok (.istore_n 0, 1) := D_59 yB_cJ6_bitCount_0f7a4 rfl rfl
theorem dJ6_bitCount_0f7a4_48 : decode cJ6_bitCount_0f7a4 48 = .ok (.iload_n 0, 1) := D_26 yB_cJ6_bitCount_0f7a4 rfl rfl
theorem dJ6_bitCount_0f7a4_49 : decode cJ6_bitCount_0f7a4 49 = .ok (.bipush 63, 2) := D_16 yB_cJ6_bitCount_0f7a4 rfl rfl (sg_p (m := 128) (N := 63) rfl rfl rfl)
theorem dJ6_bitCount_0f7a4_51 : decode cJ6_bitCount_0f7a4 51 = .ok (.iand, 1) := D_126 yB_cJ6_bitCount_0f7a4 rfl rfl
theorem dJ6_bitCount_0f7a4_52 : decode cJ6_bitCount_0f7a4 52 = .ok (.ireturn, 1) := D_172 yB_cJ6_bitCount_0f7a4 rfl rfl
set_option maxHeartbeats 4000000 in
set_option maxRecDepth 100000 in
theorem c_J6_bitCount_0f7a4 (l : Launch) (D : va_G) (cA : Nat → ClassId) (ad : Nat → Nat) (o : Int64) (σ : Mem) (ln : Nat) (hln : ln < 128) (sz : Nat) : Met l yJ6_bitCount_0f7a4 (WY yJ6_bitCount_0f7a4 cJ6_bitCount_0f7a4 1 (some .int)) (RM 0) (va_Pc [.int (nI ln)] (PW D cA ad o σ sz)) (va_Qi (fun r σ9 => r = nI (pcN ln) ∧ σ9 = σ) (QW D cA ad o) (FA ad sz)) 0 0 (FA ad sz) := by
  refine ct_of (own := RJ6) (k := 0) (Qf := va_Qi (fun r σ9 => r = nI (pcN ln) ∧ σ9 = σ) (QW D cA ad o)) rfl (by decide) (Nat.le_of_ble_eq_true rfl) (fun p e s m below meth c ls C0 X hr hlk hP hl => ?_) sz
  have hS : va_S (FA ad s.heap.size) s.heap s.heap [] := va_S.rf
  have hl : lv_has ls 1 [(0, .int (nI ln))] := hl
  obtain ⟨hx, hb, hml, hown, hts⟩ := id C0
  refine lv_iload_n hx hb dJ6_bitCount_0f7a4_0 rfl (lv_at hl 0 rfl) ?_
  refine lv_iload_n hx hb dJ6_bitCount_0f7a4_1 rfl (lv_at hl 0 rfl) ?_
  refine lv_iconst (v := 1) hx hb dJ6_bitCount_0f7a4_2 (by decide) ?_
  refine lv_iushr (v := (((nI ln)).toUInt32 >>> ((1 : Int32).toUInt32 &&& Int32.toUInt32 31)).toInt32) hx hb dJ6_bitCount_0f7a4_3 rfl ?_
  refine lv_ldcw (own := RJ6) (index := 265) (v := 1431655765) hx hb hown (hts _ (tmc sb4_3 2 rfl (by decide +kernel))) dJ6_bitCount_0f7a4_4 ?_
  refine lv_iand hx hb dJ6_bitCount_0f7a4_7 ?_
  refine lv_isub hx hb dJ6_bitCount_0f7a4_8 ?_
  refine lv_topE (y := (bc1 (nI ln))) rfl ?_
  refine lv_istore_n (lv' := [(0, .int (bc1 (nI ln)))]) hx hb dJ6_bitCount_0f7a4_9 rfl hl (by decide) rfl (fun ls hl => ?_)
  refine lv_iload_n hx hb dJ6_bitCount_0f7a4_10 rfl (lv_at hl 0 rfl) ?_
  refine lv_ldcw (own := RJ6) (index := 266) (v := 858993459) hx hb hown (hts _ (tmc sb4_3 3 rfl (by decide +kernel))) dJ6_bitCount_0f7a4_11 ?_
  refine lv_iand hx hb dJ6_bitCount_0f7a4_14 ?_
  refine lv_iload_n hx hb dJ6_bitCount_0f7a4_15 rfl (lv_at hl 0 rfl) ?_
  refine lv_iconst (v := 2) hx hb dJ6_bitCount_0f7a4_16 (by decide) ?_
  refine lv_iushr (v := (((bc1 (nI ln))).toUInt32 >>> ((2 : Int32).toUInt32 &&& Int32.toUInt32 31)).toInt32) hx hb dJ6_bitCount_0f7a4_17 rfl ?_
  refine lv_ldcw (own := RJ6) (index := 266) (v := 858993459) hx hb hown (hts _ (tmc sb4_3 3 rfl (by decide +kernel))) dJ6_bitCount_0f7a4_18 ?_
  refine lv_iand hx hb dJ6_bitCount_0f7a4_21 ?_
  refine lv_iadd hx hb dJ6_bitCount_0f7a4_22 ?_
  refine lv_topE (y := (bc2 (bc1 (nI ln)))) rfl ?_
  refine lv_istore_n (lv' := [(0, .int (bc2 (bc1 (nI ln))))]) hx hb dJ6_bitCount_0f7a4_23 rfl hl (by decide) rfl (fun ls hl => ?_)
  refine lv_iload_n hx hb dJ6_bitCount_0f7a4_24 rfl (lv_at hl 0 rfl) ?_
  refine lv_iload_n hx hb dJ6_bitCount_0f7a4_25 rfl (lv_at hl 0 rfl) ?_
  refine lv_iconst (v := 4) hx hb dJ6_bitCount_0f7a4_26 (by decide) ?_
  refine lv_iushr (v := (((bc2 (bc1 (nI ln)))).toUInt32 >>> ((4 : Int32).toUInt32 &&& Int32.toUInt32 31)).toInt32) hx hb dJ6_bitCount_0f7a4_27 rfl ?_
  refine lv_iadd hx hb dJ6_bitCount_0f7a4_28 ?_
  refine lv_ldcw (own := RJ6) (index := 267) (v := 252645135) hx hb hown (hts _ (tmc sb4_3 4 rfl (by decide +kernel))) dJ6_bitCount_0f7a4_29 ?_
  refine lv_iand hx hb dJ6_bitCount_0f7a4_32 ?_
  refine lv_topE (y := (bc3 (bc2 (bc1 (nI ln))))) rfl ?_
  refine lv_istore_n (lv' := [(0, .int (bc3 (bc2 (bc1 (nI ln)))))]) hx hb dJ6_bitCount_0f7a4_33 rfl hl (by decide) rfl (fun ls hl => ?_)
  refine lv_iload_n hx hb dJ6_bitCount_0f7a4_34 rfl (lv_at hl 0 rfl) ?_
  refine lv_iload_n hx hb dJ6_bitCount_0f7a4_35 rfl (lv_at hl 0 rfl) ?_
  refine lv_bipush (v := 8) hx hb dJ6_bitCount_0f7a4_36 (by decide) ?_
  refine lv_iushr (v := (((bc3 (bc2 (bc1 (nI ln))))).toUInt32 >>> ((8 : Int32).toUInt32 &&& Int32.toUInt32 31)).toInt32) hx hb dJ6_bitCount_0f7a4_38 rfl ?_
  refine lv_iadd hx hb dJ6_bitCount_0f7a4_39 ?_
  refine lv_topE (y := (bc4 (bc3 (bc2 (bc1 (nI ln)))))) rfl ?_
  refine lv_istore_n (lv' := [(0, .int (bc4 (bc3 (bc2 (bc1 (nI ln))))))]) hx hb dJ6_bitCount_0f7a4_40 rfl hl (by decide) rfl (fun ls hl => ?_)
  refine lv_iload_n hx hb dJ6_bitCount_0f7a4_41 rfl (lv_at hl 0 rfl) ?_
  refine lv_iload_n hx hb dJ6_bitCount_0f7a4_42 rfl (lv_at hl 0 rfl) ?_
  refine lv_bipush (v := 16) hx hb dJ6_bitCount_0f7a4_43 (by decide) ?_
  refine lv_iushr (v := (((bc4 (bc3 (bc2 (bc1 (nI ln)))))).toUInt32 >>> ((16 : Int32).toUInt32 &&& Int32.toUInt32 31)).toInt32) hx hb dJ6_bitCount_0f7a4_45 rfl ?_
  refine lv_iadd hx hb dJ6_bitCount_0f7a4_46 ?_
  refine lv_topE (y := (bc5 (bc4 (bc3 (bc2 (bc1 (nI ln))))))) rfl ?_
  refine lv_istore_n (lv' := [(0, .int (bc5 (bc4 (bc3 (bc2 (bc1 (nI ln)))))))]) hx hb dJ6_bitCount_0f7a4_47 rfl hl (by decide) rfl (fun ls hl => ?_)
  refine lv_iload_n hx hb dJ6_bitCount_0f7a4_48 rfl (lv_at hl 0 rfl) ?_
  refine lv_bipush (v := 63) hx hb dJ6_bitCount_0f7a4_49 (by decide) ?_
  refine lv_iand hx hb dJ6_bitCount_0f7a4_51 ?_
  exact r_iret C0 X hP hS hr hlk dJ6_bitCount_0f7a4_52 ⟨bc_ok ln hln, rfl⟩
def bB_cX2_reach : Nat := 0xb12200b560042200b4592a4f04152200b42a0f00b42a4f1d04150b00b42ab10400a18003112200b42a0d00a0fc102e04150b00b42ab10400a18000111c0a009b1c0e00a207101b14009b1b0436601c688000111b
theorem yB_cX2_reach : BYS cX2_reach 84 bB_cX2_reach := BYS_of (by decide +kernel)
theorem dX2_reach_0 : decode cX2_reach 0 = .ok (.iload_n 1, 1) := D_27 yB_cX2_reach rfl rfl
theorem dX2_reach_1 : decode cX2_reach 1 = .ok (.sipush 128, 3) := D_17 yB_cX2_reach rfl rfl (sg_p (m := 32768) (N := 128) rfl rfl rfl)
theorem dX2_reach_4 : decode cX2_reach 4 = .ok (.imul, 1) := D_104 yB_cX2_reach rfl rfl
theorem dX2_reach_5 : decode cX2_reach 5 = .ok (.iload_n 2, 1) := D_28 yB_cX2_reach rfl rfl
theorem dX2_reach_6 : decode cX2_reach 6 = .ok (.iadd, 1) := D_96 yB_cX2_reach rfl rfl
theorem dX2_reach_7 : decode cX2_reach 7 = .ok (.istore 4, 2) := D_54 yB_cX2_reach rfl rfl rfl
theorem dX2_reach_9 : decode cX2_reach 9 = .ok (.iload_n 1, 1) := D_27 yB_cX2_reach rfl rfl
theorem dX2_reach_10 : decode cX2_reach 10 = .ok (.ifCond .lt 20, 3) := D_155 yB_cX2_reach rfl rfl (sg_p (m := 32768) (N := 20) rfl rfl rfl)
theorem dX2_reach_13 : decode cX2_reach 13 = .ok (.iload_n 1, 1) := D_27 yB_cX2_reach rfl rfl
theorem dX2_reach_14 : decode cX2_reach 14 = .ok (.bipush 7, 2) := D_16 yB_cX2_reach rfl rfl (sg_p (m := 128) (N := 7) rfl rfl rfl)
theorem dX2_reach_16 : decode cX2_reach 16 = .ok (.if_icmp .ge 14, 3) := D_162 yB_cX2_reach rfl rfl (sg_p (m := 32768) (N := 14) rfl rfl rfl)
theorem dX2_reach_19 : decode cX2_reach 19 = .ok (.iload_n 2, 1) := D_28 yB_cX2_reach rfl rfl
theorem dX2_reach_20 : decode cX2_reach 20 = .ok (.ifCond .lt 10, 3) := D_155 yB_cX2_reach rfl rfl (sg_p (m := 32768) (N := 10) rfl rfl rfl)
theorem dX2_reach_23 : decode cX2_reach 23 = .ok (.iload_n 2, 1) := D_28 yB_cX2_reach rfl rfl
theorem dX2_reach_24 : decode cX2_reach 24 = .ok (.sipush 128, 3) := D_17 yB_cX2_reach rfl rfl (sg_p (m := 32768) (N := 128) rfl rfl rfl)
theorem dX2_reach_27 : decode cX2_reach 27 = .ok (.if_icmp .lt 4, 3) := D_161 yB_cX2_reach rfl rfl (sg_p (m := 32768) (N := 4) rfl rfl rfl)
theorem dX2_reach_30 : decode cX2_reach 30 = .ok (.return_, 1) := D_177 yB_cX2_reach rfl rfl
theorem dX2_reach_31 : decode cX2_reach 31 = .ok (.aload_n 0, 1) := D_42 yB_cX2_reach rfl rfl
theorem dX2_reach_32 : decode cX2_reach 32 = .ok (.getfield 11, 3) := D_180 yB_cX2_reach rfl rfl rfl
theorem dX2_reach_35 : decode cX2_reach 35 = .ok (.iload 4, 2) := D_21 yB_cX2_reach rfl rfl rfl
theorem dX2_reach_37 : decode cX2_reach 37 = .ok (.iaload, 1) := D_46 yB_cX2_reach rfl rfl
theorem dX2_reach_38 : decode cX2_reach 38 = .ok (.bipush (-4), 2) := D_16 yB_cX2_reach rfl rfl (sg_n (m := 128) (N := 4) rfl rfl rfl)
theorem dX2_reach_40 : decode cX2_reach 40 = .ok (.if_icmp .ne 13, 3) := D_160 yB_cX2_reach rfl rfl (sg_p (m := 32768) (N := 13) rfl rfl rfl)
theorem dX2_reach_43 : decode cX2_reach 43 = .ok (.aload_n 0, 1) := D_42 yB_cX2_reach rfl rfl
theorem dX2_reach_44 : decode cX2_reach 44 = .ok (.getfield 34, 3) := D_180 yB_cX2_reach rfl rfl rfl
theorem dX2_reach_47 : decode cX2_reach 47 = .ok (.sipush 896, 3) := D_17 yB_cX2_reach rfl rfl (sg_p (m := 32768) (N := 896) rfl rfl rfl)
theorem dX2_reach_50 : decode cX2_reach 50 = .ok (.if_icmp .lt 4, 3) := D_161 yB_cX2_reach rfl rfl (sg_p (m := 32768) (N := 4) rfl rfl rfl)
theorem dX2_reach_53 : decode cX2_reach 53 = .ok (.return_, 1) := D_177 yB_cX2_reach rfl rfl
theorem dX2_reach_54 : decode cX2_reach 54 = .ok (.aload_n 0, 1) := D_42 yB_cX2_reach rfl rfl
theorem dX2_reach_55 : decode cX2_reach 55 = .ok (.getfield 11, 3) := D_180 yB_cX2_reach rfl rfl rfl
theorem dX2_reach_58 : decode cX2_reach 58 = .ok (.iload 4, 2) := D_21 yB_cX2_reach rfl rfl rfl
theorem dX2_reach_60 : decode cX2_reach 60 = .ok (.iload_n 3, 1) := D_29 yB_cX2_reach rfl rfl
theorem dX2_reach_61 : decode cX2_reach 61 = .ok (.iastore, 1) := D_79 yB_cX2_reach rfl rfl
theorem dX2_reach_62 : decode cX2_reach 62 = .ok (.aload_n 0, 1) := D_42 yB_cX2_reach rfl rfl
theorem dX2_reach_63 : decode cX2_reach 63 = .ok (.getfield 15, 3) := D_180 yB_cX2_reach rfl rfl rfl
theorem dX2_reach_66 : decode cX2_reach 66 = .ok (.aload_n 0, 1) := D_42 yB_cX2_reach rfl rfl
theorem dX2_reach_67 : decode cX2_reach 67 = .ok (.getfield 34, 3) := D_180 yB_cX2_reach rfl rfl rfl
theorem dX2_reach_70 : decode cX2_reach 70 = .ok (.iload 4, 2) := D_21 yB_cX2_reach rfl rfl rfl
theorem dX2_reach_72 : decode cX2_reach 72 = .ok (.iastore, 1) := D_79 yB_cX2_reach rfl rfl
theorem dX2_reach_73 : decode cX2_reach 73 = .ok (.aload_n 0, 1) := D_42 yB_cX2_reach rfl rfl
theorem dX2_reach_74 : decode cX2_reach 74 = .ok (.dup, 1) := D_89 yB_cX2_reach rfl rfl
theorem dX2_reach_75 : decode cX2_reach 75 = .ok (.getfield 34, 3) := D_180 yB_cX2_reach rfl rfl rfl
theorem dX2_reach_78 : decode cX2_reach 78 = .ok (.iconst 1, 1) := D_4 yB_cX2_reach rfl rfl
theorem dX2_reach_79 : decode cX2_reach 79 = .ok (.iadd, 1) := D_96 yB_cX2_reach rfl rfl
theorem dX2_reach_80 : decode cX2_reach 80 = .ok (.putfield 34, 3) := D_181 yB_cX2_reach rfl rfl rfl
theorem dX2_reach_83 : decode cX2_reach 83 = .ok (.return_, 1) := D_177 yB_cX2_reach rfl rfl
set_option maxHeartbeats 4000000 in
set_option maxRecDepth 100000 in
theorem c_X2_reach (l : Launch) (D : va_G) (cA : Nat → ClassId) (ad : Nat → Nat) (o : Int64) (σ : Mem) (Q : List (Nat × Nat)) (br : Nat) (ln : Nat) (d : Nat) (hR : RepC Q σ) (hbr : br < 7) (hln : ln < 128) (hd : d ≤ Q.length) (sz : Nat) : Met l yX2_reach (WY yX2_reach cX2_reach 5 none) (RM 0) (va_Pc [.ref (ad 88), .int (nI br), .int (nI ln), .int (nI d)] (PW D cA ad o σ sz)) (va_Qv (fun σ9 => RepC (pushQ Q (br * 128 + ln) d) σ9 ∧ FrP σ σ9) (QW D cA ad o) (FA ad sz)) 0 0 (FA ad sz) := by
  refine ct_of (own := RX2) (k := 0) (Qf := va_Qv (fun σ9 => RepC (pushQ Q (br * 128 + ln) d) σ9 ∧ FrP σ σ9) (QW D cA ad o)) rfl (by decide) (Nat.le_of_ble_eq_true rfl) (fun p e s m below meth c ls C0 X hr hlk hP hl => ?_) sz
  have hS : va_S (FA ad s.heap.size) s.heap s.heap [] := va_S.rf
  have hl : lv_has ls 5 [(0, .ref (ad 88)), (1, .int (nI br)), (2, .int (nI ln)), (3, .int (nI d))] := hl
  obtain ⟨hx, hb, hml, hown, hts⟩ := id C0
  refine lv_iload_n hx hb dX2_reach_0 rfl (lv_at hl 1 rfl) ?_
  refine lv_sipush (v := 128) hx hb dX2_reach_1 (by decide) ?_
  refine lv_imul hx hb dX2_reach_4 ?_
  refine lv_topE (y := (nI (br * 128))) (pk_mul br 128) ?_
  refine lv_iload_n hx hb dX2_reach_5 rfl (lv_at hl 2 rfl) ?_
  refine lv_iadd hx hb dX2_reach_6 ?_
  refine lv_topE (y := (nI (br * 128 + ln))) (nI_add _ _) ?_
  refine lv_istore (lv' := [(4, .int (nI (br * 128 + ln))), (0, .ref (ad 88)), (1, .int (nI br)), (2, .int (nI ln)), (3, .int (nI d))]) hx hb dX2_reach_7 hl (by decide) rfl (fun ls hl => ?_)
  refine lv_iload_n hx hb dX2_reach_9 rfl (lv_at hl 2 rfl) ?_
  refine lv_if_lt (tgt := 30) hx hb dX2_reach_10 (by decide) (fun c_1 => absurd c_1 (nI_pos (by omega))) (fun c_1 => ?_)
  refine lv_iload_n hx hb dX2_reach_13 rfl (lv_at hl 2 rfl) ?_
  refine lv_bipush (v := 7) hx hb dX2_reach_14 (by decide) ?_
  refine lv_icmp_ge (tgt := 30) hx hb dX2_reach_16 (by decide) (fun c_2 => absurd c_2 (nI_ge (a := br) (b := 7) hbr (by decide))) (fun c_2 => ?_)
  refine lv_iload_n hx hb dX2_reach_19 rfl (lv_at hl 3 rfl) ?_
  refine lv_if_lt (tgt := 30) hx hb dX2_reach_20 (by decide) (fun c_3 => absurd c_3 (nI_pos (by omega))) (fun c_3 => ?_)
  refine lv_iload_n hx hb dX2_reach_23 rfl (lv_at hl 3 rfl) ?_
  refine lv_sipush (v := 128) hx hb dX2_reach_24 (by decide) ?_
  refine lv_icmp_lt (tgt := 31) hx hb dX2_reach_27 (by decide) (fun c_4 => ?_) (fun c_4 => absurd (nI_lt (a := ln) (b := 128) hln (by decide)) c_4)
  refine lv_aload_n hx hb dX2_reach_31 rfl (lv_at hl 1 rfl) ?_
  refine gf_X2_11 C0 X hP 88 (q := 89) ⟨by decide, rfl⟩ (by omega) rfl dX2_reach_32 ?_
  refine lv_iload hx hb dX2_reach_35 (lv_at hl 0 rfl) ?_
  refine r_ialdN C0 X hP 89 (k := (br * 128 + ln)) ⟨by decide, rfl⟩ rfl (by omega) dX2_reach_37 ?_
  refine lv_bipush (v := (-4)) hx hb dX2_reach_38 (by decide) ?_
  refine lv_icmp_ne (tgt := 53) hx hb dX2_reach_40 (by decide) (fun c_5 => ?_) (fun c_5 => ?_)
  · exact r_vret C0 X hP hS hr hlk dX2_reach_53 ⟨by rw [pushQ, if_pos (Classical.byContradiction (fun q => c_5 ((RepC_iff hR (by omega)).mpr q)))]; exact hR, FrP_refl σ⟩
  · refine lv_aload_n hx hb dX2_reach_43 rfl (lv_at hl 1 rfl) ?_
    refine gf_X2_34 C0 X hP 88 ⟨by decide, rfl⟩ dX2_reach_44 ?_
    refine lv_topE (y := (nI Q.length)) hR.1 ?_
    refine lv_sipush (v := 896) hx hb dX2_reach_47 (by decide) ?_
    refine lv_icmp_lt (tgt := 54) hx hb dX2_reach_50 (by decide) (fun c_6 => ?_) (fun c_6 => absurd (nI_lt (a := Q.length) (b := 896) (RepC_new hR (by omega) ((RepC_iff hR (by omega)).mp c_5)) (by decide)) c_6)
    have hnq := (RepC_iff hR (c := br * 128 + ln) (by omega)).mp c_5
    refine lv_aload_n hx hb dX2_reach_54 rfl (lv_at hl 1 rfl) ?_
    refine gf_X2_11 C0 X hP 88 (q := 89) ⟨by decide, rfl⟩ (by omega) rfl dX2_reach_55 ?_
    refine lv_iload hx hb dX2_reach_58 (lv_at hl 0 rfl) ?_
    refine lv_iload_n hx hb dX2_reach_60 rfl (lv_at hl 4 rfl) ?_
    refine r_iastN C0 X hP hS 89 (k := (br * 128 + ln)) ⟨by decide, rfl⟩ rfl (by omega) dX2_reach_61 (fun H locs hP hS => ?_)
    refine lv_aload_n hx hb dX2_reach_62 rfl (lv_at hl 1 rfl) ?_
    refine gf_X2_15 C0 X hP 88 (q := 90) ⟨by decide, rfl⟩ (by omega) rfl dX2_reach_63 ?_
    refine lv_aload_n hx hb dX2_reach_66 rfl (lv_at hl 1 rfl) ?_
    refine gf_X2_34 C0 X hP 88 ⟨by decide, rfl⟩ dX2_reach_67 ?_
    refine lv_topE (y := (nI Q.length)) (by rw [stm_ne _ _ _ (by decide)]; exact hR.1) ?_
    refine lv_iload hx hb dX2_reach_70 (lv_at hl 0 rfl) ?_
    refine r_iastN C0 X hP hS 90 (k := Q.length) ⟨by decide, rfl⟩ rfl (RepC_new hR (by omega) hnq) dX2_reach_72 (fun H locs hP hS => ?_)
    refine lv_aload_n hx hb dX2_reach_73 rfl (lv_at hl 1 rfl) ?_
    refine lv_dup hx hb dX2_reach_74 rfl ?_
    refine gf_X2_34 C0 X hP 88 ⟨by decide, rfl⟩ dX2_reach_75 ?_
    refine lv_topE (y := (nI Q.length)) (by rw [stm_ne _ _ _ (by decide), stm_ne _ _ _ (by decide)]; exact hR.1) ?_
    refine lv_iconst (v := 1) hx hb dX2_reach_78 (by decide) ?_
    refine lv_iadd hx hb dX2_reach_79 ?_
    refine lv_topE (y := (nI (Q.length + 1))) (nI_1 _) ?_
    refine pf_X2_34 C0 X hP hS 88 ⟨by decide, rfl⟩ dX2_reach_80 (fun H locs hP hS => ?_)
    exact r_vret C0 X hP hS hr hlk dX2_reach_83 ⟨by rw [pushQ, if_neg hnq]; exact RepC_push hR (by omega) hnq hd, FrP_push _ _ _ _ _ _⟩
def mm1 (z br ln : Nat) : List Nat := if 0 < br ∧ Nat.log2 ln - br < z then [(br - 1) * 128 + ln] else []
def mm2 (x br ln : Nat) : List Nat := if 0 < Nat.log2 ln - br ∧ br < x then [(br + 1) * 128 + ln] else []
def mm3 (a b q br ln : Nat) : List Nat := if a + b - Nat.log2 ln < q ∧ 0 < br then [(br - 1) * 128 + woN ln (Nat.log2 ln - br)] else []
def mm4 (a b q br ln : Nat) : List Nat := if a + b - Nat.log2 ln < q ∧ 0 < Nat.log2 ln - br then [br * 128 + woN ln (Nat.log2 ln - br - 1)] else []
def cb1 (x br ln t : Nat) : List Nat := if br < x then [(br + 1) * 128 + lgN ln (Nat.log2 ln - br) t] else []
def cb2 (z br ln t : Nat) : List Nat := if Nat.log2 ln - br < z then [br * 128 + lgN ln (Nat.log2 ln - br) t] else []
def mm5 (a x z br ln : Nat) : List Nat := if pcN ln - 1 < a then cb1 x br ln 1 ++ cb2 z br ln 1 else []
def mm6 (b x z br ln : Nat) : List Nat := if Nat.log2 ln - (pcN ln - 1) < b then cb1 x br ln 0 ++ cb2 z br ln 0 else []
def nbrL (a b q x z br ln : Nat) : List Nat := mm1 z br ln ++ mm2 x br ln ++ mm3 a b q br ln ++ mm4 a b q br ln ++ mm5 a x z br ln ++ mm6 b x z br ln
theorem pushQ_len (Q : List (Nat × Nat)) (c d : Nat) : Q.length ≤ (pushQ Q c d).length := by
  unfold pushQ
  split
  · exact Nat.le_refl _
  · simp
theorem foldQ_len (cs : List Nat) (d : Nat) : ∀ Q : List (Nat × Nat), Q.length ≤ (foldQ Q cs d).length := by
  induction cs with
  | nil => intro Q; exact Nat.le_refl _
  | cons c r ih => intro Q; exact Nat.le_trans (pushQ_len Q c d) (ih (pushQ Q c d))
theorem nI_nlt_of {a b : Nat} (h : nI b ≤ nI a) (hb : b < 2 ^ 31) : ¬ a < b := fun q => nI_ge q hb h
theorem nI_lt_of {a b : Nat} (h : ¬ nI b ≤ nI a) (ha : a < 2 ^ 31) : a < b := nI_ltof h ha
def bB_cX2_comeBack : Nat := 0xb12500b6041506151b2a0c00a21f00b42a05152500b60415061560041b2a0e00a21c00b42a1b0636807e6404780515041c780515801d78047a05151c0536641b2d00b81c
theorem yB_cX2_comeBack : BYS cX2_comeBack 68 bB_cX2_comeBack := BYS_of (by decide +kernel)
theorem dX2_comeBack_0 : decode cX2_comeBack 0 = .ok (.iload_n 2, 1) := D_28 yB_cX2_comeBack rfl rfl
theorem dX2_comeBack_1 : decode cX2_comeBack 1 = .ok (.invokestatic 45, 3) := D_184 yB_cX2_comeBack rfl rfl rfl
theorem dX2_comeBack_4 : decode cX2_comeBack 4 = .ok (.iload_n 1, 1) := D_27 yB_cX2_comeBack rfl rfl
theorem dX2_comeBack_5 : decode cX2_comeBack 5 = .ok (.isub, 1) := D_100 yB_cX2_comeBack rfl rfl
theorem dX2_comeBack_6 : decode cX2_comeBack 6 = .ok (.istore 5, 2) := D_54 yB_cX2_comeBack rfl rfl rfl
theorem dX2_comeBack_8 : decode cX2_comeBack 8 = .ok (.iload_n 2, 1) := D_28 yB_cX2_comeBack rfl rfl
theorem dX2_comeBack_9 : decode cX2_comeBack 9 = .ok (.iload 5, 2) := D_21 yB_cX2_comeBack rfl rfl rfl
theorem dX2_comeBack_11 : decode cX2_comeBack 11 = .ok (.ishr, 1) := D_122 yB_cX2_comeBack rfl rfl
theorem dX2_comeBack_12 : decode cX2_comeBack 12 = .ok (.iconst 1, 1) := D_4 yB_cX2_comeBack rfl rfl
theorem dX2_comeBack_13 : decode cX2_comeBack 13 = .ok (.ishl, 1) := D_120 yB_cX2_comeBack rfl rfl
theorem dX2_comeBack_14 : decode cX2_comeBack 14 = .ok (.iload_n 3, 1) := D_29 yB_cX2_comeBack rfl rfl
theorem dX2_comeBack_15 : decode cX2_comeBack 15 = .ok (.ior, 1) := D_128 yB_cX2_comeBack rfl rfl
theorem dX2_comeBack_16 : decode cX2_comeBack 16 = .ok (.iload 5, 2) := D_21 yB_cX2_comeBack rfl rfl rfl
theorem dX2_comeBack_18 : decode cX2_comeBack 18 = .ok (.ishl, 1) := D_120 yB_cX2_comeBack rfl rfl
theorem dX2_comeBack_19 : decode cX2_comeBack 19 = .ok (.iload_n 2, 1) := D_28 yB_cX2_comeBack rfl rfl
theorem dX2_comeBack_20 : decode cX2_comeBack 20 = .ok (.iconst 1, 1) := D_4 yB_cX2_comeBack rfl rfl
theorem dX2_comeBack_21 : decode cX2_comeBack 21 = .ok (.iload 5, 2) := D_21 yB_cX2_comeBack rfl rfl rfl
theorem dX2_comeBack_23 : decode cX2_comeBack 23 = .ok (.ishl, 1) := D_120 yB_cX2_comeBack rfl rfl
theorem dX2_comeBack_24 : decode cX2_comeBack 24 = .ok (.iconst 1, 1) := D_4 yB_cX2_comeBack rfl rfl
theorem dX2_comeBack_25 : decode cX2_comeBack 25 = .ok (.isub, 1) := D_100 yB_cX2_comeBack rfl rfl
theorem dX2_comeBack_26 : decode cX2_comeBack 26 = .ok (.iand, 1) := D_126 yB_cX2_comeBack rfl rfl
theorem dX2_comeBack_27 : decode cX2_comeBack 27 = .ok (.ior, 1) := D_128 yB_cX2_comeBack rfl rfl
theorem dX2_comeBack_28 : decode cX2_comeBack 28 = .ok (.istore 6, 2) := D_54 yB_cX2_comeBack rfl rfl rfl
theorem dX2_comeBack_30 : decode cX2_comeBack 30 = .ok (.iload_n 1, 1) := D_27 yB_cX2_comeBack rfl rfl
theorem dX2_comeBack_31 : decode cX2_comeBack 31 = .ok (.aload_n 0, 1) := D_42 yB_cX2_comeBack rfl rfl
theorem dX2_comeBack_32 : decode cX2_comeBack 32 = .ok (.getfield 28, 3) := D_180 yB_cX2_comeBack rfl rfl rfl
theorem dX2_comeBack_35 : decode cX2_comeBack 35 = .ok (.if_icmp .ge 14, 3) := D_162 yB_cX2_comeBack rfl rfl (sg_p (m := 32768) (N := 14) rfl rfl rfl)
theorem dX2_comeBack_38 : decode cX2_comeBack 38 = .ok (.aload_n 0, 1) := D_42 yB_cX2_comeBack rfl rfl
theorem dX2_comeBack_39 : decode cX2_comeBack 39 = .ok (.iload_n 1, 1) := D_27 yB_cX2_comeBack rfl rfl
theorem dX2_comeBack_40 : decode cX2_comeBack 40 = .ok (.iconst 1, 1) := D_4 yB_cX2_comeBack rfl rfl
theorem dX2_comeBack_41 : decode cX2_comeBack 41 = .ok (.iadd, 1) := D_96 yB_cX2_comeBack rfl rfl
theorem dX2_comeBack_42 : decode cX2_comeBack 42 = .ok (.iload 6, 2) := D_21 yB_cX2_comeBack rfl rfl rfl
theorem dX2_comeBack_44 : decode cX2_comeBack 44 = .ok (.iload 4, 2) := D_21 yB_cX2_comeBack rfl rfl rfl
theorem dX2_comeBack_46 : decode cX2_comeBack 46 = .ok (.invokevirtual 37, 3) := D_182 yB_cX2_comeBack rfl rfl rfl
theorem dX2_comeBack_49 : decode cX2_comeBack 49 = .ok (.iload 5, 2) := D_21 yB_cX2_comeBack rfl rfl rfl
theorem dX2_comeBack_51 : decode cX2_comeBack 51 = .ok (.aload_n 0, 1) := D_42 yB_cX2_comeBack rfl rfl
theorem dX2_comeBack_52 : decode cX2_comeBack 52 = .ok (.getfield 31, 3) := D_180 yB_cX2_comeBack rfl rfl rfl
theorem dX2_comeBack_55 : decode cX2_comeBack 55 = .ok (.if_icmp .ge 12, 3) := D_162 yB_cX2_comeBack rfl rfl (sg_p (m := 32768) (N := 12) rfl rfl rfl)
theorem dX2_comeBack_58 : decode cX2_comeBack 58 = .ok (.aload_n 0, 1) := D_42 yB_cX2_comeBack rfl rfl
theorem dX2_comeBack_59 : decode cX2_comeBack 59 = .ok (.iload_n 1, 1) := D_27 yB_cX2_comeBack rfl rfl
theorem dX2_comeBack_60 : decode cX2_comeBack 60 = .ok (.iload 6, 2) := D_21 yB_cX2_comeBack rfl rfl rfl
theorem dX2_comeBack_62 : decode cX2_comeBack 62 = .ok (.iload 4, 2) := D_21 yB_cX2_comeBack rfl rfl rfl
theorem dX2_comeBack_64 : decode cX2_comeBack 64 = .ok (.invokevirtual 37, 3) := D_182 yB_cX2_comeBack rfl rfl rfl
theorem dX2_comeBack_67 : decode cX2_comeBack 67 = .ok (.return_, 1) := D_177 yB_cX2_comeBack rfl rfl
set_option maxHeartbeats 4000000 in
set_option maxRecDepth 100000 in
theorem c_X2_comeBack (l : Launch) (D : va_G) (cA : Nat → ClassId) (ad : Nat → Nat) (o : Int64) (σ : Mem) (Q : List (Nat × Nat)) (br : Nat) (ln : Nat) (t : Nat) (d : Nat) (x : Nat) (z : Nat) (hR : RepC Q σ) (hx6 : σ 88 6 = nI x) (hz7 : σ 88 7 = nI z) (hbl : br ≤ Nat.log2 ln) (hln : ln < 128) (hl1 : 1 ≤ ln) (h6 : Nat.log2 ln < 6) (ht : t < 2) (hd : d ≤ Q.length) (hxb : x ≤ 6) (hz : z ≤ 6) (sz : Nat) : Met l yX2_comeBack (WY yX2_comeBack cX2_comeBack 7 none) (RM 1) (va_Pc [.ref (ad 88), .int (nI br), .int (nI ln), .int (nI t), .int (nI d)] (PW D cA ad o σ sz)) (va_Qv (fun σ9 => RepC (foldQ Q (cb1 x br ln t ++ cb2 z br ln t) d) σ9 ∧ FrP σ σ9) (QW D cA ad o) (FA ad sz)) 0 0 (FA ad sz) := by
  refine ct_of (own := RX2) (k := 1) (Qf := va_Qv (fun σ9 => RepC (foldQ Q (cb1 x br ln t ++ cb2 z br ln t) d) σ9 ∧ FrP σ σ9) (QW D cA ad o)) rfl (by decide) (Nat.le_of_ble_eq_true rfl) (fun p e s m below meth c ls C0 X hr hlk hP hl => ?_) sz
  have hS : va_S (FA ad s.heap.size) s.heap s.heap [] := va_S.rf
  have hl : lv_has ls 7 [(0, .ref (ad 88)), (1, .int (nI br)), (2, .int (nI ln)), (3, .int (nI t)), (4, .int (nI d))] := hl
  obtain ⟨hx, hb, hml, hown, hts⟩ := id C0
  have hL := ln_f3 ln hln (Nat.log2 ln - br) (by omega) t ht ⟨hl1, by omega, h6⟩
  refine lv_iload_n hx hb dX2_comeBack_0 rfl (lv_at hl 2 rfl) ?_
  refine r_ci X hS (r_runS (As := [.int (nI ln)]) (rest := []) C0 X hP L_X2_45 (fun sz => c_X2_lengthOf l D cA ad o σ ln hln sz) ⟨Nat.le_of_ble_eq_true rfl, Nat.le_of_ble_eq_true rfl⟩ rfl hl.1 rfl (Nat.le_of_ble_eq_true rfl) dX2_comeBack_1 ⟨Nat.zero_le _, Nat.zero_le _⟩) (fun r σ9 H locs hw hP hS => ?_)
  rw [hw.2] at hP
  rw [hw.1]
  refine lv_iload_n hx hb dX2_comeBack_4 rfl (lv_at hl 1 rfl) ?_
  refine lv_isub hx hb dX2_comeBack_5 ?_
  refine lv_topE (y := (nI (Nat.log2 ln - br))) (pk_sub hbl) ?_
  refine lv_istore (lv' := [(5, .int (nI (Nat.log2 ln - br))), (0, .ref (ad 88)), (1, .int (nI br)), (2, .int (nI ln)), (3, .int (nI t)), (4, .int (nI d))]) hx hb dX2_comeBack_6 hl (by decide) rfl (fun ls hl => ?_)
  refine lv_iload_n hx hb dX2_comeBack_8 rfl (lv_at hl 3 rfl) ?_
  refine lv_iload hx hb dX2_comeBack_9 (lv_at hl 0 rfl) ?_
  refine lv_ishr hx hb dX2_comeBack_11 ?_
  refine lv_iconst (v := 1) hx hb dX2_comeBack_12 (by decide) ?_
  refine lv_ishl hx hb dX2_comeBack_13 ?_
  refine lv_iload_n hx hb dX2_comeBack_14 rfl (lv_at hl 4 rfl) ?_
  refine lv_ior hx hb dX2_comeBack_15 ?_
  refine lv_iload hx hb dX2_comeBack_16 (lv_at hl 0 rfl) ?_
  refine lv_ishl hx hb dX2_comeBack_18 ?_
  refine lv_iload_n hx hb dX2_comeBack_19 rfl (lv_at hl 3 rfl) ?_
  refine lv_iconst (v := 1) hx hb dX2_comeBack_20 (by decide) ?_
  refine lv_iload hx hb dX2_comeBack_21 (lv_at hl 0 rfl) ?_
  refine lv_ishl hx hb dX2_comeBack_23 ?_
  refine lv_iconst (v := 1) hx hb dX2_comeBack_24 (by decide) ?_
  refine lv_isub hx hb dX2_comeBack_25 ?_
  refine lv_iand hx hb dX2_comeBack_26 ?_
  refine lv_ior hx hb dX2_comeBack_27 ?_
  refine lv_topE (y := (nI (lgN ln (Nat.log2 ln - br) t))) (lg_ok ln hln _ (by omega) t ht) ?_
  refine lv_istore (lv' := [(6, .int (nI (lgN ln (Nat.log2 ln - br) t))), (5, .int (nI (Nat.log2 ln - br))), (0, .ref (ad 88)), (1, .int (nI br)), (2, .int (nI ln)), (3, .int (nI t)), (4, .int (nI d))]) hx hb dX2_comeBack_28 hl (by decide) rfl (fun ls hl => ?_)
  have jp_1 : ∀ (μ : Mem) (H : Heap) (locs : List Loc) (ls : Array Slot), RepC (foldQ Q (cb1 x br ln t) d) μ → FrP σ μ → WP D cA ad o μ H → va_S (FA ad s.heap.size) s.heap H locs → lv_has ls 7 [(0, .ref (ad 88)), (1, .int (nI br)), (2, .int (nI ln)), (4, .int (nI d)), (5, .int (nI (Nat.log2 ln - br))), (6, .int (nI (lgN ln (Nat.log2 ln - br) t)))] → W p l e (RM 1) s m ([.ref (ad 88), .int (nI br), .int (nI ln), .int (nI t), .int (nI d)] : List Value).toArray below meth c H locs 0 0 (MQ below (va_Qv (fun σ9 => RepC (foldQ Q (cb1 x br ln t ++ cb2 z br ln t) d) σ9 ∧ FrP σ σ9) (QW D cA ad o) (FA ad s.heap.size)) ([.ref (ad 88), .int (nI br), .int (nI ln), .int (nI t), .int (nI d)] : List Value).toArray s 0 0 (FA ad s.heap.size)) (F0 m 49 ls []) := by
    intro μ H locs ls hR1 hF1 hP hS hl
    refine lv_iload hx hb dX2_comeBack_49 (lv_at hl 4 rfl) ?_
    refine lv_aload_n hx hb dX2_comeBack_51 rfl (lv_at hl 0 rfl) ?_
    refine gf_X2_31 C0 X hP 88 ⟨by decide, rfl⟩ dX2_comeBack_52 ?_
    refine lv_topE (y := (nI z)) ((hF1.2 7 (by decide)).trans hz7) ?_
    refine lv_icmp_ge (tgt := 67) hx hb dX2_comeBack_55 (by decide) (fun c_2 => ?_) (fun c_2 => ?_)
    · exact r_vret C0 X hP hS hr hlk dX2_comeBack_67 ⟨by rw [foldQ_app, cb2, if_neg (nI_nlt_of c_2 (by omega))]; exact hR1, hF1⟩
    · refine lv_aload_n hx hb dX2_comeBack_58 rfl (lv_at hl 0 rfl) ?_
      refine lv_iload_n hx hb dX2_comeBack_59 rfl (lv_at hl 1 rfl) ?_
      refine lv_iload hx hb dX2_comeBack_60 (lv_at hl 5 rfl) ?_
      refine lv_iload hx hb dX2_comeBack_62 (lv_at hl 3 rfl) ?_
      refine r_cv X hS (r_runV (As := [.int (nI br), .int (nI (lgN ln (Nat.log2 ln - br) t)), .int (nI d)]) (rest := []) C0 X hP L_X2_37 (fun sz => c_X2_reach l D cA ad o μ (foldQ Q (cb1 x br ln t) d) br (lgN ln (Nat.log2 ln - br) t) d hR1 (by omega) hL.1 (Nat.le_trans hd (foldQ_len _ _ _)) sz) (show 88 < 106 ∧ kd 88 = (2, 8) from ⟨by decide, rfl⟩).1 (show 88 < 106 ∧ kd 88 = (2, 8) from ⟨by decide, rfl⟩).2 (by decide) rfl ⟨Nat.le_of_ble_eq_true rfl, Nat.le_of_ble_eq_true rfl⟩ rfl hl.1 rfl (Nat.le_of_ble_eq_true rfl) dX2_comeBack_64 ⟨Nat.zero_le _, Nat.zero_le _⟩) (fun σw_3 H locs hw_3 hP hS => ?_)
      exact r_vret C0 X hP hS hr hlk dX2_comeBack_67 ⟨by rw [foldQ_app, cb2, if_pos (nI_lt_of c_2 (by omega)), foldQ_one]; exact hw_3.1, FrP_trans hF1 hw_3.2⟩
  refine lv_iload_n hx hb dX2_comeBack_30 rfl (lv_at hl 3 rfl) ?_
  refine lv_aload_n hx hb dX2_comeBack_31 rfl (lv_at hl 2 rfl) ?_
  refine gf_X2_28 C0 X hP 88 ⟨by decide, rfl⟩ dX2_comeBack_32 ?_
  refine lv_topE (y := (nI x)) hx6 ?_
  refine lv_icmp_ge (tgt := 49) hx hb dX2_comeBack_35 (by decide) (fun c_4 => ?_) (fun c_4 => ?_)
  · exact jp_1 σ _ _ ls (by rw [cb1, if_neg (nI_nlt_of c_4 (by omega))]; exact hR) (FrP_refl σ) hP hS (lv_sub hl [2, 3, 4, 6, 1, 0] rfl)
  · refine lv_aload_n hx hb dX2_comeBack_38 rfl (lv_at hl 2 rfl) ?_
    refine lv_iload_n hx hb dX2_comeBack_39 rfl (lv_at hl 3 rfl) ?_
    refine lv_iconst (v := 1) hx hb dX2_comeBack_40 (by decide) ?_
    refine lv_iadd hx hb dX2_comeBack_41 ?_
    refine lv_topE (y := (nI (br + 1))) (nI_1 _) ?_
    refine lv_iload hx hb dX2_comeBack_42 (lv_at hl 0 rfl) ?_
    refine lv_iload hx hb dX2_comeBack_44 (lv_at hl 6 rfl) ?_
    refine r_cv X hS (r_runV (As := [.int (nI (br + 1)), .int (nI (lgN ln (Nat.log2 ln - br) t)), .int (nI d)]) (rest := []) C0 X hP L_X2_37 (fun sz => c_X2_reach l D cA ad o σ Q (br + 1) (lgN ln (Nat.log2 ln - br) t) d hR (by have := nI_lt_of c_4 (by omega); omega) hL.1 hd sz) (show 88 < 106 ∧ kd 88 = (2, 8) from ⟨by decide, rfl⟩).1 (show 88 < 106 ∧ kd 88 = (2, 8) from ⟨by decide, rfl⟩).2 (by decide) rfl ⟨Nat.le_of_ble_eq_true rfl, Nat.le_of_ble_eq_true rfl⟩ rfl hl.1 rfl (Nat.le_of_ble_eq_true rfl) dX2_comeBack_46 ⟨Nat.zero_le _, Nat.zero_le _⟩) (fun σw_5 H locs hw_5 hP hS => ?_)
    exact jp_1 σw_5 _ _ ls (by rw [cb1, if_pos (nI_lt_of c_4 (by omega)), foldQ_one]; exact hw_5.1) hw_5.2 hP hS (lv_sub hl [2, 3, 4, 6, 1, 0] rfl)
end
section
theorem nI_pos_of {n : Nat} (h : ¬ nI n ≤ 0) : 0 < n := by
  rcases Nat.eq_zero_or_pos n with rfl | q
  · exact absurd (by decide) h
  · exact q
theorem nI_zero_of {n : Nat} (hn : n < 2 ^ 31) (h : nI n ≤ 0) : n = 0 := by
  rcases Nat.eq_zero_or_pos n with q | q
  · exact q
  · exact absurd h (nI_nle q hn)
def LSx (own : String) (index : Nat) (y : MethodName) (bytes : ByteArray) (maxL : Nat) (ret : Option FieldType) (n : Nat) : Prop := GoodIn tbg (va_wsS own index y (WY y bytes maxL ret)) ∧ (y.cls ≠ "java/lang/invoke/MethodHandle" ∧ y.cls ≠ "java/lang/invoke/VarHandle" ∧ (parseMethodDescriptor y.desc).map (fun d => d.parameters.length) = some n)
set_option maxRecDepth 100000 in
theorem wc_bit : Cond.code yJ6_bitCount_0f7a4 cJ6_bitCount_0f7a4 1 (some .int) ∈ tbg := tmc sb4_3 1 rfl (by decide +kernel)
theorem L_X2_53 : LSx RX2 53 yJ6_bitCount_0f7a4 cJ6_bitCount_0f7a4 1 (some .int) 1 := by
  refine ⟨tbg_good (fun w hw => ?_), by decide +kernel, by decide +kernel, by decide +kernel⟩
  simp only [va_wsS, List.cons_append, List.nil_append, List.mem_cons] at hw
  rcases hw with rfl | rfl | rfl | hw
  · exact tmc sb4_2 15 rfl (by decide +kernel)
  · exact tmc sb4_3 0 rfl (by decide +kernel)
  · exact tmc sb1_0 12 rfl (by decide +kernel)
  · exact WY_good wc_bit w hw
theorem r_runSX {p : Program} {l : Launch} {e : Env} {R : Room} {s : State} {m : MethodId} {args : Array Value} {below : List Frame} {meth : Method} {c : Code} {H : Heap} {locs : List Loc} {cells slots : Nat} {cc : ByteArray} {pc nL : Nat} {ls : Array Slot} {rest st0 : List Value} {D : va_G} {cA : Nat → ClassId} {ad : Nat → Nat} {A : Nat → Prop} {σ : Mem} {o : Int64} {own : String} {y : MethodName} {bytes : ByteArray} {maxL n index k : Nat} {ret : Option FieldType} {As : List Value} {Qf : (Nat → Prop) → Array Value → State → Outcome → State → Prop} (C0 : CX p s m args c cc nL own) (X : WX D cA ad A s) (hP : WP D cA ad o σ H) (hL : LSx own index y bytes maxL ret n) (hM : ∀ sz, Met l y (WY y bytes maxL ret) (RM k) (va_Pc As (PW D cA ad o σ sz)) (Qf (FA ad sz)) 0 0 (FA ad sz)) (hR : k + 1 ≤ R.frames ∧ 8 + (maxL + 11) + 40 * k ≤ R.locals) (hn : As.length = n) (hsz : ls.size = nL) (hst : st0 = As.reverse ++ rest) (hrm : (rest.map fun v => v.category).sum ≤ 8) (hdg : decode cc pc = .ok (.invokestatic index, 3)) (hf : cells ≤ R.cells ∧ slots ≤ R.slots) :
    va_Run p l e R s m args below meth c H locs cells slots 0 0 (F0 m pc ls st0) rest (Qf (FA ad H.size) As.toArray) (FA ad H.size) :=
  va_runS C0 (hM H.size) (va_cwS n C0.2.2.2.2 hL.1 rfl rfl rfl hL.2 hR) ⟨PW_blind, fun U hU hW => ⟨rfl, PW_of X hP hU hW⟩⟩ rfl hn hsz hst (lv_room hrm) hdg hf
def bB_cX2_tryMoves : Nat := 0xb13a00b60515031c1b2a0c00a21600b42a6406151d3a00b60515041c1b2a0c00a21200b42a0615063664043500b81c2500b605153100b8640404151c1b2a12009e04152500b605153100b804151c64041b2a12009e1b2a00a21900b42a641d601600b42a1200b42a2500b605151c60041b2a0d00a21c00b42a1b15009e04152500b605151c64041b2a0d00a21f00b42a041516009e1b053660042e601c688000111b0b00b42a0436641b1d3e2d00b81cb10400a18000111c0a00a1041c0f00a207101b15009b1b
theorem yB_cX2_tryMoves : BYS cX2_tryMoves 199 bB_cX2_tryMoves := BYS_of (by decide +kernel)
theorem dX2_tryMoves_0 : decode cX2_tryMoves 0 = .ok (.iload_n 1, 1) := D_27 yB_cX2_tryMoves rfl rfl
theorem dX2_tryMoves_1 : decode cX2_tryMoves 1 = .ok (.ifCond .lt 21, 3) := D_155 yB_cX2_tryMoves rfl rfl (sg_p (m := 32768) (N := 21) rfl rfl rfl)
theorem dX2_tryMoves_4 : decode cX2_tryMoves 4 = .ok (.iload_n 1, 1) := D_27 yB_cX2_tryMoves rfl rfl
theorem dX2_tryMoves_5 : decode cX2_tryMoves 5 = .ok (.bipush 7, 2) := D_16 yB_cX2_tryMoves rfl rfl (sg_p (m := 128) (N := 7) rfl rfl rfl)
theorem dX2_tryMoves_7 : decode cX2_tryMoves 7 = .ok (.if_icmp .ge 15, 3) := D_162 yB_cX2_tryMoves rfl rfl (sg_p (m := 32768) (N := 15) rfl rfl rfl)
theorem dX2_tryMoves_10 : decode cX2_tryMoves 10 = .ok (.iload_n 2, 1) := D_28 yB_cX2_tryMoves rfl rfl
theorem dX2_tryMoves_11 : decode cX2_tryMoves 11 = .ok (.iconst 1, 1) := D_4 yB_cX2_tryMoves rfl rfl
theorem dX2_tryMoves_12 : decode cX2_tryMoves 12 = .ok (.if_icmp .lt 10, 3) := D_161 yB_cX2_tryMoves rfl rfl (sg_p (m := 32768) (N := 10) rfl rfl rfl)
theorem dX2_tryMoves_15 : decode cX2_tryMoves 15 = .ok (.iload_n 2, 1) := D_28 yB_cX2_tryMoves rfl rfl
theorem dX2_tryMoves_16 : decode cX2_tryMoves 16 = .ok (.sipush 128, 3) := D_17 yB_cX2_tryMoves rfl rfl (sg_p (m := 32768) (N := 128) rfl rfl rfl)
theorem dX2_tryMoves_19 : decode cX2_tryMoves 19 = .ok (.if_icmp .lt 4, 3) := D_161 yB_cX2_tryMoves rfl rfl (sg_p (m := 32768) (N := 4) rfl rfl rfl)
theorem dX2_tryMoves_22 : decode cX2_tryMoves 22 = .ok (.return_, 1) := D_177 yB_cX2_tryMoves rfl rfl
theorem dX2_tryMoves_23 : decode cX2_tryMoves 23 = .ok (.iload_n 2, 1) := D_28 yB_cX2_tryMoves rfl rfl
theorem dX2_tryMoves_24 : decode cX2_tryMoves 24 = .ok (.invokestatic 45, 3) := D_184 yB_cX2_tryMoves rfl rfl rfl
theorem dX2_tryMoves_27 : decode cX2_tryMoves 27 = .ok (.istore_n 3, 1) := D_62 yB_cX2_tryMoves rfl rfl
theorem dX2_tryMoves_28 : decode cX2_tryMoves 28 = .ok (.iload_n 3, 1) := D_29 yB_cX2_tryMoves rfl rfl
theorem dX2_tryMoves_29 : decode cX2_tryMoves 29 = .ok (.iload_n 1, 1) := D_27 yB_cX2_tryMoves rfl rfl
theorem dX2_tryMoves_30 : decode cX2_tryMoves 30 = .ok (.isub, 1) := D_100 yB_cX2_tryMoves rfl rfl
theorem dX2_tryMoves_31 : decode cX2_tryMoves 31 = .ok (.istore 4, 2) := D_54 yB_cX2_tryMoves rfl rfl rfl
theorem dX2_tryMoves_33 : decode cX2_tryMoves 33 = .ok (.aload_n 0, 1) := D_42 yB_cX2_tryMoves rfl rfl
theorem dX2_tryMoves_34 : decode cX2_tryMoves 34 = .ok (.getfield 11, 3) := D_180 yB_cX2_tryMoves rfl rfl rfl
theorem dX2_tryMoves_37 : decode cX2_tryMoves 37 = .ok (.iload_n 1, 1) := D_27 yB_cX2_tryMoves rfl rfl
theorem dX2_tryMoves_38 : decode cX2_tryMoves 38 = .ok (.sipush 128, 3) := D_17 yB_cX2_tryMoves rfl rfl (sg_p (m := 32768) (N := 128) rfl rfl rfl)
theorem dX2_tryMoves_41 : decode cX2_tryMoves 41 = .ok (.imul, 1) := D_104 yB_cX2_tryMoves rfl rfl
theorem dX2_tryMoves_42 : decode cX2_tryMoves 42 = .ok (.iload_n 2, 1) := D_28 yB_cX2_tryMoves rfl rfl
theorem dX2_tryMoves_43 : decode cX2_tryMoves 43 = .ok (.iadd, 1) := D_96 yB_cX2_tryMoves rfl rfl
theorem dX2_tryMoves_44 : decode cX2_tryMoves 44 = .ok (.iaload, 1) := D_46 yB_cX2_tryMoves rfl rfl
theorem dX2_tryMoves_45 : decode cX2_tryMoves 45 = .ok (.iconst 1, 1) := D_4 yB_cX2_tryMoves rfl rfl
theorem dX2_tryMoves_46 : decode cX2_tryMoves 46 = .ok (.iadd, 1) := D_96 yB_cX2_tryMoves rfl rfl
theorem dX2_tryMoves_47 : decode cX2_tryMoves 47 = .ok (.istore 5, 2) := D_54 yB_cX2_tryMoves rfl rfl rfl
theorem dX2_tryMoves_49 : decode cX2_tryMoves 49 = .ok (.iload_n 1, 1) := D_27 yB_cX2_tryMoves rfl rfl
theorem dX2_tryMoves_50 : decode cX2_tryMoves 50 = .ok (.ifCond .le 22, 3) := D_158 yB_cX2_tryMoves rfl rfl (sg_p (m := 32768) (N := 22) rfl rfl rfl)
theorem dX2_tryMoves_53 : decode cX2_tryMoves 53 = .ok (.iload 4, 2) := D_21 yB_cX2_tryMoves rfl rfl rfl
theorem dX2_tryMoves_55 : decode cX2_tryMoves 55 = .ok (.aload_n 0, 1) := D_42 yB_cX2_tryMoves rfl rfl
theorem dX2_tryMoves_56 : decode cX2_tryMoves 56 = .ok (.getfield 31, 3) := D_180 yB_cX2_tryMoves rfl rfl rfl
theorem dX2_tryMoves_59 : decode cX2_tryMoves 59 = .ok (.if_icmp .ge 13, 3) := D_162 yB_cX2_tryMoves rfl rfl (sg_p (m := 32768) (N := 13) rfl rfl rfl)
theorem dX2_tryMoves_62 : decode cX2_tryMoves 62 = .ok (.aload_n 0, 1) := D_42 yB_cX2_tryMoves rfl rfl
theorem dX2_tryMoves_63 : decode cX2_tryMoves 63 = .ok (.iload_n 1, 1) := D_27 yB_cX2_tryMoves rfl rfl
theorem dX2_tryMoves_64 : decode cX2_tryMoves 64 = .ok (.iconst 1, 1) := D_4 yB_cX2_tryMoves rfl rfl
theorem dX2_tryMoves_65 : decode cX2_tryMoves 65 = .ok (.isub, 1) := D_100 yB_cX2_tryMoves rfl rfl
theorem dX2_tryMoves_66 : decode cX2_tryMoves 66 = .ok (.iload_n 2, 1) := D_28 yB_cX2_tryMoves rfl rfl
theorem dX2_tryMoves_67 : decode cX2_tryMoves 67 = .ok (.iload 5, 2) := D_21 yB_cX2_tryMoves rfl rfl rfl
theorem dX2_tryMoves_69 : decode cX2_tryMoves 69 = .ok (.invokevirtual 37, 3) := D_182 yB_cX2_tryMoves rfl rfl rfl
theorem dX2_tryMoves_72 : decode cX2_tryMoves 72 = .ok (.iload 4, 2) := D_21 yB_cX2_tryMoves rfl rfl rfl
theorem dX2_tryMoves_74 : decode cX2_tryMoves 74 = .ok (.ifCond .le 21, 3) := D_158 yB_cX2_tryMoves rfl rfl (sg_p (m := 32768) (N := 21) rfl rfl rfl)
theorem dX2_tryMoves_77 : decode cX2_tryMoves 77 = .ok (.iload_n 1, 1) := D_27 yB_cX2_tryMoves rfl rfl
theorem dX2_tryMoves_78 : decode cX2_tryMoves 78 = .ok (.aload_n 0, 1) := D_42 yB_cX2_tryMoves rfl rfl
theorem dX2_tryMoves_79 : decode cX2_tryMoves 79 = .ok (.getfield 28, 3) := D_180 yB_cX2_tryMoves rfl rfl rfl
theorem dX2_tryMoves_82 : decode cX2_tryMoves 82 = .ok (.if_icmp .ge 13, 3) := D_162 yB_cX2_tryMoves rfl rfl (sg_p (m := 32768) (N := 13) rfl rfl rfl)
theorem dX2_tryMoves_85 : decode cX2_tryMoves 85 = .ok (.aload_n 0, 1) := D_42 yB_cX2_tryMoves rfl rfl
theorem dX2_tryMoves_86 : decode cX2_tryMoves 86 = .ok (.iload_n 1, 1) := D_27 yB_cX2_tryMoves rfl rfl
theorem dX2_tryMoves_87 : decode cX2_tryMoves 87 = .ok (.iconst 1, 1) := D_4 yB_cX2_tryMoves rfl rfl
theorem dX2_tryMoves_88 : decode cX2_tryMoves 88 = .ok (.iadd, 1) := D_96 yB_cX2_tryMoves rfl rfl
theorem dX2_tryMoves_89 : decode cX2_tryMoves 89 = .ok (.iload_n 2, 1) := D_28 yB_cX2_tryMoves rfl rfl
theorem dX2_tryMoves_90 : decode cX2_tryMoves 90 = .ok (.iload 5, 2) := D_21 yB_cX2_tryMoves rfl rfl rfl
theorem dX2_tryMoves_92 : decode cX2_tryMoves 92 = .ok (.invokevirtual 37, 3) := D_182 yB_cX2_tryMoves rfl rfl rfl
theorem dX2_tryMoves_95 : decode cX2_tryMoves 95 = .ok (.aload_n 0, 1) := D_42 yB_cX2_tryMoves rfl rfl
theorem dX2_tryMoves_96 : decode cX2_tryMoves 96 = .ok (.getfield 18, 3) := D_180 yB_cX2_tryMoves rfl rfl rfl
theorem dX2_tryMoves_99 : decode cX2_tryMoves 99 = .ok (.aload_n 0, 1) := D_42 yB_cX2_tryMoves rfl rfl
theorem dX2_tryMoves_100 : decode cX2_tryMoves 100 = .ok (.getfield 22, 3) := D_180 yB_cX2_tryMoves rfl rfl rfl
theorem dX2_tryMoves_103 : decode cX2_tryMoves 103 = .ok (.iadd, 1) := D_96 yB_cX2_tryMoves rfl rfl
theorem dX2_tryMoves_104 : decode cX2_tryMoves 104 = .ok (.iload_n 3, 1) := D_29 yB_cX2_tryMoves rfl rfl
theorem dX2_tryMoves_105 : decode cX2_tryMoves 105 = .ok (.isub, 1) := D_100 yB_cX2_tryMoves rfl rfl
theorem dX2_tryMoves_106 : decode cX2_tryMoves 106 = .ok (.aload_n 0, 1) := D_42 yB_cX2_tryMoves rfl rfl
theorem dX2_tryMoves_107 : decode cX2_tryMoves 107 = .ok (.getfield 25, 3) := D_180 yB_cX2_tryMoves rfl rfl rfl
theorem dX2_tryMoves_110 : decode cX2_tryMoves 110 = .ok (.if_icmp .ge 42, 3) := D_162 yB_cX2_tryMoves rfl rfl (sg_p (m := 32768) (N := 42) rfl rfl rfl)
theorem dX2_tryMoves_113 : decode cX2_tryMoves 113 = .ok (.iload_n 1, 1) := D_27 yB_cX2_tryMoves rfl rfl
theorem dX2_tryMoves_114 : decode cX2_tryMoves 114 = .ok (.ifCond .le 18, 3) := D_158 yB_cX2_tryMoves rfl rfl (sg_p (m := 32768) (N := 18) rfl rfl rfl)
theorem dX2_tryMoves_117 : decode cX2_tryMoves 117 = .ok (.aload_n 0, 1) := D_42 yB_cX2_tryMoves rfl rfl
theorem dX2_tryMoves_118 : decode cX2_tryMoves 118 = .ok (.iload_n 1, 1) := D_27 yB_cX2_tryMoves rfl rfl
theorem dX2_tryMoves_119 : decode cX2_tryMoves 119 = .ok (.iconst 1, 1) := D_4 yB_cX2_tryMoves rfl rfl
theorem dX2_tryMoves_120 : decode cX2_tryMoves 120 = .ok (.isub, 1) := D_100 yB_cX2_tryMoves rfl rfl
theorem dX2_tryMoves_121 : decode cX2_tryMoves 121 = .ok (.iload_n 2, 1) := D_28 yB_cX2_tryMoves rfl rfl
theorem dX2_tryMoves_122 : decode cX2_tryMoves 122 = .ok (.iload 4, 2) := D_21 yB_cX2_tryMoves rfl rfl rfl
theorem dX2_tryMoves_124 : decode cX2_tryMoves 124 = .ok (.invokestatic 49, 3) := D_184 yB_cX2_tryMoves rfl rfl rfl
theorem dX2_tryMoves_127 : decode cX2_tryMoves 127 = .ok (.iload 5, 2) := D_21 yB_cX2_tryMoves rfl rfl rfl
theorem dX2_tryMoves_129 : decode cX2_tryMoves 129 = .ok (.invokevirtual 37, 3) := D_182 yB_cX2_tryMoves rfl rfl rfl
theorem dX2_tryMoves_132 : decode cX2_tryMoves 132 = .ok (.iload 4, 2) := D_21 yB_cX2_tryMoves rfl rfl rfl
theorem dX2_tryMoves_134 : decode cX2_tryMoves 134 = .ok (.ifCond .le 18, 3) := D_158 yB_cX2_tryMoves rfl rfl (sg_p (m := 32768) (N := 18) rfl rfl rfl)
theorem dX2_tryMoves_137 : decode cX2_tryMoves 137 = .ok (.aload_n 0, 1) := D_42 yB_cX2_tryMoves rfl rfl
theorem dX2_tryMoves_138 : decode cX2_tryMoves 138 = .ok (.iload_n 1, 1) := D_27 yB_cX2_tryMoves rfl rfl
theorem dX2_tryMoves_139 : decode cX2_tryMoves 139 = .ok (.iload_n 2, 1) := D_28 yB_cX2_tryMoves rfl rfl
theorem dX2_tryMoves_140 : decode cX2_tryMoves 140 = .ok (.iload 4, 2) := D_21 yB_cX2_tryMoves rfl rfl rfl
theorem dX2_tryMoves_142 : decode cX2_tryMoves 142 = .ok (.iconst 1, 1) := D_4 yB_cX2_tryMoves rfl rfl
theorem dX2_tryMoves_143 : decode cX2_tryMoves 143 = .ok (.isub, 1) := D_100 yB_cX2_tryMoves rfl rfl
theorem dX2_tryMoves_144 : decode cX2_tryMoves 144 = .ok (.invokestatic 49, 3) := D_184 yB_cX2_tryMoves rfl rfl rfl
theorem dX2_tryMoves_147 : decode cX2_tryMoves 147 = .ok (.iload 5, 2) := D_21 yB_cX2_tryMoves rfl rfl rfl
theorem dX2_tryMoves_149 : decode cX2_tryMoves 149 = .ok (.invokevirtual 37, 3) := D_182 yB_cX2_tryMoves rfl rfl rfl
theorem dX2_tryMoves_152 : decode cX2_tryMoves 152 = .ok (.iload_n 2, 1) := D_28 yB_cX2_tryMoves rfl rfl
theorem dX2_tryMoves_153 : decode cX2_tryMoves 153 = .ok (.invokestatic 53, 3) := D_184 yB_cX2_tryMoves rfl rfl rfl
theorem dX2_tryMoves_156 : decode cX2_tryMoves 156 = .ok (.iconst 1, 1) := D_4 yB_cX2_tryMoves rfl rfl
theorem dX2_tryMoves_157 : decode cX2_tryMoves 157 = .ok (.isub, 1) := D_100 yB_cX2_tryMoves rfl rfl
theorem dX2_tryMoves_158 : decode cX2_tryMoves 158 = .ok (.istore 6, 2) := D_54 yB_cX2_tryMoves rfl rfl rfl
theorem dX2_tryMoves_160 : decode cX2_tryMoves 160 = .ok (.iload 6, 2) := D_21 yB_cX2_tryMoves rfl rfl rfl
theorem dX2_tryMoves_162 : decode cX2_tryMoves 162 = .ok (.aload_n 0, 1) := D_42 yB_cX2_tryMoves rfl rfl
theorem dX2_tryMoves_163 : decode cX2_tryMoves 163 = .ok (.getfield 18, 3) := D_180 yB_cX2_tryMoves rfl rfl rfl
theorem dX2_tryMoves_166 : decode cX2_tryMoves 166 = .ok (.if_icmp .ge 12, 3) := D_162 yB_cX2_tryMoves rfl rfl (sg_p (m := 32768) (N := 12) rfl rfl rfl)
theorem dX2_tryMoves_169 : decode cX2_tryMoves 169 = .ok (.aload_n 0, 1) := D_42 yB_cX2_tryMoves rfl rfl
theorem dX2_tryMoves_170 : decode cX2_tryMoves 170 = .ok (.iload_n 1, 1) := D_27 yB_cX2_tryMoves rfl rfl
theorem dX2_tryMoves_171 : decode cX2_tryMoves 171 = .ok (.iload_n 2, 1) := D_28 yB_cX2_tryMoves rfl rfl
theorem dX2_tryMoves_172 : decode cX2_tryMoves 172 = .ok (.iconst 1, 1) := D_4 yB_cX2_tryMoves rfl rfl
theorem dX2_tryMoves_173 : decode cX2_tryMoves 173 = .ok (.iload 5, 2) := D_21 yB_cX2_tryMoves rfl rfl rfl
theorem dX2_tryMoves_175 : decode cX2_tryMoves 175 = .ok (.invokevirtual 58, 3) := D_182 yB_cX2_tryMoves rfl rfl rfl
theorem dX2_tryMoves_178 : decode cX2_tryMoves 178 = .ok (.iload_n 3, 1) := D_29 yB_cX2_tryMoves rfl rfl
theorem dX2_tryMoves_179 : decode cX2_tryMoves 179 = .ok (.iload 6, 2) := D_21 yB_cX2_tryMoves rfl rfl rfl
theorem dX2_tryMoves_181 : decode cX2_tryMoves 181 = .ok (.isub, 1) := D_100 yB_cX2_tryMoves rfl rfl
theorem dX2_tryMoves_182 : decode cX2_tryMoves 182 = .ok (.aload_n 0, 1) := D_42 yB_cX2_tryMoves rfl rfl
theorem dX2_tryMoves_183 : decode cX2_tryMoves 183 = .ok (.getfield 22, 3) := D_180 yB_cX2_tryMoves rfl rfl rfl
theorem dX2_tryMoves_186 : decode cX2_tryMoves 186 = .ok (.if_icmp .ge 12, 3) := D_162 yB_cX2_tryMoves rfl rfl (sg_p (m := 32768) (N := 12) rfl rfl rfl)
theorem dX2_tryMoves_189 : decode cX2_tryMoves 189 = .ok (.aload_n 0, 1) := D_42 yB_cX2_tryMoves rfl rfl
theorem dX2_tryMoves_190 : decode cX2_tryMoves 190 = .ok (.iload_n 1, 1) := D_27 yB_cX2_tryMoves rfl rfl
theorem dX2_tryMoves_191 : decode cX2_tryMoves 191 = .ok (.iload_n 2, 1) := D_28 yB_cX2_tryMoves rfl rfl
theorem dX2_tryMoves_192 : decode cX2_tryMoves 192 = .ok (.iconst 0, 1) := D_3 yB_cX2_tryMoves rfl rfl
theorem dX2_tryMoves_193 : decode cX2_tryMoves 193 = .ok (.iload 5, 2) := D_21 yB_cX2_tryMoves rfl rfl rfl
theorem dX2_tryMoves_195 : decode cX2_tryMoves 195 = .ok (.invokevirtual 58, 3) := D_182 yB_cX2_tryMoves rfl rfl rfl
theorem dX2_tryMoves_198 : decode cX2_tryMoves 198 = .ok (.return_, 1) := D_177 yB_cX2_tryMoves rfl rfl
set_option maxHeartbeats 4000000 in
set_option maxRecDepth 100000 in
theorem c_X2_tryMoves (l : Launch) (D : va_G) (cA : Nat → ClassId) (ad : Nat → Nat) (o : Int64) (σ : Mem) (Q : List (Nat × Nat)) (br : Nat) (ln : Nat) (a : Nat) (b : Nat) (q : Nat) (x : Nat) (z : Nat) (d : Nat) (hR : RepC Q σ) (h3 : σ 88 3 = nI a) (h4 : σ 88 4 = nI b) (h5 : σ 88 5 = nI q) (hx6 : σ 88 6 = nI x) (hz7 : σ 88 7 = nI z) (ha : a ≤ 3) (hb3 : b ≤ 3) (hq : q ≤ 3) (hxb : x ≤ 6) (hz : z ≤ 6) (hbl : br ≤ Nat.log2 ln) (hln : ln < 128) (hl1 : 1 ≤ ln) (hv1 : pcN ln - 1 ≤ a) (hv2 : Nat.log2 ln - (pcN ln - 1) ≤ b) (hd0 : σ 89 (br * 128 + ln) = nI d) (hd : d + 1 ≤ Q.length) (sz : Nat) : Met l yX2_tryMoves (WY yX2_tryMoves cX2_tryMoves 7 none) (RM 2) (va_Pc [.ref (ad 88), .int (nI br), .int (nI ln)] (PW D cA ad o σ sz)) (va_Qv (fun σ9 => RepC (foldQ Q (nbrL a b q x z br ln) (d + 1)) σ9 ∧ FrP σ σ9) (QW D cA ad o) (FA ad sz)) 0 0 (FA ad sz) := by
  refine ct_of (own := RX2) (k := 2) (Qf := va_Qv (fun σ9 => RepC (foldQ Q (nbrL a b q x z br ln) (d + 1)) σ9 ∧ FrP σ σ9) (QW D cA ad o)) rfl (by decide) (Nat.le_of_ble_eq_true rfl) (fun p e s m below meth c ls C0 X hr hlk hP hl => ?_) sz
  have hS : va_S (FA ad s.heap.size) s.heap s.heap [] := va_S.rf
  have hl : lv_has ls 7 [(0, .ref (ad 88)), (1, .int (nI br)), (2, .int (nI ln))] := hl
  obtain ⟨hx, hb, hml, hown, hts⟩ := id C0
  have h7 := ln_lt ln hln
  have hpc := ln_f1 ln hln hl1
  refine lv_iload_n hx hb dX2_tryMoves_0 rfl (lv_at hl 1 rfl) ?_
  refine lv_if_lt (tgt := 22) hx hb dX2_tryMoves_1 (by decide) (fun c_1 => absurd c_1 (nI_pos (by omega))) (fun c_1 => ?_)
  refine lv_iload_n hx hb dX2_tryMoves_4 rfl (lv_at hl 1 rfl) ?_
  refine lv_bipush (v := 7) hx hb dX2_tryMoves_5 (by decide) ?_
  refine lv_icmp_ge (tgt := 22) hx hb dX2_tryMoves_7 (by decide) (fun c_2 => absurd c_2 (nI_ge (a := br) (b := 7) (by omega) (by decide))) (fun c_2 => ?_)
  refine lv_iload_n hx hb dX2_tryMoves_10 rfl (lv_at hl 2 rfl) ?_
  refine lv_iconst (v := 1) hx hb dX2_tryMoves_11 (by decide) ?_
  refine lv_icmp_lt (tgt := 22) hx hb dX2_tryMoves_12 (by decide) (fun c_3 => absurd c_3 (nI_nlt (a := ln) (b := 1) hl1 (by omega))) (fun c_3 => ?_)
  refine lv_iload_n hx hb dX2_tryMoves_15 rfl (lv_at hl 2 rfl) ?_
  refine lv_sipush (v := 128) hx hb dX2_tryMoves_16 (by decide) ?_
  refine lv_icmp_lt (tgt := 23) hx hb dX2_tryMoves_19 (by decide) (fun c_4 => ?_) (fun c_4 => absurd (nI_lt (a := ln) (b := 128) hln (by decide)) c_4)
  refine lv_iload_n hx hb dX2_tryMoves_23 rfl (lv_at hl 2 rfl) ?_
  refine r_ci X hS (r_runS (As := [.int (nI ln)]) (rest := []) C0 X hP L_X2_45 (fun sz => c_X2_lengthOf l D cA ad o σ ln hln sz) ⟨Nat.le_of_ble_eq_true rfl, Nat.le_of_ble_eq_true rfl⟩ rfl hl.1 rfl (Nat.le_of_ble_eq_true rfl) dX2_tryMoves_24 ⟨Nat.zero_le _, Nat.zero_le _⟩) (fun r σ9 H locs hw hP hS => ?_)
  rw [hw.2] at hP
  rw [hw.1]
  refine lv_istore_n (lv' := [(3, .int (nI (Nat.log2 ln))), (0, .ref (ad 88)), (1, .int (nI br)), (2, .int (nI ln))]) hx hb dX2_tryMoves_27 rfl hl (by decide) rfl (fun ls hl => ?_)
  refine lv_iload_n hx hb dX2_tryMoves_28 rfl (lv_at hl 0 rfl) ?_
  refine lv_iload_n hx hb dX2_tryMoves_29 rfl (lv_at hl 2 rfl) ?_
  refine lv_isub hx hb dX2_tryMoves_30 ?_
  refine lv_topE (y := (nI (Nat.log2 ln - br))) (pk_sub hbl) ?_
  refine lv_istore (lv' := [(4, .int (nI (Nat.log2 ln - br))), (3, .int (nI (Nat.log2 ln))), (0, .ref (ad 88)), (1, .int (nI br)), (2, .int (nI ln))]) hx hb dX2_tryMoves_31 hl (by decide) rfl (fun ls hl => ?_)
  refine lv_aload_n hx hb dX2_tryMoves_33 rfl (lv_at hl 2 rfl) ?_
  refine gf_X2_11 C0 X hP 88 (q := 89) ⟨by decide, rfl⟩ (by omega) rfl dX2_tryMoves_34 ?_
  refine lv_iload_n hx hb dX2_tryMoves_37 rfl (lv_at hl 3 rfl) ?_
  refine lv_sipush (v := 128) hx hb dX2_tryMoves_38 (by decide) ?_
  refine lv_imul hx hb dX2_tryMoves_41 ?_
  refine lv_topE (y := (nI (br * 128))) (pk_mul br 128) ?_
  refine lv_iload_n hx hb dX2_tryMoves_42 rfl (lv_at hl 4 rfl) ?_
  refine lv_iadd hx hb dX2_tryMoves_43 ?_
  refine lv_topE (y := (nI (br * 128 + ln))) (nI_add _ _) ?_
  refine r_ialdN C0 X hP 89 (k := (br * 128 + ln)) ⟨by decide, rfl⟩ rfl (by omega) dX2_tryMoves_44 ?_
  refine lv_topE (y := (nI d)) hd0 ?_
  refine lv_iconst (v := 1) hx hb dX2_tryMoves_45 (by decide) ?_
  refine lv_iadd hx hb dX2_tryMoves_46 ?_
  refine lv_topE (y := (nI (d + 1))) (nI_1 _) ?_
  refine lv_istore (lv' := [(5, .int (nI (d + 1))), (4, .int (nI (Nat.log2 ln - br))), (3, .int (nI (Nat.log2 ln))), (0, .ref (ad 88)), (1, .int (nI br)), (2, .int (nI ln))]) hx hb dX2_tryMoves_47 hl (by decide) rfl (fun ls hl => ?_)
  have jp_5 : ∀ (μ1 : Mem) (H : Heap) (locs : List Loc) (ls : Array Slot), RepC (foldQ Q (mm1 z br ln) (d + 1)) μ1 → FrP σ μ1 → WP D cA ad o μ1 H → va_S (FA ad s.heap.size) s.heap H locs → lv_has ls 7 [(0, .ref (ad 88)), (1, .int (nI br)), (2, .int (nI ln)), (3, .int (nI (Nat.log2 ln))), (4, .int (nI (Nat.log2 ln - br))), (5, .int (nI (d + 1)))] → W p l e (RM 2) s m ([.ref (ad 88), .int (nI br), .int (nI ln)] : List Value).toArray below meth c H locs 0 0 (MQ below (va_Qv (fun σ9 => RepC (foldQ Q (nbrL a b q x z br ln) (d + 1)) σ9 ∧ FrP σ σ9) (QW D cA ad o) (FA ad s.heap.size)) ([.ref (ad 88), .int (nI br), .int (nI ln)] : List Value).toArray s 0 0 (FA ad s.heap.size)) (F0 m 72 ls []) := by
    intro μ1 H locs ls hR1 hF1 hP hS hl
    have jp_6 : ∀ (μ2 : Mem) (H : Heap) (locs : List Loc) (ls : Array Slot), RepC (foldQ Q (mm1 z br ln ++ mm2 x br ln) (d + 1)) μ2 → FrP σ μ2 → WP D cA ad o μ2 H → va_S (FA ad s.heap.size) s.heap H locs → lv_has ls 7 [(0, .ref (ad 88)), (1, .int (nI br)), (2, .int (nI ln)), (3, .int (nI (Nat.log2 ln))), (4, .int (nI (Nat.log2 ln - br))), (5, .int (nI (d + 1)))] → W p l e (RM 2) s m ([.ref (ad 88), .int (nI br), .int (nI ln)] : List Value).toArray below meth c H locs 0 0 (MQ below (va_Qv (fun σ9 => RepC (foldQ Q (nbrL a b q x z br ln) (d + 1)) σ9 ∧ FrP σ σ9) (QW D cA ad o) (FA ad s.heap.size)) ([.ref (ad 88), .int (nI br), .int (nI ln)] : List Value).toArray s 0 0 (FA ad s.heap.size)) (F0 m 95 ls []) := by
      intro μ2 H locs ls hR2 hF2 hP hS hl
      have jp_7 : ∀ (μ4 : Mem) (H : Heap) (locs : List Loc) (ls : Array Slot), RepC (foldQ Q (mm1 z br ln ++ mm2 x br ln ++ mm3 a b q br ln ++ mm4 a b q br ln) (d + 1)) μ4 → FrP σ μ4 → WP D cA ad o μ4 H → va_S (FA ad s.heap.size) s.heap H locs → lv_has ls 7 [(0, .ref (ad 88)), (1, .int (nI br)), (2, .int (nI ln)), (3, .int (nI (Nat.log2 ln))), (4, .int (nI (Nat.log2 ln - br))), (5, .int (nI (d + 1)))] → W p l e (RM 2) s m ([.ref (ad 88), .int (nI br), .int (nI ln)] : List Value).toArray below meth c H locs 0 0 (MQ below (va_Qv (fun σ9 => RepC (foldQ Q (nbrL a b q x z br ln) (d + 1)) σ9 ∧ FrP σ σ9) (QW D cA ad o) (FA ad s.heap.size)) ([.ref (ad 88), .int (nI br), .int (nI ln)] : List Value).toArray s 0 0 (FA ad s.heap.size)) (F0 m 152 ls []) := by
        intro μ4 H locs ls hR4 hF4 hP hS hl
        refine lv_iload_n hx hb dX2_tryMoves_152 rfl (lv_at hl 2 rfl) ?_
        refine r_ci X hS (r_runSX (As := [.int (nI ln)]) (rest := []) C0 X hP L_X2_53 (fun sz => c_J6_bitCount_0f7a4 l D cA ad o μ4 ln hln sz) ⟨Nat.le_of_ble_eq_true rfl, Nat.le_of_ble_eq_true rfl⟩ rfl hl.1 rfl (Nat.le_of_ble_eq_true rfl) dX2_tryMoves_153 ⟨Nat.zero_le _, Nat.zero_le _⟩) (fun r σ9 H locs hw hP hS => ?_)
        rw [hw.2] at hP
        rw [hw.1]
        refine lv_iconst (v := 1) hx hb dX2_tryMoves_156 (by decide) ?_
        refine lv_isub hx hb dX2_tryMoves_157 ?_
        refine lv_topE (y := (nI (pcN ln - 1))) (pk_sub (a := pcN ln) (b := 1) hpc.1) ?_
        refine lv_istore (lv' := [(6, .int (nI (pcN ln - 1))), (0, .ref (ad 88)), (1, .int (nI br)), (2, .int (nI ln)), (3, .int (nI (Nat.log2 ln))), (4, .int (nI (Nat.log2 ln - br))), (5, .int (nI (d + 1)))]) hx hb dX2_tryMoves_158 hl (by decide) rfl (fun ls hl => ?_)
        have jp_8 : ∀ (μ5 : Mem) (H : Heap) (locs : List Loc) (ls : Array Slot), RepC (foldQ Q (mm1 z br ln ++ mm2 x br ln ++ mm3 a b q br ln ++ mm4 a b q br ln ++ mm5 a x z br ln) (d + 1)) μ5 → FrP σ μ5 → WP D cA ad o μ5 H → va_S (FA ad s.heap.size) s.heap H locs → lv_has ls 7 [(0, .ref (ad 88)), (1, .int (nI br)), (2, .int (nI ln)), (3, .int (nI (Nat.log2 ln))), (4, .int (nI (Nat.log2 ln - br))), (5, .int (nI (d + 1))), (6, .int (nI (pcN ln - 1)))] → W p l e (RM 2) s m ([.ref (ad 88), .int (nI br), .int (nI ln)] : List Value).toArray below meth c H locs 0 0 (MQ below (va_Qv (fun σ9 => RepC (foldQ Q (nbrL a b q x z br ln) (d + 1)) σ9 ∧ FrP σ σ9) (QW D cA ad o) (FA ad s.heap.size)) ([.ref (ad 88), .int (nI br), .int (nI ln)] : List Value).toArray s 0 0 (FA ad s.heap.size)) (F0 m 178 ls []) := by
          intro μ5 H locs ls hR5 hF5 hP hS hl
          refine lv_iload_n hx hb dX2_tryMoves_178 rfl (lv_at hl 3 rfl) ?_
          refine lv_iload hx hb dX2_tryMoves_179 (lv_at hl 6 rfl) ?_
          refine lv_isub hx hb dX2_tryMoves_181 ?_
          refine lv_topE (y := (nI (Nat.log2 ln - (pcN ln - 1)))) (pk_sub hpc.2) ?_
          refine lv_aload_n hx hb dX2_tryMoves_182 rfl (lv_at hl 0 rfl) ?_
          refine gf_X2_22 C0 X hP 88 ⟨by decide, rfl⟩ dX2_tryMoves_183 ?_
          refine lv_topE (y := (nI b)) ((hF5.2 4 (by decide)).trans h4) ?_
          refine lv_icmp_ge (tgt := 198) hx hb dX2_tryMoves_186 (by decide) (fun c_9 => ?_) (fun c_9 => ?_)
          · exact r_vret C0 X hP hS hr hlk dX2_tryMoves_198 ⟨by rw [nbrL, foldQ_app, mm6, if_neg (nI_nlt_of c_9 (by omega))]; exact hR5, hF5⟩
          · refine lv_aload_n hx hb dX2_tryMoves_189 rfl (lv_at hl 0 rfl) ?_
            refine lv_iload_n hx hb dX2_tryMoves_190 rfl (lv_at hl 1 rfl) ?_
            refine lv_iload_n hx hb dX2_tryMoves_191 rfl (lv_at hl 2 rfl) ?_
            refine lv_iconst (v := 0) hx hb dX2_tryMoves_192 (by decide) ?_
            refine lv_iload hx hb dX2_tryMoves_193 (lv_at hl 5 rfl) ?_
            refine r_cv X hS (r_runV (As := [.int (nI br), .int (nI ln), .int 0, .int (nI (d + 1))]) (rest := []) C0 X hP L_X2_58 (fun sz => c_X2_comeBack l D cA ad o μ5 (foldQ Q (mm1 z br ln ++ mm2 x br ln ++ mm3 a b q br ln ++ mm4 a b q br ln ++ mm5 a x z br ln) (d + 1)) br ln 0 (d + 1) x z hR5 ((hF5.2 6 (by decide)).trans hx6) ((hF5.2 7 (by decide)).trans hz7) hbl hln hl1 (by have := nI_lt_of c_9 (by omega); omega) (by decide) (Nat.le_trans hd (foldQ_len _ _ _)) hxb hz sz) (show 88 < 106 ∧ kd 88 = (2, 8) from ⟨by decide, rfl⟩).1 (show 88 < 106 ∧ kd 88 = (2, 8) from ⟨by decide, rfl⟩).2 (by decide) rfl ⟨Nat.le_of_ble_eq_true rfl, Nat.le_of_ble_eq_true rfl⟩ rfl hl.1 rfl (Nat.le_of_ble_eq_true rfl) dX2_tryMoves_195 ⟨Nat.zero_le _, Nat.zero_le _⟩) (fun σw_10 H locs hw_10 hP hS => ?_)
            exact r_vret C0 X hP hS hr hlk dX2_tryMoves_198 ⟨by rw [nbrL, foldQ_app, mm6, if_pos (nI_lt_of c_9 (by omega))]; exact hw_10.1, FrP_trans hF5 hw_10.2⟩
        refine lv_iload hx hb dX2_tryMoves_160 (lv_at hl 0 rfl) ?_
        refine lv_aload_n hx hb dX2_tryMoves_162 rfl (lv_at hl 1 rfl) ?_
        refine gf_X2_18 C0 X hP 88 ⟨by decide, rfl⟩ dX2_tryMoves_163 ?_
        refine lv_topE (y := (nI a)) ((hF4.2 3 (by decide)).trans h3) ?_
        refine lv_icmp_ge (tgt := 178) hx hb dX2_tryMoves_166 (by decide) (fun c_11 => ?_) (fun c_11 => ?_)
        · exact jp_8 μ4 _ _ ls (by rw [foldQ_app, mm5, if_neg (nI_nlt_of c_11 (by omega))]; exact hR4) hF4 hP hS (lv_sub hl [1, 2, 3, 4, 5, 6, 0] rfl)
        · refine lv_aload_n hx hb dX2_tryMoves_169 rfl (lv_at hl 1 rfl) ?_
          refine lv_iload_n hx hb dX2_tryMoves_170 rfl (lv_at hl 2 rfl) ?_
          refine lv_iload_n hx hb dX2_tryMoves_171 rfl (lv_at hl 3 rfl) ?_
          refine lv_iconst (v := 1) hx hb dX2_tryMoves_172 (by decide) ?_
          refine lv_iload hx hb dX2_tryMoves_173 (lv_at hl 6 rfl) ?_
          refine r_cv X hS (r_runV (As := [.int (nI br), .int (nI ln), .int 1, .int (nI (d + 1))]) (rest := []) C0 X hP L_X2_58 (fun sz => c_X2_comeBack l D cA ad o μ4 (foldQ Q (mm1 z br ln ++ mm2 x br ln ++ mm3 a b q br ln ++ mm4 a b q br ln) (d + 1)) br ln 1 (d + 1) x z hR4 ((hF4.2 6 (by decide)).trans hx6) ((hF4.2 7 (by decide)).trans hz7) hbl hln hl1 (by have := nI_lt_of c_11 (by omega); omega) (by decide) (Nat.le_trans hd (foldQ_len _ _ _)) hxb hz sz) (show 88 < 106 ∧ kd 88 = (2, 8) from ⟨by decide, rfl⟩).1 (show 88 < 106 ∧ kd 88 = (2, 8) from ⟨by decide, rfl⟩).2 (by decide) rfl ⟨Nat.le_of_ble_eq_true rfl, Nat.le_of_ble_eq_true rfl⟩ rfl hl.1 rfl (Nat.le_of_ble_eq_true rfl) dX2_tryMoves_175 ⟨Nat.zero_le _, Nat.zero_le _⟩) (fun σw_12 H locs hw_12 hP hS => ?_)
          exact jp_8 σw_12 _ _ ls (by rw [foldQ_app, mm5, if_pos (nI_lt_of c_11 (by omega))]; exact hw_12.1) (FrP_trans hF4 hw_12.2) hP hS (lv_sub hl [1, 2, 3, 4, 5, 6, 0] rfl)
      refine lv_aload_n hx hb dX2_tryMoves_95 rfl (lv_at hl 0 rfl) ?_
      refine gf_X2_18 C0 X hP 88 ⟨by decide, rfl⟩ dX2_tryMoves_96 ?_
      refine lv_topE (y := (nI a)) ((hF2.2 3 (by decide)).trans h3) ?_
      refine lv_aload_n hx hb dX2_tryMoves_99 rfl (lv_at hl 0 rfl) ?_
      refine gf_X2_22 C0 X hP 88 ⟨by decide, rfl⟩ dX2_tryMoves_100 ?_
      refine lv_topE (y := (nI b)) ((hF2.2 4 (by decide)).trans h4) ?_
      refine lv_iadd hx hb dX2_tryMoves_103 ?_
      refine lv_topE (y := (nI (a + b))) (nI_add _ _) ?_
      refine lv_iload_n hx hb dX2_tryMoves_104 rfl (lv_at hl 3 rfl) ?_
      refine lv_isub hx hb dX2_tryMoves_105 ?_
      refine lv_topE (y := (nI (a + b - Nat.log2 ln))) (pk_sub (by omega)) ?_
      refine lv_aload_n hx hb dX2_tryMoves_106 rfl (lv_at hl 0 rfl) ?_
      refine gf_X2_25 C0 X hP 88 ⟨by decide, rfl⟩ dX2_tryMoves_107 ?_
      refine lv_topE (y := (nI q)) ((hF2.2 5 (by decide)).trans h5) ?_
      refine lv_icmp_ge (tgt := 152) hx hb dX2_tryMoves_110 (by decide) (fun c_13 => ?_) (fun c_13 => ?_)
      · exact jp_7 μ2 _ _ ls (by rw [foldQ_app, mm4, if_neg (fun h9 => nI_nlt_of c_13 (by omega) h9.1), foldQ_nil, foldQ_app, mm3, if_neg (fun h9 => nI_nlt_of c_13 (by omega) h9.1)]; exact hR2) hF2 hP hS (lv_sub hl [0, 1, 2, 3, 4, 5] rfl)
      · have jp_14 : ∀ (μ3 : Mem) (H : Heap) (locs : List Loc) (ls : Array Slot), RepC (foldQ Q (mm1 z br ln ++ mm2 x br ln ++ mm3 a b q br ln) (d + 1)) μ3 → FrP σ μ3 → WP D cA ad o μ3 H → va_S (FA ad s.heap.size) s.heap H locs → lv_has ls 7 [(0, .ref (ad 88)), (1, .int (nI br)), (2, .int (nI ln)), (3, .int (nI (Nat.log2 ln))), (4, .int (nI (Nat.log2 ln - br))), (5, .int (nI (d + 1)))] → W p l e (RM 2) s m ([.ref (ad 88), .int (nI br), .int (nI ln)] : List Value).toArray below meth c H locs 0 0 (MQ below (va_Qv (fun σ9 => RepC (foldQ Q (nbrL a b q x z br ln) (d + 1)) σ9 ∧ FrP σ σ9) (QW D cA ad o) (FA ad s.heap.size)) ([.ref (ad 88), .int (nI br), .int (nI ln)] : List Value).toArray s 0 0 (FA ad s.heap.size)) (F0 m 132 ls []) := by
          intro μ3 H locs ls hR3 hF3 hP hS hl
          refine lv_iload hx hb dX2_tryMoves_132 (lv_at hl 4 rfl) ?_
          refine lv_if_le (tgt := 152) hx hb dX2_tryMoves_134 (by decide) (fun c_15 => ?_) (fun c_15 => ?_)
          · exact jp_7 μ3 _ _ ls (by rw [foldQ_app, mm4, if_neg (fun h9 => absurd h9.2 (by have := nI_zero_of (by omega) c_15; omega))]; exact hR3) hF3 hP hS (lv_sub hl [0, 1, 2, 3, 4, 5] rfl)
          · refine lv_aload_n hx hb dX2_tryMoves_137 rfl (lv_at hl 0 rfl) ?_
            refine lv_iload_n hx hb dX2_tryMoves_138 rfl (lv_at hl 1 rfl) ?_
            refine lv_iload_n hx hb dX2_tryMoves_139 rfl (lv_at hl 2 rfl) ?_
            refine lv_iload hx hb dX2_tryMoves_140 (lv_at hl 4 rfl) ?_
            refine lv_iconst (v := 1) hx hb dX2_tryMoves_142 (by decide) ?_
            refine lv_isub hx hb dX2_tryMoves_143 ?_
            refine lv_topE (y := (nI (Nat.log2 ln - br - 1))) (pk_sub (a := Nat.log2 ln - br) (b := 1) (nI_pos_of c_15)) ?_
            refine r_ci X hS (r_runS (As := [.int (nI ln), .int (nI (Nat.log2 ln - br - 1))]) (rest := [.int (nI br), .ref (ad 88)]) C0 X hP L_X2_49 (fun sz => c_X2_without l D cA ad o μ3 ln (Nat.log2 ln - br - 1) hln (by omega) sz) ⟨Nat.le_of_ble_eq_true rfl, Nat.le_of_ble_eq_true rfl⟩ rfl hl.1 rfl (Nat.le_of_ble_eq_true rfl) dX2_tryMoves_144 ⟨Nat.zero_le _, Nat.zero_le _⟩) (fun r σ9 H locs hw hP hS => ?_)
            rw [hw.2] at hP
            rw [hw.1]
            refine lv_iload hx hb dX2_tryMoves_147 (lv_at hl 5 rfl) ?_
            refine r_cv X hS (r_runV (As := [.int (nI br), .int (nI (woN ln (Nat.log2 ln - br - 1))), .int (nI (d + 1))]) (rest := []) C0 X hP L_X2_37 (fun sz => c_X2_reach l D cA ad o μ3 (foldQ Q (mm1 z br ln ++ mm2 x br ln ++ mm3 a b q br ln) (d + 1)) br (woN ln (Nat.log2 ln - br - 1)) (d + 1) hR3 (by omega) (ln_f2 ln hln _ (by omega) (by have := nI_pos_of c_15; omega)).1 (Nat.le_trans hd (foldQ_len _ _ _)) sz) (show 88 < 106 ∧ kd 88 = (2, 8) from ⟨by decide, rfl⟩).1 (show 88 < 106 ∧ kd 88 = (2, 8) from ⟨by decide, rfl⟩).2 (by decide) rfl ⟨Nat.le_of_ble_eq_true rfl, Nat.le_of_ble_eq_true rfl⟩ rfl hl.1 rfl (Nat.le_of_ble_eq_true rfl) dX2_tryMoves_149 ⟨Nat.zero_le _, Nat.zero_le _⟩) (fun σw_16 H locs hw_16 hP hS => ?_)
            exact jp_7 σw_16 _ _ ls (by rw [foldQ_app, mm4, if_pos ⟨nI_lt_of c_13 (by omega), nI_pos_of c_15⟩, foldQ_one]; exact hw_16.1) (FrP_trans hF3 hw_16.2) hP hS (lv_sub hl [0, 1, 2, 3, 4, 5] rfl)
        refine lv_iload_n hx hb dX2_tryMoves_113 rfl (lv_at hl 1 rfl) ?_
        refine lv_if_le (tgt := 132) hx hb dX2_tryMoves_114 (by decide) (fun c_17 => ?_) (fun c_17 => ?_)
        · exact jp_14 μ2 _ _ ls (by rw [foldQ_app, mm3, if_neg (fun h9 => absurd h9.2 (by have := nI_zero_of (by omega) c_17; omega))]; exact hR2) hF2 hP hS (lv_sub hl [0, 1, 2, 3, 4, 5] rfl)
        · refine lv_aload_n hx hb dX2_tryMoves_117 rfl (lv_at hl 0 rfl) ?_
          refine lv_iload_n hx hb dX2_tryMoves_118 rfl (lv_at hl 1 rfl) ?_
          refine lv_iconst (v := 1) hx hb dX2_tryMoves_119 (by decide) ?_
          refine lv_isub hx hb dX2_tryMoves_120 ?_
          refine lv_topE (y := (nI (br - 1))) (pk_sub (a := br) (b := 1) (nI_pos_of c_17)) ?_
          refine lv_iload_n hx hb dX2_tryMoves_121 rfl (lv_at hl 2 rfl) ?_
          refine lv_iload hx hb dX2_tryMoves_122 (lv_at hl 4 rfl) ?_
          refine r_ci X hS (r_runS (As := [.int (nI ln), .int (nI (Nat.log2 ln - br))]) (rest := [.int (nI (br - 1)), .ref (ad 88)]) C0 X hP L_X2_49 (fun sz => c_X2_without l D cA ad o μ2 ln (Nat.log2 ln - br) hln (by omega) sz) ⟨Nat.le_of_ble_eq_true rfl, Nat.le_of_ble_eq_true rfl⟩ rfl hl.1 rfl (Nat.le_of_ble_eq_true rfl) dX2_tryMoves_124 ⟨Nat.zero_le _, Nat.zero_le _⟩) (fun r σ9 H locs hw hP hS => ?_)
          rw [hw.2] at hP
          rw [hw.1]
          refine lv_iload hx hb dX2_tryMoves_127 (lv_at hl 5 rfl) ?_
          refine r_cv X hS (r_runV (As := [.int (nI (br - 1)), .int (nI (woN ln (Nat.log2 ln - br))), .int (nI (d + 1))]) (rest := []) C0 X hP L_X2_37 (fun sz => c_X2_reach l D cA ad o μ2 (foldQ Q (mm1 z br ln ++ mm2 x br ln) (d + 1)) (br - 1) (woN ln (Nat.log2 ln - br)) (d + 1) hR2 (by omega) (ln_f2 ln hln _ (by omega) (by have := nI_pos_of c_17; omega)).1 (Nat.le_trans hd (foldQ_len _ _ _)) sz) (show 88 < 106 ∧ kd 88 = (2, 8) from ⟨by decide, rfl⟩).1 (show 88 < 106 ∧ kd 88 = (2, 8) from ⟨by decide, rfl⟩).2 (by decide) rfl ⟨Nat.le_of_ble_eq_true rfl, Nat.le_of_ble_eq_true rfl⟩ rfl hl.1 rfl (Nat.le_of_ble_eq_true rfl) dX2_tryMoves_129 ⟨Nat.zero_le _, Nat.zero_le _⟩) (fun σw_18 H locs hw_18 hP hS => ?_)
          exact jp_14 σw_18 _ _ ls (by rw [foldQ_app, mm3, if_pos ⟨nI_lt_of c_13 (by omega), nI_pos_of c_17⟩, foldQ_one]; exact hw_18.1) (FrP_trans hF2 hw_18.2) hP hS (lv_sub hl [0, 1, 2, 3, 4, 5] rfl)
    refine lv_iload hx hb dX2_tryMoves_72 (lv_at hl 4 rfl) ?_
    refine lv_if_le (tgt := 95) hx hb dX2_tryMoves_74 (by decide) (fun c_19 => ?_) (fun c_19 => ?_)
    · exact jp_6 μ1 _ _ ls (by rw [foldQ_app, mm2, if_neg (fun h9 => absurd h9.1 (by have := nI_zero_of (by omega) c_19; omega))]; exact hR1) hF1 hP hS (lv_sub hl [0, 1, 2, 3, 4, 5] rfl)
    · refine lv_iload_n hx hb dX2_tryMoves_77 rfl (lv_at hl 1 rfl) ?_
      refine lv_aload_n hx hb dX2_tryMoves_78 rfl (lv_at hl 0 rfl) ?_
      refine gf_X2_28 C0 X hP 88 ⟨by decide, rfl⟩ dX2_tryMoves_79 ?_
      refine lv_topE (y := (nI x)) ((hF1.2 6 (by decide)).trans hx6) ?_
      refine lv_icmp_ge (tgt := 95) hx hb dX2_tryMoves_82 (by decide) (fun c_20 => ?_) (fun c_20 => ?_)
      · exact jp_6 μ1 _ _ ls (by rw [foldQ_app, mm2, if_neg (fun h9 => nI_nlt_of c_20 (by omega) h9.2)]; exact hR1) hF1 hP hS (lv_sub hl [0, 1, 2, 3, 4, 5] rfl)
      · refine lv_aload_n hx hb dX2_tryMoves_85 rfl (lv_at hl 0 rfl) ?_
        refine lv_iload_n hx hb dX2_tryMoves_86 rfl (lv_at hl 1 rfl) ?_
        refine lv_iconst (v := 1) hx hb dX2_tryMoves_87 (by decide) ?_
        refine lv_iadd hx hb dX2_tryMoves_88 ?_
        refine lv_topE (y := (nI (br + 1))) (nI_1 _) ?_
        refine lv_iload_n hx hb dX2_tryMoves_89 rfl (lv_at hl 2 rfl) ?_
        refine lv_iload hx hb dX2_tryMoves_90 (lv_at hl 5 rfl) ?_
        refine r_cv X hS (r_runV (As := [.int (nI (br + 1)), .int (nI ln), .int (nI (d + 1))]) (rest := []) C0 X hP L_X2_37 (fun sz => c_X2_reach l D cA ad o μ1 (foldQ Q (mm1 z br ln) (d + 1)) (br + 1) ln (d + 1) hR1 (by have := nI_lt_of c_20 (by omega); omega) hln (Nat.le_trans hd (foldQ_len _ _ _)) sz) (show 88 < 106 ∧ kd 88 = (2, 8) from ⟨by decide, rfl⟩).1 (show 88 < 106 ∧ kd 88 = (2, 8) from ⟨by decide, rfl⟩).2 (by decide) rfl ⟨Nat.le_of_ble_eq_true rfl, Nat.le_of_ble_eq_true rfl⟩ rfl hl.1 rfl (Nat.le_of_ble_eq_true rfl) dX2_tryMoves_92 ⟨Nat.zero_le _, Nat.zero_le _⟩) (fun σw_21 H locs hw_21 hP hS => ?_)
        exact jp_6 σw_21 _ _ ls (by rw [foldQ_app, mm2, if_pos ⟨nI_pos_of c_19, nI_lt_of c_20 (by omega)⟩, foldQ_one]; exact hw_21.1) (FrP_trans hF1 hw_21.2) hP hS (lv_sub hl [0, 1, 2, 3, 4, 5] rfl)
  refine lv_iload_n hx hb dX2_tryMoves_49 rfl (lv_at hl 4 rfl) ?_
  refine lv_if_le (tgt := 72) hx hb dX2_tryMoves_50 (by decide) (fun c_22 => ?_) (fun c_22 => ?_)
  · exact jp_5 σ _ _ ls (by rw [mm1, if_neg (fun h9 => absurd h9.1 (by have := nI_zero_of (by omega) c_22; omega))]; exact hR) (FrP_refl σ) hP hS (lv_sub hl [3, 4, 5, 2, 1, 0] rfl)
  · refine lv_iload hx hb dX2_tryMoves_53 (lv_at hl 1 rfl) ?_
    refine lv_aload_n hx hb dX2_tryMoves_55 rfl (lv_at hl 3 rfl) ?_
    refine gf_X2_31 C0 X hP 88 ⟨by decide, rfl⟩ dX2_tryMoves_56 ?_
    refine lv_topE (y := (nI z)) hz7 ?_
    refine lv_icmp_ge (tgt := 72) hx hb dX2_tryMoves_59 (by decide) (fun c_23 => ?_) (fun c_23 => ?_)
    · exact jp_5 σ _ _ ls (by rw [mm1, if_neg (fun h9 => nI_nlt_of c_23 (by omega) h9.2)]; exact hR) (FrP_refl σ) hP hS (lv_sub hl [3, 4, 5, 2, 1, 0] rfl)
    · refine lv_aload_n hx hb dX2_tryMoves_62 rfl (lv_at hl 3 rfl) ?_
      refine lv_iload_n hx hb dX2_tryMoves_63 rfl (lv_at hl 4 rfl) ?_
      refine lv_iconst (v := 1) hx hb dX2_tryMoves_64 (by decide) ?_
      refine lv_isub hx hb dX2_tryMoves_65 ?_
      refine lv_topE (y := (nI (br - 1))) (pk_sub (a := br) (b := 1) (nI_pos_of c_22)) ?_
      refine lv_iload_n hx hb dX2_tryMoves_66 rfl (lv_at hl 5 rfl) ?_
      refine lv_iload hx hb dX2_tryMoves_67 (lv_at hl 0 rfl) ?_
      refine r_cv X hS (r_runV (As := [.int (nI (br - 1)), .int (nI ln), .int (nI (d + 1))]) (rest := []) C0 X hP L_X2_37 (fun sz => c_X2_reach l D cA ad o σ Q (br - 1) ln (d + 1) hR (by omega) hln hd sz) (show 88 < 106 ∧ kd 88 = (2, 8) from ⟨by decide, rfl⟩).1 (show 88 < 106 ∧ kd 88 = (2, 8) from ⟨by decide, rfl⟩).2 (by decide) rfl ⟨Nat.le_of_ble_eq_true rfl, Nat.le_of_ble_eq_true rfl⟩ rfl hl.1 rfl (Nat.le_of_ble_eq_true rfl) dX2_tryMoves_69 ⟨Nat.zero_le _, Nat.zero_le _⟩) (fun σw_24 H locs hw_24 hP hS => ?_)
      exact jp_5 σw_24 _ _ ls (by rw [mm1, if_pos ⟨nI_pos_of c_22, nI_lt_of c_23 (by omega)⟩, foldQ_one]; exact hw_24.1) hw_24.2 hP hS (lv_sub hl [3, 4, 5, 2, 1, 0] rfl)
end
section
/-! THE SEARCH, pure: the queue behind i processed states -/
def procQ (a b q x z : Nat) (Q : List (Nat × Nat)) (i : Nat) : List (Nat × Nat) := match Q[i]? with
  | none => Q
  | some p => foldQ Q (nbrL a b q x z (p.1 / 128) (p.1 % 128)) (p.2 + 1)
def stC (a b : Nat) : Nat := a * 128 + (2 ^ (a + b + 1) - 2 ^ b)
def wtC (a b : Nat) : Nat := b * 128 + (2 ^ (a + b) + 2 ^ a - 1)
def QB (a b q x z : Nat) : Nat → List (Nat × Nat)
  | 0 => [(stC a b, 0)]
  | i + 1 => procQ a b q x z (QB a b q x z i) i
def resQ (Q : List (Nat × Nat)) (w : Nat) : Int32 := match Q.find? (fun p => p.1 == w) with
  | some p => nI p.2
  | none => -4
def RWn (a b q x z : Nat) : Int32 := resQ (QB a b q x z 900) (wtC a b)
theorem pushQ_pre (Q : List (Nat × Nat)) (c d : Nat) : ∃ R, pushQ Q c d = Q ++ R := by
  unfold pushQ
  split
  · exact ⟨[], by simp⟩
  · exact ⟨[(c, d)], rfl⟩
theorem foldQ_pre (cs : List Nat) (d : Nat) : ∀ Q : List (Nat × Nat), ∃ R, foldQ Q cs d = Q ++ R := by
  induction cs with
  | nil => intro Q; exact ⟨[], by simp [foldQ]⟩
  | cons c r ih =>
    intro Q
    obtain ⟨R1, h1⟩ := pushQ_pre Q c d
    obtain ⟨R2, h2⟩ := ih (pushQ Q c d)
    exact ⟨R1 ++ R2, by rw [show foldQ Q (c :: r) d = foldQ (pushQ Q c d) r d from rfl, h2, h1, List.append_assoc]⟩
theorem procQ_pre (a b q x z : Nat) (Q : List (Nat × Nat)) (i : Nat) : ∃ R, procQ a b q x z Q i = Q ++ R := by
  unfold procQ
  split
  · exact ⟨[], by simp⟩
  · exact foldQ_pre _ _ _
theorem QB_pre (a b q x z i : Nat) : ∀ k, ∃ R, QB a b q x z (i + k) = QB a b q x z i ++ R := by
  intro k
  induction k with
  | zero => exact ⟨[], by simp⟩
  | succ k ih =>
    obtain ⟨R1, h1⟩ := ih
    obtain ⟨R2, h2⟩ := procQ_pre a b q x z (QB a b q x z (i + k)) (i + k)
    exact ⟨R1 ++ R2, by rw [show QB a b q x z (i + (k + 1)) = procQ a b q x z (QB a b q x z (i + k)) (i + k) from rfl, h2, h1, List.append_assoc]⟩
theorem QB_fix (a b q x z i : Nat) (h : (QB a b q x z i).length ≤ i) : ∀ k, QB a b q x z (i + k) = QB a b q x z i := by
  intro k
  induction k with
  | zero => rfl
  | succ k ih =>
    rw [show QB a b q x z (i + (k + 1)) = procQ a b q x z (QB a b q x z (i + k)) (i + k) from rfl, ih, procQ, List.getElem?_eq_none (by omega)]
theorem resQ_app {Q : List (Nat × Nat)} {w : Nat} (R : List (Nat × Nat)) (h : w ∈ Q.map Prod.fst) : resQ (Q ++ R) w = resQ Q w := by
  unfold resQ
  rw [List.find?_append]
  obtain ⟨p, hp, rfl⟩ := List.mem_map.mp h
  cases hf : Q.find? (fun r => r.1 == p.1) with
  | none => exact absurd (List.find?_eq_none.mp hf p hp) (by simp)
  | some r => rfl
/-- where the search stops, its answer is the last one -/
theorem RWn_at {a b q x z i : Nat} (hi : i ≤ 900) (h : (QB a b q x z i).length ≤ i ∨ wtC a b ∈ (QB a b q x z i).map Prod.fst) : resQ (QB a b q x z i) (wtC a b) = RWn a b q x z := by
  unfold RWn
  obtain ⟨k, hk⟩ : ∃ k, 900 = i + k := ⟨900 - i, by omega⟩
  rw [hk]
  rcases h with h | h
  · rw [QB_fix a b q x z i h]
  · obtain ⟨R, hR⟩ := QB_pre a b q x z i k
    rw [hR, resQ_app R h]
theorem resQ_rep {Q : List (Nat × Nat)} {σ : Mem} (h : RepC Q σ) {w : Nat} (hw : w < 896) : σ 89 w = resQ Q w := by
  unfold resQ
  cases hf : Q.find? (fun r => r.1 == w) with
  | none =>
    refine h.2.2.2 w hw (fun hm => ?_)
    obtain ⟨p, hp, e⟩ := List.mem_map.mp hm
    exact absurd (List.find?_eq_none.mp hf p hp) (by simp [e])
  | some p =>
    have h1 : p.1 = w := by simpa using List.find?_some hf
    obtain ⟨k, hk⟩ := List.getElem?_of_mem (List.mem_of_find?_eq_some hf)
    have h2 := h.2.2.1 k p.1 p.2 hk
    rw [← h1]
    exact h2.2.1
/-- a code of so many carts of each kind at most -/
def vcd (a b c : Nat) : Prop := c < 896 ∧ c / 128 ≤ Nat.log2 (c % 128) ∧ 1 ≤ c % 128 ∧ pcN (c % 128) - 1 ≤ a ∧ Nat.log2 (c % 128) - (pcN (c % 128) - 1) ≤ b
theorem vcd_mk {a b br ln : Nat} (h7 : br < 7) (hl : ln < 128) (h1 : br ≤ Nat.log2 ln) (h2 : 1 ≤ ln) (h3 : pcN ln - 1 ≤ a) (h4 : Nat.log2 ln - (pcN ln - 1) ≤ b) : vcd a b (br * 128 + ln) := by
  have e1 : (br * 128 + ln) / 128 = br := by omega
  have e2 : (br * 128 + ln) % 128 = ln := by omega
  unfold vcd
  rw [e1, e2]
  exact ⟨by omega, h1, h2, h3, h4⟩
theorem nbr_ok {a b q x z br ln : Nat} (ha : a ≤ 3) (hb : b ≤ 3) (hx : x ≤ 6) (hbl : br ≤ Nat.log2 ln) (hln : ln < 128) (hl1 : 1 ≤ ln) (hv1 : pcN ln - 1 ≤ a) (hv2 : Nat.log2 ln - (pcN ln - 1) ≤ b) : ∀ c ∈ nbrL a b q x z br ln, vcd a b c := by
  have h7 := ln_lt ln hln
  have hpc := ln_f1 ln hln hl1
  intro c hc
  have cbs : ∀ t, t < 2 → (t = 1 → pcN ln - 1 < a) → (t = 0 → Nat.log2 ln - (pcN ln - 1) < b) → c ∈ cb1 x br ln t ++ cb2 z br ln t → vcd a b c := by
    intro t ht h1 h0 hm
    have h6 : Nat.log2 ln < 6 := by
      rcases (show t = 0 ∨ t = 1 by omega) with e | e
      · have := h0 e; omega
      · have := h1 e; omega
    have f := ln_f3 ln hln (Nat.log2 ln - br) (by omega) t ht ⟨hl1, by omega, h6⟩
    have g1 : pcN (lgN ln (Nat.log2 ln - br) t) - 1 ≤ a := by
      rw [f.2.2.2]
      rcases (show t = 0 ∨ t = 1 by omega) with e | e
      · omega
      · have := h1 e; omega
    have g2 : Nat.log2 (lgN ln (Nat.log2 ln - br) t) - (pcN (lgN ln (Nat.log2 ln - br) t) - 1) ≤ b := by
      rw [f.2.2.2, f.2.2.1]
      rcases (show t = 0 ∨ t = 1 by omega) with e | e
      · have := h0 e; omega
      · omega
    rcases List.mem_append.mp hm with hm | hm
    · unfold cb1 at hm
      split at hm
      · rw [List.mem_singleton.mp hm]
        exact vcd_mk (by omega) f.1 (by rw [f.2.2.1]; omega) f.2.1 g1 g2
      · exact absurd hm List.not_mem_nil
    · unfold cb2 at hm
      split at hm
      · rw [List.mem_singleton.mp hm]
        exact vcd_mk (by omega) f.1 (by rw [f.2.2.1]; omega) f.2.1 g1 g2
      · exact absurd hm List.not_mem_nil
  unfold nbrL at hc
  simp only [List.mem_append] at hc
  rcases hc with ((((hm | hm) | hm) | hm) | hm) | hm
  · unfold mm1 at hm
    split at hm
    · rw [List.mem_singleton.mp hm]
      exact vcd_mk (by omega) hln (by omega) hl1 hv1 hv2
    · exact absurd hm List.not_mem_nil
  · unfold mm2 at hm
    split at hm
    · rw [List.mem_singleton.mp hm]
      exact vcd_mk (by omega) hln (by omega) hl1 hv1 hv2
    · exact absurd hm List.not_mem_nil
  · unfold mm3 at hm
    split at hm
    · rename_i h
      rw [List.mem_singleton.mp hm]
      have f := ln_f2 ln hln (Nat.log2 ln - br) (by omega) (by omega)
      have f4 := ln_f4 ln hln (Nat.log2 ln - br) (by omega) (by omega)
      exact vcd_mk (by omega) f.1 (by rw [f.2.2.1]; omega) f.2.1 (by omega) (by rw [f.2.2.1]; omega)
    · exact absurd hm List.not_mem_nil
  · unfold mm4 at hm
    split at hm
    · rename_i h
      rw [List.mem_singleton.mp hm]
      have f := ln_f2 ln hln (Nat.log2 ln - br - 1) (by omega) (by omega)
      have f4 := ln_f4 ln hln (Nat.log2 ln - br - 1) (by omega) (by omega)
      exact vcd_mk (by omega) f.1 (by rw [f.2.2.1]; omega) f.2.1 (by omega) (by rw [f.2.2.1]; omega)
    · exact absurd hm List.not_mem_nil
  · unfold mm5 at hm
    split at hm
    · rename_i h
      exact cbs 1 (by decide) (fun _ => h) (fun e => absurd e (by decide)) (List.mem_append.mpr (List.mem_append.mp hm))
    · exact absurd hm List.not_mem_nil
  · unfold mm6 at hm
    split at hm
    · rename_i h
      exact cbs 0 (by decide) (fun e => absurd e (by decide)) (fun _ => h) (List.mem_append.mpr (List.mem_append.mp hm))
    · exact absurd hm List.not_mem_nil
end
section
/-! the class's search is the pure one -/
theorem pushQ_mem {Q : List (Nat × Nat)} {c d w : Nat} (h : w ∈ (pushQ Q c d).map Prod.fst) : w ∈ Q.map Prod.fst ∨ w = c := by
  unfold pushQ at h
  split at h
  · exact Or.inl h
  · rw [List.map_append, List.mem_append] at h
    rcases h with h | h
    · exact Or.inl h
    · exact Or.inr (by simpa using h)
theorem foldQ_mem (d : Nat) (cs : List Nat) : ∀ (Q : List (Nat × Nat)) (w : Nat), w ∈ (foldQ Q cs d).map Prod.fst → w ∈ Q.map Prod.fst ∨ w ∈ cs := by
  induction cs with
  | nil => intro Q w h; exact Or.inl h
  | cons c r ih =>
    intro Q w h
    rcases ih (pushQ Q c d) w h with h1 | h1
    · rcases pushQ_mem h1 with h2 | h2
      · exact Or.inl h2
      · exact Or.inr (by rw [h2]; exact List.mem_cons_self)
    · exact Or.inr (List.mem_cons_of_mem _ h1)
theorem st_ok : ∀ a, a < 4 → ∀ b, b < 4 → nI (a * 128) + (((2 : Int32) <<< (nI (a + b) &&& 31)) - ((1 : Int32) <<< (nI b &&& 31))) = nI (stC a b) := by decide +kernel
theorem wt_ok : ∀ a, a < 4 → ∀ b, b < 4 → nI (b * 128) + ((((1 : Int32) <<< (nI (a + b) &&& 31)) + ((1 : Int32) <<< (nI a &&& 31))) - 1) = nI (wtC a b) := by decide +kernel
theorem st_lt : ∀ a, a < 4 → ∀ b, b < 4 → (stC a b < 896 ∧ wtC a b < 896) := by decide +kernel
theorem st_v1 : ∀ a, a < 4 → ∀ b, b < 4 → (stC a b / 128 ≤ Nat.log2 (stC a b % 128) ∧ 1 ≤ stC a b % 128) := by decide +kernel
theorem st_v2 : ∀ a, a < 4 → ∀ b, b < 4 → (pcN (stC a b % 128) - 1 ≤ a ∧ Nat.log2 (stC a b % 128) - (pcN (stC a b % 128) - 1) ≤ b) := by decide +kernel
theorem QB_v {a b q x z : Nat} (ha : a ≤ 3) (hb : b ≤ 3) (hx : x ≤ 6) : ∀ i, ∀ c ∈ (QB a b q x z i).map Prod.fst, vcd a b c := by
  intro i
  induction i with
  | zero =>
    intro c hc
    have e : c = stC a b := by simpa [QB] using hc
    rw [e]
    exact ⟨(st_lt a (by omega) b (by omega)).1, (st_v1 a (by omega) b (by omega)).1, (st_v1 a (by omega) b (by omega)).2, st_v2 a (by omega) b (by omega)⟩
  | succ i ih =>
    intro c hc
    rw [QB, procQ] at hc
    split at hc
    · exact ih c hc
    · rename_i p hp
      rcases foldQ_mem _ _ _ _ hc with h | h
      · exact ih c h
      · have hv := ih p.1 (List.mem_map.mpr ⟨p, List.mem_of_getElem? hp, rfl⟩)
        exact nbr_ok ha hb hx hv.2.1 (Nat.mod_lt _ (by decide)) hv.2.2.1 hv.2.2.2.1 hv.2.2.2.2 c h
def rv (σ : Mem) (i k : Nat) (v : Int32) : Mem := fun a => if a = i then (fun b => if b < k then v else σ i b) else σ a
theorem rv_0 (σ : Mem) (i : Nat) (v : Int32) : σ = rv σ i 0 v := by
  funext a
  by_cases h : a = i
  · subst h
    simp [rv]
  · simp [rv, h]
theorem rv_s (σ : Mem) (i k : Nat) (v : Int32) : stm (rv σ i k v) i k v = rv σ i (k + 1) v := by
  funext a
  by_cases h : a = i
  · subst h
    funext b
    by_cases h1 : b = k
    · simp [stm, rv, upd, h1]
    · by_cases h2 : b < k
      · have h3 : b < k + 1 := by omega
        simp [stm, rv, upd, h1, h2, h3]
      · have h3 : ¬ b < k + 1 := by omega
        simp [stm, rv, upd, h1, h2, h3]
  · simp [stm, rv, h]
def lmM (σ : Mem) (a b q x z k : Nat) : Mem := rv (stm (stm (stm (stm (stm (stm σ 88 3 (nI a)) 88 4 (nI b)) 88 5 (nI q)) 88 6 (nI x)) 88 7 (nI z)) 88 2 0) 89 k (-4)
theorem lmM_rep (σ : Mem) (a b q x z : Nat) : RepC [] (lmM σ a b q x z 896) := by
  refine ⟨by simp [lmM, rv, stm, upd]; rfl, List.nodup_nil, fun k c d h => by simp at h, fun c hc _ => by simp [lmM, rv, hc]⟩
theorem lmM_f (σ : Mem) (a b q x z : Nat) : lmM σ a b q x z 896 88 3 = nI a ∧ lmM σ a b q x z 896 88 4 = nI b ∧ lmM σ a b q x z 896 88 5 = nI q ∧ lmM σ a b q x z 896 88 6 = nI x ∧ lmM σ a b q x z 896 88 7 = nI z := by
  refine ⟨?_, ?_, ?_, ?_, ?_⟩ <;> simp [lmM, rv, stm, upd]
theorem lmM_ne (σ : Mem) (a b q x z k : Nat) {i : Nat} (h1 : i ≠ 88) (h2 : i ≠ 89) : lmM σ a b q x z k i = σ i := by simp [lmM, rv, stm, h1, h2]
theorem QB_0 (a b q x z : Nat) : pushQ [] (stC a b / 128 * 128 + stC a b % 128) 0 = QB a b q x z 0 := by
  rw [show stC a b / 128 * 128 + stC a b % 128 = stC a b by omega]
  rfl
theorem QB_s {a b q x z i c d : Nat} (h : (QB a b q x z i)[i]? = some (c, d)) : foldQ (QB a b q x z i) (nbrL a b q x z (c / 128) (c % 128)) (d + 1) = QB a b q x z (i + 1) := by
  rw [QB, procQ, h]
theorem getQ {Q : List (Nat × Nat)} {i : Nat} (h : i < Q.length) : ∃ c d : Nat, Q[i]? = some (c, d) := ⟨Q[i].1, Q[i].2, List.getElem?_eq_getElem h⟩
theorem pk_rem128 {n : Nat} (h : n < 2 ^ 31) : nI n - nI n / 128 * 128 = nI (n % 128) := pk_rem (d := 128) h (by decide) (by decide)
theorem pk_div128 {n : Nat} (h : n < 2 ^ 31) : nI n / 128 = nI (n / 128) := pk_div (d := 128) h (by decide) (by decide)
def bB_cX2_leastMoves : Nat := 0xac2e07150b00b42ac6ffa70108842900b6708000112e08150f00b42a6c8000112e08150f00b42a2a2300a0fc102e07150b00b42a2f00a280031108153700a22200b42a08150836032500b6037080001106156c80001106152aacfc100600a180031107150b00a28003110615073660640460781b0478601c1b04688000111c06366064781c0478601c1b05688000111becffa70106844ffc1006150b00b42a1200a280031106150636032200b5032a1f00b505152a1c00b504152a1900b51d2a1600b51c2a1200b51b2a
theorem yB_cX2_leastMoves : BYS cX2_leastMoves 202 bB_cX2_leastMoves := BYS_of (by decide +kernel)
theorem dX2_leastMoves_0 : decode cX2_leastMoves 0 = .ok (.aload_n 0, 1) := D_42 yB_cX2_leastMoves rfl rfl
theorem dX2_leastMoves_1 : decode cX2_leastMoves 1 = .ok (.iload_n 1, 1) := D_27 yB_cX2_leastMoves rfl rfl
theorem dX2_leastMoves_2 : decode cX2_leastMoves 2 = .ok (.putfield 18, 3) := D_181 yB_cX2_leastMoves rfl rfl rfl
theorem dX2_leastMoves_5 : decode cX2_leastMoves 5 = .ok (.aload_n 0, 1) := D_42 yB_cX2_leastMoves rfl rfl
theorem dX2_leastMoves_6 : decode cX2_leastMoves 6 = .ok (.iload_n 2, 1) := D_28 yB_cX2_leastMoves rfl rfl
theorem dX2_leastMoves_7 : decode cX2_leastMoves 7 = .ok (.putfield 22, 3) := D_181 yB_cX2_leastMoves rfl rfl rfl
theorem dX2_leastMoves_10 : decode cX2_leastMoves 10 = .ok (.aload_n 0, 1) := D_42 yB_cX2_leastMoves rfl rfl
theorem dX2_leastMoves_11 : decode cX2_leastMoves 11 = .ok (.iload_n 3, 1) := D_29 yB_cX2_leastMoves rfl rfl
theorem dX2_leastMoves_12 : decode cX2_leastMoves 12 = .ok (.putfield 25, 3) := D_181 yB_cX2_leastMoves rfl rfl rfl
theorem dX2_leastMoves_15 : decode cX2_leastMoves 15 = .ok (.aload_n 0, 1) := D_42 yB_cX2_leastMoves rfl rfl
theorem dX2_leastMoves_16 : decode cX2_leastMoves 16 = .ok (.iload 4, 2) := D_21 yB_cX2_leastMoves rfl rfl rfl
theorem dX2_leastMoves_18 : decode cX2_leastMoves 18 = .ok (.putfield 28, 3) := D_181 yB_cX2_leastMoves rfl rfl rfl
theorem dX2_leastMoves_21 : decode cX2_leastMoves 21 = .ok (.aload_n 0, 1) := D_42 yB_cX2_leastMoves rfl rfl
theorem dX2_leastMoves_22 : decode cX2_leastMoves 22 = .ok (.iload 5, 2) := D_21 yB_cX2_leastMoves rfl rfl rfl
theorem dX2_leastMoves_24 : decode cX2_leastMoves 24 = .ok (.putfield 31, 3) := D_181 yB_cX2_leastMoves rfl rfl rfl
theorem dX2_leastMoves_27 : decode cX2_leastMoves 27 = .ok (.aload_n 0, 1) := D_42 yB_cX2_leastMoves rfl rfl
theorem dX2_leastMoves_28 : decode cX2_leastMoves 28 = .ok (.iconst 0, 1) := D_3 yB_cX2_leastMoves rfl rfl
theorem dX2_leastMoves_29 : decode cX2_leastMoves 29 = .ok (.putfield 34, 3) := D_181 yB_cX2_leastMoves rfl rfl rfl
theorem dX2_leastMoves_32 : decode cX2_leastMoves 32 = .ok (.iconst 0, 1) := D_3 yB_cX2_leastMoves rfl rfl
theorem dX2_leastMoves_33 : decode cX2_leastMoves 33 = .ok (.istore 6, 2) := D_54 yB_cX2_leastMoves rfl rfl rfl
theorem dX2_leastMoves_35 : decode cX2_leastMoves 35 = .ok (.iload 6, 2) := D_21 yB_cX2_leastMoves rfl rfl rfl
theorem dX2_leastMoves_37 : decode cX2_leastMoves 37 = .ok (.sipush 896, 3) := D_17 yB_cX2_leastMoves rfl rfl (sg_p (m := 32768) (N := 896) rfl rfl rfl)
theorem dX2_leastMoves_40 : decode cX2_leastMoves 40 = .ok (.if_icmp .ge 18, 3) := D_162 yB_cX2_leastMoves rfl rfl (sg_p (m := 32768) (N := 18) rfl rfl rfl)
theorem dX2_leastMoves_43 : decode cX2_leastMoves 43 = .ok (.aload_n 0, 1) := D_42 yB_cX2_leastMoves rfl rfl
theorem dX2_leastMoves_44 : decode cX2_leastMoves 44 = .ok (.getfield 11, 3) := D_180 yB_cX2_leastMoves rfl rfl rfl
theorem dX2_leastMoves_47 : decode cX2_leastMoves 47 = .ok (.iload 6, 2) := D_21 yB_cX2_leastMoves rfl rfl rfl
theorem dX2_leastMoves_49 : decode cX2_leastMoves 49 = .ok (.bipush (-4), 2) := D_16 yB_cX2_leastMoves rfl rfl (sg_n (m := 128) (N := 4) rfl rfl rfl)
theorem dX2_leastMoves_51 : decode cX2_leastMoves 51 = .ok (.iastore, 1) := D_79 yB_cX2_leastMoves rfl rfl
theorem dX2_leastMoves_52 : decode cX2_leastMoves 52 = .ok (.iinc 6 1, 3) := D_132 yB_cX2_leastMoves rfl rfl rfl (sg_p (m := 128) (N := 1) rfl rfl rfl)
theorem dX2_leastMoves_55 : decode cX2_leastMoves 55 = .ok (.goto (-20), 3) := D_167 yB_cX2_leastMoves rfl rfl (sg_n (m := 32768) (N := 20) rfl rfl rfl)
theorem dX2_leastMoves_58 : decode cX2_leastMoves 58 = .ok (.iload_n 1, 1) := D_27 yB_cX2_leastMoves rfl rfl
theorem dX2_leastMoves_59 : decode cX2_leastMoves 59 = .ok (.sipush 128, 3) := D_17 yB_cX2_leastMoves rfl rfl (sg_p (m := 32768) (N := 128) rfl rfl rfl)
theorem dX2_leastMoves_62 : decode cX2_leastMoves 62 = .ok (.imul, 1) := D_104 yB_cX2_leastMoves rfl rfl
theorem dX2_leastMoves_63 : decode cX2_leastMoves 63 = .ok (.iconst 2, 1) := D_5 yB_cX2_leastMoves rfl rfl
theorem dX2_leastMoves_64 : decode cX2_leastMoves 64 = .ok (.iload_n 1, 1) := D_27 yB_cX2_leastMoves rfl rfl
theorem dX2_leastMoves_65 : decode cX2_leastMoves 65 = .ok (.iload_n 2, 1) := D_28 yB_cX2_leastMoves rfl rfl
theorem dX2_leastMoves_66 : decode cX2_leastMoves 66 = .ok (.iadd, 1) := D_96 yB_cX2_leastMoves rfl rfl
theorem dX2_leastMoves_67 : decode cX2_leastMoves 67 = .ok (.ishl, 1) := D_120 yB_cX2_leastMoves rfl rfl
theorem dX2_leastMoves_68 : decode cX2_leastMoves 68 = .ok (.iconst 1, 1) := D_4 yB_cX2_leastMoves rfl rfl
theorem dX2_leastMoves_69 : decode cX2_leastMoves 69 = .ok (.iload_n 2, 1) := D_28 yB_cX2_leastMoves rfl rfl
theorem dX2_leastMoves_70 : decode cX2_leastMoves 70 = .ok (.ishl, 1) := D_120 yB_cX2_leastMoves rfl rfl
theorem dX2_leastMoves_71 : decode cX2_leastMoves 71 = .ok (.isub, 1) := D_100 yB_cX2_leastMoves rfl rfl
theorem dX2_leastMoves_72 : decode cX2_leastMoves 72 = .ok (.iadd, 1) := D_96 yB_cX2_leastMoves rfl rfl
theorem dX2_leastMoves_73 : decode cX2_leastMoves 73 = .ok (.istore 6, 2) := D_54 yB_cX2_leastMoves rfl rfl rfl
theorem dX2_leastMoves_75 : decode cX2_leastMoves 75 = .ok (.iload_n 2, 1) := D_28 yB_cX2_leastMoves rfl rfl
theorem dX2_leastMoves_76 : decode cX2_leastMoves 76 = .ok (.sipush 128, 3) := D_17 yB_cX2_leastMoves rfl rfl (sg_p (m := 32768) (N := 128) rfl rfl rfl)
theorem dX2_leastMoves_79 : decode cX2_leastMoves 79 = .ok (.imul, 1) := D_104 yB_cX2_leastMoves rfl rfl
theorem dX2_leastMoves_80 : decode cX2_leastMoves 80 = .ok (.iconst 1, 1) := D_4 yB_cX2_leastMoves rfl rfl
theorem dX2_leastMoves_81 : decode cX2_leastMoves 81 = .ok (.iload_n 1, 1) := D_27 yB_cX2_leastMoves rfl rfl
theorem dX2_leastMoves_82 : decode cX2_leastMoves 82 = .ok (.iload_n 2, 1) := D_28 yB_cX2_leastMoves rfl rfl
theorem dX2_leastMoves_83 : decode cX2_leastMoves 83 = .ok (.iadd, 1) := D_96 yB_cX2_leastMoves rfl rfl
theorem dX2_leastMoves_84 : decode cX2_leastMoves 84 = .ok (.ishl, 1) := D_120 yB_cX2_leastMoves rfl rfl
theorem dX2_leastMoves_85 : decode cX2_leastMoves 85 = .ok (.iconst 1, 1) := D_4 yB_cX2_leastMoves rfl rfl
theorem dX2_leastMoves_86 : decode cX2_leastMoves 86 = .ok (.iload_n 1, 1) := D_27 yB_cX2_leastMoves rfl rfl
theorem dX2_leastMoves_87 : decode cX2_leastMoves 87 = .ok (.ishl, 1) := D_120 yB_cX2_leastMoves rfl rfl
theorem dX2_leastMoves_88 : decode cX2_leastMoves 88 = .ok (.iadd, 1) := D_96 yB_cX2_leastMoves rfl rfl
theorem dX2_leastMoves_89 : decode cX2_leastMoves 89 = .ok (.iconst 1, 1) := D_4 yB_cX2_leastMoves rfl rfl
theorem dX2_leastMoves_90 : decode cX2_leastMoves 90 = .ok (.isub, 1) := D_100 yB_cX2_leastMoves rfl rfl
theorem dX2_leastMoves_91 : decode cX2_leastMoves 91 = .ok (.iadd, 1) := D_96 yB_cX2_leastMoves rfl rfl
theorem dX2_leastMoves_92 : decode cX2_leastMoves 92 = .ok (.istore 7, 2) := D_54 yB_cX2_leastMoves rfl rfl rfl
theorem dX2_leastMoves_94 : decode cX2_leastMoves 94 = .ok (.iload 6, 2) := D_21 yB_cX2_leastMoves rfl rfl rfl
theorem dX2_leastMoves_96 : decode cX2_leastMoves 96 = .ok (.sipush 896, 3) := D_17 yB_cX2_leastMoves rfl rfl (sg_p (m := 32768) (N := 896) rfl rfl rfl)
theorem dX2_leastMoves_99 : decode cX2_leastMoves 99 = .ok (.if_icmp .ge 11, 3) := D_162 yB_cX2_leastMoves rfl rfl (sg_p (m := 32768) (N := 11) rfl rfl rfl)
theorem dX2_leastMoves_102 : decode cX2_leastMoves 102 = .ok (.iload 7, 2) := D_21 yB_cX2_leastMoves rfl rfl rfl
theorem dX2_leastMoves_104 : decode cX2_leastMoves 104 = .ok (.sipush 896, 3) := D_17 yB_cX2_leastMoves rfl rfl (sg_p (m := 32768) (N := 896) rfl rfl rfl)
theorem dX2_leastMoves_107 : decode cX2_leastMoves 107 = .ok (.if_icmp .lt 6, 3) := D_161 yB_cX2_leastMoves rfl rfl (sg_p (m := 32768) (N := 6) rfl rfl rfl)
theorem dX2_leastMoves_110 : decode cX2_leastMoves 110 = .ok (.bipush (-4), 2) := D_16 yB_cX2_leastMoves rfl rfl (sg_n (m := 128) (N := 4) rfl rfl rfl)
theorem dX2_leastMoves_112 : decode cX2_leastMoves 112 = .ok (.ireturn, 1) := D_172 yB_cX2_leastMoves rfl rfl
theorem dX2_leastMoves_113 : decode cX2_leastMoves 113 = .ok (.aload_n 0, 1) := D_42 yB_cX2_leastMoves rfl rfl
theorem dX2_leastMoves_114 : decode cX2_leastMoves 114 = .ok (.iload 6, 2) := D_21 yB_cX2_leastMoves rfl rfl rfl
theorem dX2_leastMoves_116 : decode cX2_leastMoves 116 = .ok (.sipush 128, 3) := D_17 yB_cX2_leastMoves rfl rfl (sg_p (m := 32768) (N := 128) rfl rfl rfl)
theorem dX2_leastMoves_119 : decode cX2_leastMoves 119 = .ok (.idiv, 1) := D_108 yB_cX2_leastMoves rfl rfl
theorem dX2_leastMoves_120 : decode cX2_leastMoves 120 = .ok (.iload 6, 2) := D_21 yB_cX2_leastMoves rfl rfl rfl
theorem dX2_leastMoves_122 : decode cX2_leastMoves 122 = .ok (.sipush 128, 3) := D_17 yB_cX2_leastMoves rfl rfl (sg_p (m := 32768) (N := 128) rfl rfl rfl)
theorem dX2_leastMoves_125 : decode cX2_leastMoves 125 = .ok (.irem, 1) := D_112 yB_cX2_leastMoves rfl rfl
theorem dX2_leastMoves_126 : decode cX2_leastMoves 126 = .ok (.iconst 0, 1) := D_3 yB_cX2_leastMoves rfl rfl
theorem dX2_leastMoves_127 : decode cX2_leastMoves 127 = .ok (.invokevirtual 37, 3) := D_182 yB_cX2_leastMoves rfl rfl rfl
theorem dX2_leastMoves_130 : decode cX2_leastMoves 130 = .ok (.iconst 0, 1) := D_3 yB_cX2_leastMoves rfl rfl
theorem dX2_leastMoves_131 : decode cX2_leastMoves 131 = .ok (.istore 8, 2) := D_54 yB_cX2_leastMoves rfl rfl rfl
theorem dX2_leastMoves_133 : decode cX2_leastMoves 133 = .ok (.iload 8, 2) := D_21 yB_cX2_leastMoves rfl rfl rfl
theorem dX2_leastMoves_135 : decode cX2_leastMoves 135 = .ok (.aload_n 0, 1) := D_42 yB_cX2_leastMoves rfl rfl
theorem dX2_leastMoves_136 : decode cX2_leastMoves 136 = .ok (.getfield 34, 3) := D_180 yB_cX2_leastMoves rfl rfl rfl
theorem dX2_leastMoves_139 : decode cX2_leastMoves 139 = .ok (.if_icmp .ge 55, 3) := D_162 yB_cX2_leastMoves rfl rfl (sg_p (m := 32768) (N := 55) rfl rfl rfl)
theorem dX2_leastMoves_142 : decode cX2_leastMoves 142 = .ok (.iload 8, 2) := D_21 yB_cX2_leastMoves rfl rfl rfl
theorem dX2_leastMoves_144 : decode cX2_leastMoves 144 = .ok (.sipush 896, 3) := D_17 yB_cX2_leastMoves rfl rfl (sg_p (m := 32768) (N := 896) rfl rfl rfl)
theorem dX2_leastMoves_147 : decode cX2_leastMoves 147 = .ok (.if_icmp .ge 47, 3) := D_162 yB_cX2_leastMoves rfl rfl (sg_p (m := 32768) (N := 47) rfl rfl rfl)
theorem dX2_leastMoves_150 : decode cX2_leastMoves 150 = .ok (.aload_n 0, 1) := D_42 yB_cX2_leastMoves rfl rfl
theorem dX2_leastMoves_151 : decode cX2_leastMoves 151 = .ok (.getfield 11, 3) := D_180 yB_cX2_leastMoves rfl rfl rfl
theorem dX2_leastMoves_154 : decode cX2_leastMoves 154 = .ok (.iload 7, 2) := D_21 yB_cX2_leastMoves rfl rfl rfl
theorem dX2_leastMoves_156 : decode cX2_leastMoves 156 = .ok (.iaload, 1) := D_46 yB_cX2_leastMoves rfl rfl
theorem dX2_leastMoves_157 : decode cX2_leastMoves 157 = .ok (.bipush (-4), 2) := D_16 yB_cX2_leastMoves rfl rfl (sg_n (m := 128) (N := 4) rfl rfl rfl)
theorem dX2_leastMoves_159 : decode cX2_leastMoves 159 = .ok (.if_icmp .ne 35, 3) := D_160 yB_cX2_leastMoves rfl rfl (sg_p (m := 32768) (N := 35) rfl rfl rfl)
theorem dX2_leastMoves_162 : decode cX2_leastMoves 162 = .ok (.aload_n 0, 1) := D_42 yB_cX2_leastMoves rfl rfl
theorem dX2_leastMoves_163 : decode cX2_leastMoves 163 = .ok (.aload_n 0, 1) := D_42 yB_cX2_leastMoves rfl rfl
theorem dX2_leastMoves_164 : decode cX2_leastMoves 164 = .ok (.getfield 15, 3) := D_180 yB_cX2_leastMoves rfl rfl rfl
theorem dX2_leastMoves_167 : decode cX2_leastMoves 167 = .ok (.iload 8, 2) := D_21 yB_cX2_leastMoves rfl rfl rfl
theorem dX2_leastMoves_169 : decode cX2_leastMoves 169 = .ok (.iaload, 1) := D_46 yB_cX2_leastMoves rfl rfl
theorem dX2_leastMoves_170 : decode cX2_leastMoves 170 = .ok (.sipush 128, 3) := D_17 yB_cX2_leastMoves rfl rfl (sg_p (m := 32768) (N := 128) rfl rfl rfl)
theorem dX2_leastMoves_173 : decode cX2_leastMoves 173 = .ok (.idiv, 1) := D_108 yB_cX2_leastMoves rfl rfl
theorem dX2_leastMoves_174 : decode cX2_leastMoves 174 = .ok (.aload_n 0, 1) := D_42 yB_cX2_leastMoves rfl rfl
theorem dX2_leastMoves_175 : decode cX2_leastMoves 175 = .ok (.getfield 15, 3) := D_180 yB_cX2_leastMoves rfl rfl rfl
theorem dX2_leastMoves_178 : decode cX2_leastMoves 178 = .ok (.iload 8, 2) := D_21 yB_cX2_leastMoves rfl rfl rfl
theorem dX2_leastMoves_180 : decode cX2_leastMoves 180 = .ok (.iaload, 1) := D_46 yB_cX2_leastMoves rfl rfl
theorem dX2_leastMoves_181 : decode cX2_leastMoves 181 = .ok (.sipush 128, 3) := D_17 yB_cX2_leastMoves rfl rfl (sg_p (m := 32768) (N := 128) rfl rfl rfl)
theorem dX2_leastMoves_184 : decode cX2_leastMoves 184 = .ok (.irem, 1) := D_112 yB_cX2_leastMoves rfl rfl
theorem dX2_leastMoves_185 : decode cX2_leastMoves 185 = .ok (.invokevirtual 41, 3) := D_182 yB_cX2_leastMoves rfl rfl rfl
theorem dX2_leastMoves_188 : decode cX2_leastMoves 188 = .ok (.iinc 8 1, 3) := D_132 yB_cX2_leastMoves rfl rfl rfl (sg_p (m := 128) (N := 1) rfl rfl rfl)
theorem dX2_leastMoves_191 : decode cX2_leastMoves 191 = .ok (.goto (-58), 3) := D_167 yB_cX2_leastMoves rfl rfl (sg_n (m := 32768) (N := 58) rfl rfl rfl)
theorem dX2_leastMoves_194 : decode cX2_leastMoves 194 = .ok (.aload_n 0, 1) := D_42 yB_cX2_leastMoves rfl rfl
theorem dX2_leastMoves_195 : decode cX2_leastMoves 195 = .ok (.getfield 11, 3) := D_180 yB_cX2_leastMoves rfl rfl rfl
theorem dX2_leastMoves_198 : decode cX2_leastMoves 198 = .ok (.iload 7, 2) := D_21 yB_cX2_leastMoves rfl rfl rfl
theorem dX2_leastMoves_200 : decode cX2_leastMoves 200 = .ok (.iaload, 1) := D_46 yB_cX2_leastMoves rfl rfl
theorem dX2_leastMoves_201 : decode cX2_leastMoves 201 = .ok (.ireturn, 1) := D_172 yB_cX2_leastMoves rfl rfl
set_option maxHeartbeats 4000000 in
set_option maxRecDepth 100000 in
theorem c_X2_leastMoves (l : Launch) (D : va_G) (cA : Nat → ClassId) (ad : Nat → Nat) (o : Int64) (σ : Mem) (a : Nat) (b : Nat) (q : Nat) (x : Nat) (z : Nat) (ha : a ≤ 3) (hb3 : b ≤ 3) (hq : q ≤ 3) (hxb : x ≤ 6) (hz : z ≤ 6) (sz : Nat) : Met l yX2_leastMoves (WY yX2_leastMoves cX2_leastMoves 9 (some .int)) (RM 3) (va_Pc [.ref (ad 88), .int (nI a), .int (nI b), .int (nI q), .int (nI x), .int (nI z)] (PW D cA ad o σ sz)) (va_Qi (fun r (σ9 : Mem) => r = RWn a b q x z ∧ ∀ a9, a9 ≠ 88 → a9 ≠ 89 → a9 ≠ 90 → σ9 a9 = σ a9) (QW D cA ad o) (FA ad sz)) 0 0 (FA ad sz) := by
  refine ct_of (own := RX2) (k := 3) (Qf := va_Qi (fun r (σ9 : Mem) => r = RWn a b q x z ∧ ∀ a9, a9 ≠ 88 → a9 ≠ 89 → a9 ≠ 90 → σ9 a9 = σ a9) (QW D cA ad o)) rfl (by decide) (Nat.le_of_ble_eq_true rfl) (fun p e s m below meth c ls C0 X hr hlk hP hl => ?_) sz
  have hS : va_S (FA ad s.heap.size) s.heap s.heap [] := va_S.rf
  have hl : lv_has ls 9 [(0, .ref (ad 88)), (1, .int (nI a)), (2, .int (nI b)), (3, .int (nI q)), (4, .int (nI x)), (5, .int (nI z))] := hl
  obtain ⟨hx, hb, hml, hown, hts⟩ := id C0
  have hst := st_lt a (by omega) b (by omega)
  have hsv := st_v1 a (by omega) b (by omega)
  have hf := lmM_f σ a b q x z
  refine lv_aload_n hx hb dX2_leastMoves_0 rfl (lv_at hl 0 rfl) ?_
  refine lv_iload_n hx hb dX2_leastMoves_1 rfl (lv_at hl 1 rfl) ?_
  refine pf_X2_18 C0 X hP hS 88 ⟨by decide, rfl⟩ dX2_leastMoves_2 (fun H locs hP hS => ?_)
  refine lv_aload_n hx hb dX2_leastMoves_5 rfl (lv_at hl 0 rfl) ?_
  refine lv_iload_n hx hb dX2_leastMoves_6 rfl (lv_at hl 2 rfl) ?_
  refine pf_X2_22 C0 X hP hS 88 ⟨by decide, rfl⟩ dX2_leastMoves_7 (fun H locs hP hS => ?_)
  refine lv_aload_n hx hb dX2_leastMoves_10 rfl (lv_at hl 0 rfl) ?_
  refine lv_iload_n hx hb dX2_leastMoves_11 rfl (lv_at hl 3 rfl) ?_
  refine pf_X2_25 C0 X hP hS 88 ⟨by decide, rfl⟩ dX2_leastMoves_12 (fun H locs hP hS => ?_)
  refine lv_aload_n hx hb dX2_leastMoves_15 rfl (lv_at hl 0 rfl) ?_
  refine lv_iload hx hb dX2_leastMoves_16 (lv_at hl 4 rfl) ?_
  refine pf_X2_28 C0 X hP hS 88 ⟨by decide, rfl⟩ dX2_leastMoves_18 (fun H locs hP hS => ?_)
  refine lv_aload_n hx hb dX2_leastMoves_21 rfl (lv_at hl 0 rfl) ?_
  refine lv_iload hx hb dX2_leastMoves_22 (lv_at hl 5 rfl) ?_
  refine pf_X2_31 C0 X hP hS 88 ⟨by decide, rfl⟩ dX2_leastMoves_24 (fun H locs hP hS => ?_)
  refine lv_aload_n hx hb dX2_leastMoves_27 rfl (lv_at hl 0 rfl) ?_
  refine lv_iconst (v := 0) hx hb dX2_leastMoves_28 (by decide) ?_
  refine pf_X2_34 C0 X hP hS 88 ⟨by decide, rfl⟩ dX2_leastMoves_29 (fun H locs hP hS => ?_)
  refine lv_iconst (v := 0) hx hb dX2_leastMoves_32 (by decide) ?_
  refine lv_istore (lv' := [(6, .int 0), (0, .ref (ad 88)), (1, .int (nI a)), (2, .int (nI b)), (3, .int (nI q)), (4, .int (nI x)), (5, .int (nI z))]) hx hb dX2_leastMoves_33 hl (by decide) rfl (fun ls hl => ?_)
  have lp_1 : ∀ (nn : Nat) (k : Nat) (H : Heap) (locs : List Loc) (ls : Array Slot), k ≤ 896 → WP D cA ad o (lmM σ a b q x z k) H → va_S (FA ad s.heap.size) s.heap H locs → lv_has ls 9 [(0, .ref (ad 88)), (1, .int (nI a)), (2, .int (nI b)), (6, .int (nI k))] → (896 - k) < nn → W p l e (RM 3) s m ([.ref (ad 88), .int (nI a), .int (nI b), .int (nI q), .int (nI x), .int (nI z)] : List Value).toArray below meth c H locs 0 0 (MQ below (va_Qi (fun r (σ9 : Mem) => r = RWn a b q x z ∧ ∀ a9, a9 ≠ 88 → a9 ≠ 89 → a9 ≠ 90 → σ9 a9 = σ a9) (QW D cA ad o) (FA ad s.heap.size)) ([.ref (ad 88), .int (nI a), .int (nI b), .int (nI q), .int (nI x), .int (nI z)] : List Value).toArray s 0 0 (FA ad s.heap.size)) (F0 m 35 ls []) := by
    intro nn
    induction nn with
    | zero => intro k H locs ls hk hP hS hl hn; exact absurd hn (Nat.not_lt_zero _)
    | succ nn ih =>
      intro k H locs ls hk hP hS hl hn
      refine lv_iload hx hb dX2_leastMoves_35 (lv_at hl 3 rfl) ?_
      refine lv_sipush (v := 896) hx hb dX2_leastMoves_37 (by decide) ?_
      refine lv_icmp_ge (tgt := 58) hx hb dX2_leastMoves_40 (by decide) (fun c_2 => ?_) (fun c_2 => ?_)
      · obtain rfl : k = 896 := nI_geof (b := 896) c_2 hk (by omega)
        refine lv_iload_n hx hb dX2_leastMoves_58 rfl (lv_at hl 1 rfl) ?_
        refine lv_sipush (v := 128) hx hb dX2_leastMoves_59 (by decide) ?_
        refine lv_imul hx hb dX2_leastMoves_62 ?_
        refine lv_topE (y := (nI (a * 128))) (pk_mul a 128) ?_
        refine lv_iconst (v := 2) hx hb dX2_leastMoves_63 (by decide) ?_
        refine lv_iload_n hx hb dX2_leastMoves_64 rfl (lv_at hl 1 rfl) ?_
        refine lv_iload_n hx hb dX2_leastMoves_65 rfl (lv_at hl 2 rfl) ?_
        refine lv_iadd hx hb dX2_leastMoves_66 ?_
        refine lv_topE (y := (nI (a + b))) (nI_add _ _) ?_
        refine lv_ishl hx hb dX2_leastMoves_67 ?_
        refine lv_iconst (v := 1) hx hb dX2_leastMoves_68 (by decide) ?_
        refine lv_iload_n hx hb dX2_leastMoves_69 rfl (lv_at hl 2 rfl) ?_
        refine lv_ishl hx hb dX2_leastMoves_70 ?_
        refine lv_isub hx hb dX2_leastMoves_71 ?_
        refine lv_iadd hx hb dX2_leastMoves_72 ?_
        refine lv_topE (y := (nI (stC a b))) (st_ok a (by omega) b (by omega)) ?_
        refine lv_istore (lv' := [(6, .int (nI (stC a b))), (0, .ref (ad 88)), (1, .int (nI a)), (2, .int (nI b))]) hx hb dX2_leastMoves_73 hl (by decide) rfl (fun ls hl => ?_)
        refine lv_iload_n hx hb dX2_leastMoves_75 rfl (lv_at hl 3 rfl) ?_
        refine lv_sipush (v := 128) hx hb dX2_leastMoves_76 (by decide) ?_
        refine lv_imul hx hb dX2_leastMoves_79 ?_
        refine lv_topE (y := (nI (b * 128))) (pk_mul b 128) ?_
        refine lv_iconst (v := 1) hx hb dX2_leastMoves_80 (by decide) ?_
        refine lv_iload_n hx hb dX2_leastMoves_81 rfl (lv_at hl 2 rfl) ?_
        refine lv_iload_n hx hb dX2_leastMoves_82 rfl (lv_at hl 3 rfl) ?_
        refine lv_iadd hx hb dX2_leastMoves_83 ?_
        refine lv_topE (y := (nI (a + b))) (nI_add _ _) ?_
        refine lv_ishl hx hb dX2_leastMoves_84 ?_
        refine lv_iconst (v := 1) hx hb dX2_leastMoves_85 (by decide) ?_
        refine lv_iload_n hx hb dX2_leastMoves_86 rfl (lv_at hl 2 rfl) ?_
        refine lv_ishl hx hb dX2_leastMoves_87 ?_
        refine lv_iadd hx hb dX2_leastMoves_88 ?_
        refine lv_iconst (v := 1) hx hb dX2_leastMoves_89 (by decide) ?_
        refine lv_isub hx hb dX2_leastMoves_90 ?_
        refine lv_iadd hx hb dX2_leastMoves_91 ?_
        refine lv_topE (y := (nI (wtC a b))) (wt_ok a (by omega) b (by omega)) ?_
        refine lv_istore (lv' := [(7, .int (nI (wtC a b))), (6, .int (nI (stC a b))), (0, .ref (ad 88)), (1, .int (nI a)), (2, .int (nI b))]) hx hb dX2_leastMoves_92 hl (by decide) rfl (fun ls hl => ?_)
        refine lv_iload hx hb dX2_leastMoves_94 (lv_at hl 1 rfl) ?_
        refine lv_sipush (v := 896) hx hb dX2_leastMoves_96 (by decide) ?_
        refine lv_icmp_ge (tgt := 110) hx hb dX2_leastMoves_99 (by decide) (fun c_3 => absurd c_3 (nI_ge (a := stC a b) (b := 896) hst.1 (by decide))) (fun c_3 => ?_)
        refine lv_iload hx hb dX2_leastMoves_102 (lv_at hl 0 rfl) ?_
        refine lv_sipush (v := 896) hx hb dX2_leastMoves_104 (by decide) ?_
        refine lv_icmp_lt (tgt := 113) hx hb dX2_leastMoves_107 (by decide) (fun c_4 => ?_) (fun c_4 => absurd (nI_lt (a := wtC a b) (b := 896) hst.2 (by decide)) c_4)
        refine lv_aload_n hx hb dX2_leastMoves_113 rfl (lv_at hl 2 rfl) ?_
        refine lv_iload hx hb dX2_leastMoves_114 (lv_at hl 1 rfl) ?_
        refine lv_sipush (v := 128) hx hb dX2_leastMoves_116 (by decide) ?_
        refine lv_idiv hx hb dX2_leastMoves_119 (by decide) ?_
        refine lv_topE (y := (nI (stC a b / 128))) (pk_div128 (by omega)) ?_
        refine lv_iload hx hb dX2_leastMoves_120 (lv_at hl 1 rfl) ?_
        refine lv_sipush (v := 128) hx hb dX2_leastMoves_122 (by decide) ?_
        refine lv_irem hx hb dX2_leastMoves_125 (by decide) ?_
        refine lv_topE (y := (nI (stC a b % 128))) (pk_rem128 (by omega)) ?_
        refine lv_iconst (v := 0) hx hb dX2_leastMoves_126 (by decide) ?_
        refine r_cv X hS (r_runV (As := [.int (nI (stC a b / 128)), .int (nI (stC a b % 128)), .int 0]) (rest := []) C0 X hP L_X2_37 (fun sz => c_X2_reach l D cA ad o (lmM σ a b q x z 896) ([]) (stC a b / 128) (stC a b % 128) 0 (lmM_rep σ a b q x z) (by have := ln_lt (stC a b % 128) (by omega); omega) (Nat.mod_lt _ (by decide)) (Nat.le_refl 0) sz) (show 88 < 106 ∧ kd 88 = (2, 8) from ⟨by decide, rfl⟩).1 (show 88 < 106 ∧ kd 88 = (2, 8) from ⟨by decide, rfl⟩).2 (by decide) rfl ⟨Nat.le_of_ble_eq_true rfl, Nat.le_of_ble_eq_true rfl⟩ rfl hl.1 rfl (Nat.le_of_ble_eq_true rfl) dX2_leastMoves_127 ⟨Nat.zero_le _, Nat.zero_le _⟩) (fun σw_5 H locs hw_5 hP hS => ?_)
        refine lv_iconst (v := 0) hx hb dX2_leastMoves_130 (by decide) ?_
        refine lv_istore (lv' := [(8, .int 0), (7, .int (nI (wtC a b))), (6, .int (nI (stC a b))), (0, .ref (ad 88)), (1, .int (nI a)), (2, .int (nI b))]) hx hb dX2_leastMoves_131 hl (by decide) rfl (fun ls hl => ?_)
        have lp_6 : ∀ (nn : Nat) (i : Nat) (μ : Mem) (H : Heap) (locs : List Loc) (ls : Array Slot), RepC (QB a b q x z i) μ → FrP (lmM σ a b q x z 896) μ → i ≤ (QB a b q x z i).length → WP D cA ad o μ H → va_S (FA ad s.heap.size) s.heap H locs → lv_has ls 9 [(0, .ref (ad 88)), (7, .int (nI (wtC a b))), (8, .int (nI i))] → (897 - i) < nn → W p l e (RM 3) s m ([.ref (ad 88), .int (nI a), .int (nI b), .int (nI q), .int (nI x), .int (nI z)] : List Value).toArray below meth c H locs 0 0 (MQ below (va_Qi (fun r (σ9 : Mem) => r = RWn a b q x z ∧ ∀ a9, a9 ≠ 88 → a9 ≠ 89 → a9 ≠ 90 → σ9 a9 = σ a9) (QW D cA ad o) (FA ad s.heap.size)) ([.ref (ad 88), .int (nI a), .int (nI b), .int (nI q), .int (nI x), .int (nI z)] : List Value).toArray s 0 0 (FA ad s.heap.size)) (F0 m 133 ls []) := by
          intro nn
          induction nn with
          | zero => intro i μ H locs ls hR1 hF1 hi hP hS hl hn; exact absurd hn (Nat.not_lt_zero _)
          | succ nn ih =>
            intro i μ H locs ls hR1 hF1 hi hP hS hl hn
            refine lv_iload hx hb dX2_leastMoves_133 (lv_at hl 2 rfl) ?_
            refine lv_aload_n hx hb dX2_leastMoves_135 rfl (lv_at hl 0 rfl) ?_
            refine gf_X2_34 C0 X hP 88 ⟨by decide, rfl⟩ dX2_leastMoves_136 ?_
            refine lv_topE (y := (nI (QB a b q x z i).length)) hR1.1 ?_
            refine lv_icmp_ge (tgt := 194) hx hb dX2_leastMoves_139 (by decide) (fun c_7 => ?_) (fun c_7 => ?_)
            · refine lv_aload_n hx hb dX2_leastMoves_194 rfl (lv_at hl 0 rfl) ?_
              refine gf_X2_11 C0 X hP 88 (q := 89) ⟨by decide, rfl⟩ (by omega) rfl dX2_leastMoves_195 ?_
              refine lv_iload hx hb dX2_leastMoves_198 (lv_at hl 1 rfl) ?_
              refine r_ialdN C0 X hP 89 (k := (wtC a b)) ⟨by decide, rfl⟩ rfl hst.2 dX2_leastMoves_200 ?_
              exact r_iret C0 X hP hS hr hlk dX2_leastMoves_201 ⟨by rw [resQ_rep hR1 hst.2]; exact RWn_at (by have := RepC_len hR1; omega) (Or.inl (Nat.not_lt.mp (nI_nlt_of c_7 (by have := RepC_len hR1; omega)))), fun a9 h1 h2 h3 => (hF1.1 a9 h1 h2 h3).trans (lmM_ne σ a b q x z 896 h1 h2)⟩
            · have hL9 := RepC_len hR1
              have hi2 : i < (QB a b q x z i).length := nI_lt_of c_7 (by omega)
              refine lv_iload hx hb dX2_leastMoves_142 (lv_at hl 2 rfl) ?_
              refine lv_sipush (v := 896) hx hb dX2_leastMoves_144 (by decide) ?_
              refine lv_icmp_ge (tgt := 194) hx hb dX2_leastMoves_147 (by decide) (fun c_8 => absurd c_8 (nI_ge (a := i) (b := 896) (by have := RepC_len hR1; omega) (by decide))) (fun c_8 => ?_)
              refine lv_aload_n hx hb dX2_leastMoves_150 rfl (lv_at hl 0 rfl) ?_
              refine gf_X2_11 C0 X hP 88 (q := 89) ⟨by decide, rfl⟩ (by omega) rfl dX2_leastMoves_151 ?_
              refine lv_iload hx hb dX2_leastMoves_154 (lv_at hl 1 rfl) ?_
              refine r_ialdN C0 X hP 89 (k := (wtC a b)) ⟨by decide, rfl⟩ rfl hst.2 dX2_leastMoves_156 ?_
              refine lv_bipush (v := (-4)) hx hb dX2_leastMoves_157 (by decide) ?_
              refine lv_icmp_ne (tgt := 194) hx hb dX2_leastMoves_159 (by decide) (fun c_9 => ?_) (fun c_9 => ?_)
              · refine lv_aload_n hx hb dX2_leastMoves_194 rfl (lv_at hl 0 rfl) ?_
                refine gf_X2_11 C0 X hP 88 (q := 89) ⟨by decide, rfl⟩ (by omega) rfl dX2_leastMoves_195 ?_
                refine lv_iload hx hb dX2_leastMoves_198 (lv_at hl 1 rfl) ?_
                refine r_ialdN C0 X hP 89 (k := (wtC a b)) ⟨by decide, rfl⟩ rfl hst.2 dX2_leastMoves_200 ?_
                exact r_iret C0 X hP hS hr hlk dX2_leastMoves_201 ⟨by rw [resQ_rep hR1 hst.2]; exact RWn_at (by have := RepC_len hR1; omega) (Or.inr (Classical.byContradiction (fun q9 => c_9 ((RepC_iff hR1 hst.2).mpr q9)))), fun a9 h1 h2 h3 => (hF1.1 a9 h1 h2 h3).trans (lmM_ne σ a b q x z 896 h1 h2)⟩
              · obtain ⟨c9, d9, hg⟩ := getQ hi2
                have hk9 := hR1.2.2.1 i c9 d9 hg
                have hv9 := QB_v (q := q) (z := z) ha hb3 hxb i c9 (List.mem_map.mpr ⟨(c9, d9), List.mem_of_getElem? hg, rfl⟩)
                refine lv_aload_n hx hb dX2_leastMoves_162 rfl (lv_at hl 0 rfl) ?_
                refine lv_aload_n hx hb dX2_leastMoves_163 rfl (lv_at hl 0 rfl) ?_
                refine gf_X2_15 C0 X hP 88 (q := 90) ⟨by decide, rfl⟩ (by omega) rfl dX2_leastMoves_164 ?_
                refine lv_iload hx hb dX2_leastMoves_167 (lv_at hl 2 rfl) ?_
                refine r_ialdN C0 X hP 90 (k := i) ⟨by decide, rfl⟩ rfl (by have := RepC_len hR1; omega) dX2_leastMoves_169 ?_
                refine lv_topE (y := (nI c9)) hk9.1 ?_
                refine lv_sipush (v := 128) hx hb dX2_leastMoves_170 (by decide) ?_
                refine lv_idiv hx hb dX2_leastMoves_173 (by decide) ?_
                refine lv_topE (y := (nI (c9 / 128))) (pk_div128 (by omega)) ?_
                refine lv_aload_n hx hb dX2_leastMoves_174 rfl (lv_at hl 0 rfl) ?_
                refine gf_X2_15 C0 X hP 88 (q := 90) ⟨by decide, rfl⟩ (by omega) rfl dX2_leastMoves_175 ?_
                refine lv_iload hx hb dX2_leastMoves_178 (lv_at hl 2 rfl) ?_
                refine r_ialdN C0 X hP 90 (k := i) ⟨by decide, rfl⟩ rfl (by have := RepC_len hR1; omega) dX2_leastMoves_180 ?_
                refine lv_topE (y := (nI c9)) hk9.1 ?_
                refine lv_sipush (v := 128) hx hb dX2_leastMoves_181 (by decide) ?_
                refine lv_irem hx hb dX2_leastMoves_184 (by decide) ?_
                refine lv_topE (y := (nI (c9 % 128))) (pk_rem128 (by omega)) ?_
                refine r_cv X hS (r_runV (As := [.int (nI (c9 / 128)), .int (nI (c9 % 128))]) (rest := []) C0 X hP L_X2_41 (fun sz => c_X2_tryMoves l D cA ad o μ (QB a b q x z i) (c9 / 128) (c9 % 128) a b q x z d9 hR1 ((hF1.2 3 (by decide)).trans hf.1) ((hF1.2 4 (by decide)).trans hf.2.1) ((hF1.2 5 (by decide)).trans hf.2.2.1) ((hF1.2 6 (by decide)).trans hf.2.2.2.1) ((hF1.2 7 (by decide)).trans hf.2.2.2.2) ha hb3 hq hxb hz hv9.2.1 (Nat.mod_lt _ (by decide)) hv9.2.2.1 hv9.2.2.2.1 hv9.2.2.2.2 (by rw [show c9 / 128 * 128 + c9 % 128 = c9 by omega]; exact hk9.2.1) (by omega) sz) (show 88 < 106 ∧ kd 88 = (2, 8) from ⟨by decide, rfl⟩).1 (show 88 < 106 ∧ kd 88 = (2, 8) from ⟨by decide, rfl⟩).2 (by decide) rfl ⟨Nat.le_of_ble_eq_true rfl, Nat.le_of_ble_eq_true rfl⟩ rfl hl.1 rfl (Nat.le_of_ble_eq_true rfl) dX2_leastMoves_185 ⟨Nat.zero_le _, Nat.zero_le _⟩) (fun σw_10 H locs hw_10 hP hS => ?_)
                refine lv_iinc (v := (nI (i + 1))) (lv' := [(8, .int (nI (i + 1))), (0, .ref (ad 88)), (7, .int (nI (wtC a b)))]) hx hb dX2_leastMoves_188 hl (k := 2) rfl (nI_1 _) (by decide) rfl (fun ls hl => ?_)
                refine lv_goto (tgt := 133) hx hb dX2_leastMoves_191 (by decide) ?_
                exact ih (i + 1) σw_10 _ _ ls (by rw [← QB_s hg]; exact hw_10.1) (FrP_trans hF1 hw_10.2) (by rw [← QB_s hg]; exact Nat.le_trans hi2 (foldQ_len _ _ _)) hP hS (lv_sub hl [1, 2, 0] rfl) (by omega)
        exact lp_6 ((897 - 0) + 1) 0 σw_5 _ _ ls (by rw [← QB_0]; exact hw_5.1) hw_5.2 (Nat.zero_le _) hP hS (lv_sub hl [3, 1, 0] rfl) (by omega)
      · have hk7 : k < 896 := nI_ltof (b := 896) c_2 (by omega)
        refine lv_aload_n hx hb dX2_leastMoves_43 rfl (lv_at hl 0 rfl) ?_
        refine gf_X2_11 C0 X hP 88 (q := 89) ⟨by decide, rfl⟩ (by omega) rfl dX2_leastMoves_44 ?_
        refine lv_iload hx hb dX2_leastMoves_47 (lv_at hl 3 rfl) ?_
        refine lv_bipush (v := (-4)) hx hb dX2_leastMoves_49 (by decide) ?_
        refine r_iastN C0 X hP hS 89 (k := k) ⟨by decide, rfl⟩ rfl hk7 dX2_leastMoves_51 (fun H locs hP hS => ?_)
        refine lv_iinc (v := (nI (k + 1))) (lv' := [(6, .int (nI (k + 1))), (0, .ref (ad 88)), (1, .int (nI a)), (2, .int (nI b))]) hx hb dX2_leastMoves_52 hl (k := 3) rfl (nI_1 _) (by decide) rfl (fun ls hl => ?_)
        refine lv_goto (tgt := 35) hx hb dX2_leastMoves_55 (by decide) ?_
        exact ih (k + 1) _ _ ls (by omega) (mem_cast (rv_s _ 89 k (-4)) hP) hS (lv_sub hl [1, 2, 3, 0] rfl) (by omega)
  exact lp_1 ((896 - 0) + 1) 0 _ _ ls (by decide) (mem_cast (rv_0 _ 89 (-4)) hP) hS (lv_sub hl [1, 2, 3, 0] rfl) (by omega)
end
section
abbrev RWok (a b x z : Int32) : Prop := ¬ a < 0 ∧ ¬ 3 < a ∧ ¬ b < 0 ∧ ¬ 3 < b ∧ ¬ x < a ∧ ¬ 6 < x ∧ ¬ z < b ∧ ¬ 6 < z
def RWv (a b q x z : Int32) : Int32 := if RWok a b x z ∧ ¬ q < 0 ∧ ¬ 3 < q then RWn a.toNatClampNeg b.toNatClampNeg q.toNatClampNeg x.toNatClampNeg z.toNatClampNeg else -1
def ASn (a b x z : Nat) : Int32 := if ¬ RWn a b 0 x z = -4 then 0 else if ¬ RWn a b 1 x z = -4 then 1 else if ¬ RWn a b 2 x z = -4 then 2 else if ¬ RWn a b 3 x z = -4 then 3 else -4
def AS (a b x z : Int32) : Int32 := if RWok a b x z then ASn a.toNatClampNeg b.toNatClampNeg x.toNatClampNeg z.toNatClampNeg else -1
theorem in3 {a : Int32} (h : ¬ a < 0) (h2 : ¬ 3 < a) : ∃ j : Nat, j ≤ 3 ∧ a = nI j := by
  obtain ⟨j, hj, e⟩ := ixN (x := a) (M := 4) (n := 4) (by decide) h (Int32.not_le.mp (nsucc (by decide) h2))
  exact ⟨j, by omega, e⟩
theorem in6 {a x : Int32} (h : ¬ a < 0) (h1 : ¬ x < a) (h2 : ¬ 6 < x) : ∃ j : Nat, j ≤ 6 ∧ x = nI j := by
  have h0 : ¬ x < 0 := fun q => by
    rw [Int32.lt_iff_toInt_lt] at h h1 q
    have e : (0 : Int32).toInt = 0 := by decide
    omega
  obtain ⟨j, hj, e⟩ := ixN (x := x) (M := 7) (n := 7) (by decide) h0 (Int32.not_le.mp (nsucc (by decide) h2))
  exact ⟨j, by omega, e⟩
theorem RW_eq {a b q x z : Nat} (ha : a ≤ 3) (hb : b ≤ 3) (hq : q ≤ 3) (hx : x ≤ 6) (hz : z ≤ 6) (h : RWok (nI a) (nI b) (nI x) (nI z)) : RWv (nI a) (nI b) (nI q) (nI x) (nI z) = RWn a b q x z := by
  rw [RWv, if_pos ⟨h, nI_pos (by omega), nI_nlt (a := 3) (b := q) hq (by decide)⟩, nI_clamp (by omega), nI_clamp (by omega), nI_clamp (by omega), nI_clamp (by omega), nI_clamp (by omega)]
theorem AS_eq {a b x z : Nat} (ha : a ≤ 3) (hb : b ≤ 3) (hx : x ≤ 6) (hz : z ≤ 6) (h : RWok (nI a) (nI b) (nI x) (nI z)) : AS (nI a) (nI b) (nI x) (nI z) = ASn a b x z := by
  rw [AS, if_pos h, nI_clamp (by omega), nI_clamp (by omega), nI_clamp (by omega), nI_clamp (by omega)]
theorem FrL_trans {σ σ' σ'' : Mem} (h : ∀ a9, a9 ≠ 88 → a9 ≠ 89 → a9 ≠ 90 → σ' a9 = σ a9) (k : ∀ a9, a9 ≠ 88 → a9 ≠ 89 → a9 ≠ 90 → σ'' a9 = σ' a9) : ∀ a9, a9 ≠ 88 → a9 ≠ 89 → a9 ≠ 90 → σ'' a9 = σ a9 := fun a9 h1 h2 h3 => (k a9 h1 h2 h3).trans (h a9 h1 h2 h3)
theorem FrL_91 {σ σ' : Mem} (h : ∀ a9, a9 ≠ 88 → a9 ≠ 89 → a9 ≠ 90 → σ' a9 = σ a9) : ∀ a9, 91 ≤ a9 → σ' a9 = σ a9 := fun a9 h9 => h a9 (by omega) (by omega) (by omega)
def bB_cX7_areRows : Nat := 0xac030400a7040700a306101d0d00a11b1d1200a306101c1800a11a1c1d00a3061b22009b1b2600a3061a2b009b1a
theorem yB_cX7_areRows : BYS cX7_areRows 46 bB_cX7_areRows := BYS_of (by decide +kernel)
theorem dX7_areRows_0 : decode cX7_areRows 0 = .ok (.iload_n 0, 1) := D_26 yB_cX7_areRows rfl rfl
theorem dX7_areRows_1 : decode cX7_areRows 1 = .ok (.ifCond .lt 43, 3) := D_155 yB_cX7_areRows rfl rfl (sg_p (m := 32768) (N := 43) rfl rfl rfl)
theorem dX7_areRows_4 : decode cX7_areRows 4 = .ok (.iload_n 0, 1) := D_26 yB_cX7_areRows rfl rfl
theorem dX7_areRows_5 : decode cX7_areRows 5 = .ok (.iconst 3, 1) := D_6 yB_cX7_areRows rfl rfl
theorem dX7_areRows_6 : decode cX7_areRows 6 = .ok (.if_icmp .gt 38, 3) := D_163 yB_cX7_areRows rfl rfl (sg_p (m := 32768) (N := 38) rfl rfl rfl)
theorem dX7_areRows_9 : decode cX7_areRows 9 = .ok (.iload_n 1, 1) := D_27 yB_cX7_areRows rfl rfl
theorem dX7_areRows_10 : decode cX7_areRows 10 = .ok (.ifCond .lt 34, 3) := D_155 yB_cX7_areRows rfl rfl (sg_p (m := 32768) (N := 34) rfl rfl rfl)
theorem dX7_areRows_13 : decode cX7_areRows 13 = .ok (.iload_n 1, 1) := D_27 yB_cX7_areRows rfl rfl
theorem dX7_areRows_14 : decode cX7_areRows 14 = .ok (.iconst 3, 1) := D_6 yB_cX7_areRows rfl rfl
theorem dX7_areRows_15 : decode cX7_areRows 15 = .ok (.if_icmp .gt 29, 3) := D_163 yB_cX7_areRows rfl rfl (sg_p (m := 32768) (N := 29) rfl rfl rfl)
theorem dX7_areRows_18 : decode cX7_areRows 18 = .ok (.iload_n 2, 1) := D_28 yB_cX7_areRows rfl rfl
theorem dX7_areRows_19 : decode cX7_areRows 19 = .ok (.iload_n 0, 1) := D_26 yB_cX7_areRows rfl rfl
theorem dX7_areRows_20 : decode cX7_areRows 20 = .ok (.if_icmp .lt 24, 3) := D_161 yB_cX7_areRows rfl rfl (sg_p (m := 32768) (N := 24) rfl rfl rfl)
theorem dX7_areRows_23 : decode cX7_areRows 23 = .ok (.iload_n 2, 1) := D_28 yB_cX7_areRows rfl rfl
theorem dX7_areRows_24 : decode cX7_areRows 24 = .ok (.bipush 6, 2) := D_16 yB_cX7_areRows rfl rfl (sg_p (m := 128) (N := 6) rfl rfl rfl)
theorem dX7_areRows_26 : decode cX7_areRows 26 = .ok (.if_icmp .gt 18, 3) := D_163 yB_cX7_areRows rfl rfl (sg_p (m := 32768) (N := 18) rfl rfl rfl)
theorem dX7_areRows_29 : decode cX7_areRows 29 = .ok (.iload_n 3, 1) := D_29 yB_cX7_areRows rfl rfl
theorem dX7_areRows_30 : decode cX7_areRows 30 = .ok (.iload_n 1, 1) := D_27 yB_cX7_areRows rfl rfl
theorem dX7_areRows_31 : decode cX7_areRows 31 = .ok (.if_icmp .lt 13, 3) := D_161 yB_cX7_areRows rfl rfl (sg_p (m := 32768) (N := 13) rfl rfl rfl)
theorem dX7_areRows_34 : decode cX7_areRows 34 = .ok (.iload_n 3, 1) := D_29 yB_cX7_areRows rfl rfl
theorem dX7_areRows_35 : decode cX7_areRows 35 = .ok (.bipush 6, 2) := D_16 yB_cX7_areRows rfl rfl (sg_p (m := 128) (N := 6) rfl rfl rfl)
theorem dX7_areRows_37 : decode cX7_areRows 37 = .ok (.if_icmp .gt 7, 3) := D_163 yB_cX7_areRows rfl rfl (sg_p (m := 32768) (N := 7) rfl rfl rfl)
theorem dX7_areRows_40 : decode cX7_areRows 40 = .ok (.iconst 1, 1) := D_4 yB_cX7_areRows rfl rfl
theorem dX7_areRows_41 : decode cX7_areRows 41 = .ok (.goto 4, 3) := D_167 yB_cX7_areRows rfl rfl (sg_p (m := 32768) (N := 4) rfl rfl rfl)
theorem dX7_areRows_44 : decode cX7_areRows 44 = .ok (.iconst 0, 1) := D_3 yB_cX7_areRows rfl rfl
theorem dX7_areRows_45 : decode cX7_areRows 45 = .ok (.ireturn, 1) := D_172 yB_cX7_areRows rfl rfl
set_option maxHeartbeats 4000000 in
set_option maxRecDepth 100000 in
theorem c_X7_areRows (l : Launch) (D : va_G) (cA : Nat → ClassId) (ad : Nat → Nat) (o : Int64) (σ : Mem) (a : Int32) (b : Int32) (x : Int32) (z : Int32)  (sz : Nat) : Met l yX7_areRows (WY yX7_areRows cX7_areRows 4 (some .boolean)) (RM 0) (va_Pc [.int a, .int b, .int x, .int z] (PW D cA ad o σ sz)) (va_Qi (fun r σ9 => ((RWok a b x z ∧ r = 1) ∨ (¬ RWok a b x z ∧ r = 0)) ∧ σ9 = σ) (QW D cA ad o) (FA ad sz)) 0 0 (FA ad sz) := by
  refine ct_of (own := RX7) (k := 0) (Qf := va_Qi (fun r σ9 => ((RWok a b x z ∧ r = 1) ∨ (¬ RWok a b x z ∧ r = 0)) ∧ σ9 = σ) (QW D cA ad o)) rfl (by decide) (Nat.le_of_ble_eq_true rfl) (fun p e s m below meth c ls C0 X hr hlk hP hl => ?_) sz
  have hS : va_S (FA ad s.heap.size) s.heap s.heap [] := va_S.rf
  have hl : lv_has ls 4 [(0, .int a), (1, .int b), (2, .int x), (3, .int z)] := hl
  obtain ⟨hx, hb, hml, hown, hts⟩ := id C0
  refine lv_iload_n hx hb dX7_areRows_0 rfl (lv_at hl 0 rfl) ?_
  refine lv_if_lt (tgt := 44) hx hb dX7_areRows_1 (by decide) (fun c_1 => ?_) (fun c_1 => ?_)
  · refine lv_iconst (v := 0) hx hb dX7_areRows_44 (by decide) ?_
    exact r_zret C0 X hP hS hr hlk dX7_areRows_45 (Or.inl rfl) ⟨Or.inr ⟨fun h9 => h9.1 c_1, rfl⟩, rfl⟩
  · refine lv_iload_n hx hb dX7_areRows_4 rfl (lv_at hl 0 rfl) ?_
    refine lv_iconst (v := 3) hx hb dX7_areRows_5 (by decide) ?_
    refine lv_icmp_gt (tgt := 44) hx hb dX7_areRows_6 (by decide) (fun c_2 => ?_) (fun c_2 => ?_)
    · refine lv_iconst (v := 0) hx hb dX7_areRows_44 (by decide) ?_
      exact r_zret C0 X hP hS hr hlk dX7_areRows_45 (Or.inl rfl) ⟨Or.inr ⟨fun h9 => h9.2.1 c_2, rfl⟩, rfl⟩
    · refine lv_iload_n hx hb dX7_areRows_9 rfl (lv_at hl 1 rfl) ?_
      refine lv_if_lt (tgt := 44) hx hb dX7_areRows_10 (by decide) (fun c_3 => ?_) (fun c_3 => ?_)
      · refine lv_iconst (v := 0) hx hb dX7_areRows_44 (by decide) ?_
        exact r_zret C0 X hP hS hr hlk dX7_areRows_45 (Or.inl rfl) ⟨Or.inr ⟨fun h9 => h9.2.2.1 c_3, rfl⟩, rfl⟩
      · refine lv_iload_n hx hb dX7_areRows_13 rfl (lv_at hl 1 rfl) ?_
        refine lv_iconst (v := 3) hx hb dX7_areRows_14 (by decide) ?_
        refine lv_icmp_gt (tgt := 44) hx hb dX7_areRows_15 (by decide) (fun c_4 => ?_) (fun c_4 => ?_)
        · refine lv_iconst (v := 0) hx hb dX7_areRows_44 (by decide) ?_
          exact r_zret C0 X hP hS hr hlk dX7_areRows_45 (Or.inl rfl) ⟨Or.inr ⟨fun h9 => h9.2.2.2.1 c_4, rfl⟩, rfl⟩
        · refine lv_iload_n hx hb dX7_areRows_18 rfl (lv_at hl 2 rfl) ?_
          refine lv_iload_n hx hb dX7_areRows_19 rfl (lv_at hl 0 rfl) ?_
          refine lv_icmp_lt (tgt := 44) hx hb dX7_areRows_20 (by decide) (fun c_5 => ?_) (fun c_5 => ?_)
          · refine lv_iconst (v := 0) hx hb dX7_areRows_44 (by decide) ?_
            exact r_zret C0 X hP hS hr hlk dX7_areRows_45 (Or.inl rfl) ⟨Or.inr ⟨fun h9 => h9.2.2.2.2.1 c_5, rfl⟩, rfl⟩
          · refine lv_iload_n hx hb dX7_areRows_23 rfl (lv_at hl 2 rfl) ?_
            refine lv_bipush (v := 6) hx hb dX7_areRows_24 (by decide) ?_
            refine lv_icmp_gt (tgt := 44) hx hb dX7_areRows_26 (by decide) (fun c_6 => ?_) (fun c_6 => ?_)
            · refine lv_iconst (v := 0) hx hb dX7_areRows_44 (by decide) ?_
              exact r_zret C0 X hP hS hr hlk dX7_areRows_45 (Or.inl rfl) ⟨Or.inr ⟨fun h9 => h9.2.2.2.2.2.1 c_6, rfl⟩, rfl⟩
            · refine lv_iload_n hx hb dX7_areRows_29 rfl (lv_at hl 3 rfl) ?_
              refine lv_iload_n hx hb dX7_areRows_30 rfl (lv_at hl 1 rfl) ?_
              refine lv_icmp_lt (tgt := 44) hx hb dX7_areRows_31 (by decide) (fun c_7 => ?_) (fun c_7 => ?_)
              · refine lv_iconst (v := 0) hx hb dX7_areRows_44 (by decide) ?_
                exact r_zret C0 X hP hS hr hlk dX7_areRows_45 (Or.inl rfl) ⟨Or.inr ⟨fun h9 => h9.2.2.2.2.2.2.1 c_7, rfl⟩, rfl⟩
              · refine lv_iload_n hx hb dX7_areRows_34 rfl (lv_at hl 3 rfl) ?_
                refine lv_bipush (v := 6) hx hb dX7_areRows_35 (by decide) ?_
                refine lv_icmp_gt (tgt := 44) hx hb dX7_areRows_37 (by decide) (fun c_8 => ?_) (fun c_8 => ?_)
                · refine lv_iconst (v := 0) hx hb dX7_areRows_44 (by decide) ?_
                  exact r_zret C0 X hP hS hr hlk dX7_areRows_45 (Or.inl rfl) ⟨Or.inr ⟨fun h9 => h9.2.2.2.2.2.2.2 c_8, rfl⟩, rfl⟩
                · refine lv_iconst (v := 1) hx hb dX7_areRows_40 (by decide) ?_
                  refine lv_goto (tgt := 45) hx hb dX7_areRows_41 (by decide) ?_
                  exact r_zret C0 X hP hS hr hlk dX7_areRows_45 (Or.inr rfl) ⟨Or.inl ⟨⟨c_1, c_2, c_3, c_4, c_5, c_6, c_7, c_8⟩, rfl⟩, rfl⟩
def bB_cX7_rows : Nat := 0xac0901b6051504151d1c1b2d00b42aac020500a4061d08009b1d0c00990501b8051504151c1b
theorem yB_cX7_rows : BYS cX7_rows 38 bB_cX7_rows := BYS_of (by decide +kernel)
theorem dX7_rows_0 : decode cX7_rows 0 = .ok (.iload_n 1, 1) := D_27 yB_cX7_rows rfl rfl
theorem dX7_rows_1 : decode cX7_rows 1 = .ok (.iload_n 2, 1) := D_28 yB_cX7_rows rfl rfl
theorem dX7_rows_2 : decode cX7_rows 2 = .ok (.iload 4, 2) := D_21 yB_cX7_rows rfl rfl rfl
theorem dX7_rows_4 : decode cX7_rows 4 = .ok (.iload 5, 2) := D_21 yB_cX7_rows rfl rfl rfl
theorem dX7_rows_6 : decode cX7_rows 6 = .ok (.invokestatic 261, 3) := D_184 yB_cX7_rows rfl rfl rfl
theorem dX7_rows_9 : decode cX7_rows 9 = .ok (.ifCond .eq 12, 3) := D_153 yB_cX7_rows rfl rfl (sg_p (m := 32768) (N := 12) rfl rfl rfl)
theorem dX7_rows_12 : decode cX7_rows 12 = .ok (.iload_n 3, 1) := D_29 yB_cX7_rows rfl rfl
theorem dX7_rows_13 : decode cX7_rows 13 = .ok (.ifCond .lt 8, 3) := D_155 yB_cX7_rows rfl rfl (sg_p (m := 32768) (N := 8) rfl rfl rfl)
theorem dX7_rows_16 : decode cX7_rows 16 = .ok (.iload_n 3, 1) := D_29 yB_cX7_rows rfl rfl
theorem dX7_rows_17 : decode cX7_rows 17 = .ok (.iconst 3, 1) := D_6 yB_cX7_rows rfl rfl
theorem dX7_rows_18 : decode cX7_rows 18 = .ok (.if_icmp .le 5, 3) := D_164 yB_cX7_rows rfl rfl (sg_p (m := 32768) (N := 5) rfl rfl rfl)
theorem dX7_rows_21 : decode cX7_rows 21 = .ok (.iconst (-1), 1) := D_2 yB_cX7_rows rfl rfl
theorem dX7_rows_22 : decode cX7_rows 22 = .ok (.ireturn, 1) := D_172 yB_cX7_rows rfl rfl
theorem dX7_rows_23 : decode cX7_rows 23 = .ok (.aload_n 0, 1) := D_42 yB_cX7_rows rfl rfl
theorem dX7_rows_24 : decode cX7_rows 24 = .ok (.getfield 45, 3) := D_180 yB_cX7_rows rfl rfl rfl
theorem dX7_rows_27 : decode cX7_rows 27 = .ok (.iload_n 1, 1) := D_27 yB_cX7_rows rfl rfl
theorem dX7_rows_28 : decode cX7_rows 28 = .ok (.iload_n 2, 1) := D_28 yB_cX7_rows rfl rfl
theorem dX7_rows_29 : decode cX7_rows 29 = .ok (.iload_n 3, 1) := D_29 yB_cX7_rows rfl rfl
theorem dX7_rows_30 : decode cX7_rows 30 = .ok (.iload 4, 2) := D_21 yB_cX7_rows rfl rfl rfl
theorem dX7_rows_32 : decode cX7_rows 32 = .ok (.iload 5, 2) := D_21 yB_cX7_rows rfl rfl rfl
theorem dX7_rows_34 : decode cX7_rows 34 = .ok (.invokevirtual 265, 3) := D_182 yB_cX7_rows rfl rfl rfl
theorem dX7_rows_37 : decode cX7_rows 37 = .ok (.ireturn, 1) := D_172 yB_cX7_rows rfl rfl
set_option maxHeartbeats 4000000 in
set_option maxRecDepth 100000 in
theorem c_X7_rows (l : Launch) (D : va_G) (cA : Nat → ClassId) (ad : Nat → Nat) (o : Int64) (σ : Mem) (a : Int32) (b : Int32) (q : Int32) (x : Int32) (z : Int32) (sz : Nat) : Met l yX7_rows (WY yX7_rows cX7_rows 6 (some .int)) (RM 4) (va_Pc [.ref (ad 66), .int a, .int b, .int q, .int x, .int z] (PW D cA ad o σ sz)) (va_Qi (fun r (σ9 : Mem) => r = RWv a b q x z ∧ ∀ a9, a9 ≠ 88 → a9 ≠ 89 → a9 ≠ 90 → σ9 a9 = σ a9) (QW D cA ad o) (FA ad sz)) 0 0 (FA ad sz) := by
  refine ct_of (own := RX7) (k := 4) (Qf := va_Qi (fun r (σ9 : Mem) => r = RWv a b q x z ∧ ∀ a9, a9 ≠ 88 → a9 ≠ 89 → a9 ≠ 90 → σ9 a9 = σ a9) (QW D cA ad o)) rfl (by decide) (Nat.le_of_ble_eq_true rfl) (fun p e s m below meth c ls C0 X hr hlk hP hl => ?_) sz
  have hS : va_S (FA ad s.heap.size) s.heap s.heap [] := va_S.rf
  have hl : lv_has ls 6 [(0, .ref (ad 66)), (1, .int a), (2, .int b), (3, .int q), (4, .int x), (5, .int z)] := hl
  obtain ⟨hx, hb, hml, hown, hts⟩ := id C0
  refine lv_iload_n hx hb dX7_rows_0 rfl (lv_at hl 1 rfl) ?_
  refine lv_iload_n hx hb dX7_rows_1 rfl (lv_at hl 2 rfl) ?_
  refine lv_iload hx hb dX7_rows_2 (lv_at hl 4 rfl) ?_
  refine lv_iload hx hb dX7_rows_4 (lv_at hl 5 rfl) ?_
  refine r_ci X hS (r_runS (As := [.int a, .int b, .int x, .int z]) (rest := []) C0 X hP L_X7_261 (fun sz => c_X7_areRows l D cA ad o σ a b x z sz) ⟨Nat.le_of_ble_eq_true rfl, Nat.le_of_ble_eq_true rfl⟩ rfl hl.1 rfl (Nat.le_of_ble_eq_true rfl) dX7_rows_6 ⟨Nat.zero_le _, Nat.zero_le _⟩) (fun r σ9 H locs hw hP hS => ?_)
  rw [hw.2] at hP
  obtain ⟨⟨b_1, rfl⟩ | ⟨b_1, rfl⟩, -⟩ := hw
  · refine lv_if_eq (tgt := 21) hx hb dX7_rows_9 (by decide) (fun c_2 => absurd c_2 (by decide)) (fun c_2 => ?_)
    refine lv_iload_n hx hb dX7_rows_12 rfl (lv_at hl 3 rfl) ?_
    refine lv_if_lt (tgt := 21) hx hb dX7_rows_13 (by decide) (fun c_3 => ?_) (fun c_3 => ?_)
    · refine lv_iconst (v := (-1)) hx hb dX7_rows_21 (by decide) ?_
      exact r_iret C0 X hP hS hr hlk dX7_rows_22 ⟨by rw [RWv, if_neg (fun h9 => h9.2.1 c_3)], fun _ _ _ _ => rfl⟩
    · refine lv_iload_n hx hb dX7_rows_16 rfl (lv_at hl 3 rfl) ?_
      refine lv_iconst (v := 3) hx hb dX7_rows_17 (by decide) ?_
      refine lv_icmp_le (tgt := 23) hx hb dX7_rows_18 (by decide) (fun c_4 => ?_) (fun c_4 => ?_)
      · obtain ⟨a1, ha1, rfl⟩ := in3 b_1.1 b_1.2.1
        obtain ⟨b1, hb1, rfl⟩ := in3 b_1.2.2.1 b_1.2.2.2.1
        obtain ⟨x1, hx1, rfl⟩ := in6 b_1.1 b_1.2.2.2.2.1 b_1.2.2.2.2.2.1
        obtain ⟨z1, hz1, rfl⟩ := in6 b_1.2.2.1 b_1.2.2.2.2.2.2.1 b_1.2.2.2.2.2.2.2
        obtain ⟨q1, hq1, rfl⟩ := in3 c_3 (Int32.not_lt.mpr c_4)
        refine lv_aload_n hx hb dX7_rows_23 rfl (lv_at hl 0 rfl) ?_
        refine gf_X7_45 C0 X hP 66 (q := 88) ⟨by decide, rfl⟩ (by omega) rfl dX7_rows_24 ?_
        refine lv_iload_n hx hb dX7_rows_27 rfl (lv_at hl 1 rfl) ?_
        refine lv_iload_n hx hb dX7_rows_28 rfl (lv_at hl 2 rfl) ?_
        refine lv_iload_n hx hb dX7_rows_29 rfl (lv_at hl 3 rfl) ?_
        refine lv_iload hx hb dX7_rows_30 (lv_at hl 4 rfl) ?_
        refine lv_iload hx hb dX7_rows_32 (lv_at hl 5 rfl) ?_
        refine r_ci X hS (r_runV (As := [.int (nI a1), .int (nI b1), .int (nI q1), .int (nI x1), .int (nI z1)]) (rest := []) C0 X hP L_X7_265 (fun sz => c_X2_leastMoves l D cA ad o σ a1 b1 q1 x1 z1 ha1 hb1 hq1 hx1 hz1 sz) (show 88 < 106 ∧ kd 88 = (2, 8) from ⟨by decide, rfl⟩).1 (show 88 < 106 ∧ kd 88 = (2, 8) from ⟨by decide, rfl⟩).2 (by decide) rfl ⟨Nat.le_of_ble_eq_true rfl, Nat.le_of_ble_eq_true rfl⟩ rfl hl.1 rfl (Nat.le_of_ble_eq_true rfl) dX7_rows_34 ⟨Nat.zero_le _, Nat.zero_le _⟩) (fun rw_5 σw_5 H locs hw_5 hP hS => ?_)
        exact r_iret C0 X hP hS hr hlk dX7_rows_37 ⟨by rw [RW_eq ha1 hb1 hq1 hx1 hz1 b_1]; exact hw_5.1, hw_5.2⟩
      · refine lv_iconst (v := (-1)) hx hb dX7_rows_21 (by decide) ?_
        exact r_iret C0 X hP hS hr hlk dX7_rows_22 ⟨by rw [RWv, if_neg (fun h9 => h9.2.2 (Int32.not_le.mp c_4))], fun _ _ _ _ => rfl⟩
  · refine lv_if_eq (tgt := 21) hx hb dX7_rows_9 (by decide) (fun c_6 => ?_) (fun c_6 => absurd c_6 (by decide))
    refine lv_iconst (v := (-1)) hx hb dX7_rows_21 (by decide) ?_
    exact r_iret C0 X hP hS hr hlk dX7_rows_22 ⟨by rw [RWv, if_neg (fun h9 => b_1 h9.1)], fun _ _ _ _ => rfl⟩
def bB_cX7_aside : Nat := 0xacfc10e1ffa7010584ac051506009ffc100901b604151d05151c1b2d00b42a1f00a3060515053603ac0205009a0501b804151d1c1b
theorem yB_cX7_aside : BYS cX7_aside 53 bB_cX7_aside := BYS_of (by decide +kernel)
theorem dX7_aside_0 : decode cX7_aside 0 = .ok (.iload_n 1, 1) := D_27 yB_cX7_aside rfl rfl
theorem dX7_aside_1 : decode cX7_aside 1 = .ok (.iload_n 2, 1) := D_28 yB_cX7_aside rfl rfl
theorem dX7_aside_2 : decode cX7_aside 2 = .ok (.iload_n 3, 1) := D_29 yB_cX7_aside rfl rfl
theorem dX7_aside_3 : decode cX7_aside 3 = .ok (.iload 4, 2) := D_21 yB_cX7_aside rfl rfl rfl
theorem dX7_aside_5 : decode cX7_aside 5 = .ok (.invokestatic 261, 3) := D_184 yB_cX7_aside rfl rfl rfl
theorem dX7_aside_8 : decode cX7_aside 8 = .ok (.ifCond .ne 5, 3) := D_154 yB_cX7_aside rfl rfl (sg_p (m := 32768) (N := 5) rfl rfl rfl)
theorem dX7_aside_11 : decode cX7_aside 11 = .ok (.iconst (-1), 1) := D_2 yB_cX7_aside rfl rfl
theorem dX7_aside_12 : decode cX7_aside 12 = .ok (.ireturn, 1) := D_172 yB_cX7_aside rfl rfl
theorem dX7_aside_13 : decode cX7_aside 13 = .ok (.iconst 0, 1) := D_3 yB_cX7_aside rfl rfl
theorem dX7_aside_14 : decode cX7_aside 14 = .ok (.istore 5, 2) := D_54 yB_cX7_aside rfl rfl rfl
theorem dX7_aside_16 : decode cX7_aside 16 = .ok (.iload 5, 2) := D_21 yB_cX7_aside rfl rfl rfl
theorem dX7_aside_18 : decode cX7_aside 18 = .ok (.iconst 3, 1) := D_6 yB_cX7_aside rfl rfl
theorem dX7_aside_19 : decode cX7_aside 19 = .ok (.if_icmp .gt 31, 3) := D_163 yB_cX7_aside rfl rfl (sg_p (m := 32768) (N := 31) rfl rfl rfl)
theorem dX7_aside_22 : decode cX7_aside 22 = .ok (.aload_n 0, 1) := D_42 yB_cX7_aside rfl rfl
theorem dX7_aside_23 : decode cX7_aside 23 = .ok (.getfield 45, 3) := D_180 yB_cX7_aside rfl rfl rfl
theorem dX7_aside_26 : decode cX7_aside 26 = .ok (.iload_n 1, 1) := D_27 yB_cX7_aside rfl rfl
theorem dX7_aside_27 : decode cX7_aside 27 = .ok (.iload_n 2, 1) := D_28 yB_cX7_aside rfl rfl
theorem dX7_aside_28 : decode cX7_aside 28 = .ok (.iload 5, 2) := D_21 yB_cX7_aside rfl rfl rfl
theorem dX7_aside_30 : decode cX7_aside 30 = .ok (.iload_n 3, 1) := D_29 yB_cX7_aside rfl rfl
theorem dX7_aside_31 : decode cX7_aside 31 = .ok (.iload 4, 2) := D_21 yB_cX7_aside rfl rfl rfl
theorem dX7_aside_33 : decode cX7_aside 33 = .ok (.invokevirtual 265, 3) := D_182 yB_cX7_aside rfl rfl rfl
theorem dX7_aside_36 : decode cX7_aside 36 = .ok (.bipush (-4), 2) := D_16 yB_cX7_aside rfl rfl (sg_n (m := 128) (N := 4) rfl rfl rfl)
theorem dX7_aside_38 : decode cX7_aside 38 = .ok (.if_icmp .eq 6, 3) := D_159 yB_cX7_aside rfl rfl (sg_p (m := 32768) (N := 6) rfl rfl rfl)
theorem dX7_aside_41 : decode cX7_aside 41 = .ok (.iload 5, 2) := D_21 yB_cX7_aside rfl rfl rfl
theorem dX7_aside_43 : decode cX7_aside 43 = .ok (.ireturn, 1) := D_172 yB_cX7_aside rfl rfl
theorem dX7_aside_44 : decode cX7_aside 44 = .ok (.iinc 5 1, 3) := D_132 yB_cX7_aside rfl rfl rfl (sg_p (m := 128) (N := 1) rfl rfl rfl)
theorem dX7_aside_47 : decode cX7_aside 47 = .ok (.goto (-31), 3) := D_167 yB_cX7_aside rfl rfl (sg_n (m := 32768) (N := 31) rfl rfl rfl)
theorem dX7_aside_50 : decode cX7_aside 50 = .ok (.bipush (-4), 2) := D_16 yB_cX7_aside rfl rfl (sg_n (m := 128) (N := 4) rfl rfl rfl)
theorem dX7_aside_52 : decode cX7_aside 52 = .ok (.ireturn, 1) := D_172 yB_cX7_aside rfl rfl
set_option maxHeartbeats 4000000 in
set_option maxRecDepth 100000 in
theorem c_X7_aside (l : Launch) (D : va_G) (cA : Nat → ClassId) (ad : Nat → Nat) (o : Int64) (σ : Mem) (a : Int32) (b : Int32) (x : Int32) (z : Int32) (sz : Nat) : Met l yX7_aside (WY yX7_aside cX7_aside 6 (some .int)) (RM 4) (va_Pc [.ref (ad 66), .int a, .int b, .int x, .int z] (PW D cA ad o σ sz)) (va_Qi (fun r (σ9 : Mem) => r = AS a b x z ∧ ∀ a9, a9 ≠ 88 → a9 ≠ 89 → a9 ≠ 90 → σ9 a9 = σ a9) (QW D cA ad o) (FA ad sz)) 0 0 (FA ad sz) := by
  refine ct_of (own := RX7) (k := 4) (Qf := va_Qi (fun r (σ9 : Mem) => r = AS a b x z ∧ ∀ a9, a9 ≠ 88 → a9 ≠ 89 → a9 ≠ 90 → σ9 a9 = σ a9) (QW D cA ad o)) rfl (by decide) (Nat.le_of_ble_eq_true rfl) (fun p e s m below meth c ls C0 X hr hlk hP hl => ?_) sz
  have hS : va_S (FA ad s.heap.size) s.heap s.heap [] := va_S.rf
  have hl : lv_has ls 6 [(0, .ref (ad 66)), (1, .int a), (2, .int b), (3, .int x), (4, .int z)] := hl
  obtain ⟨hx, hb, hml, hown, hts⟩ := id C0
  refine lv_iload_n hx hb dX7_aside_0 rfl (lv_at hl 1 rfl) ?_
  refine lv_iload_n hx hb dX7_aside_1 rfl (lv_at hl 2 rfl) ?_
  refine lv_iload_n hx hb dX7_aside_2 rfl (lv_at hl 3 rfl) ?_
  refine lv_iload hx hb dX7_aside_3 (lv_at hl 4 rfl) ?_
  refine r_ci X hS (r_runS (As := [.int a, .int b, .int x, .int z]) (rest := []) C0 X hP L_X7_261 (fun sz => c_X7_areRows l D cA ad o σ a b x z sz) ⟨Nat.le_of_ble_eq_true rfl, Nat.le_of_ble_eq_true rfl⟩ rfl hl.1 rfl (Nat.le_of_ble_eq_true rfl) dX7_aside_5 ⟨Nat.zero_le _, Nat.zero_le _⟩) (fun r σ9 H locs hw hP hS => ?_)
  rw [hw.2] at hP
  obtain ⟨⟨b_1, rfl⟩ | ⟨b_1, rfl⟩, -⟩ := hw
  · refine lv_if_ne (tgt := 13) hx hb dX7_aside_8 (by decide) (fun c_2 => ?_) (fun c_2 => absurd c_2 (by decide))
    obtain ⟨a1, ha1, rfl⟩ := in3 b_1.1 b_1.2.1
    obtain ⟨b1, hb1, rfl⟩ := in3 b_1.2.2.1 b_1.2.2.2.1
    obtain ⟨x1, hx1, rfl⟩ := in6 b_1.1 b_1.2.2.2.2.1 b_1.2.2.2.2.2.1
    obtain ⟨z1, hz1, rfl⟩ := in6 b_1.2.2.1 b_1.2.2.2.2.2.2.1 b_1.2.2.2.2.2.2.2
    refine lv_iconst (v := 0) hx hb dX7_aside_13 (by decide) ?_
    refine lv_istore (lv' := [(5, .int 0), (0, .ref (ad 66)), (1, .int (nI a1)), (2, .int (nI b1)), (3, .int (nI x1)), (4, .int (nI z1))]) hx hb dX7_aside_14 hl (by decide) rfl (fun ls hl => ?_)
    refine lv_iload hx hb dX7_aside_16 (lv_at hl 0 rfl) ?_
    refine lv_iconst (v := 3) hx hb dX7_aside_18 (by decide) ?_
    refine lv_icmp_gt (tgt := 50) hx hb dX7_aside_19 (by decide) (fun c_3 => absurd c_3 (by decide)) (fun c_3 => ?_)
    refine lv_aload_n hx hb dX7_aside_22 rfl (lv_at hl 1 rfl) ?_
    refine gf_X7_45 C0 X hP 66 (q := 88) ⟨by decide, rfl⟩ (by omega) rfl dX7_aside_23 ?_
    refine lv_iload_n hx hb dX7_aside_26 rfl (lv_at hl 2 rfl) ?_
    refine lv_iload_n hx hb dX7_aside_27 rfl (lv_at hl 3 rfl) ?_
    refine lv_iload hx hb dX7_aside_28 (lv_at hl 0 rfl) ?_
    refine lv_iload_n hx hb dX7_aside_30 rfl (lv_at hl 4 rfl) ?_
    refine lv_iload hx hb dX7_aside_31 (lv_at hl 5 rfl) ?_
    refine r_ci X hS (r_runV (As := [.int (nI a1), .int (nI b1), .int 0, .int (nI x1), .int (nI z1)]) (rest := []) C0 X hP L_X7_265 (fun sz => c_X2_leastMoves l D cA ad o σ a1 b1 0 x1 z1 ha1 hb1 (by decide) hx1 hz1 sz) (show 88 < 106 ∧ kd 88 = (2, 8) from ⟨by decide, rfl⟩).1 (show 88 < 106 ∧ kd 88 = (2, 8) from ⟨by decide, rfl⟩).2 (by decide) rfl ⟨Nat.le_of_ble_eq_true rfl, Nat.le_of_ble_eq_true rfl⟩ rfl hl.1 rfl (Nat.le_of_ble_eq_true rfl) dX7_aside_33 ⟨Nat.zero_le _, Nat.zero_le _⟩) (fun rw_4 σw_4 H locs hw_4 hP hS => ?_)
    refine lv_bipush (v := (-4)) hx hb dX7_aside_36 (by decide) ?_
    refine lv_icmp_eq (tgt := 44) hx hb dX7_aside_38 (by decide) (fun c_5 => ?_) (fun c_5 => ?_)
    · refine lv_iinc (v := 1) (lv' := [(5, .int 1), (0, .ref (ad 66)), (1, .int (nI a1)), (2, .int (nI b1)), (3, .int (nI x1)), (4, .int (nI z1))]) hx hb dX7_aside_44 hl (k := 0) rfl (by decide) (by decide) rfl (fun ls hl => ?_)
      refine lv_goto (tgt := 16) hx hb dX7_aside_47 (by decide) ?_
      refine lv_iload hx hb dX7_aside_16 (lv_at hl 0 rfl) ?_
      refine lv_iconst (v := 3) hx hb dX7_aside_18 (by decide) ?_
      refine lv_icmp_gt (tgt := 50) hx hb dX7_aside_19 (by decide) (fun c_6 => absurd c_6 (by decide)) (fun c_6 => ?_)
      refine lv_aload_n hx hb dX7_aside_22 rfl (lv_at hl 1 rfl) ?_
      refine gf_X7_45 C0 X hP 66 (q := 88) ⟨by decide, rfl⟩ (by omega) rfl dX7_aside_23 ?_
      refine lv_iload_n hx hb dX7_aside_26 rfl (lv_at hl 2 rfl) ?_
      refine lv_iload_n hx hb dX7_aside_27 rfl (lv_at hl 3 rfl) ?_
      refine lv_iload hx hb dX7_aside_28 (lv_at hl 0 rfl) ?_
      refine lv_iload_n hx hb dX7_aside_30 rfl (lv_at hl 4 rfl) ?_
      refine lv_iload hx hb dX7_aside_31 (lv_at hl 5 rfl) ?_
      refine r_ci X hS (r_runV (As := [.int (nI a1), .int (nI b1), .int 1, .int (nI x1), .int (nI z1)]) (rest := []) C0 X hP L_X7_265 (fun sz => c_X2_leastMoves l D cA ad o σw_4 a1 b1 1 x1 z1 ha1 hb1 (by decide) hx1 hz1 sz) (show 88 < 106 ∧ kd 88 = (2, 8) from ⟨by decide, rfl⟩).1 (show 88 < 106 ∧ kd 88 = (2, 8) from ⟨by decide, rfl⟩).2 (by decide) rfl ⟨Nat.le_of_ble_eq_true rfl, Nat.le_of_ble_eq_true rfl⟩ rfl hl.1 rfl (Nat.le_of_ble_eq_true rfl) dX7_aside_33 ⟨Nat.zero_le _, Nat.zero_le _⟩) (fun rw_7 σw_7 H locs hw_7 hP hS => ?_)
      refine lv_bipush (v := (-4)) hx hb dX7_aside_36 (by decide) ?_
      refine lv_icmp_eq (tgt := 44) hx hb dX7_aside_38 (by decide) (fun c_8 => ?_) (fun c_8 => ?_)
      · refine lv_iinc (v := 2) (lv' := [(5, .int 2), (0, .ref (ad 66)), (1, .int (nI a1)), (2, .int (nI b1)), (3, .int (nI x1)), (4, .int (nI z1))]) hx hb dX7_aside_44 hl (k := 0) rfl (by decide) (by decide) rfl (fun ls hl => ?_)
        refine lv_goto (tgt := 16) hx hb dX7_aside_47 (by decide) ?_
        refine lv_iload hx hb dX7_aside_16 (lv_at hl 0 rfl) ?_
        refine lv_iconst (v := 3) hx hb dX7_aside_18 (by decide) ?_
        refine lv_icmp_gt (tgt := 50) hx hb dX7_aside_19 (by decide) (fun c_9 => absurd c_9 (by decide)) (fun c_9 => ?_)
        refine lv_aload_n hx hb dX7_aside_22 rfl (lv_at hl 1 rfl) ?_
        refine gf_X7_45 C0 X hP 66 (q := 88) ⟨by decide, rfl⟩ (by omega) rfl dX7_aside_23 ?_
        refine lv_iload_n hx hb dX7_aside_26 rfl (lv_at hl 2 rfl) ?_
        refine lv_iload_n hx hb dX7_aside_27 rfl (lv_at hl 3 rfl) ?_
        refine lv_iload hx hb dX7_aside_28 (lv_at hl 0 rfl) ?_
        refine lv_iload_n hx hb dX7_aside_30 rfl (lv_at hl 4 rfl) ?_
        refine lv_iload hx hb dX7_aside_31 (lv_at hl 5 rfl) ?_
        refine r_ci X hS (r_runV (As := [.int (nI a1), .int (nI b1), .int 2, .int (nI x1), .int (nI z1)]) (rest := []) C0 X hP L_X7_265 (fun sz => c_X2_leastMoves l D cA ad o σw_7 a1 b1 2 x1 z1 ha1 hb1 (by decide) hx1 hz1 sz) (show 88 < 106 ∧ kd 88 = (2, 8) from ⟨by decide, rfl⟩).1 (show 88 < 106 ∧ kd 88 = (2, 8) from ⟨by decide, rfl⟩).2 (by decide) rfl ⟨Nat.le_of_ble_eq_true rfl, Nat.le_of_ble_eq_true rfl⟩ rfl hl.1 rfl (Nat.le_of_ble_eq_true rfl) dX7_aside_33 ⟨Nat.zero_le _, Nat.zero_le _⟩) (fun rw_10 σw_10 H locs hw_10 hP hS => ?_)
        refine lv_bipush (v := (-4)) hx hb dX7_aside_36 (by decide) ?_
        refine lv_icmp_eq (tgt := 44) hx hb dX7_aside_38 (by decide) (fun c_11 => ?_) (fun c_11 => ?_)
        · refine lv_iinc (v := 3) (lv' := [(5, .int 3), (0, .ref (ad 66)), (1, .int (nI a1)), (2, .int (nI b1)), (3, .int (nI x1)), (4, .int (nI z1))]) hx hb dX7_aside_44 hl (k := 0) rfl (by decide) (by decide) rfl (fun ls hl => ?_)
          refine lv_goto (tgt := 16) hx hb dX7_aside_47 (by decide) ?_
          refine lv_iload hx hb dX7_aside_16 (lv_at hl 0 rfl) ?_
          refine lv_iconst (v := 3) hx hb dX7_aside_18 (by decide) ?_
          refine lv_icmp_gt (tgt := 50) hx hb dX7_aside_19 (by decide) (fun c_12 => absurd c_12 (by decide)) (fun c_12 => ?_)
          refine lv_aload_n hx hb dX7_aside_22 rfl (lv_at hl 1 rfl) ?_
          refine gf_X7_45 C0 X hP 66 (q := 88) ⟨by decide, rfl⟩ (by omega) rfl dX7_aside_23 ?_
          refine lv_iload_n hx hb dX7_aside_26 rfl (lv_at hl 2 rfl) ?_
          refine lv_iload_n hx hb dX7_aside_27 rfl (lv_at hl 3 rfl) ?_
          refine lv_iload hx hb dX7_aside_28 (lv_at hl 0 rfl) ?_
          refine lv_iload_n hx hb dX7_aside_30 rfl (lv_at hl 4 rfl) ?_
          refine lv_iload hx hb dX7_aside_31 (lv_at hl 5 rfl) ?_
          refine r_ci X hS (r_runV (As := [.int (nI a1), .int (nI b1), .int 3, .int (nI x1), .int (nI z1)]) (rest := []) C0 X hP L_X7_265 (fun sz => c_X2_leastMoves l D cA ad o σw_10 a1 b1 3 x1 z1 ha1 hb1 (by decide) hx1 hz1 sz) (show 88 < 106 ∧ kd 88 = (2, 8) from ⟨by decide, rfl⟩).1 (show 88 < 106 ∧ kd 88 = (2, 8) from ⟨by decide, rfl⟩).2 (by decide) rfl ⟨Nat.le_of_ble_eq_true rfl, Nat.le_of_ble_eq_true rfl⟩ rfl hl.1 rfl (Nat.le_of_ble_eq_true rfl) dX7_aside_33 ⟨Nat.zero_le _, Nat.zero_le _⟩) (fun rw_13 σw_13 H locs hw_13 hP hS => ?_)
          refine lv_bipush (v := (-4)) hx hb dX7_aside_36 (by decide) ?_
          refine lv_icmp_eq (tgt := 44) hx hb dX7_aside_38 (by decide) (fun c_14 => ?_) (fun c_14 => ?_)
          · refine lv_iinc (v := 4) (lv' := [(5, .int 4), (0, .ref (ad 66)), (1, .int (nI a1)), (2, .int (nI b1)), (3, .int (nI x1)), (4, .int (nI z1))]) hx hb dX7_aside_44 hl (k := 0) rfl (by decide) (by decide) rfl (fun ls hl => ?_)
            refine lv_goto (tgt := 16) hx hb dX7_aside_47 (by decide) ?_
            refine lv_iload hx hb dX7_aside_16 (lv_at hl 0 rfl) ?_
            refine lv_iconst (v := 3) hx hb dX7_aside_18 (by decide) ?_
            refine lv_icmp_gt (tgt := 50) hx hb dX7_aside_19 (by decide) (fun c_15 => ?_) (fun c_15 => absurd c_15 (by decide))
            refine lv_bipush (v := (-4)) hx hb dX7_aside_50 (by decide) ?_
            exact r_iret C0 X hP hS hr hlk dX7_aside_52 ⟨by rw [AS_eq ha1 hb1 hx1 hz1 b_1, ASn, if_neg (show ¬ ¬ RWn a1 b1 0 x1 z1 = -4 from fun h9 => h9 (hw_4.1.symm.trans c_5)), if_neg (show ¬ ¬ RWn a1 b1 1 x1 z1 = -4 from fun h9 => h9 (hw_7.1.symm.trans c_8)), if_neg (show ¬ ¬ RWn a1 b1 2 x1 z1 = -4 from fun h9 => h9 (hw_10.1.symm.trans c_11)), if_neg (show ¬ ¬ RWn a1 b1 3 x1 z1 = -4 from fun h9 => h9 (hw_13.1.symm.trans c_14))], (FrL_trans (FrL_trans (FrL_trans hw_4.2 hw_7.2) hw_10.2) hw_13.2)⟩
          · refine lv_iload hx hb dX7_aside_41 (lv_at hl 0 rfl) ?_
            exact r_iret C0 X hP hS hr hlk dX7_aside_43 ⟨by rw [AS_eq ha1 hb1 hx1 hz1 b_1, ASn, if_neg (show ¬ ¬ RWn a1 b1 0 x1 z1 = -4 from fun h9 => h9 (hw_4.1.symm.trans c_5)), if_neg (show ¬ ¬ RWn a1 b1 1 x1 z1 = -4 from fun h9 => h9 (hw_7.1.symm.trans c_8)), if_neg (show ¬ ¬ RWn a1 b1 2 x1 z1 = -4 from fun h9 => h9 (hw_10.1.symm.trans c_11)), if_pos (show ¬ RWn a1 b1 3 x1 z1 = -4 from fun h9 => c_14 (hw_13.1.trans h9))], (FrL_trans (FrL_trans (FrL_trans hw_4.2 hw_7.2) hw_10.2) hw_13.2)⟩
        · refine lv_iload hx hb dX7_aside_41 (lv_at hl 0 rfl) ?_
          exact r_iret C0 X hP hS hr hlk dX7_aside_43 ⟨by rw [AS_eq ha1 hb1 hx1 hz1 b_1, ASn, if_neg (show ¬ ¬ RWn a1 b1 0 x1 z1 = -4 from fun h9 => h9 (hw_4.1.symm.trans c_5)), if_neg (show ¬ ¬ RWn a1 b1 1 x1 z1 = -4 from fun h9 => h9 (hw_7.1.symm.trans c_8)), if_pos (show ¬ RWn a1 b1 2 x1 z1 = -4 from fun h9 => c_11 (hw_10.1.trans h9))], (FrL_trans (FrL_trans hw_4.2 hw_7.2) hw_10.2)⟩
      · refine lv_iload hx hb dX7_aside_41 (lv_at hl 0 rfl) ?_
        exact r_iret C0 X hP hS hr hlk dX7_aside_43 ⟨by rw [AS_eq ha1 hb1 hx1 hz1 b_1, ASn, if_neg (show ¬ ¬ RWn a1 b1 0 x1 z1 = -4 from fun h9 => h9 (hw_4.1.symm.trans c_5)), if_pos (show ¬ RWn a1 b1 1 x1 z1 = -4 from fun h9 => c_8 (hw_7.1.trans h9))], (FrL_trans hw_4.2 hw_7.2)⟩
    · refine lv_iload hx hb dX7_aside_41 (lv_at hl 0 rfl) ?_
      exact r_iret C0 X hP hS hr hlk dX7_aside_43 ⟨by rw [AS_eq ha1 hb1 hx1 hz1 b_1, ASn, if_pos (show ¬ RWn a1 b1 0 x1 z1 = -4 from fun h9 => c_5 (hw_4.1.trans h9))], hw_4.2⟩
  · refine lv_if_ne (tgt := 13) hx hb dX7_aside_8 (by decide) (fun c_16 => absurd c_16 (by decide)) (fun c_16 => ?_)
    refine lv_iconst (v := (-1)) hx hb dX7_aside_11 (by decide) ?_
    exact r_iret C0 X hP hS hr hlk dX7_aside_12 ⟨by rw [AS, if_neg b_1], fun _ _ _ _ => rfl⟩
end
section
/-! THE REFERENCE'S STATES: sides and asides of a code -/
def revN : Nat → Nat → Nat
  | 0, _ => 0
  | n + 1, w => w % 2 * 2 ^ n + revN n (w / 2)
def oneN (l e : Nat) : Nat := 3 * 2 ^ (Nat.log2 l - e) - 1 - l / 2 ^ e
def othN (l e : Nat) : Nat := 2 ^ e + revN e (2 ^ e - 1 - l % 2 ^ e)
theorem en_0 : ∀ l, l < 128 → ∀ e, e < 7 → (1 ≤ l ∧ e ≤ Nat.log2 l → Nat.log2 (oneN l e) = Nat.log2 l - e ∧ Nat.log2 (othN l e) = e ∧ oneN l e < 128 ∧ othN l e < 128) := by decide +kernel
theorem en_00 : ∀ l, l < 128 → ∀ e, e < 7 → (1 ≤ l ∧ e ≤ Nat.log2 l → 1 ≤ oneN l e ∧ 1 ≤ othN l e) := by decide +kernel
theorem en_1 : ∀ l, l < 128 → ∀ e, e < 7 → (1 ≤ l ∧ e < Nat.log2 l → oneN l (e + 1) = oneN l e / 2 ∧ othN l (e + 1) = 2 * othN l e + oneN l e % 2) := by decide +kernel
theorem en_2 : ∀ l, l < 128 → ∀ e, e < 7 → (1 ≤ l ∧ e ≤ Nat.log2 l ∧ 0 < e → oneN l (e - 1) = 2 * oneN l e + othN l e % 2 ∧ othN l (e - 1) = othN l e / 2) := by decide +kernel
theorem en_3 : ∀ l, l < 128 → ∀ e, e < 7 → (1 ≤ l ∧ e < Nat.log2 l → oneN (woN l e) e = oneN l e / 2 ∧ othN (woN l e) e = othN l e ∧ l / 2 ^ e % 2 = 1 - oneN l e % 2) := by decide +kernel
theorem en_4 : ∀ l, l < 128 → ∀ e, e < 7 → (1 ≤ l ∧ e ≤ Nat.log2 l ∧ 0 < e → oneN (woN l (e - 1)) (e - 1) = oneN l e ∧ othN (woN l (e - 1)) (e - 1) = othN l e / 2 ∧ l / 2 ^ (e - 1) % 2 = 1 - othN l e % 2) := by decide +kernel
theorem en_5 : ∀ l, l < 128 → ∀ e, e < 7 → (1 ≤ l ∧ e ≤ Nat.log2 l ∧ Nat.log2 l < 6 → oneN (lgN l e 1) e = 2 * oneN l e ∧ othN (lgN l e 1) e = othN l e) := by decide +kernel
theorem en_6 : ∀ l, l < 128 → ∀ e, e < 7 → (1 ≤ l ∧ e ≤ Nat.log2 l ∧ Nat.log2 l < 6 → oneN (lgN l e 1) (e + 1) = oneN l e ∧ othN (lgN l e 1) (e + 1) = 2 * othN l e) := by decide +kernel
theorem en_7 : ∀ l, l < 128 → ∀ e, e < 7 → (1 ≤ l ∧ e ≤ Nat.log2 l ∧ Nat.log2 l < 6 → oneN (lgN l e 0) e = 2 * oneN l e + 1 ∧ othN (lgN l e 0) e = othN l e) := by decide +kernel
theorem en_8 : ∀ l, l < 128 → ∀ e, e < 7 → (1 ≤ l ∧ e ≤ Nat.log2 l ∧ Nat.log2 l < 6 → oneN (lgN l e 0) (e + 1) = oneN l e ∧ othN (lgN l e 0) (e + 1) = 2 * othN l e + 1) := by decide +kernel
def decN (u v : Nat) : Nat := (3 * 2 ^ Nat.log2 u - 1 - u) * 2 ^ Nat.log2 v + revN (Nat.log2 v) (2 ^ (Nat.log2 v + 1) - 1 - v)
theorem en_9 : ∀ l, l < 128 → ∀ e, e < 7 → (1 ≤ l ∧ e ≤ Nat.log2 l → decN (oneN l e) (othN l e) = l) := by decide +kernel
def eyN (c : Nat) : Nat := Nat.log2 (c % 128) - c / 128
def xN (a c : Nat) : Nat := a - (pcN (c % 128) - 1)
def yN (b c : Nat) : Nat := b - (Nat.log2 (c % 128) - (pcN (c % 128) - 1))
def enc (a b c : Nat) : Nat := (oneN (c % 128) (eyN c) * 128 + othN (c % 128) (eyN c)) * 16 + xN a c * 4 + yN b c
theorem enc_b {a b c : Nat} (ha : a ≤ 3) (hb : b ≤ 3) (h : vcd a b c) : oneN (c % 128) (eyN c) < 128 ∧ othN (c % 128) (eyN c) < 128 ∧ xN a c < 4 ∧ yN b c < 4 ∧ 1 ≤ oneN (c % 128) (eyN c) ∧ 1 ≤ othN (c % 128) (eyN c) ∧ Nat.log2 (oneN (c % 128) (eyN c)) = c / 128 ∧ Nat.log2 (othN (c % 128) (eyN c)) = eyN c := by
  have hl : c % 128 < 128 := Nat.mod_lt _ (by decide)
  have h7 := ln_lt _ hl
  have he : eyN c < 7 := by unfold eyN; omega
  have h0 := en_0 _ hl _ he ⟨h.2.2.1, by unfold eyN; omega⟩
  have h00 := en_00 _ hl _ he ⟨h.2.2.1, by unfold eyN; omega⟩
  have hv := h.2.1
  refine ⟨h0.2.2.1, h0.2.2.2, by unfold xN; omega, by unfold yN; omega, h00.1, h00.2, ?_, h0.2.1⟩
  rw [h0.1]
  unfold eyN
  omega
theorem enc_inj {a b c c' : Nat} (ha : a ≤ 3) (hb : b ≤ 3) (h : vcd a b c) (h' : vcd a b c') (e : enc a b c = enc a b c') : c = c' := by
  have k := enc_b ha hb h
  have k' := enc_b ha hb h'
  unfold enc at e
  have e1 : oneN (c % 128) (eyN c) = oneN (c' % 128) (eyN c') := by omega
  have e2 : othN (c % 128) (eyN c) = othN (c' % 128) (eyN c') := by omega
  have f : ∀ c, vcd a b c → decN (oneN (c % 128) (eyN c)) (othN (c % 128) (eyN c)) = c % 128 := by
    intro c h
    have hl : c % 128 < 128 := Nat.mod_lt _ (by decide)
    have h7 := ln_lt _ hl
    exact en_9 _ hl _ (by unfold eyN; omega) ⟨h.2.2.1, by unfold eyN; omega⟩
  have g1 : c % 128 = c' % 128 := by rw [← f c h, ← f c' h', e1, e2]
  have g2 : c / 128 = c' / 128 := by rw [← k.2.2.2.2.2.2.1, ← k'.2.2.2.2.2.2.1, e1]
  omega
theorem enc_w : ∀ a, a < 4 → ∀ b, b < 4 → enc a b (wtC a b) = 16 * ((2 ^ (b + 1) - 1) * 128 + 2 ^ a) := by decide +kernel
theorem enc_s : ∀ a, a < 4 → ∀ b, b < 4 → enc a b (stC a b) = (2 ^ a * 128 + (2 ^ (b + 1) - 1)) * 16 := by decide +kernel
theorem wt_v1 : ∀ a, a < 4 → ∀ b, b < 4 → (wtC a b / 128 ≤ Nat.log2 (wtC a b % 128) ∧ 1 ≤ wtC a b % 128) := by decide +kernel
theorem wt_v2 : ∀ a, a < 4 → ∀ b, b < 4 → (pcN (wtC a b % 128) - 1 ≤ a ∧ Nat.log2 (wtC a b % 128) - (pcN (wtC a b % 128) - 1) ≤ b) := by decide +kernel
theorem wt_vcd {a b : Nat} (ha : a ≤ 3) (hb : b ≤ 3) : vcd a b (wtC a b) := ⟨(st_lt a (by omega) b (by omega)).2, (wt_v1 a (by omega) b (by omega)).1, (wt_v1 a (by omega) b (by omega)).2, wt_v2 a (by omega) b (by omega)⟩
theorem pigeonL : ∀ (l m : List Nat), l.Nodup → (∀ c ∈ l, c ∈ m) → l.length ≤ m.length := by
  intro l
  induction l with
  | nil => intro m _ _; exact Nat.zero_le _
  | cons c r ih =>
    intro m hn hs
    have hc := hs c List.mem_cons_self
    have h1 := ih (m.erase c) (List.nodup_cons.mp hn).2 (fun d hd => (List.mem_erase_of_ne (fun e => (List.nodup_cons.mp hn).1 (by rw [← e]; exact hd))).mpr (hs d (List.mem_cons_of_mem _ hd)))
    rw [List.length_erase_of_mem hc] at h1
    have h2 := List.length_pos_of_mem hc
    simp only [List.length_cons]
    omega
def vlist : List Nat := (List.range 896).filter (fun c => decide (c / 128 ≤ Nat.log2 (c % 128)) && decide (1 ≤ c % 128) && decide (pcN (c % 128) - 1 ≤ 3) && decide (Nat.log2 (c % 128) - (pcN (c % 128) - 1) ≤ 3))
theorem vlist_len : vlist.length = 379 := by decide +kernel
theorem vlist_mem {a b c : Nat} (ha : a ≤ 3) (hb : b ≤ 3) (h : vcd a b c) : c ∈ vlist := by
  unfold vlist
  rw [List.mem_filter]
  refine ⟨List.mem_range.mpr h.1, ?_⟩
  have h3 : pcN (c % 128) - 1 ≤ 3 := by have := h.2.2.2.1; omega
  have h4 : Nat.log2 (c % 128) - (pcN (c % 128) - 1) ≤ 3 := by have := h.2.2.2.2; omega
  simp [h.2.1, h.2.2.1, h3, h4]
theorem pushQ_nd {Q : List (Nat × Nat)} (h : (Q.map Prod.fst).Nodup) (c d : Nat) : ((pushQ Q c d).map Prod.fst).Nodup := by
  unfold pushQ
  split
  · exact h
  · rename_i hn
    rw [List.map_append]
    exact nodup_snoc h hn
theorem foldQ_nd (d : Nat) (cs : List Nat) : ∀ Q : List (Nat × Nat), (Q.map Prod.fst).Nodup → ((foldQ Q cs d).map Prod.fst).Nodup := by
  induction cs with
  | nil => intro Q h; exact h
  | cons c r ih => intro Q h; exact ih _ (pushQ_nd h c d)
/-- a queue of the search: no code twice, all of them codes of these carts -/
def QG (a b : Nat) (Q : List (Nat × Nat)) : Prop := (Q.map Prod.fst).Nodup ∧ ∀ c ∈ Q.map Prod.fst, vcd a b c
theorem QG_len {a b : Nat} {Q : List (Nat × Nat)} (ha : a ≤ 3) (hb : b ≤ 3) (h : QG a b Q) : Q.length ≤ 379 := by
  have := pigeonL (Q.map Prod.fst) vlist h.1 (fun c hc => vlist_mem ha hb (h.2 c hc))
  rw [vlist_len] at this
  simpa using this
theorem QG_push {a b : Nat} {Q : List (Nat × Nat)} (h : QG a b Q) {c : Nat} (d : Nat) (hc : vcd a b c) : QG a b (pushQ Q c d) := ⟨pushQ_nd h.1 c d, fun w hw => (pushQ_mem hw).elim (h.2 w) (fun e => by rw [e]; exact hc)⟩
theorem QG_fold {a b : Nat} {Q : List (Nat × Nat)} (h : QG a b Q) {cs : List Nat} (d : Nat) (hc : ∀ c ∈ cs, vcd a b c) : QG a b (foldQ Q cs d) := ⟨foldQ_nd d cs Q h.1, fun w hw => (foldQ_mem d cs Q w hw).elim (h.2 w) (hc w)⟩
/-- the reference's rows hold the queue Q -/
def RepR0 (a b : Nat) (Q : List (Nat × Nat)) (σ : Mem) : Prop := σ 91 23 = nI Q.length ∧ ∀ k c d : Nat, Q[k]? = some (c, d) → σ 104 k = nI (enc a b c) ∧ σ 103 k = nI d
theorem RepR0_push {a b : Nat} {Q : List (Nat × Nat)} {σ : Mem} (h : RepR0 a b Q σ) (c d : Nat) : RepR0 a b (Q ++ [(c, d)]) (stm (stm (stm σ 103 Q.length (nI d)) 104 Q.length (nI (enc a b c))) 91 23 (nI (Q.length + 1))) := by
  refine ⟨by simp [stm, upd], ?_⟩
  intro k c' d' hk
  by_cases h1 : k < Q.length
  · rw [List.getElem?_append_left h1] at hk
    have h2 := h.2 k c' d' hk
    have h4 : k ≠ Q.length := by omega
    exact ⟨by simp [stm, upd, h4, h2.1], by simp [stm, upd, h4, h2.2]⟩
  · have h2 : k = Q.length := by
      have := (List.getElem?_eq_some_iff.mp hk).1
      simp at this
      omega
    subst h2
    simp at hk
    obtain ⟨rfl, rfl⟩ := hk
    exact ⟨by simp [stm, upd], by simp [stm, upd]⟩
def Fr9 (σ0 σ : Mem) : Prop := (∀ i, i ≠ 91 → i ≠ 103 → i ≠ 104 → σ i = σ0 i) ∧ ∀ j, j ≠ 23 → σ 91 j = σ0 91 j
theorem Fr9_rf (σ : Mem) : Fr9 σ σ := ⟨fun _ _ _ _ => rfl, fun _ _ => rfl⟩
theorem Fr9_tr {σ σ' σ'' : Mem} (h : Fr9 σ σ') (h' : Fr9 σ' σ'') : Fr9 σ σ'' := ⟨fun i h1 h2 h3 => (h'.1 i h1 h2 h3).trans (h.1 i h1 h2 h3), fun j hj => (h'.2 j hj).trans (h.2 j hj)⟩
theorem Fr9_push {σ0 σ : Mem} (h : Fr9 σ0 σ) (x y w : Int32) (i j : Nat) : Fr9 σ0 (stm (stm (stm σ 103 i x) 104 j y) 91 23 w) := ⟨fun q h1 h2 h3 => by rw [stm_ne _ _ _ h1, stm_ne _ _ _ h3, stm_ne _ _ _ h2]; exact h.1 q h1 h2 h3, fun q hq => by rw [stm_row, upd_ne _ _ hq, stm_ne _ _ _ (by decide), stm_ne _ _ _ (by decide)]; exact h.2 q hq⟩
def RepR (σ0 : Mem) (a b : Nat) (Q : List (Nat × Nat)) (σ : Mem) : Prop := RepR0 a b Q σ ∧ Fr9 σ0 σ
theorem RepR_push {σ0 : Mem} {a b : Nat} {Q : List (Nat × Nat)} {σ : Mem} (h : RepR σ0 a b Q σ) (c d : Nat) : RepR σ0 a b (Q ++ [(c, d)]) (stm (stm (stm σ 103 Q.length (nI d)) 104 Q.length (nI (enc a b c))) 91 23 (nI (Q.length + 1))) := ⟨RepR0_push h.1 c d, Fr9_push h.2 _ _ _ _ _⟩
theorem resQ_hit {Q : List (Nat × Nat)} (hn : (Q.map Prod.fst).Nodup) {k w d : Nat} (h : Q[k]? = some (w, d)) : resQ Q w = nI d := by
  unfold resQ
  cases hf : Q.find? (fun r => r.1 == w) with
  | none => exact absurd (List.find?_eq_none.mp hf (w, d) (List.mem_of_getElem? h)) (by simp)
  | some p =>
    have h1 : p.1 = w := by simpa using List.find?_some hf
    obtain ⟨j, hj⟩ := List.getElem?_of_mem (List.mem_of_find?_eq_some hf)
    have hjl := (List.getElem?_eq_some_iff.mp hj).1
    have hkl := (List.getElem?_eq_some_iff.mp h).1
    have e : j = k := by
      have a1 : (Q.map Prod.fst)[j]? = some w := by rw [List.getElem?_map, hj]; simp [h1]
      have a2 : (Q.map Prod.fst)[k]? = some w := by rw [List.getElem?_map, h]; rfl
      exact (List.getElem?_inj (by simpa using hjl) hn).mp (a1.trans a2.symm)
    rw [e, h] at hj
    rw [← Option.some.inj hj]
theorem resQ_miss {Q : List (Nat × Nat)} {w : Nat} (h : w ∉ Q.map Prod.fst) : resQ Q w = -4 := by
  unfold resQ
  cases hf : Q.find? (fun r => r.1 == w) with
  | none => rfl
  | some p =>
    have h1 : p.1 = w := by simpa using List.find?_some hf
    exact absurd (List.mem_map.mpr ⟨p, List.mem_of_find?_eq_some hf, h1⟩) h
end
section
/-! the reference's search: leaves -/
theorem mo_sh : ∀ v, v < 128 → ∀ k, k < 8 → nI (v / 2 ^ k) >>> ((1 : Int32) &&& 31) = nI (v / 2 ^ (k + 1)) := by decide +kernel
theorem mo_le : ∀ v, v < 128 → ∀ k, k < 8 → (nI (v / 2 ^ k) ≤ 1 ↔ Nat.log2 v ≤ k) := by decide +kernel
theorem enc_lt {a b c : Nat} (ha : a ≤ 3) (hb : b ≤ 3) (h : vcd a b c) : enc a b c < 2 ^ 18 := by
  have k := enc_b ha hb h
  unfold enc
  omega
def bB_cX8_manyOf : Nat := 0xac1bf4ffa73d7a041c0101840d00a4041c3d1a3c03
theorem yB_cX8_manyOf : BYS cX8_manyOf 21 bB_cX8_manyOf := BYS_of (by decide +kernel)
theorem dX8_manyOf_0 : decode cX8_manyOf 0 = .ok (.iconst 0, 1) := D_3 yB_cX8_manyOf rfl rfl
theorem dX8_manyOf_1 : decode cX8_manyOf 1 = .ok (.istore_n 1, 1) := D_60 yB_cX8_manyOf rfl rfl
theorem dX8_manyOf_2 : decode cX8_manyOf 2 = .ok (.iload_n 0, 1) := D_26 yB_cX8_manyOf rfl rfl
theorem dX8_manyOf_3 : decode cX8_manyOf 3 = .ok (.istore_n 2, 1) := D_61 yB_cX8_manyOf rfl rfl
theorem dX8_manyOf_4 : decode cX8_manyOf 4 = .ok (.iload_n 2, 1) := D_28 yB_cX8_manyOf rfl rfl
theorem dX8_manyOf_5 : decode cX8_manyOf 5 = .ok (.iconst 1, 1) := D_4 yB_cX8_manyOf rfl rfl
theorem dX8_manyOf_6 : decode cX8_manyOf 6 = .ok (.if_icmp .le 13, 3) := D_164 yB_cX8_manyOf rfl rfl (sg_p (m := 32768) (N := 13) rfl rfl rfl)
theorem dX8_manyOf_9 : decode cX8_manyOf 9 = .ok (.iinc 1 1, 3) := D_132 yB_cX8_manyOf rfl rfl rfl (sg_p (m := 128) (N := 1) rfl rfl rfl)
theorem dX8_manyOf_12 : decode cX8_manyOf 12 = .ok (.iload_n 2, 1) := D_28 yB_cX8_manyOf rfl rfl
theorem dX8_manyOf_13 : decode cX8_manyOf 13 = .ok (.iconst 1, 1) := D_4 yB_cX8_manyOf rfl rfl
theorem dX8_manyOf_14 : decode cX8_manyOf 14 = .ok (.ishr, 1) := D_122 yB_cX8_manyOf rfl rfl
theorem dX8_manyOf_15 : decode cX8_manyOf 15 = .ok (.istore_n 2, 1) := D_61 yB_cX8_manyOf rfl rfl
theorem dX8_manyOf_16 : decode cX8_manyOf 16 = .ok (.goto (-12), 3) := D_167 yB_cX8_manyOf rfl rfl (sg_n (m := 32768) (N := 12) rfl rfl rfl)
theorem dX8_manyOf_19 : decode cX8_manyOf 19 = .ok (.iload_n 1, 1) := D_27 yB_cX8_manyOf rfl rfl
theorem dX8_manyOf_20 : decode cX8_manyOf 20 = .ok (.ireturn, 1) := D_172 yB_cX8_manyOf rfl rfl
set_option maxHeartbeats 4000000 in
set_option maxRecDepth 100000 in
theorem c_X8_manyOf (l : Launch) (D : va_G) (cA : Nat → ClassId) (ad : Nat → Nat) (o : Int64) (σ : Mem) (v : Nat) (hv : v < 128) (sz : Nat) : Met l yX8_manyOf (WY yX8_manyOf cX8_manyOf 3 (some .int)) (RM 0) (va_Pc [.int (nI v)] (PW D cA ad o σ sz)) (va_Qi (fun r σ9 => r = nI (Nat.log2 v) ∧ σ9 = σ) (QW D cA ad o) (FA ad sz)) 0 0 (FA ad sz) := by
  refine ct_of (own := RX8) (k := 0) (Qf := va_Qi (fun r σ9 => r = nI (Nat.log2 v) ∧ σ9 = σ) (QW D cA ad o)) rfl (by decide) (Nat.le_of_ble_eq_true rfl) (fun p e s m below meth c ls C0 X hr hlk hP hl => ?_) sz
  have hS : va_S (FA ad s.heap.size) s.heap s.heap [] := va_S.rf
  have hl : lv_has ls 3 [(0, .int (nI v))] := hl
  obtain ⟨hx, hb, hml, hown, hts⟩ := id C0
  have h7 := ln_lt v hv
  refine lv_iconst (v := 0) hx hb dX8_manyOf_0 (by decide) ?_
  refine lv_istore_n (lv' := [(1, .int 0), (0, .int (nI v))]) hx hb dX8_manyOf_1 rfl hl (by decide) rfl (fun ls hl => ?_)
  refine lv_iload_n hx hb dX8_manyOf_2 rfl (lv_at hl 1 rfl) ?_
  refine lv_istore_n (lv' := [(2, .int (nI v)), (1, .int 0), (0, .int (nI v))]) hx hb dX8_manyOf_3 rfl hl (by decide) rfl (fun ls hl => ?_)
  have lp_1 : ∀ (nn : Nat) (k : Nat) (H : Heap) (locs : List Loc) (ls : Array Slot), k ≤ Nat.log2 v → WP D cA ad o σ H → va_S (FA ad s.heap.size) s.heap H locs → lv_has ls 3 [(1, .int (nI k)), (2, .int (nI (v / 2 ^ k)))] → (7 - k) < nn → W p l e (RM 0) s m ([.int (nI v)] : List Value).toArray below meth c H locs 0 0 (MQ below (va_Qi (fun r σ9 => r = nI (Nat.log2 v) ∧ σ9 = σ) (QW D cA ad o) (FA ad s.heap.size)) ([.int (nI v)] : List Value).toArray s 0 0 (FA ad s.heap.size)) (F0 m 4 ls []) := by
    intro nn
    induction nn with
    | zero => intro k H locs ls hk hP hS hl hn; exact absurd hn (Nat.not_lt_zero _)
    | succ nn ih =>
      intro k H locs ls hk hP hS hl hn
      refine lv_iload_n hx hb dX8_manyOf_4 rfl (lv_at hl 1 rfl) ?_
      refine lv_iconst (v := 1) hx hb dX8_manyOf_5 (by decide) ?_
      refine lv_icmp_le (tgt := 19) hx hb dX8_manyOf_6 (by decide) (fun c_2 => ?_) (fun c_2 => ?_)
      · refine lv_iload_n hx hb dX8_manyOf_19 rfl (lv_at hl 0 rfl) ?_
        exact r_iret C0 X hP hS hr hlk dX8_manyOf_20 ⟨by rw [Nat.le_antisymm hk ((mo_le v hv k (by omega)).mp c_2)], rfl⟩
      · refine lv_iinc (v := (nI (k + 1))) (lv' := [(1, .int (nI (k + 1))), (2, .int (nI (v / 2 ^ k)))]) hx hb dX8_manyOf_9 hl (k := 0) rfl (nI_1 _) (by decide) rfl (fun ls hl => ?_)
        refine lv_iload_n hx hb dX8_manyOf_12 rfl (lv_at hl 1 rfl) ?_
        refine lv_iconst (v := 1) hx hb dX8_manyOf_13 (by decide) ?_
        refine lv_ishr hx hb dX8_manyOf_14 ?_
        refine lv_topE (y := (nI (v / 2 ^ (k + 1)))) (mo_sh v hv k (by omega)) ?_
        refine lv_istore_n (lv' := [(2, .int (nI (v / 2 ^ (k + 1)))), (1, .int (nI (k + 1)))]) hx hb dX8_manyOf_15 rfl hl (by decide) rfl (fun ls hl => ?_)
        refine lv_goto (tgt := 4) hx hb dX8_manyOf_16 (by decide) ?_
        exact ih (k + 1) _ _ ls (by have h9 : ¬ Nat.log2 v ≤ k := (fun q => c_2 ((mo_le v hv k (by omega)).mpr q)); omega) hP hS (lv_sub hl [1, 0] rfl) (by omega)
  exact lp_1 ((7 - 0) + 1) 0 _ _ ls (Nat.zero_le _) hP hS (lv_sub hl [1, 0] (by simp only [Nat.pow_zero, Nat.div_one]; rfl)) (by omega)
def bB_cX8_reaches : Nat := 0xb10c01b560040c01b4592a4f06150c01b42a2e00b42a4f600405150c01b42a2b00b42ae7ffa7010784b10400a006152e07152e00b42a1600a20c01b42a071507360306366004156068071d681010601c688000111b
theorem yB_cX8_reaches : BYS cX8_reaches 85 bB_cX8_reaches := BYS_of (by decide +kernel)
theorem dX8_reaches_0 : decode cX8_reaches 0 = .ok (.iload_n 1, 1) := D_27 yB_cX8_reaches rfl rfl
theorem dX8_reaches_1 : decode cX8_reaches 1 = .ok (.sipush 128, 3) := D_17 yB_cX8_reaches rfl rfl (sg_p (m := 32768) (N := 128) rfl rfl rfl)
theorem dX8_reaches_4 : decode cX8_reaches 4 = .ok (.imul, 1) := D_104 yB_cX8_reaches rfl rfl
theorem dX8_reaches_5 : decode cX8_reaches 5 = .ok (.iload_n 2, 1) := D_28 yB_cX8_reaches rfl rfl
theorem dX8_reaches_6 : decode cX8_reaches 6 = .ok (.iadd, 1) := D_96 yB_cX8_reaches rfl rfl
theorem dX8_reaches_7 : decode cX8_reaches 7 = .ok (.bipush 16, 2) := D_16 yB_cX8_reaches rfl rfl (sg_p (m := 128) (N := 16) rfl rfl rfl)
theorem dX8_reaches_9 : decode cX8_reaches 9 = .ok (.imul, 1) := D_104 yB_cX8_reaches rfl rfl
theorem dX8_reaches_10 : decode cX8_reaches 10 = .ok (.iload_n 3, 1) := D_29 yB_cX8_reaches rfl rfl
theorem dX8_reaches_11 : decode cX8_reaches 11 = .ok (.iconst 4, 1) := D_7 yB_cX8_reaches rfl rfl
theorem dX8_reaches_12 : decode cX8_reaches 12 = .ok (.imul, 1) := D_104 yB_cX8_reaches rfl rfl
theorem dX8_reaches_13 : decode cX8_reaches 13 = .ok (.iadd, 1) := D_96 yB_cX8_reaches rfl rfl
theorem dX8_reaches_14 : decode cX8_reaches 14 = .ok (.iload 4, 2) := D_21 yB_cX8_reaches rfl rfl rfl
theorem dX8_reaches_16 : decode cX8_reaches 16 = .ok (.iadd, 1) := D_96 yB_cX8_reaches rfl rfl
theorem dX8_reaches_17 : decode cX8_reaches 17 = .ok (.istore 6, 2) := D_54 yB_cX8_reaches rfl rfl rfl
theorem dX8_reaches_19 : decode cX8_reaches 19 = .ok (.iconst 0, 1) := D_3 yB_cX8_reaches rfl rfl
theorem dX8_reaches_20 : decode cX8_reaches 20 = .ok (.istore 7, 2) := D_54 yB_cX8_reaches rfl rfl rfl
theorem dX8_reaches_22 : decode cX8_reaches 22 = .ok (.iload 7, 2) := D_21 yB_cX8_reaches rfl rfl rfl
theorem dX8_reaches_24 : decode cX8_reaches 24 = .ok (.aload_n 0, 1) := D_42 yB_cX8_reaches rfl rfl
theorem dX8_reaches_25 : decode cX8_reaches 25 = .ok (.getfield 268, 3) := D_180 yB_cX8_reaches rfl rfl rfl
theorem dX8_reaches_28 : decode cX8_reaches 28 = .ok (.if_icmp .ge 22, 3) := D_162 yB_cX8_reaches rfl rfl (sg_p (m := 32768) (N := 22) rfl rfl rfl)
theorem dX8_reaches_31 : decode cX8_reaches 31 = .ok (.aload_n 0, 1) := D_42 yB_cX8_reaches rfl rfl
theorem dX8_reaches_32 : decode cX8_reaches 32 = .ok (.getfield 46, 3) := D_180 yB_cX8_reaches rfl rfl rfl
theorem dX8_reaches_35 : decode cX8_reaches 35 = .ok (.iload 7, 2) := D_21 yB_cX8_reaches rfl rfl rfl
theorem dX8_reaches_37 : decode cX8_reaches 37 = .ok (.iaload, 1) := D_46 yB_cX8_reaches rfl rfl
theorem dX8_reaches_38 : decode cX8_reaches 38 = .ok (.iload 6, 2) := D_21 yB_cX8_reaches rfl rfl rfl
theorem dX8_reaches_40 : decode cX8_reaches 40 = .ok (.if_icmp .ne 4, 3) := D_160 yB_cX8_reaches rfl rfl (sg_p (m := 32768) (N := 4) rfl rfl rfl)
theorem dX8_reaches_43 : decode cX8_reaches 43 = .ok (.return_, 1) := D_177 yB_cX8_reaches rfl rfl
theorem dX8_reaches_44 : decode cX8_reaches 44 = .ok (.iinc 7 1, 3) := D_132 yB_cX8_reaches rfl rfl rfl (sg_p (m := 128) (N := 1) rfl rfl rfl)
theorem dX8_reaches_47 : decode cX8_reaches 47 = .ok (.goto (-25), 3) := D_167 yB_cX8_reaches rfl rfl (sg_n (m := 32768) (N := 25) rfl rfl rfl)
theorem dX8_reaches_50 : decode cX8_reaches 50 = .ok (.aload_n 0, 1) := D_42 yB_cX8_reaches rfl rfl
theorem dX8_reaches_51 : decode cX8_reaches 51 = .ok (.getfield 43, 3) := D_180 yB_cX8_reaches rfl rfl rfl
theorem dX8_reaches_54 : decode cX8_reaches 54 = .ok (.aload_n 0, 1) := D_42 yB_cX8_reaches rfl rfl
theorem dX8_reaches_55 : decode cX8_reaches 55 = .ok (.getfield 268, 3) := D_180 yB_cX8_reaches rfl rfl rfl
theorem dX8_reaches_58 : decode cX8_reaches 58 = .ok (.iload 5, 2) := D_21 yB_cX8_reaches rfl rfl rfl
theorem dX8_reaches_60 : decode cX8_reaches 60 = .ok (.iconst 1, 1) := D_4 yB_cX8_reaches rfl rfl
theorem dX8_reaches_61 : decode cX8_reaches 61 = .ok (.iadd, 1) := D_96 yB_cX8_reaches rfl rfl
theorem dX8_reaches_62 : decode cX8_reaches 62 = .ok (.iastore, 1) := D_79 yB_cX8_reaches rfl rfl
theorem dX8_reaches_63 : decode cX8_reaches 63 = .ok (.aload_n 0, 1) := D_42 yB_cX8_reaches rfl rfl
theorem dX8_reaches_64 : decode cX8_reaches 64 = .ok (.getfield 46, 3) := D_180 yB_cX8_reaches rfl rfl rfl
theorem dX8_reaches_67 : decode cX8_reaches 67 = .ok (.aload_n 0, 1) := D_42 yB_cX8_reaches rfl rfl
theorem dX8_reaches_68 : decode cX8_reaches 68 = .ok (.getfield 268, 3) := D_180 yB_cX8_reaches rfl rfl rfl
theorem dX8_reaches_71 : decode cX8_reaches 71 = .ok (.iload 6, 2) := D_21 yB_cX8_reaches rfl rfl rfl
theorem dX8_reaches_73 : decode cX8_reaches 73 = .ok (.iastore, 1) := D_79 yB_cX8_reaches rfl rfl
theorem dX8_reaches_74 : decode cX8_reaches 74 = .ok (.aload_n 0, 1) := D_42 yB_cX8_reaches rfl rfl
theorem dX8_reaches_75 : decode cX8_reaches 75 = .ok (.dup, 1) := D_89 yB_cX8_reaches rfl rfl
theorem dX8_reaches_76 : decode cX8_reaches 76 = .ok (.getfield 268, 3) := D_180 yB_cX8_reaches rfl rfl rfl
theorem dX8_reaches_79 : decode cX8_reaches 79 = .ok (.iconst 1, 1) := D_4 yB_cX8_reaches rfl rfl
theorem dX8_reaches_80 : decode cX8_reaches 80 = .ok (.iadd, 1) := D_96 yB_cX8_reaches rfl rfl
theorem dX8_reaches_81 : decode cX8_reaches 81 = .ok (.putfield 268, 3) := D_181 yB_cX8_reaches rfl rfl rfl
theorem dX8_reaches_84 : decode cX8_reaches 84 = .ok (.return_, 1) := D_177 yB_cX8_reaches rfl rfl
set_option maxHeartbeats 4000000 in
set_option maxRecDepth 100000 in
theorem c_X8_reaches (l : Launch) (D : va_G) (cA : Nat → ClassId) (ad : Nat → Nat) (o : Int64) (σ0 : Mem) (σ : Mem) (Q : List (Nat × Nat)) (on : Nat) (ot : Nat) (xx : Nat) (yy : Nat) (fr : Int32) (a : Nat) (b : Nat) (c0 : Nat) (d : Nat) (ha : a ≤ 3) (hb3 : b ≤ 3) (hR : RepR σ0 a b Q σ) (hQ : QG a b Q) (hc0 : vcd a b c0) (he : (on * 128 + ot) * 16 + xx * 4 + yy = enc a b c0) (hfr : fr + 1 = nI d) (sz : Nat) : Met l yX8_reaches (WY yX8_reaches cX8_reaches 8 none) (RM 0) (va_Pc [.ref (ad 91), .int (nI on), .int (nI ot), .int (nI xx), .int (nI yy), .int fr] (PW D cA ad o σ sz)) (va_Qv (fun σ9 => RepR σ0 a b (pushQ Q c0 d) σ9) (QW D cA ad o) (FA ad sz)) 0 0 (FA ad sz) := by
  refine ct_of (own := RX8) (k := 0) (Qf := va_Qv (fun σ9 => RepR σ0 a b (pushQ Q c0 d) σ9) (QW D cA ad o)) rfl (by decide) (Nat.le_of_ble_eq_true rfl) (fun p e s m below meth c ls C0 X hr hlk hP hl => ?_) sz
  have hS : va_S (FA ad s.heap.size) s.heap s.heap [] := va_S.rf
  have hl : lv_has ls 8 [(0, .ref (ad 91)), (1, .int (nI on)), (2, .int (nI ot)), (3, .int (nI xx)), (4, .int (nI yy)), (5, .int fr)] := hl
  obtain ⟨hx, hb, hml, hown, hts⟩ := id C0
  have hL9 := QG_len ha hb3 hQ
  refine lv_iload_n hx hb dX8_reaches_0 rfl (lv_at hl 1 rfl) ?_
  refine lv_sipush (v := 128) hx hb dX8_reaches_1 (by decide) ?_
  refine lv_imul hx hb dX8_reaches_4 ?_
  refine lv_topE (y := (nI (on * 128))) (pk_mul on 128) ?_
  refine lv_iload_n hx hb dX8_reaches_5 rfl (lv_at hl 2 rfl) ?_
  refine lv_iadd hx hb dX8_reaches_6 ?_
  refine lv_topE (y := (nI (on * 128 + ot))) (nI_add _ _) ?_
  refine lv_bipush (v := 16) hx hb dX8_reaches_7 (by decide) ?_
  refine lv_imul hx hb dX8_reaches_9 ?_
  refine lv_topE (y := (nI ((on * 128 + ot) * 16))) (pk_mul _ 16) ?_
  refine lv_iload_n hx hb dX8_reaches_10 rfl (lv_at hl 3 rfl) ?_
  refine lv_iconst (v := 4) hx hb dX8_reaches_11 (by decide) ?_
  refine lv_imul hx hb dX8_reaches_12 ?_
  refine lv_topE (y := (nI (xx * 4))) (pk_mul xx 4) ?_
  refine lv_iadd hx hb dX8_reaches_13 ?_
  refine lv_topE (y := (nI ((on * 128 + ot) * 16 + xx * 4))) (nI_add _ _) ?_
  refine lv_iload hx hb dX8_reaches_14 (lv_at hl 4 rfl) ?_
  refine lv_iadd hx hb dX8_reaches_16 ?_
  refine lv_topE (y := (nI (enc a b c0))) (by rw [nI_add, he]) ?_
  refine lv_istore (lv' := [(6, .int (nI (enc a b c0))), (0, .ref (ad 91)), (1, .int (nI on)), (2, .int (nI ot)), (3, .int (nI xx)), (4, .int (nI yy)), (5, .int fr)]) hx hb dX8_reaches_17 hl (by decide) rfl (fun ls hl => ?_)
  refine lv_iconst (v := 0) hx hb dX8_reaches_19 (by decide) ?_
  refine lv_istore (lv' := [(7, .int 0), (6, .int (nI (enc a b c0))), (0, .ref (ad 91)), (1, .int (nI on)), (2, .int (nI ot)), (3, .int (nI xx)), (4, .int (nI yy)), (5, .int fr)]) hx hb dX8_reaches_20 hl (by decide) rfl (fun ls hl => ?_)
  have lp_1 : ∀ (nn : Nat) (i : Nat) (H : Heap) (locs : List Loc) (ls : Array Slot), i ≤ Q.length → (∀ j c d : Nat, j < i → Q[j]? = some (c, d) → c ≠ c0) → WP D cA ad o σ H → va_S (FA ad s.heap.size) s.heap H locs → lv_has ls 8 [(0, .ref (ad 91)), (5, .int fr), (6, .int (nI (enc a b c0))), (7, .int (nI i))] → (513 - i) < nn → W p l e (RM 0) s m ([.ref (ad 91), .int (nI on), .int (nI ot), .int (nI xx), .int (nI yy), .int fr] : List Value).toArray below meth c H locs 0 0 (MQ below (va_Qv (fun σ9 => RepR σ0 a b (pushQ Q c0 d) σ9) (QW D cA ad o) (FA ad s.heap.size)) ([.ref (ad 91), .int (nI on), .int (nI ot), .int (nI xx), .int (nI yy), .int fr] : List Value).toArray s 0 0 (FA ad s.heap.size)) (F0 m 22 ls []) := by
    intro nn
    induction nn with
    | zero => intro i H locs ls hi hno hP hS hl hn; exact absurd hn (Nat.not_lt_zero _)
    | succ nn ih =>
      intro i H locs ls hi hno hP hS hl hn
      refine lv_iload hx hb dX8_reaches_22 (lv_at hl 3 rfl) ?_
      refine lv_aload_n hx hb dX8_reaches_24 rfl (lv_at hl 0 rfl) ?_
      refine gf_X8_268 C0 X hP 91 ⟨by decide, rfl⟩ dX8_reaches_25 ?_
      refine lv_topE (y := (nI Q.length)) hR.1.1 ?_
      refine lv_icmp_ge (tgt := 50) hx hb dX8_reaches_28 (by decide) (fun c_2 => ?_) (fun c_2 => ?_)
      · obtain rfl : i = Q.length := nI_geof c_2 hi (by omega)
        have hnq : c0 ∉ Q.map Prod.fst := fun hm => by obtain ⟨k9, d9, hg9⟩ := mem_fst hm; exact hno k9 c0 d9 (List.getElem?_eq_some_iff.mp hg9).1 hg9 rfl
        refine lv_aload_n hx hb dX8_reaches_50 rfl (lv_at hl 0 rfl) ?_
        refine gf_X8_43 C0 X hP 91 (q := 103) ⟨by decide, rfl⟩ (by omega) rfl dX8_reaches_51 ?_
        refine lv_aload_n hx hb dX8_reaches_54 rfl (lv_at hl 0 rfl) ?_
        refine gf_X8_268 C0 X hP 91 ⟨by decide, rfl⟩ dX8_reaches_55 ?_
        refine lv_topE (y := (nI Q.length)) hR.1.1 ?_
        refine lv_iload hx hb dX8_reaches_58 (lv_at hl 1 rfl) ?_
        refine lv_iconst (v := 1) hx hb dX8_reaches_60 (by decide) ?_
        refine lv_iadd hx hb dX8_reaches_61 ?_
        refine lv_topE (y := (nI d)) hfr ?_
        refine r_iastN C0 X hP hS 103 (k := Q.length) ⟨by decide, rfl⟩ rfl (by omega) dX8_reaches_62 (fun H locs hP hS => ?_)
        refine lv_aload_n hx hb dX8_reaches_63 rfl (lv_at hl 0 rfl) ?_
        refine gf_X8_46 C0 X hP 91 (q := 104) ⟨by decide, rfl⟩ (by omega) rfl dX8_reaches_64 ?_
        refine lv_aload_n hx hb dX8_reaches_67 rfl (lv_at hl 0 rfl) ?_
        refine gf_X8_268 C0 X hP 91 ⟨by decide, rfl⟩ dX8_reaches_68 ?_
        refine lv_topE (y := (nI Q.length)) (by rw [stm_ne _ _ _ (by decide)]; exact hR.1.1) ?_
        refine lv_iload hx hb dX8_reaches_71 (lv_at hl 2 rfl) ?_
        refine r_iastN C0 X hP hS 104 (k := Q.length) ⟨by decide, rfl⟩ rfl (by omega) dX8_reaches_73 (fun H locs hP hS => ?_)
        refine lv_aload_n hx hb dX8_reaches_74 rfl (lv_at hl 0 rfl) ?_
        refine lv_dup hx hb dX8_reaches_75 rfl ?_
        refine gf_X8_268 C0 X hP 91 ⟨by decide, rfl⟩ dX8_reaches_76 ?_
        refine lv_topE (y := (nI Q.length)) (by rw [stm_ne _ _ _ (by decide), stm_ne _ _ _ (by decide)]; exact hR.1.1) ?_
        refine lv_iconst (v := 1) hx hb dX8_reaches_79 (by decide) ?_
        refine lv_iadd hx hb dX8_reaches_80 ?_
        refine lv_topE (y := (nI (Q.length + 1))) (nI_1 _) ?_
        refine pf_X8_268 C0 X hP hS 91 ⟨by decide, rfl⟩ dX8_reaches_81 (fun H locs hP hS => ?_)
        exact r_vret C0 X hP hS hr hlk dX8_reaches_84 (by rw [pushQ, if_neg hnq]; exact RepR_push hR c0 d)
      · have hi2 : i < Q.length := nI_lt_of c_2 (by omega)
        obtain ⟨c9, d9, hg⟩ := getQ hi2
        have hk9 := hR.1.2 i c9 d9 hg
        have hv9 := hQ.2 c9 (List.mem_map.mpr ⟨(c9, d9), List.mem_of_getElem? hg, rfl⟩)
        refine lv_aload_n hx hb dX8_reaches_31 rfl (lv_at hl 0 rfl) ?_
        refine gf_X8_46 C0 X hP 91 (q := 104) ⟨by decide, rfl⟩ (by omega) rfl dX8_reaches_32 ?_
        refine lv_iload hx hb dX8_reaches_35 (lv_at hl 3 rfl) ?_
        refine r_ialdN C0 X hP 104 (k := i) ⟨by decide, rfl⟩ rfl (by omega) dX8_reaches_37 ?_
        refine lv_topE (y := (nI (enc a b c9))) hk9.1 ?_
        refine lv_iload hx hb dX8_reaches_38 (lv_at hl 2 rfl) ?_
        refine lv_icmp_ne (tgt := 44) hx hb dX8_reaches_40 (by decide) (fun c_3 => ?_) (fun c_3 => ?_)
        · have hne9 : c9 ≠ c0 := fun e9 => c_3 (by rw [e9])
          refine lv_iinc (v := (nI (i + 1))) (lv' := [(7, .int (nI (i + 1))), (0, .ref (ad 91)), (5, .int fr), (6, .int (nI (enc a b c0)))]) hx hb dX8_reaches_44 hl (k := 3) rfl (nI_1 _) (by decide) rfl (fun ls hl => ?_)
          refine lv_goto (tgt := 22) hx hb dX8_reaches_47 (by decide) ?_
          exact ih (i + 1) _ _ ls hi2 (fun j c d hj hg9 => by rcases (show j < i ∨ j = i by omega) with h | rfl; exact hno j c d h hg9; exact fun e9 => hne9 (by rw [hg] at hg9; rw [(Prod.mk.inj (Option.some.inj hg9)).1]; exact e9)) hP hS (lv_sub hl [1, 2, 3, 0] rfl) (by omega)
        · exact r_vret C0 X hP hS hr hlk dX8_reaches_43 (by rw [pushQ, if_pos (by rw [← enc_inj ha hb3 hv9 hc0 ((nI_eq (Nat.lt_trans (enc_lt ha hb3 hv9) (by decide)) (Nat.lt_trans (enc_lt ha hb3 hc0) (by decide))).mp c_3)]; exact List.mem_map.mpr ⟨(c9, d9), List.mem_of_getElem? hg, rfl⟩)]; exact hR)
  exact lp_1 ((513 - 0) + 1) 0 _ _ ls (Nat.zero_le _) (fun j c d h => absurd h (Nat.not_lt_zero _)) hP hS (lv_sub hl [2, 7, 1, 0] rfl) (by omega)
end
section
/-! each move of the reference makes the state of the class's code -/
theorem enc_mk (a b : Nat) {br ln : Nat} (hl : ln < 128) : enc a b (br * 128 + ln) = (oneN ln (Nat.log2 ln - br) * 128 + othN ln (Nat.log2 ln - br)) * 16 + (a - (pcN ln - 1)) * 4 + (b - (Nat.log2 ln - (pcN ln - 1))) := by
  have e1 : (br * 128 + ln) / 128 = br := by omega
  have e2 : (br * 128 + ln) % 128 = ln := by omega
  unfold enc eyN xN yN
  rw [e1, e2]
theorem mv1 {a b c : Nat} (h : vcd a b c) (hp : 0 < c / 128) : (oneN (c % 128) (eyN c) / 2 * 128 + (2 * othN (c % 128) (eyN c) + oneN (c % 128) (eyN c) % 2)) * 16 + xN a c * 4 + yN b c = enc a b ((c / 128 - 1) * 128 + c % 128) := by
  have hl : c % 128 < 128 := Nat.mod_lt _ (by decide)
  have h7 := ln_lt _ hl
  have hv := h.2.1
  have f := en_1 _ hl (eyN c) (by unfold eyN; omega) ⟨h.2.2.1, by unfold eyN; omega⟩
  rw [enc_mk a b hl, show Nat.log2 (c % 128) - (c / 128 - 1) = eyN c + 1 by unfold eyN; omega, f.1, f.2]
  rfl
theorem mv2 {a b c : Nat} (h : vcd a b c) (hp : 0 < eyN c) : (2 * oneN (c % 128) (eyN c) + othN (c % 128) (eyN c) % 2) * 128 * 16 + othN (c % 128) (eyN c) / 2 * 16 + xN a c * 4 + yN b c = enc a b ((c / 128 + 1) * 128 + c % 128) := by
  have hl : c % 128 < 128 := Nat.mod_lt _ (by decide)
  have h7 := ln_lt _ hl
  have hv := h.2.1
  have f := en_2 _ hl (eyN c) (by unfold eyN; omega) ⟨h.2.2.1, by unfold eyN; omega, hp⟩
  rw [enc_mk a b hl, show Nat.log2 (c % 128) - (c / 128 + 1) = eyN c - 1 by unfold eyN; omega, f.1, f.2]
  unfold xN yN
  omega
theorem mv3 {a b c : Nat} (h : vcd a b c) (hp : 0 < c / 128) : (oneN (c % 128) (eyN c) / 2 * 128 + othN (c % 128) (eyN c)) * 16 + (xN a c + 1 - oneN (c % 128) (eyN c) % 2) * 4 + (yN b c + oneN (c % 128) (eyN c) % 2) = enc a b ((c / 128 - 1) * 128 + woN (c % 128) (Nat.log2 (c % 128) - c / 128)) := by
  have hl : c % 128 < 128 := Nat.mod_lt _ (by decide)
  have h7 := ln_lt _ hl
  have hv := h.2
  have hey : Nat.log2 (c % 128) - c / 128 = eyN c := rfl
  have f := en_3 _ hl (eyN c) (by unfold eyN; omega) ⟨h.2.2.1, by unfold eyN; omega⟩
  have g := ln_f2 _ hl (eyN c) (by unfold eyN; omega) (by unfold eyN; omega)
  have g4 := ln_f4 _ hl (eyN c) (by unfold eyN; omega) (by unfold eyN; omega)
  have hpc := ln_f1 _ hl h.2.2.1
  have hpw := ln_f1 _ g.1 g.2.1
  rw [hey, enc_mk a b g.1, show Nat.log2 (woN (c % 128) (eyN c)) - (c / 128 - 1) = eyN c by rw [g.2.2.1]; unfold eyN; omega, f.1, f.2.1, g.2.2.1, g.2.2.2, f.2.2]
  rw [g.2.2.2, f.2.2] at hpw g4
  have hm : oneN (c % 128) (eyN c) % 2 < 2 := Nat.mod_lt _ (by decide)
  unfold xN yN
  rcases (show oneN (c % 128) (eyN c) % 2 = 0 ∨ oneN (c % 128) (eyN c) % 2 = 1 by omega) with e | e <;> rw [e] at hpw g4 ⊢ <;> omega
theorem mv4 {a b c : Nat} (h : vcd a b c) (hp : 0 < eyN c) : (oneN (c % 128) (eyN c) * 128 + othN (c % 128) (eyN c) / 2) * 16 + (xN a c + 1 - othN (c % 128) (eyN c) % 2) * 4 + (yN b c + othN (c % 128) (eyN c) % 2) = enc a b (c / 128 * 128 + woN (c % 128) (Nat.log2 (c % 128) - c / 128 - 1)) := by
  have hl : c % 128 < 128 := Nat.mod_lt _ (by decide)
  have h7 := ln_lt _ hl
  have hv := h.2
  have hey : Nat.log2 (c % 128) - c / 128 = eyN c := rfl
  have f := en_4 _ hl (eyN c) (by unfold eyN; omega) ⟨h.2.2.1, by unfold eyN; omega, hp⟩
  have g := ln_f2 _ hl (eyN c - 1) (by unfold eyN; omega) (by unfold eyN at hp ⊢; omega)
  have g4 := ln_f4 _ hl (eyN c - 1) (by unfold eyN; omega) (by unfold eyN at hp ⊢; omega)
  have hpc := ln_f1 _ hl h.2.2.1
  have hpw := ln_f1 _ g.1 g.2.1
  rw [hey, enc_mk a b g.1, show Nat.log2 (woN (c % 128) (eyN c - 1)) - c / 128 = eyN c - 1 by rw [g.2.2.1]; unfold eyN; omega, f.1, f.2.1, g.2.2.1, g.2.2.2, f.2.2]
  rw [g.2.2.2, f.2.2] at hpw g4
  have hm : othN (c % 128) (eyN c) % 2 < 2 := Nat.mod_lt _ (by decide)
  unfold xN yN
  rcases (show othN (c % 128) (eyN c) % 2 = 0 ∨ othN (c % 128) (eyN c) % 2 = 1 by omega) with e | e <;> rw [e] at hpw g4 ⊢ <;> omega
theorem v6 {a b c : Nat} (ha : a ≤ 3) (hb : b ≤ 3) (h : vcd a b c) (hx : 0 < xN a c ∨ 0 < yN b c) : Nat.log2 (c % 128) < 6 := by
  have hl : c % 128 < 128 := Nat.mod_lt _ (by decide)
  have hpc := ln_f1 _ hl h.2.2.1
  have hv := h.2.2.2
  unfold xN yN at hx
  omega
theorem mv5 {a b c : Nat} (ha : a ≤ 3) (hb : b ≤ 3) (h : vcd a b c) (hx : 0 < xN a c) : (2 * oneN (c % 128) (eyN c) * 128 + othN (c % 128) (eyN c)) * 16 + (xN a c - 1) * 4 + yN b c = enc a b ((c / 128 + 1) * 128 + lgN (c % 128) (Nat.log2 (c % 128) - c / 128) 1) := by
  have hl : c % 128 < 128 := Nat.mod_lt _ (by decide)
  have h7 := ln_lt _ hl
  have hv := h.2.1
  have h6 := v6 ha hb h (Or.inl hx)
  have hey : Nat.log2 (c % 128) - c / 128 = eyN c := rfl
  have hpc := ln_f1 _ hl h.2.2.1
  have f := en_5 _ hl (eyN c) (by unfold eyN; omega) ⟨h.2.2.1, by unfold eyN; omega, h6⟩
  have g := ln_f3b _ hl (eyN c) (by unfold eyN; omega) ⟨h.2.2.1, by unfold eyN; omega, h6⟩
  rw [hey, enc_mk a b g.1, show Nat.log2 (lgN (c % 128) (eyN c) 1) - (c / 128 + 1) = eyN c by rw [g.2.2.1]; unfold eyN; omega, f.1, f.2, g.2.2.1, g.2.2.2]
  unfold xN yN at *
  omega
theorem mv6 {a b c : Nat} (ha : a ≤ 3) (hb : b ≤ 3) (h : vcd a b c) (hx : 0 < xN a c) : (oneN (c % 128) (eyN c) * 128 + 2 * othN (c % 128) (eyN c)) * 16 + (xN a c - 1) * 4 + yN b c = enc a b (c / 128 * 128 + lgN (c % 128) (Nat.log2 (c % 128) - c / 128) 1) := by
  have hl : c % 128 < 128 := Nat.mod_lt _ (by decide)
  have h7 := ln_lt _ hl
  have hv := h.2.1
  have h6 := v6 ha hb h (Or.inl hx)
  have hey : Nat.log2 (c % 128) - c / 128 = eyN c := rfl
  have hpc := ln_f1 _ hl h.2.2.1
  have f := en_6 _ hl (eyN c) (by unfold eyN; omega) ⟨h.2.2.1, by unfold eyN; omega, h6⟩
  have g := ln_f3b _ hl (eyN c) (by unfold eyN; omega) ⟨h.2.2.1, by unfold eyN; omega, h6⟩
  rw [hey, enc_mk a b g.1, show Nat.log2 (lgN (c % 128) (eyN c) 1) - c / 128 = eyN c + 1 by rw [g.2.2.1]; unfold eyN; omega, f.1, f.2, g.2.2.1, g.2.2.2]
  unfold xN yN at *
  omega
theorem mv7 {a b c : Nat} (ha : a ≤ 3) (hb : b ≤ 3) (h : vcd a b c) (hx : 0 < yN b c) : ((2 * oneN (c % 128) (eyN c) + 1) * 128 + othN (c % 128) (eyN c)) * 16 + xN a c * 4 + (yN b c - 1) = enc a b ((c / 128 + 1) * 128 + lgN (c % 128) (Nat.log2 (c % 128) - c / 128) 0) := by
  have hl : c % 128 < 128 := Nat.mod_lt _ (by decide)
  have h7 := ln_lt _ hl
  have hv := h.2.1
  have h6 := v6 ha hb h (Or.inr hx)
  have hey : Nat.log2 (c % 128) - c / 128 = eyN c := rfl
  have hpc := ln_f1 _ hl h.2.2.1
  have f := en_7 _ hl (eyN c) (by unfold eyN; omega) ⟨h.2.2.1, by unfold eyN; omega, h6⟩
  have g := ln_f3a _ hl (eyN c) (by unfold eyN; omega) ⟨h.2.2.1, by unfold eyN; omega, h6⟩
  rw [hey, enc_mk a b g.1, show Nat.log2 (lgN (c % 128) (eyN c) 0) - (c / 128 + 1) = eyN c by rw [g.2.2.1]; unfold eyN; omega, f.1, f.2, g.2.2.1, g.2.2.2]
  unfold xN yN at *
  omega
theorem mv8 {a b c : Nat} (ha : a ≤ 3) (hb : b ≤ 3) (h : vcd a b c) (hx : 0 < yN b c) : (oneN (c % 128) (eyN c) * 128 + (2 * othN (c % 128) (eyN c) + 1)) * 16 + xN a c * 4 + (yN b c - 1) = enc a b (c / 128 * 128 + lgN (c % 128) (Nat.log2 (c % 128) - c / 128) 0) := by
  have hl : c % 128 < 128 := Nat.mod_lt _ (by decide)
  have h7 := ln_lt _ hl
  have hv := h.2.1
  have h6 := v6 ha hb h (Or.inr hx)
  have hey : Nat.log2 (c % 128) - c / 128 = eyN c := rfl
  have hpc := ln_f1 _ hl h.2.2.1
  have f := en_8 _ hl (eyN c) (by unfold eyN; omega) ⟨h.2.2.1, by unfold eyN; omega, h6⟩
  have g := ln_f3a _ hl (eyN c) (by unfold eyN; omega) ⟨h.2.2.1, by unfold eyN; omega, h6⟩
  rw [hey, enc_mk a b g.1, show Nat.log2 (lgN (c % 128) (eyN c) 0) - c / 128 = eyN c + 1 by rw [g.2.2.1]; unfold eyN; omega, f.1, f.2, g.2.2.1, g.2.2.2]
  unfold xN yN at *
  omega
end
section
/-! the reference's search is the pure one -/
theorem sh_1 : ∀ a, a < 4 → (1 : Int32) <<< (nI a &&& 31) = nI (2 ^ a) := by decide +kernel
theorem sh_2 : ∀ b, b < 4 → (2 : Int32) <<< (nI b &&& 31) = nI (2 ^ (b + 1)) := by decide +kernel
theorem pw_1 : ∀ a, a < 4 → (2 ^ a ≤ 8 ∧ 2 ^ (a + 1) ≤ 16) := by decide +kernel
theorem shr1 : ∀ v, v < 128 → nI v >>> ((1 : Int32) &&& 31) = nI (v / 2) := by decide +kernel
theorem and1 : ∀ v, v < 128 → nI v &&& 1 = nI (v % 2) := by decide +kernel
theorem pk_div16 {n : Nat} (h : n < 2 ^ 31) : nI n / 16 = nI (n / 16) := pk_div (d := 16) h (by decide) (by decide)
theorem pk_div4 {n : Nat} (h : n < 2 ^ 31) : nI n / 4 = nI (n / 4) := pk_div (d := 4) h (by decide) (by decide)
theorem pk_rem4 {n : Nat} (h : n < 2 ^ 31) : nI n - nI n / 4 * 4 = nI (n % 4) := pk_rem (d := 4) h (by decide) (by decide)
theorem RepR_0 (a b : Nat) (σ : Mem) : RepR σ a b [] (stm σ 91 23 0) := ⟨⟨by simp [stm, upd]; rfl, fun k c d h => by simp at h⟩, fun i h1 _ _ => stm_ne _ _ _ h1, fun j hj => by rw [stm_row, upd_ne _ _ hj]⟩
theorem QG_0 (a b : Nat) : QG a b [] := ⟨List.nodup_nil, fun c h => absurd h List.not_mem_nil⟩
theorem st_vcd {a b : Nat} (ha : a ≤ 3) (hb : b ≤ 3) : vcd a b (stC a b) := ⟨(st_lt a (by omega) b (by omega)).1, (st_v1 a (by omega) b (by omega)).1, (st_v1 a (by omega) b (by omega)).2, st_v2 a (by omega) b (by omega)⟩
theorem QB_g {a b q x z : Nat} (ha : a ≤ 3) (hb : b ≤ 3) (hx : x ≤ 6) (i : Nat) : QG a b (QB a b q x z i) := by
  refine ⟨?_, QB_v ha hb hx i⟩
  induction i with
  | zero => simp [QB]
  | succ i ih =>
    rw [QB, procQ]
    split
    · exact ih
    · exact foldQ_nd _ _ _ ih
theorem QB_no {a b q x z i w c9 d9 : Nat} (hg : (QB a b q x z i)[i]? = some (c9, d9)) (hne : c9 ≠ w) (hno : ∀ j c d : Nat, j < i → (QB a b q x z i)[j]? = some (c, d) → c ≠ w) : ∀ j c d : Nat, j < i + 1 → (QB a b q x z (i + 1))[j]? = some (c, d) → c ≠ w := by
  intro j c d hj hk
  obtain ⟨R, hR⟩ := QB_pre a b q x z i 1
  have hil := (List.getElem?_eq_some_iff.mp hg).1
  rw [hR, List.getElem?_append_left (by omega)] at hk
  rcases (show j < i ∨ j = i by omega) with h | rfl
  · exact hno j c d h hk
  · rw [hg] at hk
    rw [← (Prod.mk.inj (Option.some.inj hk)).1]
    exact hne
def m5a (a x br ln : Nat) : List Nat := if pcN ln - 1 < a then cb1 x br ln 1 else []
def m5b (a z br ln : Nat) : List Nat := if pcN ln - 1 < a then cb2 z br ln 1 else []
def m6a (b x br ln : Nat) : List Nat := if Nat.log2 ln - (pcN ln - 1) < b then cb1 x br ln 0 else []
def m6b (b z br ln : Nat) : List Nat := if Nat.log2 ln - (pcN ln - 1) < b then cb2 z br ln 0 else []
theorem nbrL_eq (a b q x z br ln : Nat) : nbrL a b q x z br ln = mm1 z br ln ++ mm2 x br ln ++ mm3 a b q br ln ++ mm4 a b q br ln ++ m5a a x br ln ++ m5b a z br ln ++ m6a b x br ln ++ m6b b z br ln := by
  have e5 : mm5 a x z br ln = m5a a x br ln ++ m5b a z br ln := by unfold mm5 m5a m5b; split <;> rfl
  have e6 : mm6 b x z br ln = m6a b x br ln ++ m6b b z br ln := by unfold mm6 m6a m6b; split <;> rfl
  rw [nbrL, e5, e6]
  simp only [List.append_assoc]
def bB_cX8_rowsOf : Nat := 0xacfc108dfea70107840f01b60d1564040c150b156004680a150509152a1700a205150f151e009e0c150f01b60d1564040c150b150a156004680915052a1700a204150e151e009e0c150f01b60d150c1564040b15680a150509152a1500a205150f151c009e0b150f01b60d150c1564040b150a15680915052a1500a204150e151c009e0b150f01b60d15607e040a150c15647e040a1560040b157a040a1509152a1f00a21d600c150b1528009e0f150f01b60d15607e0409150c15647e04091560040b150a157a0409152a1f00a21d600c150b1528009e0e150f01b60d150c150b157a040a15607e040a15680915052a1a00a204150e1521009e0f150f01b60d150c150b15607e040915680a15057a0409152a1a00a205150f1521009e0e150f361301b80a150e361301b80915ac0d150600a0680615101008150d362e07152b00b42a0c36700708150b3670076c0708150a36708000116c1010081509366c8000116c1010081508362e07152e00b42a7001a20c01b42a0715073603063660781b04688000116404781c050f01b60203036404781c05781b042a0c01b5032a
set_option maxRecDepth 100000 in
theorem yB_cX8_rowsOf : BYS cX8_rowsOf 415 bB_cX8_rowsOf := BYS_of (by decide +kernel)
theorem dX8_rowsOf_0 : decode cX8_rowsOf 0 = .ok (.aload_n 0, 1) := D_42 yB_cX8_rowsOf rfl rfl
theorem dX8_rowsOf_1 : decode cX8_rowsOf 1 = .ok (.iconst 0, 1) := D_3 yB_cX8_rowsOf rfl rfl
theorem dX8_rowsOf_2 : decode cX8_rowsOf 2 = .ok (.putfield 268, 3) := D_181 yB_cX8_rowsOf rfl rfl rfl
theorem dX8_rowsOf_5 : decode cX8_rowsOf 5 = .ok (.aload_n 0, 1) := D_42 yB_cX8_rowsOf rfl rfl
theorem dX8_rowsOf_6 : decode cX8_rowsOf 6 = .ok (.iconst 1, 1) := D_4 yB_cX8_rowsOf rfl rfl
theorem dX8_rowsOf_7 : decode cX8_rowsOf 7 = .ok (.iload_n 1, 1) := D_27 yB_cX8_rowsOf rfl rfl
theorem dX8_rowsOf_8 : decode cX8_rowsOf 8 = .ok (.ishl, 1) := D_120 yB_cX8_rowsOf rfl rfl
theorem dX8_rowsOf_9 : decode cX8_rowsOf 9 = .ok (.iconst 2, 1) := D_5 yB_cX8_rowsOf rfl rfl
theorem dX8_rowsOf_10 : decode cX8_rowsOf 10 = .ok (.iload_n 2, 1) := D_28 yB_cX8_rowsOf rfl rfl
theorem dX8_rowsOf_11 : decode cX8_rowsOf 11 = .ok (.ishl, 1) := D_120 yB_cX8_rowsOf rfl rfl
theorem dX8_rowsOf_12 : decode cX8_rowsOf 12 = .ok (.iconst 1, 1) := D_4 yB_cX8_rowsOf rfl rfl
theorem dX8_rowsOf_13 : decode cX8_rowsOf 13 = .ok (.isub, 1) := D_100 yB_cX8_rowsOf rfl rfl
theorem dX8_rowsOf_14 : decode cX8_rowsOf 14 = .ok (.iconst 0, 1) := D_3 yB_cX8_rowsOf rfl rfl
theorem dX8_rowsOf_15 : decode cX8_rowsOf 15 = .ok (.iconst 0, 1) := D_3 yB_cX8_rowsOf rfl rfl
theorem dX8_rowsOf_16 : decode cX8_rowsOf 16 = .ok (.iconst (-1), 1) := D_2 yB_cX8_rowsOf rfl rfl
theorem dX8_rowsOf_17 : decode cX8_rowsOf 17 = .ok (.invokevirtual 271, 3) := D_182 yB_cX8_rowsOf rfl rfl rfl
theorem dX8_rowsOf_20 : decode cX8_rowsOf 20 = .ok (.iconst 2, 1) := D_5 yB_cX8_rowsOf rfl rfl
theorem dX8_rowsOf_21 : decode cX8_rowsOf 21 = .ok (.iload_n 2, 1) := D_28 yB_cX8_rowsOf rfl rfl
theorem dX8_rowsOf_22 : decode cX8_rowsOf 22 = .ok (.ishl, 1) := D_120 yB_cX8_rowsOf rfl rfl
theorem dX8_rowsOf_23 : decode cX8_rowsOf 23 = .ok (.iconst 1, 1) := D_4 yB_cX8_rowsOf rfl rfl
theorem dX8_rowsOf_24 : decode cX8_rowsOf 24 = .ok (.isub, 1) := D_100 yB_cX8_rowsOf rfl rfl
theorem dX8_rowsOf_25 : decode cX8_rowsOf 25 = .ok (.sipush 128, 3) := D_17 yB_cX8_rowsOf rfl rfl (sg_p (m := 32768) (N := 128) rfl rfl rfl)
theorem dX8_rowsOf_28 : decode cX8_rowsOf 28 = .ok (.imul, 1) := D_104 yB_cX8_rowsOf rfl rfl
theorem dX8_rowsOf_29 : decode cX8_rowsOf 29 = .ok (.iconst 1, 1) := D_4 yB_cX8_rowsOf rfl rfl
theorem dX8_rowsOf_30 : decode cX8_rowsOf 30 = .ok (.iload_n 1, 1) := D_27 yB_cX8_rowsOf rfl rfl
theorem dX8_rowsOf_31 : decode cX8_rowsOf 31 = .ok (.ishl, 1) := D_120 yB_cX8_rowsOf rfl rfl
theorem dX8_rowsOf_32 : decode cX8_rowsOf 32 = .ok (.iadd, 1) := D_96 yB_cX8_rowsOf rfl rfl
theorem dX8_rowsOf_33 : decode cX8_rowsOf 33 = .ok (.istore 6, 2) := D_54 yB_cX8_rowsOf rfl rfl rfl
theorem dX8_rowsOf_35 : decode cX8_rowsOf 35 = .ok (.iconst 0, 1) := D_3 yB_cX8_rowsOf rfl rfl
theorem dX8_rowsOf_36 : decode cX8_rowsOf 36 = .ok (.istore 7, 2) := D_54 yB_cX8_rowsOf rfl rfl rfl
theorem dX8_rowsOf_38 : decode cX8_rowsOf 38 = .ok (.iload 7, 2) := D_21 yB_cX8_rowsOf rfl rfl rfl
theorem dX8_rowsOf_40 : decode cX8_rowsOf 40 = .ok (.aload_n 0, 1) := D_42 yB_cX8_rowsOf rfl rfl
theorem dX8_rowsOf_41 : decode cX8_rowsOf 41 = .ok (.getfield 268, 3) := D_180 yB_cX8_rowsOf rfl rfl rfl
theorem dX8_rowsOf_44 : decode cX8_rowsOf 44 = .ok (.if_icmp .ge 368, 3) := D_162 yB_cX8_rowsOf rfl rfl (sg_p (m := 32768) (N := 368) rfl rfl rfl)
theorem dX8_rowsOf_47 : decode cX8_rowsOf 47 = .ok (.aload_n 0, 1) := D_42 yB_cX8_rowsOf rfl rfl
theorem dX8_rowsOf_48 : decode cX8_rowsOf 48 = .ok (.getfield 46, 3) := D_180 yB_cX8_rowsOf rfl rfl rfl
theorem dX8_rowsOf_51 : decode cX8_rowsOf 51 = .ok (.iload 7, 2) := D_21 yB_cX8_rowsOf rfl rfl rfl
theorem dX8_rowsOf_53 : decode cX8_rowsOf 53 = .ok (.iaload, 1) := D_46 yB_cX8_rowsOf rfl rfl
theorem dX8_rowsOf_54 : decode cX8_rowsOf 54 = .ok (.istore 8, 2) := D_54 yB_cX8_rowsOf rfl rfl rfl
theorem dX8_rowsOf_56 : decode cX8_rowsOf 56 = .ok (.iload 8, 2) := D_21 yB_cX8_rowsOf rfl rfl rfl
theorem dX8_rowsOf_58 : decode cX8_rowsOf 58 = .ok (.bipush 16, 2) := D_16 yB_cX8_rowsOf rfl rfl (sg_p (m := 128) (N := 16) rfl rfl rfl)
theorem dX8_rowsOf_60 : decode cX8_rowsOf 60 = .ok (.idiv, 1) := D_108 yB_cX8_rowsOf rfl rfl
theorem dX8_rowsOf_61 : decode cX8_rowsOf 61 = .ok (.sipush 128, 3) := D_17 yB_cX8_rowsOf rfl rfl (sg_p (m := 32768) (N := 128) rfl rfl rfl)
theorem dX8_rowsOf_64 : decode cX8_rowsOf 64 = .ok (.idiv, 1) := D_108 yB_cX8_rowsOf rfl rfl
theorem dX8_rowsOf_65 : decode cX8_rowsOf 65 = .ok (.istore 9, 2) := D_54 yB_cX8_rowsOf rfl rfl rfl
theorem dX8_rowsOf_67 : decode cX8_rowsOf 67 = .ok (.iload 8, 2) := D_21 yB_cX8_rowsOf rfl rfl rfl
theorem dX8_rowsOf_69 : decode cX8_rowsOf 69 = .ok (.bipush 16, 2) := D_16 yB_cX8_rowsOf rfl rfl (sg_p (m := 128) (N := 16) rfl rfl rfl)
theorem dX8_rowsOf_71 : decode cX8_rowsOf 71 = .ok (.idiv, 1) := D_108 yB_cX8_rowsOf rfl rfl
theorem dX8_rowsOf_72 : decode cX8_rowsOf 72 = .ok (.sipush 128, 3) := D_17 yB_cX8_rowsOf rfl rfl (sg_p (m := 32768) (N := 128) rfl rfl rfl)
theorem dX8_rowsOf_75 : decode cX8_rowsOf 75 = .ok (.irem, 1) := D_112 yB_cX8_rowsOf rfl rfl
theorem dX8_rowsOf_76 : decode cX8_rowsOf 76 = .ok (.istore 10, 2) := D_54 yB_cX8_rowsOf rfl rfl rfl
theorem dX8_rowsOf_78 : decode cX8_rowsOf 78 = .ok (.iload 8, 2) := D_21 yB_cX8_rowsOf rfl rfl rfl
theorem dX8_rowsOf_80 : decode cX8_rowsOf 80 = .ok (.iconst 4, 1) := D_7 yB_cX8_rowsOf rfl rfl
theorem dX8_rowsOf_81 : decode cX8_rowsOf 81 = .ok (.idiv, 1) := D_108 yB_cX8_rowsOf rfl rfl
theorem dX8_rowsOf_82 : decode cX8_rowsOf 82 = .ok (.iconst 4, 1) := D_7 yB_cX8_rowsOf rfl rfl
theorem dX8_rowsOf_83 : decode cX8_rowsOf 83 = .ok (.irem, 1) := D_112 yB_cX8_rowsOf rfl rfl
theorem dX8_rowsOf_84 : decode cX8_rowsOf 84 = .ok (.istore 11, 2) := D_54 yB_cX8_rowsOf rfl rfl rfl
theorem dX8_rowsOf_86 : decode cX8_rowsOf 86 = .ok (.iload 8, 2) := D_21 yB_cX8_rowsOf rfl rfl rfl
theorem dX8_rowsOf_88 : decode cX8_rowsOf 88 = .ok (.iconst 4, 1) := D_7 yB_cX8_rowsOf rfl rfl
theorem dX8_rowsOf_89 : decode cX8_rowsOf 89 = .ok (.irem, 1) := D_112 yB_cX8_rowsOf rfl rfl
theorem dX8_rowsOf_90 : decode cX8_rowsOf 90 = .ok (.istore 12, 2) := D_54 yB_cX8_rowsOf rfl rfl rfl
theorem dX8_rowsOf_92 : decode cX8_rowsOf 92 = .ok (.aload_n 0, 1) := D_42 yB_cX8_rowsOf rfl rfl
theorem dX8_rowsOf_93 : decode cX8_rowsOf 93 = .ok (.getfield 43, 3) := D_180 yB_cX8_rowsOf rfl rfl rfl
theorem dX8_rowsOf_96 : decode cX8_rowsOf 96 = .ok (.iload 7, 2) := D_21 yB_cX8_rowsOf rfl rfl rfl
theorem dX8_rowsOf_98 : decode cX8_rowsOf 98 = .ok (.iaload, 1) := D_46 yB_cX8_rowsOf rfl rfl
theorem dX8_rowsOf_99 : decode cX8_rowsOf 99 = .ok (.istore 13, 2) := D_54 yB_cX8_rowsOf rfl rfl rfl
theorem dX8_rowsOf_101 : decode cX8_rowsOf 101 = .ok (.iload 8, 2) := D_21 yB_cX8_rowsOf rfl rfl rfl
theorem dX8_rowsOf_103 : decode cX8_rowsOf 103 = .ok (.bipush 16, 2) := D_16 yB_cX8_rowsOf rfl rfl (sg_p (m := 128) (N := 16) rfl rfl rfl)
theorem dX8_rowsOf_105 : decode cX8_rowsOf 105 = .ok (.iload 6, 2) := D_21 yB_cX8_rowsOf rfl rfl rfl
theorem dX8_rowsOf_107 : decode cX8_rowsOf 107 = .ok (.imul, 1) := D_104 yB_cX8_rowsOf rfl rfl
theorem dX8_rowsOf_108 : decode cX8_rowsOf 108 = .ok (.if_icmp .ne 6, 3) := D_160 yB_cX8_rowsOf rfl rfl (sg_p (m := 32768) (N := 6) rfl rfl rfl)
theorem dX8_rowsOf_111 : decode cX8_rowsOf 111 = .ok (.iload 13, 2) := D_21 yB_cX8_rowsOf rfl rfl rfl
theorem dX8_rowsOf_113 : decode cX8_rowsOf 113 = .ok (.ireturn, 1) := D_172 yB_cX8_rowsOf rfl rfl
theorem dX8_rowsOf_114 : decode cX8_rowsOf 114 = .ok (.iload 9, 2) := D_21 yB_cX8_rowsOf rfl rfl rfl
theorem dX8_rowsOf_116 : decode cX8_rowsOf 116 = .ok (.invokestatic 275, 3) := D_184 yB_cX8_rowsOf rfl rfl rfl
theorem dX8_rowsOf_119 : decode cX8_rowsOf 119 = .ok (.istore 14, 2) := D_54 yB_cX8_rowsOf rfl rfl rfl
theorem dX8_rowsOf_121 : decode cX8_rowsOf 121 = .ok (.iload 10, 2) := D_21 yB_cX8_rowsOf rfl rfl rfl
theorem dX8_rowsOf_123 : decode cX8_rowsOf 123 = .ok (.invokestatic 275, 3) := D_184 yB_cX8_rowsOf rfl rfl rfl
theorem dX8_rowsOf_126 : decode cX8_rowsOf 126 = .ok (.istore 15, 2) := D_54 yB_cX8_rowsOf rfl rfl rfl
theorem dX8_rowsOf_128 : decode cX8_rowsOf 128 = .ok (.iload 14, 2) := D_21 yB_cX8_rowsOf rfl rfl rfl
theorem dX8_rowsOf_130 : decode cX8_rowsOf 130 = .ok (.ifCond .le 33, 3) := D_158 yB_cX8_rowsOf rfl rfl (sg_p (m := 32768) (N := 33) rfl rfl rfl)
theorem dX8_rowsOf_133 : decode cX8_rowsOf 133 = .ok (.iload 15, 2) := D_21 yB_cX8_rowsOf rfl rfl rfl
theorem dX8_rowsOf_135 : decode cX8_rowsOf 135 = .ok (.iload 5, 2) := D_21 yB_cX8_rowsOf rfl rfl rfl
theorem dX8_rowsOf_137 : decode cX8_rowsOf 137 = .ok (.if_icmp .ge 26, 3) := D_162 yB_cX8_rowsOf rfl rfl (sg_p (m := 32768) (N := 26) rfl rfl rfl)
theorem dX8_rowsOf_140 : decode cX8_rowsOf 140 = .ok (.aload_n 0, 1) := D_42 yB_cX8_rowsOf rfl rfl
theorem dX8_rowsOf_141 : decode cX8_rowsOf 141 = .ok (.iload 9, 2) := D_21 yB_cX8_rowsOf rfl rfl rfl
theorem dX8_rowsOf_143 : decode cX8_rowsOf 143 = .ok (.iconst 1, 1) := D_4 yB_cX8_rowsOf rfl rfl
theorem dX8_rowsOf_144 : decode cX8_rowsOf 144 = .ok (.ishr, 1) := D_122 yB_cX8_rowsOf rfl rfl
theorem dX8_rowsOf_145 : decode cX8_rowsOf 145 = .ok (.iconst 2, 1) := D_5 yB_cX8_rowsOf rfl rfl
theorem dX8_rowsOf_146 : decode cX8_rowsOf 146 = .ok (.iload 10, 2) := D_21 yB_cX8_rowsOf rfl rfl rfl
theorem dX8_rowsOf_148 : decode cX8_rowsOf 148 = .ok (.imul, 1) := D_104 yB_cX8_rowsOf rfl rfl
theorem dX8_rowsOf_149 : decode cX8_rowsOf 149 = .ok (.iload 9, 2) := D_21 yB_cX8_rowsOf rfl rfl rfl
theorem dX8_rowsOf_151 : decode cX8_rowsOf 151 = .ok (.iconst 1, 1) := D_4 yB_cX8_rowsOf rfl rfl
theorem dX8_rowsOf_152 : decode cX8_rowsOf 152 = .ok (.iand, 1) := D_126 yB_cX8_rowsOf rfl rfl
theorem dX8_rowsOf_153 : decode cX8_rowsOf 153 = .ok (.iadd, 1) := D_96 yB_cX8_rowsOf rfl rfl
theorem dX8_rowsOf_154 : decode cX8_rowsOf 154 = .ok (.iload 11, 2) := D_21 yB_cX8_rowsOf rfl rfl rfl
theorem dX8_rowsOf_156 : decode cX8_rowsOf 156 = .ok (.iload 12, 2) := D_21 yB_cX8_rowsOf rfl rfl rfl
theorem dX8_rowsOf_158 : decode cX8_rowsOf 158 = .ok (.iload 13, 2) := D_21 yB_cX8_rowsOf rfl rfl rfl
theorem dX8_rowsOf_160 : decode cX8_rowsOf 160 = .ok (.invokevirtual 271, 3) := D_182 yB_cX8_rowsOf rfl rfl rfl
theorem dX8_rowsOf_163 : decode cX8_rowsOf 163 = .ok (.iload 15, 2) := D_21 yB_cX8_rowsOf rfl rfl rfl
theorem dX8_rowsOf_165 : decode cX8_rowsOf 165 = .ok (.ifCond .le 33, 3) := D_158 yB_cX8_rowsOf rfl rfl (sg_p (m := 32768) (N := 33) rfl rfl rfl)
theorem dX8_rowsOf_168 : decode cX8_rowsOf 168 = .ok (.iload 14, 2) := D_21 yB_cX8_rowsOf rfl rfl rfl
theorem dX8_rowsOf_170 : decode cX8_rowsOf 170 = .ok (.iload 4, 2) := D_21 yB_cX8_rowsOf rfl rfl rfl
theorem dX8_rowsOf_172 : decode cX8_rowsOf 172 = .ok (.if_icmp .ge 26, 3) := D_162 yB_cX8_rowsOf rfl rfl (sg_p (m := 32768) (N := 26) rfl rfl rfl)
theorem dX8_rowsOf_175 : decode cX8_rowsOf 175 = .ok (.aload_n 0, 1) := D_42 yB_cX8_rowsOf rfl rfl
theorem dX8_rowsOf_176 : decode cX8_rowsOf 176 = .ok (.iconst 2, 1) := D_5 yB_cX8_rowsOf rfl rfl
theorem dX8_rowsOf_177 : decode cX8_rowsOf 177 = .ok (.iload 9, 2) := D_21 yB_cX8_rowsOf rfl rfl rfl
theorem dX8_rowsOf_179 : decode cX8_rowsOf 179 = .ok (.imul, 1) := D_104 yB_cX8_rowsOf rfl rfl
theorem dX8_rowsOf_180 : decode cX8_rowsOf 180 = .ok (.iload 10, 2) := D_21 yB_cX8_rowsOf rfl rfl rfl
theorem dX8_rowsOf_182 : decode cX8_rowsOf 182 = .ok (.iconst 1, 1) := D_4 yB_cX8_rowsOf rfl rfl
theorem dX8_rowsOf_183 : decode cX8_rowsOf 183 = .ok (.iand, 1) := D_126 yB_cX8_rowsOf rfl rfl
theorem dX8_rowsOf_184 : decode cX8_rowsOf 184 = .ok (.iadd, 1) := D_96 yB_cX8_rowsOf rfl rfl
theorem dX8_rowsOf_185 : decode cX8_rowsOf 185 = .ok (.iload 10, 2) := D_21 yB_cX8_rowsOf rfl rfl rfl
theorem dX8_rowsOf_187 : decode cX8_rowsOf 187 = .ok (.iconst 1, 1) := D_4 yB_cX8_rowsOf rfl rfl
theorem dX8_rowsOf_188 : decode cX8_rowsOf 188 = .ok (.ishr, 1) := D_122 yB_cX8_rowsOf rfl rfl
theorem dX8_rowsOf_189 : decode cX8_rowsOf 189 = .ok (.iload 11, 2) := D_21 yB_cX8_rowsOf rfl rfl rfl
theorem dX8_rowsOf_191 : decode cX8_rowsOf 191 = .ok (.iload 12, 2) := D_21 yB_cX8_rowsOf rfl rfl rfl
theorem dX8_rowsOf_193 : decode cX8_rowsOf 193 = .ok (.iload 13, 2) := D_21 yB_cX8_rowsOf rfl rfl rfl
theorem dX8_rowsOf_195 : decode cX8_rowsOf 195 = .ok (.invokevirtual 271, 3) := D_182 yB_cX8_rowsOf rfl rfl rfl
theorem dX8_rowsOf_198 : decode cX8_rowsOf 198 = .ok (.iload 14, 2) := D_21 yB_cX8_rowsOf rfl rfl rfl
theorem dX8_rowsOf_200 : decode cX8_rowsOf 200 = .ok (.ifCond .le 40, 3) := D_158 yB_cX8_rowsOf rfl rfl (sg_p (m := 32768) (N := 40) rfl rfl rfl)
theorem dX8_rowsOf_203 : decode cX8_rowsOf 203 = .ok (.iload 11, 2) := D_21 yB_cX8_rowsOf rfl rfl rfl
theorem dX8_rowsOf_205 : decode cX8_rowsOf 205 = .ok (.iload 12, 2) := D_21 yB_cX8_rowsOf rfl rfl rfl
theorem dX8_rowsOf_207 : decode cX8_rowsOf 207 = .ok (.iadd, 1) := D_96 yB_cX8_rowsOf rfl rfl
theorem dX8_rowsOf_208 : decode cX8_rowsOf 208 = .ok (.iload_n 3, 1) := D_29 yB_cX8_rowsOf rfl rfl
theorem dX8_rowsOf_209 : decode cX8_rowsOf 209 = .ok (.if_icmp .ge 31, 3) := D_162 yB_cX8_rowsOf rfl rfl (sg_p (m := 32768) (N := 31) rfl rfl rfl)
theorem dX8_rowsOf_212 : decode cX8_rowsOf 212 = .ok (.aload_n 0, 1) := D_42 yB_cX8_rowsOf rfl rfl
theorem dX8_rowsOf_213 : decode cX8_rowsOf 213 = .ok (.iload 9, 2) := D_21 yB_cX8_rowsOf rfl rfl rfl
theorem dX8_rowsOf_215 : decode cX8_rowsOf 215 = .ok (.iconst 1, 1) := D_4 yB_cX8_rowsOf rfl rfl
theorem dX8_rowsOf_216 : decode cX8_rowsOf 216 = .ok (.ishr, 1) := D_122 yB_cX8_rowsOf rfl rfl
theorem dX8_rowsOf_217 : decode cX8_rowsOf 217 = .ok (.iload 10, 2) := D_21 yB_cX8_rowsOf rfl rfl rfl
theorem dX8_rowsOf_219 : decode cX8_rowsOf 219 = .ok (.iload 11, 2) := D_21 yB_cX8_rowsOf rfl rfl rfl
theorem dX8_rowsOf_221 : decode cX8_rowsOf 221 = .ok (.iconst 1, 1) := D_4 yB_cX8_rowsOf rfl rfl
theorem dX8_rowsOf_222 : decode cX8_rowsOf 222 = .ok (.iadd, 1) := D_96 yB_cX8_rowsOf rfl rfl
theorem dX8_rowsOf_223 : decode cX8_rowsOf 223 = .ok (.iload 9, 2) := D_21 yB_cX8_rowsOf rfl rfl rfl
theorem dX8_rowsOf_225 : decode cX8_rowsOf 225 = .ok (.iconst 1, 1) := D_4 yB_cX8_rowsOf rfl rfl
theorem dX8_rowsOf_226 : decode cX8_rowsOf 226 = .ok (.iand, 1) := D_126 yB_cX8_rowsOf rfl rfl
theorem dX8_rowsOf_227 : decode cX8_rowsOf 227 = .ok (.isub, 1) := D_100 yB_cX8_rowsOf rfl rfl
theorem dX8_rowsOf_228 : decode cX8_rowsOf 228 = .ok (.iload 12, 2) := D_21 yB_cX8_rowsOf rfl rfl rfl
theorem dX8_rowsOf_230 : decode cX8_rowsOf 230 = .ok (.iload 9, 2) := D_21 yB_cX8_rowsOf rfl rfl rfl
theorem dX8_rowsOf_232 : decode cX8_rowsOf 232 = .ok (.iconst 1, 1) := D_4 yB_cX8_rowsOf rfl rfl
theorem dX8_rowsOf_233 : decode cX8_rowsOf 233 = .ok (.iand, 1) := D_126 yB_cX8_rowsOf rfl rfl
theorem dX8_rowsOf_234 : decode cX8_rowsOf 234 = .ok (.iadd, 1) := D_96 yB_cX8_rowsOf rfl rfl
theorem dX8_rowsOf_235 : decode cX8_rowsOf 235 = .ok (.iload 13, 2) := D_21 yB_cX8_rowsOf rfl rfl rfl
theorem dX8_rowsOf_237 : decode cX8_rowsOf 237 = .ok (.invokevirtual 271, 3) := D_182 yB_cX8_rowsOf rfl rfl rfl
theorem dX8_rowsOf_240 : decode cX8_rowsOf 240 = .ok (.iload 15, 2) := D_21 yB_cX8_rowsOf rfl rfl rfl
theorem dX8_rowsOf_242 : decode cX8_rowsOf 242 = .ok (.ifCond .le 40, 3) := D_158 yB_cX8_rowsOf rfl rfl (sg_p (m := 32768) (N := 40) rfl rfl rfl)
theorem dX8_rowsOf_245 : decode cX8_rowsOf 245 = .ok (.iload 11, 2) := D_21 yB_cX8_rowsOf rfl rfl rfl
theorem dX8_rowsOf_247 : decode cX8_rowsOf 247 = .ok (.iload 12, 2) := D_21 yB_cX8_rowsOf rfl rfl rfl
theorem dX8_rowsOf_249 : decode cX8_rowsOf 249 = .ok (.iadd, 1) := D_96 yB_cX8_rowsOf rfl rfl
theorem dX8_rowsOf_250 : decode cX8_rowsOf 250 = .ok (.iload_n 3, 1) := D_29 yB_cX8_rowsOf rfl rfl
theorem dX8_rowsOf_251 : decode cX8_rowsOf 251 = .ok (.if_icmp .ge 31, 3) := D_162 yB_cX8_rowsOf rfl rfl (sg_p (m := 32768) (N := 31) rfl rfl rfl)
theorem dX8_rowsOf_254 : decode cX8_rowsOf 254 = .ok (.aload_n 0, 1) := D_42 yB_cX8_rowsOf rfl rfl
theorem dX8_rowsOf_255 : decode cX8_rowsOf 255 = .ok (.iload 9, 2) := D_21 yB_cX8_rowsOf rfl rfl rfl
theorem dX8_rowsOf_257 : decode cX8_rowsOf 257 = .ok (.iload 10, 2) := D_21 yB_cX8_rowsOf rfl rfl rfl
theorem dX8_rowsOf_259 : decode cX8_rowsOf 259 = .ok (.iconst 1, 1) := D_4 yB_cX8_rowsOf rfl rfl
theorem dX8_rowsOf_260 : decode cX8_rowsOf 260 = .ok (.ishr, 1) := D_122 yB_cX8_rowsOf rfl rfl
theorem dX8_rowsOf_261 : decode cX8_rowsOf 261 = .ok (.iload 11, 2) := D_21 yB_cX8_rowsOf rfl rfl rfl
theorem dX8_rowsOf_263 : decode cX8_rowsOf 263 = .ok (.iconst 1, 1) := D_4 yB_cX8_rowsOf rfl rfl
theorem dX8_rowsOf_264 : decode cX8_rowsOf 264 = .ok (.iadd, 1) := D_96 yB_cX8_rowsOf rfl rfl
theorem dX8_rowsOf_265 : decode cX8_rowsOf 265 = .ok (.iload 10, 2) := D_21 yB_cX8_rowsOf rfl rfl rfl
theorem dX8_rowsOf_267 : decode cX8_rowsOf 267 = .ok (.iconst 1, 1) := D_4 yB_cX8_rowsOf rfl rfl
theorem dX8_rowsOf_268 : decode cX8_rowsOf 268 = .ok (.iand, 1) := D_126 yB_cX8_rowsOf rfl rfl
theorem dX8_rowsOf_269 : decode cX8_rowsOf 269 = .ok (.isub, 1) := D_100 yB_cX8_rowsOf rfl rfl
theorem dX8_rowsOf_270 : decode cX8_rowsOf 270 = .ok (.iload 12, 2) := D_21 yB_cX8_rowsOf rfl rfl rfl
theorem dX8_rowsOf_272 : decode cX8_rowsOf 272 = .ok (.iload 10, 2) := D_21 yB_cX8_rowsOf rfl rfl rfl
theorem dX8_rowsOf_274 : decode cX8_rowsOf 274 = .ok (.iconst 1, 1) := D_4 yB_cX8_rowsOf rfl rfl
theorem dX8_rowsOf_275 : decode cX8_rowsOf 275 = .ok (.iand, 1) := D_126 yB_cX8_rowsOf rfl rfl
theorem dX8_rowsOf_276 : decode cX8_rowsOf 276 = .ok (.iadd, 1) := D_96 yB_cX8_rowsOf rfl rfl
theorem dX8_rowsOf_277 : decode cX8_rowsOf 277 = .ok (.iload 13, 2) := D_21 yB_cX8_rowsOf rfl rfl rfl
theorem dX8_rowsOf_279 : decode cX8_rowsOf 279 = .ok (.invokevirtual 271, 3) := D_182 yB_cX8_rowsOf rfl rfl rfl
theorem dX8_rowsOf_282 : decode cX8_rowsOf 282 = .ok (.iload 11, 2) := D_21 yB_cX8_rowsOf rfl rfl rfl
theorem dX8_rowsOf_284 : decode cX8_rowsOf 284 = .ok (.ifCond .le 28, 3) := D_158 yB_cX8_rowsOf rfl rfl (sg_p (m := 32768) (N := 28) rfl rfl rfl)
theorem dX8_rowsOf_287 : decode cX8_rowsOf 287 = .ok (.iload 14, 2) := D_21 yB_cX8_rowsOf rfl rfl rfl
theorem dX8_rowsOf_289 : decode cX8_rowsOf 289 = .ok (.iload 4, 2) := D_21 yB_cX8_rowsOf rfl rfl rfl
theorem dX8_rowsOf_291 : decode cX8_rowsOf 291 = .ok (.if_icmp .ge 21, 3) := D_162 yB_cX8_rowsOf rfl rfl (sg_p (m := 32768) (N := 21) rfl rfl rfl)
theorem dX8_rowsOf_294 : decode cX8_rowsOf 294 = .ok (.aload_n 0, 1) := D_42 yB_cX8_rowsOf rfl rfl
theorem dX8_rowsOf_295 : decode cX8_rowsOf 295 = .ok (.iconst 2, 1) := D_5 yB_cX8_rowsOf rfl rfl
theorem dX8_rowsOf_296 : decode cX8_rowsOf 296 = .ok (.iload 9, 2) := D_21 yB_cX8_rowsOf rfl rfl rfl
theorem dX8_rowsOf_298 : decode cX8_rowsOf 298 = .ok (.imul, 1) := D_104 yB_cX8_rowsOf rfl rfl
theorem dX8_rowsOf_299 : decode cX8_rowsOf 299 = .ok (.iload 10, 2) := D_21 yB_cX8_rowsOf rfl rfl rfl
theorem dX8_rowsOf_301 : decode cX8_rowsOf 301 = .ok (.iload 11, 2) := D_21 yB_cX8_rowsOf rfl rfl rfl
theorem dX8_rowsOf_303 : decode cX8_rowsOf 303 = .ok (.iconst 1, 1) := D_4 yB_cX8_rowsOf rfl rfl
theorem dX8_rowsOf_304 : decode cX8_rowsOf 304 = .ok (.isub, 1) := D_100 yB_cX8_rowsOf rfl rfl
theorem dX8_rowsOf_305 : decode cX8_rowsOf 305 = .ok (.iload 12, 2) := D_21 yB_cX8_rowsOf rfl rfl rfl
theorem dX8_rowsOf_307 : decode cX8_rowsOf 307 = .ok (.iload 13, 2) := D_21 yB_cX8_rowsOf rfl rfl rfl
theorem dX8_rowsOf_309 : decode cX8_rowsOf 309 = .ok (.invokevirtual 271, 3) := D_182 yB_cX8_rowsOf rfl rfl rfl
theorem dX8_rowsOf_312 : decode cX8_rowsOf 312 = .ok (.iload 11, 2) := D_21 yB_cX8_rowsOf rfl rfl rfl
theorem dX8_rowsOf_314 : decode cX8_rowsOf 314 = .ok (.ifCond .le 28, 3) := D_158 yB_cX8_rowsOf rfl rfl (sg_p (m := 32768) (N := 28) rfl rfl rfl)
theorem dX8_rowsOf_317 : decode cX8_rowsOf 317 = .ok (.iload 15, 2) := D_21 yB_cX8_rowsOf rfl rfl rfl
theorem dX8_rowsOf_319 : decode cX8_rowsOf 319 = .ok (.iload 5, 2) := D_21 yB_cX8_rowsOf rfl rfl rfl
theorem dX8_rowsOf_321 : decode cX8_rowsOf 321 = .ok (.if_icmp .ge 21, 3) := D_162 yB_cX8_rowsOf rfl rfl (sg_p (m := 32768) (N := 21) rfl rfl rfl)
theorem dX8_rowsOf_324 : decode cX8_rowsOf 324 = .ok (.aload_n 0, 1) := D_42 yB_cX8_rowsOf rfl rfl
theorem dX8_rowsOf_325 : decode cX8_rowsOf 325 = .ok (.iload 9, 2) := D_21 yB_cX8_rowsOf rfl rfl rfl
theorem dX8_rowsOf_327 : decode cX8_rowsOf 327 = .ok (.iconst 2, 1) := D_5 yB_cX8_rowsOf rfl rfl
theorem dX8_rowsOf_328 : decode cX8_rowsOf 328 = .ok (.iload 10, 2) := D_21 yB_cX8_rowsOf rfl rfl rfl
theorem dX8_rowsOf_330 : decode cX8_rowsOf 330 = .ok (.imul, 1) := D_104 yB_cX8_rowsOf rfl rfl
theorem dX8_rowsOf_331 : decode cX8_rowsOf 331 = .ok (.iload 11, 2) := D_21 yB_cX8_rowsOf rfl rfl rfl
theorem dX8_rowsOf_333 : decode cX8_rowsOf 333 = .ok (.iconst 1, 1) := D_4 yB_cX8_rowsOf rfl rfl
theorem dX8_rowsOf_334 : decode cX8_rowsOf 334 = .ok (.isub, 1) := D_100 yB_cX8_rowsOf rfl rfl
theorem dX8_rowsOf_335 : decode cX8_rowsOf 335 = .ok (.iload 12, 2) := D_21 yB_cX8_rowsOf rfl rfl rfl
theorem dX8_rowsOf_337 : decode cX8_rowsOf 337 = .ok (.iload 13, 2) := D_21 yB_cX8_rowsOf rfl rfl rfl
theorem dX8_rowsOf_339 : decode cX8_rowsOf 339 = .ok (.invokevirtual 271, 3) := D_182 yB_cX8_rowsOf rfl rfl rfl
theorem dX8_rowsOf_342 : decode cX8_rowsOf 342 = .ok (.iload 12, 2) := D_21 yB_cX8_rowsOf rfl rfl rfl
theorem dX8_rowsOf_344 : decode cX8_rowsOf 344 = .ok (.ifCond .le 30, 3) := D_158 yB_cX8_rowsOf rfl rfl (sg_p (m := 32768) (N := 30) rfl rfl rfl)
theorem dX8_rowsOf_347 : decode cX8_rowsOf 347 = .ok (.iload 14, 2) := D_21 yB_cX8_rowsOf rfl rfl rfl
theorem dX8_rowsOf_349 : decode cX8_rowsOf 349 = .ok (.iload 4, 2) := D_21 yB_cX8_rowsOf rfl rfl rfl
theorem dX8_rowsOf_351 : decode cX8_rowsOf 351 = .ok (.if_icmp .ge 23, 3) := D_162 yB_cX8_rowsOf rfl rfl (sg_p (m := 32768) (N := 23) rfl rfl rfl)
theorem dX8_rowsOf_354 : decode cX8_rowsOf 354 = .ok (.aload_n 0, 1) := D_42 yB_cX8_rowsOf rfl rfl
theorem dX8_rowsOf_355 : decode cX8_rowsOf 355 = .ok (.iconst 2, 1) := D_5 yB_cX8_rowsOf rfl rfl
theorem dX8_rowsOf_356 : decode cX8_rowsOf 356 = .ok (.iload 9, 2) := D_21 yB_cX8_rowsOf rfl rfl rfl
theorem dX8_rowsOf_358 : decode cX8_rowsOf 358 = .ok (.imul, 1) := D_104 yB_cX8_rowsOf rfl rfl
theorem dX8_rowsOf_359 : decode cX8_rowsOf 359 = .ok (.iconst 1, 1) := D_4 yB_cX8_rowsOf rfl rfl
theorem dX8_rowsOf_360 : decode cX8_rowsOf 360 = .ok (.iadd, 1) := D_96 yB_cX8_rowsOf rfl rfl
theorem dX8_rowsOf_361 : decode cX8_rowsOf 361 = .ok (.iload 10, 2) := D_21 yB_cX8_rowsOf rfl rfl rfl
theorem dX8_rowsOf_363 : decode cX8_rowsOf 363 = .ok (.iload 11, 2) := D_21 yB_cX8_rowsOf rfl rfl rfl
theorem dX8_rowsOf_365 : decode cX8_rowsOf 365 = .ok (.iload 12, 2) := D_21 yB_cX8_rowsOf rfl rfl rfl
theorem dX8_rowsOf_367 : decode cX8_rowsOf 367 = .ok (.iconst 1, 1) := D_4 yB_cX8_rowsOf rfl rfl
theorem dX8_rowsOf_368 : decode cX8_rowsOf 368 = .ok (.isub, 1) := D_100 yB_cX8_rowsOf rfl rfl
theorem dX8_rowsOf_369 : decode cX8_rowsOf 369 = .ok (.iload 13, 2) := D_21 yB_cX8_rowsOf rfl rfl rfl
theorem dX8_rowsOf_371 : decode cX8_rowsOf 371 = .ok (.invokevirtual 271, 3) := D_182 yB_cX8_rowsOf rfl rfl rfl
theorem dX8_rowsOf_374 : decode cX8_rowsOf 374 = .ok (.iload 12, 2) := D_21 yB_cX8_rowsOf rfl rfl rfl
theorem dX8_rowsOf_376 : decode cX8_rowsOf 376 = .ok (.ifCond .le 30, 3) := D_158 yB_cX8_rowsOf rfl rfl (sg_p (m := 32768) (N := 30) rfl rfl rfl)
theorem dX8_rowsOf_379 : decode cX8_rowsOf 379 = .ok (.iload 15, 2) := D_21 yB_cX8_rowsOf rfl rfl rfl
theorem dX8_rowsOf_381 : decode cX8_rowsOf 381 = .ok (.iload 5, 2) := D_21 yB_cX8_rowsOf rfl rfl rfl
theorem dX8_rowsOf_383 : decode cX8_rowsOf 383 = .ok (.if_icmp .ge 23, 3) := D_162 yB_cX8_rowsOf rfl rfl (sg_p (m := 32768) (N := 23) rfl rfl rfl)
theorem dX8_rowsOf_386 : decode cX8_rowsOf 386 = .ok (.aload_n 0, 1) := D_42 yB_cX8_rowsOf rfl rfl
theorem dX8_rowsOf_387 : decode cX8_rowsOf 387 = .ok (.iload 9, 2) := D_21 yB_cX8_rowsOf rfl rfl rfl
theorem dX8_rowsOf_389 : decode cX8_rowsOf 389 = .ok (.iconst 2, 1) := D_5 yB_cX8_rowsOf rfl rfl
theorem dX8_rowsOf_390 : decode cX8_rowsOf 390 = .ok (.iload 10, 2) := D_21 yB_cX8_rowsOf rfl rfl rfl
theorem dX8_rowsOf_392 : decode cX8_rowsOf 392 = .ok (.imul, 1) := D_104 yB_cX8_rowsOf rfl rfl
theorem dX8_rowsOf_393 : decode cX8_rowsOf 393 = .ok (.iconst 1, 1) := D_4 yB_cX8_rowsOf rfl rfl
theorem dX8_rowsOf_394 : decode cX8_rowsOf 394 = .ok (.iadd, 1) := D_96 yB_cX8_rowsOf rfl rfl
theorem dX8_rowsOf_395 : decode cX8_rowsOf 395 = .ok (.iload 11, 2) := D_21 yB_cX8_rowsOf rfl rfl rfl
theorem dX8_rowsOf_397 : decode cX8_rowsOf 397 = .ok (.iload 12, 2) := D_21 yB_cX8_rowsOf rfl rfl rfl
theorem dX8_rowsOf_399 : decode cX8_rowsOf 399 = .ok (.iconst 1, 1) := D_4 yB_cX8_rowsOf rfl rfl
theorem dX8_rowsOf_400 : decode cX8_rowsOf 400 = .ok (.isub, 1) := D_100 yB_cX8_rowsOf rfl rfl
theorem dX8_rowsOf_401 : decode cX8_rowsOf 401 = .ok (.iload 13, 2) := D_21 yB_cX8_rowsOf rfl rfl rfl
theorem dX8_rowsOf_403 : decode cX8_rowsOf 403 = .ok (.invokevirtual 271, 3) := D_182 yB_cX8_rowsOf rfl rfl rfl
theorem dX8_rowsOf_406 : decode cX8_rowsOf 406 = .ok (.iinc 7 1, 3) := D_132 yB_cX8_rowsOf rfl rfl rfl (sg_p (m := 128) (N := 1) rfl rfl rfl)
theorem dX8_rowsOf_409 : decode cX8_rowsOf 409 = .ok (.goto (-371), 3) := D_167 yB_cX8_rowsOf rfl rfl (sg_n (m := 32768) (N := 371) rfl rfl rfl)
theorem dX8_rowsOf_412 : decode cX8_rowsOf 412 = .ok (.bipush (-4), 2) := D_16 yB_cX8_rowsOf rfl rfl (sg_n (m := 128) (N := 4) rfl rfl rfl)
theorem dX8_rowsOf_414 : decode cX8_rowsOf 414 = .ok (.ireturn, 1) := D_172 yB_cX8_rowsOf rfl rfl
set_option maxHeartbeats 4000000 in
set_option maxRecDepth 100000 in
theorem c_X8_rowsOf (l : Launch) (D : va_G) (cA : Nat → ClassId) (ad : Nat → Nat) (o : Int64) (σ : Mem) (a : Nat) (b : Nat) (q : Nat) (x : Nat) (z : Nat) (ha : a ≤ 3) (hb3 : b ≤ 3) (hq : q ≤ 3) (hxb : x ≤ 6) (hz : z ≤ 6) (sz : Nat) : Met l yX8_rowsOf (WY yX8_rowsOf cX8_rowsOf 16 (some .int)) (RM 1) (va_Pc [.ref (ad 91), .int (nI a), .int (nI b), .int (nI q), .int (nI x), .int (nI z)] (PW D cA ad o σ sz)) (va_Qi (fun r (σ9 : Mem) => r = RWn a b q x z ∧ Fr9 σ σ9) (QW D cA ad o) (FA ad sz)) 0 0 (FA ad sz) := by
  refine ct_of (own := RX8) (k := 1) (Qf := va_Qi (fun r (σ9 : Mem) => r = RWn a b q x z ∧ Fr9 σ σ9) (QW D cA ad o)) rfl (by decide) (Nat.le_of_ble_eq_true rfl) (fun p e s m below meth c ls C0 X hr hlk hP hl => ?_) sz
  have hS : va_S (FA ad s.heap.size) s.heap s.heap [] := va_S.rf
  have hl : lv_has ls 16 [(0, .ref (ad 91)), (1, .int (nI a)), (2, .int (nI b)), (3, .int (nI q)), (4, .int (nI x)), (5, .int (nI z))] := hl
  obtain ⟨hx, hb, hml, hown, hts⟩ := id C0
  have hpa := pw_1 a (by omega)
  have hpb := pw_1 b (by omega)
  refine lv_aload_n hx hb dX8_rowsOf_0 rfl (lv_at hl 0 rfl) ?_
  refine lv_iconst (v := 0) hx hb dX8_rowsOf_1 (by decide) ?_
  refine pf_X8_268 C0 X hP hS 91 ⟨by decide, rfl⟩ dX8_rowsOf_2 (fun H locs hP hS => ?_)
  refine lv_aload_n hx hb dX8_rowsOf_5 rfl (lv_at hl 0 rfl) ?_
  refine lv_iconst (v := 1) hx hb dX8_rowsOf_6 (by decide) ?_
  refine lv_iload_n hx hb dX8_rowsOf_7 rfl (lv_at hl 1 rfl) ?_
  refine lv_ishl hx hb dX8_rowsOf_8 ?_
  refine lv_topE (y := (nI (2 ^ a))) (sh_1 a (by omega)) ?_
  refine lv_iconst (v := 2) hx hb dX8_rowsOf_9 (by decide) ?_
  refine lv_iload_n hx hb dX8_rowsOf_10 rfl (lv_at hl 2 rfl) ?_
  refine lv_ishl hx hb dX8_rowsOf_11 ?_
  refine lv_topE (y := (nI (2 ^ (b + 1)))) (sh_2 b (by omega)) ?_
  refine lv_iconst (v := 1) hx hb dX8_rowsOf_12 (by decide) ?_
  refine lv_isub hx hb dX8_rowsOf_13 ?_
  refine lv_topE (y := (nI (2 ^ (b + 1) - 1))) (pk_sub (a := 2 ^ (b + 1)) (b := 1) (Nat.two_pow_pos _)) ?_
  refine lv_iconst (v := 0) hx hb dX8_rowsOf_14 (by decide) ?_
  refine lv_iconst (v := 0) hx hb dX8_rowsOf_15 (by decide) ?_
  refine lv_iconst (v := (-1)) hx hb dX8_rowsOf_16 (by decide) ?_
  refine r_cv X hS (r_runV (As := [.int (nI (2 ^ a)), .int (nI (2 ^ (b + 1) - 1)), .int 0, .int 0, .int (-1)]) (rest := []) C0 X hP L_X8_271 (fun sz => c_X8_reaches l D cA ad o σ (stm σ 91 23 0) [] (2 ^ a) (2 ^ (b + 1) - 1) 0 0 (-1) a b (stC a b) 0 ha hb3 (RepR_0 a b σ) (QG_0 a b) (st_vcd ha hb3) (by rw [enc_s a (by omega) b (by omega)]; omega) (by decide) sz) (show 91 < 106 ∧ kd 91 = (8, 24) from ⟨by decide, rfl⟩).1 (show 91 < 106 ∧ kd 91 = (8, 24) from ⟨by decide, rfl⟩).2 (by decide) rfl ⟨Nat.le_of_ble_eq_true rfl, Nat.le_of_ble_eq_true rfl⟩ rfl hl.1 rfl (Nat.le_of_ble_eq_true rfl) dX8_rowsOf_17 ⟨Nat.zero_le _, Nat.zero_le _⟩) (fun σw_1 H locs hw_1 hP hS => ?_)
  refine lv_iconst (v := 2) hx hb dX8_rowsOf_20 (by decide) ?_
  refine lv_iload_n hx hb dX8_rowsOf_21 rfl (lv_at hl 2 rfl) ?_
  refine lv_ishl hx hb dX8_rowsOf_22 ?_
  refine lv_topE (y := (nI (2 ^ (b + 1)))) (sh_2 b (by omega)) ?_
  refine lv_iconst (v := 1) hx hb dX8_rowsOf_23 (by decide) ?_
  refine lv_isub hx hb dX8_rowsOf_24 ?_
  refine lv_topE (y := (nI (2 ^ (b + 1) - 1))) (pk_sub (a := 2 ^ (b + 1)) (b := 1) (Nat.two_pow_pos _)) ?_
  refine lv_sipush (v := 128) hx hb dX8_rowsOf_25 (by decide) ?_
  refine lv_imul hx hb dX8_rowsOf_28 ?_
  refine lv_topE (y := (nI ((2 ^ (b + 1) - 1) * 128))) (pk_mul _ 128) ?_
  refine lv_iconst (v := 1) hx hb dX8_rowsOf_29 (by decide) ?_
  refine lv_iload_n hx hb dX8_rowsOf_30 rfl (lv_at hl 1 rfl) ?_
  refine lv_ishl hx hb dX8_rowsOf_31 ?_
  refine lv_topE (y := (nI (2 ^ a))) (sh_1 a (by omega)) ?_
  refine lv_iadd hx hb dX8_rowsOf_32 ?_
  refine lv_topE (y := (nI ((2 ^ (b + 1) - 1) * 128 + 2 ^ a))) (nI_add _ _) ?_
  refine lv_istore (lv' := [(6, .int (nI ((2 ^ (b + 1) - 1) * 128 + 2 ^ a))), (0, .ref (ad 91)), (1, .int (nI a)), (2, .int (nI b)), (3, .int (nI q)), (4, .int (nI x)), (5, .int (nI z))]) hx hb dX8_rowsOf_33 hl (by decide) rfl (fun ls hl => ?_)
  refine lv_iconst (v := 0) hx hb dX8_rowsOf_35 (by decide) ?_
  refine lv_istore (lv' := [(7, .int 0), (6, .int (nI ((2 ^ (b + 1) - 1) * 128 + 2 ^ a))), (0, .ref (ad 91)), (1, .int (nI a)), (2, .int (nI b)), (3, .int (nI q)), (4, .int (nI x)), (5, .int (nI z))]) hx hb dX8_rowsOf_36 hl (by decide) rfl (fun ls hl => ?_)
  have lp_2 : ∀ (nn : Nat) (i : Nat) (μ : Mem) (H : Heap) (locs : List Loc) (ls : Array Slot), RepR σ a b (QB a b q x z i) μ → i ≤ (QB a b q x z i).length → (∀ j c d : Nat, j < i → (QB a b q x z i)[j]? = some (c, d) → c ≠ wtC a b) → WP D cA ad o μ H → va_S (FA ad s.heap.size) s.heap H locs → lv_has ls 16 [(0, .ref (ad 91)), (3, .int (nI q)), (4, .int (nI x)), (5, .int (nI z)), (6, .int (nI ((2 ^ (b + 1) - 1) * 128 + 2 ^ a))), (7, .int (nI i))] → (900 - i) < nn → W p l e (RM 1) s m ([.ref (ad 91), .int (nI a), .int (nI b), .int (nI q), .int (nI x), .int (nI z)] : List Value).toArray below meth c H locs 0 0 (MQ below (va_Qi (fun r (σ9 : Mem) => r = RWn a b q x z ∧ Fr9 σ σ9) (QW D cA ad o) (FA ad s.heap.size)) ([.ref (ad 91), .int (nI a), .int (nI b), .int (nI q), .int (nI x), .int (nI z)] : List Value).toArray s 0 0 (FA ad s.heap.size)) (F0 m 38 ls []) := by
    intro nn
    induction nn with
    | zero => intro i μ H locs ls hR1 hi hno hP hS hl hn; exact absurd hn (Nat.not_lt_zero _)
    | succ nn ih =>
      intro i μ H locs ls hR1 hi hno hP hS hl hn
      have hL9 := QG_len ha hb3 (QB_g (q := q) (z := z) ha hb3 hxb i)
      refine lv_iload hx hb dX8_rowsOf_38 (lv_at hl 5 rfl) ?_
      refine lv_aload_n hx hb dX8_rowsOf_40 rfl (lv_at hl 0 rfl) ?_
      refine gf_X8_268 C0 X hP 91 ⟨by decide, rfl⟩ dX8_rowsOf_41 ?_
      refine lv_topE (y := (nI (QB a b q x z i).length)) hR1.1.1 ?_
      refine lv_icmp_ge (tgt := 412) hx hb dX8_rowsOf_44 (by decide) (fun c_3 => ?_) (fun c_3 => ?_)
      · refine lv_bipush (v := (-4)) hx hb dX8_rowsOf_412 (by decide) ?_
        exact r_iret C0 X hP hS hr hlk dX8_rowsOf_414 ⟨(by rw [← RWn_at (i := i) (by omega) (Or.inl (Nat.not_lt.mp (nI_nlt_of c_3 (by omega)))), resQ_miss (fun hm => by obtain ⟨k9, d9, hg9⟩ := mem_fst hm; exact hno k9 _ d9 (Nat.lt_of_lt_of_le (List.getElem?_eq_some_iff.mp hg9).1 (Nat.not_lt.mp (nI_nlt_of c_3 (by omega)))) hg9 rfl)]), hR1.2⟩
      · have hi2 : i < (QB a b q x z i).length := nI_lt_of c_3 (by omega)
        obtain ⟨c9, d9, hg⟩ := getQ hi2
        have hk9 := hR1.1.2 i c9 d9 hg
        have hv9 := (QB_g (q := q) (z := z) ha hb3 hxb i).2 c9 (List.mem_map.mpr ⟨(c9, d9), List.mem_of_getElem? hg, rfl⟩)
        have hb9 := enc_b ha hb3 hv9
        have hEl := enc_lt ha hb3 hv9
        have hE : enc a b c9 = ((oneN (c9 % 128) (eyN c9)) * 128 + (othN (c9 % 128) (eyN c9))) * 16 + (xN a c9) * 4 + (yN b c9) := rfl
        have hll : c9 % 128 < 128 := Nat.mod_lt _ (by decide)
        have hl7 := ln_lt _ hll
        have hpc := ln_f1 _ hll hv9.2.2.1
        have hvv := hv9.2
        have hey : eyN c9 = Nat.log2 (c9 % 128) - c9 / 128 := rfl
        have hxn : xN a c9 = a - (pcN (c9 % 128) - 1) := rfl
        have hyn : yN b c9 = b - (Nat.log2 (c9 % 128) - (pcN (c9 % 128) - 1)) := rfl
        have hall : ∀ c ∈ nbrL a b q x z (c9 / 128) (c9 % 128), vcd a b c := nbr_ok ha hb3 hxb hv9.2.1 hll hv9.2.2.1 hv9.2.2.2.1 hv9.2.2.2.2
        have hsum : ¬ nI q ≤ nI (xN a c9 + yN b c9) → a + b - Nat.log2 (c9 % 128) < q := fun h9 => by have := nI_lt_of h9 (by omega); omega
        have hsumn : nI q ≤ nI (xN a c9 + yN b c9) → ¬ a + b - Nat.log2 (c9 % 128) < q := fun h9 => by have := nI_nlt_of h9 (by omega); omega
        have hones : ¬ nI (xN a c9) ≤ 0 → pcN (c9 % 128) - 1 < a := fun h9 => by have := nI_pos_of h9; omega
        have honesn : nI (xN a c9) ≤ 0 → ¬ pcN (c9 % 128) - 1 < a := fun h9 => by have := nI_zero_of (by omega) h9; omega
        have hzeros : ¬ nI (yN b c9) ≤ 0 → Nat.log2 (c9 % 128) - (pcN (c9 % 128) - 1) < b := fun h9 => by have := nI_pos_of h9; omega
        have hzerosn : nI (yN b c9) ≤ 0 → ¬ Nat.log2 (c9 % 128) - (pcN (c9 % 128) - 1) < b := fun h9 => by have := nI_zero_of (by omega) h9; omega
        refine lv_aload_n hx hb dX8_rowsOf_47 rfl (lv_at hl 0 rfl) ?_
        refine gf_X8_46 C0 X hP 91 (q := 104) ⟨by decide, rfl⟩ (by omega) rfl dX8_rowsOf_48 ?_
        refine lv_iload hx hb dX8_rowsOf_51 (lv_at hl 5 rfl) ?_
        refine r_ialdN C0 X hP 104 (k := i) ⟨by decide, rfl⟩ rfl (by omega) dX8_rowsOf_53 ?_
        refine lv_topE (y := (nI (enc a b c9))) hk9.1 ?_
        refine lv_istore (lv' := [(8, .int (nI (enc a b c9))), (0, .ref (ad 91)), (3, .int (nI q)), (4, .int (nI x)), (5, .int (nI z)), (6, .int (nI ((2 ^ (b + 1) - 1) * 128 + 2 ^ a))), (7, .int (nI i))]) hx hb dX8_rowsOf_54 hl (by decide) rfl (fun ls hl => ?_)
        refine lv_iload hx hb dX8_rowsOf_56 (lv_at hl 0 rfl) ?_
        refine lv_bipush (v := 16) hx hb dX8_rowsOf_58 (by decide) ?_
        refine lv_idiv hx hb dX8_rowsOf_60 (by decide) ?_
        refine lv_topE (y := (nI (enc a b c9 / 16))) (pk_div16 (by omega)) ?_
        refine lv_sipush (v := 128) hx hb dX8_rowsOf_61 (by decide) ?_
        refine lv_idiv hx hb dX8_rowsOf_64 (by decide) ?_
        refine lv_topE (y := (nI (oneN (c9 % 128) (eyN c9)))) (by rw [pk_div128 (by omega), show enc a b c9 / 16 / 128 = (oneN (c9 % 128) (eyN c9)) by omega]) ?_
        refine lv_istore (lv' := [(9, .int (nI (oneN (c9 % 128) (eyN c9)))), (8, .int (nI (enc a b c9))), (0, .ref (ad 91)), (3, .int (nI q)), (4, .int (nI x)), (5, .int (nI z)), (6, .int (nI ((2 ^ (b + 1) - 1) * 128 + 2 ^ a))), (7, .int (nI i))]) hx hb dX8_rowsOf_65 hl (by decide) rfl (fun ls hl => ?_)
        refine lv_iload hx hb dX8_rowsOf_67 (lv_at hl 1 rfl) ?_
        refine lv_bipush (v := 16) hx hb dX8_rowsOf_69 (by decide) ?_
        refine lv_idiv hx hb dX8_rowsOf_71 (by decide) ?_
        refine lv_topE (y := (nI (enc a b c9 / 16))) (pk_div16 (by omega)) ?_
        refine lv_sipush (v := 128) hx hb dX8_rowsOf_72 (by decide) ?_
        refine lv_irem hx hb dX8_rowsOf_75 (by decide) ?_
        refine lv_topE (y := (nI (othN (c9 % 128) (eyN c9)))) (by rw [pk_rem128 (by omega), show enc a b c9 / 16 % 128 = (othN (c9 % 128) (eyN c9)) by omega]) ?_
        refine lv_istore (lv' := [(10, .int (nI (othN (c9 % 128) (eyN c9)))), (9, .int (nI (oneN (c9 % 128) (eyN c9)))), (8, .int (nI (enc a b c9))), (0, .ref (ad 91)), (3, .int (nI q)), (4, .int (nI x)), (5, .int (nI z)), (6, .int (nI ((2 ^ (b + 1) - 1) * 128 + 2 ^ a))), (7, .int (nI i))]) hx hb dX8_rowsOf_76 hl (by decide) rfl (fun ls hl => ?_)
        refine lv_iload hx hb dX8_rowsOf_78 (lv_at hl 2 rfl) ?_
        refine lv_iconst (v := 4) hx hb dX8_rowsOf_80 (by decide) ?_
        refine lv_idiv hx hb dX8_rowsOf_81 (by decide) ?_
        refine lv_topE (y := (nI (enc a b c9 / 4))) (pk_div4 (by omega)) ?_
        refine lv_iconst (v := 4) hx hb dX8_rowsOf_82 (by decide) ?_
        refine lv_irem hx hb dX8_rowsOf_83 (by decide) ?_
        refine lv_topE (y := (nI (xN a c9))) (by rw [pk_rem4 (by omega), show enc a b c9 / 4 % 4 = (xN a c9) by omega]) ?_
        refine lv_istore (lv' := [(11, .int (nI (xN a c9))), (10, .int (nI (othN (c9 % 128) (eyN c9)))), (9, .int (nI (oneN (c9 % 128) (eyN c9)))), (8, .int (nI (enc a b c9))), (0, .ref (ad 91)), (3, .int (nI q)), (4, .int (nI x)), (5, .int (nI z)), (6, .int (nI ((2 ^ (b + 1) - 1) * 128 + 2 ^ a))), (7, .int (nI i))]) hx hb dX8_rowsOf_84 hl (by decide) rfl (fun ls hl => ?_)
        refine lv_iload hx hb dX8_rowsOf_86 (lv_at hl 3 rfl) ?_
        refine lv_iconst (v := 4) hx hb dX8_rowsOf_88 (by decide) ?_
        refine lv_irem hx hb dX8_rowsOf_89 (by decide) ?_
        refine lv_topE (y := (nI (yN b c9))) (by rw [pk_rem4 (by omega), show enc a b c9 % 4 = (yN b c9) by omega]) ?_
        refine lv_istore (lv' := [(12, .int (nI (yN b c9))), (11, .int (nI (xN a c9))), (10, .int (nI (othN (c9 % 128) (eyN c9)))), (9, .int (nI (oneN (c9 % 128) (eyN c9)))), (8, .int (nI (enc a b c9))), (0, .ref (ad 91)), (3, .int (nI q)), (4, .int (nI x)), (5, .int (nI z)), (6, .int (nI ((2 ^ (b + 1) - 1) * 128 + 2 ^ a))), (7, .int (nI i))]) hx hb dX8_rowsOf_90 hl (by decide) rfl (fun ls hl => ?_)
        refine lv_aload_n hx hb dX8_rowsOf_92 rfl (lv_at hl 5 rfl) ?_
        refine gf_X8_43 C0 X hP 91 (q := 103) ⟨by decide, rfl⟩ (by omega) rfl dX8_rowsOf_93 ?_
        refine lv_iload hx hb dX8_rowsOf_96 (lv_at hl 10 rfl) ?_
        refine r_ialdN C0 X hP 103 (k := i) ⟨by decide, rfl⟩ rfl (by omega) dX8_rowsOf_98 ?_
        refine lv_topE (y := (nI d9)) hk9.2 ?_
        refine lv_istore (lv' := [(13, .int (nI d9)), (12, .int (nI (yN b c9))), (11, .int (nI (xN a c9))), (10, .int (nI (othN (c9 % 128) (eyN c9)))), (9, .int (nI (oneN (c9 % 128) (eyN c9)))), (8, .int (nI (enc a b c9))), (0, .ref (ad 91)), (3, .int (nI q)), (4, .int (nI x)), (5, .int (nI z)), (6, .int (nI ((2 ^ (b + 1) - 1) * 128 + 2 ^ a))), (7, .int (nI i))]) hx hb dX8_rowsOf_99 hl (by decide) rfl (fun ls hl => ?_)
        refine lv_iload hx hb dX8_rowsOf_101 (lv_at hl 5 rfl) ?_
        refine lv_bipush (v := 16) hx hb dX8_rowsOf_103 (by decide) ?_
        refine lv_iload hx hb dX8_rowsOf_105 (lv_at hl 10 rfl) ?_
        refine lv_imul hx hb dX8_rowsOf_107 ?_
        refine lv_topE (y := (nI (16 * ((2 ^ (b + 1) - 1) * 128 + 2 ^ a)))) (pk_mul 16 _) ?_
        refine lv_icmp_ne (tgt := 114) hx hb dX8_rowsOf_108 (by decide) (fun c_4 => ?_) (fun c_4 => ?_)
        · have hne9 : c9 ≠ wtC a b := fun e9 => c_4 (by rw [e9, enc_w a (by omega) b (by omega)])
          refine lv_iload hx hb dX8_rowsOf_114 (lv_at hl 4 rfl) ?_
          refine r_ci X hS (r_runS (As := [.int (nI (oneN (c9 % 128) (eyN c9)))]) (rest := []) C0 X hP L_X8_275 (fun sz => c_X8_manyOf l D cA ad o μ (oneN (c9 % 128) (eyN c9)) hb9.1 sz) ⟨Nat.le_of_ble_eq_true rfl, Nat.le_of_ble_eq_true rfl⟩ rfl hl.1 rfl (Nat.le_of_ble_eq_true rfl) dX8_rowsOf_116 ⟨Nat.zero_le _, Nat.zero_le _⟩) (fun r σ9 H locs hw hP hS => ?_)
          rw [hw.2] at hP
          rw [hw.1]
          refine lv_topE (y := (nI (c9 / 128))) (by rw [hb9.2.2.2.2.2.2.1]) ?_
          refine lv_istore (lv' := [(14, .int (nI (c9 / 128))), (13, .int (nI d9)), (12, .int (nI (yN b c9))), (11, .int (nI (xN a c9))), (10, .int (nI (othN (c9 % 128) (eyN c9)))), (9, .int (nI (oneN (c9 % 128) (eyN c9)))), (8, .int (nI (enc a b c9))), (0, .ref (ad 91)), (3, .int (nI q)), (4, .int (nI x)), (5, .int (nI z)), (6, .int (nI ((2 ^ (b + 1) - 1) * 128 + 2 ^ a))), (7, .int (nI i))]) hx hb dX8_rowsOf_119 hl (by decide) rfl (fun ls hl => ?_)
          refine lv_iload hx hb dX8_rowsOf_121 (lv_at hl 4 rfl) ?_
          refine r_ci X hS (r_runS (As := [.int (nI (othN (c9 % 128) (eyN c9)))]) (rest := []) C0 X hP L_X8_275 (fun sz => c_X8_manyOf l D cA ad o μ (othN (c9 % 128) (eyN c9)) hb9.2.1 sz) ⟨Nat.le_of_ble_eq_true rfl, Nat.le_of_ble_eq_true rfl⟩ rfl hl.1 rfl (Nat.le_of_ble_eq_true rfl) dX8_rowsOf_123 ⟨Nat.zero_le _, Nat.zero_le _⟩) (fun r σ9 H locs hw hP hS => ?_)
          rw [hw.2] at hP
          rw [hw.1]
          refine lv_topE (y := (nI (eyN c9))) (by rw [hb9.2.2.2.2.2.2.2]) ?_
          refine lv_istore (lv' := [(15, .int (nI (eyN c9))), (14, .int (nI (c9 / 128))), (13, .int (nI d9)), (12, .int (nI (yN b c9))), (11, .int (nI (xN a c9))), (10, .int (nI (othN (c9 % 128) (eyN c9)))), (9, .int (nI (oneN (c9 % 128) (eyN c9)))), (8, .int (nI (enc a b c9))), (0, .ref (ad 91)), (3, .int (nI q)), (4, .int (nI x)), (5, .int (nI z)), (6, .int (nI ((2 ^ (b + 1) - 1) * 128 + 2 ^ a))), (7, .int (nI i))]) hx hb dX8_rowsOf_126 hl (by decide) rfl (fun ls hl => ?_)
          have jp_5 : ∀ (μ1 : Mem) (H : Heap) (locs : List Loc) (ls : Array Slot), RepR σ a b (foldQ (QB a b q x z i) (mm1 z (c9 / 128) (c9 % 128)) (d9 + 1)) μ1 → WP D cA ad o μ1 H → va_S (FA ad s.heap.size) s.heap H locs → lv_has ls 16 [(0, .ref (ad 91)), (3, .int (nI q)), (4, .int (nI x)), (5, .int (nI z)), (6, .int (nI ((2 ^ (b + 1) - 1) * 128 + 2 ^ a))), (7, .int (nI i)), (9, .int (nI (oneN (c9 % 128) (eyN c9)))), (10, .int (nI (othN (c9 % 128) (eyN c9)))), (11, .int (nI (xN a c9))), (12, .int (nI (yN b c9))), (13, .int (nI d9)), (14, .int (nI (c9 / 128))), (15, .int (nI (eyN c9)))] → W p l e (RM 1) s m ([.ref (ad 91), .int (nI a), .int (nI b), .int (nI q), .int (nI x), .int (nI z)] : List Value).toArray below meth c H locs 0 0 (MQ below (va_Qi (fun r (σ9 : Mem) => r = RWn a b q x z ∧ Fr9 σ σ9) (QW D cA ad o) (FA ad s.heap.size)) ([.ref (ad 91), .int (nI a), .int (nI b), .int (nI q), .int (nI x), .int (nI z)] : List Value).toArray s 0 0 (FA ad s.heap.size)) (F0 m 163 ls []) := by
            intro μ1 H locs ls hRa hP hS hl
            have jp_6 : ∀ (μ2 : Mem) (H : Heap) (locs : List Loc) (ls : Array Slot), RepR σ a b (foldQ (QB a b q x z i) (mm1 z (c9 / 128) (c9 % 128) ++ mm2 x (c9 / 128) (c9 % 128)) (d9 + 1)) μ2 → WP D cA ad o μ2 H → va_S (FA ad s.heap.size) s.heap H locs → lv_has ls 16 [(0, .ref (ad 91)), (3, .int (nI q)), (4, .int (nI x)), (5, .int (nI z)), (6, .int (nI ((2 ^ (b + 1) - 1) * 128 + 2 ^ a))), (7, .int (nI i)), (9, .int (nI (oneN (c9 % 128) (eyN c9)))), (10, .int (nI (othN (c9 % 128) (eyN c9)))), (11, .int (nI (xN a c9))), (12, .int (nI (yN b c9))), (13, .int (nI d9)), (14, .int (nI (c9 / 128))), (15, .int (nI (eyN c9)))] → W p l e (RM 1) s m ([.ref (ad 91), .int (nI a), .int (nI b), .int (nI q), .int (nI x), .int (nI z)] : List Value).toArray below meth c H locs 0 0 (MQ below (va_Qi (fun r (σ9 : Mem) => r = RWn a b q x z ∧ Fr9 σ σ9) (QW D cA ad o) (FA ad s.heap.size)) ([.ref (ad 91), .int (nI a), .int (nI b), .int (nI q), .int (nI x), .int (nI z)] : List Value).toArray s 0 0 (FA ad s.heap.size)) (F0 m 198 ls []) := by
              intro μ2 H locs ls hR2 hP hS hl
              have jp_7 : ∀ (μ3 : Mem) (H : Heap) (locs : List Loc) (ls : Array Slot), RepR σ a b (foldQ (QB a b q x z i) (mm1 z (c9 / 128) (c9 % 128) ++ mm2 x (c9 / 128) (c9 % 128) ++ mm3 a b q (c9 / 128) (c9 % 128)) (d9 + 1)) μ3 → WP D cA ad o μ3 H → va_S (FA ad s.heap.size) s.heap H locs → lv_has ls 16 [(0, .ref (ad 91)), (3, .int (nI q)), (4, .int (nI x)), (5, .int (nI z)), (6, .int (nI ((2 ^ (b + 1) - 1) * 128 + 2 ^ a))), (7, .int (nI i)), (9, .int (nI (oneN (c9 % 128) (eyN c9)))), (10, .int (nI (othN (c9 % 128) (eyN c9)))), (11, .int (nI (xN a c9))), (12, .int (nI (yN b c9))), (13, .int (nI d9)), (14, .int (nI (c9 / 128))), (15, .int (nI (eyN c9)))] → W p l e (RM 1) s m ([.ref (ad 91), .int (nI a), .int (nI b), .int (nI q), .int (nI x), .int (nI z)] : List Value).toArray below meth c H locs 0 0 (MQ below (va_Qi (fun r (σ9 : Mem) => r = RWn a b q x z ∧ Fr9 σ σ9) (QW D cA ad o) (FA ad s.heap.size)) ([.ref (ad 91), .int (nI a), .int (nI b), .int (nI q), .int (nI x), .int (nI z)] : List Value).toArray s 0 0 (FA ad s.heap.size)) (F0 m 240 ls []) := by
                intro μ3 H locs ls hR3 hP hS hl
                have jp_8 : ∀ (μ4 : Mem) (H : Heap) (locs : List Loc) (ls : Array Slot), RepR σ a b (foldQ (QB a b q x z i) (mm1 z (c9 / 128) (c9 % 128) ++ mm2 x (c9 / 128) (c9 % 128) ++ mm3 a b q (c9 / 128) (c9 % 128) ++ mm4 a b q (c9 / 128) (c9 % 128)) (d9 + 1)) μ4 → WP D cA ad o μ4 H → va_S (FA ad s.heap.size) s.heap H locs → lv_has ls 16 [(0, .ref (ad 91)), (3, .int (nI q)), (4, .int (nI x)), (5, .int (nI z)), (6, .int (nI ((2 ^ (b + 1) - 1) * 128 + 2 ^ a))), (7, .int (nI i)), (9, .int (nI (oneN (c9 % 128) (eyN c9)))), (10, .int (nI (othN (c9 % 128) (eyN c9)))), (11, .int (nI (xN a c9))), (12, .int (nI (yN b c9))), (13, .int (nI d9)), (14, .int (nI (c9 / 128))), (15, .int (nI (eyN c9)))] → W p l e (RM 1) s m ([.ref (ad 91), .int (nI a), .int (nI b), .int (nI q), .int (nI x), .int (nI z)] : List Value).toArray below meth c H locs 0 0 (MQ below (va_Qi (fun r (σ9 : Mem) => r = RWn a b q x z ∧ Fr9 σ σ9) (QW D cA ad o) (FA ad s.heap.size)) ([.ref (ad 91), .int (nI a), .int (nI b), .int (nI q), .int (nI x), .int (nI z)] : List Value).toArray s 0 0 (FA ad s.heap.size)) (F0 m 282 ls []) := by
                  intro μ4 H locs ls hR4 hP hS hl
                  have jp_9 : ∀ (μ5 : Mem) (H : Heap) (locs : List Loc) (ls : Array Slot), RepR σ a b (foldQ (QB a b q x z i) (mm1 z (c9 / 128) (c9 % 128) ++ mm2 x (c9 / 128) (c9 % 128) ++ mm3 a b q (c9 / 128) (c9 % 128) ++ mm4 a b q (c9 / 128) (c9 % 128) ++ m5a a x (c9 / 128) (c9 % 128)) (d9 + 1)) μ5 → WP D cA ad o μ5 H → va_S (FA ad s.heap.size) s.heap H locs → lv_has ls 16 [(0, .ref (ad 91)), (3, .int (nI q)), (4, .int (nI x)), (5, .int (nI z)), (6, .int (nI ((2 ^ (b + 1) - 1) * 128 + 2 ^ a))), (7, .int (nI i)), (9, .int (nI (oneN (c9 % 128) (eyN c9)))), (10, .int (nI (othN (c9 % 128) (eyN c9)))), (11, .int (nI (xN a c9))), (12, .int (nI (yN b c9))), (13, .int (nI d9)), (14, .int (nI (c9 / 128))), (15, .int (nI (eyN c9)))] → W p l e (RM 1) s m ([.ref (ad 91), .int (nI a), .int (nI b), .int (nI q), .int (nI x), .int (nI z)] : List Value).toArray below meth c H locs 0 0 (MQ below (va_Qi (fun r (σ9 : Mem) => r = RWn a b q x z ∧ Fr9 σ σ9) (QW D cA ad o) (FA ad s.heap.size)) ([.ref (ad 91), .int (nI a), .int (nI b), .int (nI q), .int (nI x), .int (nI z)] : List Value).toArray s 0 0 (FA ad s.heap.size)) (F0 m 312 ls []) := by
                    intro μ5 H locs ls hR5 hP hS hl
                    have jp_10 : ∀ (μ6 : Mem) (H : Heap) (locs : List Loc) (ls : Array Slot), RepR σ a b (foldQ (QB a b q x z i) (mm1 z (c9 / 128) (c9 % 128) ++ mm2 x (c9 / 128) (c9 % 128) ++ mm3 a b q (c9 / 128) (c9 % 128) ++ mm4 a b q (c9 / 128) (c9 % 128) ++ m5a a x (c9 / 128) (c9 % 128) ++ m5b a z (c9 / 128) (c9 % 128)) (d9 + 1)) μ6 → WP D cA ad o μ6 H → va_S (FA ad s.heap.size) s.heap H locs → lv_has ls 16 [(0, .ref (ad 91)), (3, .int (nI q)), (4, .int (nI x)), (5, .int (nI z)), (6, .int (nI ((2 ^ (b + 1) - 1) * 128 + 2 ^ a))), (7, .int (nI i)), (9, .int (nI (oneN (c9 % 128) (eyN c9)))), (10, .int (nI (othN (c9 % 128) (eyN c9)))), (11, .int (nI (xN a c9))), (12, .int (nI (yN b c9))), (13, .int (nI d9)), (14, .int (nI (c9 / 128))), (15, .int (nI (eyN c9)))] → W p l e (RM 1) s m ([.ref (ad 91), .int (nI a), .int (nI b), .int (nI q), .int (nI x), .int (nI z)] : List Value).toArray below meth c H locs 0 0 (MQ below (va_Qi (fun r (σ9 : Mem) => r = RWn a b q x z ∧ Fr9 σ σ9) (QW D cA ad o) (FA ad s.heap.size)) ([.ref (ad 91), .int (nI a), .int (nI b), .int (nI q), .int (nI x), .int (nI z)] : List Value).toArray s 0 0 (FA ad s.heap.size)) (F0 m 342 ls []) := by
                      intro μ6 H locs ls hR6 hP hS hl
                      have jp_11 : ∀ (μ7 : Mem) (H : Heap) (locs : List Loc) (ls : Array Slot), RepR σ a b (foldQ (QB a b q x z i) (mm1 z (c9 / 128) (c9 % 128) ++ mm2 x (c9 / 128) (c9 % 128) ++ mm3 a b q (c9 / 128) (c9 % 128) ++ mm4 a b q (c9 / 128) (c9 % 128) ++ m5a a x (c9 / 128) (c9 % 128) ++ m5b a z (c9 / 128) (c9 % 128) ++ m6a b x (c9 / 128) (c9 % 128)) (d9 + 1)) μ7 → WP D cA ad o μ7 H → va_S (FA ad s.heap.size) s.heap H locs → lv_has ls 16 [(0, .ref (ad 91)), (3, .int (nI q)), (4, .int (nI x)), (5, .int (nI z)), (6, .int (nI ((2 ^ (b + 1) - 1) * 128 + 2 ^ a))), (7, .int (nI i)), (9, .int (nI (oneN (c9 % 128) (eyN c9)))), (10, .int (nI (othN (c9 % 128) (eyN c9)))), (11, .int (nI (xN a c9))), (12, .int (nI (yN b c9))), (13, .int (nI d9)), (14, .int (nI (c9 / 128))), (15, .int (nI (eyN c9)))] → W p l e (RM 1) s m ([.ref (ad 91), .int (nI a), .int (nI b), .int (nI q), .int (nI x), .int (nI z)] : List Value).toArray below meth c H locs 0 0 (MQ below (va_Qi (fun r (σ9 : Mem) => r = RWn a b q x z ∧ Fr9 σ σ9) (QW D cA ad o) (FA ad s.heap.size)) ([.ref (ad 91), .int (nI a), .int (nI b), .int (nI q), .int (nI x), .int (nI z)] : List Value).toArray s 0 0 (FA ad s.heap.size)) (F0 m 374 ls []) := by
                        intro μ7 H locs ls hR7 hP hS hl
                        have jp_12 : ∀ (μ8 : Mem) (H : Heap) (locs : List Loc) (ls : Array Slot), RepR σ a b (foldQ (QB a b q x z i) (mm1 z (c9 / 128) (c9 % 128) ++ mm2 x (c9 / 128) (c9 % 128) ++ mm3 a b q (c9 / 128) (c9 % 128) ++ mm4 a b q (c9 / 128) (c9 % 128) ++ m5a a x (c9 / 128) (c9 % 128) ++ m5b a z (c9 / 128) (c9 % 128) ++ m6a b x (c9 / 128) (c9 % 128) ++ m6b b z (c9 / 128) (c9 % 128)) (d9 + 1)) μ8 → WP D cA ad o μ8 H → va_S (FA ad s.heap.size) s.heap H locs → lv_has ls 16 [(0, .ref (ad 91)), (3, .int (nI q)), (4, .int (nI x)), (5, .int (nI z)), (6, .int (nI ((2 ^ (b + 1) - 1) * 128 + 2 ^ a))), (7, .int (nI i)), (9, .int (nI (oneN (c9 % 128) (eyN c9)))), (10, .int (nI (othN (c9 % 128) (eyN c9)))), (11, .int (nI (xN a c9))), (12, .int (nI (yN b c9))), (13, .int (nI d9)), (14, .int (nI (c9 / 128))), (15, .int (nI (eyN c9)))] → W p l e (RM 1) s m ([.ref (ad 91), .int (nI a), .int (nI b), .int (nI q), .int (nI x), .int (nI z)] : List Value).toArray below meth c H locs 0 0 (MQ below (va_Qi (fun r (σ9 : Mem) => r = RWn a b q x z ∧ Fr9 σ σ9) (QW D cA ad o) (FA ad s.heap.size)) ([.ref (ad 91), .int (nI a), .int (nI b), .int (nI q), .int (nI x), .int (nI z)] : List Value).toArray s 0 0 (FA ad s.heap.size)) (F0 m 406 ls []) := by
                          intro μ8 H locs ls hR8 hP hS hl
                          refine lv_iinc (v := (nI (i + 1))) (lv' := [(7, .int (nI (i + 1))), (0, .ref (ad 91)), (3, .int (nI q)), (4, .int (nI x)), (5, .int (nI z)), (6, .int (nI ((2 ^ (b + 1) - 1) * 128 + 2 ^ a))), (9, .int (nI (oneN (c9 % 128) (eyN c9)))), (10, .int (nI (othN (c9 % 128) (eyN c9)))), (11, .int (nI (xN a c9))), (12, .int (nI (yN b c9))), (13, .int (nI d9)), (14, .int (nI (c9 / 128))), (15, .int (nI (eyN c9)))]) hx hb dX8_rowsOf_406 hl (k := 5) rfl (nI_1 _) (by decide) rfl (fun ls hl => ?_)
                          refine lv_goto (tgt := 38) hx hb dX8_rowsOf_409 (by decide) ?_
                          exact ih (i + 1) μ8 _ _ ls (by rw [← QB_s hg, nbrL_eq]; exact hR8) (by rw [← QB_s hg]; exact Nat.le_trans hi2 (foldQ_len _ _ _)) (QB_no hg hne9 hno) hP hS (lv_sub hl [1, 2, 3, 4, 5, 0] rfl) (by omega)
                        refine lv_iload hx hb dX8_rowsOf_374 (lv_at hl 9 rfl) ?_
                        refine lv_if_le (tgt := 406) hx hb dX8_rowsOf_376 (by decide) (fun c_13 => ?_) (fun c_13 => ?_)
                        · exact jp_12 μ7 _ _ ls (by rw [foldQ_app, m6b, if_neg (hzerosn c_13)]; exact hR7) hP hS (lv_sub hl [0, 1, 2, 3, 4, 5, 6, 7, 8, 9, 10, 11, 12] rfl)
                        · refine lv_iload hx hb dX8_rowsOf_379 (lv_at hl 12 rfl) ?_
                          refine lv_iload hx hb dX8_rowsOf_381 (lv_at hl 3 rfl) ?_
                          refine lv_icmp_ge (tgt := 406) hx hb dX8_rowsOf_383 (by decide) (fun c_14 => ?_) (fun c_14 => ?_)
                          · exact jp_12 μ7 _ _ ls (by rw [foldQ_app, m6b]; split; rw [cb2, if_neg (show ¬ Nat.log2 (c9 % 128) - c9 / 128 < z from nI_nlt_of c_14 (by omega))]; exact hR7; exact hR7) hP hS (lv_sub hl [0, 1, 2, 3, 4, 5, 6, 7, 8, 9, 10, 11, 12] rfl)
                          · refine lv_aload_n hx hb dX8_rowsOf_386 rfl (lv_at hl 0 rfl) ?_
                            refine lv_iload hx hb dX8_rowsOf_387 (lv_at hl 6 rfl) ?_
                            refine lv_iconst (v := 2) hx hb dX8_rowsOf_389 (by decide) ?_
                            refine lv_iload hx hb dX8_rowsOf_390 (lv_at hl 7 rfl) ?_
                            refine lv_imul hx hb dX8_rowsOf_392 ?_
                            refine lv_topE (y := (nI (2 * (othN (c9 % 128) (eyN c9))))) (pk_mul 2 _) ?_
                            refine lv_iconst (v := 1) hx hb dX8_rowsOf_393 (by decide) ?_
                            refine lv_iadd hx hb dX8_rowsOf_394 ?_
                            refine lv_topE (y := (nI (2 * (othN (c9 % 128) (eyN c9)) + 1))) (nI_1 _) ?_
                            refine lv_iload hx hb dX8_rowsOf_395 (lv_at hl 8 rfl) ?_
                            refine lv_iload hx hb dX8_rowsOf_397 (lv_at hl 9 rfl) ?_
                            refine lv_iconst (v := 1) hx hb dX8_rowsOf_399 (by decide) ?_
                            refine lv_isub hx hb dX8_rowsOf_400 ?_
                            refine lv_topE (y := (nI ((yN b c9) - 1))) (pk_sub (a := (yN b c9)) (b := 1) (nI_pos_of c_13)) ?_
                            refine lv_iload hx hb dX8_rowsOf_401 (lv_at hl 10 rfl) ?_
                            refine r_cv X hS (r_runV (As := [.int (nI (oneN (c9 % 128) (eyN c9))), .int (nI (2 * (othN (c9 % 128) (eyN c9)) + 1)), .int (nI (xN a c9)), .int (nI ((yN b c9) - 1)), .int (nI d9)]) (rest := []) C0 X hP L_X8_271 (fun sz => c_X8_reaches l D cA ad o σ μ7 (foldQ (QB a b q x z i) (mm1 z (c9 / 128) (c9 % 128) ++ mm2 x (c9 / 128) (c9 % 128) ++ mm3 a b q (c9 / 128) (c9 % 128) ++ mm4 a b q (c9 / 128) (c9 % 128) ++ m5a a x (c9 / 128) (c9 % 128) ++ m5b a z (c9 / 128) (c9 % 128) ++ m6a b x (c9 / 128) (c9 % 128)) (d9 + 1)) (oneN (c9 % 128) (eyN c9)) (2 * (othN (c9 % 128) (eyN c9)) + 1) (xN a c9) ((yN b c9) - 1) (nI d9) a b ((c9 / 128) * 128 + lgN (c9 % 128) (Nat.log2 (c9 % 128) - (c9 / 128)) 0) (d9 + 1) ha hb3 hR7 (QG_fold (QB_g ha hb3 hxb i) _ (fun w9 hw9 => hall w9 (by rw [nbrL_eq]; exact List.mem_append_left _ (hw9)))) (hall _ (by rw [nbrL_eq, m6b, if_pos (hzeros c_13), cb2, if_pos (show Nat.log2 (c9 % 128) - c9 / 128 < z from nI_lt_of c_14 (by omega))]; simp)) (mv8 ha hb3 hv9 (nI_pos_of c_13)) (nI_1 _) sz) (show 91 < 106 ∧ kd 91 = (8, 24) from ⟨by decide, rfl⟩).1 (show 91 < 106 ∧ kd 91 = (8, 24) from ⟨by decide, rfl⟩).2 (by decide) rfl ⟨Nat.le_of_ble_eq_true rfl, Nat.le_of_ble_eq_true rfl⟩ rfl hl.1 rfl (Nat.le_of_ble_eq_true rfl) dX8_rowsOf_403 ⟨Nat.zero_le _, Nat.zero_le _⟩) (fun σw_15 H locs hw_15 hP hS => ?_)
                            exact jp_12 σw_15 _ _ ls (by rw [foldQ_app, m6b, if_pos (hzeros c_13), cb2, if_pos (show Nat.log2 (c9 % 128) - c9 / 128 < z from nI_lt_of c_14 (by omega)), foldQ_one]; exact hw_15) hP hS (lv_sub hl [0, 1, 2, 3, 4, 5, 6, 7, 8, 9, 10, 11, 12] rfl)
                      refine lv_iload hx hb dX8_rowsOf_342 (lv_at hl 9 rfl) ?_
                      refine lv_if_le (tgt := 374) hx hb dX8_rowsOf_344 (by decide) (fun c_16 => ?_) (fun c_16 => ?_)
                      · exact jp_11 μ6 _ _ ls (by rw [foldQ_app, m6a, if_neg (hzerosn c_16)]; exact hR6) hP hS (lv_sub hl [0, 1, 2, 3, 4, 5, 6, 7, 8, 9, 10, 11, 12] rfl)
                      · refine lv_iload hx hb dX8_rowsOf_347 (lv_at hl 11 rfl) ?_
                        refine lv_iload hx hb dX8_rowsOf_349 (lv_at hl 2 rfl) ?_
                        refine lv_icmp_ge (tgt := 374) hx hb dX8_rowsOf_351 (by decide) (fun c_17 => ?_) (fun c_17 => ?_)
                        · exact jp_11 μ6 _ _ ls (by rw [foldQ_app, m6a]; split; rw [cb1, if_neg (nI_nlt_of c_17 (by omega))]; exact hR6; exact hR6) hP hS (lv_sub hl [0, 1, 2, 3, 4, 5, 6, 7, 8, 9, 10, 11, 12] rfl)
                        · refine lv_aload_n hx hb dX8_rowsOf_354 rfl (lv_at hl 0 rfl) ?_
                          refine lv_iconst (v := 2) hx hb dX8_rowsOf_355 (by decide) ?_
                          refine lv_iload hx hb dX8_rowsOf_356 (lv_at hl 6 rfl) ?_
                          refine lv_imul hx hb dX8_rowsOf_358 ?_
                          refine lv_topE (y := (nI (2 * (oneN (c9 % 128) (eyN c9))))) (pk_mul 2 _) ?_
                          refine lv_iconst (v := 1) hx hb dX8_rowsOf_359 (by decide) ?_
                          refine lv_iadd hx hb dX8_rowsOf_360 ?_
                          refine lv_topE (y := (nI (2 * (oneN (c9 % 128) (eyN c9)) + 1))) (nI_1 _) ?_
                          refine lv_iload hx hb dX8_rowsOf_361 (lv_at hl 7 rfl) ?_
                          refine lv_iload hx hb dX8_rowsOf_363 (lv_at hl 8 rfl) ?_
                          refine lv_iload hx hb dX8_rowsOf_365 (lv_at hl 9 rfl) ?_
                          refine lv_iconst (v := 1) hx hb dX8_rowsOf_367 (by decide) ?_
                          refine lv_isub hx hb dX8_rowsOf_368 ?_
                          refine lv_topE (y := (nI ((yN b c9) - 1))) (pk_sub (a := (yN b c9)) (b := 1) (nI_pos_of c_16)) ?_
                          refine lv_iload hx hb dX8_rowsOf_369 (lv_at hl 10 rfl) ?_
                          refine r_cv X hS (r_runV (As := [.int (nI (2 * (oneN (c9 % 128) (eyN c9)) + 1)), .int (nI (othN (c9 % 128) (eyN c9))), .int (nI (xN a c9)), .int (nI ((yN b c9) - 1)), .int (nI d9)]) (rest := []) C0 X hP L_X8_271 (fun sz => c_X8_reaches l D cA ad o σ μ6 (foldQ (QB a b q x z i) (mm1 z (c9 / 128) (c9 % 128) ++ mm2 x (c9 / 128) (c9 % 128) ++ mm3 a b q (c9 / 128) (c9 % 128) ++ mm4 a b q (c9 / 128) (c9 % 128) ++ m5a a x (c9 / 128) (c9 % 128) ++ m5b a z (c9 / 128) (c9 % 128)) (d9 + 1)) (2 * (oneN (c9 % 128) (eyN c9)) + 1) (othN (c9 % 128) (eyN c9)) (xN a c9) ((yN b c9) - 1) (nI d9) a b (((c9 / 128) + 1) * 128 + lgN (c9 % 128) (Nat.log2 (c9 % 128) - (c9 / 128)) 0) (d9 + 1) ha hb3 hR6 (QG_fold (QB_g ha hb3 hxb i) _ (fun w9 hw9 => hall w9 (by rw [nbrL_eq]; exact List.mem_append_left _ (List.mem_append_left _ (hw9))))) (hall _ (by rw [nbrL_eq, m6a, if_pos (hzeros c_16), cb1, if_pos (nI_lt_of c_17 (by omega))]; simp)) (mv7 ha hb3 hv9 (nI_pos_of c_16)) (nI_1 _) sz) (show 91 < 106 ∧ kd 91 = (8, 24) from ⟨by decide, rfl⟩).1 (show 91 < 106 ∧ kd 91 = (8, 24) from ⟨by decide, rfl⟩).2 (by decide) rfl ⟨Nat.le_of_ble_eq_true rfl, Nat.le_of_ble_eq_true rfl⟩ rfl hl.1 rfl (Nat.le_of_ble_eq_true rfl) dX8_rowsOf_371 ⟨Nat.zero_le _, Nat.zero_le _⟩) (fun σw_18 H locs hw_18 hP hS => ?_)
                          exact jp_11 σw_18 _ _ ls (by rw [foldQ_app, m6a, if_pos (hzeros c_16), cb1, if_pos (nI_lt_of c_17 (by omega)), foldQ_one]; exact hw_18) hP hS (lv_sub hl [0, 1, 2, 3, 4, 5, 6, 7, 8, 9, 10, 11, 12] rfl)
                    refine lv_iload hx hb dX8_rowsOf_312 (lv_at hl 8 rfl) ?_
                    refine lv_if_le (tgt := 342) hx hb dX8_rowsOf_314 (by decide) (fun c_19 => ?_) (fun c_19 => ?_)
                    · exact jp_10 μ5 _ _ ls (by rw [foldQ_app, m5b, if_neg (honesn c_19)]; exact hR5) hP hS (lv_sub hl [0, 1, 2, 3, 4, 5, 6, 7, 8, 9, 10, 11, 12] rfl)
                    · refine lv_iload hx hb dX8_rowsOf_317 (lv_at hl 12 rfl) ?_
                      refine lv_iload hx hb dX8_rowsOf_319 (lv_at hl 3 rfl) ?_
                      refine lv_icmp_ge (tgt := 342) hx hb dX8_rowsOf_321 (by decide) (fun c_20 => ?_) (fun c_20 => ?_)
                      · exact jp_10 μ5 _ _ ls (by rw [foldQ_app, m5b]; split; rw [cb2, if_neg (show ¬ Nat.log2 (c9 % 128) - c9 / 128 < z from nI_nlt_of c_20 (by omega))]; exact hR5; exact hR5) hP hS (lv_sub hl [0, 1, 2, 3, 4, 5, 6, 7, 8, 9, 10, 11, 12] rfl)
                      · refine lv_aload_n hx hb dX8_rowsOf_324 rfl (lv_at hl 0 rfl) ?_
                        refine lv_iload hx hb dX8_rowsOf_325 (lv_at hl 6 rfl) ?_
                        refine lv_iconst (v := 2) hx hb dX8_rowsOf_327 (by decide) ?_
                        refine lv_iload hx hb dX8_rowsOf_328 (lv_at hl 7 rfl) ?_
                        refine lv_imul hx hb dX8_rowsOf_330 ?_
                        refine lv_topE (y := (nI (2 * (othN (c9 % 128) (eyN c9))))) (pk_mul 2 _) ?_
                        refine lv_iload hx hb dX8_rowsOf_331 (lv_at hl 8 rfl) ?_
                        refine lv_iconst (v := 1) hx hb dX8_rowsOf_333 (by decide) ?_
                        refine lv_isub hx hb dX8_rowsOf_334 ?_
                        refine lv_topE (y := (nI ((xN a c9) - 1))) (pk_sub (a := (xN a c9)) (b := 1) (nI_pos_of c_19)) ?_
                        refine lv_iload hx hb dX8_rowsOf_335 (lv_at hl 9 rfl) ?_
                        refine lv_iload hx hb dX8_rowsOf_337 (lv_at hl 10 rfl) ?_
                        refine r_cv X hS (r_runV (As := [.int (nI (oneN (c9 % 128) (eyN c9))), .int (nI (2 * (othN (c9 % 128) (eyN c9)))), .int (nI ((xN a c9) - 1)), .int (nI (yN b c9)), .int (nI d9)]) (rest := []) C0 X hP L_X8_271 (fun sz => c_X8_reaches l D cA ad o σ μ5 (foldQ (QB a b q x z i) (mm1 z (c9 / 128) (c9 % 128) ++ mm2 x (c9 / 128) (c9 % 128) ++ mm3 a b q (c9 / 128) (c9 % 128) ++ mm4 a b q (c9 / 128) (c9 % 128) ++ m5a a x (c9 / 128) (c9 % 128)) (d9 + 1)) (oneN (c9 % 128) (eyN c9)) (2 * (othN (c9 % 128) (eyN c9))) ((xN a c9) - 1) (yN b c9) (nI d9) a b ((c9 / 128) * 128 + lgN (c9 % 128) (Nat.log2 (c9 % 128) - (c9 / 128)) 1) (d9 + 1) ha hb3 hR5 (QG_fold (QB_g ha hb3 hxb i) _ (fun w9 hw9 => hall w9 (by rw [nbrL_eq]; exact List.mem_append_left _ (List.mem_append_left _ (List.mem_append_left _ (hw9)))))) (hall _ (by rw [nbrL_eq, m5b, if_pos (hones c_19), cb2, if_pos (show Nat.log2 (c9 % 128) - c9 / 128 < z from nI_lt_of c_20 (by omega))]; simp)) (mv6 ha hb3 hv9 (nI_pos_of c_19)) (nI_1 _) sz) (show 91 < 106 ∧ kd 91 = (8, 24) from ⟨by decide, rfl⟩).1 (show 91 < 106 ∧ kd 91 = (8, 24) from ⟨by decide, rfl⟩).2 (by decide) rfl ⟨Nat.le_of_ble_eq_true rfl, Nat.le_of_ble_eq_true rfl⟩ rfl hl.1 rfl (Nat.le_of_ble_eq_true rfl) dX8_rowsOf_339 ⟨Nat.zero_le _, Nat.zero_le _⟩) (fun σw_21 H locs hw_21 hP hS => ?_)
                        exact jp_10 σw_21 _ _ ls (by rw [foldQ_app, m5b, if_pos (hones c_19), cb2, if_pos (show Nat.log2 (c9 % 128) - c9 / 128 < z from nI_lt_of c_20 (by omega)), foldQ_one]; exact hw_21) hP hS (lv_sub hl [0, 1, 2, 3, 4, 5, 6, 7, 8, 9, 10, 11, 12] rfl)
                  refine lv_iload hx hb dX8_rowsOf_282 (lv_at hl 8 rfl) ?_
                  refine lv_if_le (tgt := 312) hx hb dX8_rowsOf_284 (by decide) (fun c_22 => ?_) (fun c_22 => ?_)
                  · exact jp_9 μ4 _ _ ls (by rw [foldQ_app, m5a, if_neg (honesn c_22)]; exact hR4) hP hS (lv_sub hl [0, 1, 2, 3, 4, 5, 6, 7, 8, 9, 10, 11, 12] rfl)
                  · refine lv_iload hx hb dX8_rowsOf_287 (lv_at hl 11 rfl) ?_
                    refine lv_iload hx hb dX8_rowsOf_289 (lv_at hl 2 rfl) ?_
                    refine lv_icmp_ge (tgt := 312) hx hb dX8_rowsOf_291 (by decide) (fun c_23 => ?_) (fun c_23 => ?_)
                    · exact jp_9 μ4 _ _ ls (by rw [foldQ_app, m5a]; split; rw [cb1, if_neg (nI_nlt_of c_23 (by omega))]; exact hR4; exact hR4) hP hS (lv_sub hl [0, 1, 2, 3, 4, 5, 6, 7, 8, 9, 10, 11, 12] rfl)
                    · refine lv_aload_n hx hb dX8_rowsOf_294 rfl (lv_at hl 0 rfl) ?_
                      refine lv_iconst (v := 2) hx hb dX8_rowsOf_295 (by decide) ?_
                      refine lv_iload hx hb dX8_rowsOf_296 (lv_at hl 6 rfl) ?_
                      refine lv_imul hx hb dX8_rowsOf_298 ?_
                      refine lv_topE (y := (nI (2 * (oneN (c9 % 128) (eyN c9))))) (pk_mul 2 _) ?_
                      refine lv_iload hx hb dX8_rowsOf_299 (lv_at hl 7 rfl) ?_
                      refine lv_iload hx hb dX8_rowsOf_301 (lv_at hl 8 rfl) ?_
                      refine lv_iconst (v := 1) hx hb dX8_rowsOf_303 (by decide) ?_
                      refine lv_isub hx hb dX8_rowsOf_304 ?_
                      refine lv_topE (y := (nI ((xN a c9) - 1))) (pk_sub (a := (xN a c9)) (b := 1) (nI_pos_of c_22)) ?_
                      refine lv_iload hx hb dX8_rowsOf_305 (lv_at hl 9 rfl) ?_
                      refine lv_iload hx hb dX8_rowsOf_307 (lv_at hl 10 rfl) ?_
                      refine r_cv X hS (r_runV (As := [.int (nI (2 * (oneN (c9 % 128) (eyN c9)))), .int (nI (othN (c9 % 128) (eyN c9))), .int (nI ((xN a c9) - 1)), .int (nI (yN b c9)), .int (nI d9)]) (rest := []) C0 X hP L_X8_271 (fun sz => c_X8_reaches l D cA ad o σ μ4 (foldQ (QB a b q x z i) (mm1 z (c9 / 128) (c9 % 128) ++ mm2 x (c9 / 128) (c9 % 128) ++ mm3 a b q (c9 / 128) (c9 % 128) ++ mm4 a b q (c9 / 128) (c9 % 128)) (d9 + 1)) (2 * (oneN (c9 % 128) (eyN c9))) (othN (c9 % 128) (eyN c9)) ((xN a c9) - 1) (yN b c9) (nI d9) a b (((c9 / 128) + 1) * 128 + lgN (c9 % 128) (Nat.log2 (c9 % 128) - (c9 / 128)) 1) (d9 + 1) ha hb3 hR4 (QG_fold (QB_g ha hb3 hxb i) _ (fun w9 hw9 => hall w9 (by rw [nbrL_eq]; exact List.mem_append_left _ (List.mem_append_left _ (List.mem_append_left _ (List.mem_append_left _ (hw9))))))) (hall _ (by rw [nbrL_eq, m5a, if_pos (hones c_22), cb1, if_pos (nI_lt_of c_23 (by omega))]; simp)) (mv5 ha hb3 hv9 (nI_pos_of c_22)) (nI_1 _) sz) (show 91 < 106 ∧ kd 91 = (8, 24) from ⟨by decide, rfl⟩).1 (show 91 < 106 ∧ kd 91 = (8, 24) from ⟨by decide, rfl⟩).2 (by decide) rfl ⟨Nat.le_of_ble_eq_true rfl, Nat.le_of_ble_eq_true rfl⟩ rfl hl.1 rfl (Nat.le_of_ble_eq_true rfl) dX8_rowsOf_309 ⟨Nat.zero_le _, Nat.zero_le _⟩) (fun σw_24 H locs hw_24 hP hS => ?_)
                      exact jp_9 σw_24 _ _ ls (by rw [foldQ_app, m5a, if_pos (hones c_22), cb1, if_pos (nI_lt_of c_23 (by omega)), foldQ_one]; exact hw_24) hP hS (lv_sub hl [0, 1, 2, 3, 4, 5, 6, 7, 8, 9, 10, 11, 12] rfl)
                refine lv_iload hx hb dX8_rowsOf_240 (lv_at hl 12 rfl) ?_
                refine lv_if_le (tgt := 282) hx hb dX8_rowsOf_242 (by decide) (fun c_25 => ?_) (fun c_25 => ?_)
                · exact jp_8 μ3 _ _ ls (by rw [foldQ_app, mm4, if_neg (fun h9 => absurd h9.2 (by have := nI_zero_of (by omega) c_25; first | omega | (unfold eyN at this; omega)))]; exact hR3) hP hS (lv_sub hl [0, 1, 2, 3, 4, 5, 6, 7, 8, 9, 10, 11, 12] rfl)
                · refine lv_iload hx hb dX8_rowsOf_245 (lv_at hl 8 rfl) ?_
                  refine lv_iload hx hb dX8_rowsOf_247 (lv_at hl 9 rfl) ?_
                  refine lv_iadd hx hb dX8_rowsOf_249 ?_
                  refine lv_topE (y := (nI ((xN a c9) + (yN b c9)))) (nI_add _ _) ?_
                  refine lv_iload_n hx hb dX8_rowsOf_250 rfl (lv_at hl 1 rfl) ?_
                  refine lv_icmp_ge (tgt := 282) hx hb dX8_rowsOf_251 (by decide) (fun c_26 => ?_) (fun c_26 => ?_)
                  · exact jp_8 μ3 _ _ ls (by rw [foldQ_app, mm4, if_neg (fun h9 => hsumn c_26 h9.1)]; exact hR3) hP hS (lv_sub hl [0, 1, 2, 3, 4, 5, 6, 7, 8, 9, 10, 11, 12] rfl)
                  · refine lv_aload_n hx hb dX8_rowsOf_254 rfl (lv_at hl 0 rfl) ?_
                    refine lv_iload hx hb dX8_rowsOf_255 (lv_at hl 6 rfl) ?_
                    refine lv_iload hx hb dX8_rowsOf_257 (lv_at hl 7 rfl) ?_
                    refine lv_iconst (v := 1) hx hb dX8_rowsOf_259 (by decide) ?_
                    refine lv_ishr hx hb dX8_rowsOf_260 ?_
                    refine lv_topE (y := (nI ((othN (c9 % 128) (eyN c9)) / 2))) (shr1 _ hb9.2.1) ?_
                    refine lv_iload hx hb dX8_rowsOf_261 (lv_at hl 8 rfl) ?_
                    refine lv_iconst (v := 1) hx hb dX8_rowsOf_263 (by decide) ?_
                    refine lv_iadd hx hb dX8_rowsOf_264 ?_
                    refine lv_topE (y := (nI ((xN a c9) + 1))) (nI_1 _) ?_
                    refine lv_iload hx hb dX8_rowsOf_265 (lv_at hl 7 rfl) ?_
                    refine lv_iconst (v := 1) hx hb dX8_rowsOf_267 (by decide) ?_
                    refine lv_iand hx hb dX8_rowsOf_268 ?_
                    refine lv_topE (y := (nI ((othN (c9 % 128) (eyN c9)) % 2))) (and1 _ hb9.2.1) ?_
                    refine lv_isub hx hb dX8_rowsOf_269 ?_
                    refine lv_topE (y := (nI ((xN a c9) + 1 - (othN (c9 % 128) (eyN c9)) % 2))) (pk_sub (by omega)) ?_
                    refine lv_iload hx hb dX8_rowsOf_270 (lv_at hl 9 rfl) ?_
                    refine lv_iload hx hb dX8_rowsOf_272 (lv_at hl 7 rfl) ?_
                    refine lv_iconst (v := 1) hx hb dX8_rowsOf_274 (by decide) ?_
                    refine lv_iand hx hb dX8_rowsOf_275 ?_
                    refine lv_topE (y := (nI ((othN (c9 % 128) (eyN c9)) % 2))) (and1 _ hb9.2.1) ?_
                    refine lv_iadd hx hb dX8_rowsOf_276 ?_
                    refine lv_topE (y := (nI ((yN b c9) + (othN (c9 % 128) (eyN c9)) % 2))) (nI_add _ _) ?_
                    refine lv_iload hx hb dX8_rowsOf_277 (lv_at hl 10 rfl) ?_
                    refine r_cv X hS (r_runV (As := [.int (nI (oneN (c9 % 128) (eyN c9))), .int (nI ((othN (c9 % 128) (eyN c9)) / 2)), .int (nI ((xN a c9) + 1 - (othN (c9 % 128) (eyN c9)) % 2)), .int (nI ((yN b c9) + (othN (c9 % 128) (eyN c9)) % 2)), .int (nI d9)]) (rest := []) C0 X hP L_X8_271 (fun sz => c_X8_reaches l D cA ad o σ μ3 (foldQ (QB a b q x z i) (mm1 z (c9 / 128) (c9 % 128) ++ mm2 x (c9 / 128) (c9 % 128) ++ mm3 a b q (c9 / 128) (c9 % 128)) (d9 + 1)) (oneN (c9 % 128) (eyN c9)) ((othN (c9 % 128) (eyN c9)) / 2) ((xN a c9) + 1 - (othN (c9 % 128) (eyN c9)) % 2) ((yN b c9) + (othN (c9 % 128) (eyN c9)) % 2) (nI d9) a b ((c9 / 128) * 128 + woN (c9 % 128) (Nat.log2 (c9 % 128) - (c9 / 128) - 1)) (d9 + 1) ha hb3 hR3 (QG_fold (QB_g ha hb3 hxb i) _ (fun w9 hw9 => hall w9 (by rw [nbrL_eq]; exact List.mem_append_left _ (List.mem_append_left _ (List.mem_append_left _ (List.mem_append_left _ (List.mem_append_left _ (hw9)))))))) (hall _ (by rw [nbrL_eq, mm4, if_pos ⟨hsum c_26, nI_pos_of c_25⟩]; simp)) (mv4 hv9 (nI_pos_of c_25)) (nI_1 _) sz) (show 91 < 106 ∧ kd 91 = (8, 24) from ⟨by decide, rfl⟩).1 (show 91 < 106 ∧ kd 91 = (8, 24) from ⟨by decide, rfl⟩).2 (by decide) rfl ⟨Nat.le_of_ble_eq_true rfl, Nat.le_of_ble_eq_true rfl⟩ rfl hl.1 rfl (Nat.le_of_ble_eq_true rfl) dX8_rowsOf_279 ⟨Nat.zero_le _, Nat.zero_le _⟩) (fun σw_27 H locs hw_27 hP hS => ?_)
                    exact jp_8 σw_27 _ _ ls (by rw [foldQ_app, mm4, if_pos ⟨hsum c_26, nI_pos_of c_25⟩, foldQ_one]; exact hw_27) hP hS (lv_sub hl [0, 1, 2, 3, 4, 5, 6, 7, 8, 9, 10, 11, 12] rfl)
              refine lv_iload hx hb dX8_rowsOf_198 (lv_at hl 11 rfl) ?_
              refine lv_if_le (tgt := 240) hx hb dX8_rowsOf_200 (by decide) (fun c_28 => ?_) (fun c_28 => ?_)
              · exact jp_7 μ2 _ _ ls (by rw [foldQ_app, mm3, if_neg (fun h9 => absurd h9.2 (by have := nI_zero_of (by omega) c_28; first | omega | (unfold eyN at this; omega)))]; exact hR2) hP hS (lv_sub hl [0, 1, 2, 3, 4, 5, 6, 7, 8, 9, 10, 11, 12] rfl)
              · refine lv_iload hx hb dX8_rowsOf_203 (lv_at hl 8 rfl) ?_
                refine lv_iload hx hb dX8_rowsOf_205 (lv_at hl 9 rfl) ?_
                refine lv_iadd hx hb dX8_rowsOf_207 ?_
                refine lv_topE (y := (nI ((xN a c9) + (yN b c9)))) (nI_add _ _) ?_
                refine lv_iload_n hx hb dX8_rowsOf_208 rfl (lv_at hl 1 rfl) ?_
                refine lv_icmp_ge (tgt := 240) hx hb dX8_rowsOf_209 (by decide) (fun c_29 => ?_) (fun c_29 => ?_)
                · exact jp_7 μ2 _ _ ls (by rw [foldQ_app, mm3, if_neg (fun h9 => hsumn c_29 h9.1)]; exact hR2) hP hS (lv_sub hl [0, 1, 2, 3, 4, 5, 6, 7, 8, 9, 10, 11, 12] rfl)
                · refine lv_aload_n hx hb dX8_rowsOf_212 rfl (lv_at hl 0 rfl) ?_
                  refine lv_iload hx hb dX8_rowsOf_213 (lv_at hl 6 rfl) ?_
                  refine lv_iconst (v := 1) hx hb dX8_rowsOf_215 (by decide) ?_
                  refine lv_ishr hx hb dX8_rowsOf_216 ?_
                  refine lv_topE (y := (nI ((oneN (c9 % 128) (eyN c9)) / 2))) (shr1 _ hb9.1) ?_
                  refine lv_iload hx hb dX8_rowsOf_217 (lv_at hl 7 rfl) ?_
                  refine lv_iload hx hb dX8_rowsOf_219 (lv_at hl 8 rfl) ?_
                  refine lv_iconst (v := 1) hx hb dX8_rowsOf_221 (by decide) ?_
                  refine lv_iadd hx hb dX8_rowsOf_222 ?_
                  refine lv_topE (y := (nI ((xN a c9) + 1))) (nI_1 _) ?_
                  refine lv_iload hx hb dX8_rowsOf_223 (lv_at hl 6 rfl) ?_
                  refine lv_iconst (v := 1) hx hb dX8_rowsOf_225 (by decide) ?_
                  refine lv_iand hx hb dX8_rowsOf_226 ?_
                  refine lv_topE (y := (nI ((oneN (c9 % 128) (eyN c9)) % 2))) (and1 _ hb9.1) ?_
                  refine lv_isub hx hb dX8_rowsOf_227 ?_
                  refine lv_topE (y := (nI ((xN a c9) + 1 - (oneN (c9 % 128) (eyN c9)) % 2))) (pk_sub (by omega)) ?_
                  refine lv_iload hx hb dX8_rowsOf_228 (lv_at hl 9 rfl) ?_
                  refine lv_iload hx hb dX8_rowsOf_230 (lv_at hl 6 rfl) ?_
                  refine lv_iconst (v := 1) hx hb dX8_rowsOf_232 (by decide) ?_
                  refine lv_iand hx hb dX8_rowsOf_233 ?_
                  refine lv_topE (y := (nI ((oneN (c9 % 128) (eyN c9)) % 2))) (and1 _ hb9.1) ?_
                  refine lv_iadd hx hb dX8_rowsOf_234 ?_
                  refine lv_topE (y := (nI ((yN b c9) + (oneN (c9 % 128) (eyN c9)) % 2))) (nI_add _ _) ?_
                  refine lv_iload hx hb dX8_rowsOf_235 (lv_at hl 10 rfl) ?_
                  refine r_cv X hS (r_runV (As := [.int (nI ((oneN (c9 % 128) (eyN c9)) / 2)), .int (nI (othN (c9 % 128) (eyN c9))), .int (nI ((xN a c9) + 1 - (oneN (c9 % 128) (eyN c9)) % 2)), .int (nI ((yN b c9) + (oneN (c9 % 128) (eyN c9)) % 2)), .int (nI d9)]) (rest := []) C0 X hP L_X8_271 (fun sz => c_X8_reaches l D cA ad o σ μ2 (foldQ (QB a b q x z i) (mm1 z (c9 / 128) (c9 % 128) ++ mm2 x (c9 / 128) (c9 % 128)) (d9 + 1)) ((oneN (c9 % 128) (eyN c9)) / 2) (othN (c9 % 128) (eyN c9)) ((xN a c9) + 1 - (oneN (c9 % 128) (eyN c9)) % 2) ((yN b c9) + (oneN (c9 % 128) (eyN c9)) % 2) (nI d9) a b (((c9 / 128) - 1) * 128 + woN (c9 % 128) (Nat.log2 (c9 % 128) - (c9 / 128))) (d9 + 1) ha hb3 hR2 (QG_fold (QB_g ha hb3 hxb i) _ (fun w9 hw9 => hall w9 (by rw [nbrL_eq]; exact List.mem_append_left _ (List.mem_append_left _ (List.mem_append_left _ (List.mem_append_left _ (List.mem_append_left _ (List.mem_append_left _ (hw9))))))))) (hall _ (by rw [nbrL_eq, mm3, if_pos ⟨hsum c_29, nI_pos_of c_28⟩]; simp)) (mv3 hv9 (nI_pos_of c_28)) (nI_1 _) sz) (show 91 < 106 ∧ kd 91 = (8, 24) from ⟨by decide, rfl⟩).1 (show 91 < 106 ∧ kd 91 = (8, 24) from ⟨by decide, rfl⟩).2 (by decide) rfl ⟨Nat.le_of_ble_eq_true rfl, Nat.le_of_ble_eq_true rfl⟩ rfl hl.1 rfl (Nat.le_of_ble_eq_true rfl) dX8_rowsOf_237 ⟨Nat.zero_le _, Nat.zero_le _⟩) (fun σw_30 H locs hw_30 hP hS => ?_)
                  exact jp_7 σw_30 _ _ ls (by rw [foldQ_app, mm3, if_pos ⟨hsum c_29, nI_pos_of c_28⟩, foldQ_one]; exact hw_30) hP hS (lv_sub hl [0, 1, 2, 3, 4, 5, 6, 7, 8, 9, 10, 11, 12] rfl)
            refine lv_iload hx hb dX8_rowsOf_163 (lv_at hl 12 rfl) ?_
            refine lv_if_le (tgt := 198) hx hb dX8_rowsOf_165 (by decide) (fun c_31 => ?_) (fun c_31 => ?_)
            · exact jp_6 μ1 _ _ ls (by rw [foldQ_app, mm2, if_neg (fun h9 => absurd h9.1 (by have := nI_zero_of (by omega) c_31; first | omega | (unfold eyN at this; omega)))]; exact hRa) hP hS (lv_sub hl [0, 1, 2, 3, 4, 5, 6, 7, 8, 9, 10, 11, 12] rfl)
            · refine lv_iload hx hb dX8_rowsOf_168 (lv_at hl 11 rfl) ?_
              refine lv_iload hx hb dX8_rowsOf_170 (lv_at hl 2 rfl) ?_
              refine lv_icmp_ge (tgt := 198) hx hb dX8_rowsOf_172 (by decide) (fun c_32 => ?_) (fun c_32 => ?_)
              · exact jp_6 μ1 _ _ ls (by rw [foldQ_app, mm2, if_neg (fun h9 => nI_nlt_of c_32 (by omega) h9.2)]; exact hRa) hP hS (lv_sub hl [0, 1, 2, 3, 4, 5, 6, 7, 8, 9, 10, 11, 12] rfl)
              · refine lv_aload_n hx hb dX8_rowsOf_175 rfl (lv_at hl 0 rfl) ?_
                refine lv_iconst (v := 2) hx hb dX8_rowsOf_176 (by decide) ?_
                refine lv_iload hx hb dX8_rowsOf_177 (lv_at hl 6 rfl) ?_
                refine lv_imul hx hb dX8_rowsOf_179 ?_
                refine lv_topE (y := (nI (2 * (oneN (c9 % 128) (eyN c9))))) (pk_mul 2 _) ?_
                refine lv_iload hx hb dX8_rowsOf_180 (lv_at hl 7 rfl) ?_
                refine lv_iconst (v := 1) hx hb dX8_rowsOf_182 (by decide) ?_
                refine lv_iand hx hb dX8_rowsOf_183 ?_
                refine lv_topE (y := (nI ((othN (c9 % 128) (eyN c9)) % 2))) (and1 _ hb9.2.1) ?_
                refine lv_iadd hx hb dX8_rowsOf_184 ?_
                refine lv_topE (y := (nI (2 * (oneN (c9 % 128) (eyN c9)) + (othN (c9 % 128) (eyN c9)) % 2))) (nI_add _ _) ?_
                refine lv_iload hx hb dX8_rowsOf_185 (lv_at hl 7 rfl) ?_
                refine lv_iconst (v := 1) hx hb dX8_rowsOf_187 (by decide) ?_
                refine lv_ishr hx hb dX8_rowsOf_188 ?_
                refine lv_topE (y := (nI ((othN (c9 % 128) (eyN c9)) / 2))) (shr1 _ hb9.2.1) ?_
                refine lv_iload hx hb dX8_rowsOf_189 (lv_at hl 8 rfl) ?_
                refine lv_iload hx hb dX8_rowsOf_191 (lv_at hl 9 rfl) ?_
                refine lv_iload hx hb dX8_rowsOf_193 (lv_at hl 10 rfl) ?_
                refine r_cv X hS (r_runV (As := [.int (nI (2 * (oneN (c9 % 128) (eyN c9)) + (othN (c9 % 128) (eyN c9)) % 2)), .int (nI ((othN (c9 % 128) (eyN c9)) / 2)), .int (nI (xN a c9)), .int (nI (yN b c9)), .int (nI d9)]) (rest := []) C0 X hP L_X8_271 (fun sz => c_X8_reaches l D cA ad o σ μ1 (foldQ (QB a b q x z i) (mm1 z (c9 / 128) (c9 % 128)) (d9 + 1)) (2 * (oneN (c9 % 128) (eyN c9)) + (othN (c9 % 128) (eyN c9)) % 2) ((othN (c9 % 128) (eyN c9)) / 2) (xN a c9) (yN b c9) (nI d9) a b (((c9 / 128) + 1) * 128 + (c9 % 128)) (d9 + 1) ha hb3 hRa (QG_fold (QB_g ha hb3 hxb i) _ (fun w9 hw9 => hall w9 (by rw [nbrL_eq]; exact List.mem_append_left _ (List.mem_append_left _ (List.mem_append_left _ (List.mem_append_left _ (List.mem_append_left _ (List.mem_append_left _ (List.mem_append_left _ (hw9)))))))))) (hall _ (by rw [nbrL_eq, mm2, if_pos ⟨nI_pos_of c_31, nI_lt_of c_32 (by omega)⟩]; simp)) (by have := mv2 hv9 (nI_pos_of c_31); omega) (nI_1 _) sz) (show 91 < 106 ∧ kd 91 = (8, 24) from ⟨by decide, rfl⟩).1 (show 91 < 106 ∧ kd 91 = (8, 24) from ⟨by decide, rfl⟩).2 (by decide) rfl ⟨Nat.le_of_ble_eq_true rfl, Nat.le_of_ble_eq_true rfl⟩ rfl hl.1 rfl (Nat.le_of_ble_eq_true rfl) dX8_rowsOf_195 ⟨Nat.zero_le _, Nat.zero_le _⟩) (fun σw_33 H locs hw_33 hP hS => ?_)
                exact jp_6 σw_33 _ _ ls (by rw [foldQ_app, mm2, if_pos ⟨nI_pos_of c_31, nI_lt_of c_32 (by omega)⟩, foldQ_one]; exact hw_33) hP hS (lv_sub hl [0, 1, 2, 3, 4, 5, 6, 7, 8, 9, 10, 11, 12] rfl)
          refine lv_iload hx hb dX8_rowsOf_128 (lv_at hl 1 rfl) ?_
          refine lv_if_le (tgt := 163) hx hb dX8_rowsOf_130 (by decide) (fun c_34 => ?_) (fun c_34 => ?_)
          · exact jp_5 μ _ _ ls (by rw [mm1, if_neg (fun h9 => absurd h9.1 (by have := nI_zero_of (by omega) c_34; first | omega | (unfold eyN at this; omega)))]; exact hR1) hP hS (lv_sub hl [8, 9, 10, 11, 12, 13, 6, 5, 4, 3, 2, 1, 0] rfl)
          · refine lv_iload hx hb dX8_rowsOf_133 (lv_at hl 0 rfl) ?_
            refine lv_iload hx hb dX8_rowsOf_135 (lv_at hl 11 rfl) ?_
            refine lv_icmp_ge (tgt := 163) hx hb dX8_rowsOf_137 (by decide) (fun c_35 => ?_) (fun c_35 => ?_)
            · exact jp_5 μ _ _ ls (by rw [mm1, if_neg (fun h9 => nI_nlt_of c_35 (by omega) h9.2)]; exact hR1) hP hS (lv_sub hl [8, 9, 10, 11, 12, 13, 6, 5, 4, 3, 2, 1, 0] rfl)
            · refine lv_aload_n hx hb dX8_rowsOf_140 rfl (lv_at hl 8 rfl) ?_
              refine lv_iload hx hb dX8_rowsOf_141 (lv_at hl 6 rfl) ?_
              refine lv_iconst (v := 1) hx hb dX8_rowsOf_143 (by decide) ?_
              refine lv_ishr hx hb dX8_rowsOf_144 ?_
              refine lv_topE (y := (nI ((oneN (c9 % 128) (eyN c9)) / 2))) (shr1 _ hb9.1) ?_
              refine lv_iconst (v := 2) hx hb dX8_rowsOf_145 (by decide) ?_
              refine lv_iload hx hb dX8_rowsOf_146 (lv_at hl 5 rfl) ?_
              refine lv_imul hx hb dX8_rowsOf_148 ?_
              refine lv_topE (y := (nI (2 * (othN (c9 % 128) (eyN c9))))) (pk_mul 2 _) ?_
              refine lv_iload hx hb dX8_rowsOf_149 (lv_at hl 6 rfl) ?_
              refine lv_iconst (v := 1) hx hb dX8_rowsOf_151 (by decide) ?_
              refine lv_iand hx hb dX8_rowsOf_152 ?_
              refine lv_topE (y := (nI ((oneN (c9 % 128) (eyN c9)) % 2))) (and1 _ hb9.1) ?_
              refine lv_iadd hx hb dX8_rowsOf_153 ?_
              refine lv_topE (y := (nI (2 * (othN (c9 % 128) (eyN c9)) + (oneN (c9 % 128) (eyN c9)) % 2))) (nI_add _ _) ?_
              refine lv_iload hx hb dX8_rowsOf_154 (lv_at hl 4 rfl) ?_
              refine lv_iload hx hb dX8_rowsOf_156 (lv_at hl 3 rfl) ?_
              refine lv_iload hx hb dX8_rowsOf_158 (lv_at hl 2 rfl) ?_
              refine r_cv X hS (r_runV (As := [.int (nI ((oneN (c9 % 128) (eyN c9)) / 2)), .int (nI (2 * (othN (c9 % 128) (eyN c9)) + (oneN (c9 % 128) (eyN c9)) % 2)), .int (nI (xN a c9)), .int (nI (yN b c9)), .int (nI d9)]) (rest := []) C0 X hP L_X8_271 (fun sz => c_X8_reaches l D cA ad o σ μ ((QB a b q x z i)) ((oneN (c9 % 128) (eyN c9)) / 2) (2 * (othN (c9 % 128) (eyN c9)) + (oneN (c9 % 128) (eyN c9)) % 2) (xN a c9) (yN b c9) (nI d9) a b (((c9 / 128) - 1) * 128 + (c9 % 128)) (d9 + 1) ha hb3 hR1 (QB_g ha hb3 hxb i) (hall _ (by rw [nbrL_eq, mm1, if_pos ⟨nI_pos_of c_34, nI_lt_of c_35 (by omega)⟩]; simp)) (mv1 hv9 (nI_pos_of c_34)) (nI_1 _) sz) (show 91 < 106 ∧ kd 91 = (8, 24) from ⟨by decide, rfl⟩).1 (show 91 < 106 ∧ kd 91 = (8, 24) from ⟨by decide, rfl⟩).2 (by decide) rfl ⟨Nat.le_of_ble_eq_true rfl, Nat.le_of_ble_eq_true rfl⟩ rfl hl.1 rfl (Nat.le_of_ble_eq_true rfl) dX8_rowsOf_160 ⟨Nat.zero_le _, Nat.zero_le _⟩) (fun σw_36 H locs hw_36 hP hS => ?_)
              exact jp_5 σw_36 _ _ ls (by rw [mm1, if_pos ⟨nI_pos_of c_34, nI_lt_of c_35 (by omega)⟩, foldQ_one]; exact hw_36) hP hS (lv_sub hl [8, 9, 10, 11, 12, 13, 6, 5, 4, 3, 2, 1, 0] rfl)
        · refine lv_iload hx hb dX8_rowsOf_111 (lv_at hl 0 rfl) ?_
          exact r_iret C0 X hP hS hr hlk dX8_rowsOf_113 ⟨(by have e9 := enc_inj ha hb3 hv9 (wt_vcd ha hb3) (((nI_eq (by omega) (by omega)).mp c_4).trans (enc_w a (by omega) b (by omega)).symm); rw [← RWn_at (i := i) (by omega) (Or.inr (by rw [← e9]; exact List.mem_map.mpr ⟨(c9, d9), List.mem_of_getElem? hg, rfl⟩)), ← e9, resQ_hit (QB_g ha hb3 hxb i).1 hg]), hR1.2⟩
  exact lp_2 ((900 - 0) + 1) 0 σw_1 _ _ ls (by exact hw_1) (Nat.zero_le _) (fun j c d h => absurd h (Nat.not_lt_zero _)) hP hS (lv_sub hl [2, 5, 6, 7, 1, 0] rfl) (by omega)
end
section
/-! distances are small: an answer below 0 is none -/
def DQ (Q : List (Nat × Nat)) : Prop := ∀ k c d : Nat, Q[k]? = some (c, d) → d ≤ k
theorem DQ_push {Q : List (Nat × Nat)} (h : DQ Q) (c : Nat) {e : Nat} (he : e ≤ Q.length) : DQ (pushQ Q c e) := by
  unfold pushQ
  split
  · exact h
  · intro k c' d' hk
    by_cases h1 : k < Q.length
    · rw [List.getElem?_append_left h1] at hk
      exact h k c' d' hk
    · have h2 : k = Q.length := by
        have := (List.getElem?_eq_some_iff.mp hk).1
        simp at this
        omega
      subst h2
      simp at hk
      omega
theorem DQ_fold (e : Nat) (cs : List Nat) : ∀ Q : List (Nat × Nat), DQ Q → e ≤ Q.length → DQ (foldQ Q cs e) := by
  induction cs with
  | nil => intro Q h _; exact h
  | cons c r ih => intro Q h he; exact ih _ (DQ_push h c he) (Nat.le_trans he (pushQ_len Q c e))
theorem DQ_QB (a b q x z : Nat) : ∀ i, DQ (QB a b q x z i) := by
  intro i
  induction i with
  | zero =>
    intro k c d hk
    rcases Nat.eq_zero_or_pos k with rfl | h
    · simp [QB] at hk
      omega
    · rw [QB, List.getElem?_eq_none (by simp; omega)] at hk
      cases hk
  | succ i ih =>
    rw [QB, procQ]
    split
    · exact ih
    · rename_i p hp
      exact DQ_fold _ _ _ ih (Nat.succ_le_of_lt (Nat.lt_of_le_of_lt (ih i p.1 p.2 hp) (List.getElem?_eq_some_iff.mp hp).1))
theorem RWn_neg {a b q x z : Nat} (ha : a ≤ 3) (hb : b ≤ 3) (hx : x ≤ 6) : RWn a b q x z < 0 ↔ RWn a b q x z = -4 := by
  unfold RWn resQ
  cases hf : (QB a b q x z 900).find? (fun r => r.1 == wtC a b) with
  | none => simp only []; decide
  | some p =>
    simp only []
    obtain ⟨k, hk⟩ := List.getElem?_of_mem (List.mem_of_find?_eq_some hf)
    have h1 := DQ_QB a b q x z 900 k p.1 p.2 hk
    have h2 := QG_len ha hb (QB_g (q := q) (z := z) ha hb hx 900)
    have h3 := (List.getElem?_eq_some_iff.mp hk).1
    constructor
    · intro h; exact absurd h (nI_pos (by omega))
    · intro h; exact absurd h (nI_nm4 (by omega))
def bB_cX8_isRows : Nat := 0xac030400a7040700993500b8160114851b851d1400993500b8160114851a851c2100993500b87d001409851b2d00993500b87d001409851a
theorem yB_cX8_isRows : BYS cX8_isRows 56 bB_cX8_isRows := BYS_of (by decide +kernel)
theorem dX8_isRows_0 : decode cX8_isRows 0 = .ok (.iload_n 0, 1) := D_26 yB_cX8_isRows rfl rfl
theorem dX8_isRows_1 : decode cX8_isRows 1 = .ok (.i2l, 1) := D_133 yB_cX8_isRows rfl rfl
theorem dX8_isRows_2 : decode cX8_isRows 2 = .ok (.lconst 0, 1) := D_9 yB_cX8_isRows rfl rfl
theorem dX8_isRows_3 : decode cX8_isRows 3 = .ok (.ldc2_w 125, 3) := D_20 yB_cX8_isRows rfl rfl rfl
theorem dX8_isRows_6 : decode cX8_isRows 6 = .ok (.invokestatic 53, 3) := D_184 yB_cX8_isRows rfl rfl rfl
theorem dX8_isRows_9 : decode cX8_isRows 9 = .ok (.ifCond .eq 45, 3) := D_153 yB_cX8_isRows rfl rfl (sg_p (m := 32768) (N := 45) rfl rfl rfl)
theorem dX8_isRows_12 : decode cX8_isRows 12 = .ok (.iload_n 1, 1) := D_27 yB_cX8_isRows rfl rfl
theorem dX8_isRows_13 : decode cX8_isRows 13 = .ok (.i2l, 1) := D_133 yB_cX8_isRows rfl rfl
theorem dX8_isRows_14 : decode cX8_isRows 14 = .ok (.lconst 0, 1) := D_9 yB_cX8_isRows rfl rfl
theorem dX8_isRows_15 : decode cX8_isRows 15 = .ok (.ldc2_w 125, 3) := D_20 yB_cX8_isRows rfl rfl rfl
theorem dX8_isRows_18 : decode cX8_isRows 18 = .ok (.invokestatic 53, 3) := D_184 yB_cX8_isRows rfl rfl rfl
theorem dX8_isRows_21 : decode cX8_isRows 21 = .ok (.ifCond .eq 33, 3) := D_153 yB_cX8_isRows rfl rfl (sg_p (m := 32768) (N := 33) rfl rfl rfl)
theorem dX8_isRows_24 : decode cX8_isRows 24 = .ok (.iload_n 2, 1) := D_28 yB_cX8_isRows rfl rfl
theorem dX8_isRows_25 : decode cX8_isRows 25 = .ok (.i2l, 1) := D_133 yB_cX8_isRows rfl rfl
theorem dX8_isRows_26 : decode cX8_isRows 26 = .ok (.iload_n 0, 1) := D_26 yB_cX8_isRows rfl rfl
theorem dX8_isRows_27 : decode cX8_isRows 27 = .ok (.i2l, 1) := D_133 yB_cX8_isRows rfl rfl
theorem dX8_isRows_28 : decode cX8_isRows 28 = .ok (.ldc2_w 278, 3) := D_20 yB_cX8_isRows rfl rfl rfl
theorem dX8_isRows_31 : decode cX8_isRows 31 = .ok (.invokestatic 53, 3) := D_184 yB_cX8_isRows rfl rfl rfl
theorem dX8_isRows_34 : decode cX8_isRows 34 = .ok (.ifCond .eq 20, 3) := D_153 yB_cX8_isRows rfl rfl (sg_p (m := 32768) (N := 20) rfl rfl rfl)
theorem dX8_isRows_37 : decode cX8_isRows 37 = .ok (.iload_n 3, 1) := D_29 yB_cX8_isRows rfl rfl
theorem dX8_isRows_38 : decode cX8_isRows 38 = .ok (.i2l, 1) := D_133 yB_cX8_isRows rfl rfl
theorem dX8_isRows_39 : decode cX8_isRows 39 = .ok (.iload_n 1, 1) := D_27 yB_cX8_isRows rfl rfl
theorem dX8_isRows_40 : decode cX8_isRows 40 = .ok (.i2l, 1) := D_133 yB_cX8_isRows rfl rfl
theorem dX8_isRows_41 : decode cX8_isRows 41 = .ok (.ldc2_w 278, 3) := D_20 yB_cX8_isRows rfl rfl rfl
theorem dX8_isRows_44 : decode cX8_isRows 44 = .ok (.invokestatic 53, 3) := D_184 yB_cX8_isRows rfl rfl rfl
theorem dX8_isRows_47 : decode cX8_isRows 47 = .ok (.ifCond .eq 7, 3) := D_153 yB_cX8_isRows rfl rfl (sg_p (m := 32768) (N := 7) rfl rfl rfl)
theorem dX8_isRows_50 : decode cX8_isRows 50 = .ok (.iconst 1, 1) := D_4 yB_cX8_isRows rfl rfl
theorem dX8_isRows_51 : decode cX8_isRows 51 = .ok (.goto 4, 3) := D_167 yB_cX8_isRows rfl rfl (sg_p (m := 32768) (N := 4) rfl rfl rfl)
theorem dX8_isRows_54 : decode cX8_isRows 54 = .ok (.iconst 0, 1) := D_3 yB_cX8_isRows rfl rfl
theorem dX8_isRows_55 : decode cX8_isRows 55 = .ok (.ireturn, 1) := D_172 yB_cX8_isRows rfl rfl
set_option maxHeartbeats 4000000 in
set_option maxRecDepth 100000 in
theorem c_X8_isRows (l : Launch) (D : va_G) (cA : Nat → ClassId) (ad : Nat → Nat) (o : Int64) (σ : Mem) (a : Int32) (b : Int32) (x : Int32) (z : Int32)  (sz : Nat) : Met l yX8_isRows (WY yX8_isRows cX8_isRows 4 (some .boolean)) (RM 1) (va_Pc [.int a, .int b, .int x, .int z] (PW D cA ad o σ sz)) (va_Qi (fun r σ9 => ((RWok a b x z ∧ r = 1) ∨ (¬ RWok a b x z ∧ r = 0)) ∧ σ9 = σ) (QW D cA ad o) (FA ad sz)) 0 0 (FA ad sz) := by
  refine ct_of (own := RX8) (k := 1) (Qf := va_Qi (fun r σ9 => ((RWok a b x z ∧ r = 1) ∨ (¬ RWok a b x z ∧ r = 0)) ∧ σ9 = σ) (QW D cA ad o)) rfl (by decide) (Nat.le_of_ble_eq_true rfl) (fun p e s m below meth c ls C0 X hr hlk hP hl => ?_) sz
  have hS : va_S (FA ad s.heap.size) s.heap s.heap [] := va_S.rf
  have hl : lv_has ls 4 [(0, .int a), (1, .int b), (2, .int x), (3, .int z)] := hl
  obtain ⟨hx, hb, hml, hown, hts⟩ := id C0
  refine lv_iload_n hx hb dX8_isRows_0 rfl (lv_at hl 0 rfl) ?_
  refine lv_i2l (v := (a.toInt64)) hx hb dX8_isRows_1 rfl ?_
  refine lv_lconst (v := ((0 : Int32).toInt64)) hx hb dX8_isRows_2 (by decide) ?_
  refine lv_ldc2 (own := RX8) (index := 125) (v := 3) hx hb hown (hts _ (tmc sb5_8 9 rfl (by decide +kernel))) dX8_isRows_3 ?_
  refine lv_topEl (y := ((3 : Int32).toInt64)) (by decide) ?_
  refine r_ci X hS (r_runS (As := [.long (a.toInt64), .long ((0 : Int32).toInt64), .long ((3 : Int32).toInt64)]) (rest := []) C0 X hP L_X8_53 (fun sz => c_X8_isIn l D cA ad o σ a 0 3 sz) ⟨Nat.le_of_ble_eq_true rfl, Nat.le_of_ble_eq_true rfl⟩ rfl hl.1 rfl (Nat.le_of_ble_eq_true rfl) dX8_isRows_6 ⟨Nat.zero_le _, Nat.zero_le _⟩) (fun r σ9 H locs hw hP hS => ?_)
  rw [hw.2] at hP
  obtain ⟨⟨b_1, rfl⟩ | ⟨b_1, rfl⟩, -⟩ := hw
  · have p_2 : ¬ a < 0 := Int32.not_lt.mpr b_1.1
    have p_3 : ¬ 3 < a := Int32.not_lt.mpr b_1.2
    have p_4 : ¬ 4 ≤ a := nsucc (by decide) p_3
    refine lv_if_eq (tgt := 54) hx hb dX8_isRows_9 (by decide) (fun c_5 => absurd c_5 (by decide)) (fun c_5 => ?_)
    refine lv_iload_n hx hb dX8_isRows_12 rfl (lv_at hl 1 rfl) ?_
    refine lv_i2l (v := (b.toInt64)) hx hb dX8_isRows_13 rfl ?_
    refine lv_lconst (v := ((0 : Int32).toInt64)) hx hb dX8_isRows_14 (by decide) ?_
    refine lv_ldc2 (own := RX8) (index := 125) (v := 3) hx hb hown (hts _ (tmc sb5_8 9 rfl (by decide +kernel))) dX8_isRows_15 ?_
    refine lv_topEl (y := ((3 : Int32).toInt64)) (by decide) ?_
    refine r_ci X hS (r_runS (As := [.long (b.toInt64), .long ((0 : Int32).toInt64), .long ((3 : Int32).toInt64)]) (rest := []) C0 X hP L_X8_53 (fun sz => c_X8_isIn l D cA ad o σ b 0 3 sz) ⟨Nat.le_of_ble_eq_true rfl, Nat.le_of_ble_eq_true rfl⟩ rfl hl.1 rfl (Nat.le_of_ble_eq_true rfl) dX8_isRows_18 ⟨Nat.zero_le _, Nat.zero_le _⟩) (fun r σ9 H locs hw hP hS => ?_)
    rw [hw.2] at hP
    obtain ⟨⟨b_6, rfl⟩ | ⟨b_6, rfl⟩, -⟩ := hw
    · have p_7 : ¬ b < 0 := Int32.not_lt.mpr b_6.1
      have p_8 : ¬ 3 < b := Int32.not_lt.mpr b_6.2
      have p_9 : ¬ 4 ≤ b := nsucc (by decide) p_8
      refine lv_if_eq (tgt := 54) hx hb dX8_isRows_21 (by decide) (fun c_10 => absurd c_10 (by decide)) (fun c_10 => ?_)
      refine lv_iload_n hx hb dX8_isRows_24 rfl (lv_at hl 2 rfl) ?_
      refine lv_i2l (v := (x.toInt64)) hx hb dX8_isRows_25 rfl ?_
      refine lv_iload_n hx hb dX8_isRows_26 rfl (lv_at hl 0 rfl) ?_
      refine lv_i2l (v := (a.toInt64)) hx hb dX8_isRows_27 rfl ?_
      refine lv_ldc2 (own := RX8) (index := 278) (v := 6) hx hb hown (hts _ (tmc sb6_7 15 rfl (by decide +kernel))) dX8_isRows_28 ?_
      refine lv_topEl (y := ((6 : Int32).toInt64)) (by decide) ?_
      refine r_ci X hS (r_runS (As := [.long (x.toInt64), .long (a.toInt64), .long ((6 : Int32).toInt64)]) (rest := []) C0 X hP L_X8_53 (fun sz => c_X8_isIn l D cA ad o σ x a 6 sz) ⟨Nat.le_of_ble_eq_true rfl, Nat.le_of_ble_eq_true rfl⟩ rfl hl.1 rfl (Nat.le_of_ble_eq_true rfl) dX8_isRows_31 ⟨Nat.zero_le _, Nat.zero_le _⟩) (fun r σ9 H locs hw hP hS => ?_)
      rw [hw.2] at hP
      obtain ⟨⟨b_11, rfl⟩ | ⟨b_11, rfl⟩, -⟩ := hw
      · have p_12 : ¬ x < a := Int32.not_lt.mpr b_11.1
        have p_13 : ¬ 6 < x := Int32.not_lt.mpr b_11.2
        have p_14 : ¬ 7 ≤ x := nsucc (by decide) p_13
        refine lv_if_eq (tgt := 54) hx hb dX8_isRows_34 (by decide) (fun c_15 => absurd c_15 (by decide)) (fun c_15 => ?_)
        refine lv_iload_n hx hb dX8_isRows_37 rfl (lv_at hl 3 rfl) ?_
        refine lv_i2l (v := (z.toInt64)) hx hb dX8_isRows_38 rfl ?_
        refine lv_iload_n hx hb dX8_isRows_39 rfl (lv_at hl 1 rfl) ?_
        refine lv_i2l (v := (b.toInt64)) hx hb dX8_isRows_40 rfl ?_
        refine lv_ldc2 (own := RX8) (index := 278) (v := 6) hx hb hown (hts _ (tmc sb6_7 15 rfl (by decide +kernel))) dX8_isRows_41 ?_
        refine lv_topEl (y := ((6 : Int32).toInt64)) (by decide) ?_
        refine r_ci X hS (r_runS (As := [.long (z.toInt64), .long (b.toInt64), .long ((6 : Int32).toInt64)]) (rest := []) C0 X hP L_X8_53 (fun sz => c_X8_isIn l D cA ad o σ z b 6 sz) ⟨Nat.le_of_ble_eq_true rfl, Nat.le_of_ble_eq_true rfl⟩ rfl hl.1 rfl (Nat.le_of_ble_eq_true rfl) dX8_isRows_44 ⟨Nat.zero_le _, Nat.zero_le _⟩) (fun r σ9 H locs hw hP hS => ?_)
        rw [hw.2] at hP
        obtain ⟨⟨b_16, rfl⟩ | ⟨b_16, rfl⟩, -⟩ := hw
        · have p_17 : ¬ z < b := Int32.not_lt.mpr b_16.1
          have p_18 : ¬ 6 < z := Int32.not_lt.mpr b_16.2
          have p_19 : ¬ 7 ≤ z := nsucc (by decide) p_18
          refine lv_if_eq (tgt := 54) hx hb dX8_isRows_47 (by decide) (fun c_20 => absurd c_20 (by decide)) (fun c_20 => ?_)
          refine lv_iconst (v := 1) hx hb dX8_isRows_50 (by decide) ?_
          refine lv_goto (tgt := 55) hx hb dX8_isRows_51 (by decide) ?_
          exact r_zret C0 X hP hS hr hlk dX8_isRows_55 (Or.inr rfl) ⟨Or.inl ⟨⟨p_2, p_3, p_7, p_8, p_12, p_13, p_17, p_18⟩, rfl⟩, rfl⟩
        · have p_21 : z < b ∨ 7 ≤ z := osucc (by decide) b_16
          refine lv_if_eq (tgt := 54) hx hb dX8_isRows_47 (by decide) (fun c_22 => ?_) (fun c_22 => absurd c_22 (by decide))
          refine lv_iconst (v := 0) hx hb dX8_isRows_54 (by decide) ?_
          exact r_zret C0 X hP hS hr hlk dX8_isRows_55 (Or.inl rfl) ⟨Or.inr ⟨fun h9 => b_16.elim (h9.2.2.2.2.2.2.1) (h9.2.2.2.2.2.2.2), rfl⟩, rfl⟩
      · have p_23 : x < a ∨ 7 ≤ x := osucc (by decide) b_11
        refine lv_if_eq (tgt := 54) hx hb dX8_isRows_34 (by decide) (fun c_24 => ?_) (fun c_24 => absurd c_24 (by decide))
        refine lv_iconst (v := 0) hx hb dX8_isRows_54 (by decide) ?_
        exact r_zret C0 X hP hS hr hlk dX8_isRows_55 (Or.inl rfl) ⟨Or.inr ⟨fun h9 => b_11.elim (h9.2.2.2.2.1) (h9.2.2.2.2.2.1), rfl⟩, rfl⟩
    · have p_25 : b < 0 ∨ 4 ≤ b := osucc (by decide) b_6
      refine lv_if_eq (tgt := 54) hx hb dX8_isRows_21 (by decide) (fun c_26 => ?_) (fun c_26 => absurd c_26 (by decide))
      refine lv_iconst (v := 0) hx hb dX8_isRows_54 (by decide) ?_
      exact r_zret C0 X hP hS hr hlk dX8_isRows_55 (Or.inl rfl) ⟨Or.inr ⟨fun h9 => b_6.elim (h9.2.2.1) (h9.2.2.2.1), rfl⟩, rfl⟩
  · have p_27 : a < 0 ∨ 4 ≤ a := osucc (by decide) b_1
    refine lv_if_eq (tgt := 54) hx hb dX8_isRows_9 (by decide) (fun c_28 => ?_) (fun c_28 => absurd c_28 (by decide))
    refine lv_iconst (v := 0) hx hb dX8_isRows_54 (by decide) ?_
    exact r_zret C0 X hP hS hr hlk dX8_isRows_55 (Or.inl rfl) ⟨Or.inr ⟨fun h9 => b_1.elim (h9.1) (h9.2.1), rfl⟩, rfl⟩
def bB_cX8_rows : Nat := 0xac020400a71c01b6051504151d1c1b2a1100993500b87d001409851d1d00991801b8051504151c1b
theorem yB_cX8_rows : BYS cX8_rows 40 bB_cX8_rows := BYS_of (by decide +kernel)
theorem dX8_rows_0 : decode cX8_rows 0 = .ok (.iload_n 1, 1) := D_27 yB_cX8_rows rfl rfl
theorem dX8_rows_1 : decode cX8_rows 1 = .ok (.iload_n 2, 1) := D_28 yB_cX8_rows rfl rfl
theorem dX8_rows_2 : decode cX8_rows 2 = .ok (.iload 4, 2) := D_21 yB_cX8_rows rfl rfl rfl
theorem dX8_rows_4 : decode cX8_rows 4 = .ok (.iload 5, 2) := D_21 yB_cX8_rows rfl rfl rfl
theorem dX8_rows_6 : decode cX8_rows 6 = .ok (.invokestatic 280, 3) := D_184 yB_cX8_rows rfl rfl rfl
theorem dX8_rows_9 : decode cX8_rows 9 = .ok (.ifCond .eq 29, 3) := D_153 yB_cX8_rows rfl rfl (sg_p (m := 32768) (N := 29) rfl rfl rfl)
theorem dX8_rows_12 : decode cX8_rows 12 = .ok (.iload_n 3, 1) := D_29 yB_cX8_rows rfl rfl
theorem dX8_rows_13 : decode cX8_rows 13 = .ok (.i2l, 1) := D_133 yB_cX8_rows rfl rfl
theorem dX8_rows_14 : decode cX8_rows 14 = .ok (.lconst 0, 1) := D_9 yB_cX8_rows rfl rfl
theorem dX8_rows_15 : decode cX8_rows 15 = .ok (.ldc2_w 125, 3) := D_20 yB_cX8_rows rfl rfl rfl
theorem dX8_rows_18 : decode cX8_rows 18 = .ok (.invokestatic 53, 3) := D_184 yB_cX8_rows rfl rfl rfl
theorem dX8_rows_21 : decode cX8_rows 21 = .ok (.ifCond .eq 17, 3) := D_153 yB_cX8_rows rfl rfl (sg_p (m := 32768) (N := 17) rfl rfl rfl)
theorem dX8_rows_24 : decode cX8_rows 24 = .ok (.aload_n 0, 1) := D_42 yB_cX8_rows rfl rfl
theorem dX8_rows_25 : decode cX8_rows 25 = .ok (.iload_n 1, 1) := D_27 yB_cX8_rows rfl rfl
theorem dX8_rows_26 : decode cX8_rows 26 = .ok (.iload_n 2, 1) := D_28 yB_cX8_rows rfl rfl
theorem dX8_rows_27 : decode cX8_rows 27 = .ok (.iload_n 3, 1) := D_29 yB_cX8_rows rfl rfl
theorem dX8_rows_28 : decode cX8_rows 28 = .ok (.iload 4, 2) := D_21 yB_cX8_rows rfl rfl rfl
theorem dX8_rows_30 : decode cX8_rows 30 = .ok (.iload 5, 2) := D_21 yB_cX8_rows rfl rfl rfl
theorem dX8_rows_32 : decode cX8_rows 32 = .ok (.invokevirtual 284, 3) := D_182 yB_cX8_rows rfl rfl rfl
theorem dX8_rows_35 : decode cX8_rows 35 = .ok (.goto 4, 3) := D_167 yB_cX8_rows rfl rfl (sg_p (m := 32768) (N := 4) rfl rfl rfl)
theorem dX8_rows_38 : decode cX8_rows 38 = .ok (.iconst (-1), 1) := D_2 yB_cX8_rows rfl rfl
theorem dX8_rows_39 : decode cX8_rows 39 = .ok (.ireturn, 1) := D_172 yB_cX8_rows rfl rfl
set_option maxHeartbeats 4000000 in
set_option maxRecDepth 100000 in
theorem c_X8_rows (l : Launch) (D : va_G) (cA : Nat → ClassId) (ad : Nat → Nat) (o : Int64) (σ : Mem) (a : Int32) (b : Int32) (q : Int32) (x : Int32) (z : Int32) (sz : Nat) : Met l yX8_rows (WY yX8_rows cX8_rows 6 (some .int)) (RM 2) (va_Pc [.ref (ad 91), .int a, .int b, .int q, .int x, .int z] (PW D cA ad o σ sz)) (va_Qi (fun r (σ9 : Mem) => r = RWv a b q x z ∧ Fr9 σ σ9) (QW D cA ad o) (FA ad sz)) 0 0 (FA ad sz) := by
  refine ct_of (own := RX8) (k := 2) (Qf := va_Qi (fun r (σ9 : Mem) => r = RWv a b q x z ∧ Fr9 σ σ9) (QW D cA ad o)) rfl (by decide) (Nat.le_of_ble_eq_true rfl) (fun p e s m below meth c ls C0 X hr hlk hP hl => ?_) sz
  have hS : va_S (FA ad s.heap.size) s.heap s.heap [] := va_S.rf
  have hl : lv_has ls 6 [(0, .ref (ad 91)), (1, .int a), (2, .int b), (3, .int q), (4, .int x), (5, .int z)] := hl
  obtain ⟨hx, hb, hml, hown, hts⟩ := id C0
  refine lv_iload_n hx hb dX8_rows_0 rfl (lv_at hl 1 rfl) ?_
  refine lv_iload_n hx hb dX8_rows_1 rfl (lv_at hl 2 rfl) ?_
  refine lv_iload hx hb dX8_rows_2 (lv_at hl 4 rfl) ?_
  refine lv_iload hx hb dX8_rows_4 (lv_at hl 5 rfl) ?_
  refine r_ci X hS (r_runS (As := [.int a, .int b, .int x, .int z]) (rest := []) C0 X hP L_X8_280 (fun sz => c_X8_isRows l D cA ad o σ a b x z sz) ⟨Nat.le_of_ble_eq_true rfl, Nat.le_of_ble_eq_true rfl⟩ rfl hl.1 rfl (Nat.le_of_ble_eq_true rfl) dX8_rows_6 ⟨Nat.zero_le _, Nat.zero_le _⟩) (fun r σ9 H locs hw hP hS => ?_)
  rw [hw.2] at hP
  obtain ⟨⟨b_1, rfl⟩ | ⟨b_1, rfl⟩, -⟩ := hw
  · refine lv_if_eq (tgt := 38) hx hb dX8_rows_9 (by decide) (fun c_2 => absurd c_2 (by decide)) (fun c_2 => ?_)
    refine lv_iload_n hx hb dX8_rows_12 rfl (lv_at hl 3 rfl) ?_
    refine lv_i2l (v := (q.toInt64)) hx hb dX8_rows_13 rfl ?_
    refine lv_lconst (v := ((0 : Int32).toInt64)) hx hb dX8_rows_14 (by decide) ?_
    refine lv_ldc2 (own := RX8) (index := 125) (v := 3) hx hb hown (hts _ (tmc sb5_8 9 rfl (by decide +kernel))) dX8_rows_15 ?_
    refine lv_topEl (y := ((3 : Int32).toInt64)) (by decide) ?_
    refine r_ci X hS (r_runS (As := [.long (q.toInt64), .long ((0 : Int32).toInt64), .long ((3 : Int32).toInt64)]) (rest := []) C0 X hP L_X8_53 (fun sz => c_X8_isIn l D cA ad o σ q 0 3 sz) ⟨Nat.le_of_ble_eq_true rfl, Nat.le_of_ble_eq_true rfl⟩ rfl hl.1 rfl (Nat.le_of_ble_eq_true rfl) dX8_rows_18 ⟨Nat.zero_le _, Nat.zero_le _⟩) (fun r σ9 H locs hw hP hS => ?_)
    rw [hw.2] at hP
    obtain ⟨⟨b_3, rfl⟩ | ⟨b_3, rfl⟩, -⟩ := hw
    · have p_4 : ¬ q < 0 := Int32.not_lt.mpr b_3.1
      have p_5 : ¬ 3 < q := Int32.not_lt.mpr b_3.2
      have p_6 : ¬ 4 ≤ q := nsucc (by decide) p_5
      refine lv_if_eq (tgt := 38) hx hb dX8_rows_21 (by decide) (fun c_7 => absurd c_7 (by decide)) (fun c_7 => ?_)
      obtain ⟨a1, ha1, rfl⟩ := in3 b_1.1 b_1.2.1
      obtain ⟨b1, hb1, rfl⟩ := in3 b_1.2.2.1 b_1.2.2.2.1
      obtain ⟨x1, hx1, rfl⟩ := in6 b_1.1 b_1.2.2.2.2.1 b_1.2.2.2.2.2.1
      obtain ⟨z1, hz1, rfl⟩ := in6 b_1.2.2.1 b_1.2.2.2.2.2.2.1 b_1.2.2.2.2.2.2.2
      obtain ⟨q1, hq1, rfl⟩ := in3 p_4 p_5
      refine lv_aload_n hx hb dX8_rows_24 rfl (lv_at hl 0 rfl) ?_
      refine lv_iload_n hx hb dX8_rows_25 rfl (lv_at hl 1 rfl) ?_
      refine lv_iload_n hx hb dX8_rows_26 rfl (lv_at hl 2 rfl) ?_
      refine lv_iload_n hx hb dX8_rows_27 rfl (lv_at hl 3 rfl) ?_
      refine lv_iload hx hb dX8_rows_28 (lv_at hl 4 rfl) ?_
      refine lv_iload hx hb dX8_rows_30 (lv_at hl 5 rfl) ?_
      refine r_ci X hS (r_runV (As := [.int (nI a1), .int (nI b1), .int (nI q1), .int (nI x1), .int (nI z1)]) (rest := []) C0 X hP L_X8_284 (fun sz => c_X8_rowsOf l D cA ad o σ a1 b1 q1 x1 z1 ha1 hb1 hq1 hx1 hz1 sz) (show 91 < 106 ∧ kd 91 = (8, 24) from ⟨by decide, rfl⟩).1 (show 91 < 106 ∧ kd 91 = (8, 24) from ⟨by decide, rfl⟩).2 (by decide) rfl ⟨Nat.le_of_ble_eq_true rfl, Nat.le_of_ble_eq_true rfl⟩ rfl hl.1 rfl (Nat.le_of_ble_eq_true rfl) dX8_rows_32 ⟨Nat.zero_le _, Nat.zero_le _⟩) (fun rw_8 σw_8 H locs hw_8 hP hS => ?_)
      refine lv_goto (tgt := 39) hx hb dX8_rows_35 (by decide) ?_
      exact r_iret C0 X hP hS hr hlk dX8_rows_39 ⟨(by rw [RW_eq ha1 hb1 hq1 hx1 hz1 b_1]; exact hw_8.1), hw_8.2⟩
    · have p_9 : q < 0 ∨ 4 ≤ q := osucc (by decide) b_3
      refine lv_if_eq (tgt := 38) hx hb dX8_rows_21 (by decide) (fun c_10 => ?_) (fun c_10 => absurd c_10 (by decide))
      refine lv_iconst (v := (-1)) hx hb dX8_rows_38 (by decide) ?_
      exact r_iret C0 X hP hS hr hlk dX8_rows_39 ⟨(by rw [RWv, if_neg (fun h9 => b_3.elim h9.2.1 h9.2.2)]), Fr9_rf _⟩
  · refine lv_if_eq (tgt := 38) hx hb dX8_rows_9 (by decide) (fun c_11 => ?_) (fun c_11 => absurd c_11 (by decide))
    refine lv_iconst (v := (-1)) hx hb dX8_rows_38 (by decide) ?_
    exact r_iret C0 X hP hS hr hlk dX8_rows_39 ⟨(by rw [RWv, if_neg (fun h9 => b_1 h9.1)]), Fr9_rf _⟩
def bB_cX8_aside : Nat := 0xacfc10e6ffa7010584ac051506009b1c01b604151d05151c1b2a1a00a2070515053603ac0205009a1801b804151d1c1b
theorem yB_cX8_aside : BYS cX8_aside 48 bB_cX8_aside := BYS_of (by decide +kernel)
theorem dX8_aside_0 : decode cX8_aside 0 = .ok (.iload_n 1, 1) := D_27 yB_cX8_aside rfl rfl
theorem dX8_aside_1 : decode cX8_aside 1 = .ok (.iload_n 2, 1) := D_28 yB_cX8_aside rfl rfl
theorem dX8_aside_2 : decode cX8_aside 2 = .ok (.iload_n 3, 1) := D_29 yB_cX8_aside rfl rfl
theorem dX8_aside_3 : decode cX8_aside 3 = .ok (.iload 4, 2) := D_21 yB_cX8_aside rfl rfl rfl
theorem dX8_aside_5 : decode cX8_aside 5 = .ok (.invokestatic 280, 3) := D_184 yB_cX8_aside rfl rfl rfl
theorem dX8_aside_8 : decode cX8_aside 8 = .ok (.ifCond .ne 5, 3) := D_154 yB_cX8_aside rfl rfl (sg_p (m := 32768) (N := 5) rfl rfl rfl)
theorem dX8_aside_11 : decode cX8_aside 11 = .ok (.iconst (-1), 1) := D_2 yB_cX8_aside rfl rfl
theorem dX8_aside_12 : decode cX8_aside 12 = .ok (.ireturn, 1) := D_172 yB_cX8_aside rfl rfl
theorem dX8_aside_13 : decode cX8_aside 13 = .ok (.iconst 0, 1) := D_3 yB_cX8_aside rfl rfl
theorem dX8_aside_14 : decode cX8_aside 14 = .ok (.istore 5, 2) := D_54 yB_cX8_aside rfl rfl rfl
theorem dX8_aside_16 : decode cX8_aside 16 = .ok (.iload 5, 2) := D_21 yB_cX8_aside rfl rfl rfl
theorem dX8_aside_18 : decode cX8_aside 18 = .ok (.iconst 4, 1) := D_7 yB_cX8_aside rfl rfl
theorem dX8_aside_19 : decode cX8_aside 19 = .ok (.if_icmp .ge 26, 3) := D_162 yB_cX8_aside rfl rfl (sg_p (m := 32768) (N := 26) rfl rfl rfl)
theorem dX8_aside_22 : decode cX8_aside 22 = .ok (.aload_n 0, 1) := D_42 yB_cX8_aside rfl rfl
theorem dX8_aside_23 : decode cX8_aside 23 = .ok (.iload_n 1, 1) := D_27 yB_cX8_aside rfl rfl
theorem dX8_aside_24 : decode cX8_aside 24 = .ok (.iload_n 2, 1) := D_28 yB_cX8_aside rfl rfl
theorem dX8_aside_25 : decode cX8_aside 25 = .ok (.iload 5, 2) := D_21 yB_cX8_aside rfl rfl rfl
theorem dX8_aside_27 : decode cX8_aside 27 = .ok (.iload_n 3, 1) := D_29 yB_cX8_aside rfl rfl
theorem dX8_aside_28 : decode cX8_aside 28 = .ok (.iload 4, 2) := D_21 yB_cX8_aside rfl rfl rfl
theorem dX8_aside_30 : decode cX8_aside 30 = .ok (.invokevirtual 284, 3) := D_182 yB_cX8_aside rfl rfl rfl
theorem dX8_aside_33 : decode cX8_aside 33 = .ok (.ifCond .lt 6, 3) := D_155 yB_cX8_aside rfl rfl (sg_p (m := 32768) (N := 6) rfl rfl rfl)
theorem dX8_aside_36 : decode cX8_aside 36 = .ok (.iload 5, 2) := D_21 yB_cX8_aside rfl rfl rfl
theorem dX8_aside_38 : decode cX8_aside 38 = .ok (.ireturn, 1) := D_172 yB_cX8_aside rfl rfl
theorem dX8_aside_39 : decode cX8_aside 39 = .ok (.iinc 5 1, 3) := D_132 yB_cX8_aside rfl rfl rfl (sg_p (m := 128) (N := 1) rfl rfl rfl)
theorem dX8_aside_42 : decode cX8_aside 42 = .ok (.goto (-26), 3) := D_167 yB_cX8_aside rfl rfl (sg_n (m := 32768) (N := 26) rfl rfl rfl)
theorem dX8_aside_45 : decode cX8_aside 45 = .ok (.bipush (-4), 2) := D_16 yB_cX8_aside rfl rfl (sg_n (m := 128) (N := 4) rfl rfl rfl)
theorem dX8_aside_47 : decode cX8_aside 47 = .ok (.ireturn, 1) := D_172 yB_cX8_aside rfl rfl
set_option maxHeartbeats 4000000 in
set_option maxRecDepth 100000 in
theorem c_X8_aside (l : Launch) (D : va_G) (cA : Nat → ClassId) (ad : Nat → Nat) (o : Int64) (σ : Mem) (a : Int32) (b : Int32) (x : Int32) (z : Int32) (sz : Nat) : Met l yX8_aside (WY yX8_aside cX8_aside 6 (some .int)) (RM 2) (va_Pc [.ref (ad 91), .int a, .int b, .int x, .int z] (PW D cA ad o σ sz)) (va_Qi (fun r (σ9 : Mem) => r = AS a b x z ∧ Fr9 σ σ9) (QW D cA ad o) (FA ad sz)) 0 0 (FA ad sz) := by
  refine ct_of (own := RX8) (k := 2) (Qf := va_Qi (fun r (σ9 : Mem) => r = AS a b x z ∧ Fr9 σ σ9) (QW D cA ad o)) rfl (by decide) (Nat.le_of_ble_eq_true rfl) (fun p e s m below meth c ls C0 X hr hlk hP hl => ?_) sz
  have hS : va_S (FA ad s.heap.size) s.heap s.heap [] := va_S.rf
  have hl : lv_has ls 6 [(0, .ref (ad 91)), (1, .int a), (2, .int b), (3, .int x), (4, .int z)] := hl
  obtain ⟨hx, hb, hml, hown, hts⟩ := id C0
  refine lv_iload_n hx hb dX8_aside_0 rfl (lv_at hl 1 rfl) ?_
  refine lv_iload_n hx hb dX8_aside_1 rfl (lv_at hl 2 rfl) ?_
  refine lv_iload_n hx hb dX8_aside_2 rfl (lv_at hl 3 rfl) ?_
  refine lv_iload hx hb dX8_aside_3 (lv_at hl 4 rfl) ?_
  refine r_ci X hS (r_runS (As := [.int a, .int b, .int x, .int z]) (rest := []) C0 X hP L_X8_280 (fun sz => c_X8_isRows l D cA ad o σ a b x z sz) ⟨Nat.le_of_ble_eq_true rfl, Nat.le_of_ble_eq_true rfl⟩ rfl hl.1 rfl (Nat.le_of_ble_eq_true rfl) dX8_aside_5 ⟨Nat.zero_le _, Nat.zero_le _⟩) (fun r σ9 H locs hw hP hS => ?_)
  rw [hw.2] at hP
  obtain ⟨⟨b_1, rfl⟩ | ⟨b_1, rfl⟩, -⟩ := hw
  · refine lv_if_ne (tgt := 13) hx hb dX8_aside_8 (by decide) (fun c_2 => ?_) (fun c_2 => absurd c_2 (by decide))
    obtain ⟨a1, ha1, rfl⟩ := in3 b_1.1 b_1.2.1
    obtain ⟨b1, hb1, rfl⟩ := in3 b_1.2.2.1 b_1.2.2.2.1
    obtain ⟨x1, hx1, rfl⟩ := in6 b_1.1 b_1.2.2.2.2.1 b_1.2.2.2.2.2.1
    obtain ⟨z1, hz1, rfl⟩ := in6 b_1.2.2.1 b_1.2.2.2.2.2.2.1 b_1.2.2.2.2.2.2.2
    refine lv_iconst (v := 0) hx hb dX8_aside_13 (by decide) ?_
    refine lv_istore (lv' := [(5, .int 0), (0, .ref (ad 91)), (1, .int (nI a1)), (2, .int (nI b1)), (3, .int (nI x1)), (4, .int (nI z1))]) hx hb dX8_aside_14 hl (by decide) rfl (fun ls hl => ?_)
    refine lv_iload hx hb dX8_aside_16 (lv_at hl 0 rfl) ?_
    refine lv_iconst (v := 4) hx hb dX8_aside_18 (by decide) ?_
    refine lv_icmp_ge (tgt := 45) hx hb dX8_aside_19 (by decide) (fun c_3 => absurd c_3 (by decide)) (fun c_3 => ?_)
    refine lv_aload_n hx hb dX8_aside_22 rfl (lv_at hl 1 rfl) ?_
    refine lv_iload_n hx hb dX8_aside_23 rfl (lv_at hl 2 rfl) ?_
    refine lv_iload_n hx hb dX8_aside_24 rfl (lv_at hl 3 rfl) ?_
    refine lv_iload hx hb dX8_aside_25 (lv_at hl 0 rfl) ?_
    refine lv_iload_n hx hb dX8_aside_27 rfl (lv_at hl 4 rfl) ?_
    refine lv_iload hx hb dX8_aside_28 (lv_at hl 5 rfl) ?_
    refine r_ci X hS (r_runV (As := [.int (nI a1), .int (nI b1), .int 0, .int (nI x1), .int (nI z1)]) (rest := []) C0 X hP L_X8_284 (fun sz => c_X8_rowsOf l D cA ad o σ a1 b1 0 x1 z1 ha1 hb1 (by decide) hx1 hz1 sz) (show 91 < 106 ∧ kd 91 = (8, 24) from ⟨by decide, rfl⟩).1 (show 91 < 106 ∧ kd 91 = (8, 24) from ⟨by decide, rfl⟩).2 (by decide) rfl ⟨Nat.le_of_ble_eq_true rfl, Nat.le_of_ble_eq_true rfl⟩ rfl hl.1 rfl (Nat.le_of_ble_eq_true rfl) dX8_aside_30 ⟨Nat.zero_le _, Nat.zero_le _⟩) (fun rw_4 σw_4 H locs hw_4 hP hS => ?_)
    refine lv_if_lt (tgt := 39) hx hb dX8_aside_33 (by decide) (fun c_5 => ?_) (fun c_5 => ?_)
    · refine lv_iinc (v := 1) (lv' := [(5, .int 1), (0, .ref (ad 91)), (1, .int (nI a1)), (2, .int (nI b1)), (3, .int (nI x1)), (4, .int (nI z1))]) hx hb dX8_aside_39 hl (k := 0) rfl (by decide) (by decide) rfl (fun ls hl => ?_)
      refine lv_goto (tgt := 16) hx hb dX8_aside_42 (by decide) ?_
      refine lv_iload hx hb dX8_aside_16 (lv_at hl 0 rfl) ?_
      refine lv_iconst (v := 4) hx hb dX8_aside_18 (by decide) ?_
      refine lv_icmp_ge (tgt := 45) hx hb dX8_aside_19 (by decide) (fun c_6 => absurd c_6 (by decide)) (fun c_6 => ?_)
      refine lv_aload_n hx hb dX8_aside_22 rfl (lv_at hl 1 rfl) ?_
      refine lv_iload_n hx hb dX8_aside_23 rfl (lv_at hl 2 rfl) ?_
      refine lv_iload_n hx hb dX8_aside_24 rfl (lv_at hl 3 rfl) ?_
      refine lv_iload hx hb dX8_aside_25 (lv_at hl 0 rfl) ?_
      refine lv_iload_n hx hb dX8_aside_27 rfl (lv_at hl 4 rfl) ?_
      refine lv_iload hx hb dX8_aside_28 (lv_at hl 5 rfl) ?_
      refine r_ci X hS (r_runV (As := [.int (nI a1), .int (nI b1), .int 1, .int (nI x1), .int (nI z1)]) (rest := []) C0 X hP L_X8_284 (fun sz => c_X8_rowsOf l D cA ad o σw_4 a1 b1 1 x1 z1 ha1 hb1 (by decide) hx1 hz1 sz) (show 91 < 106 ∧ kd 91 = (8, 24) from ⟨by decide, rfl⟩).1 (show 91 < 106 ∧ kd 91 = (8, 24) from ⟨by decide, rfl⟩).2 (by decide) rfl ⟨Nat.le_of_ble_eq_true rfl, Nat.le_of_ble_eq_true rfl⟩ rfl hl.1 rfl (Nat.le_of_ble_eq_true rfl) dX8_aside_30 ⟨Nat.zero_le _, Nat.zero_le _⟩) (fun rw_7 σw_7 H locs hw_7 hP hS => ?_)
      refine lv_if_lt (tgt := 39) hx hb dX8_aside_33 (by decide) (fun c_8 => ?_) (fun c_8 => ?_)
      · refine lv_iinc (v := 2) (lv' := [(5, .int 2), (0, .ref (ad 91)), (1, .int (nI a1)), (2, .int (nI b1)), (3, .int (nI x1)), (4, .int (nI z1))]) hx hb dX8_aside_39 hl (k := 0) rfl (by decide) (by decide) rfl (fun ls hl => ?_)
        refine lv_goto (tgt := 16) hx hb dX8_aside_42 (by decide) ?_
        refine lv_iload hx hb dX8_aside_16 (lv_at hl 0 rfl) ?_
        refine lv_iconst (v := 4) hx hb dX8_aside_18 (by decide) ?_
        refine lv_icmp_ge (tgt := 45) hx hb dX8_aside_19 (by decide) (fun c_9 => absurd c_9 (by decide)) (fun c_9 => ?_)
        refine lv_aload_n hx hb dX8_aside_22 rfl (lv_at hl 1 rfl) ?_
        refine lv_iload_n hx hb dX8_aside_23 rfl (lv_at hl 2 rfl) ?_
        refine lv_iload_n hx hb dX8_aside_24 rfl (lv_at hl 3 rfl) ?_
        refine lv_iload hx hb dX8_aside_25 (lv_at hl 0 rfl) ?_
        refine lv_iload_n hx hb dX8_aside_27 rfl (lv_at hl 4 rfl) ?_
        refine lv_iload hx hb dX8_aside_28 (lv_at hl 5 rfl) ?_
        refine r_ci X hS (r_runV (As := [.int (nI a1), .int (nI b1), .int 2, .int (nI x1), .int (nI z1)]) (rest := []) C0 X hP L_X8_284 (fun sz => c_X8_rowsOf l D cA ad o σw_7 a1 b1 2 x1 z1 ha1 hb1 (by decide) hx1 hz1 sz) (show 91 < 106 ∧ kd 91 = (8, 24) from ⟨by decide, rfl⟩).1 (show 91 < 106 ∧ kd 91 = (8, 24) from ⟨by decide, rfl⟩).2 (by decide) rfl ⟨Nat.le_of_ble_eq_true rfl, Nat.le_of_ble_eq_true rfl⟩ rfl hl.1 rfl (Nat.le_of_ble_eq_true rfl) dX8_aside_30 ⟨Nat.zero_le _, Nat.zero_le _⟩) (fun rw_10 σw_10 H locs hw_10 hP hS => ?_)
        refine lv_if_lt (tgt := 39) hx hb dX8_aside_33 (by decide) (fun c_11 => ?_) (fun c_11 => ?_)
        · refine lv_iinc (v := 3) (lv' := [(5, .int 3), (0, .ref (ad 91)), (1, .int (nI a1)), (2, .int (nI b1)), (3, .int (nI x1)), (4, .int (nI z1))]) hx hb dX8_aside_39 hl (k := 0) rfl (by decide) (by decide) rfl (fun ls hl => ?_)
          refine lv_goto (tgt := 16) hx hb dX8_aside_42 (by decide) ?_
          refine lv_iload hx hb dX8_aside_16 (lv_at hl 0 rfl) ?_
          refine lv_iconst (v := 4) hx hb dX8_aside_18 (by decide) ?_
          refine lv_icmp_ge (tgt := 45) hx hb dX8_aside_19 (by decide) (fun c_12 => absurd c_12 (by decide)) (fun c_12 => ?_)
          refine lv_aload_n hx hb dX8_aside_22 rfl (lv_at hl 1 rfl) ?_
          refine lv_iload_n hx hb dX8_aside_23 rfl (lv_at hl 2 rfl) ?_
          refine lv_iload_n hx hb dX8_aside_24 rfl (lv_at hl 3 rfl) ?_
          refine lv_iload hx hb dX8_aside_25 (lv_at hl 0 rfl) ?_
          refine lv_iload_n hx hb dX8_aside_27 rfl (lv_at hl 4 rfl) ?_
          refine lv_iload hx hb dX8_aside_28 (lv_at hl 5 rfl) ?_
          refine r_ci X hS (r_runV (As := [.int (nI a1), .int (nI b1), .int 3, .int (nI x1), .int (nI z1)]) (rest := []) C0 X hP L_X8_284 (fun sz => c_X8_rowsOf l D cA ad o σw_10 a1 b1 3 x1 z1 ha1 hb1 (by decide) hx1 hz1 sz) (show 91 < 106 ∧ kd 91 = (8, 24) from ⟨by decide, rfl⟩).1 (show 91 < 106 ∧ kd 91 = (8, 24) from ⟨by decide, rfl⟩).2 (by decide) rfl ⟨Nat.le_of_ble_eq_true rfl, Nat.le_of_ble_eq_true rfl⟩ rfl hl.1 rfl (Nat.le_of_ble_eq_true rfl) dX8_aside_30 ⟨Nat.zero_le _, Nat.zero_le _⟩) (fun rw_13 σw_13 H locs hw_13 hP hS => ?_)
          refine lv_if_lt (tgt := 39) hx hb dX8_aside_33 (by decide) (fun c_14 => ?_) (fun c_14 => ?_)
          · refine lv_iinc (v := 4) (lv' := [(5, .int 4), (0, .ref (ad 91)), (1, .int (nI a1)), (2, .int (nI b1)), (3, .int (nI x1)), (4, .int (nI z1))]) hx hb dX8_aside_39 hl (k := 0) rfl (by decide) (by decide) rfl (fun ls hl => ?_)
            refine lv_goto (tgt := 16) hx hb dX8_aside_42 (by decide) ?_
            refine lv_iload hx hb dX8_aside_16 (lv_at hl 0 rfl) ?_
            refine lv_iconst (v := 4) hx hb dX8_aside_18 (by decide) ?_
            refine lv_icmp_ge (tgt := 45) hx hb dX8_aside_19 (by decide) (fun c_15 => ?_) (fun c_15 => absurd c_15 (by decide))
            refine lv_bipush (v := (-4)) hx hb dX8_aside_45 (by decide) ?_
            exact r_iret C0 X hP hS hr hlk dX8_aside_47 ⟨(by rw [AS_eq ha1 hb1 hx1 hz1 b_1, ASn, if_neg (show ¬ ¬ RWn a1 b1 0 x1 z1 = -4 from fun h9 => h9 ((RWn_neg ha1 hb1 hx1).mp (by rw [← hw_4.1]; exact c_5))), if_neg (show ¬ ¬ RWn a1 b1 1 x1 z1 = -4 from fun h9 => h9 ((RWn_neg ha1 hb1 hx1).mp (by rw [← hw_7.1]; exact c_8))), if_neg (show ¬ ¬ RWn a1 b1 2 x1 z1 = -4 from fun h9 => h9 ((RWn_neg ha1 hb1 hx1).mp (by rw [← hw_10.1]; exact c_11))), if_neg (show ¬ ¬ RWn a1 b1 3 x1 z1 = -4 from fun h9 => h9 ((RWn_neg ha1 hb1 hx1).mp (by rw [← hw_13.1]; exact c_14)))]), Fr9_tr (Fr9_tr (Fr9_tr (hw_4.2) hw_7.2) hw_10.2) hw_13.2⟩
          · refine lv_iload hx hb dX8_aside_36 (lv_at hl 0 rfl) ?_
            exact r_iret C0 X hP hS hr hlk dX8_aside_38 ⟨(by rw [AS_eq ha1 hb1 hx1 hz1 b_1, ASn, if_neg (show ¬ ¬ RWn a1 b1 0 x1 z1 = -4 from fun h9 => h9 ((RWn_neg ha1 hb1 hx1).mp (by rw [← hw_4.1]; exact c_5))), if_neg (show ¬ ¬ RWn a1 b1 1 x1 z1 = -4 from fun h9 => h9 ((RWn_neg ha1 hb1 hx1).mp (by rw [← hw_7.1]; exact c_8))), if_neg (show ¬ ¬ RWn a1 b1 2 x1 z1 = -4 from fun h9 => h9 ((RWn_neg ha1 hb1 hx1).mp (by rw [← hw_10.1]; exact c_11))), if_pos (show ¬ RWn a1 b1 3 x1 z1 = -4 from fun h9 => c_14 (by rw [hw_13.1]; exact (RWn_neg ha1 hb1 hx1).mpr h9))]), Fr9_tr (Fr9_tr (Fr9_tr (hw_4.2) hw_7.2) hw_10.2) hw_13.2⟩
        · refine lv_iload hx hb dX8_aside_36 (lv_at hl 0 rfl) ?_
          exact r_iret C0 X hP hS hr hlk dX8_aside_38 ⟨(by rw [AS_eq ha1 hb1 hx1 hz1 b_1, ASn, if_neg (show ¬ ¬ RWn a1 b1 0 x1 z1 = -4 from fun h9 => h9 ((RWn_neg ha1 hb1 hx1).mp (by rw [← hw_4.1]; exact c_5))), if_neg (show ¬ ¬ RWn a1 b1 1 x1 z1 = -4 from fun h9 => h9 ((RWn_neg ha1 hb1 hx1).mp (by rw [← hw_7.1]; exact c_8))), if_pos (show ¬ RWn a1 b1 2 x1 z1 = -4 from fun h9 => c_11 (by rw [hw_10.1]; exact (RWn_neg ha1 hb1 hx1).mpr h9))]), Fr9_tr (Fr9_tr (hw_4.2) hw_7.2) hw_10.2⟩
      · refine lv_iload hx hb dX8_aside_36 (lv_at hl 0 rfl) ?_
        exact r_iret C0 X hP hS hr hlk dX8_aside_38 ⟨(by rw [AS_eq ha1 hb1 hx1 hz1 b_1, ASn, if_neg (show ¬ ¬ RWn a1 b1 0 x1 z1 = -4 from fun h9 => h9 ((RWn_neg ha1 hb1 hx1).mp (by rw [← hw_4.1]; exact c_5))), if_pos (show ¬ RWn a1 b1 1 x1 z1 = -4 from fun h9 => c_8 (by rw [hw_7.1]; exact (RWn_neg ha1 hb1 hx1).mpr h9))]), Fr9_tr (hw_4.2) hw_7.2⟩
    · refine lv_iload hx hb dX8_aside_36 (lv_at hl 0 rfl) ?_
      exact r_iret C0 X hP hS hr hlk dX8_aside_38 ⟨(by rw [AS_eq ha1 hb1 hx1 hz1 b_1, ASn, if_pos (show ¬ RWn a1 b1 0 x1 z1 = -4 from fun h9 => c_5 (by rw [hw_4.1]; exact (RWn_neg ha1 hb1 hx1).mpr h9))]), hw_4.2⟩
  · refine lv_if_ne (tgt := 13) hx hb dX8_aside_8 (by decide) (fun c_16 => absurd c_16 (by decide)) (fun c_16 => ?_)
    refine lv_iconst (v := (-1)) hx hb dX8_aside_11 (by decide) ?_
    exact r_iret C0 X hP hS hr hlk dX8_aside_12 ⟨(by rw [AS, if_neg b_1]), Fr9_rf _⟩
end
