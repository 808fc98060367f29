section
/-! more rows: indices as naturals, switches, tops -/
theorem sw_in {x : Int32} {lo : Int} {n : Nat} : (x.toInt < lo ∨ lo + n - 1 < x.toInt) ∨ ∃ j : Nat, j < n ∧ x.toInt = lo + j := by
  by_cases h : x.toInt < lo ∨ lo + n - 1 < x.toInt
  · exact Or.inl h
  · exact Or.inr ⟨(x.toInt - lo).toNat, by omega, by omega⟩
theorem sw_eq {x v : Int32} {lo : Int} {j : Nat} (h : x.toInt = lo + j) (hv : v.toInt = lo + j) : x = v := Int32.toInt_inj.mp (h.trans hv.symm)
theorem sw_ne {x v : Int32} {lo : Int} {n : Nat} (h : x.toInt < lo ∨ lo + n - 1 < x.toInt) (hv : lo ≤ v.toInt ∧ v.toInt ≤ lo + n - 1) : ¬ x = v := fun e => by subst e; omega
theorem kdlt : ∀ i, i < 106 → (kd i).2 < 2 ^ 31 := by decide +kernel
section FR
variable {p : Program} {l : Launch} {e : Env} {R : Room} {s : State} {m : MethodId} {args : Array Value} {below : List Frame} {meth : Method} {c : Code} {H : Heap} {locs : List Loc} {cells slots : Nat} {Q : State → Prop}
variable {cc : ByteArray} {pc nL : Nat} {ls : Array Slot} {rest : List Value} {D : va_G} {cA : Nat → ClassId} {ad : Nat → Nat} {A : Nat → Prop} {σ : Mem} {o : Int64} {own : String}
theorem lv_topE {x y : Int32} (h : x = y) (kk : W p l e R s m args below meth c H locs cells slots Q (F0 m pc ls (.int y :: rest))) : W p l e R s m args below meth c H locs cells slots Q (F0 m pc ls (.int x :: rest)) := h ▸ kk
theorem r_ialdN (C0 : CX p s m args c cc nL own) (X : WX D cA ad A s) (hP : WP D cA ad o σ H) (i : Nat) {n k : Nat} (hk : i < 106 ∧ kd i = (9, n)) {j : Int32} (hj : j = nI k) (hkn : k < n) (hdg : decode cc pc = .ok (.iaload, 1))
    (kk : W p l e R s m args below meth c H locs cells slots Q (F0 m (pc + 1) ls (.int (σ i k) :: rest))) : W p l e R s m args below meth c H locs cells slots Q (F0 m pc ls (.int j :: .ref (ad i) :: rest)) := by
  have hn : n < 2 ^ 31 := by have := kdlt i hk.1; rw [hk.2] at this; exact this
  subst hj
  refine r_iald C0 X hP i hk.1 hk.2 (vp_in_nI hkn hn) hdg ?_
  rw [nI_clamp (by omega)]
  exact kk
theorem r_iastN (C0 : CX p s m args c cc nL own) (X : WX D cA ad A s) (hP : WP D cA ad o σ H) (hS : va_S A s.heap H locs) (i : Nat) {n k : Nat} (hk : i < 106 ∧ kd i = (9, n)) {j x : Int32} (hj : j = nI k) (hkn : k < n) (hdg : decode cc pc = .ok (.iastore, 1))
    (kk : ∀ (H1 : Heap) (locs1 : List Loc), WP D cA ad o (stm σ i k x) H1 → va_S A s.heap H1 locs1 → W p l e R s m args below meth c H1 locs1 cells slots Q (F0 m (pc + 1) ls rest)) : W p l e R s m args below meth c H locs cells slots Q (F0 m pc ls (.int x :: .int j :: .ref (ad i) :: rest)) := by
  have hn : n < 2 ^ 31 := by have := kdlt i hk.1; rw [hk.2] at this; exact this
  subst hj
  refine r_iast C0 X hP hS i hk.1 hk.2 (vp_in_nI hkn hn) hdg (fun H1 locs1 hP1 hS1 => kk H1 locs1 ?_ hS1)
  rw [nI_clamp (by omega)] at hP1
  exact hP1
theorem r_aaldCN (C0 : CX p s m args c cc nL own) (X : WX D cA ad A s) (hP : WP D cA ad o σ H) (i : Nat) {n q k : Nat} (hk : i < 106 ∧ kd i = (10, n)) {j : Int32} (hj : j = nI k) (hkn : k < n) (hl : lk i k = some q) (hdg : decode cc pc = .ok (.aaload, 1))
    (kk : W p l e R s m args below meth c H locs cells slots Q (F0 m (pc + 1) ls (.ref (ad q) :: rest))) : W p l e R s m args below meth c H locs cells slots Q (F0 m pc ls (.int j :: .ref (ad i) :: rest)) := by
  have hn : n < 2 ^ 31 := by have := kdlt i hk.1; rw [hk.2] at this; exact this
  subst hj
  exact r_aaldC C0 X hP i hk.1 hk.2 (vp_in_nI hkn hn) (by rw [nI_clamp (by omega)]; exact hl) hdg kk
theorem r_aaldSN (C0 : CX p s m args c cc nL own) (X : WX D cA ad A s) (hP : WP D cA ad o σ H) (i : Nat) {n q k : Nat} (hk : i < 106 ∧ kd i = (11, n)) {j : Int32} (hj : j = nI k) (hkn : k < n) (hl : lk i k = some q) (hdg : decode cc pc = .ok (.aaload, 1))
    (kk : W p l e R s m args below meth c H locs cells slots Q (F0 m (pc + 1) ls (.ref (ad q) :: rest))) : W p l e R s m args below meth c H locs cells slots Q (F0 m pc ls (.int j :: .ref (ad i) :: rest)) := by
  have hn : n < 2 ^ 31 := by have := kdlt i hk.1; rw [hk.2] at this; exact this
  subst hj
  exact r_aaldS C0 X hP i hk.1 hk.2 (vp_in_nI hkn hn) (by rw [nI_clamp (by omega)]; exact hl) hdg kk
theorem r_lret {post : Int64 → Mem → Prop} {v : Int64} (C0 : CX p s m args c cc nL own) (X : WX D cA ad A s) (hP : WP D cA ad o σ H) (hS : va_S A s.heap H locs) (hr : meth.sig.returnType = some .long) (hlk : meth.locks = false) (hdg : decode cc pc = .ok (.lreturn, 1)) (hpost : post v σ) : W p l e R s m args below meth c H locs cells slots (MQ below (va_Ql post (QW D cA ad o) A) args s cells slots A) (F0 m pc ls [.long v]) :=
  W.lret C0.1 C0.2.1 hr (fun t ht hW => ⟨⟨v, σ, rfl, hpost, by rw [ht]; exact hP, va_K.moved hW.alike X.1⟩, hS.F ht⟩) hS.2.2 hdg hlk
end FR
theorem ixN {x : Int32} {M : Int32} {n : Nat} (hM : M.toInt = n) (h : ¬ x < 0) (h2 : x < M) : ∃ j : Nat, j < n ∧ x = nI j := by
  have h1 : 0 ≤ x.toInt := by
    have := Int32.not_lt.mp h
    exact Int32.le_iff_toInt_le.mp this
  have h3 : x.toInt < n := by rw [← hM]; exact Int32.lt_iff_toInt_lt.mp h2
  refine ⟨x.toInt.toNat, by omega, ?_⟩
  apply Int32.toInt_inj.mp
  have h5 := Int32.toInt_lt x
  rw [nI_toInt (by omega)]
  omega
theorem ix8 {x : Int32} (h : ¬ x < 0) (h2 : x < 8) : ∃ j : Nat, j < 8 ∧ x = nI j := ixN (by decide) h h2
end
section
/-! copies of rows, resets: what they do to a memory -/
theorem mem_cast {D : va_G} {cA : Nat → ClassId} {ad : Nat → Nat} {o : Int64} {σ σ' : Mem} {H : Heap} (h : σ = σ') (hP : WP D cA ad o σ H) : WP D cA ad o σ' H := h ▸ hP
/-- places dp .. dp + n - 1 of row d become those of row s from sp on -/
def cpm (σ : Mem) (s sp d dp n : Nat) : Mem := fun a => if a = d then va_cpy (σ s) (σ d) sp dp n else σ a
/-- the first n places of row d become those of row s -/
def rcpy (σ : Mem) (d s n : Nat) : Mem := fun a => if a = d then (fun b => if b < n then σ s b else σ d b) else σ a
theorem cpm0 (σ : Mem) (s d n : Nat) : cpm σ s 0 d 0 n = rcpy σ d s n := by
  funext a
  by_cases h : a = d
  · funext b
    by_cases h2 : b < n <;> simp [cpm, rcpy, h, va_cpy, h2]
  · simp [cpm, rcpy, h]
def rbeg (r : Nat → Int32) : Nat → Int32 := fun b => if b = 6 then -2 else if 7 ≤ b ∧ b ≤ 11 then 0 else r b
def cbeg (σ : Mem) (i : Nat) : Mem := fun a => if a = i then rbeg (σ i) else σ a
theorem cbeg_eq (σ : Mem) (i : Nat) : stm (stm (stm (stm (stm (stm σ i 6 (-2)) i 7 0) i 8 0) i 9 0) i 10 0) i 11 0 = cbeg σ i := by
  funext a
  by_cases h : a = i
  · subst h
    funext b
    simp only [stm, cbeg, rbeg, upd, if_true]
    by_cases h1 : b = 11
    · simp [h1]
    by_cases h2 : b = 10
    · simp [h2]
    by_cases h3 : b = 9
    · simp [h3]
    by_cases h4 : b = 8
    · simp [h4]
    by_cases h5 : b = 7
    · simp [h5]
    have h6 : ¬ (7 ≤ b ∧ b ≤ 11) := by omega
    simp [h1, h2, h3, h4, h5, h6]
  · simp [stm, cbeg, h]
def tbegK (σ : Mem) (t k : Nat) : Mem := fun a => if 22 * t + 15 ≤ a ∧ a < 22 * t + 15 + k then rbeg (σ a) else σ a
theorem tbegK_0 (σ : Mem) (t : Nat) : σ = tbegK σ t 0 := by
  funext a
  have h : ¬ (22 * t + 15 ≤ a ∧ a < 22 * t + 15 + 0) := by omega
  simp only [tbegK, if_neg h]
theorem tbegK_s (σ : Mem) (t k : Nat) : cbeg (tbegK σ t k) (22 * t + 15 + k) = tbegK σ t (k + 1) := by
  funext a
  by_cases h : a = 22 * t + 15 + k
  · have h1 : 22 * t + 15 ≤ a ∧ a < 22 * t + 15 + (k + 1) := by omega
    have h2 : ¬ (22 * t + 15 ≤ a ∧ a < 22 * t + 15 + k) := by omega
    subst h
    simp only [cbeg, tbegK, if_true, if_pos h1, if_neg h2]
  · by_cases h1 : 22 * t + 15 ≤ a ∧ a < 22 * t + 15 + k
    · have h2 : 22 * t + 15 ≤ a ∧ a < 22 * t + 15 + (k + 1) := by omega
      simp only [cbeg, tbegK, if_neg h, if_pos h1, if_pos h2]
    · have h2 : ¬ (22 * t + 15 ≤ a ∧ a < 22 * t + 15 + (k + 1)) := by omega
      simp only [cbeg, tbegK, if_neg h, if_neg h1, if_neg h2]
/-- the first k places of row i are 0 -/
def rz (σ : Mem) (i k : Nat) : Mem := fun a => if a = i then (fun b => if b < k then 0 else σ i b) else σ a
theorem rz_0 (σ : Mem) (i : Nat) : σ = rz σ i 0 := by
  funext a
  by_cases h : a = i
  · subst h
    simp [rz]
  · simp [rz, h]
theorem rz_s (σ : Mem) (i k : Nat) : stm (rz σ i k) i k 0 = rz σ i (k + 1) := by
  funext a
  by_cases h : a = i
  · subst h
    funext b
    by_cases h1 : b = k
    · have h2 : b < k + 1 := by omega
      simp [stm, rz, upd, h1]
    · by_cases h2 : b < k
      · have h3 : b < k + 1 := by omega
        simp [stm, rz, upd, h1, h2, h3]
      · have h3 : ¬ b < k + 1 := by omega
        simp [stm, rz, upd, h1, h2, h3]
  · simp [stm, rz, h]
def tbeg (σ : Mem) (t : Nat) : Mem := stm (stm (stm (rz (tbegK σ t 7) (22 * t + 14) 73) (22 * t) 3 0) (22 * t) 4 0) (22 * t) 5 0
/-- as many copies of one row's first places as a row's fields: Cart.copyFrom -/
theorem cart_cpy (σ : Mem) {d s : Nat} (h : s ≠ d) : stm (stm (stm (stm (stm (stm (stm (stm (stm (stm (stm (stm σ d 0 (σ s 0)) d 1 (σ s 1)) d 2 (σ s 2)) d 3 (σ s 3)) d 4 (σ s 4)) d 5 (σ s 5)) d 6 (σ s 6)) d 7 (σ s 7)) d 8 (σ s 8)) d 9 (σ s 9)) d 10 (σ s 10)) d 11 (σ s 11) = rcpy σ d s 12 := by
  funext a
  by_cases hd : a = d
  · subst hd
    funext b
    simp only [stm, rcpy, upd, if_true]
    by_cases hb : b < 12
    · rcases (show b = 0 ∨ b = 1 ∨ b = 2 ∨ b = 3 ∨ b = 4 ∨ b = 5 ∨ b = 6 ∨ b = 7 ∨ b = 8 ∨ b = 9 ∨ b = 10 ∨ b = 11 by omega) with rfl | rfl | rfl | rfl | rfl | rfl | rfl | rfl | rfl | rfl | rfl | rfl <;> simp
    · have h0 : ∀ k, k < 12 → ¬ b = k := fun k hk => by omega
      simp [h0, hb]
  · simp [stm, rcpy, hd]
section FY
variable {p : Program} {l : Launch} {e : Env} {R : Room} {s : State} {m : MethodId} {args : Array Value} {below : List Frame} {meth : Method} {c : Code} {H : Heap} {locs : List Loc} {cells slots : Nat} {Q : State → Prop}
variable {cc : ByteArray} {pc nL : Nat} {ls : Array Slot} {rest : List Value} {D : va_G} {cA : Nat → ClassId} {ad : Nat → Nat} {A : Nat → Prop} {σ : Mem} {o : Int64} {own : String}
theorem r_copy (C0 : CX p s m args c cc nL own) (X : WX D cA ad A s) (hP : WP D cA ad o σ H) (hS : va_S A s.heap H locs) {index : Nat} (hlink : Cond.methodLink own index arraycopyName ∈ tbg) (hsz : ls.size = nL) (i j : Nat) {n0 n1 sp dp n : Nat} (hi : i < 106 ∧ kd i = (9, n0)) (hj : j < 106 ∧ kd j = (9, n1)) {xs xd xn : Int32} (h1 : xs = nI sp) (h2 : xd = nI dp) (h3 : xn = nI n) (h4 : sp + n ≤ n0) (h5 : dp + n ≤ n1) (hframes : 1 ≤ R.frames) (hlocals : (rest.map fun v => v.category).sum + (nativeFrameWords "java/lang/System" "arraycopy" 5 + 11) ≤ R.locals) (hdg : decode cc pc = .ok (.invokestatic index, 3))
    (kk : ∀ (H1 : Heap) (locs1 : List Loc), WP D cA ad o (cpm σ i sp j dp n) H1 → va_S A s.heap H1 locs1 → W p l e R s m args below meth c H1 locs1 cells slots Q (F0 m (pc + 3) ls rest)) : W p l e R s m args below meth c H locs cells slots Q (F0 m pc ls (.int xn :: .int xd :: .ref (ad j) :: .int xs :: .ref (ad i) :: rest)) := by
  have a0 : n0 < 2 ^ 31 := by have := kdlt i hi.1; rw [hi.2] at this; exact this
  have a1 : n1 < 2 ^ 31 := by have := kdlt j hj.1; rw [hj.2] at this; exact this
  obtain ⟨hx, hb, hml, hown, hts⟩ := C0
  subst h1; subst h2; subst h3
  refine va_copyi hx hb (by rw [hml, hsz]) hown (hts _ hlink) (hts _ (tmc sb2_7 12 rfl (by decide +kernel))) (hts _ (tmc sb2_7 11 rfl (by decide +kernel))) (hts _ (tmc sb1_0 10 rfl (by decide +kernel))) X.1 hP (WX_D X o σ) hS i j 0 0 (c0 := cA 0) (c1 := cA 0) (n0 := n0) (n1 := n1) (f := σ i) (g := σ j) (ty := .int) (by rw [wl_get cA ad o σ hi.1, cel_arr hi.2]) (by rw [wl_get cA ad o σ hj.1, cel_arr hj.2]) rfl rfl rfl (nI_pos (by omega)) (nI_pos (by omega)) (nI_pos (by omega)) (by rw [nI_clamp (by omega), nI_clamp (by omega)]; exact h4) (by rw [nI_clamp (by omega), nI_clamp (by omega)]; exact h5) (fun _ _ => rfl) hframes hlocals hdg (fun H1 locs1 hP1 _ hS1 => kk H1 locs1 ?_ hS1)
  rw [nI_clamp (by omega), nI_clamp (by omega), nI_clamp (by omega), ← cel_arr (cA := cA) (ad := ad) (o := o) hj.2, wl_set] at hP1
  exact hP1
theorem fits_lk : Cond.methodLink "WhoBacks$Road" 52 arraycopyName ∈ tbg := tmc sb2_7 10 rfl (by decide +kernel)
theorem lkTr58 : Cond.methodLink "WhoBacks$Traffic" 58 arraycopyName ∈ tbg := tmc sb2_8 1 rfl (by decide +kernel)
theorem lkWh310 : Cond.methodLink "WhoBacks" 310 arraycopyName ∈ tbg := tmc sb4_7 1 rfl (by decide +kernel)
end FY
theorem nosh {j : Nat} (h : j < 8) : ¬ (nI j < 0 ∨ 8 ≤ nI j) := by
  intro q
  rcases q with q | q
  · exact nI_pos (by omega) q
  · exact nI_ge (a := j) (b := 8) h (by decide) q
theorem nI_ltof {k b : Nat} (h : ¬ nI b ≤ nI k) (hk : k < 2 ^ 31) : k < b := by
  rcases Nat.lt_or_ge k b with q | q
  · exact q
  · exact absurd (nI_le q hk) h
theorem nI_geof {k b : Nat} (h : nI b ≤ nI k) (hk : k ≤ b) (hb : b < 2 ^ 31) : k = b := by
  rcases Nat.lt_or_ge k b with q | q
  · exact absurd h (nI_ge q hb)
  · omega
end
section
def bB_cX0_beginAnew : Nat := 0xb12e00b5032a2b00b5032a2800b5032a2500b5032a2200b5032a0900b5fe102a
theorem yB_cX0_beginAnew : BYS cX0_beginAnew 32 bB_cX0_beginAnew := BYS_of (by decide +kernel)
theorem dX0_beginAnew_0 : decode cX0_beginAnew 0 = .ok (.aload_n 0, 1) := D_42 yB_cX0_beginAnew rfl rfl
theorem dX0_beginAnew_1 : decode cX0_beginAnew 1 = .ok (.bipush (-2), 2) := D_16 yB_cX0_beginAnew rfl rfl (sg_n (m := 128) (N := 2) rfl rfl rfl)
theorem dX0_beginAnew_3 : decode cX0_beginAnew 3 = .ok (.putfield 9, 3) := D_181 yB_cX0_beginAnew rfl rfl rfl
theorem dX0_beginAnew_6 : decode cX0_beginAnew 6 = .ok (.aload_n 0, 1) := D_42 yB_cX0_beginAnew rfl rfl
theorem dX0_beginAnew_7 : decode cX0_beginAnew 7 = .ok (.iconst 0, 1) := D_3 yB_cX0_beginAnew rfl rfl
theorem dX0_beginAnew_8 : decode cX0_beginAnew 8 = .ok (.putfield 34, 3) := D_181 yB_cX0_beginAnew rfl rfl rfl
theorem dX0_beginAnew_11 : decode cX0_beginAnew 11 = .ok (.aload_n 0, 1) := D_42 yB_cX0_beginAnew rfl rfl
theorem dX0_beginAnew_12 : decode cX0_beginAnew 12 = .ok (.iconst 0, 1) := D_3 yB_cX0_beginAnew rfl rfl
theorem dX0_beginAnew_13 : decode cX0_beginAnew 13 = .ok (.putfield 37, 3) := D_181 yB_cX0_beginAnew rfl rfl rfl
theorem dX0_beginAnew_16 : decode cX0_beginAnew 16 = .ok (.aload_n 0, 1) := D_42 yB_cX0_beginAnew rfl rfl
theorem dX0_beginAnew_17 : decode cX0_beginAnew 17 = .ok (.iconst 0, 1) := D_3 yB_cX0_beginAnew rfl rfl
theorem dX0_beginAnew_18 : decode cX0_beginAnew 18 = .ok (.putfield 40, 3) := D_181 yB_cX0_beginAnew rfl rfl rfl
theorem dX0_beginAnew_21 : decode cX0_beginAnew 21 = .ok (.aload_n 0, 1) := D_42 yB_cX0_beginAnew rfl rfl
theorem dX0_beginAnew_22 : decode cX0_beginAnew 22 = .ok (.iconst 0, 1) := D_3 yB_cX0_beginAnew rfl rfl
theorem dX0_beginAnew_23 : decode cX0_beginAnew 23 = .ok (.putfield 43, 3) := D_181 yB_cX0_beginAnew rfl rfl rfl
theorem dX0_beginAnew_26 : decode cX0_beginAnew 26 = .ok (.aload_n 0, 1) := D_42 yB_cX0_beginAnew rfl rfl
theorem dX0_beginAnew_27 : decode cX0_beginAnew 27 = .ok (.iconst 0, 1) := D_3 yB_cX0_beginAnew rfl rfl
theorem dX0_beginAnew_28 : decode cX0_beginAnew 28 = .ok (.putfield 46, 3) := D_181 yB_cX0_beginAnew rfl rfl rfl
theorem dX0_beginAnew_31 : decode cX0_beginAnew 31 = .ok (.return_, 1) := D_177 yB_cX0_beginAnew rfl rfl
set_option maxHeartbeats 4000000 in
set_option maxRecDepth 100000 in
theorem c_X0_beginAnew (l : Launch) (D : va_G) (cA : Nat → ClassId) (ad : Nat → Nat) (o : Int64) (σ : Mem) (i : Nat) (hi : i < 106 ∧ kd i = (0, 12)) (sz : Nat) : Met l yX0_beginAnew (WY yX0_beginAnew cX0_beginAnew 1 none) (RM 0) (va_Pc [.ref (ad i)] (PW D cA ad o σ sz)) (va_Qv (fun σ9 => σ9 = cbeg σ i) (QW D cA ad o) (FA ad sz)) 0 0 (FA ad sz) := by
  refine ct_of (own := RX0) (k := 0) (Qf := va_Qv (fun σ9 => σ9 = cbeg σ i) (QW D cA ad o)) rfl (by decide) (Nat.le_of_ble_eq_true rfl) (fun p e s m below meth c ls C0 X hr hlk hP hl => ?_) sz
  have hS : va_S (FA ad s.heap.size) s.heap s.heap [] := va_S.rf
  have hl : lv_has ls 1 [(0, .ref (ad i))] := hl
  obtain ⟨hx, hb, hml, hown, hts⟩ := id C0
  refine lv_aload_n hx hb dX0_beginAnew_0 rfl (lv_at hl 0 rfl) ?_
  refine lv_bipush (v := (-2)) hx hb dX0_beginAnew_1 (by decide) ?_
  refine pf_X0_9 C0 X hP hS i hi dX0_beginAnew_3 (fun H locs hP hS => ?_)
  refine lv_aload_n hx hb dX0_beginAnew_6 rfl (lv_at hl 0 rfl) ?_
  refine lv_iconst (v := 0) hx hb dX0_beginAnew_7 (by decide) ?_
  refine pf_X0_34 C0 X hP hS i (Or.inl rfl) hi dX0_beginAnew_8 (fun H locs hP hS => ?_)
  refine lv_aload_n hx hb dX0_beginAnew_11 rfl (lv_at hl 0 rfl) ?_
  refine lv_iconst (v := 0) hx hb dX0_beginAnew_12 (by decide) ?_
  refine pf_X0_37 C0 X hP hS i (Or.inl rfl) hi dX0_beginAnew_13 (fun H locs hP hS => ?_)
  refine lv_aload_n hx hb dX0_beginAnew_16 rfl (lv_at hl 0 rfl) ?_
  refine lv_iconst (v := 0) hx hb dX0_beginAnew_17 (by decide) ?_
  refine pf_X0_40 C0 X hP hS i hi dX0_beginAnew_18 (fun H locs hP hS => ?_)
  refine lv_aload_n hx hb dX0_beginAnew_21 rfl (lv_at hl 0 rfl) ?_
  refine lv_iconst (v := 0) hx hb dX0_beginAnew_22 (by decide) ?_
  refine pf_X0_43 C0 X hP hS i hi dX0_beginAnew_23 (fun H locs hP hS => ?_)
  refine lv_aload_n hx hb dX0_beginAnew_26 rfl (lv_at hl 0 rfl) ?_
  refine lv_iconst (v := 0) hx hb dX0_beginAnew_27 (by decide) ?_
  refine pf_X0_46 C0 X hP hS i hi dX0_beginAnew_28 (fun H locs hP hS => ?_)
  exact r_vret C0 X hP hS hr hlk dX0_beginAnew_31 (cbeg_eq σ i)
def bB_cX0_copyFrom : Nat := 0xb12e00b52e00b42b2a2b00b52b00b42b2a2800b52800b42b2a2500b52500b42b2a2200b52200b42b2a0900b50900b42b2a1f00b51f00b42b2a1c00b51c00b42b2a1900b51900b42b2a1600b51600b42b2a1300b51300b42b2a0f00b50f00b42b2a
theorem yB_cX0_copyFrom : BYS cX0_copyFrom 97 bB_cX0_copyFrom := BYS_of (by decide +kernel)
theorem dX0_copyFrom_0 : decode cX0_copyFrom 0 = .ok (.aload_n 0, 1) := D_42 yB_cX0_copyFrom rfl rfl
theorem dX0_copyFrom_1 : decode cX0_copyFrom 1 = .ok (.aload_n 1, 1) := D_43 yB_cX0_copyFrom rfl rfl
theorem dX0_copyFrom_2 : decode cX0_copyFrom 2 = .ok (.getfield 15, 3) := D_180 yB_cX0_copyFrom rfl rfl rfl
theorem dX0_copyFrom_5 : decode cX0_copyFrom 5 = .ok (.putfield 15, 3) := D_181 yB_cX0_copyFrom rfl rfl rfl
theorem dX0_copyFrom_8 : decode cX0_copyFrom 8 = .ok (.aload_n 0, 1) := D_42 yB_cX0_copyFrom rfl rfl
theorem dX0_copyFrom_9 : decode cX0_copyFrom 9 = .ok (.aload_n 1, 1) := D_43 yB_cX0_copyFrom rfl rfl
theorem dX0_copyFrom_10 : decode cX0_copyFrom 10 = .ok (.getfield 19, 3) := D_180 yB_cX0_copyFrom rfl rfl rfl
theorem dX0_copyFrom_13 : decode cX0_copyFrom 13 = .ok (.putfield 19, 3) := D_181 yB_cX0_copyFrom rfl rfl rfl
theorem dX0_copyFrom_16 : decode cX0_copyFrom 16 = .ok (.aload_n 0, 1) := D_42 yB_cX0_copyFrom rfl rfl
theorem dX0_copyFrom_17 : decode cX0_copyFrom 17 = .ok (.aload_n 1, 1) := D_43 yB_cX0_copyFrom rfl rfl
theorem dX0_copyFrom_18 : decode cX0_copyFrom 18 = .ok (.getfield 22, 3) := D_180 yB_cX0_copyFrom rfl rfl rfl
theorem dX0_copyFrom_21 : decode cX0_copyFrom 21 = .ok (.putfield 22, 3) := D_181 yB_cX0_copyFrom rfl rfl rfl
theorem dX0_copyFrom_24 : decode cX0_copyFrom 24 = .ok (.aload_n 0, 1) := D_42 yB_cX0_copyFrom rfl rfl
theorem dX0_copyFrom_25 : decode cX0_copyFrom 25 = .ok (.aload_n 1, 1) := D_43 yB_cX0_copyFrom rfl rfl
theorem dX0_copyFrom_26 : decode cX0_copyFrom 26 = .ok (.getfield 25, 3) := D_180 yB_cX0_copyFrom rfl rfl rfl
theorem dX0_copyFrom_29 : decode cX0_copyFrom 29 = .ok (.putfield 25, 3) := D_181 yB_cX0_copyFrom rfl rfl rfl
theorem dX0_copyFrom_32 : decode cX0_copyFrom 32 = .ok (.aload_n 0, 1) := D_42 yB_cX0_copyFrom rfl rfl
theorem dX0_copyFrom_33 : decode cX0_copyFrom 33 = .ok (.aload_n 1, 1) := D_43 yB_cX0_copyFrom rfl rfl
theorem dX0_copyFrom_34 : decode cX0_copyFrom 34 = .ok (.getfield 28, 3) := D_180 yB_cX0_copyFrom rfl rfl rfl
theorem dX0_copyFrom_37 : decode cX0_copyFrom 37 = .ok (.putfield 28, 3) := D_181 yB_cX0_copyFrom rfl rfl rfl
theorem dX0_copyFrom_40 : decode cX0_copyFrom 40 = .ok (.aload_n 0, 1) := D_42 yB_cX0_copyFrom rfl rfl
theorem dX0_copyFrom_41 : decode cX0_copyFrom 41 = .ok (.aload_n 1, 1) := D_43 yB_cX0_copyFrom rfl rfl
theorem dX0_copyFrom_42 : decode cX0_copyFrom 42 = .ok (.getfield 31, 3) := D_180 yB_cX0_copyFrom rfl rfl rfl
theorem dX0_copyFrom_45 : decode cX0_copyFrom 45 = .ok (.putfield 31, 3) := D_181 yB_cX0_copyFrom rfl rfl rfl
theorem dX0_copyFrom_48 : decode cX0_copyFrom 48 = .ok (.aload_n 0, 1) := D_42 yB_cX0_copyFrom rfl rfl
theorem dX0_copyFrom_49 : decode cX0_copyFrom 49 = .ok (.aload_n 1, 1) := D_43 yB_cX0_copyFrom rfl rfl
theorem dX0_copyFrom_50 : decode cX0_copyFrom 50 = .ok (.getfield 9, 3) := D_180 yB_cX0_copyFrom rfl rfl rfl
theorem dX0_copyFrom_53 : decode cX0_copyFrom 53 = .ok (.putfield 9, 3) := D_181 yB_cX0_copyFrom rfl rfl rfl
theorem dX0_copyFrom_56 : decode cX0_copyFrom 56 = .ok (.aload_n 0, 1) := D_42 yB_cX0_copyFrom rfl rfl
theorem dX0_copyFrom_57 : decode cX0_copyFrom 57 = .ok (.aload_n 1, 1) := D_43 yB_cX0_copyFrom rfl rfl
theorem dX0_copyFrom_58 : decode cX0_copyFrom 58 = .ok (.getfield 34, 3) := D_180 yB_cX0_copyFrom rfl rfl rfl
theorem dX0_copyFrom_61 : decode cX0_copyFrom 61 = .ok (.putfield 34, 3) := D_181 yB_cX0_copyFrom rfl rfl rfl
theorem dX0_copyFrom_64 : decode cX0_copyFrom 64 = .ok (.aload_n 0, 1) := D_42 yB_cX0_copyFrom rfl rfl
theorem dX0_copyFrom_65 : decode cX0_copyFrom 65 = .ok (.aload_n 1, 1) := D_43 yB_cX0_copyFrom rfl rfl
theorem dX0_copyFrom_66 : decode cX0_copyFrom 66 = .ok (.getfield 37, 3) := D_180 yB_cX0_copyFrom rfl rfl rfl
theorem dX0_copyFrom_69 : decode cX0_copyFrom 69 = .ok (.putfield 37, 3) := D_181 yB_cX0_copyFrom rfl rfl rfl
theorem dX0_copyFrom_72 : decode cX0_copyFrom 72 = .ok (.aload_n 0, 1) := D_42 yB_cX0_copyFrom rfl rfl
theorem dX0_copyFrom_73 : decode cX0_copyFrom 73 = .ok (.aload_n 1, 1) := D_43 yB_cX0_copyFrom rfl rfl
theorem dX0_copyFrom_74 : decode cX0_copyFrom 74 = .ok (.getfield 40, 3) := D_180 yB_cX0_copyFrom rfl rfl rfl
theorem dX0_copyFrom_77 : decode cX0_copyFrom 77 = .ok (.putfield 40, 3) := D_181 yB_cX0_copyFrom rfl rfl rfl
theorem dX0_copyFrom_80 : decode cX0_copyFrom 80 = .ok (.aload_n 0, 1) := D_42 yB_cX0_copyFrom rfl rfl
theorem dX0_copyFrom_81 : decode cX0_copyFrom 81 = .ok (.aload_n 1, 1) := D_43 yB_cX0_copyFrom rfl rfl
theorem dX0_copyFrom_82 : decode cX0_copyFrom 82 = .ok (.getfield 43, 3) := D_180 yB_cX0_copyFrom rfl rfl rfl
theorem dX0_copyFrom_85 : decode cX0_copyFrom 85 = .ok (.putfield 43, 3) := D_181 yB_cX0_copyFrom rfl rfl rfl
theorem dX0_copyFrom_88 : decode cX0_copyFrom 88 = .ok (.aload_n 0, 1) := D_42 yB_cX0_copyFrom rfl rfl
theorem dX0_copyFrom_89 : decode cX0_copyFrom 89 = .ok (.aload_n 1, 1) := D_43 yB_cX0_copyFrom rfl rfl
theorem dX0_copyFrom_90 : decode cX0_copyFrom 90 = .ok (.getfield 46, 3) := D_180 yB_cX0_copyFrom rfl rfl rfl
theorem dX0_copyFrom_93 : decode cX0_copyFrom 93 = .ok (.putfield 46, 3) := D_181 yB_cX0_copyFrom rfl rfl rfl
theorem dX0_copyFrom_96 : decode cX0_copyFrom 96 = .ok (.return_, 1) := D_177 yB_cX0_copyFrom rfl rfl
set_option maxHeartbeats 4000000 in
set_option maxRecDepth 100000 in
theorem c_X0_copyFrom (l : Launch) (D : va_G) (cA : Nat → ClassId) (ad : Nat → Nat) (o : Int64) (σ : Mem) (i : Nat) (j : Nat) (hi : i < 106 ∧ kd i = (0, 12)) (hj : j < 106 ∧ kd j = (0, 12)) (hne : j ≠ i) (h01 : ∀ b, b = 0 ∨ b = 1 ∨ b = 7 ∨ b = 8 → (σ j b = 0 ∨ σ j b = 1)) (sz : Nat) : Met l yX0_copyFrom (WY yX0_copyFrom cX0_copyFrom 2 none) (RM 0) (va_Pc [.ref (ad i), .ref (ad j)] (PW D cA ad o σ sz)) (va_Qv (fun σ9 => σ9 = rcpy σ i j 12) (QW D cA ad o) (FA ad sz)) 0 0 (FA ad sz) := by
  refine ct_of (own := RX0) (k := 0) (Qf := va_Qv (fun σ9 => σ9 = rcpy σ i j 12) (QW D cA ad o)) rfl (by decide) (Nat.le_of_ble_eq_true rfl) (fun p e s m below meth c ls C0 X hr hlk hP hl => ?_) sz
  have hS : va_S (FA ad s.heap.size) s.heap s.heap [] := va_S.rf
  have hl : lv_has ls 2 [(0, .ref (ad i)), (1, .ref (ad j))] := hl
  obtain ⟨hx, hb, hml, hown, hts⟩ := id C0
  refine lv_aload_n hx hb dX0_copyFrom_0 rfl (lv_at hl 0 rfl) ?_
  refine lv_aload_n hx hb dX0_copyFrom_1 rfl (lv_at hl 1 rfl) ?_
  refine gf_X0_15 C0 X hP j hj dX0_copyFrom_2 ?_
  refine lv_topE (y := (σ j 0)) rfl ?_
  refine pf_X0_15 C0 X hP hS i (h01 0 (by decide)) hi dX0_copyFrom_5 (fun H locs hP hS => ?_)
  refine lv_aload_n hx hb dX0_copyFrom_8 rfl (lv_at hl 0 rfl) ?_
  refine lv_aload_n hx hb dX0_copyFrom_9 rfl (lv_at hl 1 rfl) ?_
  refine gf_X0_19 C0 X hP j hj dX0_copyFrom_10 ?_
  refine lv_topE (y := (σ j 1)) (by simp only [stm_ne _ _ _ hne]) ?_
  refine pf_X0_19 C0 X hP hS i (h01 1 (by decide)) hi dX0_copyFrom_13 (fun H locs hP hS => ?_)
  refine lv_aload_n hx hb dX0_copyFrom_16 rfl (lv_at hl 0 rfl) ?_
  refine lv_aload_n hx hb dX0_copyFrom_17 rfl (lv_at hl 1 rfl) ?_
  refine gf_X0_22 C0 X hP j hj dX0_copyFrom_18 ?_
  refine lv_topE (y := (σ j 2)) (by simp only [stm_ne _ _ _ hne]) ?_
  refine pf_X0_22 C0 X hP hS i hi dX0_copyFrom_21 (fun H locs hP hS => ?_)
  refine lv_aload_n hx hb dX0_copyFrom_24 rfl (lv_at hl 0 rfl) ?_
  refine lv_aload_n hx hb dX0_copyFrom_25 rfl (lv_at hl 1 rfl) ?_
  refine gf_X0_25 C0 X hP j hj dX0_copyFrom_26 ?_
  refine lv_topE (y := (σ j 3)) (by simp only [stm_ne _ _ _ hne]) ?_
  refine pf_X0_25 C0 X hP hS i hi dX0_copyFrom_29 (fun H locs hP hS => ?_)
  refine lv_aload_n hx hb dX0_copyFrom_32 rfl (lv_at hl 0 rfl) ?_
  refine lv_aload_n hx hb dX0_copyFrom_33 rfl (lv_at hl 1 rfl) ?_
  refine gf_X0_28 C0 X hP j hj dX0_copyFrom_34 ?_
  refine lv_topE (y := (σ j 4)) (by simp only [stm_ne _ _ _ hne]) ?_
  refine pf_X0_28 C0 X hP hS i hi dX0_copyFrom_37 (fun H locs hP hS => ?_)
  refine lv_aload_n hx hb dX0_copyFrom_40 rfl (lv_at hl 0 rfl) ?_
  refine lv_aload_n hx hb dX0_copyFrom_41 rfl (lv_at hl 1 rfl) ?_
  refine gf_X0_31 C0 X hP j hj dX0_copyFrom_42 ?_
  refine lv_topE (y := (σ j 5)) (by simp only [stm_ne _ _ _ hne]) ?_
  refine pf_X0_31 C0 X hP hS i hi dX0_copyFrom_45 (fun H locs hP hS => ?_)
  refine lv_aload_n hx hb dX0_copyFrom_48 rfl (lv_at hl 0 rfl) ?_
  refine lv_aload_n hx hb dX0_copyFrom_49 rfl (lv_at hl 1 rfl) ?_
  refine gf_X0_9 C0 X hP j hj dX0_copyFrom_50 ?_
  refine lv_topE (y := (σ j 6)) (by simp only [stm_ne _ _ _ hne]) ?_
  refine pf_X0_9 C0 X hP hS i hi dX0_copyFrom_53 (fun H locs hP hS => ?_)
  refine lv_aload_n hx hb dX0_copyFrom_56 rfl (lv_at hl 0 rfl) ?_
  refine lv_aload_n hx hb dX0_copyFrom_57 rfl (lv_at hl 1 rfl) ?_
  refine gf_X0_34 C0 X hP j hj dX0_copyFrom_58 ?_
  refine lv_topE (y := (σ j 7)) (by simp only [stm_ne _ _ _ hne]) ?_
  refine pf_X0_34 C0 X hP hS i (h01 7 (by decide)) hi dX0_copyFrom_61 (fun H locs hP hS => ?_)
  refine lv_aload_n hx hb dX0_copyFrom_64 rfl (lv_at hl 0 rfl) ?_
  refine lv_aload_n hx hb dX0_copyFrom_65 rfl (lv_at hl 1 rfl) ?_
  refine gf_X0_37 C0 X hP j hj dX0_copyFrom_66 ?_
  refine lv_topE (y := (σ j 8)) (by simp only [stm_ne _ _ _ hne]) ?_
  refine pf_X0_37 C0 X hP hS i (h01 8 (by decide)) hi dX0_copyFrom_69 (fun H locs hP hS => ?_)
  refine lv_aload_n hx hb dX0_copyFrom_72 rfl (lv_at hl 0 rfl) ?_
  refine lv_aload_n hx hb dX0_copyFrom_73 rfl (lv_at hl 1 rfl) ?_
  refine gf_X0_40 C0 X hP j hj dX0_copyFrom_74 ?_
  refine lv_topE (y := (σ j 9)) (by simp only [stm_ne _ _ _ hne]) ?_
  refine pf_X0_40 C0 X hP hS i hi dX0_copyFrom_77 (fun H locs hP hS => ?_)
  refine lv_aload_n hx hb dX0_copyFrom_80 rfl (lv_at hl 0 rfl) ?_
  refine lv_aload_n hx hb dX0_copyFrom_81 rfl (lv_at hl 1 rfl) ?_
  refine gf_X0_43 C0 X hP j hj dX0_copyFrom_82 ?_
  refine lv_topE (y := (σ j 10)) (by simp only [stm_ne _ _ _ hne]) ?_
  refine pf_X0_43 C0 X hP hS i hi dX0_copyFrom_85 (fun H locs hP hS => ?_)
  refine lv_aload_n hx hb dX0_copyFrom_88 rfl (lv_at hl 0 rfl) ?_
  refine lv_aload_n hx hb dX0_copyFrom_89 rfl (lv_at hl 1 rfl) ?_
  refine gf_X0_46 C0 X hP j hj dX0_copyFrom_90 ?_
  refine lv_topE (y := (σ j 11)) (by simp only [stm_ne _ _ _ hne]) ?_
  refine pf_X0_46 C0 X hP hS i hi dX0_copyFrom_93 (fun H locs hP hS => ?_)
  exact r_vret C0 X hP hS hr hlk dX0_copyFrom_96 (cart_cpy σ hne)
def bB_cX7_shelfAt : Nat := 0xb0321b1800b42a0900a7010700a108101b09009b1b
theorem yB_cX7_shelfAt : BYS cX7_shelfAt 21 bB_cX7_shelfAt := BYS_of (by decide +kernel)
theorem dX7_shelfAt_0 : decode cX7_shelfAt 0 = .ok (.iload_n 1, 1) := D_27 yB_cX7_shelfAt rfl rfl
theorem dX7_shelfAt_1 : decode cX7_shelfAt 1 = .ok (.ifCond .lt 9, 3) := D_155 yB_cX7_shelfAt rfl rfl (sg_p (m := 32768) (N := 9) rfl rfl rfl)
theorem dX7_shelfAt_4 : decode cX7_shelfAt 4 = .ok (.iload_n 1, 1) := D_27 yB_cX7_shelfAt rfl rfl
theorem dX7_shelfAt_5 : decode cX7_shelfAt 5 = .ok (.bipush 8, 2) := D_16 yB_cX7_shelfAt rfl rfl (sg_p (m := 128) (N := 8) rfl rfl rfl)
theorem dX7_shelfAt_7 : decode cX7_shelfAt 7 = .ok (.if_icmp .lt 7, 3) := D_161 yB_cX7_shelfAt rfl rfl (sg_p (m := 32768) (N := 7) rfl rfl rfl)
theorem dX7_shelfAt_10 : decode cX7_shelfAt 10 = .ok (.aconst_null, 1) := D_1 yB_cX7_shelfAt rfl rfl
theorem dX7_shelfAt_11 : decode cX7_shelfAt 11 = .ok (.goto 9, 3) := D_167 yB_cX7_shelfAt rfl rfl (sg_p (m := 32768) (N := 9) rfl rfl rfl)
theorem dX7_shelfAt_14 : decode cX7_shelfAt 14 = .ok (.aload_n 0, 1) := D_42 yB_cX7_shelfAt rfl rfl
theorem dX7_shelfAt_15 : decode cX7_shelfAt 15 = .ok (.getfield 24, 3) := D_180 yB_cX7_shelfAt rfl rfl rfl
theorem dX7_shelfAt_18 : decode cX7_shelfAt 18 = .ok (.iload_n 1, 1) := D_27 yB_cX7_shelfAt rfl rfl
theorem dX7_shelfAt_19 : decode cX7_shelfAt 19 = .ok (.aaload, 1) := D_50 yB_cX7_shelfAt rfl rfl
theorem dX7_shelfAt_20 : decode cX7_shelfAt 20 = .ok (.areturn, 1) := D_176 yB_cX7_shelfAt rfl rfl
set_option maxHeartbeats 4000000 in
set_option maxRecDepth 100000 in
theorem c_X7_shelfAt (l : Launch) (D : va_G) (cA : Nat → ClassId) (ad : Nat → Nat) (o : Int64) (σ : Mem) (d : Int32)  (sz : Nat) : Met l yX7_shelfAt (WY yX7_shelfAt cX7_shelfAt 2 (some (.object "WhoBacks$Shelf"))) (RM 0) (va_Pc [.ref (ad 66), .int d] (PW D cA ad o σ sz)) (va_Qq (QQ ad (fun x σ9 => σ9 = σ ∧ (match x with | none => d < 0 ∨ 8 ≤ d | some q => ∃ j : Nat, j < 8 ∧ d = nI j ∧ q = 68 + j))) (QW D cA ad o) (FA ad sz)) 0 0 (FA ad sz) := by
  refine ct_of (own := RX7) (k := 0) (Qf := va_Qq (QQ ad (fun x σ9 => σ9 = σ ∧ (match x with | none => d < 0 ∨ 8 ≤ d | some q => ∃ j : Nat, j < 8 ∧ d = nI j ∧ q = 68 + j))) (QW D cA ad o)) rfl (by decide) (Nat.le_of_ble_eq_true rfl) (fun p e s m below meth c ls C0 X hr hlk hP hl => ?_) sz
  have hS : va_S (FA ad s.heap.size) s.heap s.heap [] := va_S.rf
  have hl : lv_has ls 2 [(0, .ref (ad 66)), (1, .int d)] := hl
  obtain ⟨hx, hb, hml, hown, hts⟩ := id C0
  refine lv_iload_n hx hb dX7_shelfAt_0 rfl (lv_at hl 1 rfl) ?_
  refine lv_if_lt (tgt := 10) hx hb dX7_shelfAt_1 (by decide) (fun c_1 => ?_) (fun c_1 => ?_)
  · refine lv_null hx hb dX7_shelfAt_10 ?_
    refine lv_goto (tgt := 20) hx hb dX7_shelfAt_11 (by decide) ?_
    exact r_aretN C0 X hP hS hr hlk dX7_shelfAt_20 ⟨rfl, Or.inl c_1⟩
  · refine lv_iload_n hx hb dX7_shelfAt_4 rfl (lv_at hl 1 rfl) ?_
    refine lv_bipush (v := 8) hx hb dX7_shelfAt_5 (by decide) ?_
    refine lv_icmp_lt (tgt := 14) hx hb dX7_shelfAt_7 (by decide) (fun c_2 => ?_) (fun c_2 => ?_)
    · obtain ⟨j, hj, rfl⟩ : ∃ j : Nat, j < 8 ∧ d = nI j := ix8 c_1 c_2
      refine lv_aload_n hx hb dX7_shelfAt_14 rfl (lv_at hl 0 rfl) ?_
      refine gf_X7_24 C0 X hP 66 (q := 67) ⟨by decide, rfl⟩ (by omega) rfl dX7_shelfAt_15 ?_
      refine lv_iload_n hx hb dX7_shelfAt_18 rfl (lv_at hl 1 rfl) ?_
      refine r_aaldSN C0 X hP 67 (k := j) (q := (68 + j)) ⟨by decide, rfl⟩ rfl (by omega) (lkSh j (by omega)) dX7_shelfAt_19 ?_
      exact r_aret C0 X hP hS hr hlk dX7_shelfAt_20 ⟨rfl, j, hj, rfl, rfl⟩
    · refine lv_null hx hb dX7_shelfAt_10 ?_
      refine lv_goto (tgt := 20) hx hb dX7_shelfAt_11 (by decide) ?_
      exact r_aretN C0 X hP hS hr hlk dX7_shelfAt_20 ⟨rfl, Or.inr (Int32.not_lt.mp c_2)⟩
def bB_cX6_beginAnew : Nat := 0xb13700b5032a3400b5032a3100b5032af0ffa70101844f031b1800b42a1000a249101b3c03eeffa70101844000b6321b1400b42a1200a207101b3c03
theorem yB_cX6_beginAnew : BYS cX6_beginAnew 60 bB_cX6_beginAnew := BYS_of (by decide +kernel)
theorem dX6_beginAnew_0 : decode cX6_beginAnew 0 = .ok (.iconst 0, 1) := D_3 yB_cX6_beginAnew rfl rfl
theorem dX6_beginAnew_1 : decode cX6_beginAnew 1 = .ok (.istore_n 1, 1) := D_60 yB_cX6_beginAnew rfl rfl
theorem dX6_beginAnew_2 : decode cX6_beginAnew 2 = .ok (.iload_n 1, 1) := D_27 yB_cX6_beginAnew rfl rfl
theorem dX6_beginAnew_3 : decode cX6_beginAnew 3 = .ok (.bipush 7, 2) := D_16 yB_cX6_beginAnew rfl rfl (sg_p (m := 128) (N := 7) rfl rfl rfl)
theorem dX6_beginAnew_5 : decode cX6_beginAnew 5 = .ok (.if_icmp .ge 18, 3) := D_162 yB_cX6_beginAnew rfl rfl (sg_p (m := 32768) (N := 18) rfl rfl rfl)
theorem dX6_beginAnew_8 : decode cX6_beginAnew 8 = .ok (.aload_n 0, 1) := D_42 yB_cX6_beginAnew rfl rfl
theorem dX6_beginAnew_9 : decode cX6_beginAnew 9 = .ok (.getfield 20, 3) := D_180 yB_cX6_beginAnew rfl rfl rfl
theorem dX6_beginAnew_12 : decode cX6_beginAnew 12 = .ok (.iload_n 1, 1) := D_27 yB_cX6_beginAnew rfl rfl
theorem dX6_beginAnew_13 : decode cX6_beginAnew 13 = .ok (.aaload, 1) := D_50 yB_cX6_beginAnew rfl rfl
theorem dX6_beginAnew_14 : decode cX6_beginAnew 14 = .ok (.invokevirtual 64, 3) := D_182 yB_cX6_beginAnew rfl rfl rfl
theorem dX6_beginAnew_17 : decode cX6_beginAnew 17 = .ok (.iinc 1 1, 3) := D_132 yB_cX6_beginAnew rfl rfl rfl (sg_p (m := 128) (N := 1) rfl rfl rfl)
theorem dX6_beginAnew_20 : decode cX6_beginAnew 20 = .ok (.goto (-18), 3) := D_167 yB_cX6_beginAnew rfl rfl (sg_n (m := 32768) (N := 18) rfl rfl rfl)
theorem dX6_beginAnew_23 : decode cX6_beginAnew 23 = .ok (.iconst 0, 1) := D_3 yB_cX6_beginAnew rfl rfl
theorem dX6_beginAnew_24 : decode cX6_beginAnew 24 = .ok (.istore_n 1, 1) := D_60 yB_cX6_beginAnew rfl rfl
theorem dX6_beginAnew_25 : decode cX6_beginAnew 25 = .ok (.iload_n 1, 1) := D_27 yB_cX6_beginAnew rfl rfl
theorem dX6_beginAnew_26 : decode cX6_beginAnew 26 = .ok (.bipush 73, 2) := D_16 yB_cX6_beginAnew rfl rfl (sg_p (m := 128) (N := 73) rfl rfl rfl)
theorem dX6_beginAnew_28 : decode cX6_beginAnew 28 = .ok (.if_icmp .ge 16, 3) := D_162 yB_cX6_beginAnew rfl rfl (sg_p (m := 32768) (N := 16) rfl rfl rfl)
theorem dX6_beginAnew_31 : decode cX6_beginAnew 31 = .ok (.aload_n 0, 1) := D_42 yB_cX6_beginAnew rfl rfl
theorem dX6_beginAnew_32 : decode cX6_beginAnew 32 = .ok (.getfield 24, 3) := D_180 yB_cX6_beginAnew rfl rfl rfl
theorem dX6_beginAnew_35 : decode cX6_beginAnew 35 = .ok (.iload_n 1, 1) := D_27 yB_cX6_beginAnew rfl rfl
theorem dX6_beginAnew_36 : decode cX6_beginAnew 36 = .ok (.iconst 0, 1) := D_3 yB_cX6_beginAnew rfl rfl
theorem dX6_beginAnew_37 : decode cX6_beginAnew 37 = .ok (.iastore, 1) := D_79 yB_cX6_beginAnew rfl rfl
theorem dX6_beginAnew_38 : decode cX6_beginAnew 38 = .ok (.iinc 1 1, 3) := D_132 yB_cX6_beginAnew rfl rfl rfl (sg_p (m := 128) (N := 1) rfl rfl rfl)
theorem dX6_beginAnew_41 : decode cX6_beginAnew 41 = .ok (.goto (-16), 3) := D_167 yB_cX6_beginAnew rfl rfl (sg_n (m := 32768) (N := 16) rfl rfl rfl)
theorem dX6_beginAnew_44 : decode cX6_beginAnew 44 = .ok (.aload_n 0, 1) := D_42 yB_cX6_beginAnew rfl rfl
theorem dX6_beginAnew_45 : decode cX6_beginAnew 45 = .ok (.iconst 0, 1) := D_3 yB_cX6_beginAnew rfl rfl
theorem dX6_beginAnew_46 : decode cX6_beginAnew 46 = .ok (.putfield 49, 3) := D_181 yB_cX6_beginAnew rfl rfl rfl
theorem dX6_beginAnew_49 : decode cX6_beginAnew 49 = .ok (.aload_n 0, 1) := D_42 yB_cX6_beginAnew rfl rfl
theorem dX6_beginAnew_50 : decode cX6_beginAnew 50 = .ok (.iconst 0, 1) := D_3 yB_cX6_beginAnew rfl rfl
theorem dX6_beginAnew_51 : decode cX6_beginAnew 51 = .ok (.putfield 52, 3) := D_181 yB_cX6_beginAnew rfl rfl rfl
theorem dX6_beginAnew_54 : decode cX6_beginAnew 54 = .ok (.aload_n 0, 1) := D_42 yB_cX6_beginAnew rfl rfl
theorem dX6_beginAnew_55 : decode cX6_beginAnew 55 = .ok (.iconst 0, 1) := D_3 yB_cX6_beginAnew rfl rfl
theorem dX6_beginAnew_56 : decode cX6_beginAnew 56 = .ok (.putfield 55, 3) := D_181 yB_cX6_beginAnew rfl rfl rfl
theorem dX6_beginAnew_59 : decode cX6_beginAnew 59 = .ok (.return_, 1) := D_177 yB_cX6_beginAnew rfl rfl
set_option maxHeartbeats 4000000 in
set_option maxRecDepth 100000 in
theorem c_X6_beginAnew (l : Launch) (D : va_G) (cA : Nat → ClassId) (ad : Nat → Nat) (o : Int64) (σ : Mem) (t : Nat) (ht : t < 3) (sz : Nat) : Met l yX6_beginAnew (WY yX6_beginAnew cX6_beginAnew 2 none) (RM 1) (va_Pc [.ref (ad (22 * t))] (PW D cA ad o σ sz)) (va_Qv (fun σ9 => σ9 = tbeg σ t) (QW D cA ad o) (FA ad sz)) 0 0 (FA ad sz) := by
  refine ct_of (own := RX6) (k := 1) (Qf := va_Qv (fun σ9 => σ9 = tbeg σ t) (QW D cA ad o)) rfl (by decide) (Nat.le_of_ble_eq_true rfl) (fun p e s m below meth c ls C0 X hr hlk hP hl => ?_) sz
  have hS : va_S (FA ad s.heap.size) s.heap s.heap [] := va_S.rf
  have hl : lv_has ls 2 [(0, .ref (ad (22 * t)))] := hl
  obtain ⟨hx, hb, hml, hown, hts⟩ := id C0
  refine lv_iconst (v := 0) hx hb dX6_beginAnew_0 (by decide) ?_
  refine lv_istore_n (lv' := [(1, .int 0), (0, .ref (ad (22 * t)))]) hx hb dX6_beginAnew_1 rfl hl (by decide) rfl (fun ls hl => ?_)
  have lp_1 : ∀ (nn : Nat) (k : Nat) (H : Heap) (locs : List Loc) (ls : Array Slot), k ≤ 7 → WP D cA ad o (tbegK σ t k) H → va_S (FA ad s.heap.size) s.heap H locs → lv_has ls 2 [(0, .ref (ad (22 * t))), (1, .int (nI k))] → (7 - k) < nn → W p l e (RM 1) s m ([.ref (ad (22 * t))] : List Value).toArray below meth c H locs 0 0 (MQ below (va_Qv (fun σ9 => σ9 = tbeg σ t) (QW D cA ad o) (FA ad s.heap.size)) ([.ref (ad (22 * t))] : List Value).toArray s 0 0 (FA ad s.heap.size)) (F0 m 2 ls []) := by
    intro nn
    induction nn with
    | zero => intro k H locs ls hk hP hS hl hn; exact absurd hn (Nat.not_lt_zero _)
    | succ nn ih =>
      intro k H locs ls hk hP hS hl hn
      refine lv_iload_n hx hb dX6_beginAnew_2 rfl (lv_at hl 1 rfl) ?_
      refine lv_bipush (v := 7) hx hb dX6_beginAnew_3 (by decide) ?_
      refine lv_icmp_ge (tgt := 23) hx hb dX6_beginAnew_5 (by decide) (fun c_2 => ?_) (fun c_2 => ?_)
      · obtain rfl : k = 7 := nI_geof (b := 7) c_2 hk (by omega)
        refine lv_iconst (v := 0) hx hb dX6_beginAnew_23 (by decide) ?_
        refine lv_istore_n (lv' := [(1, .int 0), (0, .ref (ad (22 * t)))]) hx hb dX6_beginAnew_24 rfl hl (by decide) rfl (fun ls hl => ?_)
        have lp_3 : ∀ (nn : Nat) (k : Nat) (H : Heap) (locs : List Loc) (ls : Array Slot), k ≤ 73 → WP D cA ad o (rz (tbegK σ t 7) (22 * t + 14) k) H → va_S (FA ad s.heap.size) s.heap H locs → lv_has ls 2 [(0, .ref (ad (22 * t))), (1, .int (nI k))] → (73 - k) < nn → W p l e (RM 1) s m ([.ref (ad (22 * t))] : List Value).toArray below meth c H locs 0 0 (MQ below (va_Qv (fun σ9 => σ9 = tbeg σ t) (QW D cA ad o) (FA ad s.heap.size)) ([.ref (ad (22 * t))] : List Value).toArray s 0 0 (FA ad s.heap.size)) (F0 m 25 ls []) := by
          intro nn
          induction nn with
          | zero => intro k H locs ls hk hP hS hl hn; exact absurd hn (Nat.not_lt_zero _)
          | succ nn ih =>
            intro k H locs ls hk hP hS hl hn
            refine lv_iload_n hx hb dX6_beginAnew_25 rfl (lv_at hl 1 rfl) ?_
            refine lv_bipush (v := 73) hx hb dX6_beginAnew_26 (by decide) ?_
            refine lv_icmp_ge (tgt := 44) hx hb dX6_beginAnew_28 (by decide) (fun c_4 => ?_) (fun c_4 => ?_)
            · obtain rfl : k = 73 := nI_geof (b := 73) c_4 hk (by omega)
              refine lv_aload_n hx hb dX6_beginAnew_44 rfl (lv_at hl 0 rfl) ?_
              refine lv_iconst (v := 0) hx hb dX6_beginAnew_45 (by decide) ?_
              refine pf_X6_49 C0 X hP hS (22 * t) (kdT t ht) dX6_beginAnew_46 (fun H locs hP hS => ?_)
              refine lv_aload_n hx hb dX6_beginAnew_49 rfl (lv_at hl 0 rfl) ?_
              refine lv_iconst (v := 0) hx hb dX6_beginAnew_50 (by decide) ?_
              refine pf_X6_52 C0 X hP hS (22 * t) (kdT t ht) dX6_beginAnew_51 (fun H locs hP hS => ?_)
              refine lv_aload_n hx hb dX6_beginAnew_54 rfl (lv_at hl 0 rfl) ?_
              refine lv_iconst (v := 0) hx hb dX6_beginAnew_55 (by decide) ?_
              refine pf_X6_55 C0 X hP hS (22 * t) (kdT t ht) dX6_beginAnew_56 (fun H locs hP hS => ?_)
              exact r_vret C0 X hP hS hr hlk dX6_beginAnew_59 rfl
            · have hk7 : k < 73 := nI_ltof (b := 73) c_4 (by omega)
              refine lv_aload_n hx hb dX6_beginAnew_31 rfl (lv_at hl 0 rfl) ?_
              refine gf_X6_24 C0 X hP (22 * t) (q := (22 * t + 14)) (kdT t ht) (by omega) (lkT7 t ht) dX6_beginAnew_32 ?_
              refine lv_iload_n hx hb dX6_beginAnew_35 rfl (lv_at hl 1 rfl) ?_
              refine lv_iconst (v := 0) hx hb dX6_beginAnew_36 (by decide) ?_
              refine r_iastN C0 X hP hS (22 * t + 14) (k := k) (kdA14 t ht) rfl (by omega) dX6_beginAnew_37 (fun H locs hP hS => ?_)
              refine lv_iinc (v := (nI (k + 1))) (lv' := [(1, .int (nI (k + 1))), (0, .ref (ad (22 * t)))]) hx hb dX6_beginAnew_38 hl (k := 1) rfl (nI_1 _) (by decide) rfl (fun ls hl => ?_)
              refine lv_goto (tgt := 25) hx hb dX6_beginAnew_41 (by decide) ?_
              exact ih (k + 1) _ _ ls (by omega) (mem_cast (rz_s _ _ _) hP) hS (lv_sub hl [1, 0] rfl) (by omega)
        exact lp_3 ((73 - 0) + 1) 0 _ _ ls (by decide) (mem_cast (rz_0 _ _) hP) hS (lv_sub hl [1, 0] rfl) (by omega)
      · have hk7 : k < 7 := nI_ltof (b := 7) c_2 (by omega)
        refine lv_aload_n hx hb dX6_beginAnew_8 rfl (lv_at hl 0 rfl) ?_
        refine gf_X6_20 C0 X hP (22 * t) (q := (22 * t + 13)) (kdT t ht) (by omega) (lkT1 t ht) dX6_beginAnew_9 ?_
        refine lv_iload_n hx hb dX6_beginAnew_12 rfl (lv_at hl 1 rfl) ?_
        refine r_aaldCN C0 X hP (22 * t + 13) (k := k) (q := (22 * t + 15 + k)) (kdCA t ht) rfl (by omega) (lkCA t ht k (by omega)) dX6_beginAnew_13 ?_
        refine r_cv X hS (r_runV (As := []) (rest := []) C0 X hP L_X6_64 (fun sz => c_X0_beginAnew l D cA ad o (tbegK σ t k) (22 * t + 15 + k) (kdC t ht k (by omega)) sz) (kdC t ht k (by omega)).1 (kdC t ht k (by omega)).2 (by decide) rfl ⟨Nat.le_of_ble_eq_true rfl, Nat.le_of_ble_eq_true rfl⟩ rfl hl.1 rfl (Nat.le_of_ble_eq_true rfl) dX6_beginAnew_14 ⟨Nat.zero_le _, Nat.zero_le _⟩) (fun σ9 H locs hw hP hS => ?_)
        rw [hw] at hP
        refine lv_iinc (v := (nI (k + 1))) (lv' := [(1, .int (nI (k + 1))), (0, .ref (ad (22 * t)))]) hx hb dX6_beginAnew_17 hl (k := 1) rfl (nI_1 _) (by decide) rfl (fun ls hl => ?_)
        refine lv_goto (tgt := 2) hx hb dX6_beginAnew_20 (by decide) ?_
        exact ih (k + 1) _ _ ls (by omega) (mem_cast (tbegK_s σ t k) hP) hS (lv_sub hl [1, 0] rfl) (by omega)
  exact lp_1 ((7 - 0) + 1) 0 _ _ ls (by decide) (mem_cast (tbegK_0 σ t) hP) hS (lv_sub hl [1, 0] rfl) (by omega)
end
section
/-! Road.copyFrom, Traffic.copyFrom: what they do to a memory; the fresh state -/
def rdcpy (σ : Mem) (t u : Nat) : Mem := rcpy (rcpy (rcpy (rcpy (rcpy (rcpy (rcpy (rcpy (rcpy (rcpy (rcpy (stm (stm σ (22 * t + 1) 0 (σ (22 * u + 1) 0)) (22 * t + 1) 1 (σ (22 * u + 1) 1)) (22 * t + 2) (22 * u + 2) 8) (22 * t + 3) (22 * u + 3) 8) (22 * t + 4) (22 * u + 4) 8) (22 * t + 5) (22 * u + 5) 9) (22 * t + 6) (22 * u + 6) 9) (22 * t + 7) (22 * u + 7) 73) (22 * t + 8) (22 * u + 8) 73) (22 * t + 9) (22 * u + 9) 73) (22 * t + 10) (22 * u + 10) 73) (22 * t + 11) (22 * u + 11) 3) (22 * t + 12) (22 * u + 12) 3
theorem rcpy_ne (σ : Mem) {a d : Nat} (s n : Nat) (h : a ≠ d) : rcpy σ d s n a = σ a := by simp [rcpy, h]
theorem rdcpy_ne (σ : Mem) {t u a : Nat} (h : a < 22 * t + 1 ∨ 22 * t + 12 < a) : rdcpy σ t u a = σ a := by
  simp only [rdcpy]
  rw [rcpy_ne _ _ _ (by omega), rcpy_ne _ _ _ (by omega), rcpy_ne _ _ _ (by omega), rcpy_ne _ _ _ (by omega), rcpy_ne _ _ _ (by omega), rcpy_ne _ _ _ (by omega), rcpy_ne _ _ _ (by omega), rcpy_ne _ _ _ (by omega), rcpy_ne _ _ _ (by omega), rcpy_ne _ _ _ (by omega), rcpy_ne _ _ _ (by omega), stm_ne _ _ _ (by omega), stm_ne _ _ _ (by omega)]
def ccpyK (σ : Mem) (t u k : Nat) : Mem := fun a => if 22 * t + 15 ≤ a ∧ a < 22 * t + 15 + k then (fun b => if b < 12 then σ (a - 22 * t + 22 * u) b else σ a b) else σ a
theorem ccpyK_0 (σ : Mem) (t u : Nat) : σ = ccpyK σ t u 0 := by
  funext a
  have h : ¬ (22 * t + 15 ≤ a ∧ a < 22 * t + 15 + 0) := by omega
  simp only [ccpyK, if_neg h]
theorem ccpyK_ne (σ : Mem) {t u k a : Nat} (h : a < 22 * t + 15 ∨ 22 * t + 15 + k ≤ a) : ccpyK σ t u k a = σ a := by
  have h : ¬ (22 * t + 15 ≤ a ∧ a < 22 * t + 15 + k) := by omega
  simp only [ccpyK, if_neg h]
theorem ccpyK_s (σ : Mem) {t u k : Nat} (hk : k < 7) (hne : u ≠ t) : rcpy (ccpyK σ t u k) (22 * t + 15 + k) (22 * u + 15 + k) 12 = ccpyK σ t u (k + 1) := by
  funext a
  by_cases h : a = 22 * t + 15 + k
  · subst h
    have h1 : 22 * t + 15 ≤ 22 * t + 15 + k ∧ 22 * t + 15 + k < 22 * t + 15 + (k + 1) := by omega
    have h2 : 22 * t + 15 + k - 22 * t + 22 * u = 22 * u + 15 + k := by omega
    simp only [rcpy, if_true]
    rw [ccpyK_ne σ (a := 22 * u + 15 + k) (by omega), ccpyK_ne σ (a := 22 * t + 15 + k) (by omega)]
    simp only [ccpyK, if_pos h1, h2]
  · rw [rcpy_ne _ _ _ h]
    by_cases h1 : 22 * t + 15 ≤ a ∧ a < 22 * t + 15 + k
    · have h2 : 22 * t + 15 ≤ a ∧ a < 22 * t + 15 + (k + 1) := by omega
      simp only [ccpyK, if_pos h1, if_pos h2]
    · have h2 : ¬ (22 * t + 15 ≤ a ∧ a < 22 * t + 15 + (k + 1)) := by omega
      simp only [ccpyK, if_neg h1, if_neg h2]
def tcpy (σ : Mem) (t u : Nat) : Mem := rcpy (stm (stm (stm (stm (ccpyK (rdcpy σ t u) t u 7) (22 * t) 2 (σ (22 * u) 2)) (22 * t) 3 (σ (22 * u) 3)) (22 * t) 4 (σ (22 * u) 4)) (22 * t) 5 (σ (22 * u) 5)) (22 * t + 14) (22 * u + 14) 73
/-- a new object of each side -/
def Fr (σ : Mem) : Prop := (σ 0 2 = 0 ∧ σ 0 3 = 0 ∧ σ 0 4 = 0 ∧ σ 0 5 = 0) ∧ (σ 1 0 = 0 ∧ σ 1 1 = 0) ∧ σ 66 3 = 0 ∧ (∀ j, j < 8 → σ (68 + j) 0 = 0) ∧ (∀ v, v < 3 → σ 11 v = 0) ∧ (∀ v, v < 3 → σ 12 v = 0) ∧ (∀ k, k < 7 → ∀ b, b = 0 ∨ b = 1 ∨ b = 7 ∨ b = 8 → (σ (15 + k) b = 0 ∨ σ (15 + k) b = 1)) ∧ (∀ k, k < 5 → σ 92 k = 0) ∧ (∀ k, k < 6 → σ 92 (38 + k) = 0) ∧ (∀ j, j < 8 → σ 96 j = 0) ∧ σ 91 10 = 0
theorem Fr_count {σ : Mem} (h : Fr σ) : σ 0 2 = 0 := h.1.1
theorem Fr_minute {σ : Mem} (h : Fr σ) : σ 0 3 = 0 := h.1.2.1
theorem Fr_still {σ : Mem} (h : Fr σ) : σ 0 4 = 0 := h.1.2.2.1
theorem Fr_met {σ : Mem} (h : Fr σ) : σ 0 5 = 0 := h.1.2.2.2
theorem Fr_pieces {σ : Mem} (h : Fr σ) : σ 1 0 = 0 := h.2.1.1
theorem Fr_end {σ : Mem} (h : Fr σ) : σ 1 1 = 0 := h.2.1.2
theorem Fr_img {σ : Mem} (h : Fr σ) : σ 66 3 = 0 := h.2.2.1
theorem Fr_holds {σ : Mem} (h : Fr σ) {j : Nat} (hj : j < 8) : σ (68 + j) 0 = 0 := h.2.2.2.1 j hj
theorem Fr_kind {σ : Mem} (h : Fr σ) {j : Nat} (hj : j < 3) : σ 11 j = 0 := h.2.2.2.2.1 j hj
theorem Fr_fig {σ : Mem} (h : Fr σ) {j : Nat} (hj : j < 3) : σ 12 j = 0 := h.2.2.2.2.2.1 j hj
theorem Fr_bool {σ : Mem} (h : Fr σ) : ∀ k, k < 7 → ∀ b, b = 0 ∨ b = 1 ∨ b = 7 ∨ b = 8 → (σ (22 * 0 + 15 + k) b = 0 ∨ σ (22 * 0 + 15 + k) b = 1) := by
  intro k hk b hb
  rw [show 22 * 0 + 15 + k = 15 + k by omega]
  exact h.2.2.2.2.2.2.1 k hk b hb
theorem Fr_s {σ : Mem} (h : Fr σ) {j : Nat} (hj : j < 5) : σ 92 j = 0 := h.2.2.2.2.2.2.2.1 j hj
theorem Fr_vil {σ : Mem} (h : Fr σ) {j : Nat} (hj : j < 6) : σ 92 (38 + j) = 0 := h.2.2.2.2.2.2.2.2.1 j hj
theorem Fr_kept {σ : Mem} (h : Fr σ) {j : Nat} (hj : j < 8) : σ 96 j = 0 := h.2.2.2.2.2.2.2.2.2.1 j hj
theorem Fr_mimg {σ : Mem} (h : Fr σ) : σ 91 10 = 0 := h.2.2.2.2.2.2.2.2.2.2
def FrM (σ : Mem) : Prop := (∀ k, k < 5 → σ 92 k = 0) ∧ (∀ k, k < 6 → σ 92 (38 + k) = 0) ∧ (∀ j, j < 8 → σ 96 j = 0) ∧ σ 91 10 = 0
theorem FrM_s {σ : Mem} (h : FrM σ) {j : Nat} (hj : j < 5) : σ 92 j = 0 := h.1 j hj
theorem FrM_vil {σ : Mem} (h : FrM σ) {j : Nat} (hj : j < 6) : σ 92 (38 + j) = 0 := h.2.1 j hj
theorem FrM_kept {σ : Mem} (h : FrM σ) {j : Nat} (hj : j < 8) : σ 96 j = 0 := h.2.2.1 j hj
theorem FrM_mimg {σ : Mem} (h : FrM σ) : σ 91 10 = 0 := h.2.2.2
theorem FrM_of {σ σ' : Mem} (h : Fr σ) (k : ∀ a, 91 ≤ a → σ' a = σ a) : FrM σ' := ⟨fun j hj => by rw [k 92 (by decide)]; exact Fr_s h hj, fun j hj => by rw [k 92 (by decide)]; exact Fr_vil h hj, fun j hj => by rw [k 96 (by decide)]; exact Fr_kept h hj, by rw [k 91 (by decide)]; exact Fr_mimg h⟩
theorem rz_ne (σ : Mem) {a i : Nat} (k : Nat) (h : a ≠ i) : rz σ i k a = σ a := by simp [rz, h]
theorem tbegK_ne (σ : Mem) {t k a : Nat} (h : a < 22 * t + 15 ∨ 22 * t + 15 + k ≤ a) : tbegK σ t k a = σ a := by
  have h : ¬ (22 * t + 15 ≤ a ∧ a < 22 * t + 15 + k) := by omega
  simp only [tbegK, if_neg h]
theorem tbeg_ne (σ : Mem) {t a : Nat} (h : a < 22 * t ∨ 22 * t + 22 ≤ a) : tbeg σ t a = σ a := by
  simp only [tbeg]
  rw [stm_ne _ _ _ (by omega), stm_ne _ _ _ (by omega), stm_ne _ _ _ (by omega), rz_ne _ _ (by omega), tbegK_ne _ (by omega)]
theorem tcpy_ne (σ : Mem) {t u a : Nat} (h : a < 22 * t ∨ 22 * t + 22 ≤ a) : tcpy σ t u a = σ a := by
  simp only [tcpy]
  rw [rcpy_ne _ _ _ (by omega), stm_ne _ _ _ (by omega), stm_ne _ _ _ (by omega), stm_ne _ _ _ (by omega), stm_ne _ _ _ (by omega), ccpyK_ne _ (by omega), rdcpy_ne _ (by omega)]
end
section
def bB_cX4_copyFrom : Nat := 0xb13400b806032a00b42a032a00b42b3400b806032700b42a032700b42b3400b84910032400b42a032400b42b3400b84910032100b42a032100b42b3400b84910031e00b42a031e00b42b3400b84910031b00b42a031b00b42b3400b80910031800b42a031800b42b3400b80910031500b42a031500b42b3400b80810031200b42a031200b42b3400b80810030f00b42a030f00b42b3400b80810030900b42a030900b42b3100b53100b42b2a2d00b52d00b42b2a
theorem yB_cX4_copyFrom : BYS cX4_copyFrom 180 bB_cX4_copyFrom := BYS_of (by decide +kernel)
theorem dX4_copyFrom_0 : decode cX4_copyFrom 0 = .ok (.aload_n 0, 1) := D_42 yB_cX4_copyFrom rfl rfl
theorem dX4_copyFrom_1 : decode cX4_copyFrom 1 = .ok (.aload_n 1, 1) := D_43 yB_cX4_copyFrom rfl rfl
theorem dX4_copyFrom_2 : decode cX4_copyFrom 2 = .ok (.getfield 45, 3) := D_180 yB_cX4_copyFrom rfl rfl rfl
theorem dX4_copyFrom_5 : decode cX4_copyFrom 5 = .ok (.putfield 45, 3) := D_181 yB_cX4_copyFrom rfl rfl rfl
theorem dX4_copyFrom_8 : decode cX4_copyFrom 8 = .ok (.aload_n 0, 1) := D_42 yB_cX4_copyFrom rfl rfl
theorem dX4_copyFrom_9 : decode cX4_copyFrom 9 = .ok (.aload_n 1, 1) := D_43 yB_cX4_copyFrom rfl rfl
theorem dX4_copyFrom_10 : decode cX4_copyFrom 10 = .ok (.getfield 49, 3) := D_180 yB_cX4_copyFrom rfl rfl rfl
theorem dX4_copyFrom_13 : decode cX4_copyFrom 13 = .ok (.putfield 49, 3) := D_181 yB_cX4_copyFrom rfl rfl rfl
theorem dX4_copyFrom_16 : decode cX4_copyFrom 16 = .ok (.aload_n 1, 1) := D_43 yB_cX4_copyFrom rfl rfl
theorem dX4_copyFrom_17 : decode cX4_copyFrom 17 = .ok (.getfield 9, 3) := D_180 yB_cX4_copyFrom rfl rfl rfl
theorem dX4_copyFrom_20 : decode cX4_copyFrom 20 = .ok (.iconst 0, 1) := D_3 yB_cX4_copyFrom rfl rfl
theorem dX4_copyFrom_21 : decode cX4_copyFrom 21 = .ok (.aload_n 0, 1) := D_42 yB_cX4_copyFrom rfl rfl
theorem dX4_copyFrom_22 : decode cX4_copyFrom 22 = .ok (.getfield 9, 3) := D_180 yB_cX4_copyFrom rfl rfl rfl
theorem dX4_copyFrom_25 : decode cX4_copyFrom 25 = .ok (.iconst 0, 1) := D_3 yB_cX4_copyFrom rfl rfl
theorem dX4_copyFrom_26 : decode cX4_copyFrom 26 = .ok (.bipush 8, 2) := D_16 yB_cX4_copyFrom rfl rfl (sg_p (m := 128) (N := 8) rfl rfl rfl)
theorem dX4_copyFrom_28 : decode cX4_copyFrom 28 = .ok (.invokestatic 52, 3) := D_184 yB_cX4_copyFrom rfl rfl rfl
theorem dX4_copyFrom_31 : decode cX4_copyFrom 31 = .ok (.aload_n 1, 1) := D_43 yB_cX4_copyFrom rfl rfl
theorem dX4_copyFrom_32 : decode cX4_copyFrom 32 = .ok (.getfield 15, 3) := D_180 yB_cX4_copyFrom rfl rfl rfl
theorem dX4_copyFrom_35 : decode cX4_copyFrom 35 = .ok (.iconst 0, 1) := D_3 yB_cX4_copyFrom rfl rfl
theorem dX4_copyFrom_36 : decode cX4_copyFrom 36 = .ok (.aload_n 0, 1) := D_42 yB_cX4_copyFrom rfl rfl
theorem dX4_copyFrom_37 : decode cX4_copyFrom 37 = .ok (.getfield 15, 3) := D_180 yB_cX4_copyFrom rfl rfl rfl
theorem dX4_copyFrom_40 : decode cX4_copyFrom 40 = .ok (.iconst 0, 1) := D_3 yB_cX4_copyFrom rfl rfl
theorem dX4_copyFrom_41 : decode cX4_copyFrom 41 = .ok (.bipush 8, 2) := D_16 yB_cX4_copyFrom rfl rfl (sg_p (m := 128) (N := 8) rfl rfl rfl)
theorem dX4_copyFrom_43 : decode cX4_copyFrom 43 = .ok (.invokestatic 52, 3) := D_184 yB_cX4_copyFrom rfl rfl rfl
theorem dX4_copyFrom_46 : decode cX4_copyFrom 46 = .ok (.aload_n 1, 1) := D_43 yB_cX4_copyFrom rfl rfl
theorem dX4_copyFrom_47 : decode cX4_copyFrom 47 = .ok (.getfield 18, 3) := D_180 yB_cX4_copyFrom rfl rfl rfl
theorem dX4_copyFrom_50 : decode cX4_copyFrom 50 = .ok (.iconst 0, 1) := D_3 yB_cX4_copyFrom rfl rfl
theorem dX4_copyFrom_51 : decode cX4_copyFrom 51 = .ok (.aload_n 0, 1) := D_42 yB_cX4_copyFrom rfl rfl
theorem dX4_copyFrom_52 : decode cX4_copyFrom 52 = .ok (.getfield 18, 3) := D_180 yB_cX4_copyFrom rfl rfl rfl
theorem dX4_copyFrom_55 : decode cX4_copyFrom 55 = .ok (.iconst 0, 1) := D_3 yB_cX4_copyFrom rfl rfl
theorem dX4_copyFrom_56 : decode cX4_copyFrom 56 = .ok (.bipush 8, 2) := D_16 yB_cX4_copyFrom rfl rfl (sg_p (m := 128) (N := 8) rfl rfl rfl)
theorem dX4_copyFrom_58 : decode cX4_copyFrom 58 = .ok (.invokestatic 52, 3) := D_184 yB_cX4_copyFrom rfl rfl rfl
theorem dX4_copyFrom_61 : decode cX4_copyFrom 61 = .ok (.aload_n 1, 1) := D_43 yB_cX4_copyFrom rfl rfl
theorem dX4_copyFrom_62 : decode cX4_copyFrom 62 = .ok (.getfield 21, 3) := D_180 yB_cX4_copyFrom rfl rfl rfl
theorem dX4_copyFrom_65 : decode cX4_copyFrom 65 = .ok (.iconst 0, 1) := D_3 yB_cX4_copyFrom rfl rfl
theorem dX4_copyFrom_66 : decode cX4_copyFrom 66 = .ok (.aload_n 0, 1) := D_42 yB_cX4_copyFrom rfl rfl
theorem dX4_copyFrom_67 : decode cX4_copyFrom 67 = .ok (.getfield 21, 3) := D_180 yB_cX4_copyFrom rfl rfl rfl
theorem dX4_copyFrom_70 : decode cX4_copyFrom 70 = .ok (.iconst 0, 1) := D_3 yB_cX4_copyFrom rfl rfl
theorem dX4_copyFrom_71 : decode cX4_copyFrom 71 = .ok (.bipush 9, 2) := D_16 yB_cX4_copyFrom rfl rfl (sg_p (m := 128) (N := 9) rfl rfl rfl)
theorem dX4_copyFrom_73 : decode cX4_copyFrom 73 = .ok (.invokestatic 52, 3) := D_184 yB_cX4_copyFrom rfl rfl rfl
theorem dX4_copyFrom_76 : decode cX4_copyFrom 76 = .ok (.aload_n 1, 1) := D_43 yB_cX4_copyFrom rfl rfl
theorem dX4_copyFrom_77 : decode cX4_copyFrom 77 = .ok (.getfield 24, 3) := D_180 yB_cX4_copyFrom rfl rfl rfl
theorem dX4_copyFrom_80 : decode cX4_copyFrom 80 = .ok (.iconst 0, 1) := D_3 yB_cX4_copyFrom rfl rfl
theorem dX4_copyFrom_81 : decode cX4_copyFrom 81 = .ok (.aload_n 0, 1) := D_42 yB_cX4_copyFrom rfl rfl
theorem dX4_copyFrom_82 : decode cX4_copyFrom 82 = .ok (.getfield 24, 3) := D_180 yB_cX4_copyFrom rfl rfl rfl
theorem dX4_copyFrom_85 : decode cX4_copyFrom 85 = .ok (.iconst 0, 1) := D_3 yB_cX4_copyFrom rfl rfl
theorem dX4_copyFrom_86 : decode cX4_copyFrom 86 = .ok (.bipush 9, 2) := D_16 yB_cX4_copyFrom rfl rfl (sg_p (m := 128) (N := 9) rfl rfl rfl)
theorem dX4_copyFrom_88 : decode cX4_copyFrom 88 = .ok (.invokestatic 52, 3) := D_184 yB_cX4_copyFrom rfl rfl rfl
theorem dX4_copyFrom_91 : decode cX4_copyFrom 91 = .ok (.aload_n 1, 1) := D_43 yB_cX4_copyFrom rfl rfl
theorem dX4_copyFrom_92 : decode cX4_copyFrom 92 = .ok (.getfield 27, 3) := D_180 yB_cX4_copyFrom rfl rfl rfl
theorem dX4_copyFrom_95 : decode cX4_copyFrom 95 = .ok (.iconst 0, 1) := D_3 yB_cX4_copyFrom rfl rfl
theorem dX4_copyFrom_96 : decode cX4_copyFrom 96 = .ok (.aload_n 0, 1) := D_42 yB_cX4_copyFrom rfl rfl
theorem dX4_copyFrom_97 : decode cX4_copyFrom 97 = .ok (.getfield 27, 3) := D_180 yB_cX4_copyFrom rfl rfl rfl
theorem dX4_copyFrom_100 : decode cX4_copyFrom 100 = .ok (.iconst 0, 1) := D_3 yB_cX4_copyFrom rfl rfl
theorem dX4_copyFrom_101 : decode cX4_copyFrom 101 = .ok (.bipush 73, 2) := D_16 yB_cX4_copyFrom rfl rfl (sg_p (m := 128) (N := 73) rfl rfl rfl)
theorem dX4_copyFrom_103 : decode cX4_copyFrom 103 = .ok (.invokestatic 52, 3) := D_184 yB_cX4_copyFrom rfl rfl rfl
theorem dX4_copyFrom_106 : decode cX4_copyFrom 106 = .ok (.aload_n 1, 1) := D_43 yB_cX4_copyFrom rfl rfl
theorem dX4_copyFrom_107 : decode cX4_copyFrom 107 = .ok (.getfield 30, 3) := D_180 yB_cX4_copyFrom rfl rfl rfl
theorem dX4_copyFrom_110 : decode cX4_copyFrom 110 = .ok (.iconst 0, 1) := D_3 yB_cX4_copyFrom rfl rfl
theorem dX4_copyFrom_111 : decode cX4_copyFrom 111 = .ok (.aload_n 0, 1) := D_42 yB_cX4_copyFrom rfl rfl
theorem dX4_copyFrom_112 : decode cX4_copyFrom 112 = .ok (.getfield 30, 3) := D_180 yB_cX4_copyFrom rfl rfl rfl
theorem dX4_copyFrom_115 : decode cX4_copyFrom 115 = .ok (.iconst 0, 1) := D_3 yB_cX4_copyFrom rfl rfl
theorem dX4_copyFrom_116 : decode cX4_copyFrom 116 = .ok (.bipush 73, 2) := D_16 yB_cX4_copyFrom rfl rfl (sg_p (m := 128) (N := 73) rfl rfl rfl)
theorem dX4_copyFrom_118 : decode cX4_copyFrom 118 = .ok (.invokestatic 52, 3) := D_184 yB_cX4_copyFrom rfl rfl rfl
theorem dX4_copyFrom_121 : decode cX4_copyFrom 121 = .ok (.aload_n 1, 1) := D_43 yB_cX4_copyFrom rfl rfl
theorem dX4_copyFrom_122 : decode cX4_copyFrom 122 = .ok (.getfield 33, 3) := D_180 yB_cX4_copyFrom rfl rfl rfl
theorem dX4_copyFrom_125 : decode cX4_copyFrom 125 = .ok (.iconst 0, 1) := D_3 yB_cX4_copyFrom rfl rfl
theorem dX4_copyFrom_126 : decode cX4_copyFrom 126 = .ok (.aload_n 0, 1) := D_42 yB_cX4_copyFrom rfl rfl
theorem dX4_copyFrom_127 : decode cX4_copyFrom 127 = .ok (.getfield 33, 3) := D_180 yB_cX4_copyFrom rfl rfl rfl
theorem dX4_copyFrom_130 : decode cX4_copyFrom 130 = .ok (.iconst 0, 1) := D_3 yB_cX4_copyFrom rfl rfl
theorem dX4_copyFrom_131 : decode cX4_copyFrom 131 = .ok (.bipush 73, 2) := D_16 yB_cX4_copyFrom rfl rfl (sg_p (m := 128) (N := 73) rfl rfl rfl)
theorem dX4_copyFrom_133 : decode cX4_copyFrom 133 = .ok (.invokestatic 52, 3) := D_184 yB_cX4_copyFrom rfl rfl rfl
theorem dX4_copyFrom_136 : decode cX4_copyFrom 136 = .ok (.aload_n 1, 1) := D_43 yB_cX4_copyFrom rfl rfl
theorem dX4_copyFrom_137 : decode cX4_copyFrom 137 = .ok (.getfield 36, 3) := D_180 yB_cX4_copyFrom rfl rfl rfl
theorem dX4_copyFrom_140 : decode cX4_copyFrom 140 = .ok (.iconst 0, 1) := D_3 yB_cX4_copyFrom rfl rfl
theorem dX4_copyFrom_141 : decode cX4_copyFrom 141 = .ok (.aload_n 0, 1) := D_42 yB_cX4_copyFrom rfl rfl
theorem dX4_copyFrom_142 : decode cX4_copyFrom 142 = .ok (.getfield 36, 3) := D_180 yB_cX4_copyFrom rfl rfl rfl
theorem dX4_copyFrom_145 : decode cX4_copyFrom 145 = .ok (.iconst 0, 1) := D_3 yB_cX4_copyFrom rfl rfl
theorem dX4_copyFrom_146 : decode cX4_copyFrom 146 = .ok (.bipush 73, 2) := D_16 yB_cX4_copyFrom rfl rfl (sg_p (m := 128) (N := 73) rfl rfl rfl)
theorem dX4_copyFrom_148 : decode cX4_copyFrom 148 = .ok (.invokestatic 52, 3) := D_184 yB_cX4_copyFrom rfl rfl rfl
theorem dX4_copyFrom_151 : decode cX4_copyFrom 151 = .ok (.aload_n 1, 1) := D_43 yB_cX4_copyFrom rfl rfl
theorem dX4_copyFrom_152 : decode cX4_copyFrom 152 = .ok (.getfield 39, 3) := D_180 yB_cX4_copyFrom rfl rfl rfl
theorem dX4_copyFrom_155 : decode cX4_copyFrom 155 = .ok (.iconst 0, 1) := D_3 yB_cX4_copyFrom rfl rfl
theorem dX4_copyFrom_156 : decode cX4_copyFrom 156 = .ok (.aload_n 0, 1) := D_42 yB_cX4_copyFrom rfl rfl
theorem dX4_copyFrom_157 : decode cX4_copyFrom 157 = .ok (.getfield 39, 3) := D_180 yB_cX4_copyFrom rfl rfl rfl
theorem dX4_copyFrom_160 : decode cX4_copyFrom 160 = .ok (.iconst 0, 1) := D_3 yB_cX4_copyFrom rfl rfl
theorem dX4_copyFrom_161 : decode cX4_copyFrom 161 = .ok (.iconst 3, 1) := D_6 yB_cX4_copyFrom rfl rfl
theorem dX4_copyFrom_162 : decode cX4_copyFrom 162 = .ok (.invokestatic 52, 3) := D_184 yB_cX4_copyFrom rfl rfl rfl
theorem dX4_copyFrom_165 : decode cX4_copyFrom 165 = .ok (.aload_n 1, 1) := D_43 yB_cX4_copyFrom rfl rfl
theorem dX4_copyFrom_166 : decode cX4_copyFrom 166 = .ok (.getfield 42, 3) := D_180 yB_cX4_copyFrom rfl rfl rfl
theorem dX4_copyFrom_169 : decode cX4_copyFrom 169 = .ok (.iconst 0, 1) := D_3 yB_cX4_copyFrom rfl rfl
theorem dX4_copyFrom_170 : decode cX4_copyFrom 170 = .ok (.aload_n 0, 1) := D_42 yB_cX4_copyFrom rfl rfl
theorem dX4_copyFrom_171 : decode cX4_copyFrom 171 = .ok (.getfield 42, 3) := D_180 yB_cX4_copyFrom rfl rfl rfl
theorem dX4_copyFrom_174 : decode cX4_copyFrom 174 = .ok (.iconst 0, 1) := D_3 yB_cX4_copyFrom rfl rfl
theorem dX4_copyFrom_175 : decode cX4_copyFrom 175 = .ok (.iconst 3, 1) := D_6 yB_cX4_copyFrom rfl rfl
theorem dX4_copyFrom_176 : decode cX4_copyFrom 176 = .ok (.invokestatic 52, 3) := D_184 yB_cX4_copyFrom rfl rfl rfl
theorem dX4_copyFrom_179 : decode cX4_copyFrom 179 = .ok (.return_, 1) := D_177 yB_cX4_copyFrom rfl rfl
set_option maxHeartbeats 4000000 in
set_option maxRecDepth 100000 in
theorem c_X4_copyFrom (l : Launch) (D : va_G) (cA : Nat → ClassId) (ad : Nat → Nat) (o : Int64) (σ : Mem) (t : Nat) (u : Nat) (ht : t < 3) (hu : u < 3) (hne : u ≠ t) (sz : Nat) : Met l yX4_copyFrom (WY yX4_copyFrom cX4_copyFrom 2 none) (RM 1) (va_Pc [.ref (ad (22 * t + 1)), .ref (ad (22 * u + 1))] (PW D cA ad o σ sz)) (va_Qv (fun σ9 => σ9 = rdcpy σ t u) (QW D cA ad o) (FA ad sz)) 0 0 (FA ad sz) := by
  refine ct_of (own := RX4) (k := 1) (Qf := va_Qv (fun σ9 => σ9 = rdcpy σ t u) (QW D cA ad o)) rfl (by decide) (Nat.le_of_ble_eq_true rfl) (fun p e s m below meth c ls C0 X hr hlk hP hl => ?_) sz
  have hS : va_S (FA ad s.heap.size) s.heap s.heap [] := va_S.rf
  have hl : lv_has ls 2 [(0, .ref (ad (22 * t + 1))), (1, .ref (ad (22 * u + 1)))] := hl
  obtain ⟨hx, hb, hml, hown, hts⟩ := id C0
  refine lv_aload_n hx hb dX4_copyFrom_0 rfl (lv_at hl 0 rfl) ?_
  refine lv_aload_n hx hb dX4_copyFrom_1 rfl (lv_at hl 1 rfl) ?_
  refine gf_X4_45 C0 X hP (22 * u + 1) (kdR u hu) dX4_copyFrom_2 ?_
  refine lv_topE (y := (σ (22 * u + 1) 0)) rfl ?_
  refine pf_X4_45 C0 X hP hS (22 * t + 1) (kdR t ht) dX4_copyFrom_5 (fun H locs hP hS => ?_)
  refine lv_aload_n hx hb dX4_copyFrom_8 rfl (lv_at hl 0 rfl) ?_
  refine lv_aload_n hx hb dX4_copyFrom_9 rfl (lv_at hl 1 rfl) ?_
  refine gf_X4_49 C0 X hP (22 * u + 1) (kdR u hu) dX4_copyFrom_10 ?_
  refine lv_topE (y := (σ (22 * u + 1) 1)) (by simp only [stm_ne _ _ _ (show 22 * u + 1 ≠ 22 * t + 1 by omega)]) ?_
  refine pf_X4_49 C0 X hP hS (22 * t + 1) (kdR t ht) dX4_copyFrom_13 (fun H locs hP hS => ?_)
  refine lv_aload_n hx hb dX4_copyFrom_16 rfl (lv_at hl 1 rfl) ?_
  refine gf_X4_9 C0 X hP (22 * u + 1) (q := (22 * u + 2)) (kdR u hu) (by omega) (lkR2 u hu) dX4_copyFrom_17 ?_
  refine lv_iconst (v := 0) hx hb dX4_copyFrom_20 (by decide) ?_
  refine lv_aload_n hx hb dX4_copyFrom_21 rfl (lv_at hl 0 rfl) ?_
  refine gf_X4_9 C0 X hP (22 * t + 1) (q := (22 * t + 2)) (kdR t ht) (by omega) (lkR2 t ht) dX4_copyFrom_22 ?_
  refine lv_iconst (v := 0) hx hb dX4_copyFrom_25 (by decide) ?_
  refine lv_bipush (v := 8) hx hb dX4_copyFrom_26 (by decide) ?_
  refine r_copy (sp := 0) (dp := 0) (n := 8) C0 X hP hS fits_lk hl.1 (22 * u + 2) (22 * t + 2) (kdA2 u hu) (kdA2 t ht) rfl rfl rfl (by decide) (by decide) (Nat.le_of_ble_eq_true rfl) (Nat.le_of_ble_eq_true rfl) dX4_copyFrom_28 (fun H locs hP hS => ?_)
  rw [cpm0] at hP
  refine lv_aload_n hx hb dX4_copyFrom_31 rfl (lv_at hl 1 rfl) ?_
  refine gf_X4_15 C0 X hP (22 * u + 1) (q := (22 * u + 3)) (kdR u hu) (by omega) (lkR3 u hu) dX4_copyFrom_32 ?_
  refine lv_iconst (v := 0) hx hb dX4_copyFrom_35 (by decide) ?_
  refine lv_aload_n hx hb dX4_copyFrom_36 rfl (lv_at hl 0 rfl) ?_
  refine gf_X4_15 C0 X hP (22 * t + 1) (q := (22 * t + 3)) (kdR t ht) (by omega) (lkR3 t ht) dX4_copyFrom_37 ?_
  refine lv_iconst (v := 0) hx hb dX4_copyFrom_40 (by decide) ?_
  refine lv_bipush (v := 8) hx hb dX4_copyFrom_41 (by decide) ?_
  refine r_copy (sp := 0) (dp := 0) (n := 8) C0 X hP hS fits_lk hl.1 (22 * u + 3) (22 * t + 3) (kdA3 u hu) (kdA3 t ht) rfl rfl rfl (by decide) (by decide) (Nat.le_of_ble_eq_true rfl) (Nat.le_of_ble_eq_true rfl) dX4_copyFrom_43 (fun H locs hP hS => ?_)
  rw [cpm0] at hP
  refine lv_aload_n hx hb dX4_copyFrom_46 rfl (lv_at hl 1 rfl) ?_
  refine gf_X4_18 C0 X hP (22 * u + 1) (q := (22 * u + 4)) (kdR u hu) (by omega) (lkR4 u hu) dX4_copyFrom_47 ?_
  refine lv_iconst (v := 0) hx hb dX4_copyFrom_50 (by decide) ?_
  refine lv_aload_n hx hb dX4_copyFrom_51 rfl (lv_at hl 0 rfl) ?_
  refine gf_X4_18 C0 X hP (22 * t + 1) (q := (22 * t + 4)) (kdR t ht) (by omega) (lkR4 t ht) dX4_copyFrom_52 ?_
  refine lv_iconst (v := 0) hx hb dX4_copyFrom_55 (by decide) ?_
  refine lv_bipush (v := 8) hx hb dX4_copyFrom_56 (by decide) ?_
  refine r_copy (sp := 0) (dp := 0) (n := 8) C0 X hP hS fits_lk hl.1 (22 * u + 4) (22 * t + 4) (kdA4 u hu) (kdA4 t ht) rfl rfl rfl (by decide) (by decide) (Nat.le_of_ble_eq_true rfl) (Nat.le_of_ble_eq_true rfl) dX4_copyFrom_58 (fun H locs hP hS => ?_)
  rw [cpm0] at hP
  refine lv_aload_n hx hb dX4_copyFrom_61 rfl (lv_at hl 1 rfl) ?_
  refine gf_X4_21 C0 X hP (22 * u + 1) (q := (22 * u + 5)) (kdR u hu) (by omega) (lkR5 u hu) dX4_copyFrom_62 ?_
  refine lv_iconst (v := 0) hx hb dX4_copyFrom_65 (by decide) ?_
  refine lv_aload_n hx hb dX4_copyFrom_66 rfl (lv_at hl 0 rfl) ?_
  refine gf_X4_21 C0 X hP (22 * t + 1) (q := (22 * t + 5)) (kdR t ht) (by omega) (lkR5 t ht) dX4_copyFrom_67 ?_
  refine lv_iconst (v := 0) hx hb dX4_copyFrom_70 (by decide) ?_
  refine lv_bipush (v := 9) hx hb dX4_copyFrom_71 (by decide) ?_
  refine r_copy (sp := 0) (dp := 0) (n := 9) C0 X hP hS fits_lk hl.1 (22 * u + 5) (22 * t + 5) (kdA5 u hu) (kdA5 t ht) rfl rfl rfl (by decide) (by decide) (Nat.le_of_ble_eq_true rfl) (Nat.le_of_ble_eq_true rfl) dX4_copyFrom_73 (fun H locs hP hS => ?_)
  rw [cpm0] at hP
  refine lv_aload_n hx hb dX4_copyFrom_76 rfl (lv_at hl 1 rfl) ?_
  refine gf_X4_24 C0 X hP (22 * u + 1) (q := (22 * u + 6)) (kdR u hu) (by omega) (lkR6 u hu) dX4_copyFrom_77 ?_
  refine lv_iconst (v := 0) hx hb dX4_copyFrom_80 (by decide) ?_
  refine lv_aload_n hx hb dX4_copyFrom_81 rfl (lv_at hl 0 rfl) ?_
  refine gf_X4_24 C0 X hP (22 * t + 1) (q := (22 * t + 6)) (kdR t ht) (by omega) (lkR6 t ht) dX4_copyFrom_82 ?_
  refine lv_iconst (v := 0) hx hb dX4_copyFrom_85 (by decide) ?_
  refine lv_bipush (v := 9) hx hb dX4_copyFrom_86 (by decide) ?_
  refine r_copy (sp := 0) (dp := 0) (n := 9) C0 X hP hS fits_lk hl.1 (22 * u + 6) (22 * t + 6) (kdA6 u hu) (kdA6 t ht) rfl rfl rfl (by decide) (by decide) (Nat.le_of_ble_eq_true rfl) (Nat.le_of_ble_eq_true rfl) dX4_copyFrom_88 (fun H locs hP hS => ?_)
  rw [cpm0] at hP
  refine lv_aload_n hx hb dX4_copyFrom_91 rfl (lv_at hl 1 rfl) ?_
  refine gf_X4_27 C0 X hP (22 * u + 1) (q := (22 * u + 7)) (kdR u hu) (by omega) (lkR7 u hu) dX4_copyFrom_92 ?_
  refine lv_iconst (v := 0) hx hb dX4_copyFrom_95 (by decide) ?_
  refine lv_aload_n hx hb dX4_copyFrom_96 rfl (lv_at hl 0 rfl) ?_
  refine gf_X4_27 C0 X hP (22 * t + 1) (q := (22 * t + 7)) (kdR t ht) (by omega) (lkR7 t ht) dX4_copyFrom_97 ?_
  refine lv_iconst (v := 0) hx hb dX4_copyFrom_100 (by decide) ?_
  refine lv_bipush (v := 73) hx hb dX4_copyFrom_101 (by decide) ?_
  refine r_copy (sp := 0) (dp := 0) (n := 73) C0 X hP hS fits_lk hl.1 (22 * u + 7) (22 * t + 7) (kdA7 u hu) (kdA7 t ht) rfl rfl rfl (by decide) (by decide) (Nat.le_of_ble_eq_true rfl) (Nat.le_of_ble_eq_true rfl) dX4_copyFrom_103 (fun H locs hP hS => ?_)
  rw [cpm0] at hP
  refine lv_aload_n hx hb dX4_copyFrom_106 rfl (lv_at hl 1 rfl) ?_
  refine gf_X4_30 C0 X hP (22 * u + 1) (q := (22 * u + 8)) (kdR u hu) (by omega) (lkR8 u hu) dX4_copyFrom_107 ?_
  refine lv_iconst (v := 0) hx hb dX4_copyFrom_110 (by decide) ?_
  refine lv_aload_n hx hb dX4_copyFrom_111 rfl (lv_at hl 0 rfl) ?_
  refine gf_X4_30 C0 X hP (22 * t + 1) (q := (22 * t + 8)) (kdR t ht) (by omega) (lkR8 t ht) dX4_copyFrom_112 ?_
  refine lv_iconst (v := 0) hx hb dX4_copyFrom_115 (by decide) ?_
  refine lv_bipush (v := 73) hx hb dX4_copyFrom_116 (by decide) ?_
  refine r_copy (sp := 0) (dp := 0) (n := 73) C0 X hP hS fits_lk hl.1 (22 * u + 8) (22 * t + 8) (kdA8 u hu) (kdA8 t ht) rfl rfl rfl (by decide) (by decide) (Nat.le_of_ble_eq_true rfl) (Nat.le_of_ble_eq_true rfl) dX4_copyFrom_118 (fun H locs hP hS => ?_)
  rw [cpm0] at hP
  refine lv_aload_n hx hb dX4_copyFrom_121 rfl (lv_at hl 1 rfl) ?_
  refine gf_X4_33 C0 X hP (22 * u + 1) (q := (22 * u + 9)) (kdR u hu) (by omega) (lkR9 u hu) dX4_copyFrom_122 ?_
  refine lv_iconst (v := 0) hx hb dX4_copyFrom_125 (by decide) ?_
  refine lv_aload_n hx hb dX4_copyFrom_126 rfl (lv_at hl 0 rfl) ?_
  refine gf_X4_33 C0 X hP (22 * t + 1) (q := (22 * t + 9)) (kdR t ht) (by omega) (lkR9 t ht) dX4_copyFrom_127 ?_
  refine lv_iconst (v := 0) hx hb dX4_copyFrom_130 (by decide) ?_
  refine lv_bipush (v := 73) hx hb dX4_copyFrom_131 (by decide) ?_
  refine r_copy (sp := 0) (dp := 0) (n := 73) C0 X hP hS fits_lk hl.1 (22 * u + 9) (22 * t + 9) (kdA9 u hu) (kdA9 t ht) rfl rfl rfl (by decide) (by decide) (Nat.le_of_ble_eq_true rfl) (Nat.le_of_ble_eq_true rfl) dX4_copyFrom_133 (fun H locs hP hS => ?_)
  rw [cpm0] at hP
  refine lv_aload_n hx hb dX4_copyFrom_136 rfl (lv_at hl 1 rfl) ?_
  refine gf_X4_36 C0 X hP (22 * u + 1) (q := (22 * u + 10)) (kdR u hu) (by omega) (lkR10 u hu) dX4_copyFrom_137 ?_
  refine lv_iconst (v := 0) hx hb dX4_copyFrom_140 (by decide) ?_
  refine lv_aload_n hx hb dX4_copyFrom_141 rfl (lv_at hl 0 rfl) ?_
  refine gf_X4_36 C0 X hP (22 * t + 1) (q := (22 * t + 10)) (kdR t ht) (by omega) (lkR10 t ht) dX4_copyFrom_142 ?_
  refine lv_iconst (v := 0) hx hb dX4_copyFrom_145 (by decide) ?_
  refine lv_bipush (v := 73) hx hb dX4_copyFrom_146 (by decide) ?_
  refine r_copy (sp := 0) (dp := 0) (n := 73) C0 X hP hS fits_lk hl.1 (22 * u + 10) (22 * t + 10) (kdA10 u hu) (kdA10 t ht) rfl rfl rfl (by decide) (by decide) (Nat.le_of_ble_eq_true rfl) (Nat.le_of_ble_eq_true rfl) dX4_copyFrom_148 (fun H locs hP hS => ?_)
  rw [cpm0] at hP
  refine lv_aload_n hx hb dX4_copyFrom_151 rfl (lv_at hl 1 rfl) ?_
  refine gf_X4_39 C0 X hP (22 * u + 1) (q := (22 * u + 11)) (kdR u hu) (by omega) (lkR11 u hu) dX4_copyFrom_152 ?_
  refine lv_iconst (v := 0) hx hb dX4_copyFrom_155 (by decide) ?_
  refine lv_aload_n hx hb dX4_copyFrom_156 rfl (lv_at hl 0 rfl) ?_
  refine gf_X4_39 C0 X hP (22 * t + 1) (q := (22 * t + 11)) (kdR t ht) (by omega) (lkR11 t ht) dX4_copyFrom_157 ?_
  refine lv_iconst (v := 0) hx hb dX4_copyFrom_160 (by decide) ?_
  refine lv_iconst (v := 3) hx hb dX4_copyFrom_161 (by decide) ?_
  refine r_copy (sp := 0) (dp := 0) (n := 3) C0 X hP hS fits_lk hl.1 (22 * u + 11) (22 * t + 11) (kdA11 u hu) (kdA11 t ht) rfl rfl rfl (by decide) (by decide) (Nat.le_of_ble_eq_true rfl) (Nat.le_of_ble_eq_true rfl) dX4_copyFrom_162 (fun H locs hP hS => ?_)
  rw [cpm0] at hP
  refine lv_aload_n hx hb dX4_copyFrom_165 rfl (lv_at hl 1 rfl) ?_
  refine gf_X4_42 C0 X hP (22 * u + 1) (q := (22 * u + 12)) (kdR u hu) (by omega) (lkR12 u hu) dX4_copyFrom_166 ?_
  refine lv_iconst (v := 0) hx hb dX4_copyFrom_169 (by decide) ?_
  refine lv_aload_n hx hb dX4_copyFrom_170 rfl (lv_at hl 0 rfl) ?_
  refine gf_X4_42 C0 X hP (22 * t + 1) (q := (22 * t + 12)) (kdR t ht) (by omega) (lkR12 t ht) dX4_copyFrom_171 ?_
  refine lv_iconst (v := 0) hx hb dX4_copyFrom_174 (by decide) ?_
  refine lv_iconst (v := 3) hx hb dX4_copyFrom_175 (by decide) ?_
  refine r_copy (sp := 0) (dp := 0) (n := 3) C0 X hP hS fits_lk hl.1 (22 * u + 12) (22 * t + 12) (kdA12 u hu) (kdA12 t ht) rfl rfl rfl (by decide) (by decide) (Nat.le_of_ble_eq_true rfl) (Nat.le_of_ble_eq_true rfl) dX4_copyFrom_176 (fun H locs hP hS => ?_)
  rw [cpm0] at hP
  exact r_vret C0 X hP hS hr hlk dX4_copyFrom_179 rfl
def bB_cX6_copyFrom : Nat := 0xb13a00b84910031800b42a031800b42b3700b53700b42b2a3400b53400b42b2a3100b53100b42b2a2e00b52e00b42b2ae8ffa70102842b00b6321c1400b42b321c1400b42a1800a207101c3d032700b60c00b42b0c00b42a
theorem yB_cX6_copyFrom : BYS cX6_copyFrom 88 bB_cX6_copyFrom := BYS_of (by decide +kernel)
theorem dX6_copyFrom_0 : decode cX6_copyFrom 0 = .ok (.aload_n 0, 1) := D_42 yB_cX6_copyFrom rfl rfl
theorem dX6_copyFrom_1 : decode cX6_copyFrom 1 = .ok (.getfield 12, 3) := D_180 yB_cX6_copyFrom rfl rfl rfl
theorem dX6_copyFrom_4 : decode cX6_copyFrom 4 = .ok (.aload_n 1, 1) := D_43 yB_cX6_copyFrom rfl rfl
theorem dX6_copyFrom_5 : decode cX6_copyFrom 5 = .ok (.getfield 12, 3) := D_180 yB_cX6_copyFrom rfl rfl rfl
theorem dX6_copyFrom_8 : decode cX6_copyFrom 8 = .ok (.invokevirtual 39, 3) := D_182 yB_cX6_copyFrom rfl rfl rfl
theorem dX6_copyFrom_11 : decode cX6_copyFrom 11 = .ok (.iconst 0, 1) := D_3 yB_cX6_copyFrom rfl rfl
theorem dX6_copyFrom_12 : decode cX6_copyFrom 12 = .ok (.istore_n 2, 1) := D_61 yB_cX6_copyFrom rfl rfl
theorem dX6_copyFrom_13 : decode cX6_copyFrom 13 = .ok (.iload_n 2, 1) := D_28 yB_cX6_copyFrom rfl rfl
theorem dX6_copyFrom_14 : decode cX6_copyFrom 14 = .ok (.bipush 7, 2) := D_16 yB_cX6_copyFrom rfl rfl (sg_p (m := 128) (N := 7) rfl rfl rfl)
theorem dX6_copyFrom_16 : decode cX6_copyFrom 16 = .ok (.if_icmp .ge 24, 3) := D_162 yB_cX6_copyFrom rfl rfl (sg_p (m := 32768) (N := 24) rfl rfl rfl)
theorem dX6_copyFrom_19 : decode cX6_copyFrom 19 = .ok (.aload_n 0, 1) := D_42 yB_cX6_copyFrom rfl rfl
theorem dX6_copyFrom_20 : decode cX6_copyFrom 20 = .ok (.getfield 20, 3) := D_180 yB_cX6_copyFrom rfl rfl rfl
theorem dX6_copyFrom_23 : decode cX6_copyFrom 23 = .ok (.iload_n 2, 1) := D_28 yB_cX6_copyFrom rfl rfl
theorem dX6_copyFrom_24 : decode cX6_copyFrom 24 = .ok (.aaload, 1) := D_50 yB_cX6_copyFrom rfl rfl
theorem dX6_copyFrom_25 : decode cX6_copyFrom 25 = .ok (.aload_n 1, 1) := D_43 yB_cX6_copyFrom rfl rfl
theorem dX6_copyFrom_26 : decode cX6_copyFrom 26 = .ok (.getfield 20, 3) := D_180 yB_cX6_copyFrom rfl rfl rfl
theorem dX6_copyFrom_29 : decode cX6_copyFrom 29 = .ok (.iload_n 2, 1) := D_28 yB_cX6_copyFrom rfl rfl
theorem dX6_copyFrom_30 : decode cX6_copyFrom 30 = .ok (.aaload, 1) := D_50 yB_cX6_copyFrom rfl rfl
theorem dX6_copyFrom_31 : decode cX6_copyFrom 31 = .ok (.invokevirtual 43, 3) := D_182 yB_cX6_copyFrom rfl rfl rfl
theorem dX6_copyFrom_34 : decode cX6_copyFrom 34 = .ok (.iinc 2 1, 3) := D_132 yB_cX6_copyFrom rfl rfl rfl (sg_p (m := 128) (N := 1) rfl rfl rfl)
theorem dX6_copyFrom_37 : decode cX6_copyFrom 37 = .ok (.goto (-24), 3) := D_167 yB_cX6_copyFrom rfl rfl (sg_n (m := 32768) (N := 24) rfl rfl rfl)
theorem dX6_copyFrom_40 : decode cX6_copyFrom 40 = .ok (.aload_n 0, 1) := D_42 yB_cX6_copyFrom rfl rfl
theorem dX6_copyFrom_41 : decode cX6_copyFrom 41 = .ok (.aload_n 1, 1) := D_43 yB_cX6_copyFrom rfl rfl
theorem dX6_copyFrom_42 : decode cX6_copyFrom 42 = .ok (.getfield 46, 3) := D_180 yB_cX6_copyFrom rfl rfl rfl
theorem dX6_copyFrom_45 : decode cX6_copyFrom 45 = .ok (.putfield 46, 3) := D_181 yB_cX6_copyFrom rfl rfl rfl
theorem dX6_copyFrom_48 : decode cX6_copyFrom 48 = .ok (.aload_n 0, 1) := D_42 yB_cX6_copyFrom rfl rfl
theorem dX6_copyFrom_49 : decode cX6_copyFrom 49 = .ok (.aload_n 1, 1) := D_43 yB_cX6_copyFrom rfl rfl
theorem dX6_copyFrom_50 : decode cX6_copyFrom 50 = .ok (.getfield 49, 3) := D_180 yB_cX6_copyFrom rfl rfl rfl
theorem dX6_copyFrom_53 : decode cX6_copyFrom 53 = .ok (.putfield 49, 3) := D_181 yB_cX6_copyFrom rfl rfl rfl
theorem dX6_copyFrom_56 : decode cX6_copyFrom 56 = .ok (.aload_n 0, 1) := D_42 yB_cX6_copyFrom rfl rfl
theorem dX6_copyFrom_57 : decode cX6_copyFrom 57 = .ok (.aload_n 1, 1) := D_43 yB_cX6_copyFrom rfl rfl
theorem dX6_copyFrom_58 : decode cX6_copyFrom 58 = .ok (.getfield 52, 3) := D_180 yB_cX6_copyFrom rfl rfl rfl
theorem dX6_copyFrom_61 : decode cX6_copyFrom 61 = .ok (.putfield 52, 3) := D_181 yB_cX6_copyFrom rfl rfl rfl
theorem dX6_copyFrom_64 : decode cX6_copyFrom 64 = .ok (.aload_n 0, 1) := D_42 yB_cX6_copyFrom rfl rfl
theorem dX6_copyFrom_65 : decode cX6_copyFrom 65 = .ok (.aload_n 1, 1) := D_43 yB_cX6_copyFrom rfl rfl
theorem dX6_copyFrom_66 : decode cX6_copyFrom 66 = .ok (.getfield 55, 3) := D_180 yB_cX6_copyFrom rfl rfl rfl
theorem dX6_copyFrom_69 : decode cX6_copyFrom 69 = .ok (.putfield 55, 3) := D_181 yB_cX6_copyFrom rfl rfl rfl
theorem dX6_copyFrom_72 : decode cX6_copyFrom 72 = .ok (.aload_n 1, 1) := D_43 yB_cX6_copyFrom rfl rfl
theorem dX6_copyFrom_73 : decode cX6_copyFrom 73 = .ok (.getfield 24, 3) := D_180 yB_cX6_copyFrom rfl rfl rfl
theorem dX6_copyFrom_76 : decode cX6_copyFrom 76 = .ok (.iconst 0, 1) := D_3 yB_cX6_copyFrom rfl rfl
theorem dX6_copyFrom_77 : decode cX6_copyFrom 77 = .ok (.aload_n 0, 1) := D_42 yB_cX6_copyFrom rfl rfl
theorem dX6_copyFrom_78 : decode cX6_copyFrom 78 = .ok (.getfield 24, 3) := D_180 yB_cX6_copyFrom rfl rfl rfl
theorem dX6_copyFrom_81 : decode cX6_copyFrom 81 = .ok (.iconst 0, 1) := D_3 yB_cX6_copyFrom rfl rfl
theorem dX6_copyFrom_82 : decode cX6_copyFrom 82 = .ok (.bipush 73, 2) := D_16 yB_cX6_copyFrom rfl rfl (sg_p (m := 128) (N := 73) rfl rfl rfl)
theorem dX6_copyFrom_84 : decode cX6_copyFrom 84 = .ok (.invokestatic 58, 3) := D_184 yB_cX6_copyFrom rfl rfl rfl
theorem dX6_copyFrom_87 : decode cX6_copyFrom 87 = .ok (.return_, 1) := D_177 yB_cX6_copyFrom rfl rfl
set_option maxHeartbeats 4000000 in
set_option maxRecDepth 100000 in
theorem c_X6_copyFrom (l : Launch) (D : va_G) (cA : Nat → ClassId) (ad : Nat → Nat) (o : Int64) (σ : Mem) (t : Nat) (u : Nat) (ht : t < 3) (hu : u < 3) (hne : u ≠ t) (hb01 : ∀ k, k < 7 → ∀ b, b = 0 ∨ b = 1 ∨ b = 7 ∨ b = 8 → (σ (22 * u + 15 + k) b = 0 ∨ σ (22 * u + 15 + k) b = 1)) (sz : Nat) : Met l yX6_copyFrom (WY yX6_copyFrom cX6_copyFrom 3 none) (RM 2) (va_Pc [.ref (ad (22 * t)), .ref (ad (22 * u))] (PW D cA ad o σ sz)) (va_Qv (fun σ9 => σ9 = tcpy σ t u) (QW D cA ad o) (FA ad sz)) 0 0 (FA ad sz) := by
  refine ct_of (own := RX6) (k := 2) (Qf := va_Qv (fun σ9 => σ9 = tcpy σ t u) (QW D cA ad o)) rfl (by decide) (Nat.le_of_ble_eq_true rfl) (fun p e s m below meth c ls C0 X hr hlk hP hl => ?_) sz
  have hS : va_S (FA ad s.heap.size) s.heap s.heap [] := va_S.rf
  have hl : lv_has ls 3 [(0, .ref (ad (22 * t))), (1, .ref (ad (22 * u)))] := hl
  obtain ⟨hx, hb, hml, hown, hts⟩ := id C0
  refine lv_aload_n hx hb dX6_copyFrom_0 rfl (lv_at hl 0 rfl) ?_
  refine gf_X6_12 C0 X hP (22 * t) (q := (22 * t + 1)) (kdT t ht) (by omega) (lkT0 t ht) dX6_copyFrom_1 ?_
  refine lv_aload_n hx hb dX6_copyFrom_4 rfl (lv_at hl 1 rfl) ?_
  refine gf_X6_12 C0 X hP (22 * u) (q := (22 * u + 1)) (kdT u hu) (by omega) (lkT0 u hu) dX6_copyFrom_5 ?_
  refine r_cv X hS (r_runV (As := [.ref (ad (22 * u + 1))]) (rest := []) C0 X hP L_X6_39 (fun sz => c_X4_copyFrom l D cA ad o σ t u ht hu hne sz) (kdR t ht).1 (kdR t ht).2 (by decide) rfl ⟨Nat.le_of_ble_eq_true rfl, Nat.le_of_ble_eq_true rfl⟩ rfl hl.1 rfl (Nat.le_of_ble_eq_true rfl) dX6_copyFrom_8 ⟨Nat.zero_le _, Nat.zero_le _⟩) (fun σ9 H locs hw hP hS => ?_)
  rw [hw] at hP
  refine lv_iconst (v := 0) hx hb dX6_copyFrom_11 (by decide) ?_
  refine lv_istore_n (lv' := [(2, .int 0), (0, .ref (ad (22 * t))), (1, .ref (ad (22 * u)))]) hx hb dX6_copyFrom_12 rfl hl (by decide) rfl (fun ls hl => ?_)
  have lp_1 : ∀ (nn : Nat) (k : Nat) (H : Heap) (locs : List Loc) (ls : Array Slot), k ≤ 7 → WP D cA ad o (ccpyK (rdcpy σ t u) t u k) H → va_S (FA ad s.heap.size) s.heap H locs → lv_has ls 3 [(0, .ref (ad (22 * t))), (1, .ref (ad (22 * u))), (2, .int (nI k))] → (7 - k) < nn → W p l e (RM 2) s m ([.ref (ad (22 * t)), .ref (ad (22 * u))] : List Value).toArray below meth c H locs 0 0 (MQ below (va_Qv (fun σ9 => σ9 = tcpy σ t u) (QW D cA ad o) (FA ad s.heap.size)) ([.ref (ad (22 * t)), .ref (ad (22 * u))] : List Value).toArray s 0 0 (FA ad s.heap.size)) (F0 m 13 ls []) := by
    intro nn
    induction nn with
    | zero => intro k H locs ls hk hP hS hl hn; exact absurd hn (Nat.not_lt_zero _)
    | succ nn ih =>
      intro k H locs ls hk hP hS hl hn
      refine lv_iload_n hx hb dX6_copyFrom_13 rfl (lv_at hl 2 rfl) ?_
      refine lv_bipush (v := 7) hx hb dX6_copyFrom_14 (by decide) ?_
      refine lv_icmp_ge (tgt := 40) hx hb dX6_copyFrom_16 (by decide) (fun c_2 => ?_) (fun c_2 => ?_)
      · obtain rfl : k = 7 := nI_geof (b := 7) c_2 hk (by omega)
        refine lv_aload_n hx hb dX6_copyFrom_40 rfl (lv_at hl 0 rfl) ?_
        refine lv_aload_n hx hb dX6_copyFrom_41 rfl (lv_at hl 1 rfl) ?_
        refine gf_X6_46 C0 X hP (22 * u) (kdT u hu) dX6_copyFrom_42 ?_
        refine lv_topE (y := (σ (22 * u) 2)) (by rw [ccpyK_ne _ (by omega), rdcpy_ne _ (by omega)]) ?_
        refine pf_X6_46 C0 X hP hS (22 * t) (kdT t ht) dX6_copyFrom_45 (fun H locs hP hS => ?_)
        refine lv_aload_n hx hb dX6_copyFrom_48 rfl (lv_at hl 0 rfl) ?_
        refine lv_aload_n hx hb dX6_copyFrom_49 rfl (lv_at hl 1 rfl) ?_
        refine gf_X6_49 C0 X hP (22 * u) (kdT u hu) dX6_copyFrom_50 ?_
        refine lv_topE (y := (σ (22 * u) 3)) (by simp only [stm_ne _ _ _ (show 22 * u ≠ 22 * t by omega)]; rw [ccpyK_ne _ (by omega), rdcpy_ne _ (by omega)]) ?_
        refine pf_X6_49 C0 X hP hS (22 * t) (kdT t ht) dX6_copyFrom_53 (fun H locs hP hS => ?_)
        refine lv_aload_n hx hb dX6_copyFrom_56 rfl (lv_at hl 0 rfl) ?_
        refine lv_aload_n hx hb dX6_copyFrom_57 rfl (lv_at hl 1 rfl) ?_
        refine gf_X6_52 C0 X hP (22 * u) (kdT u hu) dX6_copyFrom_58 ?_
        refine lv_topE (y := (σ (22 * u) 4)) (by simp only [stm_ne _ _ _ (show 22 * u ≠ 22 * t by omega)]; rw [ccpyK_ne _ (by omega), rdcpy_ne _ (by omega)]) ?_
        refine pf_X6_52 C0 X hP hS (22 * t) (kdT t ht) dX6_copyFrom_61 (fun H locs hP hS => ?_)
        refine lv_aload_n hx hb dX6_copyFrom_64 rfl (lv_at hl 0 rfl) ?_
        refine lv_aload_n hx hb dX6_copyFrom_65 rfl (lv_at hl 1 rfl) ?_
        refine gf_X6_55 C0 X hP (22 * u) (kdT u hu) dX6_copyFrom_66 ?_
        refine lv_topE (y := (σ (22 * u) 5)) (by simp only [stm_ne _ _ _ (show 22 * u ≠ 22 * t by omega)]; rw [ccpyK_ne _ (by omega), rdcpy_ne _ (by omega)]) ?_
        refine pf_X6_55 C0 X hP hS (22 * t) (kdT t ht) dX6_copyFrom_69 (fun H locs hP hS => ?_)
        refine lv_aload_n hx hb dX6_copyFrom_72 rfl (lv_at hl 1 rfl) ?_
        refine gf_X6_24 C0 X hP (22 * u) (q := (22 * u + 14)) (kdT u hu) (by omega) (lkT7 u hu) dX6_copyFrom_73 ?_
        refine lv_iconst (v := 0) hx hb dX6_copyFrom_76 (by decide) ?_
        refine lv_aload_n hx hb dX6_copyFrom_77 rfl (lv_at hl 0 rfl) ?_
        refine gf_X6_24 C0 X hP (22 * t) (q := (22 * t + 14)) (kdT t ht) (by omega) (lkT7 t ht) dX6_copyFrom_78 ?_
        refine lv_iconst (v := 0) hx hb dX6_copyFrom_81 (by decide) ?_
        refine lv_bipush (v := 73) hx hb dX6_copyFrom_82 (by decide) ?_
        refine r_copy (sp := 0) (dp := 0) (n := 73) C0 X hP hS lkTr58 hl.1 (22 * u + 14) (22 * t + 14) (kdA14 u hu) (kdA14 t ht) rfl rfl rfl (by decide) (by decide) (Nat.le_of_ble_eq_true rfl) (Nat.le_of_ble_eq_true rfl) dX6_copyFrom_84 (fun H locs hP hS => ?_)
        rw [cpm0] at hP
        exact r_vret C0 X hP hS hr hlk dX6_copyFrom_87 rfl
      · have hk7 : k < 7 := nI_ltof (b := 7) c_2 (by omega)
        refine lv_aload_n hx hb dX6_copyFrom_19 rfl (lv_at hl 0 rfl) ?_
        refine gf_X6_20 C0 X hP (22 * t) (q := (22 * t + 13)) (kdT t ht) (by omega) (lkT1 t ht) dX6_copyFrom_20 ?_
        refine lv_iload_n hx hb dX6_copyFrom_23 rfl (lv_at hl 2 rfl) ?_
        refine r_aaldCN C0 X hP (22 * t + 13) (k := k) (q := (22 * t + 15 + k)) (kdCA t ht) rfl (by omega) (lkCA t ht k (by omega)) dX6_copyFrom_24 ?_
        refine lv_aload_n hx hb dX6_copyFrom_25 rfl (lv_at hl 1 rfl) ?_
        refine gf_X6_20 C0 X hP (22 * u) (q := (22 * u + 13)) (kdT u hu) (by omega) (lkT1 u hu) dX6_copyFrom_26 ?_
        refine lv_iload_n hx hb dX6_copyFrom_29 rfl (lv_at hl 2 rfl) ?_
        refine r_aaldCN C0 X hP (22 * u + 13) (k := k) (q := (22 * u + 15 + k)) (kdCA u hu) rfl (by omega) (lkCA u hu k (by omega)) dX6_copyFrom_30 ?_
        refine r_cv X hS (r_runV (As := [.ref (ad (22 * u + 15 + k))]) (rest := []) C0 X hP L_X6_43 (fun sz => c_X0_copyFrom l D cA ad o (ccpyK (rdcpy σ t u) t u k) (22 * t + 15 + k) (22 * u + 15 + k) (kdC t ht k (by omega)) (kdC u hu k (by omega)) (by omega) (by rw [ccpyK_ne _ (by omega), rdcpy_ne _ (by omega)]; exact hb01 k hk7) sz) (kdC t ht k (by omega)).1 (kdC t ht k (by omega)).2 (by decide) rfl ⟨Nat.le_of_ble_eq_true rfl, Nat.le_of_ble_eq_true rfl⟩ rfl hl.1 rfl (Nat.le_of_ble_eq_true rfl) dX6_copyFrom_31 ⟨Nat.zero_le _, Nat.zero_le _⟩) (fun σ9 H locs hw hP hS => ?_)
        rw [hw] at hP
        refine lv_iinc (v := (nI (k + 1))) (lv' := [(2, .int (nI (k + 1))), (0, .ref (ad (22 * t))), (1, .ref (ad (22 * u)))]) hx hb dX6_copyFrom_34 hl (k := 2) rfl (nI_1 _) (by decide) rfl (fun ls hl => ?_)
        refine lv_goto (tgt := 13) hx hb dX6_copyFrom_37 (by decide) ?_
        exact ih (k + 1) _ _ ls (by omega) (mem_cast (ccpyK_s _ hk7 hne) hP) hS (lv_sub hl [1, 2, 0] rfl) (by omega)
  exact lp_1 ((7 - 0) + 1) 0 _ _ ls (by decide) (mem_cast (ccpyK_0 _ t u) hP) hS (lv_sub hl [1, 2, 0] rfl) (by omega)
def bB_cX6_cartAt : Nat := 0xb0321b1400b42a0900a7010700a107101b0900a22e00b42a1b11009b1b
theorem yB_cX6_cartAt : BYS cX6_cartAt 29 bB_cX6_cartAt := BYS_of (by decide +kernel)
theorem dX6_cartAt_0 : decode cX6_cartAt 0 = .ok (.iload_n 1, 1) := D_27 yB_cX6_cartAt rfl rfl
theorem dX6_cartAt_1 : decode cX6_cartAt 1 = .ok (.ifCond .lt 17, 3) := D_155 yB_cX6_cartAt rfl rfl (sg_p (m := 32768) (N := 17) rfl rfl rfl)
theorem dX6_cartAt_4 : decode cX6_cartAt 4 = .ok (.iload_n 1, 1) := D_27 yB_cX6_cartAt rfl rfl
theorem dX6_cartAt_5 : decode cX6_cartAt 5 = .ok (.aload_n 0, 1) := D_42 yB_cX6_cartAt rfl rfl
theorem dX6_cartAt_6 : decode cX6_cartAt 6 = .ok (.getfield 46, 3) := D_180 yB_cX6_cartAt rfl rfl rfl
theorem dX6_cartAt_9 : decode cX6_cartAt 9 = .ok (.if_icmp .ge 9, 3) := D_162 yB_cX6_cartAt rfl rfl (sg_p (m := 32768) (N := 9) rfl rfl rfl)
theorem dX6_cartAt_12 : decode cX6_cartAt 12 = .ok (.iload_n 1, 1) := D_27 yB_cX6_cartAt rfl rfl
theorem dX6_cartAt_13 : decode cX6_cartAt 13 = .ok (.bipush 7, 2) := D_16 yB_cX6_cartAt rfl rfl (sg_p (m := 128) (N := 7) rfl rfl rfl)
theorem dX6_cartAt_15 : decode cX6_cartAt 15 = .ok (.if_icmp .lt 7, 3) := D_161 yB_cX6_cartAt rfl rfl (sg_p (m := 32768) (N := 7) rfl rfl rfl)
theorem dX6_cartAt_18 : decode cX6_cartAt 18 = .ok (.aconst_null, 1) := D_1 yB_cX6_cartAt rfl rfl
theorem dX6_cartAt_19 : decode cX6_cartAt 19 = .ok (.goto 9, 3) := D_167 yB_cX6_cartAt rfl rfl (sg_p (m := 32768) (N := 9) rfl rfl rfl)
theorem dX6_cartAt_22 : decode cX6_cartAt 22 = .ok (.aload_n 0, 1) := D_42 yB_cX6_cartAt rfl rfl
theorem dX6_cartAt_23 : decode cX6_cartAt 23 = .ok (.getfield 20, 3) := D_180 yB_cX6_cartAt rfl rfl rfl
theorem dX6_cartAt_26 : decode cX6_cartAt 26 = .ok (.iload_n 1, 1) := D_27 yB_cX6_cartAt rfl rfl
theorem dX6_cartAt_27 : decode cX6_cartAt 27 = .ok (.aaload, 1) := D_50 yB_cX6_cartAt rfl rfl
theorem dX6_cartAt_28 : decode cX6_cartAt 28 = .ok (.areturn, 1) := D_176 yB_cX6_cartAt rfl rfl
set_option maxHeartbeats 4000000 in
set_option maxRecDepth 100000 in
theorem c_X6_cartAt (l : Launch) (D : va_G) (cA : Nat → ClassId) (ad : Nat → Nat) (o : Int64) (σ : Mem) (t : Nat) (k : Int32) (ht : t < 3) (sz : Nat) : Met l yX6_cartAt (WY yX6_cartAt cX6_cartAt 2 (some (.object "WhoBacks$Cart"))) (RM 0) (va_Pc [.ref (ad (22 * t)), .int k] (PW D cA ad o σ sz)) (va_Qq (QQ ad (fun x σ9 => σ9 = σ ∧ (match x with | none => k < 0 ∨ σ (22 * t) 2 ≤ k ∨ 7 ≤ k | some q => ∃ j : Nat, j < 7 ∧ k = nI j ∧ k < σ (22 * t) 2 ∧ q = 22 * t + 15 + j))) (QW D cA ad o) (FA ad sz)) 0 0 (FA ad sz) := by
  refine ct_of (own := RX6) (k := 0) (Qf := va_Qq (QQ ad (fun x σ9 => σ9 = σ ∧ (match x with | none => k < 0 ∨ σ (22 * t) 2 ≤ k ∨ 7 ≤ k | some q => ∃ j : Nat, j < 7 ∧ k = nI j ∧ k < σ (22 * t) 2 ∧ q = 22 * t + 15 + j))) (QW D cA ad o)) rfl (by decide) (Nat.le_of_ble_eq_true rfl) (fun p e s m below meth c ls C0 X hr hlk hP hl => ?_) sz
  have hS : va_S (FA ad s.heap.size) s.heap s.heap [] := va_S.rf
  have hl : lv_has ls 2 [(0, .ref (ad (22 * t))), (1, .int k)] := hl
  obtain ⟨hx, hb, hml, hown, hts⟩ := id C0
  refine lv_iload_n hx hb dX6_cartAt_0 rfl (lv_at hl 1 rfl) ?_
  refine lv_if_lt (tgt := 18) hx hb dX6_cartAt_1 (by decide) (fun c_1 => ?_) (fun c_1 => ?_)
  · refine lv_null hx hb dX6_cartAt_18 ?_
    refine lv_goto (tgt := 28) hx hb dX6_cartAt_19 (by decide) ?_
    exact r_aretN C0 X hP hS hr hlk dX6_cartAt_28 ⟨rfl, Or.inl c_1⟩
  · refine lv_iload_n hx hb dX6_cartAt_4 rfl (lv_at hl 1 rfl) ?_
    refine lv_aload_n hx hb dX6_cartAt_5 rfl (lv_at hl 0 rfl) ?_
    refine gf_X6_46 C0 X hP (22 * t) (kdT t ht) dX6_cartAt_6 ?_
    refine lv_icmp_ge (tgt := 18) hx hb dX6_cartAt_9 (by decide) (fun c_2 => ?_) (fun c_2 => ?_)
    · refine lv_null hx hb dX6_cartAt_18 ?_
      refine lv_goto (tgt := 28) hx hb dX6_cartAt_19 (by decide) ?_
      exact r_aretN C0 X hP hS hr hlk dX6_cartAt_28 ⟨rfl, Or.inr (Or.inl c_2)⟩
    · refine lv_iload_n hx hb dX6_cartAt_12 rfl (lv_at hl 1 rfl) ?_
      refine lv_bipush (v := 7) hx hb dX6_cartAt_13 (by decide) ?_
      refine lv_icmp_lt (tgt := 22) hx hb dX6_cartAt_15 (by decide) (fun c_3 => ?_) (fun c_3 => ?_)
      · obtain ⟨j, hj, rfl⟩ : ∃ j : Nat, j < 7 ∧ k = nI j := ixN (M := 7) (by decide) c_1 c_3
        refine lv_aload_n hx hb dX6_cartAt_22 rfl (lv_at hl 0 rfl) ?_
        refine gf_X6_20 C0 X hP (22 * t) (q := (22 * t + 13)) (kdT t ht) (by omega) (lkT1 t ht) dX6_cartAt_23 ?_
        refine lv_iload_n hx hb dX6_cartAt_26 rfl (lv_at hl 1 rfl) ?_
        refine r_aaldCN C0 X hP (22 * t + 13) (k := j) (q := (22 * t + 15 + j)) (kdCA t ht) rfl (by omega) (lkCA t ht j (by omega)) dX6_cartAt_27 ?_
        exact r_aret C0 X hP hS hr hlk dX6_cartAt_28 ⟨rfl, j, hj, rfl, Int32.not_le.mp c_2, rfl⟩
      · refine lv_null hx hb dX6_cartAt_18 ?_
        refine lv_goto (tgt := 28) hx hb dX6_cartAt_19 (by decide) ?_
        exact r_aretN C0 X hP hS hr hlk dX6_cartAt_28 ⟨rfl, Or.inr (Or.inr (Int32.not_lt.mp c_3))⟩
end
section
/-! ints seen as longs -/
theorem i2l_lt {a b : Int32} : a.toInt64 < b.toInt64 ↔ a < b := by
  rw [Int64.lt_iff_toInt_lt, Int32.lt_iff_toInt_lt, Int32.toInt_toInt64, Int32.toInt_toInt64]
theorem i2l_le {a b : Int32} : a.toInt64 ≤ b.toInt64 ↔ a ≤ b := by
  rw [Int64.le_iff_toInt_le, Int32.le_iff_toInt_le, Int32.toInt_toInt64, Int32.toInt_toInt64]
theorem nsucc {a h k : Int32} (hk : k.toInt = h.toInt + 1) (c : ¬ h < a) : ¬ k ≤ a := by
  rw [Int32.lt_iff_toInt_lt] at c
  rw [Int32.le_iff_toInt_le]
  omega
theorem osucc {a lo h k : Int32} (hk : k.toInt = h.toInt + 1) (c : a < lo ∨ h < a) : a < lo ∨ k ≤ a := by
  rcases c with c | c
  · exact Or.inl c
  · right
    rw [Int32.lt_iff_toInt_lt] at c
    rw [Int32.le_iff_toInt_le]
    omega
theorem lv_topEl {p : Program} {l : Launch} {e : Env} {R : Room} {s : State} {m : MethodId} {args : Array Value} {below : List Frame} {meth : Method} {c : Code} {H : Heap} {locs : List Loc} {cells slots : Nat} {Q : State → Prop} {pc : Nat} {ls : Array Slot} {rest : List Value} {x y : Int64} (h : x = y) (kk : W p l e R s m args below meth c H locs cells slots Q (F0 m pc ls (.long y :: rest))) : W p l e R s m args below meth c H locs cells slots Q (F0 m pc ls (.long x :: rest)) := h ▸ kk
theorem no01 {a : Int32} : ¬ (0 ≤ a ∧ a ≤ 0 - 1) := by
  intro h
  have h1 := Int32.le_iff_toInt_le.mp h.1
  have h2 := Int32.le_iff_toInt_le.mp h.2
  have h3 : ((0 : Int32) - 1).toInt = -1 := by decide
  have h4 : (0 : Int32).toInt = 0 := by decide
  omega
theorem rcpy_0 (σ : Mem) (d s : Nat) : σ = rcpy σ d s 0 := by
  funext a
  by_cases h : a = d
  · subst h
    simp [rcpy]
  · simp [rcpy, h]
theorem rcpy_s (σ : Mem) {d s k : Nat} (h : s ≠ d) : stm (rcpy σ d s k) d k (σ s k) = rcpy σ d s (k + 1) := by
  funext a
  by_cases h1 : a = d
  · subst h1
    funext b
    by_cases h2 : b = k
    · simp [stm, rcpy, upd, h2]
    · by_cases h3 : b < k
      · have h4 : b < k + 1 := by omega
        simp [stm, rcpy, upd, h2, h3, h4]
      · have h4 : ¬ b < k + 1 := by omega
        simp [stm, rcpy, upd, h2, h3, h4]
  · simp [stm, rcpy, h1]
theorem shin {d : Int32} (h : ¬ (d < 0 ∨ 8 ≤ d)) : ∃ j : Nat, j < 8 ∧ d = nI j := ix8 (fun q => h (Or.inl q)) (Int32.not_le.mp (fun q => h (Or.inr q)))
/-- places lo .. lo + k - 1 of row i are 0 -/
def rzf (σ : Mem) (i lo k : Nat) : Mem := fun a => if a = i then (fun b => if lo ≤ b ∧ b < lo + k then 0 else σ i b) else σ a
theorem rzf_0 (σ : Mem) (i lo : Nat) : σ = rzf σ i lo 0 := by
  funext a
  by_cases h : a = i
  · subst h
    funext b
    have h2 : ¬ (lo ≤ b ∧ b < lo + 0) := by omega
    simp only [rzf, if_true, if_neg h2]
  · simp [rzf, h]
theorem rzf_s (σ : Mem) (i lo k : Nat) : stm (rzf σ i lo k) i (lo + k) 0 = rzf σ i lo (k + 1) := by
  funext a
  by_cases h : a = i
  · subst h
    funext b
    by_cases h1 : b = lo + k
    · have h2 : lo ≤ b ∧ b < lo + (k + 1) := by omega
      simp only [stm, rzf, if_true, upd, if_pos h1, if_pos h2]
    · by_cases h2 : lo ≤ b ∧ b < lo + k
      · have h3 : lo ≤ b ∧ b < lo + (k + 1) := by omega
        simp only [stm, rzf, if_true, upd, if_neg h1, if_pos h2, if_pos h3]
      · have h3 : ¬ (lo ≤ b ∧ b < lo + (k + 1)) := by omega
        simp only [stm, rzf, if_true, upd, if_neg h1, if_neg h2, if_neg h3]
  · simp [stm, rzf, h]
end
section
/-! methods as functions of memories: the pieces -/
def FU : Nat := 2000
def ix (n : Nat) (x : Int32) : Option Nat := if 0 ≤ x.toInt ∧ x.toInt < n then some x.toInt.toNat else none
def ck {α : Type} (c : Prop) [Decidable c] (f : Option α) : Option α := if c then f else none
def bd2 {α β γ : Type} (x : Option (α × β)) (f : α → β → Option γ) : Option γ := x.bind (fun q => f q.1 q.2)
def lm {α β : Type} (x : α) (f : α → Option β) : Option β := f x
theorem lmp {α β : Type} {x : α} {f : α → Option β} {r : β} (h : lm x f = some r) : ∃ v, v = x ∧ f v = some r := ⟨x, rfl, h⟩
theorem bnd {α β : Type} {x : Option α} {f : α → Option β} {r : β} (h : x.bind f = some r) : ∃ v, x = some v ∧ f v = some r := Option.bind_eq_some_iff.mp h
theorem bnd2 {α β γ : Type} {x : Option (α × β)} {f : α → β → Option γ} {r : γ} (h : bd2 x f = some r) : ∃ a b, x = some (a, b) ∧ f a b = some r := by
  obtain ⟨⟨a, b⟩, h1, h2⟩ := Option.bind_eq_some_iff.mp h
  exact ⟨a, b, h1, h2⟩
theorem it_t {α : Type} {c : Prop} [Decidable c] {a b : Option α} {r : α} (h : (if c then a else b) = some r) (hc : c) : a = some r := by rw [if_pos hc] at h; exact h
theorem it_f {α : Type} {c : Prop} [Decidable c] {a b : Option α} {r : α} (h : (if c then a else b) = some r) (hc : ¬ c) : b = some r := by rw [if_neg hc] at h; exact h
theorem ckp {α : Type} {c : Prop} [Decidable c] {f : Option α} {r : α} (h : ck c f = some r) : c ∧ f = some r := by
  unfold ck at h
  by_cases hc : c
  · exact ⟨hc, it_t h hc⟩
  · rw [if_neg hc] at h; exact absurd h nofun
theorem rt2 {α β : Type} {a : α} {b : β} {r : α × β} (h : some (a, b) = some r) : b = r.2 ∧ a = r.1 := by rw [← Option.some.inj h]; exact ⟨rfl, rfl⟩
theorem ix_s {n k : Nat} {x : Int32} (h : ix n x = some k) (hn : n < 2 ^ 31) : x = nI k ∧ k < n := by
  unfold ix at h
  by_cases hc : 0 ≤ x.toInt ∧ x.toInt < n
  · rw [if_pos hc] at h
    have := Option.some.inj h
    refine ⟨Int32.toInt_inj.mp ?_, by omega⟩
    rw [nI_toInt (by omega)]
    omega
  · rw [if_neg hc] at h; exact absurd h nofun
theorem nI_inj {a b : Nat} (h : nI a = nI b) (ha : a < 2 ^ 31) (hb : b < 2 ^ 31) : a = b := by
  have := congrArg Int32.toInt h
  rw [nI_toInt ha, nI_toInt hb] at this
  omega
theorem ix_nI {n k : Nat} (h : k < n) (hn : n ≤ 2 ^ 31) : ix n (nI k) = some k := by
  unfold ix
  rw [nI_toInt (by omega), if_pos (by omega)]
  simp
theorem inn {a lo hi : Int32} (h : lo ≤ a ∧ a ≤ hi) : ¬ (a < lo ∨ hi < a) := fun q => q.elim (fun q => absurd h.1 (Int32.not_le.mpr q)) (fun q => absurd h.2 (Int32.not_le.mpr q))
theorem nocart {x c : Int32} {j : Nat} (h : x = nI j) (hj : j < 7) (hc : x < c) : ¬ (x < 0 ∨ c ≤ x ∨ 7 ≤ x) := by
  intro q
  rcases q with q | q | q
  · rw [h] at q; exact nI_pos (by omega) q
  · exact absurd q (Int32.not_le.mpr hc)
  · rw [h] at q; exact nI_ge (a := j) (b := 7) hj (by decide) q
def tx (σ : Mem) : Option Nat := if 68 ≤ (σ 85 0).toInt ∧ (σ 85 0).toInt < 76 then some ((σ 85 0).toInt - 68).toNat else none
theorem tx_s {σ : Mem} {d : Nat} (h : tx σ = some d) : σ 85 0 = nI (68 + d) ∧ d < 8 := by
  unfold tx at h
  by_cases hc : 68 ≤ (σ 85 0).toInt ∧ (σ 85 0).toInt < 76
  · rw [if_pos hc] at h
    have := Option.some.inj h
    refine ⟨Int32.toInt_inj.mp ?_, by omega⟩
    rw [nI_toInt (by omega)]
    omega
  · rw [if_neg hc] at h; exact absurd h nofun
abbrev cb01 (σ : Mem) (u : Nat) : Prop := ∀ k, k < 7 → ∀ b, b < 12 → (b = 0 ∨ b = 1 ∨ b = 7 ∨ b = 8) → (σ (22 * u + 15 + k) b = 0 ∨ σ (22 * u + 15 + k) b = 1)
theorem cb01_e {σ : Mem} {u : Nat} (h : cb01 σ u) : ∀ k, k < 7 → ∀ b, b = 0 ∨ b = 1 ∨ b = 7 ∨ b = 8 → (σ (22 * u + 15 + k) b = 0 ∨ σ (22 * u + 15 + k) b = 1) := fun k hk b hb => h k hk b (by omega) hb
theorem i32ne {x : Int32} {v : Int} (h : ¬ x = Int32.ofInt v) (hv : -2 ^ 31 ≤ v ∧ v < 2 ^ 31 := by decide) : ¬ x.toInt = v := fun q => h (by apply Int32.toInt_inj.mp; rw [q, Int32.toInt_ofInt_of_le (by omega) (by omega)])
abbrev cpok (sp dp n : Int32) (a b : Nat) : Prop := 0 ≤ sp.toInt ∧ 0 ≤ dp.toInt ∧ 0 ≤ n.toInt ∧ sp.toInt + n.toInt ≤ a ∧ dp.toInt + n.toInt ≤ b
theorem clamp_nI {x : Int32} (h : 0 ≤ x.toInt) : x = nI x.toNatClampNeg := by
  apply Int32.toInt_inj.mp
  have := Int32.toInt_lt x
  have h2 : x.toNatClampNeg = x.toInt.toNat := rfl
  rw [nI_toInt (by omega)]
  omega
section FZ
variable {p : Program} {l : Launch} {e : Env} {R : Room} {s : State} {m : MethodId} {args : Array Value} {below : List Frame} {meth : Method} {c : Code} {H : Heap} {locs : List Loc} {cells slots : Nat} {Q : State → Prop}
variable {cc : ByteArray} {pc nL : Nat} {ls : Array Slot} {rest : List Value} {D : va_G} {cA : Nat → ClassId} {ad : Nat → Nat} {A : Nat → Prop} {σ : Mem} {o : Int64} {own : String}
theorem r_copyF (C0 : CX p s m args c cc nL own) (X : WX D cA ad A s) (hP : WP D cA ad o σ H) (hS : va_S A s.heap H locs) {index : Nat} (hlink : Cond.methodLink own index arraycopyName ∈ tbg) (hsz : ls.size = nL) (i j : Nat) {n0 n1 : Nat} (hi : i < 106 ∧ kd i = (9, n0)) (hj : j < 106 ∧ kd j = (9, n1)) {xs xd xn : Int32} (hq : cpok xs xd xn n0 n1) (hframes : 1 ≤ R.frames) (hlocals : (rest.map fun v => v.category).sum + (nativeFrameWords "java/lang/System" "arraycopy" 5 + 11) ≤ R.locals) (hdg : decode cc pc = .ok (.invokestatic index, 3))
    (kk : ∀ (H1 : Heap) (locs1 : List Loc), WP D cA ad o (cpm σ i xs.toNatClampNeg j xd.toNatClampNeg xn.toNatClampNeg) H1 → va_S A s.heap H1 locs1 → W p l e R s m args below meth c H1 locs1 cells slots Q (F0 m (pc + 3) ls rest)) : W p l e R s m args below meth c H locs cells slots Q (F0 m pc ls (.int xn :: .int xd :: .ref (ad j) :: .int xs :: .ref (ad i) :: rest)) := by
  obtain ⟨h1, h2, h3, h4, h5⟩ := hq
  have e1 : xs.toNatClampNeg = xs.toInt.toNat := rfl
  have e2 : xd.toNatClampNeg = xd.toInt.toNat := rfl
  have e3 : xn.toNatClampNeg = xn.toInt.toNat := rfl
  exact r_copy C0 X hP hS hlink hsz i j hi hj (clamp_nI h1) (clamp_nI h2) (clamp_nI h3) (by omega) (by omega) hframes hlocals hdg kk
theorem r_get85 (C0 : CX p s m args c cc nL RX3) (X : WX D cA ad A s) (hP : WP D cA ad o σ H) {q : Nat} (hq : σ 85 0 = nI q) (hlt : q < 2 ^ 31) (hdg : decode cc pc = .ok (.getfield 12, 3)) (kk : W p l e R s m args below meth c H locs cells slots Q (F0 m (pc + 3) ls (.ref (ad q) :: rest))) : W p l e R s m args below meth c H locs cells slots Q (F0 m pc ls (.ref (ad 85) :: rest)) := r_get C0 X hP 85 0 (by decide) (show kd 85 = (3, 8) from rfl) (by decide) rfl inX3 (by decide) (tmc sb2_1 4 rfl (by decide +kernel)) (by rw [fv, if_pos ⟨rfl, rfl⟩, hq, nI_clamp hlt]) hdg kk
theorem r_put85 (C0 : CX p s m args c cc nL RX3) (X : WX D cA ad A s) (hP : WP D cA ad o σ H) (hS : va_S A s.heap H locs) {j : Nat} (hlt : j < 2 ^ 31) (hdg : decode cc pc = .ok (.putfield 12, 3))
    (kk : ∀ (H1 : Heap) (locs1 : List Loc), WP D cA ad o (stm σ 85 0 (nI j)) H1 → va_S A s.heap H1 locs1 → W p l e R s m args below meth c H1 locs1 cells slots Q (F0 m (pc + 3) ls rest)) : W p l e R s m args below meth c H locs cells slots Q (F0 m pc ls (.ref (ad j) :: .ref (ad 85) :: rest)) := by
  obtain ⟨hx, hb, hml, hown, hts⟩ := C0
  refine va_put (D := D) (ci := 3) (C := RX3) (T := TX3) (N := 8) (v := .ref (ad j)) (ty := .object "WhoBacks$Shelf") hx hb hts inX3 tyX3 tyX3_ok nmX3 hown X.1 hP (WX_D X o σ) hS 85 (fs := (List.range 8).map (fv ad (σ 85) 85)) ?_ rfl 0 (by decide) (hts _ (tmc sb2_1 4 rfl (by decide +kernel))) (fun _ h => h) rfl rfl rfl rfl (by simp) hdg (fun H1 locs1 hP1 _ hS1 => kk H1 locs1 ?_ hS1)
  · rw [wl_get cA ad o σ (by decide), cel_obj (ci := 3) (n := 8) rfl (by decide)]
  · rw [fs_setr ad (σ 85) j hlt, ← cel_obj (cA := cA) (o := o) (ci := 3) (n := 8) rfl (by decide), wl_set] at hP1
    exact hP1
end FZ
end
