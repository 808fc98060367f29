/-! best, days -/
section R4
variable {m n : Nat} {len : Nat → Nat}
def PQ (j v : Nat) : Nat → Prop := fun q => ∃ c, j ≤ c ∧ c < v ∧ q = 54 + 11 * c
theorem KX_late {k k' : Nat → Int32} {j v : Nat} {x : Int32} (h : KX (PQ j v) k k') : KX (PQ (j + 1) v) (upd k (54 + 11 * j) x) (upd k' (54 + 11 * j) x) := by
  intro q hq hp
  by_cases e : q = 54 + 11 * j
  · subst e; rw [upd_at, upd_at]
  · rw [upd_ne _ _ e, upd_ne _ _ e]
    exact h q hq (fun ⟨c, h1, h2, h3⟩ => hp ⟨c, by
      have : c ≠ j := fun z => e (by rw [← z]; exact h3)
      omega, h2, h3⟩)
theorem KX_one {k : Nat → Int32} {j v c : Nat} {x : Int32} (hj : j ≤ c) (hv : c < v) : KX (PQ j v) k (upd k (54 + 11 * c) x) := fun q _ hp => upd_ne _ _ (fun e => hp ⟨c, hj, hv, e⟩)
theorem PQ_0 {j : Nat} : ∀ q, PQ j j q → P0 q := fun q ⟨c, h1, h2, _⟩ => absurd h1 (by omega)
theorem BG_sc {ρ : Mem} {c : Nat} {v : Int32} (B : BG (ρ 94) n) (hc : c < 7) : BG (stm ρ 94 (54 + 11 * c) v 94) n := BG_st B (by unfold st2; omega)
/-- the inner loops of best -/
theorem best_i {σ0 ρ0 : Mem} {x code l b : Int32} {var : Nat} (hm : 0 < m) (hv : var ≤ n) (kc kcb : Mem → Int32 → Int32 → Option (Mem × Int32)) (kr krb : Mem → Int32 → Int32 → Int32 → Int32 → Option (Mem × Int32)) : ∀ (d j nn nn2 : Nat) (σ ρ : Mem) (k : Nat → Int32), j + d = var → d < nn → d < nn2 → RTS σ 2 k m len n → KX (PQ j var) k (ρ 94) → KX (PQ 0 var) (ρ0 92) k → BG (ρ 94) n → MC σ0 σ → MR ρ0 ρ → ∃ σ' ρ' v, F_X7_best_65 x kc nn σ (nI j) code (nI var) = (F_X1_offer σ' code v).bind (fun s => kc s (code + 1) (nI var)) ∧ F_X7_best_65b x kcb nn σ (nI j) code (nI var) = (F_X1_offer σ' code v).bind (fun s => kcb s (code + 1) (nI var)) ∧ F_X8_best_69 x kr nn2 ρ (nI j) code l b (nI var) = (if b < 0 then (kr ρ' (code + 1) v code (nI var)) else (if v < l then (kr ρ' (code + 1) v code (nI var)) else (kr ρ' (code + 1) l b (nI var)))) ∧ F_X8_best_69b x krb nn2 ρ (nI j) code l b (nI var) = (if b < 0 then (krb ρ' (code + 1) v code (nI var)) else (if v < l then (krb ρ' (code + 1) v code (nI var)) else (krb ρ' (code + 1) l b (nI var)))) ∧ RTS σ' 2 (ρ' 94) m len n ∧ KX (PQ 0 var) (ρ0 92) (ρ' 94) ∧ MC σ0 σ' ∧ MR ρ0 ρ' ∧ σ' 84 = σ 84 := by
  intro d
  induction d with
  | zero =>
    intro j nn nn2 σ ρ k e1 e2 e3 S hk h0 B M N
    have h7 : n ≤ 7 := S.2.1.2
    obtain rfl : j = var := by omega
    obtain ⟨nn, rfl⟩ : ∃ j, nn = j + 1 := ⟨nn - 1, by omega⟩
    obtain ⟨nn2, rfl⟩ : ∃ j, nn2 = j + 1 := ⟨nn2 - 1, by omega⟩
    obtain ⟨σ2, ρ2, v, c1, c2, -, c4, c5, c6, c7, c84⟩ := run_k S (KX_0.mp (KX_w hk PQ_0)) B hm M N
    rw [F_X7_best_65, F_X7_best_65b, F_X8_best_69, F_X8_best_69b, if_pos (nI_le (Nat.le_refl _) (by omega)), if_pos (nI_le (Nat.le_refl _) (by omega)), if_pos (nI_le (Nat.le_refl _) (by omega)), if_pos (nI_le (Nat.le_refl _) (by omega)), c1, bd2_s, bd2_s, c2, bd2_s, bd2_s]
    exact ⟨σ2, ρ2, v, rfl, rfl, rfl, rfl, c4, KX_tr h0 (KX_of c5), c6, c7, c84⟩
  | succ d ih =>
    intro j nn nn2 σ ρ k e1 e2 e3 S hk h0 B M N
    have h7 : n ≤ 7 := S.2.1.2
    obtain ⟨nn, rfl⟩ : ∃ j, nn = j + 1 := ⟨nn - 1, by omega⟩
    obtain ⟨nn2, rfl⟩ : ∃ j, nn2 = j + 1 := ⟨nn2 - 1, by omega⟩
    have vj : ¬ nI var ≤ nI j := nI_ge (by omega) (by omega)
    have c7 : j < 7 := by omega
    rw [F_X7_best_65, F_X7_best_65b, F_X8_best_69, F_X8_best_69b, if_neg vj, if_neg vj, if_neg vj, if_neg vj, ix_nI c7 (by decide), Option.bind_some, Option.bind_some, puts10 c7, Option.bind_some, Option.bind_some, nI_1]
    obtain ⟨σ', ρ', v, q1, q2, q3, q4, q5, q6, q7, q8, q9⟩ := ih (j + 1) nn nn2 (stm σ (22 * 2 + 15 + j) 5 (5 * ((code >>> ((2 * nI j) &&& 31)) &&& 3))) (stm ρ 94 (54 + 11 * j) (5 * ((code >>> ((2 * nI j) &&& 31)) &&& 3))) _ (by omega) (by omega) (by omega) (RTS_late S (show j < n by omega) _) (by rw [stm_row]; exact KX_late hk) (KX_tr h0 (KX_one (Nat.zero_le _) (by omega))) (BG_sc B c7) (MC_st M (by omega) (by omega)) (MR_st N)
    exact ⟨σ', ρ', v, q1, q2, q3, q4, q5, q6, q7, q8, q9.trans (stm_ne _ _ _ (by omega))⟩
theorem pw4 {v : Nat} (h : v ≤ 4) : (1 : Int32) <<< ((2 * nI v) &&& 31) = nI (4 ^ v) := by
  have : v = 0 ∨ v = 1 ∨ v = 2 ∨ v = 3 ∨ v = 4 := by omega
  rcases this with rfl | rfl | rfl | rfl | rfl <;> decide
theorem best_o {σ0 ρ0 : Mem} {x : Int32} {var : Nat} (hm : 0 < m) (hv : var ≤ n) (hv4 : var ≤ 4) (hn : ρ0 92 1 = nI n) (h7 : n ≤ 7) : ∀ (d j nn nn2 : Nat) (σ ρ : Mem) (k : Nat → Int32) (b l : Int32), j + d = 4 ^ var → d < nn → d < nn2 → RTS σ 2 k m len n → KX (PQ 0 var) (ρ0 92) k → MC σ0 σ → MR ρ0 ρ → OF σ b l → (j = 0 ∨ 0 ≤ b) → ∃ σ' ρ' r, F_X7_best_53 x nn σ (nI j) (nI var) = some (σ', r) ∧ F_X7_best_53b x nn σ (nI j) (nI var) = some (σ', r) ∧ F_X8_best_52 x nn2 ρ (nI j) l b (nI var) = some (ρ', r) ∧ F_X8_best_52b x nn2 ρ (nI j) l b (nI var) = some (ρ', r) ∧ MC σ0 σ' ∧ MR ρ0 ρ' := by
  have h256 : 4 ^ var ≤ 4 ^ 4 := Nat.pow_le_pow_right (by omega) hv4
  have h1 : 1 ≤ 4 ^ var := Nat.one_le_pow _ _ (by omega)
  have h44 : (4 : Nat) ^ 4 = 256 := rfl
  intro d
  induction d with
  | zero =>
    intro j nn nn2 σ ρ k b l e1 e2 e3 S hk M N O hb
    obtain rfl : j = 4 ^ var := by omega
    obtain ⟨nn, rfl⟩ : ∃ j, nn = j + 1 := ⟨nn - 1, by omega⟩
    obtain ⟨nn2, rfl⟩ : ∃ j, nn2 = j + 1 := ⟨nn2 - 1, by omega⟩
    have hb0 := hb.resolve_left (by omega)
    have le : nI (4 ^ var) ≤ nI (4 ^ var) := nI_le (Nat.le_refl _) (by omega)
    rw [F_X7_best_53, F_X7_best_53b, F_X8_best_52, F_X8_best_52b, pw4 hv4]
    repeat rw [if_pos le]
    rw [tell_k O hb0]
    refine ⟨σ, ρ, _, rfl, rfl, ?_, ?_, M, N⟩
    · by_cases q : x = 0
      · rw [if_pos q, if_pos q]
      · rw [if_neg q, if_neg q]
    · by_cases q : x = 0
      · rw [if_pos q, if_pos q]
      · rw [if_neg q, if_neg q]
  | succ d ih =>
    intro j nn nn2 σ ρ k b l e1 e2 e3 S hk M N O hb
    obtain ⟨nn, rfl⟩ : ∃ j, nn = j + 1 := ⟨nn - 1, by omega⟩
    obtain ⟨nn2, rfl⟩ : ∃ j, nn2 = j + 1 := ⟨nn2 - 1, by omega⟩
    have nle : ¬ nI (4 ^ var) ≤ nI j := nI_ge (by omega) (by omega)
    have fu : var < FU := Nat.lt_of_le_of_lt hv4 (by decide)
    obtain ⟨ρ1, b1, b2, b3, b4, b5⟩ := open_k N hn h7 hk
    obtain ⟨σ2, ρ2, v, a1, a2, a3, a4, a5, a6, a7, a8, a84⟩ := best_i (x := x) (code := nI j) (l := l) (b := b) hm hv (fun σ v3 v2 => F_X7_best_53 x nn σ v3 v2) (fun σ v3 v2 => F_X7_best_53b x nn σ v3 v2) (fun σ v5 v4 v3 v2 => F_X8_best_52 x nn2 σ v5 v4 v3 v2) (fun σ v5 v4 v3 v2 => F_X8_best_52b x nn2 σ v5 v4 v3 v2) var 0 FU FU σ ρ1 k (by omega) fu fu S b4 hk b3 M b2
    have a1' : F_X7_best_65 x (fun σ v3 v2 => F_X7_best_53 x nn σ v3 v2) FU σ 0 (nI j) (nI var) = _ := a1
    have a2' : F_X7_best_65b x (fun σ v3 v2 => F_X7_best_53b x nn σ v3 v2) FU σ 0 (nI j) (nI var) = _ := a2
    have a3' : F_X8_best_69 x (fun σ v5 v4 v3 v2 => F_X8_best_52 x nn2 σ v5 v4 v3 v2) FU ρ1 0 (nI j) l b (nI var) = _ := a3
    have a4' : F_X8_best_69b x (fun σ v5 v4 v3 v2 => F_X8_best_52b x nn2 σ v5 v4 v3 v2) FU ρ1 0 (nI j) l b (nI var) = _ := a4
    have j0 : 0 ≤ nI j := nI_pos' (by omega)
    obtain ⟨σ3, o1, o2, o3, o4, o5, o6⟩ := offer_c (v := v) a7 (OF_cg O a84) j0
    have S3 := RTS_cc (σ' := σ3) a5 (fun i h1 h2 => o3 i (by omega))
    rw [F_X7_best_53, F_X7_best_53b, F_X8_best_52, F_X8_best_52b, pw4 hv4]
    repeat rw [if_neg nle]
    rw [b1, Option.bind_some, Option.bind_some, a1', a2', a3', a4', o1, Option.bind_some, Option.bind_some, nI_1]
    by_cases q1 : b < 0
    · repeat rw [if_pos q1]
      exact ih (j + 1) nn nn2 σ3 ρ2 _ _ _ (by omega) (by omega) (by omega) S3 a6 o2 a8 (o4 q1) (Or.inr j0)
    · repeat rw [if_neg q1]
      by_cases q2 : v < l
      · repeat rw [if_pos q2]
        exact ih (j + 1) nn nn2 σ3 ρ2 _ _ _ (by omega) (by omega) (by omega) S3 a6 o2 a8 (o5 q1 q2) (Or.inr j0)
      · repeat rw [if_neg q2]
        exact ih (j + 1) nn nn2 σ3 ρ2 _ _ _ (by omega) (by omega) (by omega) S3 a6 o2 a8 (o6 q1 q2) (Or.inr (Int32.not_lt.mp q1))
theorem call_best (x : Int32) : CALL (fun σ => F_X7_best σ x) (fun σ => F_X8_best σ x) := by
  intro σ ρ I
  obtain ⟨⟨m, len, n, R⟩, L, w, G, S⟩ := I
  have I : INV σ ρ := ⟨⟨m, len, n, R⟩, L, w, G, S⟩
  have h7 := RT_7 R
  have no : ∀ {r : Int32}, ∃ σ' r' ρ', some (σ, r) = some (σ', r') ∧ some (ρ, r) = some (ρ', r') ∧ INV σ' ρ' ∧ CF σ σ' ∧ RF ρ ρ' := fun {r} => ⟨σ, r, ρ, rfl, rfl, I, fun _ _ => rfl, fun _ _ => rfl⟩
  show ∃ σ' r ρ', F_X7_best σ x = some (σ', r) ∧ F_X8_best ρ x = some (ρ', r) ∧ _
  unfold F_X7_best F_X8_best
  obtain ⟨b, e1, e2, e3⟩ := isEmpty_p R
  rw [e1, e2, ck_t _ (RT_b R), ck_t _ (RT_b R)]
  simp only [obs]
  rcases x01 x with ⟨h1, h2, h3⟩ | ⟨h1, h2⟩
  · rw [if_pos h1, if_neg h2, if_neg h3]; exact no
  · rw [if_neg h1]
    cases b with
    | true =>
      rcases h2 with rfl | rfl
      · rw [if_pos rfl, bI_t, if_neg i10]; exact no
      · rw [if_neg i10, if_pos rfl, bI_t, if_neg i10]; exact no
    | false =>
      have ST := RTS_tcpy R
      have ec : tcpy σ 2 0 44 2 = nI n := ST.2.2.2.2.1.trans (RT_n R)
      obtain ⟨σ1, g1, g2, g3, g4⟩ := begin_c (MC_tcpy (σ := σ) w)
      have go : ∀ var, var ≤ n → var ≤ 4 → ∃ σ' ρ' r, F_X7_best_53 x FU σ1 0 (nI var) = some (σ', r) ∧ F_X7_best_53b x FU σ1 0 (nI var) = some (σ', r) ∧ F_X8_best_52 x FU ρ 0 0 (-4) (nI var) = some (ρ', r) ∧ F_X8_best_52b x FU ρ 0 0 (-4) (nI var) = some (ρ', r) ∧ MC σ σ' ∧ MR ρ ρ' := by
        intro var v1 v2
        have h256 : 4 ^ var ≤ 4 ^ 4 := Nat.pow_le_pow_right (by omega) v2
        have fu : 4 ^ var < FU := Nat.lt_of_le_of_lt h256 (by decide)
        exact best_o (x := x) (e3 rfl).1 v1 v2 (RT_n R) h7 (4 ^ var) 0 FU FU σ1 ρ (ρ 92) (-4) 0 (by omega) fu fu (RTS_cc ST (fun i h1 h2 => g3 i (by omega))) (KX_of (K2_rf _)) g2 (MR_rf ρ) g4 (Or.inl rfl)
      rw [bI_f, g1, ec, RT_n R]
      simp only [obs, if_true]
      by_cases k4 : n < 4
      · have c1 : nI n < (4 : Int32) := nI_lt (a := n) (b := 4) k4 (by decide)
        obtain ⟨σ', ρ', r, a1, a2, a3, a4, a5, a6⟩ := go n (Nat.le_refl _) (by omega)
        obtain ⟨i1, i2, i3⟩ := INV_mind I a5 a6
        repeat rw [if_pos c1]
        rw [if_neg (show ¬ (4 : Int32) ≤ nI n from Int32.not_le.mpr c1), a1, a2, a4]
        rcases h2 with rfl | rfl
        · rw [if_pos rfl]; exact ⟨_, _, _, rfl, rfl, i1, i2, i3⟩
        · rw [if_neg i10, if_pos rfl]; exact ⟨_, _, _, rfl, rfl, i1, i2, i3⟩
      · have c1 : ¬ nI n < (4 : Int32) := nI_nlt (a := n) (b := 4) (by omega) (by omega)
        obtain ⟨σ', ρ', r, a1, a2, a3, a4, a5, a6⟩ := go 4 (by omega) (Nat.le_refl _)
        have a1' : F_X7_best_53 x FU σ1 0 4 = some (σ', r) := a1
        have a2' : F_X7_best_53b x FU σ1 0 4 = some (σ', r) := a2
        have a3' : F_X8_best_52 x FU ρ 0 0 (-4) 4 = some (ρ', r) := a3
        obtain ⟨i1, i2, i3⟩ := INV_mind I a5 a6
        repeat rw [if_neg c1]
        rw [if_pos (show (4 : Int32) ≤ nI n from Int32.not_lt.mp c1), a1', a2', a3']
        rcases h2 with rfl | rfl
        · rw [if_pos rfl]; exact ⟨_, _, _, rfl, rfl, i1, i2, i3⟩
        · rw [if_neg i10, if_pos rfl]; exact ⟨_, _, _, rfl, rfl, i1, i2, i3⟩
theorem m31 (s : Int32) : (s &&& 2147483647) >>> ((16 : Int32) &&& 31) = (s &&& 2147483647) / 65536 := by
  have h : (s &&& 2147483647).toBitVec.msb = false := by
    rw [Int32.toBitVec_and, BitVec.msb_and, show (2147483647 : Int32).toBitVec.msb = false by decide, Bool.and_false]
  have h2 : (s &&& 2147483647).toInt = (s &&& 2147483647).toBitVec.toNat := BitVec.toInt_eq_toNat_of_msb h
  have h3 := Int32.toInt_lt (s &&& 2147483647)
  obtain ⟨q, hq, e⟩ : ∃ q : Nat, q < 2147483648 ∧ s &&& 2147483647 = nI q := ⟨(s &&& 2147483647).toInt.toNat, by omega, nI_i (by omega) (by omega)⟩
  rw [e, pk_shrN hq _ 16 (by decide), show (65536 : Int32) = nI 65536 from rfl, pk_div hq (by omega) (by omega)]
theorem days_i {σ0 ρ0 : Mem} {x1 x2 x3 day cost : Int32} (hm : 0 < m) (hx2 : ¬ x2 = 0) (hn : ρ0 92 1 = nI n) (kc : Mem → Int32 → Int32 → Option (Mem × Int32)) (kr : Mem → Int32 → Int32 → Option (Mem × Int32)) : ∀ (d j nn nn2 : Nat) (σ ρ : Mem) (k : Nat → Int32) (seed : Int32), j + d = n → d < nn → d < nn2 → RTS σ 2 k m len n → KX (PQ j n) k (ρ 94) → KX (PQ 0 n) (ρ0 92) k → BG (ρ 94) n → MC σ0 σ → MR ρ0 ρ → ∃ σ' ρ' v, F_X7_days_65 x1 x2 x3 kc nn σ (nI j) seed day cost = kc σ' (day + 1) (cost + v) ∧ F_X8_days_61 x1 x2 x3 kr nn2 ρ (nI j) seed day cost = kr ρ' (day + 1) (cost + v) ∧ RTS σ' 2 (ρ' 94) m len n ∧ KX (PQ 0 n) (ρ0 92) (ρ' 94) ∧ MC σ0 σ' ∧ MR ρ0 ρ' := by
  intro d
  induction d with
  | zero =>
    intro j nn nn2 σ ρ k seed e1 e2 e3 S hk h0 B M N
    have h7 : n ≤ 7 := S.2.1.2
    obtain rfl : j = n := by omega
    obtain ⟨nn, rfl⟩ : ∃ j, nn = j + 1 := ⟨nn - 1, by omega⟩
    obtain ⟨nn2, rfl⟩ : ∃ j, nn2 = j + 1 := ⟨nn2 - 1, by omega⟩
    obtain ⟨σ2, ρ2, v, c1, c2, -, c4, c5, c6, c7, -⟩ := run_k S (KX_0.mp (KX_w hk PQ_0)) B hm M N
    have ec : σ 44 2 = nI j := S.2.2.2.2.1.trans S.2.1.1
    rw [F_X7_days_65, F_X8_days_61, ec, N.1 92 (by omega) (by omega), hn, if_pos (nI_le (Nat.le_refl _) (by omega)), if_pos (nI_le (Nat.le_refl _) (by omega)), c1, bd2_s, c2, bd2_s]
    exact ⟨σ2, ρ2, v, rfl, rfl, c4, KX_tr h0 (KX_of c5), c6, c7⟩
  | succ d ih =>
    intro j nn nn2 σ ρ k seed e1 e2 e3 S hk h0 B M N
    have h7 : n ≤ 7 := S.2.1.2
    obtain ⟨nn, rfl⟩ : ∃ j, nn = j + 1 := ⟨nn - 1, by omega⟩
    obtain ⟨nn2, rfl⟩ : ∃ j, nn2 = j + 1 := ⟨nn2 - 1, by omega⟩
    have ec : σ 44 2 = nI n := S.2.2.2.2.1.trans S.2.1.1
    have vj : ¬ nI n ≤ nI j := nI_ge (by omega) (by omega)
    have c7 : j < 7 := by omega
    rw [F_X7_days_65, F_X8_days_61, ec, N.1 92 (by omega) (by omega), hn, if_neg vj, if_neg vj, ix_nI c7 (by decide), Option.bind_some, ck_t _ hx2, ck_t _ hx2, puts10 c7, Option.bind_some, m31, nI_1]
    exact ih (j + 1) nn nn2 _ _ _ _ (by omega) (by omega) (by omega) (RTS_late S (show j < n by omega) _) (by rw [stm_row]; exact KX_late hk) (KX_tr h0 (KX_one (Nat.zero_le _) (by omega))) (BG_sc B c7) (MC_st M (by omega) (by omega)) (MR_st N)
theorem days_o {σ0 ρ0 : Mem} {x2 x3 : Int32} {q : Nat} (hm : 0 < m) (hx2 : ¬ x2 = 0) (hn : ρ0 92 1 = nI n) (h7 : n ≤ 7) (hq : q ≤ 5) : ∀ (d j nn nn2 : Nat) (σ ρ : Mem) (k : Nat → Int32) (cost : Int32), j + d = q → d < nn → d < nn2 → RTS σ 2 k m len n → KX (PQ 0 n) (ρ0 92) k → MC σ0 σ → MR ρ0 ρ → ∃ σ' ρ' r, F_X7_days_50 (nI q) x2 x3 nn σ (nI j) cost = some (σ', r) ∧ F_X8_days_42 (nI q) x2 x3 nn2 ρ (nI j) cost = some (ρ', r) ∧ MC σ0 σ' ∧ MR ρ0 ρ' := by
  intro d
  induction d with
  | zero =>
    intro j nn nn2 σ ρ k cost e1 e2 e3 S hk M N
    obtain rfl : j = q := by omega
    obtain ⟨nn, rfl⟩ : ∃ j, nn = j + 1 := ⟨nn - 1, by omega⟩
    obtain ⟨nn2, rfl⟩ : ∃ j, nn2 = j + 1 := ⟨nn2 - 1, by omega⟩
    rw [F_X7_days_50, F_X8_days_42, if_pos (nI_le (Nat.le_refl _) (by omega)), if_pos (nI_le (Nat.le_refl _) (by omega))]
    exact ⟨σ, ρ, _, rfl, rfl, M, N⟩
  | succ d ih =>
    intro j nn nn2 σ ρ k cost e1 e2 e3 S hk M N
    obtain ⟨nn, rfl⟩ : ∃ j, nn = j + 1 := ⟨nn - 1, by omega⟩
    obtain ⟨nn2, rfl⟩ : ∃ j, nn2 = j + 1 := ⟨nn2 - 1, by omega⟩
    have vj : ¬ nI q ≤ nI j := nI_ge (by omega) (by omega)
    have fu : n < FU := Nat.lt_of_le_of_lt h7 (by decide)
    obtain ⟨ρ1, b1, b2, b3, b4, b5⟩ := open_k N hn h7 hk
    obtain ⟨σ2, ρ2, v, a1, a2, a3, a4, a5, a6⟩ := days_i (x1 := nI q) (x3 := x3) (day := nI j) (cost := cost) hm hx2 hn (fun σ v5 v4 => F_X7_days_50 (nI q) x2 x3 nn σ v5 v4) (fun σ v5 v4 => F_X8_days_42 (nI q) x2 x3 nn2 σ v5 v4) n 0 FU FU σ ρ1 k (x3 + nI j) (by omega) fu fu S b4 hk b3 M b2
    have a1' : F_X7_days_65 (nI q) x2 x3 (fun σ v5 v4 => F_X7_days_50 (nI q) x2 x3 nn σ v5 v4) FU σ 0 (x3 + nI j) (nI j) cost = _ := a1
    have a2' : F_X8_days_61 (nI q) x2 x3 (fun σ v5 v4 => F_X8_days_42 (nI q) x2 x3 nn2 σ v5 v4) FU ρ1 0 (x3 + nI j) (nI j) cost = _ := a2
    rw [F_X7_days_50, F_X8_days_42, if_neg vj, if_neg vj, b1, Option.bind_some, a1', a2', nI_1]
    exact ih (j + 1) nn nn2 σ2 ρ2 _ _ (by omega) (by omega) (by omega) a3 a4 a5 a6
theorem call_days (x y z : Int32) : CALL (fun σ => F_X7_days σ x y z) (fun σ => F_X8_days σ x y z) := by
  intro σ ρ I
  obtain ⟨⟨m, len, n, R⟩, L, w, G, S⟩ := I
  have I : INV σ ρ := ⟨⟨m, len, n, R⟩, L, w, G, S⟩
  have h7 := RT_7 R
  have no : ∀ {r : Int32}, ∃ σ' r' ρ', some (σ, r) = some (σ', r') ∧ some (ρ, r) = some (ρ', r') ∧ INV σ' ρ' ∧ CF σ σ' ∧ RF ρ ρ' := fun {r} => ⟨σ, r, ρ, rfl, rfl, I, fun _ _ => rfl, fun _ _ => rfl⟩
  show ∃ σ' r ρ', F_X7_days σ x y z = some (σ', r) ∧ F_X8_days ρ x y z = some (ρ', r) ∧ _
  unfold F_X7_days F_X8_days
  obtain ⟨b, e1, e2, e3⟩ := isEmpty_p R
  rw [e1, e2, ck_t _ (RT_b R)]
  simp only [obs]
  by_cases k1 : x < 1
  · rw [if_pos k1, if_pos (Or.inl k1)]; exact no
  by_cases k2 : 5 < x
  · rw [if_neg k1, if_pos k2, if_pos (Or.inr k2)]; exact no
  rw [if_neg k1, if_neg k2, if_neg (show ¬ (x < 1 ∨ 5 < x) from fun q => q.elim k1 k2)]
  by_cases k3 : y < 1
  · rw [if_pos k3, if_pos (Or.inl k3)]; exact no
  by_cases k4 : y ≤ 60
  rotate_left
  · rw [if_neg k3, if_neg k4, if_pos (Or.inr (Int32.not_le.mp k4))]; exact no
  rw [if_neg k3, if_pos k4, if_neg (show ¬ (y < 1 ∨ 60 < y) from fun q => q.elim k3 (fun q => absurd k4 (Int32.not_le.mpr q)))]
  cases b with
  | true => rw [bI_t, if_neg i10, if_neg i10]; exact no
  | false =>
    have z1 : (1 : Int32).toInt = 1 := by decide
    have z5 : (5 : Int32).toInt = 5 := by decide
    rw [i32_lt, z1] at k1 k3
    rw [i32_lt, z5] at k2
    obtain ⟨q, hq, rfl⟩ : ∃ q : Nat, q ≤ 5 ∧ x = nI q := ⟨x.toInt.toNat, by omega, nI_i (by omega) (by omega)⟩
    have hy : ¬ y = 0 := fun e => by rw [e, show (0 : Int32).toInt = 0 by decide] at k3; omega
    obtain ⟨σ', ρ', r, a1, a2, a3, a4⟩ := days_o (x3 := z) (e3 rfl).1 hy (RT_n R) h7 hq q 0 FU FU (tcpy σ 2 0) ρ (ρ 92) 0 (by omega) (Nat.lt_of_le_of_lt hq (by decide)) (Nat.lt_of_le_of_lt hq (by decide)) (RTS_tcpy R) (KX_of (K2_rf _)) (MC_tcpy w) (MR_rf ρ)
    have a1' : F_X7_days_50 (nI q) y z FU (tcpy σ 2 0) 0 0 = some (σ', r) := a1
    have a2' : F_X8_days_42 (nI q) y z FU ρ 0 0 = some (ρ', r) := a2
    obtain ⟨i1, i2, i3⟩ := INV_mind I a3 a4
    rw [bI_f, if_pos rfl, if_pos rfl, a1', a2']
    exact ⟨_, _, _, rfl, rfl, i1, i2, i3⟩
end R4
