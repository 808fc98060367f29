/-! more, ever, stubborn, met -/
section R3
variable {m n : Nat} {len : Nat → Nat}
theorem more_l {σ0 ρ0 : Mem} {x : Int32} (hm : 0 < m) (hn : ρ0 92 1 = nI n) (hmm : ρ0 92 0 = nI m) (hx : x = 0 ∨ x = 1) : ∀ (d p nn nn2 : Nat) (σ ρ : Mem) (k : Nat → Int32) (b l : Int32), 1 ≤ p → p + d = 9 → d < nn → d < nn2 → RTS σ 2 k m len n → K2 (ρ0 92) k → MC σ0 σ → MR ρ0 ρ → OF σ b l → ∃ σ' ρ' r, F_X7_more_41 x nn σ (nI p) = some (σ', r) ∧ F_X7_more_41b x nn σ (nI p) = some (σ', r) ∧ F_X8_more_30 x nn2 ρ (nI p) l b = some (ρ', r) ∧ MC σ0 σ' ∧ MR ρ0 ρ' := by
  intro d
  have fin : ∀ (σ ρ : Mem) (b l : Int32), OF σ b l → MC σ0 σ → MR ρ0 ρ → ∃ σ' ρ' r, (if x = 0 then some (σ, σ 84 0) else some (σ, σ 84 1)) = some (σ', r) ∧ (if b < 0 then (some (ρ, b)) else (if x = 0 then (some (ρ, b)) else (some (ρ, l)))) = some (ρ', r) ∧ MC σ0 σ' ∧ MR ρ0 ρ' := by
    intro σ ρ b l O M N
    obtain ⟨o1, ⟨rfl, o2⟩ | ⟨o2, o3⟩⟩ := O
    · rw [o1, o2, if_pos im4]
      exact ⟨σ, ρ, -4, by rcases hx with rfl | rfl <;> rfl, rfl, M, N⟩
    · rw [o1, o3, if_neg (Int32.not_lt.mpr o2)]
      rcases hx with rfl | rfl
      · rw [if_pos rfl, if_pos rfl]; exact ⟨σ, ρ, _, rfl, rfl, M, N⟩
      · rw [if_neg i10, if_neg i10]; exact ⟨σ, ρ, _, rfl, rfl, M, N⟩
  induction d with
  | zero =>
    intro p nn nn2 σ ρ k b l h1 e1 e2 e3 S hk M N O
    obtain ⟨nn, rfl⟩ : ∃ j, nn = j + 1 := ⟨nn - 1, by omega⟩
    obtain ⟨nn2, rfl⟩ : ∃ j, nn2 = j + 1 := ⟨nn2 - 1, by omega⟩
    have h8 : m ≤ 8 := S.1.1.2
    have e0 : σ 45 0 = nI m := S.2.2.2.1.1
    rw [F_X7_more_41, F_X7_more_41b, F_X8_more_30, e0, N.1 92 (by omega) (by omega), hmm, if_pos (nI_le (show m ≤ p by omega) (by omega)), if_pos (nI_le (show m ≤ p by omega) (by omega)), if_pos (nI_le (show m ≤ p by omega) (by omega))]
    obtain ⟨σ', ρ', r, f1, f2, f3, f4⟩ := fin σ ρ b l O M N
    exact ⟨σ', ρ', r, f1, f1, f2, f3, f4⟩
  | succ d ih =>
    intro p nn nn2 σ ρ k b l h1 e1 e2 e3 S hk M N O
    obtain ⟨nn, rfl⟩ : ∃ j, nn = j + 1 := ⟨nn - 1, by omega⟩
    obtain ⟨nn2, rfl⟩ : ∃ j, nn2 = j + 1 := ⟨nn2 - 1, by omega⟩
    have h7 : n ≤ 7 := S.2.1.2
    have h8 : m ≤ 8 := S.1.1.2
    have e0 : σ 45 0 = nI m := S.2.2.2.1.1
    rw [F_X7_more_41, F_X7_more_41b, F_X8_more_30, e0, N.1 92 (by omega) (by omega), hmm]
    by_cases k1 : nI m ≤ nI p
    · rw [if_pos k1, if_pos k1, if_pos k1]
      obtain ⟨σ', ρ', r, f1, f2, f3, f4⟩ := fin σ ρ b l O M N
      exact ⟨σ', ρ', r, f1, f1, f2, f3, f4⟩
    have hp : p < m := nI_ltof k1 (by omega)
    have room : σ 49 p = k (5 + p) := S.2.2.2.1.2.2.2.1 p h1 (by omega)
    have rk : k (5 + p) = ρ0 92 (5 + p) := hk _ (by unfold st2; omega)
    obtain ⟨r, hr, er⟩ : ∃ r : Nat, r ≤ 4 ∧ ρ0 92 (5 + p) = nI r := by
      have v := VS_room S.1 h1 (show p ≤ 8 by omega)
      rw [rk] at v
      exact ⟨(ρ0 92 (5 + p)).toInt.toNat, by omega, nI_i v.1 (by omega)⟩
    have n8 : ¬ (8 : Int32) ≤ nI p := nI_ge (a := p) (b := 8) (by omega) (by decide)
    rw [if_neg k1, if_neg k1, if_neg k1, if_neg n8, if_neg n8, ix_nI (n := 9) (show p < 9 by omega) (by decide), ix5 (by omega)]
    simp only [obs, room, rk, er, nI_1]
    by_cases k2 : r = 4
    · subst k2
      rw [if_neg (show ¬ nI 4 < 4 by decide), if_neg (show ¬ nI 4 < 4 by decide), if_pos (show nI 4 = 4 from rfl)]
      exact ih (p + 1) nn nn2 σ ρ k b l (by omega) (by omega) (by omega) (by omega) S hk M N O
    · rw [if_pos (show nI r < (4 : Int32) from nI_lt (a := r) (b := 4) (by omega) (by decide)), if_pos (show nI r < (4 : Int32) from nI_lt (a := r) (b := 4) (by omega) (by decide)), if_neg (show ¬ nI r = (4 : Int32) from fun q => k2 (nI_inj (b := 4) q (by omega) (by decide)))]
      have S1 : RTS (stm σ 49 p (nI (r + 1))) 2 (upd k (5 + p) (nI (r + 1))) m len n := RTS_room S h1 hp (by omega)
      have M1 : MC σ0 (stm σ 49 p (nI (r + 1))) := MC_st M (by omega) (by omega)
      obtain ⟨ρ1, b1, b2, b3, b4, b5⟩ := open_k N hn h7 (KX_of (P := P0) hk)
      have g1 : ρ1 94 (5 + p) = nI r := (b5 _ (by unfold st2; omega)).trans er
      have hk2 : K2 (upd k (5 + p) (nI (r + 1))) (stm ρ1 94 (5 + p) (nI (r + 1)) 94) := by
        intro j hj
        rw [stm_row]
        by_cases q : j = 5 + p
        · subst q; rw [upd_at, upd_at]
        · rw [upd_ne _ _ q, upd_ne _ _ q]; exact b4 j hj id
      obtain ⟨σ2, ρ2, v, c1, c2, -, c4, c5, c6, c7, c84⟩ := run_k S1 hk2 (BG_st b3 (by unfold st2; omega)) hm M1 (MR_st b2)
      obtain ⟨σ3, o1, o2, o3, o4, o5, o6⟩ := offer_c (key := nI p) (v := v) c6 (OF_cg O (c84.trans (stm_ne _ _ _ (by omega)))) (nI_pos' (by omega))
      have S3 := RTS_cc (σ' := σ3) c4 (fun i h1 h2 => o3 i (by omega))
      have room3 : σ3 49 p = nI (r + 1) := by
        have q1 : σ3 49 p = ρ2 94 (5 + p) := S3.2.2.2.1.2.2.2.1 p h1 (by omega)
        rw [q1, c5 _ (by unfold st2; omega), upd_at]
      have S4 : RTS (stm σ3 49 p (nI r)) 2 (upd (ρ2 94) (5 + p) (nI r)) m len n := RTS_room S3 h1 hp hr
      have hk4 : K2 (ρ0 92) (upd (ρ2 94) (5 + p) (nI r)) := by
        intro j hj
        by_cases q : j = 5 + p
        · subst q; rw [upd_at, er]
        · rw [upd_ne _ _ q, c5 j hj, upd_ne _ _ q]; exact hk j hj
      have M4 : MC σ0 (stm σ3 49 p (nI r)) := MC_st o2 (by omega) (by omega)
      have O4 : ∀ {b l : Int32}, OF σ3 b l → OF (stm σ3 49 p (nI r)) b l := fun h => OF_cg h (stm_ne _ _ _ (by omega))
      rw [b1, Option.bind_some, g1, nI_1, c1, bd2_s, bd2_s, o1, Option.bind_some, Option.bind_some, room3, nI_pred, c2, bd2_s]
      by_cases q1 : b < 0
      · rw [if_pos q1]
        exact ih (p + 1) nn nn2 _ ρ2 _ _ _ (by omega) (by omega) (by omega) (by omega) S4 hk4 M4 c7 (O4 (o4 q1))
      · rw [if_neg q1]
        by_cases q2 : v < l
        · rw [if_pos q2]
          exact ih (p + 1) nn nn2 _ ρ2 _ _ _ (by omega) (by omega) (by omega) (by omega) S4 hk4 M4 c7 (O4 (o5 q1 q2))
        · rw [if_neg q2]
          exact ih (p + 1) nn nn2 _ ρ2 _ _ _ (by omega) (by omega) (by omega) (by omega) S4 hk4 M4 c7 (O4 (o6 q1 q2))
theorem call_more (x : Int32) : CALL (fun σ => F_X7_more σ x) (fun σ => F_X8_more σ x) := by
  intro σ ρ I
  obtain ⟨⟨m, len, n, R⟩, L, w, G, S⟩ := I
  have I : INV σ ρ := ⟨⟨m, len, n, R⟩, L, w, G, S⟩
  have no : ∀ {r : Int32}, ∃ σ' r' ρ', some (σ, r) = some (σ', r') ∧ some (ρ, r) = some (ρ', r') ∧ INV σ' ρ' ∧ CF σ σ' ∧ RF ρ ρ' := fun {r} => ⟨σ, r, ρ, rfl, rfl, I, fun _ _ => rfl, fun _ _ => rfl⟩
  show ∃ σ' r ρ', F_X7_more σ x = some (σ', r) ∧ F_X8_more ρ x = some (ρ', r) ∧ _
  unfold F_X7_more F_X8_more
  obtain ⟨b, e1, e2, e3⟩ := isEmpty_p R
  rw [e1, e2, ck_t _ (RT_b R), ck_t _ (RT_b R)]
  simp only [obs]
  rcases x01 x with ⟨h1, h2, h3⟩ | ⟨h1, h2⟩
  · rw [if_pos h1, if_neg h2, if_neg h3]; exact no
  · rw [if_neg h1]
    cases b with
    | true =>
      rcases h2 with rfl | rfl
      · rw [if_pos rfl, bI_t, if_neg i10]; exact no
      · rw [if_neg i10, if_pos rfl, bI_t, if_neg i10]; exact no
    | false =>
      obtain ⟨σ1, g1, g2, g3, g4⟩ := begin_c (MC_tcpy (σ := σ) w)
      obtain ⟨σ', ρ', r, a1, a2, a3, a4, a5⟩ := more_l (x := x) (e3 rfl).1 (RT_n R) (VS_m (RT_V R)) h2 8 1 FU FU σ1 ρ (ρ 92) (-4) 0 (by omega) (by omega) (by decide) (by decide) (RTS_cc (RTS_tcpy R) (fun i h1 h2 => g3 i (by omega))) (K2_rf _) g2 (MR_rf ρ) g4
      have a1' : F_X7_more_41 x FU σ1 1 = some (σ', r) := a1
      have a2' : F_X7_more_41b x FU σ1 1 = some (σ', r) := a2
      have a3' : F_X8_more_30 x FU ρ 1 0 (-4) = some (ρ', r) := a3
      rw [bI_f, g1]
      simp only [obs, a1', a2', a3', if_true]
      obtain ⟨i1, i2, i3⟩ := INV_mind I a4 a5
      rcases h2 with rfl | rfl
      · rw [if_pos rfl]; exact ⟨_, _, _, rfl, rfl, i1, i2, i3⟩
      · rw [if_neg i10, if_pos rfl]; exact ⟨_, _, _, rfl, rfl, i1, i2, i3⟩
/-- late by v, one cart -/
def PL (c : Nat) : Nat → Prop := fun j => j = 54 + 11 * c
theorem late_k {σ0 σ ρ0 ρ : Mem} {k : Nat → Int32} {c : Nat} {v : Int32} (S : RTS σ 2 k m len n) (hm : 0 < m) (M : MC σ0 σ) (N : MR ρ0 ρ) (hn : ρ0 92 1 = nI n) (hc : c < n) (hk : KX (PL c) (ρ0 92) k) : ∃ ρ1 σ' ρ' r, F_X8_opens ρ = some ρ1 ∧ F_X7_costInMind (stm σ (22 * 2 + 15 + c) 5 v) = some (σ', r) ∧ F_X8_costs (stm ρ1 94 (54 + 11 * c) v) = some (ρ', r) ∧ RT σ' 2 (ρ' 94) m len n ∧ KX (PL c) (ρ0 92) (ρ' 94) ∧ MC σ0 σ' ∧ MR ρ0 ρ' := by
  have h7 : n ≤ 7 := S.2.1.2
  obtain ⟨ρ1, b1, b2, b3, b4, b5⟩ := open_k N hn h7 hk
  have hk2 : K2 (upd k (54 + 11 * c) v) (stm ρ1 94 (54 + 11 * c) v 94) := by
    intro j hj
    rw [stm_row]
    by_cases q : j = 54 + 11 * c
    · subst q; rw [upd_at, upd_at]
    · rw [upd_ne _ _ q, upd_ne _ _ q]; exact b4 j hj q
  obtain ⟨σ2, ρ2, r, c1, c2, c3, c4, c5, c6, c7, -⟩ := run_k (RTS_late S hc v) hk2 (BG_st b3 (by unfold st2; omega)) hm (MC_st M (by omega) (by omega)) (MR_st b2)
  exact ⟨ρ1, σ2, ρ2, r, b1, c1, c2, c3, fun j hj hp => by rw [c5 j hj, upd_ne _ _ hp]; exact hk j hj hp, c6, c7⟩
theorem ever_l {σ0 ρ0 : Mem} {x : Int32} {c : Nat} (hm : 0 < m) (hn : ρ0 92 1 = nI n) (hc : c < n) : ∀ (d j nn nn2 : Nat) (σ ρ : Mem) (k : Nat → Int32), j + d = 41 → d < nn → d < nn2 → RTS σ 2 k m len n → KX (PL c) (ρ0 92) k → MC σ0 σ → MR ρ0 ρ → ∃ σ' ρ' r, F_X7_ever_57 x nn σ (nI j) (22 * 2 + 15 + c) = some (σ', r) ∧ F_X8_ever_24 (nI c) nn2 ρ (nI j) = some (ρ', r) ∧ MC σ0 σ' ∧ MR ρ0 ρ' := by
  intro d
  induction d with
  | zero =>
    intro j nn nn2 σ ρ k e1 e2 e3 S hk M N
    obtain rfl : j = 41 := by omega
    obtain ⟨nn, rfl⟩ : ∃ j, nn = j + 1 := ⟨nn - 1, by omega⟩
    obtain ⟨nn2, rfl⟩ : ∃ j, nn2 = j + 1 := ⟨nn2 - 1, by omega⟩
    rw [F_X7_ever_57, F_X8_ever_24, if_pos (show (40 : Int32) < nI 41 by decide), if_pos (show (40 : Int32) < nI 41 by decide)]
    exact ⟨σ, ρ, _, rfl, rfl, M, N⟩
  | succ d ih =>
    intro j nn nn2 σ ρ k e1 e2 e3 S hk M N
    obtain ⟨nn, rfl⟩ : ∃ j, nn = j + 1 := ⟨nn - 1, by omega⟩
    obtain ⟨nn2, rfl⟩ : ∃ j, nn2 = j + 1 := ⟨nn2 - 1, by omega⟩
    have h7 : n ≤ 7 := S.2.1.2
    obtain ⟨ρ1, σ2, ρ2, r, a1, a2, a3, a4, a5, a6, a7⟩ := late_k (v := nI j) S hm M N hn hc hk
    obtain ⟨bs, t1, t2⟩ := stands_p a4
    have n40 : ¬ (40 : Int32) < nI j := nI_nlt (a := 40) (b := j) (by omega) (by decide)
    rw [F_X7_ever_57, F_X8_ever_24, if_neg n40, if_neg n40, a2, bd2_s, t1, Option.bind_some, a1, Option.bind_some, puts10 (by omega), Option.bind_some, a3, bd2_s, t2, Option.bind_some, nI_1]
    cases bs with
    | false =>
      rw [bI_f, if_pos rfl, if_pos rfl]
      exact ih (j + 1) nn nn2 σ2 ρ2 (ρ2 94) (by omega) (by omega) (by omega) (RTS_of a4) a5 a6 a7
    | true =>
      rw [bI_t, if_neg i10, if_neg i10]
      exact ⟨σ2, ρ2, _, rfl, rfl, a6, a7⟩
theorem cart_x2 {σ : Mem} {k : Nat → Int32} (S : RTS σ 2 k m len n) {c : Nat} (hc : c < n) : ¬ (nI c < 0 ∨ σ (22 * 2) 2 ≤ nI c ∨ 7 ≤ nI c) := by
  have h7 : n ≤ 7 := S.2.1.2
  exact nocart rfl (by omega) (by rw [S.2.2.2.2.1, S.2.1.1]; exact nI_lt hc (by omega))
theorem call_ever (x : Int32) : CALL (fun σ => F_X7_ever σ x) (fun σ => F_X8_ever σ x) := by
  intro σ ρ I
  obtain ⟨⟨m, len, n, R⟩, L, w, G, S⟩ := I
  have I : INV σ ρ := ⟨⟨m, len, n, R⟩, L, w, G, S⟩
  have h7 := RT_7 R
  have h8 := RT_8 R
  have no : ∀ {r : Int32}, ∃ σ' r' ρ', some (σ, r) = some (σ', r') ∧ some (ρ, r) = some (ρ', r') ∧ INV σ' ρ' ∧ CF σ σ' ∧ RF ρ ρ' := fun {r} => ⟨σ, r, ρ, rfl, rfl, I, fun _ _ => rfl, fun _ _ => rfl⟩
  show ∃ σ' r ρ', F_X7_ever σ x = some (σ', r) ∧ F_X8_ever ρ x = some (ρ', r) ∧ _
  unfold F_X7_ever F_X8_ever
  have e0 : σ 1 0 = nI m := (RT_R R).1
  rw [e0, VS_m (RT_V R), ck_t _ (RT_b R)]
  rcases cart_x R x with ⟨h1, h2⟩ | ⟨c, hc, rfl, h1, h2⟩
  · rw [if_pos h1, h2, Option.bind_some, if_pos rfl]; exact no
  rw [if_neg h1, h2, Option.bind_some, if_neg i10, ix_nI (n := 7) (show c < 7 by omega) (by decide), Option.bind_some]
  by_cases hm : nI m = 0
  · rw [if_pos hm, if_pos hm]; exact no
  have hm0 : 0 < m := by
    rcases Nat.eq_zero_or_pos m with q | q
    · subst q; exact absurd rfl hm
    · exact q
  have ST := RTS_tcpy R
  rw [if_neg hm, if_neg hm, if_neg (cart_x2 ST hc), Option.bind_some]
  obtain ⟨σ', ρ', r, a1, a2, a3, a4⟩ := ever_l (x := nI c) hm0 (RT_n R) hc 41 0 FU FU (tcpy σ 2 0) ρ (ρ 92) (by omega) (by decide) (by decide) ST (KX_of (K2_rf _)) (MC_tcpy w) (MR_rf ρ)
  have a1' : F_X7_ever_57 (nI c) FU (tcpy σ 2 0) 0 (22 * 2 + 15 + c) = some (σ', r) := a1
  have a2' : F_X8_ever_24 (nI c) FU ρ 0 = some (ρ', r) := a2
  obtain ⟨i1, i2, i3⟩ := INV_mind I a3 a4
  rw [a1', a2']
  exact ⟨_, _, _, rfl, rfl, i1, i2, i3⟩
theorem call_stubborn (x : Int32) : CALL (fun σ => F_X7_stubborn σ x) (fun σ => F_X8_stubborn σ x) := by
  intro σ ρ I
  obtain ⟨⟨m, len, n, R⟩, L, w, G, S⟩ := I
  have I : INV σ ρ := ⟨⟨m, len, n, R⟩, L, w, G, S⟩
  have h7 := RT_7 R
  have h8 := RT_8 R
  have no : ∀ {r : Int32}, ∃ σ' r' ρ', some (σ, r) = some (σ', r') ∧ some (ρ, r) = some (ρ', r') ∧ INV σ' ρ' ∧ CF σ σ' ∧ RF ρ ρ' := fun {r} => ⟨σ, r, ρ, rfl, rfl, I, fun _ _ => rfl, fun _ _ => rfl⟩
  show ∃ σ' r ρ', F_X7_stubborn σ x = some (σ', r) ∧ F_X8_stubborn ρ x = some (ρ', r) ∧ _
  unfold F_X7_stubborn F_X8_stubborn
  have e0 : σ 1 0 = nI m := (RT_R R).1
  rw [e0, VS_m (RT_V R), ck_t _ (RT_b R)]
  rcases cart_x R x with ⟨h1, h2⟩ | ⟨c, hc, rfl, h1, h2⟩
  · rw [if_pos h1, h2, Option.bind_some, if_pos rfl]; exact no
  rw [if_neg h1, h2, Option.bind_some, if_neg i10, ix_nI (n := 7) (show c < 7 by omega) (by decide), Option.bind_some]
  by_cases hm : nI m = 0
  · rw [if_pos hm, if_pos hm]; exact no
  have hm0 : 0 < m := by
    rcases Nat.eq_zero_or_pos m with q | q
    · subst q; exact absurd rfl hm
    · exact q
  obtain ⟨ρ1, b1, b2, b3, b4, b5⟩ := open_k (MR_rf ρ) (RT_n R) h7 (KX_of (P := P0) (K2_rf (ρ 92)))
  obtain ⟨σ2, ρ2, v, c1, c2, -, c4, c5, c6, c7, -⟩ := run_k (RTS_tcpy R) b5 b3 hm0 (MC_tcpy (σ := σ) w) b2
  obtain ⟨ρ3, d1, d2, d3, d4, d5⟩ := open_k (P := P0) c7 (RT_n R) h7 (KX_of c5)
  have hk2 : K2 (upd (ρ2 94) (47 + 11 * c) 0) (stm ρ3 94 (47 + 11 * c) 0 94) := by
    intro j hj
    rw [stm_row]
    by_cases q : j = 47 + 11 * c
    · subst q; rw [upd_at, upd_at]
    · rw [upd_ne _ _ q, upd_ne _ _ q]; exact d4 j hj id
  obtain ⟨σ4, ρ4, v2, f1, f2, -, f4, f5, f6, f7, -⟩ := run_k (RTS_bk0 c4 hc) hk2 (BG_st d3 (by unfold st2; omega)) hm0 (MC_st c6 (by omega) (by omega)) (MR_st d2)
  obtain ⟨i1, i2, i3⟩ := INV_mind I f6 f7
  rw [if_neg hm, if_neg hm, c1, bd2_s, if_neg (cart_x2 c4 hc), Option.bind_some, f1, bd2_s, b1, Option.bind_some, c2, bd2_s, d1, Option.bind_some, puts3 (by omega), Option.bind_some, f2, bd2_s]
  exact ⟨_, _, _, rfl, rfl, i1, i2, i3⟩
theorem call_met (x y : Int32) : CALL (fun σ => F_X7_met σ x y) (fun σ => F_X8_met σ x y) := by
  intro σ ρ I
  obtain ⟨⟨m, len, n, R⟩, L, w, G, S⟩ := I
  have I : INV σ ρ := ⟨⟨m, len, n, R⟩, L, w, G, S⟩
  have h7 := RT_7 R
  have h8 := RT_8 R
  have no : ∀ {r : Int32}, ∃ σ' r' ρ', some (σ, r) = some (σ', r') ∧ some (ρ, r) = some (ρ', r') ∧ INV σ' ρ' ∧ CF σ σ' ∧ RF ρ ρ' := fun {r} => ⟨σ, r, ρ, rfl, rfl, I, fun _ _ => rfl, fun _ _ => rfl⟩
  show ∃ σ' r ρ', F_X7_met σ x y = some (σ', r) ∧ F_X8_met ρ x y = some (ρ', r) ∧ _
  unfold F_X7_met F_X8_met
  have e0 : σ 1 0 = nI m := (RT_R R).1
  rw [e0, VS_m (RT_V R), ck_t _ (RT_b R)]
  rcases cart_x R x with ⟨h1, h2⟩ | ⟨A, hA, rfl, h1, h2⟩
  · rw [if_pos h1, h2, Option.bind_some, if_pos rfl]; exact no
  rw [if_neg h1, h2, Option.bind_some, if_neg i10, ix_nI (n := 7) (show A < 7 by omega) (by decide), Option.bind_some]
  rcases cart_x R y with ⟨h3, h4⟩ | ⟨B, hB, rfl, h3, h4⟩
  · rw [if_pos h3, h4, Option.bind_some, if_pos rfl]; exact no
  rw [if_neg h3, h4, Option.bind_some, if_neg i10, ix_nI (n := 7) (show B < 7 by omega) (by decide), Option.bind_some]
  by_cases hne : nI A = nI B
  · rw [if_pos hne, if_pos hne]; exact no
  rw [if_neg hne, if_neg hne]
  by_cases hm : nI m = 0
  · rw [if_pos hm, if_pos hm]; exact no
  have hm0 : 0 < m := by
    rcases Nat.eq_zero_or_pos m with q | q
    · subst q; exact absurd rfl hm
    · exact q
  rw [if_neg hm, if_neg hm]
  unfold F_X6_watch
  obtain ⟨ρ1, g1, g2, g3, g4, g5, g6⟩ := opens_r (ρ := ρ) (RT_n R) h7
  have hA4 : ¬ nI A = -4 := nI_neN (by omega) (by decide)
  have cw0 : ∀ i, i ≠ 22 * 2 → stm (stm (stm (tcpy σ 2 0) (22 * 2) 8 (nI A)) (22 * 2) 9 (nI B)) (22 * 2) 10 (-4) i = tcpy σ 2 0 i := fun i hi => by rw [stm_ne _ _ _ hi, stm_ne _ _ _ hi, stm_ne _ _ _ hi]
  have cw1 : stm (stm (stm (tcpy σ 2 0) (22 * 2) 8 (nI A)) (22 * 2) 9 (nI B)) (22 * 2) 10 (-4) (22 * 2) = upd (upd (upd (tcpy σ 2 0 (22 * 2)) 8 (nI A)) 9 (nI B)) 10 (-4) := by rw [stm_row, stm_row, stm_row]
  have r94 : stm (stm ρ1 91 17 (nI A)) 91 18 (nI B) 94 = ρ1 94 := by rw [stm_ne _ _ _ (by omega), stm_ne _ _ _ (by omega)]
  have r91 : stm (stm ρ1 91 17 (nI A)) 91 18 (nI B) 91 = upd (upd (ρ1 91) 17 (nI A)) 18 (nI B) := by rw [stm_row, stm_row]
  have SW : RTS (stm (stm (stm (tcpy σ 2 0) (22 * 2) 8 (nI A)) (22 * 2) 9 (nI B)) (22 * 2) 10 (-4)) 2 (stm (stm ρ1 91 17 (nI A)) 91 18 (nI B) 94) m len n := by
    rw [r94]
    obtain ⟨V, hn', K, D, f2, W, hb⟩ := RTS_cg (RTS_tcpy R) g5
    refine ⟨V, hn', K, ?_, by rw [cw1]; simp (disch := omega) only [upd_ne]; exact f2, fun c hc => by rw [cw0 _ (by omega)]; exact W c hc, fun j hj b h1 h2 => by rw [cw0 _ (by omega)]; exact hb j hj b h1 h2⟩
    unfold RD at D ⊢
    rw [cw0 (22 * 2 + 1) (by omega), cw0 (22 * 2 + 2) (by omega), cw0 (22 * 2 + 3) (by omega), cw0 (22 * 2 + 4) (by omega), cw0 (22 * 2 + 5) (by omega), cw0 (22 * 2 + 6) (by omega), cw0 (22 * 2 + 7) (by omega), cw0 (22 * 2 + 8) (by omega), cw0 (22 * 2 + 9) (by omega), cw0 (22 * 2 + 10) (by omega), cw0 (22 * 2 + 11) (by omega), cw0 (22 * 2 + 12) (by omega)]
    exact D
  have WWt : WW (stm (stm (stm (tcpy σ 2 0) (22 * 2) 8 (nI A)) (22 * 2) 9 (nI B)) (22 * 2) 10 (-4)) (stm (stm ρ1 91 17 (nI A)) 91 18 (nI B)) 2 := by
    unfold WW
    rw [cw1, r91]
    simp (disch := omega) only [upd_ne, upd_at]
    exact Or.inr ⟨trivial, trivial, g4.2.2.symm, Or.inl g4.2.2⟩
  obtain ⟨σ', ρ', v, q1, q2, q3⟩ := run_p SW (by rw [r94]; exact g6) WWt hm0
  have MCt := MC_tcpy (σ := σ) w
  have ans : σ' 44 10 = ρ' 91 19 := by
    rcases q3.2.1 with ⟨z, -⟩ | ⟨-, -, z, -⟩
    · have z2 : σ' (22 * 2) 8 = nI A := by
        rw [q3.2.2.1.2.2.1, cw1]; simp (disch := omega) only [upd_ne, upd_at]
      exact absurd (z2.symm.trans z) hA4
    · exact z
  have mc : MC σ (stm (stm (stm σ' (22 * 2) 8 (-4)) (22 * 2) 9 (-4)) (22 * 2) 10 (-4)) := by
    refine ⟨fun i hi h84 => ?_, ?_, ?_⟩
    · rw [stm_ne _ _ _ (by omega), stm_ne _ _ _ (by omega), stm_ne _ _ _ (by omega), q3.2.2.1.1 i (by omega), cw0 i (by omega)]; exact MCt.1 i hi h84
    · show stm (stm (stm σ' (22 * 2) 8 (-4)) (22 * 2) 9 (-4)) (22 * 2) 10 (-4) (22 * 2) 8 = -4
      simp only [stm_row]
      simp (disch := omega) only [upd_ne, upd_at]
    · show stm (stm (stm σ' (22 * 2) 8 (-4)) (22 * 2) 9 (-4)) (22 * 2) 10 (-4) (22 * 2) 9 = -4
      simp only [stm_row]
      simp (disch := omega) only [upd_ne, upd_at]
  have mr : MR ρ ρ' := by
    refine ⟨fun i h1 h2 => ?_, ?_⟩
    · rw [q3.2.2.2.1.1 i h1 h2, stm_ne _ _ _ h2, stm_ne _ _ _ h2]; exact g2 i h1 h2
    · rw [q3.2.2.2.1.2 10 (by omega) (by omega), r91]
      simp (disch := omega) only [upd_ne]
      exact g3 10 (by omega) (by omega) (by omega)
  obtain ⟨i1, i2, i3⟩ := INV_mind I mc mr
  rw [Option.bind_some, q1, bd2_s, Option.bind_some, g1, Option.bind_some, q2, bd2_s, ans]
  exact ⟨_, _, _, rfl, rfl, i1, i2, i3⟩
end R3
