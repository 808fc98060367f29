/-! calls that change: backs, rule, go, anew, image, restore -/
section SE
variable {σ σ' ρ ρ' : Mem} {t a m n : Nat} {k k' : Nat → Int32} {len : Nat → Nat}
/-- what lies beside the traffic now stays -/
theorem INV_now (I : INV σ ρ) (hc : ∀ i, 22 ≤ i → σ' i = σ i) (hr : ∀ i, i ≠ 92 → i ≠ 91 → ρ' i = ρ i) (h91 : ρ' 91 10 = ρ 91 10) (R : RT σ' 0 (ρ' 92) m len n) (L : LZ σ' 0) (w8 : σ' 0 8 = σ 0 8) (w9 : σ' 0 9 = σ 0 9) : INV σ' ρ' := by
  obtain ⟨-, -, ⟨⟨w1, w2⟩, w3, w4⟩, G, S⟩ := I
  refine ⟨⟨m, len, n, R⟩, L, ⟨⟨w8.trans w1, w9.trans w2⟩, ?_⟩, IMG_cc G (fun i h1 _ => hc i h1) (hc 66 (by omega)) (hr 93 (by omega) (by omega)) h91, SH_cc S (fun i h1 _ => hc i (by omega)) (fun i h1 _ => hr i (by omega) (by omega))⟩
  rw [hc 44 (by omega)]
  exact ⟨w3, w4⟩
theorem RT_bks (R : RT σ t k m len n) {c b : Nat} (hc : c < n) (hb : b ≤ 3) : RT (stm σ (22 * t + 15 + c) 3 (nI b)) t (upd k (47 + 11 * c) (nI b)) m len n := by
  have h7 := RT_7 R
  obtain ⟨V, ⟨hn, -⟩, ⟨M, hM, eM⟩, K, D, ⟨f2, f3, f4, f5⟩, W, hbb, hon, hz⟩ := R
  have h1 : ∀ i, i ≠ 22 * t + 15 + c → stm σ (22 * t + 15 + c) 3 (nI b) i = σ i := fun i hi => stm_ne _ _ _ hi
  have h2 : ∀ j, j ≠ 47 + 11 * c → upd k (47 + 11 * c) (nI b) j = k j := fun j hj => upd_ne _ _ hj
  refine ⟨VS_cg V (fun j hj _ _ _ _ => h2 j (by omega)), ⟨(h2 1 (by omega)).trans hn, h7⟩, ⟨M, hM, (h2 2 (by omega)).trans eM⟩, fun j hj => ?_, ?_, ?_, fun j hj => ?_, fun j hj q hq12 hq4 => ?_, fun s hs => ?_, fun j hj => ?_⟩
  · obtain ⟨q1, q2, q3, q4, q5⟩ := K j hj
    refine ⟨?_, ?_, ?_, ?_, ?_⟩
    · rw [h2 (44 + 11 * j) (by omega)]; exact q1
    · rw [h2 (46 + 11 * j) (by omega)]; exact q2
    · by_cases e : j = c
      · subst e; exact ⟨b, hb, upd_at _ _ _⟩
      · rw [h2 (47 + 11 * j) (by omega)]; exact q3
    · rw [h2 (48 + 11 * j) (by omega)]; exact q4
    · rw [h2 (44 + 11 * j) (by omega), h2 (49 + 11 * j) (by omega)]; exact q5
  · have h8 := V.1.2
    obtain ⟨d1, d2, d3, d4, d5, d6, d7, d8⟩ := D
    refine ⟨?_, ?_, fun p hp => ?_, fun p hp hp2 => ?_, fun p hp => ?_, fun p x hp hx hx2 => ?_, fun p x hp hx hx2 => ?_, fun v hv => ?_⟩
    · rw [h1 (22 * t + 1) (by omega)]; exact d1
    · rw [h1 (22 * t + 1) (by omega)]; exact d2
    · rw [h1 (22 * t + 2) (by omega), h1 (22 * t + 3) (by omega), h1 (22 * t + 4) (by omega), h2 (14 + 3 * p) (by omega), h2 (15 + 3 * p) (by omega), h2 (16 + 3 * p) (by omega)]; exact d3 p hp
    · rw [h1 (22 * t + 5) (by omega), h2 (5 + p) (by omega)]; exact d4 p hp hp2
    · rw [h1 (22 * t + 6) (by omega), h1 (22 * t + 7) (by omega), h1 (22 * t + 9) (by omega), h1 (22 * t + 10) (by omega)]; exact d5 p hp
    · rw [h1 (22 * t + 7) (by omega), h1 (22 * t + 9) (by omega), h1 (22 * t + 10) (by omega)]; exact d6 p x hp hx hx2
    · rw [h1 (22 * t + 8) (by omega)]; exact d7 p x hp hx hx2
    · rw [h1 (22 * t + 11) (by omega), h1 (22 * t + 12) (by omega), h2 (38 + 2 * v) (by omega), h2 (39 + 2 * v) (by omega)]; exact d8 v hv
  · rw [h1 (22 * t) (by omega), h2 1 (by omega), h2 2 (by omega), h2 3 (by omega), h2 4 (by omega)]; exact ⟨f2, f3, f4, f5⟩
  · by_cases e : j = c
    · subst e
      obtain ⟨w1, ⟨w2, w3, w4, w5, w6⟩, w7⟩ := W j hj
      rw [stm_row]
      unfold CW
      simp (disch := omega) only [upd_at, upd_ne]
      exact ⟨w1, ⟨w2, w3, trivial, w5, w6⟩, w7⟩
    · have w := W j hj
      unfold CW at w ⊢
      rw [h1 (22 * t + 15 + j) (by omega), h2 (44 + 11 * j) (by omega), h2 (45 + 11 * j) (by omega), h2 (46 + 11 * j) (by omega), h2 (47 + 11 * j) (by omega), h2 (48 + 11 * j) (by omega), h2 (49 + 11 * j) (by omega), h2 (50 + 11 * j) (by omega), h2 (51 + 11 * j) (by omega), h2 (52 + 11 * j) (by omega), h2 (53 + 11 * j) (by omega), h2 (54 + 11 * j) (by omega)]
      exact w
  · by_cases e : j = c
    · subst e
      rw [stm_row, upd_ne _ _ (by omega)]; exact hbb j hj q hq12 hq4
    · rw [h1 (22 * t + 15 + j) (by omega)]; exact hbb j hj q hq12 hq4
  · rw [h1 (22 * t + 14) (by omega), hon s hs, occ_cg (fun i hi => ?_)]
    show (k (49 + 11 * i)).toInt = (upd k (47 + 11 * c) (nI b) (49 + 11 * i)).toInt
    rw [h2 (49 + 11 * i) (by omega)]
  · rw [h2 (49 + 11 * j) (by omega), h2 (51 + 11 * j) (by omega)]; exact hz j hj
theorem call_backs (x y : Int32) : CALL (fun σ => F_X7_backs σ x y) (fun σ => F_X8_backs σ x y) := by
  intro σ ρ I
  obtain ⟨⟨m, len, n, R⟩, L, w, G, S⟩ := I
  have I : INV σ ρ := ⟨⟨m, len, n, R⟩, L, w, G, S⟩
  have h7 := RT_7 R
  show ∃ σ' r ρ', F_X7_backs σ x y = some (σ', r) ∧ F_X8_backs ρ x y = some (ρ', r) ∧ _
  unfold F_X7_backs F_X8_backs
  rcases cart_x R x with ⟨h1, h2⟩ | ⟨c, hc, rfl, h1, h2⟩
  · rw [if_pos h1, h2, Option.bind_some, if_pos rfl]; exact ⟨σ, -1, ρ, rfl, rfl, I, fun _ _ => rfl, fun _ _ => rfl⟩
  · have c7 : c < 7 := by omega
    rw [if_neg h1, h2, Option.bind_some, if_neg i10, ix_nI c7 (by decide), Option.bind_some]
    rcases rng (x := y) 4 (by omega) with ⟨k1, k2, k3⟩ | ⟨b, hb, rfl, g1, g2, g3, g4⟩
    · rw [if_pos (show y < 0 ∨ (3 : Int32) < y from k2)]
      refine ⟨σ, -1, ρ, ?_, rfl, I, fun _ _ => rfl, fun _ _ => rfl⟩
      by_cases q : y < 0
      · rw [if_pos q]
      · have q2 : (3 : Int32) < y := k2.resolve_left q
        rw [if_neg q, if_neg (Int32.not_le.mpr q2)]
    · have g4' : ¬ (3 : Int32) < nI b := g4
      have e3 : σ (22 * 0 + 15 + c) 3 = ρ 92 (47 + 11 * c) := (RT_C R hc).2.1.2.2.1
      rw [if_neg g1, if_pos (Int32.not_lt.mp g4'), if_neg (show ¬ (nI b < 0 ∨ (3 : Int32) < nI b) from fun q => q.elim g1 g4'), get3 c7, Option.bind_some, puts3 c7, Option.bind_some, e3]
      refine ⟨_, _, _, rfl, rfl, INV_now (m := m) (len := len) (n := n) I (fun i hi => stm_ne _ _ _ (by omega)) (fun i h1 _ => stm_ne _ _ _ h1) (by rw [stm_ne _ _ _ (by omega)]) ?_ (fun j hj => ?_) (by rw [stm_ne _ _ _ (by omega)]) (by rw [stm_ne _ _ _ (by omega)]), fun i hi => stm_ne _ _ _ (by omega), fun i hi => stm_ne _ _ _ (by omega)⟩
      · rw [stm_row]; exact RT_bks R hc (by omega)
      · by_cases e : j = c
        · subst e; rw [stm_row, upd_ne _ _ (by omega)]; exact L j hj
        · rw [stm_ne _ _ _ (by omega)]; exact L j hj
theorem RT_rule (R : RT σ t k m len n) {v q f : Nat} (hv : v < 3) (hq : q < 8) (hf : f ≤ 9) (h1 : ∀ i, i ≠ 22 * t + 11 → i ≠ 22 * t + 12 → σ' i = σ i) (h11 : σ' (22 * t + 11) = upd (σ (22 * t + 11)) v (nI q)) (h12 : σ' (22 * t + 12) = upd (σ (22 * t + 12)) v (nI f)) (hk : k' = upd (upd k (38 + 2 * v) (nI q)) (39 + 2 * v) (nI f)) : RT σ' t k' m len n := by
  have h7 := RT_7 R
  obtain ⟨V, ⟨hn, -⟩, ⟨M, hM, eM⟩, K, D, ⟨f2, f3, f4, f5⟩, W, hbb, hon, hz⟩ := R
  have h8 := V.1.2
  have h2 : ∀ j, j ≠ 38 + 2 * v → j ≠ 39 + 2 * v → k' j = k j := fun j q1 q2 => by rw [hk, upd_ne _ _ q2, upd_ne _ _ q1]
  have e1 : k' (38 + 2 * v) = nI q := by rw [hk, upd_ne _ _ (by omega), upd_at]
  have e2 : k' (39 + 2 * v) = nI f := by rw [hk, upd_at]
  refine ⟨?_, ⟨(h2 1 (by omega) (by omega)).trans hn, h7⟩, ⟨M, hM, (h2 2 (by omega) (by omega)).trans eM⟩, fun j hj => ?_, ?_, ?_, fun j hj => ?_, fun j hj q hq12 hq4 => ?_, fun s hs => ?_, fun j hj => ?_⟩
  · obtain ⟨⟨v1, v2⟩, v3, v4, v5, v6, v7⟩ := V
    refine ⟨⟨(h2 0 (by omega) (by omega)).trans v1, v2⟩, fun p hp => (h2 _ (by omega) (by omega)).trans (v3 p hp), v4, fun p hp => ?_, fun p hp hp8 => ?_, fun w hw => ?_⟩
    · rw [h2 (15 + 3 * p) (by omega) (by omega), h2 (16 + 3 * p) (by omega) (by omega)]; exact v5 p hp
    · rw [h2 (5 + p) (by omega) (by omega)]; exact v6 p hp hp8
    · by_cases e : w = v
      · subst e
        rw [e1, e2, nI_toInt (by omega), nI_toInt (by omega)]; omega
      · rw [h2 (38 + 2 * w) (by omega) (by omega), h2 (39 + 2 * w) (by omega) (by omega)]; exact v7 w hw
  · have q := K j hj
    unfold KO at q ⊢
    rw [h2 (44 + 11 * j) (by omega) (by omega), h2 (46 + 11 * j) (by omega) (by omega), h2 (47 + 11 * j) (by omega) (by omega), h2 (48 + 11 * j) (by omega) (by omega), h2 (49 + 11 * j) (by omega) (by omega)]
    exact q
  · obtain ⟨d1, d2, d3, d4, d5, d6, d7, d8⟩ := D
    refine ⟨?_, ?_, fun p hp => ?_, fun p hp hp2 => ?_, fun p hp => ?_, fun p x hp hx hx2 => ?_, fun p x hp hx hx2 => ?_, fun w hw => ?_⟩
    · rw [h1 (22 * t + 1) (by omega) (by omega)]; exact d1
    · rw [h1 (22 * t + 1) (by omega) (by omega)]; exact d2
    · rw [h1 (22 * t + 2) (by omega) (by omega), h1 (22 * t + 3) (by omega) (by omega), h1 (22 * t + 4) (by omega) (by omega), h2 (14 + 3 * p) (by omega) (by omega), h2 (15 + 3 * p) (by omega) (by omega), h2 (16 + 3 * p) (by omega) (by omega)]; exact d3 p hp
    · rw [h1 (22 * t + 5) (by omega) (by omega), h2 (5 + p) (by omega) (by omega)]; exact d4 p hp hp2
    · rw [h1 (22 * t + 6) (by omega) (by omega), h1 (22 * t + 7) (by omega) (by omega), h1 (22 * t + 9) (by omega) (by omega), h1 (22 * t + 10) (by omega) (by omega)]; exact d5 p hp
    · rw [h1 (22 * t + 7) (by omega) (by omega), h1 (22 * t + 9) (by omega) (by omega), h1 (22 * t + 10) (by omega) (by omega)]; exact d6 p x hp hx hx2
    · rw [h1 (22 * t + 8) (by omega) (by omega)]; exact d7 p x hp hx hx2
    · rw [h11, h12]
      by_cases e : w = v
      · subst e
        rw [upd_at, upd_at, e1, e2]; exact ⟨rfl, rfl⟩
      · rw [upd_ne _ _ e, upd_ne _ _ e, h2 (38 + 2 * w) (by omega) (by omega), h2 (39 + 2 * w) (by omega) (by omega)]; exact d8 w hw
  · rw [h1 (22 * t) (by omega) (by omega), h2 1 (by omega) (by omega), h2 2 (by omega) (by omega), h2 3 (by omega) (by omega), h2 4 (by omega) (by omega)]; exact ⟨f2, f3, f4, f5⟩
  · have w := W j hj
    unfold CW at w ⊢
    rw [h1 (22 * t + 15 + j) (by omega) (by omega), h2 (44 + 11 * j) (by omega) (by omega), h2 (45 + 11 * j) (by omega) (by omega), h2 (46 + 11 * j) (by omega) (by omega), h2 (47 + 11 * j) (by omega) (by omega), h2 (48 + 11 * j) (by omega) (by omega), h2 (49 + 11 * j) (by omega) (by omega), h2 (50 + 11 * j) (by omega) (by omega), h2 (51 + 11 * j) (by omega) (by omega), h2 (52 + 11 * j) (by omega) (by omega), h2 (53 + 11 * j) (by omega) (by omega), h2 (54 + 11 * j) (by omega) (by omega)]
    exact w
  · rw [h1 (22 * t + 15 + j) (by omega) (by omega)]; exact hbb j hj q hq12 hq4
  · rw [h1 (22 * t + 14) (by omega) (by omega), hon s hs, occ_cg (fun i hi => ?_)]
    show (k (49 + 11 * i)).toInt = (k' (49 + 11 * i)).toInt
    rw [h2 (49 + 11 * i) (by omega) (by omega)]
  · rw [h2 (49 + 11 * j) (by omega) (by omega), h2 (51 + 11 * j) (by omega) (by omega)]; exact hz j hj
/-- tellRule of the class where all is in range -/
theorem tellRule_c {v q f : Nat} (hv : v < 3) (hq : q < 8) (hf : f ≤ 9) : F_X4_tellRule σ t (nI v) (nI q) (nI f) = some (stm (stm σ (22 * t + 11) v (nI q)) (22 * t + 12) v (nI f), 1) := by
  unfold F_X4_tellRule
  rw [if_neg (nI_pos (by omega)), if_neg (show ¬ (3 : Int32) ≤ nI v from nI_ge (a := v) (b := 3) hv (by decide)), if_neg (nI_pos (by omega)), if_pos (show nI q < (8 : Int32) from nI_lt (a := q) (b := 8) hq (by decide)), if_neg (nI_pos (by omega)), if_pos (show nI f ≤ (9 : Int32) from nI_le (a := f) (b := 9) hf (by decide)), ix_nI hv (by decide), Option.bind_some, Option.bind_some]
theorem call_rule (x y : Int32) : CALL (fun σ => F_X7_rule σ x y) (fun σ => F_X8_rule σ x y) := by
  intro σ ρ I
  obtain ⟨⟨m, len, n, R⟩, L, w, G, S⟩ := I
  have I : INV σ ρ := ⟨⟨m, len, n, R⟩, L, w, G, S⟩
  show ∃ σ' r ρ', F_X7_rule σ x y = some (σ', r) ∧ F_X8_rule ρ x y = some (ρ', r) ∧ _
  unfold F_X7_rule F_X8_rule F_X8_wrongRule
  rcases shelf_x (ρ := ρ) x with ⟨h1, h2⟩ | ⟨d, hd, rfl, h1, h2⟩
  · rw [if_pos h1, h2, Option.bind_some, if_pos rfl]; exact ⟨σ, -1, ρ, rfl, rfl, I, fun _ _ => rfl, fun _ _ => rfl⟩
  obtain ⟨⟨s1, s2⟩, s3, -, -, -⟩ := S d hd
  rw [if_neg h1, h2, Option.bind_some, if_neg i10, ix_nI hd (by decide), Option.bind_some]
  rcases vill_x (ρ := ρ) y with ⟨h5, h6⟩ | ⟨v, hv, rfl, h5, h5', h6⟩
  · rw [h6, Option.bind_some, if_pos rfl]
    refine ⟨σ, -1, ρ, ?_, rfl, I, fun _ _ => rfl, fun _ _ => rfl⟩
    by_cases q : y < 0
    · rw [if_pos q]
    · rw [if_neg q, if_neg (h5 q)]
  rw [h6, Option.bind_some, if_neg i10, if_neg h5, if_pos h5', s1, Option.bind_some, if_neg i10, Option.bind_some, Option.bind_some]
  rcases s2 with q | q | q <;> rw [q]
  · exact ⟨σ, -11, ρ, rfl, rfl, I, fun _ _ => rfl, fun _ _ => rfl⟩
  · obtain ⟨t1, t2, ⟨q8, hq8, eq8⟩, ⟨f, hf, ef⟩⟩ := s3 q
    rw [if_neg i10, if_pos rfl, if_neg i10, if_pos rfl, Option.bind_some, if_pos rfl, t1, t2, ix38 hv, ix39 hv, eq8, ef, tellRule_c hv hq8 hf]
    simp only [obs, bd2_s]
    have c1 : stm (stm σ (22 * 0 + 11) v (nI q8)) (22 * 0 + 12) v (nI f) (68 + d) 1 = nI q8 := by rw [stm_ne _ _ _ (by omega), stm_ne _ _ _ (by omega), t1, eq8]
    have r1 : stm ρ 92 (38 + 2 * v) (ρ 100 d) 101 d = nI f := by rw [stm_ne _ _ _ (by omega)]; exact ef
    have r2 : ∀ z1 z2, stm (stm ρ 92 (38 + 2 * v) z1) 92 (39 + 2 * v) z2 100 d = nI q8 := fun z1 z2 => by rw [stm_ne _ _ _ (by omega), stm_ne _ _ _ (by omega)]; exact eq8
    rw [c1, r1, r2, eq8]
    refine ⟨_, _, _, rfl, rfl, INV_now (m := m) (len := len) (n := n) I (fun i hi => by rw [stm_ne _ _ _ (by omega), stm_ne _ _ _ (by omega)]) (fun i h1 _ => by rw [stm_ne _ _ _ h1, stm_ne _ _ _ h1]) (by rw [stm_ne _ _ _ (by omega), stm_ne _ _ _ (by omega)]) ?_ (fun j hj => ?_) (by rw [stm_ne _ _ _ (by omega), stm_ne _ _ _ (by omega)]) (by rw [stm_ne _ _ _ (by omega), stm_ne _ _ _ (by omega)]), fun i hi => by rw [stm_ne _ _ _ (by omega), stm_ne _ _ _ (by omega)], fun i hi => by rw [stm_ne _ _ _ (by omega), stm_ne _ _ _ (by omega)]⟩
    · refine RT_rule R hv hq8 hf (fun i i1 i2 => by rw [stm_ne _ _ _ i2, stm_ne _ _ _ i1]) (by rw [stm_ne _ _ _ (by omega), stm_row]) (by rw [stm_row, stm_ne _ _ _ (by omega)]) (by rw [stm_row, stm_row])
    · rw [stm_ne _ _ _ (by omega), stm_ne _ _ _ (by omega)]; exact L j hj
  · exact ⟨σ, -12, ρ, rfl, rfl, I, fun _ _ => rfl, fun _ _ => rfl⟩
theorem INV_MST (I : INV σ ρ) (h : MST σ ρ σ' ρ' 0 92 m len n) : INV σ' ρ' ∧ CF σ σ' ∧ RF ρ ρ' := by
  obtain ⟨R, -, ⟨c1, c2, c3, c4⟩, ⟨r1, r2⟩, -⟩ := h
  refine ⟨INV_now I (fun i hi => c1 i (by omega)) (fun i h1 h2 => r1 i h1 h2) (r2 10 (by omega) (by omega)) R (fun j hj => (c2 j hj).trans (I.2.1 j hj)) c3 c4, fun i hi => c1 i (by omega), fun i hi => r1 i (by omega) (by omega)⟩
theorem isEmpty_p (R : RT σ 0 (ρ 92) m len n) : ∃ b, F_X7_cannotRun σ = some (bI b) ∧ F_X8_isEmpty ρ = some (bI b) ∧ (b = false → 0 < m ∧ 0 < n) := by
  have h7 := RT_7 R
  have h8 := RT_8 R
  have e0 : σ 1 0 = nI m := (RT_R R).1
  have e2 : σ 0 2 = nI n := RT_2 R
  unfold F_X7_cannotRun F_X8_isEmpty
  rw [e0, e2, VS_m (RT_V R), RT_n R]
  by_cases k1 : nI m = 0
  · rw [if_pos k1]; exact ⟨true, rfl, rfl, nofun⟩
  · rw [if_neg k1]
    by_cases k2 : nI n = 0
    · rw [if_pos k2]; exact ⟨true, rfl, rfl, nofun⟩
    · rw [if_neg k2]
      refine ⟨false, rfl, rfl, fun _ => ⟨?_, ?_⟩⟩
      · rcases Nat.eq_zero_or_pos m with q | q
        · subst q; exact absurd rfl k1
        · exact q
      · rcases Nat.eq_zero_or_pos n with q | q
        · subst q; exact absurd rfl k2
        · exact q
theorem call_go (x : Int32) : CALL (fun σ => F_X7_go σ x) (fun σ => F_X8_go σ x) := by
  intro σ ρ I
  obtain ⟨⟨m, len, n, R⟩, L, w, G, S⟩ := I
  have I : INV σ ρ := ⟨⟨m, len, n, R⟩, L, w, G, S⟩
  show ∃ σ' r ρ', F_X7_go σ x = some (σ', r) ∧ F_X8_go ρ x = some (ρ', r) ∧ _
  obtain ⟨b, e1, e2, e3⟩ := isEmpty_p R
  obtain ⟨be, d1, d2, d3⟩ := isEnded_p R
  unfold F_X7_go F_X8_go
  rw [e1, e2, d1, d2]
  simp only [obs]
  by_cases k1 : x < 1
  · rw [if_pos k1, if_pos (Or.inl k1)]; exact ⟨σ, -1, ρ, rfl, rfl, I, fun _ _ => rfl, fun _ _ => rfl⟩
  by_cases k2 : x ≤ 200
  · rw [if_neg k1, if_pos k2, if_neg (show ¬ (x < 1 ∨ (200 : Int32) < x) from fun q => q.elim k1 (fun q => absurd k2 (Int32.not_le.mpr q)))]
    cases b with
    | true => rw [bI_t, if_neg i10, if_neg i10]; exact ⟨σ, -3, ρ, rfl, rfl, I, fun _ _ => rfl, fun _ _ => rfl⟩
    | false =>
      rw [bI_f, if_pos rfl, if_pos rfl]
      cases be with
      | true => rw [bI_t, if_neg i10, if_neg i10]; exact ⟨σ, -3, ρ, rfl, rfl, I, fun _ _ => rfl, fun _ _ => rfl⟩
      | false =>
        rw [bI_f, if_pos rfl, if_pos rfl]
        obtain ⟨σ', ρ', v, q1, q2, q3⟩ := go_l (x := x) 201 FU FU 0 σ ρ R (Or.inl w.1) (e3 rfl).1 (by omega) k2 (by decide) (by decide)
        obtain ⟨i1, i2, i3⟩ := INV_MST I q3
        exact ⟨σ', v, ρ', q1, q2, i1, i2, i3⟩
  · rw [if_neg k1, if_neg k2, if_pos (Or.inr (Int32.not_le.mp k2))]; exact ⟨σ, -1, ρ, rfl, rfl, I, fun _ _ => rfl, fun _ _ => rfl⟩
theorem call_anew : CALL (fun σ => F_X7_anew σ) (fun σ => F_X8_anew σ) := by
  intro σ ρ I
  obtain ⟨⟨m, len, n, R⟩, L, w, G, S⟩ := I
  have I : INV σ ρ := ⟨⟨m, len, n, R⟩, L, w, G, S⟩
  show ∃ σ' r ρ', F_X7_anew σ = some (σ', r) ∧ F_X8_anew ρ = some (ρ', r) ∧ _
  obtain ⟨ρ', g1, g2, g3, g4⟩ := anews_r (ρ := ρ) (a := 92) (RT_n R) (RT_7 R)
  have R' : RT (tbeg σ 0) 0 (ρ' 92) m len n := tbeg_p (RTS_cg (RTS_of R) g3) g4
  have c := FrC_tbeg (σ := σ) (t := 0)
  unfold F_X7_anew F_X8_anew
  rw [g1, Option.bind_some, show tbeg σ 0 0 2 = nI n from RT_2 (σ := tbeg σ 0) (t := 0) R', RT_n R']
  exact ⟨_, _, _, rfl, rfl, INV_now I (fun i hi => c.1 i (by omega)) (fun i h1 _ => g2 i h1) (by rw [g2 91 (by omega)]) R' (fun j hj => (c.2.1 j hj).trans (L j hj)) c.2.2.1 c.2.2.2, fun i hi => c.1 i (by omega), fun i hi => g2 i (by omega)⟩
theorem image_l {m n : Nat} : ∀ (d j nn : Nat) (ρ : Mem), j + d = 121 → d < nn → (∀ q, q < j → ρ 93 q = ρ 92 q) → ∃ ρ' : Mem, F_X8_image_2 nn ρ (nI j) = some (ρ', ρ 92 2) ∧ (∀ i, i ≠ 93 → i ≠ 91 → ρ' i = ρ i) ∧ (∀ j, j ≠ 10 → ρ' 91 j = ρ 91 j) ∧ ρ' 91 10 = 1 ∧ ∀ q, q < 121 → ρ' 93 q = ρ 92 q := by
  intro d
  induction d with
  | zero =>
    intro j nn ρ e1 e2 hq
    obtain rfl : j = 121 := by omega
    obtain ⟨nn, rfl⟩ : ∃ j, nn = j + 1 := ⟨nn - 1, by omega⟩
    rw [F_X8_image_2, if_pos (show (121 : Int32) ≤ nI 121 by decide)]
    exact ⟨_, by rw [stm_ne _ _ _ (by omega)], fun i _ h2 => stm_ne _ _ _ h2, fun j h => by rw [stm_row, upd_ne _ _ h], by rw [stm_row, upd_at], fun q h => by rw [stm_ne _ _ _ (by omega)]; exact hq q h⟩
  | succ d ih =>
    intro j nn ρ e1 e2 hq
    obtain ⟨nn, rfl⟩ : ∃ j, nn = j + 1 := ⟨nn - 1, by omega⟩
    have e92 : stm ρ 93 j (ρ 92 j) 92 = ρ 92 := stm_ne _ _ _ (by omega)
    obtain ⟨ρ', i1, i2, i3, i4, i5⟩ := ih (j + 1) nn (stm ρ 93 j (ρ 92 j)) (by omega) (by omega) (fun q hq2 => by
      rw [e92, stm_row]
      by_cases e : q = j
      · subst e; rw [upd_at]
      · rw [upd_ne _ _ e]; exact hq q (by omega))
    rw [F_X8_image_2, if_neg (show ¬ (121 : Int32) ≤ nI j from nI_ge (a := j) (b := 121) (by omega) (by decide)), ix_nI (by omega) (by decide), Option.bind_some, Option.bind_some, nI_1]
    rw [e92] at i1 i5
    exact ⟨ρ', i1, fun i h1 h2 => by rw [i2 i h1 h2, stm_ne _ _ _ h1], fun q h => by rw [i3 q h, stm_ne _ _ _ (by omega)], i4, i5⟩
theorem restore_l : ∀ (d j nn : Nat) (ρ : Mem), j + d = 121 → d < nn → (∀ q, q < j → ρ 92 q = ρ 93 q) → ∃ ρ' : Mem, F_X8_restore_12 nn ρ (nI j) = some (ρ', ρ' 92 2) ∧ (∀ i, i ≠ 92 → ρ' i = ρ i) ∧ ∀ q, q < 121 → ρ' 92 q = ρ 93 q := by
  intro d
  induction d with
  | zero =>
    intro j nn ρ e1 e2 hq
    obtain rfl : j = 121 := by omega
    obtain ⟨nn, rfl⟩ : ∃ j, nn = j + 1 := ⟨nn - 1, by omega⟩
    rw [F_X8_restore_12, if_pos (show (121 : Int32) ≤ nI 121 by decide)]
    exact ⟨ρ, rfl, fun _ _ => rfl, hq⟩
  | succ d ih =>
    intro j nn ρ e1 e2 hq
    obtain ⟨nn, rfl⟩ : ∃ j, nn = j + 1 := ⟨nn - 1, by omega⟩
    have e93 : stm ρ 92 j (ρ 93 j) 93 = ρ 93 := stm_ne _ _ _ (by omega)
    obtain ⟨ρ', i1, i2, i3⟩ := ih (j + 1) nn (stm ρ 92 j (ρ 93 j)) (by omega) (by omega) (fun q hq2 => by
      rw [e93, stm_row]
      by_cases e : q = j
      · subst e; rw [upd_at]
      · rw [upd_ne _ _ e]; exact hq q (by omega))
    rw [F_X8_restore_12, if_neg (show ¬ (121 : Int32) ≤ nI j from nI_ge (a := j) (b := 121) (by omega) (by decide)), ix_nI (by omega) (by decide), Option.bind_some, Option.bind_some, nI_1]
    rw [e93] at i3
    exact ⟨ρ', i1, fun i h1 => by rw [i2 i h1, stm_ne _ _ _ h1], i3⟩
/-- a row of the same 121 cells is as good -/
theorem RT_121 (R : RT σ t k m len n) (h : ∀ q, q < 121 → k' q = k q) : RT σ t k' m len n := by
  have h7 := RT_7 R
  obtain ⟨V, ⟨hn, -⟩, ⟨M, hM, eM⟩, K, D, f, W, hbb, hon, hz⟩ := R
  have h8 := V.1.2
  refine ⟨VS_cg V (fun j hj _ _ _ _ => h j (by omega)), ⟨(h 1 (by omega)).trans hn, h7⟩, ⟨M, hM, (h 2 (by omega)).trans eM⟩, fun j hj => ?_, ?_, by rw [h 1 (by omega), h 2 (by omega), h 3 (by omega), h 4 (by omega)]; exact f, fun j hj => ?_, hbb, fun s hs => ?_, fun j hj => ?_⟩
  · have q := K j hj
    unfold KO at q ⊢
    rw [h (44 + 11 * j) (by omega), h (46 + 11 * j) (by omega), h (47 + 11 * j) (by omega), h (48 + 11 * j) (by omega), h (49 + 11 * j) (by omega)]
    exact q
  · obtain ⟨d1, d2, d3, d4, d5, d6, d7, d8⟩ := D
    refine ⟨d1, d2, fun p hp => ?_, fun p hp hp2 => ?_, d5, d6, d7, fun v hv => ?_⟩
    · rw [h (14 + 3 * p) (by omega), h (15 + 3 * p) (by omega), h (16 + 3 * p) (by omega)]; exact d3 p hp
    · rw [h (5 + p) (by omega)]; exact d4 p hp hp2
    · rw [h (38 + 2 * v) (by omega), h (39 + 2 * v) (by omega)]; exact d8 v hv
  · have w := W j hj
    unfold CW at w ⊢
    rw [h (44 + 11 * j) (by omega), h (45 + 11 * j) (by omega), h (46 + 11 * j) (by omega), h (47 + 11 * j) (by omega), h (48 + 11 * j) (by omega), h (49 + 11 * j) (by omega), h (50 + 11 * j) (by omega), h (51 + 11 * j) (by omega), h (52 + 11 * j) (by omega), h (53 + 11 * j) (by omega), h (54 + 11 * j) (by omega)]
    exact w
  · rw [hon s hs, occ_cg (fun i hi => ?_)]
    show (k (49 + 11 * i)).toInt = (k' (49 + 11 * i)).toInt
    rw [h (49 + 11 * i) (by omega)]
  · rw [h (49 + 11 * j) (by omega), h (51 + 11 * j) (by omega)]; exact hz j hj
theorem call_image : CALL (fun σ => F_X7_image σ) (fun σ => F_X8_image σ) := by
  intro σ ρ I
  obtain ⟨⟨m, len, n, R⟩, L, w, G, S⟩ := I
  show ∃ σ' r ρ', F_X7_image σ = some (σ', r) ∧ F_X8_image ρ = some (ρ', r) ∧ _
  obtain ⟨ρ', g1, g2, g3, g4, g5⟩ := image_l (m := m) (n := n) 121 0 FU ρ (by omega) (by decide) (fun q hq => absurd hq (Nat.not_lt_zero _))
  have g1' : F_X8_image ρ = some (ρ', ρ 92 2) := g1
  unfold F_X7_image
  have hc : ∀ i, i < 22 ∨ 44 ≤ i → i ≠ 66 → stm (tcpy σ 1 0) 66 3 1 i = σ i := fun i hi h66 => by rw [stm_ne _ _ _ h66, tcpy_ne σ (by omega)]
  have h66 : stm (tcpy σ 1 0) 66 3 1 66 3 = 1 := by rw [stm_row, upd_at]
  rw [ck_t _ (RT_b R), g1', hc 0 (by omega) (by omega), show σ 0 3 = ρ 92 2 from RT_3 R]
  refine ⟨_, _, _, rfl, rfl, ⟨⟨m, len, n, ?_⟩, LZ_cc L (fun i h1 h2 => hc i (by omega) (by omega)), ?_, Or.inr ⟨h66, g4, m, len, n, ?_, ?_⟩, SH_cc S (fun i h1 h2 => hc i (by omega) (by omega)) (fun i h1 h2 => g2 i (by omega) (by omega))⟩, fun i hi => hc i (by omega) (by omega), fun i hi => g2 i (by omega) (by omega)⟩
  · rw [g2 92 (by omega) (by omega)]
    exact RT_cc R (fun i h1 h2 => hc i (by omega) (by omega))
  · unfold WN
    rw [hc 0 (by omega) (by omega), hc 44 (by omega) (by omega)]; exact w
  · refine RT_121 (k := ρ 92) ?_ g5
    refine RT_cc (RT_cpy (t := 1) R (by omega)) (fun i h1 h2 => stm_ne _ _ _ (by omega))
  · intro j hj
    rw [stm_ne _ _ _ (by omega), tcpy_c (by omega) hj (by omega)]; exact L j hj
theorem call_restore : CALL (fun σ => F_X7_restore σ) (fun σ => F_X8_restore σ) := by
  intro σ ρ I
  obtain ⟨⟨m, len, n, R⟩, L, w, G, S⟩ := I
  have I : INV σ ρ := ⟨⟨m, len, n, R⟩, L, w, G, S⟩
  show ∃ σ' r ρ', F_X7_restore σ = some (σ', r) ∧ F_X8_restore ρ = some (ρ', r) ∧ _
  unfold F_X7_restore F_X8_restore
  rcases G with ⟨i1, i2⟩ | ⟨i1, i2, m1, len1, n1, R1, L1⟩
  · rw [i1, i2, if_pos rfl, if_pos rfl]; exact ⟨σ, -3, ρ, rfl, rfl, I, fun _ _ => rfl, fun _ _ => rfl⟩
  · obtain ⟨ρ', g1, g2, g3⟩ := restore_l 121 0 FU ρ (by omega) (by decide) (fun q hq => absurd hq (Nat.not_lt_zero _))
    have g1' : F_X8_restore_12 FU ρ 0 = some (ρ', ρ' 92 2) := g1
    have R' : RT (tcpy σ 0 1) 0 (ρ' 92) m1 len1 n1 := RT_121 (RT_cpy (t := 0) R1 (by omega)) g3
    have hc : ∀ i, 22 ≤ i → tcpy σ 0 1 i = σ i := fun i hi => tcpy_ne σ (by omega)
    have e0 : tcpy σ 0 1 0 = upd (upd (upd (upd (σ 0) 2 (σ 22 2)) 3 (σ 22 3)) 4 (σ 22 4)) 5 (σ 22 5) := tcpy_0 (t := 0) (u := 1) (by omega)
    rw [i1, i2, if_neg i10, if_neg i10, ck_t _ (RT_b R1), g1', show tcpy σ 0 1 0 3 = ρ' 92 2 from RT_3 (σ := tcpy σ 0 1) (t := 0) R']
    refine ⟨_, _, _, rfl, rfl, INV_now I hc (fun i h1 _ => g2 i h1) (by rw [g2 91 (by omega)]) R' (fun j hj => ?_) ?_ ?_, fun i hi => hc i (by omega), fun i hi => g2 i (by omega)⟩
    · rw [tcpy_c (by omega) hj (by omega)]; exact L1 j hj
    · rw [e0]; simp (disch := omega) only [upd_ne]
    · rw [e0]; simp (disch := omega) only [upd_ne]
end SE
