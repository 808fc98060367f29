/-! a cart that backs: class and reference -/
section GB
variable {σ ρ : Mem} {t a m n : Nat} {len : Nat → Nat}
theorem spotBehind_c {i : Nat} : F_X0_spotBehind σ i = if σ i 0 = 0 then some (σ i 6 + 1) else some (σ i 6 - 1) := rfl
theorem beg_c {i : Nat} : F_X0_beginBacking σ i = some (stm (stm σ i 7 1) i 8 0) := rfl
theorem CW_bk {r k : Nat → Int32} {c : Nat} (h : CW r k c) : (k (50 + 11 * c) ≤ 0 ∧ k (50 + 11 * c) = 0 ∧ r 7 = 0) ∨ (¬ k (50 + 11 * c) ≤ 0 ∧ ¬ k (50 + 11 * c) = 0 ∧ r 7 = 1 ∧ (k (50 + 11 * c) = 2 ∧ r 8 = 1 ∨ ¬ k (50 + 11 * c) = 2 ∧ r 8 = 0)) := by
  rcases h.2.2.2.1 with ⟨h1, h2⟩ | ⟨h1, h2, h3⟩ | ⟨h1, h2, h3⟩
  · exact Or.inl ⟨by rw [h1]; decide, h1, h2⟩
  · exact Or.inr ⟨by rw [h1]; decide, by rw [h1]; decide, h2, Or.inr ⟨by rw [h1]; decide, h3⟩⟩
  · exact Or.inr ⟨by rw [h1]; decide, by rw [h1]; decide, h2, Or.inl ⟨h1, h3⟩⟩
/-- the search for one behind -/
theorem behind_l (R : RT σ t (ρ a) m len n) {ρ1 : Mem} {c x y : Nat} {w : Int32} (hc : c < n) (h1 : ∀ j, j ≠ 53 + 11 * c → ρ1 a j = ρ a j) (hw : ρ a (44 + 11 * c) = w) (hy : nI x - w = nI y) : ∀ (d j nn nn2 : Nat), j + d = n → d < nn → d < nn2 →
    (F_X6_letOneBehindBack_2 t (22 * t + 15 + c) (nI y) nn σ (nI j) = some σ ∧ F_X8_goesBack_137 a (nI c) nn2 ρ1 (nI j) w (nI x) = some ρ1 ∧ F_X8_goesBack_137b a (nI c) nn2 ρ1 (nI j) w (nI x) = some ρ1) ∨
    ∃ o, o < n ∧ F_X6_letOneBehindBack_2 t (22 * t + 15 + c) (nI y) nn σ (nI j) = some (stm (stm σ (22 * t + 15 + o) 7 1) (22 * t + 15 + o) 8 0) ∧ F_X8_goesBack_137 a (nI c) nn2 ρ1 (nI j) w (nI x) = some (stm ρ1 a (50 + 11 * o) 1) ∧ F_X8_goesBack_137b a (nI c) nn2 ρ1 (nI j) w (nI x) = some (stm ρ1 a (50 + 11 * o) 1) := by
  have h7 := RT_7 R
  have hn : ρ1 a 1 = nI n := (h1 1 (by omega)).trans (RT_n R)
  intro d
  induction d with
  | zero =>
    intro j nn nn2 e1 e2 e3
    obtain rfl : j = n := by omega
    obtain ⟨nn, rfl⟩ : ∃ j, nn = j + 1 := ⟨nn - 1, by omega⟩
    obtain ⟨nn2, rfl⟩ : ∃ j, nn2 = j + 1 := ⟨nn2 - 1, by omega⟩
    refine Or.inl ⟨?_, ?_, ?_⟩
    · rw [F_X6_letOneBehindBack_2, RT_2 R, if_pos (nI_le (Nat.le_refl _) (by omega))]
    · rw [F_X8_goesBack_137, hn, if_pos (nI_le (Nat.le_refl _) (by omega))]
    · rw [F_X8_goesBack_137b, hn, if_pos (nI_le (Nat.le_refl _) (by omega))]
  | succ d ih =>
    intro j nn nn2 e1 e2 e3
    obtain ⟨nn, rfl⟩ : ∃ j, nn = j + 1 := ⟨nn - 1, by omega⟩
    obtain ⟨nn2, rfl⟩ : ∃ j, nn2 = j + 1 := ⟨nn2 - 1, by omega⟩
    have I := ih (j + 1) nn nn2 (by omega) (by omega) (by omega)
    have jn : ¬ nI n ≤ nI j := nI_ge (by omega) (by omega)
    have C := RT_C R (show j < n by omega)
    have Cc := RT_C R hc
    have ix := ix_nI (n := 7) (show j < 7 by omega) (by decide)
    have g5 : F_X8_get ρ1 a (nI j) 5 = some (ρ a (49 + 11 * j)) := by rw [get5 (by omega), h1 _ (by omega)]
    have g0 : F_X8_get ρ1 a (nI j) 0 = some (ρ a (44 + 11 * j)) := by rw [get0 (by omega), h1 _ (by omega)]
    have g3 : F_X8_get ρ1 a (nI j) 3 = some (ρ a (47 + 11 * j)) := by rw [get3 (by omega), h1 _ (by omega)]
    have g6 : F_X8_get ρ1 a (nI j) 6 = some (ρ a (50 + 11 * j)) := by rw [get6 (by omega), h1 _ (by omega)]
    have c6 := C.2.2.1
    have c3 := C.2.1.2.2.1
    have bb : F_X8_backs_ ρ1 a (nI j) = some (stm ρ1 a (50 + 11 * j) 1) := by
      unfold F_X8_backs_
      rw [puts6 (by omega), Option.bind_some]
    have cw : σ (22 * t + 15 + j) 0 = σ (22 * t + 15 + c) 0 ↔ ρ a (44 + 11 * j) = w := by
      rcases C.1 with ⟨q1, q2⟩ | ⟨q1, q2⟩ <;> rcases Cc.1 with ⟨q3, q4⟩ | ⟨q3, q4⟩ <;> rw [q1, q2, q4, ← hw, q3] <;> decide
    rw [F_X6_letOneBehindBack_2, F_X8_goesBack_137, F_X8_goesBack_137b]
    simp only [RT_2 R, hn, jn, if_false, ix, obs, g5, hy, c6, nI_1]
    by_cases k1 : ρ a (49 + 11 * j) = nI y
    · simp only [k1, if_true, g0, obs]
      by_cases k2 : ρ a (44 + 11 * j) = w
      · have k2' := cw.mpr k2
        simp only [k2, k2', if_true, g3, c3, obs]
        by_cases k3 : ρ a (47 + 11 * j) = 0
        · simp only [k3, if_true]
          exact I
        · simp only [k3, if_false, g6, obs]
          rcases CW_bk C with ⟨b1, b2, b3⟩ | ⟨b1, b2, b3, -⟩
          · simp only [b2, b3, if_true, beg_c, bb, obs]
            exact Or.inr ⟨j, by omega, rfl, rfl, rfl⟩
          · simp only [b1, b3, i10, if_false]
            exact I
      · have k2' : ¬ σ (22 * t + 15 + j) 0 = σ (22 * t + 15 + c) 0 := fun q => k2 (cw.mp q)
        simp only [k2, k2', if_false]
        exact I
    · simp only [k1, if_false]
      exact I
/-- it waits, and perhaps lets one behind back -/
theorem behind_p2 (R : RT σ t (ρ a) m len n) (W : RW σ ρ t) (ha : a ≠ 91) {c x y : Nat} {w : Int32} (hc : c < n) (hw : ρ a (44 + 11 * c) = w) (hy : nI x - w = nI y) : ∃ σ7 ρ', F_X6_letOneBehindBack σ t (22 * t + 15 + c) (nI y) = some σ7 ∧ F_X8_goesBack_137 a (nI c) FU (stm ρ a (53 + 11 * c) (ρ a (53 + 11 * c) + 1)) 0 w (nI x) = some ρ' ∧ F_X8_goesBack_137b a (nI c) FU (stm ρ a (53 + 11 * c) (ρ a (53 + 11 * c) + 1)) 0 w (nI x) = some ρ' ∧ STP σ ρ (stm σ7 (22 * t + 15 + c) 11 (σ7 (22 * t + 15 + c) 11 + 1)) ρ' t a m len n := by
  have h7 := RT_7 R
  have fu : n < FU := Nat.lt_of_le_of_lt h7 (by decide)
  rcases behind_l R (ρ1 := stm ρ a (53 + 11 * c) (ρ a (53 + 11 * c) + 1)) hc (fun j hj => by rw [stm_row, upd_ne _ _ hj]) hw hy n 0 FU FU (by omega) fu fu with ⟨q1, q2, q3⟩ | ⟨o, ho, q1, q2, q3⟩
  · exact ⟨_, _, q1, q2, q3, e_wait R W ha hc⟩
  · refine ⟨_, _, q1, q2, q3, ?_⟩
    have s1 := e_beg R W ha ho
    have s2 := e_wait s1.1 s1.2.1 ha hc
    have e : stm ρ a (50 + 11 * o) 1 a (53 + 11 * c) = ρ a (53 + 11 * c) := by rw [stm_row, upd_ne _ _ (by omega)]
    rw [e, stm_cm ρ (a := a) (j := 50 + 11 * o) (j' := 53 + 11 * c) 1 (ρ a (53 + 11 * c) + 1) (by omega)] at s2
    exact STP_tr s1 s2
/-- it takes a step back -/
theorem e_back (R : RT σ t (ρ a) m len n) (W : RW σ ρ t) (ha : a ≠ 91) {c x y : Nat} (hc : c < n) (hs : ρ a (49 + 11 * c) = nI x) (hx : x ≤ PS len m) (hy : y ≤ PS len m) (hb : ¬ ρ a (50 + 11 * c) = 0) (h5 : (ρ a (44 + 11 * c) = 1 → y < PS len m) ∧ (ρ a (44 + 11 * c) = -1 → 0 < y)) :
    STP σ ρ (stm (stm (stm (mv σ t (22 * t + 15 + c) x y) (22 * t + 15 + c) 9 (ρ a (47 + 11 * c) - 1)) (22 * t + 15 + c) 10 (ρ a (52 + 11 * c) + 1)) (22 * t + 15 + c) 8 1) (stm (stm (stm (stm (stm ρ a (49 + 11 * c) (nI y)) a (51 + 11 * c) (ρ a (47 + 11 * c) - 1)) a (52 + 11 * c) (ρ a (52 + 11 * c) + 1)) a (50 + 11 * c) 2) 91 20 1) t a m len n := by
  have h7 := RT_7 R
  have ha' : (91 : Nat) ≠ a := fun q => ha q.symm
  have hro : ∀ i, i ≠ 22 * t + 15 + c → stm (stm (stm (mv σ t (22 * t + 15 + c) x y) (22 * t + 15 + c) 9 (ρ a (47 + 11 * c) - 1)) (22 * t + 15 + c) 10 (ρ a (52 + 11 * c) + 1)) (22 * t + 15 + c) 8 1 i = mv σ t (22 * t + 15 + c) x y i := fun i hi => by rw [stm_ne _ _ _ hi, stm_ne _ _ _ hi, stm_ne _ _ _ hi]
  have hri : stm (stm (stm (mv σ t (22 * t + 15 + c) x y) (22 * t + 15 + c) 9 (ρ a (47 + 11 * c) - 1)) (22 * t + 15 + c) 10 (ρ a (52 + 11 * c) + 1)) (22 * t + 15 + c) 8 1 (22 * t + 15 + c) = upd (upd (upd (upd (σ (22 * t + 15 + c)) 6 (nI y)) 9 (ρ a (47 + 11 * c) - 1)) 10 (ρ a (52 + 11 * c) + 1)) 8 1 := by rw [stm_row, stm_row, stm_row, mv_i]
  have hrr : stm (stm (stm (stm (stm ρ a (49 + 11 * c) (nI y)) a (51 + 11 * c) (ρ a (47 + 11 * c) - 1)) a (52 + 11 * c) (ρ a (52 + 11 * c) + 1)) a (50 + 11 * c) 2) 91 20 1 a = upd (upd (upd (upd (ρ a) (49 + 11 * c) (nI y)) (51 + 11 * c) (ρ a (47 + 11 * c) - 1)) (52 + 11 * c) (ρ a (52 + 11 * c) + 1)) (50 + 11 * c) 2 := by rw [stm_ne _ _ _ ha, stm_row, stm_row, stm_row, stm_row]
  have h91 : stm (stm (stm (stm (stm ρ a (49 + 11 * c) (nI y)) a (51 + 11 * c) (ρ a (47 + 11 * c) - 1)) a (52 + 11 * c) (ρ a (52 + 11 * c) + 1)) a (50 + 11 * c) 2) 91 20 1 91 = upd (ρ 91) 20 1 := by rw [stm_row, stm_ne _ _ _ ha', stm_ne _ _ _ ha', stm_ne _ _ _ ha', stm_ne _ _ _ ha']
  have CWb := CW_bk (RT_C R hc)
  obtain ⟨w1, w2, w3, w4, w5, w6, w7⟩ := RT_C R hc
  refine ⟨?_, RW_st (by rw [hro _ (by omega), mv_t]) h91 W, ?_, ?_, ?_⟩
  · refine RT_go R hc hs hx hy (r' := upd (upd (upd (upd (σ (22 * t + 15 + c)) 6 (nI y)) 9 (ρ a (47 + 11 * c) - 1)) 10 (ρ a (52 + 11 * c) + 1)) 8 1) (fun i i1 i2 i3 => by rw [hro _ i1, mv_o i1 i2 i3]) (by rw [hro _ (by omega), mv_t]) hri (by rw [hro _ (by omega), mv_on]) (fun j hj => ?_) ?_ ?_ (fun b hb4 => ?_) h5
    · rw [hrr]
      simp (disch := omega) only [upd_ne]
    · rw [hrr]
      simp (disch := omega) only [upd_ne, upd_at]
    · rw [hrr]
      unfold CW
      simp (disch := omega) only [upd_ne, upd_at]
      rcases CWb with ⟨-, q, -⟩ | ⟨-, -, q7, -⟩
      · exact absurd q hb
      · exact ⟨w1, w2, trivial, Or.inr (Or.inr ⟨trivial, q7, trivial⟩), Or.inr trivial, trivial, w7⟩
    · by_cases e : b = 8
      · subst e; rw [upd_at]; exact Or.inr rfl
      · rw [upd_ne _ _ e, upd_ne _ _ (by omega), upd_ne _ _ (by omega), upd_ne _ _ (by omega)]; exact RT_cb R hc b hb4
  · refine ⟨fun i hi => by rw [hro _ (by omega), mv_o (by omega) (by omega) (by omega)], fun j hj => ?_, ?_, ?_⟩
    · by_cases e : j = c
      · subst e; rw [hri]; simp (disch := omega) only [upd_ne]
      · rw [hro _ (by omega), mv_o (by omega) (by omega) (by omega)]
    · rw [hro _ (by omega), mv_t, upd_ne _ _ (by omega)]
    · rw [hro _ (by omega), mv_t, upd_ne _ _ (by omega)]
  · refine ⟨fun i h1 h2 => by rw [stm_ne _ _ _ h2, stm_ne _ _ _ h1, stm_ne _ _ _ h1, stm_ne _ _ _ h1, stm_ne _ _ _ h1], fun j _ h2 => by rw [h91, upd_ne _ _ h2]⟩
  · rw [hrr]
    exact KS_tr (KS_tr (KS_tr (sta_c (c := c) (by omega) _) (sta_c (c := c) (by omega) _)) (sta_c (c := c) (by omega) _)) (sta_c (c := c) (by omega) _)
end GB
