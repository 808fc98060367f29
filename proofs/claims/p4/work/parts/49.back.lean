/-! backUp against goesBack -/
theorem im4 : (-4 : Int32) < 0 := by decide
theorem im1 : (-1 : Int32) < 0 := by decide
section BU
variable {σ ρ : Mem} {t a m n : Nat} {len : Nat → Nat}
/-- what both do once it is known that it goes on backing; y behind it -/
theorem back_2 (R : RT σ t (ρ a) m len n) (W : RW σ ρ t) (ha : a ≠ 91) {c x y : Nat} {w : Int32} (hc : c < n) (hs : ρ a (49 + 11 * c) = nI x) (hx : x ≤ PS len m) (hy : y ≤ PS len m) (hb : ¬ ρ a (50 + 11 * c) = 0) (hw : ρ a (44 + 11 * c) = w) (hyw : nI x - w = nI y) (h5 : (ρ a (44 + 11 * c) = 1 → y < PS len m) ∧ (ρ a (44 + 11 * c) = -1 → 0 < y)) :
    ∃ σ' ρ', ((F_X6_hasRoom σ t (nI y)).bind fun r_5 => if r_5 = 0 then ((F_X6_letOneBehindBack σ t (22 * t + 15 + c) (nI y)).bind fun σ_7 => some (stm σ_7 (22 * t + 15 + c) 11 ((σ_7 (22 * t + 15 + c) 11) + 1))) else ((F_X6_step σ t (22 * t + 15 + c) (nI y)).bind fun σ_8 => some (stm (stm (stm σ_8 (22 * t + 15 + c) 9 ((σ_8 (22 * t + 15 + c) 3) - 1)) (22 * t + 15 + c) 10 (((stm σ_8 (22 * t + 15 + c) 9 ((σ_8 (22 * t + 15 + c) 3) - 1)) (22 * t + 15 + c) 10) + 1)) (22 * t + 15 + c) 8 1))) = some σ' ∧
    ((F_X8_hasRoom ρ a (nI x - w)).bind fun r_7 => if r_7 = 0 then ((F_X8_get ρ a (nI c) 9).bind fun r_9 => (F_X8_puts ρ a (nI c) 9 (r_9 + 1)).bind fun σ_10 => F_X8_goesBack_137 a (nI c) FU σ_10 0 w (nI x)) else ((F_X8_puts ρ a (nI c) 5 (nI x - w)).bind fun σ_22 => (F_X8_get σ_22 a (nI c) 3).bind fun r_23 => (F_X8_puts σ_22 a (nI c) 7 (r_23 - 1)).bind fun σ_24 => (F_X8_get σ_24 a (nI c) 8).bind fun r_25 => (F_X8_puts σ_24 a (nI c) 8 (r_25 + 1)).bind fun σ_26 => (F_X8_puts σ_26 a (nI c) 6 2).bind fun σ_27 => some (stm σ_27 91 20 1))) = some ρ' ∧
    ((F_X8_hasRoom ρ a (nI x - w)).bind fun r_7 => if r_7 = 0 then ((F_X8_get ρ a (nI c) 9).bind fun r_9 => (F_X8_puts ρ a (nI c) 9 (r_9 + 1)).bind fun σ_10 => F_X8_goesBack_137b a (nI c) FU σ_10 0 w (nI x)) else ((F_X8_puts ρ a (nI c) 5 (nI x - w)).bind fun σ_22 => (F_X8_get σ_22 a (nI c) 3).bind fun r_23 => (F_X8_puts σ_22 a (nI c) 7 (r_23 - 1)).bind fun σ_24 => (F_X8_get σ_24 a (nI c) 8).bind fun r_25 => (F_X8_puts σ_24 a (nI c) 8 (r_25 + 1)).bind fun σ_26 => (F_X8_puts σ_26 a (nI c) 6 2).bind fun σ_27 => some (stm σ_27 91 20 1))) = some ρ' ∧ STP σ ρ σ' ρ' t a m len n := by
  have h7 := RT_7 R
  have c7 : c < 7 := by omega
  obtain ⟨b, r1, r2⟩ := hasRoom_p R hy
  rw [hyw, r1, r2, Option.bind_some, Option.bind_some, Option.bind_some]
  cases b with
  | false =>
    obtain ⟨σ7, ρ', q1, q2, q3, q4⟩ := behind_p2 R W ha hc hw hyw
    refine ⟨_, ρ', ?_, ?_, ?_, q4⟩
    · rw [bI_f, if_pos rfl, q1, Option.bind_some]
    · rw [bI_f, if_pos rfl, get9 c7, Option.bind_some, puts9 c7, Option.bind_some, q2]
    · rw [bI_f, if_pos rfl, get9 c7, Option.bind_some, puts9 c7, Option.bind_some, q3]
  | true =>
    have c3 : mv σ t (22 * t + 15 + c) x y (22 * t + 15 + c) 3 = ρ a (47 + 11 * c) := by
      rw [mv_i, upd_ne _ _ (by omega)]; exact (RT_C R hc).2.1.2.2.1
    have c10 : stm (mv σ t (22 * t + 15 + c) x y) (22 * t + 15 + c) 9 (ρ a (47 + 11 * c) - 1) (22 * t + 15 + c) 10 = ρ a (52 + 11 * c) := by
      rw [stm_row, mv_i, upd_ne _ _ (by omega), upd_ne _ _ (by omega)]; exact (RT_C R hc).2.2.2.2.2.1
    have rr : ((F_X8_puts ρ a (nI c) 5 (nI y)).bind fun σ_22 => (F_X8_get σ_22 a (nI c) 3).bind fun r_23 => (F_X8_puts σ_22 a (nI c) 7 (r_23 - 1)).bind fun σ_24 => (F_X8_get σ_24 a (nI c) 8).bind fun r_25 => (F_X8_puts σ_24 a (nI c) 8 (r_25 + 1)).bind fun σ_26 => (F_X8_puts σ_26 a (nI c) 6 2).bind fun σ_27 => some (stm σ_27 91 20 1)) = some (stm (stm (stm (stm (stm ρ a (49 + 11 * c) (nI y)) a (51 + 11 * c) (ρ a (47 + 11 * c) - 1)) a (52 + 11 * c) (ρ a (52 + 11 * c) + 1)) a (50 + 11 * c) 2) 91 20 1) := by
      have e1 : stm ρ a (49 + 11 * c) (nI y) a (47 + 11 * c) = ρ a (47 + 11 * c) := by rw [stm_row, upd_ne _ _ (by omega)]
      have e2 : stm (stm ρ a (49 + 11 * c) (nI y)) a (51 + 11 * c) (ρ a (47 + 11 * c) - 1) a (52 + 11 * c) = ρ a (52 + 11 * c) := by rw [stm_row, stm_row, upd_ne _ _ (by omega), upd_ne _ _ (by omega)]
      rw [puts5 c7, Option.bind_some, get3 c7, Option.bind_some, puts7 c7, Option.bind_some, get8 c7, Option.bind_some, puts8 c7, Option.bind_some, puts6 c7, Option.bind_some, e1, e2]
    refine ⟨_, _, ?_, ?_, ?_, e_back R W ha hc hs hx hy hb h5⟩
    · rw [bI_t, if_neg i10, step_c R hc hs hx hy, Option.bind_some, c3, c10]
    · rw [bI_t, if_neg i10, rr]
    · rw [bI_t, if_neg i10, rr]
theorem back_p (R : RT σ t (ρ a) m len n) (W : RW σ ρ t) (ha : a ≠ 91) {c x : Nat} (hc : c < n) (hs : ρ a (49 + 11 * c) = nI x) (hx : x ≤ PS len m) (hup : ρ a (44 + 11 * c) = 1 → x < PS len m) (hdn : ρ a (44 + 11 * c) = -1 → 0 < x) (hb : ¬ ρ a (50 + 11 * c) = 0) :
    ∃ σ' ρ', F_X6_backUp σ t (22 * t + 15 + c) = some σ' ∧ F_X8_goesBack ρ a (nI c) = some ρ' ∧ STP σ ρ σ' ρ' t a m len n := by
  have h7 := RT_7 R
  have h8 := RT_8 R
  have c7 : c < 7 := by omega
  have V := RT_V R
  have h72 := RT_72 R (Nat.le_refl m)
  have C := RT_C R hc
  have B0 := e_bk0 R W ha hc
  -- own end, y, room behind
  obtain ⟨E0, hE, w, hw, e1, e2, hEx, hrest⟩ : ∃ E0 : Nat, E0 ≤ PS len m ∧ ∃ w, ρ a (44 + 11 * c) = w ∧ F_X6_ownEnd σ t (22 * t + 15 + c) = some (nI E0) ∧ F_X8_origin ρ a (nI c) = some (nI E0) ∧ (x = E0 → ∃ q, q ≤ m ∧ x = PS len q) ∧ (x ≠ E0 → ∃ y, y ≤ PS len m ∧ nI x - w = nI y ∧ F_X0_spotBehind σ (22 * t + 15 + c) = some (nI y) ∧ (ρ a (44 + 11 * c) = 1 → y < PS len m) ∧ (ρ a (44 + 11 * c) = -1 → 0 < y)) := by
    rcases (RT_K R hc).1 with hw | hw
    · have e := ownEnd_up R hc hw
      refine ⟨0, Nat.zero_le _, 1, hw, e.1, e.2, fun q => ⟨0, Nat.zero_le _, q⟩, fun q => ⟨x - 1, by omega, nI_sub1 (by omega), ?_, fun _ => by have := hup hw; omega, fun q => absurd (hw.symm.trans q) i1m1⟩⟩
      rw [spotBehind_c, CW_up C hw, if_neg i10, C.2.2.1, hs, nI_sub1 (by omega)]
    · have e := ownEnd_dn R hc hw
      refine ⟨PS len m, Nat.le_refl _, -1, hw, e.1, e.2, fun q => ⟨m, Nat.le_refl _, q⟩, fun q => ⟨x + 1, by omega, ?_, ?_, fun q => absurd (hw.symm.trans q) im11, fun _ => by omega⟩⟩
      · rw [← nI_1]
        rw [Int32.sub_eq_add_neg]; rfl
      · rw [spotBehind_c, CW_dn C hw, if_pos rfl, C.2.2.1, hs, nI_1]
  unfold F_X6_backUp F_X8_goesBack
  rw [e1, Option.bind_some, C.2.2.1, hs, get5 c7, Option.bind_some, get0 c7, Option.bind_some, hw, hs, e2, puts6 c7]
  by_cases k : x = E0
  · subst k
    obtain ⟨q, hq, rfl⟩ := hEx rfl
    rw [placeAt_at V hq, Option.bind_some, if_neg (nI_pos (by omega)), if_pos rfl, get6 c7, Option.bind_some]
    refine ⟨_, _, rfl, ?_, B0⟩
    by_cases k2 : ρ a (50 + 11 * c) = 2
    · rw [if_pos k2, Option.bind_some]
    · rw [if_neg k2, Option.bind_some, if_pos rfl, Option.bind_some]
  · obtain ⟨y, hy, hyw, e3, h5a, h5b⟩ := hrest k
    obtain ⟨σ', ρ', q1, q2, q3, q4⟩ := back_2 R W ha hc hs hx hy hb hw hyw ⟨h5a, h5b⟩
    have kne : ¬ nI x = nI E0 := fun q => k (nI_inj q (by omega) (by omega))
    rw [if_neg kne, e3, Option.bind_some, Option.bind_some, Option.bind_some, Option.bind_some, if_neg kne, if_neg kne, q1, q2, q3]
    rcases spot_cases hx with ⟨p, hp, rfl⟩ | ⟨p, hp, h1, h2⟩
    · rw [placeAt_at V hp, placeOf_at R hp, Option.bind_some, Option.bind_some, if_neg (nI_pos (by omega)), if_neg (nI_pos (by omega)), get6 c7, Option.bind_some]
      rcases CW_bk C with ⟨-, b2, -⟩ | ⟨-, -, -, ⟨b4, b5⟩ | ⟨b4, b5⟩⟩
      · exact absurd b2 hb
      · rw [b5, if_neg i10, if_pos b4]
        exact ⟨_, _, rfl, rfl, B0⟩
      · rw [b5, if_pos rfl, if_neg b4]
        exact ⟨_, _, rfl, rfl, q4⟩
    · rw [placeAt_no V hp h1 h2, placeOf_in R hp h1 h2, Option.bind_some, Option.bind_some, if_pos im4, if_pos im1]
      refine ⟨_, _, ?_, rfl, q4⟩
      by_cases g : σ (22 * t + 15 + c) 8 = 0
      · rw [if_pos g]
      · rw [if_neg g]
end BU
