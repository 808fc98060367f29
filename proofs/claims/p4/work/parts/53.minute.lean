/-! a cart acts; a minute -/
theorem spotAhead_c (σ : Mem) (i : Nat) : F_X0_spotAhead σ i = if σ i 0 = 0 then some (σ i 6 - 1) else some (σ i 6 + 1) := rfl
section MI
variable {σ ρ : Mem} {t a m n : Nat} {len : Nat → Nat}
theorem goOn_p (R : RT σ t (ρ a) m len n) (W : RW σ ρ t) (ha : a ≠ 91) {c x : Nat} (hc : c < n) (hs : ρ a (49 + 11 * c) = nI x) (hx : x ≤ PS len m) (hup : ρ a (44 + 11 * c) = 1 → x < PS len m) (hdn : ρ a (44 + 11 * c) = -1 → 0 < x) :
    ∃ σ' ρ', F_X6_goOn σ t (nI c) (22 * t + 15 + c) = some σ' ∧ F_X8_goesOn ρ a (nI c) = some ρ' ∧ STP σ ρ σ' ρ' t a m len n := by
  have h7 := RT_7 R
  have h8 := RT_8 R
  have c7 : c < 7 := by omega
  have V := RT_V R
  have h72 := RT_72 R (Nat.le_refl m)
  have C := RT_C R hc
  have E := e_wait R W ha hc
  -- y ahead, the piece ahead, what entering says at a place
  obtain ⟨y, p, w, hw, hy, hp, hyw, hya, hpa, hpf, hu, hd, hen, hin⟩ : ∃ y p w, ρ a (44 + 11 * c) = w ∧ y ≤ PS len m ∧ p < m ∧ nI x + w = nI y ∧ F_X0_spotAhead σ (22 * t + 15 + c) = some (nI y) ∧ F_X6_pieceAhead σ t (22 * t + 15 + c) = some (nI p) ∧ F_X8_pieceFrom ρ a (nI x) w = some (nI p) ∧ (ρ a (44 + 11 * c) = 1 → y = x + 1) ∧ (ρ a (44 + 11 * c) = -1 → x = y + 1) ∧ (∀ q, q ≤ m → x = PS len q → ∀ v, v < 3 → ρ a (16 + 3 * p) = nI v → ∃ b, F_X6_letsIn σ t (22 * t + 15 + c) = some (bI b) ∧ F_X8_entersBy ρ a (nI c) (nI v) = some (bI b)) ∧ (∀ q, q < m → PS len q < x → x < PS len (q + 1) → q = p) := by
    rcases (RT_K R hc).1 with hw | hw
    · obtain ⟨p, q1, q2, q3, q4, q5⟩ := ahead_up R hc hw hs (hup hw)
      refine ⟨x + 1, p, 1, hw, by have := hup hw; omega, q1, nI_1 x, ?_, q4, q5, fun _ => rfl, fun q => absurd (hw.symm.trans q) i1m1, ?_, ?_⟩
      · rw [spotAhead_c, CW_up C hw, if_neg i10, C.2.2.1, hs, nI_1]
      · intro q hq e v hv ev
        have : q = p := by
          have hqm : q < m := by
            rcases Nat.lt_or_ge q m with z | z
            · exact z
            · have := PS_mono (len := len) z
              have := hup hw
              omega
          have := PS_lt (VS_b V) (show q < q + 1 by omega) (show q + 1 ≤ m by omega)
          exact PS_un (len := len) (x := x) (by omega) (by omega) q2 q3
        subst this
        exact enters_up R hc hw q1 (by rw [hs, e]) hv ev q4
      · intro q hq z1 z2
        exact PS_un (len := len) (x := x) (by omega) z2 q2 q3
    · obtain ⟨p, q1, q2, q3, q4, q5⟩ := ahead_dn R hc hw hs hx (hdn hw)
      refine ⟨x - 1, p, -1, hw, by omega, q1, ?_, ?_, q4, q5, fun q => absurd (hw.symm.trans q) im11, fun _ => by have := hdn hw; omega, ?_, ?_⟩
      · obtain ⟨z, rfl⟩ : ∃ z, x = z + 1 := ⟨x - 1, by have := hdn hw; omega⟩
        exact nI_m1
      · rw [spotAhead_c, CW_dn C hw, if_pos rfl, C.2.2.1, hs, nI_sub1 (hdn hw)]
      · intro q hq e v hv ev
        have : q = p + 1 := by
          refine PS_inj (VS_b V) hq (by omega) ?_
          rcases Nat.lt_or_ge p q with z | z
          · have := PS_mono (len := len) (show p + 1 ≤ q by omega)
            omega
          · have := PS_mono (len := len) z
            omega
        subst this
        exact enters_dn R hc hw q1 (by rw [hs, e]) hv ev q4
      · intro q hq z1 z2
        exact PS_un (len := len) (x := x - 1) (by omega) (by omega) (by omega) (by omega)
  obtain ⟨b, r1, r2⟩ := hasRoom_p R hy
  obtain ⟨σ2, ρ2, g1, g2, g3⟩ := go_2 R W ha hc hs hx hy hw hu hd hp hpa
  rw [goOn_eq, goesOn_eq, C.2.2.1, hs, get5 c7, Option.bind_some, get0 c7, Option.bind_some, hw, hs, hpf, hyw, hya, get9 c7]
  simp only [obs, r1, r2, g1, g2, puts9 c7]
  rcases spot_cases hx with ⟨q, hq, e⟩ | ⟨q, hq, h1, h2⟩
  · obtain ⟨v, hv, ev⟩ := vil3 (VS_vil V hp)
    obtain ⟨b2, l1, l2⟩ := hen q hq e v hv ev
    have n1 : ¬ nI q < 0 := nI_pos (by omega)
    rw [e, placeOf_at R hq, placeAt_at V hq, ix16 (by omega), l1]
    simp only [obs, n1, if_false, ev, l2]
    cases b2 with
    | false =>
      rw [bI_f, if_pos rfl, if_pos rfl]
      exact ⟨_, _, rfl, rfl, E⟩
    | true =>
      rw [bI_t, if_neg i10, if_neg i10]
      cases b with
      | false =>
        rw [bI_f, if_pos rfl, if_pos rfl]
        exact ⟨_, _, rfl, rfl, E⟩
      | true =>
        rw [bI_t, if_neg i10, if_neg i10]
        exact ⟨_, _, rfl, rfl, g3⟩
  · have eqp := hin q hq h1 h2
    subst eqp
    rw [placeOf_in R hq h1 h2, placeAt_no V hq h1 h2]
    simp only [obs, im1, im4, if_true]
    cases b with
    | false =>
      have k49 : stm ρ a (53 + 11 * c) (ρ a (53 + 11 * c) + 1) a (49 + 11 * c) = nI x := by rw [stm_row, upd_ne _ _ (by omega)]; exact hs
      have k44 : stm ρ a (53 + 11 * c) (ρ a (53 + 11 * c) + 1) a (44 + 11 * c) = w := by rw [stm_row, upd_ne _ _ (by omega)]; exact hw
      obtain ⟨σ3, ρ3, m1, m2, -, m4⟩ := meet_p E.1 E.2.1 ha (p := q) (v5 := -4) hc k44 hyw k49 hx hy hq h1 h2
      rw [bI_f, if_pos rfl, if_pos rfl, m1, m2, Option.bind_some]
      exact ⟨_, _, rfl, rfl, STP_tr E m4⟩
    | true =>
      rw [bI_t, if_neg i10, if_neg i10]
      exact ⟨_, _, rfl, rfl, g3⟩
/-- it comes onto the road -/
theorem e_come (R : RT σ t (ρ a) m len n) (W : RW σ ρ t) (ha : a ≠ 91) {c E : Nat} (hc : c < n) (hs : ρ a (49 + 11 * c) = -2) (hE : E ≤ PS len m) (h5 : (ρ a (44 + 11 * c) = 1 → E < PS len m) ∧ (ρ a (44 + 11 * c) = -1 → 0 < E)) :
    STP σ ρ (stm (stm σ (22 * t + 15 + c) 6 (nI E)) (22 * t + 14) E (stm σ (22 * t + 15 + c) 6 (nI E) (22 * t + 14) E + 1)) (stm ρ a (49 + 11 * c) (nI E)) t a m len n := by
  have h7 := RT_7 R
  have h72 := RT_72 R (Nat.le_refl m)
  have m2 : (-2 : Int32).toInt < 0 := by decide
  have C := RT_C R hc
  have z : ¬ ρ a (49 + 11 * c) = -3 := by rw [hs]; decide
  obtain ⟨w1, w2, w3, w4, w5, w6, w7⟩ := C
  have w5' := w5.resolve_left z
  have eon : stm σ (22 * t + 15 + c) 6 (nI E) (22 * t + 14) = σ (22 * t + 14) := stm_ne _ _ _ (by omega)
  rw [eon]
  refine ⟨?_, RW_cg (by rw [stm_ne _ _ _ (by omega), stm_ne _ _ _ (by omega)]) (stm_ne _ _ _ (fun q => ha q.symm)) W, ?_, FrR_a ρ ha, KS_a (c := c) ρ (by omega) _⟩
  · refine RT_spot R hc (fun i i1 i2 i3 => by rw [stm_ne _ _ _ i2, stm_ne _ _ _ i1]) (fun b _ _ => by rw [stm_ne _ _ _ (by omega), stm_ne _ _ _ (by omega)]) (fun j hj => by rw [stm_row, upd_ne _ _ (by omega)]) ?_ ?_ ?_ ?_ (fun q => by rw [stm_row, upd_at] at q; exact absurd q (nI_neN (by omega) (by decide)))
    · rw [stm_ne _ _ _ (by omega), stm_row, stm_row]
      unfold CW
      simp (disch := omega) only [upd_ne, upd_at]
      exact ⟨w1, w2, trivial, w4, Or.inr w5', w6, w7⟩
    · intro b hb
      rw [stm_ne _ _ _ (by omega), stm_row, upd_ne _ _ (by omega)]; exact RT_cb R hc b hb
    · exact Or.inr (Or.inr ⟨E, by rw [stm_row, upd_at], hE, h5.1, h5.2⟩)
    · intro s h
      rw [stm_row, eon]
      refine on_inc (sp := spk (ρ a)) (fun s hs => RT_on R hs) hc (show (ρ a (49 + 11 * c)).toInt < 0 by rw [hs]; exact m2) (y := E) (spk_n (by rw [stm_row, upd_at]) (by omega)) (fun i hi => ?_) (by omega) s h
      show (stm ρ a (49 + 11 * c) (nI E) a (49 + 11 * i)).toInt = (ρ a (49 + 11 * i)).toInt
      rw [stm_row, upd_ne _ _ (by omega)]
  · refine ⟨fun i hi => by rw [stm_ne _ _ _ (by omega), stm_ne _ _ _ (by omega)], fun j hj => ?_, by rw [stm_ne _ _ _ (by omega), stm_ne _ _ _ (by omega)], by rw [stm_ne _ _ _ (by omega), stm_ne _ _ _ (by omega)]⟩
    by_cases e : j = c
    · subst e; rw [stm_ne _ _ _ (by omega), stm_row, upd_ne _ _ (by omega)]
    · rw [stm_ne _ _ _ (by omega), stm_ne _ _ _ (by omega)]
/-- the class's cart k after it perhaps came on -/
def AC (σ : Mem) (t i : Nat) (v1 : Int32) (f : Mem → Option Mem) : Option Mem := if (σ i 9) ≤ 0 then (if (σ i 6) < 0 then (if (σ i 6) < 0 then (f σ) else ((F_X6_goOn σ t v1 i).bind fun σ_9 => f σ_9)) else (if (σ i 7) = 0 then (if (σ i 6) < 0 then (f σ) else ((F_X6_goOn σ t v1 i).bind fun σ_12 => f σ_12)) else ((F_X6_backUp σ t i).bind fun σ_13 => f σ_13))) else (f (stm σ i 9 ((σ i 9) - 1)))
def AR (σ : Mem) (a1 : Nat) (x2 : Int32) : Option Mem := (F_X8_isOn σ a1 x2).bind fun r_3 => if r_3 = 0 then (some σ) else ((F_X8_get σ a1 x2 7).bind fun r_5 => if r_5 ≤ 0 then ((F_X8_get σ a1 x2 6).bind fun r_7 => if r_7 ≤ 0 then ((F_X8_goesOn σ a1 x2).bind fun σ_9 => some σ_9) else ((F_X8_goesBack σ a1 x2).bind fun σ_10 => some σ_10)) else ((F_X8_get σ a1 x2 7).bind fun r_11 => (F_X8_puts σ a1 x2 7 (r_11 - 1)).bind fun σ_12 => some σ_12))
theorem act_p (R : RT σ t (ρ a) m len n) (W : RW σ ρ t) (ha : a ≠ 91) {c : Nat} (hc : c < n) (f : Mem → Option Mem) : ∃ σ' ρ', AC σ t (22 * t + 15 + c) (nI c) f = f σ' ∧ AR ρ a (nI c) = some ρ' ∧ STP σ ρ σ' ρ' t a m len n := by
  have h7 := RT_7 R
  have c7 : c < 7 := by omega
  have h72 := RT_72 R (Nat.le_refl m)
  have C := RT_C R hc
  have Z : STP σ ρ σ ρ t a m len n := ⟨R, W, FrC_rf t σ, FrR_rf a ρ, KS_rf _⟩
  unfold AC AR
  rw [isOn_r c7, get7 c7, get6 c7, C.2.2.1]
  simp only [obs]
  have n2 : (-2 : Int32) < 0 := im2
  have n3 : (-3 : Int32) < 0 := im3
  rcases (RT_K R hc).2.2.2.2 with hs | hs | ⟨x, hs, hx, hup, hdn⟩
  · have w5 := C.2.2.2.2.1.resolve_left (by rw [hs]; decide)
    rw [hs, if_pos n2, if_pos n2, if_pos n2, Option.bind_some, if_pos rfl]
    have k : σ (22 * t + 15 + c) 9 ≤ 0 := by rw [w5, RT_z R hc hs]; decide
    rw [if_pos k]; exact ⟨_, _, rfl, rfl, Z⟩
  · rw [hs, if_pos n3, if_pos n3, if_pos n3, Option.bind_some, if_pos rfl]
    by_cases k : σ (22 * t + 15 + c) 9 ≤ 0
    · rw [if_pos k]; exact ⟨_, _, rfl, rfl, Z⟩
    · rw [if_neg k]; exact ⟨_, _, rfl, rfl, e_leftD R W hc hs _⟩
  · have w5 := C.2.2.2.2.1.resolve_left (by rw [hs]; exact nI_neN (by omega) (by decide))
    have n0 : ¬ nI x < 0 := nI_pos (by omega)
    rw [hs, if_neg n0, if_neg n0, if_neg n0, Option.bind_some, if_neg i10, w5]
    by_cases k : ρ a (51 + 11 * c) ≤ 0
    · rw [if_pos k, if_pos k]
      rcases CW_bk C with ⟨b1, -, b3⟩ | ⟨b1, b2, b3, -⟩
      · obtain ⟨σ', ρ', g1, g2, g3⟩ := goOn_p R W ha hc hs hx hup hdn
        rw [b3, if_pos rfl, if_pos b1, g1, g2, Option.bind_some, Option.bind_some]
        exact ⟨_, _, rfl, rfl, g3⟩
      · obtain ⟨σ', ρ', g1, g2, g3⟩ := back_p R W ha hc hs hx hup hdn b2
        rw [b3, if_neg i10, if_neg b1, g1, g2, Option.bind_some, Option.bind_some]
        exact ⟨_, _, rfl, rfl, g3⟩
    · rw [if_neg k, if_neg k, puts7 c7, Option.bind_some]
      have e := e_left R W ha hc (by rw [hs]; exact nI_neN (by omega) (by decide)) (by rw [hs]; exact nI_neN (by omega) (by decide))
      rw [w5] at e
      exact ⟨_, _, rfl, rfl, e⟩
end MI
