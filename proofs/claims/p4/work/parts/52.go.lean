/-! goOn against goesOn -/
/-- the reference takes the step; v MINUTES are left -/
def LV (ρ : Mem) (a : Nat) (c s v : Int32) : Option Mem := (F_X8_puts ρ a c 5 s).bind fun σ_75 => (F_X8_puts σ_75 a c 7 v).bind fun σ_76 => (F_X8_goal (stm σ_76 91 20 1) a c).bind fun r_77 => if s = r_77 then ((F_X8_puts (stm σ_76 91 20 1) a c 5 (-3)).bind fun σ_79 => (F_X8_puts σ_79 a c 7 0).bind fun σ_80 => some σ_80) else (some (stm σ_76 91 20 1))
def LM (ρ : Mem) (a : Nat) (c r2 r4 s : Int32) : Option Mem := (F_X8_get ρ a c 2).bind fun r_58 => if r_58 = 1 then ((ix 121 ((14 + (3 * r4)) + 1)).bind fun k_66 => if r2 ≤ 0 then (if (ρ a k_66) = 2 then (LV ρ a c s 1) else (LV ρ a c s 0)) else (if (ρ a k_66) = 1 then (LV ρ a c s 1) else (LV ρ a c s 0))) else (LV ρ a c s 0)
/-- the class behind its step -/
def CV (σ_9 : Mem) (t i2 : Nat) (r_4 v : Int32) : Option Mem := (F_X6_goal (stm σ_9 i2 9 v) t i2).bind fun r_12 => if r_4 = r_12 then ((ix 73 r_4).bind fun k_14 => (ix 73 r_4).bind fun k_15 => some (stm (stm (stm σ_9 i2 9 v) (22 * t + 14) k_15 (((stm σ_9 i2 9 v) (22 * t + 14) k_14) - 1)) i2 6 (-3))) else (some (stm σ_9 i2 9 v))
def CM (σ : Mem) (t i2 : Nat) (r_4 : Int32) : Option Mem := (F_X6_pieceAhead σ t i2).bind fun r_7 => (F_X4_hillOf σ t r_7).bind fun r_8 => (F_X6_step σ t i2 r_4).bind fun σ_9 => (F_X0_isSlowOn σ_9 i2 r_8).bind fun r_10 => if r_10 = 0 then (CV σ_9 t i2 r_4 0) else (CV σ_9 t i2 r_4 1)
theorem goesOn_eq (ρ : Mem) (a : Nat) (c : Int32) : F_X8_goesOn ρ a c = (F_X8_get ρ a c 5).bind fun r_1 => (F_X8_get ρ a c 0).bind fun r_2 => (F_X8_placeAt ρ a r_1).bind fun r_3 => (F_X8_pieceFrom ρ a r_1 r_2).bind fun r_4 => if r_3 < 0 then ((F_X8_hasRoom ρ a (r_1 + r_2)).bind fun r_6 => if r_6 = 0 then ((F_X8_get ρ a c 9).bind fun r_8 => (F_X8_puts ρ a c 9 (r_8 + 1)).bind fun σ_9 => if r_3 < 0 then (F_X8_goesOn_202 a c FU σ_9 0 r_4 r_3 r_2 r_1) else (some σ_9)) else LM ρ a c r_2 r_4 (r_1 + r_2)) else ((ix 121 ((14 + (3 * r_4)) + 2)).bind fun k_94 => (F_X8_entersBy ρ a c (ρ a k_94)).bind fun r_95 => if r_95 = 0 then ((F_X8_get ρ a c 9).bind fun r_185 => (F_X8_puts ρ a c 9 (r_185 + 1)).bind fun σ_186 => some σ_186) else ((F_X8_hasRoom ρ a (r_1 + r_2)).bind fun r_97 => if r_97 = 0 then ((F_X8_get ρ a c 9).bind fun r_99 => (F_X8_puts ρ a c 9 (r_99 + 1)).bind fun σ_100 => if r_3 < 0 then (F_X8_goesOn_202b a c FU σ_100 0 r_4 r_3 r_2 r_1) else (some σ_100)) else LM ρ a c r_2 r_4 (r_1 + r_2))) := rfl
theorem goOn_eq (σ : Mem) (t : Nat) (x1 : Int32) (i2 : Nat) : F_X6_goOn σ t x1 i2 = (F_X4_placeOf σ t (σ i2 6)).bind fun r_1 => if r_1 < 0 then ((F_X0_spotAhead σ i2).bind fun r_4 => (F_X6_hasRoom σ t r_4).bind fun r_5 => if r_5 = 0 then ((F_X6_meet (stm σ i2 11 ((σ i2 11) + 1)) t x1 i2 r_4).bind fun σ_21 => some σ_21) else CM σ t i2 r_4) else ((F_X6_letsIn σ t i2).bind fun r_23 => if r_23 = 0 then (some (stm σ i2 11 ((σ i2 11) + 1))) else ((F_X0_spotAhead σ i2).bind fun r_25 => (F_X6_hasRoom σ t r_25).bind fun r_26 => if r_26 = 0 then (some (stm σ i2 11 ((σ i2 11) + 1))) else CM σ t i2 r_25)) := rfl
theorem VS_cg {k k' : Nat → Int32} {m : Nat} {len : Nat → Nat} (V : VS k m len) (h : ∀ j, j < 44 → j ≠ 1 → j ≠ 2 → j ≠ 3 → j ≠ 4 → k' j = k j) : VS k' m len := by
  obtain ⟨⟨v1, v2⟩, v3, v4, v5, v6, v7⟩ := V
  refine ⟨⟨(h 0 (by omega) (by omega) (by omega) (by omega) (by omega)).trans v1, v2⟩, fun p hp => (h _ (by omega) (by omega) (by omega) (by omega) (by omega)).trans (v3 p hp), v4, fun p hp => ?_, fun p hp hp8 => ?_, fun v hv => ?_⟩
  · rw [h (15 + 3 * p) (by omega) (by omega) (by omega) (by omega) (by omega), h (16 + 3 * p) (by omega) (by omega) (by omega) (by omega) (by omega)]; exact v5 p hp
  · rw [h (5 + p) (by omega) (by omega) (by omega) (by omega) (by omega)]; exact v6 p hp hp8
  · rw [h (38 + 2 * v) (by omega) (by omega) (by omega) (by omega) (by omega), h (39 + 2 * v) (by omega) (by omega) (by omega) (by omega) (by omega)]; exact v7 v hv
theorem n10 : ¬ (1 : Int32) ≤ 0 := by decide
theorem p10 : (-1 : Int32) ≤ 0 := by decide
section GO
variable {σ ρ : Mem} {t a m n : Nat} {len : Nat → Nat}
theorem e_on (R : RT σ t (ρ a) m len n) (W : RW σ ρ t) (ha : a ≠ 91) {c x y : Nat} (v : Int32) (hc : c < n) (hs : ρ a (49 + 11 * c) = nI x) (hx : x ≤ PS len m) (hy : y ≤ PS len m) (h5 : (ρ a (44 + 11 * c) = 1 → y < PS len m) ∧ (ρ a (44 + 11 * c) = -1 → 0 < y)) :
    STP σ ρ (stm (mv σ t (22 * t + 15 + c) x y) (22 * t + 15 + c) 9 v) (stm (stm (stm ρ a (49 + 11 * c) (nI y)) a (51 + 11 * c) v) 91 20 1) t a m len n := by
  have h7 := RT_7 R
  have ha' : (91 : Nat) ≠ a := fun q => ha q.symm
  have hro : ∀ i, i ≠ 22 * t + 15 + c → stm (mv σ t (22 * t + 15 + c) x y) (22 * t + 15 + c) 9 v i = mv σ t (22 * t + 15 + c) x y i := fun i hi => stm_ne _ _ _ hi
  have hri : stm (mv σ t (22 * t + 15 + c) x y) (22 * t + 15 + c) 9 v (22 * t + 15 + c) = upd (upd (σ (22 * t + 15 + c)) 6 (nI y)) 9 v := by rw [stm_row, mv_i]
  have hrr : stm (stm (stm ρ a (49 + 11 * c) (nI y)) a (51 + 11 * c) v) 91 20 1 a = upd (upd (ρ a) (49 + 11 * c) (nI y)) (51 + 11 * c) v := by rw [stm_ne _ _ _ ha, stm_row, stm_row]
  have h91 : stm (stm (stm ρ a (49 + 11 * c) (nI y)) a (51 + 11 * c) v) 91 20 1 91 = upd (ρ 91) 20 1 := by rw [stm_row, stm_ne _ _ _ ha', stm_ne _ _ _ ha']
  obtain ⟨w1, w2, w3, w4, w5, w6, w7⟩ := RT_C R hc
  refine ⟨?_, RW_st (by rw [hro _ (by omega), mv_t]) h91 W, ?_, ?_, ?_⟩
  · refine RT_go R hc hs hx hy (r' := upd (upd (σ (22 * t + 15 + c)) 6 (nI y)) 9 v) (fun i i1 i2 i3 => by rw [hro _ i1, mv_o i1 i2 i3]) (by rw [hro _ (by omega), mv_t]) hri (by rw [hro _ (by omega), mv_on]) (fun j hj => ?_) ?_ ?_ (fun b hb4 => ?_) h5
    · rw [hrr]
      simp (disch := omega) only [upd_ne]
    · rw [hrr]
      simp (disch := omega) only [upd_ne, upd_at]
    · rw [hrr]
      unfold CW
      simp (disch := omega) only [upd_ne, upd_at]
      exact ⟨w1, w2, trivial, w4, Or.inr trivial, w6, w7⟩
    · rw [upd_ne _ _ (by omega), upd_ne _ _ (by omega)]; exact RT_cb R hc b hb4
  · refine ⟨fun i hi => by rw [hro _ (by omega), mv_o (by omega) (by omega) (by omega)], fun j hj => ?_, ?_, ?_⟩
    · by_cases e : j = c
      · subst e; rw [hri]; simp (disch := omega) only [upd_ne]
      · rw [hro _ (by omega), mv_o (by omega) (by omega) (by omega)]
    · rw [hro _ (by omega), mv_t, upd_ne _ _ (by omega)]
    · rw [hro _ (by omega), mv_t, upd_ne _ _ (by omega)]
  · exact ⟨fun i h1 h2 => by rw [stm_ne _ _ _ h2, stm_ne _ _ _ h1, stm_ne _ _ _ h1], fun j _ h2 => by rw [h91, upd_ne _ _ h2]⟩
  · rw [hrr]
    exact KS_tr (sta_c (c := c) (by omega) _) (sta_c (c := c) (by omega) _)
theorem e_done (R : RT σ t (ρ a) m len n) (W : RW σ ρ t) (ha : a ≠ 91) {c x y : Nat} (v : Int32) (hc : c < n) (hs : ρ a (49 + 11 * c) = nI x) (hx : x ≤ PS len m) (hy : y ≤ PS len m) :
    STP σ ρ (stm (stm (stm (mv σ t (22 * t + 15 + c) x y) (22 * t + 15 + c) 9 v) (22 * t + 14) y ((stm (mv σ t (22 * t + 15 + c) x y) (22 * t + 15 + c) 9 v) (22 * t + 14) y - 1)) (22 * t + 15 + c) 6 (-3)) (stm (stm (stm (stm (stm ρ a (49 + 11 * c) (nI y)) a (51 + 11 * c) v) 91 20 1) a (49 + 11 * c) (-3)) a (51 + 11 * c) 0) t a m len n := by
  have h7 := RT_7 R
  have ha' : (91 : Nat) ≠ a := fun q => ha q.symm
  have eon : stm (mv σ t (22 * t + 15 + c) x y) (22 * t + 15 + c) 9 v (22 * t + 14) = upd (upd (σ (22 * t + 14)) x (σ (22 * t + 14) x - 1)) y (upd (σ (22 * t + 14)) x (σ (22 * t + 14) x - 1) y + 1) := by rw [stm_ne _ _ _ (by omega), mv_on]
  rw [eon]
  have hro : ∀ i w, i ≠ 22 * t + 15 + c → i ≠ 22 * t + 14 → stm (stm (stm (mv σ t (22 * t + 15 + c) x y) (22 * t + 15 + c) 9 v) (22 * t + 14) y w) (22 * t + 15 + c) 6 (-3) i = mv σ t (22 * t + 15 + c) x y i := fun i w hi hi2 => by rw [stm_ne _ _ _ hi, stm_ne _ _ _ hi2, stm_ne _ _ _ hi]
  have hri : ∀ w, stm (stm (stm (mv σ t (22 * t + 15 + c) x y) (22 * t + 15 + c) 9 v) (22 * t + 14) y w) (22 * t + 15 + c) 6 (-3) (22 * t + 15 + c) = upd (upd (upd (σ (22 * t + 15 + c)) 6 (nI y)) 9 v) 6 (-3) := fun w => by rw [stm_row, stm_ne _ _ _ (by omega), stm_row, mv_i]
  have hrn : ∀ w, stm (stm (stm (mv σ t (22 * t + 15 + c) x y) (22 * t + 15 + c) 9 v) (22 * t + 14) y w) (22 * t + 15 + c) 6 (-3) (22 * t + 14) = upd (upd (upd (σ (22 * t + 14)) x (σ (22 * t + 14) x - 1)) y (upd (σ (22 * t + 14)) x (σ (22 * t + 14) x - 1) y + 1)) y w := fun w => by rw [stm_ne _ _ _ (by omega), stm_row, eon]
  have hrr : stm (stm (stm (stm (stm ρ a (49 + 11 * c) (nI y)) a (51 + 11 * c) v) 91 20 1) a (49 + 11 * c) (-3)) a (51 + 11 * c) 0 a = upd (upd (upd (upd (ρ a) (49 + 11 * c) (nI y)) (51 + 11 * c) v) (49 + 11 * c) (-3)) (51 + 11 * c) 0 := by rw [stm_row, stm_row, stm_ne _ _ _ ha, stm_row, stm_row]
  have h91 : stm (stm (stm (stm (stm ρ a (49 + 11 * c) (nI y)) a (51 + 11 * c) v) 91 20 1) a (49 + 11 * c) (-3)) a (51 + 11 * c) 0 91 = upd (ρ 91) 20 1 := by rw [stm_ne _ _ _ ha', stm_ne _ _ _ ha', stm_row, stm_ne _ _ _ ha', stm_ne _ _ _ ha']
  obtain ⟨w1, w2, w3, w4, w5, w6, w7⟩ := RT_C R hc
  refine ⟨?_, RW_st (by rw [hro _ _ (by omega) (by omega), mv_t]) h91 W, ?_, ?_, ?_⟩
  · refine RT_done R hc hs hx hy (r' := upd (upd (upd (σ (22 * t + 15 + c)) 6 (nI y)) 9 v) 6 (-3)) (fun i i1 i2 i3 => by rw [hro _ _ i1 i2, mv_o i1 i2 i3]) (by rw [hro _ _ (by omega) (by omega), mv_t]) (hri _) (hrn _) (fun j hj => ?_) ?_ ?_ (fun b hb4 => ?_)
    · rw [hrr]
      simp (disch := omega) only [upd_ne]
    · rw [hrr]
      simp (disch := omega) only [upd_ne, upd_at]
    · rw [hrr]
      unfold CW
      simp (disch := omega) only [upd_ne, upd_at]
      exact ⟨w1, w2, trivial, w4, Or.inl trivial, w6, w7⟩
    · rw [upd_ne _ _ (by omega), upd_ne _ _ (by omega), upd_ne _ _ (by omega)]; exact RT_cb R hc b hb4
  · refine ⟨fun i hi => by rw [hro _ _ (by omega) (by omega), mv_o (by omega) (by omega) (by omega)], fun j hj => ?_, ?_, ?_⟩
    · by_cases e : j = c
      · subst e; rw [hri]; simp (disch := omega) only [upd_ne]
      · rw [hro _ _ (by omega) (by omega), mv_o (by omega) (by omega) (by omega)]
    · rw [hro _ _ (by omega) (by omega), mv_t, upd_ne _ _ (by omega)]
    · rw [hro _ _ (by omega) (by omega), mv_t, upd_ne _ _ (by omega)]
  · exact ⟨fun i h1 h2 => by rw [stm_ne _ _ _ h1, stm_ne _ _ _ h1, stm_ne _ _ _ h2, stm_ne _ _ _ h1, stm_ne _ _ _ h1], fun j _ h2 => by rw [h91, upd_ne _ _ h2]⟩
  · rw [hrr]
    exact KS_tr (KS_tr (KS_tr (sta_c (c := c) (by omega) _) (sta_c (c := c) (by omega) _)) (sta_c (c := c) (by omega) _)) (sta_c (c := c) (by omega) _)
/-- the step on, v MINUTES left -/
theorem go_v (R : RT σ t (ρ a) m len n) (W : RW σ ρ t) (ha : a ≠ 91) {c x y : Nat} (v : Int32) (hc : c < n) (hs : ρ a (49 + 11 * c) = nI x) (hx : x ≤ PS len m) (hy : y ≤ PS len m) (hup : ρ a (44 + 11 * c) = 1 → y = x + 1) (hdn : ρ a (44 + 11 * c) = -1 → x = y + 1) :
    ∃ σ' ρ', CV (mv σ t (22 * t + 15 + c) x y) t (22 * t + 15 + c) (nI y) v = some σ' ∧ LV ρ a (nI c) (nI y) v = some ρ' ∧ STP σ ρ σ' ρ' t a m len n := by
  have h7 := RT_7 R
  have c7 : c < 7 := by omega
  have h72 := RT_72 R (Nat.le_refl m)
  have C := RT_C R hc
  have V := RT_V R
  have rr : stm (stm (stm ρ a (49 + 11 * c) (nI y)) a (51 + 11 * c) v) 91 20 1 a = upd (upd (ρ a) (49 + 11 * c) (nI y)) (51 + 11 * c) v := by rw [stm_ne _ _ _ ha, stm_row, stm_row]
  have V2 : VS (stm (stm (stm ρ a (49 + 11 * c) (nI y)) a (51 + 11 * c) v) 91 20 1 a) m len := VS_cg V (fun j hj _ _ _ _ => by rw [rr, upd_ne _ _ (by omega), upd_ne _ _ (by omega)])
  obtain ⟨G, hG, g1, g2, g3⟩ : ∃ G : Nat, G ≤ PS len m ∧ F_X6_goal (stm (mv σ t (22 * t + 15 + c) x y) (22 * t + 15 + c) 9 v) t (22 * t + 15 + c) = some (nI G) ∧ F_X8_goal (stm (stm (stm ρ a (49 + 11 * c) (nI y)) a (51 + 11 * c) v) 91 20 1) a (nI c) = some (nI G) ∧ (y ≠ G → (ρ a (44 + 11 * c) = 1 → y < PS len m) ∧ (ρ a (44 + 11 * c) = -1 → 0 < y)) := by
    have e0 : stm (mv σ t (22 * t + 15 + c) x y) (22 * t + 15 + c) 9 v (22 * t + 15 + c) 0 = σ (22 * t + 15 + c) 0 := by rw [stm_row, mv_i, upd_ne _ _ (by omega), upd_ne _ _ (by omega)]
    have e1 : stm (mv σ t (22 * t + 15 + c) x y) (22 * t + 15 + c) 9 v (22 * t + 1) 1 = nI (PS len m) := by rw [stm_ne _ _ _ (by omega), mv_o (by omega) (by omega) (by omega)]; exact (RT_R R).2.1
    have e2 : stm (stm (stm ρ a (49 + 11 * c) (nI y)) a (51 + 11 * c) v) 91 20 1 a (44 + 11 * c) = ρ a (44 + 11 * c) := by rw [rr, upd_ne _ _ (by omega), upd_ne _ _ (by omega)]
    unfold F_X6_goal F_X8_goal
    rw [e0, get0 c7, Option.bind_some, e2, endOf_r V2, Option.bind_some, e1]
    rcases (RT_K R hc).1 with hw | hw
    · refine ⟨PS len m, Nat.le_refl _, ?_, ?_, fun q => ⟨fun _ => by omega, fun q2 => absurd (hw.symm.trans q2) i1m1⟩⟩
      · rw [CW_up C hw, if_neg i10]
      · rw [hw, if_neg (by decide)]
    · refine ⟨0, Nat.zero_le _, ?_, ?_, fun q => ⟨fun q2 => absurd (hw.symm.trans q2) im11, fun _ => by omega⟩⟩
      · rw [CW_dn C hw, if_pos rfl]; rfl
      · rw [hw, if_pos (by decide)]; rfl
  unfold CV LV
  rw [g1, Option.bind_some, puts5 c7, Option.bind_some, puts7 c7, Option.bind_some, g2, Option.bind_some]
  by_cases k : y = G
  · subst k
    rw [if_pos rfl, if_pos rfl, ix_nI (show y < 73 by omega) (by decide), Option.bind_some, Option.bind_some, puts5 c7, Option.bind_some, puts7 c7, Option.bind_some]
    exact ⟨_, _, rfl, rfl, e_done R W ha v hc hs hx hy⟩
  · have kne : ¬ nI y = nI G := fun q => k (nI_inj q (by omega) (by omega))
    rw [if_neg kne, if_neg kne]
    exact ⟨_, _, rfl, rfl, e_on R W ha v hc hs hx hy (g3 k)⟩
theorem go_2 (R : RT σ t (ρ a) m len n) (W : RW σ ρ t) (ha : a ≠ 91) {c x y p : Nat} {w : Int32} (hc : c < n) (hs : ρ a (49 + 11 * c) = nI x) (hx : x ≤ PS len m) (hy : y ≤ PS len m) (hw : ρ a (44 + 11 * c) = w) (hup : ρ a (44 + 11 * c) = 1 → y = x + 1) (hdn : ρ a (44 + 11 * c) = -1 → x = y + 1) (hp : p < m) (hpa : F_X6_pieceAhead σ t (22 * t + 15 + c) = some (nI p)) :
    ∃ σ' ρ', CM σ t (22 * t + 15 + c) (nI y) = some σ' ∧ LM ρ a (nI c) w (nI p) (nI y) = some ρ' ∧ STP σ ρ σ' ρ' t a m len n := by
  have h7 := RT_7 R
  have h8 := RT_8 R
  have c7 : c < 7 := by omega
  have C := RT_C R hc
  obtain ⟨σ0, ρ0, a1, a2, a3⟩ := go_v R W ha 0 hc hs hx hy hup hdn
  obtain ⟨σ1, ρ1, b1, b2, b3⟩ := go_v R W ha 1 hc hs hx hy hup hdn
  have e0 : mv σ t (22 * t + 15 + c) x y (22 * t + 15 + c) 0 = σ (22 * t + 15 + c) 0 := by rw [mv_i, upd_ne _ _ (by omega)]
  have e1 : mv σ t (22 * t + 15 + c) x y (22 * t + 15 + c) 1 = ρ a (46 + 11 * c) := by rw [mv_i, upd_ne _ _ (by omega)]; exact C.2.1.1
  unfold CM LM F_X0_isSlowOn
  rw [hpa, Option.bind_some, hillOf_c R hp, Option.bind_some, step_c R hc hs hx hy, Option.bind_some, e0, e1, get2 c7, Option.bind_some, ix15 (by omega), Option.bind_some, a1, a2, b1, b2]
  rcases (RT_K R hc).2.1 with hl | hl
  · rw [hl, if_pos rfl, Option.bind_some, if_pos rfl, if_neg (by decide)]
    exact ⟨_, _, rfl, rfl, a3⟩
  · rw [hl, if_neg i10, if_pos rfl]
    rcases (RT_K R hc).1 with hw1 | hw1
    · rw [CW_up C hw1, if_neg i10, ← hw, hw1, if_neg n10]
      by_cases hh : ρ a (15 + 3 * p) = 1
      · rw [if_pos hh, if_pos hh, Option.bind_some, if_neg i10]
        exact ⟨_, _, rfl, rfl, b3⟩
      · rw [if_neg hh, if_neg hh, Option.bind_some, if_pos rfl]
        exact ⟨_, _, rfl, rfl, a3⟩
    · rw [CW_dn C hw1, if_pos rfl, ← hw, hw1, if_pos p10]
      by_cases hh : ρ a (15 + 3 * p) = 2
      · rw [if_pos hh, if_pos hh, Option.bind_some, if_neg i10]
        exact ⟨_, _, rfl, rfl, b3⟩
      · rw [if_neg hh, if_neg hh, Option.bind_some, if_pos rfl]
        exact ⟨_, _, rfl, rfl, a3⟩
end GO
