/-! the call of a road's text -/
section RR
variable {σ σ' σ'' ρ ρ' ρ'' : Mem} {d z p m n : Nat} {T : Nat → Int32} {k : Nat → Int32} {len : Nat → Nat}
theorem pass_b {q : Nat} {x1 v2 : Int32} (hz : z ≤ 100) : ∀ (g p : Nat) (B : BAD T z g p q) (ρ : Mem) (nn : Nat) (v3 : Int32), RS ρ d z T p → p ≤ z → z - p < nn → ∃ ρ', F_X8_road_38 x1 nn ρ v3 v2 = some (ρ', -1000 - nI q) ∧ KF ρ ρ' := by
  intro g
  induction g with
  | zero =>
    intro p S ρ nn v3 R hp hn
    obtain ⟨nn, rfl⟩ : ∃ j, nn = j + 1 := ⟨nn - 1, by omega⟩
    obtain ⟨ρ1, a1, a2, a3⟩ := S.2.2 d ρ R
    refine ⟨ρ1, ?_, a3⟩
    rw [F_X8_road_38, a1, bd2_s, if_pos rfl, a2.2.2.2.2]
  | succ g ih =>
    rintro p ⟨p', W, a, b, c, l, S, hp', B⟩ ρ nn v3 R hp hn
    obtain ⟨nn, rfl⟩ : ∃ j, nn = j + 1 := ⟨nn - 1, by omega⟩
    have s1 := S.1
    obtain ⟨ρ1, a1, a2, a3, -⟩ := S.2.2 d ρ R
    obtain ⟨ρ2, b1, b2⟩ := ih p' B ρ1 nn (v3 + 1) a2 (by omega) (by omega)
    refine ⟨ρ2, ?_, KF_tr a3 b2⟩
    rw [F_X8_road_38, a1, bd2_s, if_neg i10, a2.2.2.2.2, a2.2.2.1, if_pos (nI_lt hp' (by omega))]
    exact b1
theorem pass_g {x1 v2 : Int32} (hz : z ≤ 100) : ∀ (k p : Nat) (B : GOOD T z k p) (ρ : Mem) (nn j : Nat), RS ρ d z T p → z - p < nn → ∃ ρ', F_X8_road_38 x1 nn ρ (nI j) v2 = F_X8_road_71 x1 FU ρ' 0 (nI (j + k + 1)) v2 ∧ RS ρ' d z T z ∧ KF ρ ρ' := by
  intro k
  induction k with
  | zero =>
    rintro p ⟨W, a, b, c, l, S⟩ ρ nn j R hn
    obtain ⟨nn, rfl⟩ : ∃ j, nn = j + 1 := ⟨nn - 1, by omega⟩
    obtain ⟨ρ1, a1, a2, a3, -⟩ := S.2.2 d ρ R
    refine ⟨ρ1, ?_, a2, a3⟩
    rw [F_X8_road_38, a1, bd2_s, if_neg i10, a2.2.2.2.2, a2.2.2.1, if_neg (nI_nlt (Nat.le_refl _) (by omega)), nI_1]
  | succ k ih =>
    rintro p ⟨p', W, a, b, c, l, S, hp', B⟩ ρ nn j R hn
    obtain ⟨nn, rfl⟩ : ∃ j, nn = j + 1 := ⟨nn - 1, by omega⟩
    have s1 := S.1
    obtain ⟨ρ1, a1, a2, a3, -⟩ := S.2.2 d ρ R
    obtain ⟨ρ2, b1, b2, b3⟩ := ih p' B ρ1 nn (j + 1) a2 (by omega)
    refine ⟨ρ2, ?_, b2, KF_tr a3 b3⟩
    rw [F_X8_road_38, a1, bd2_s, if_neg i10, a2.2.2.2.2, a2.2.2.1, if_pos (nI_lt hp' (by omega)), nI_1, b1, show j + 1 + k + 1 = j + (k + 1) + 1 by omega]
theorem r154_l {x1 v3 v2 : Int32} : ∀ (d j nn : Nat) (ρ : Mem), j + d = 121 → d < nn → (∀ q, q < j → ρ 92 q = ρ 95 q) → ∃ ρ' : Mem, F_X8_road_154 x1 nn ρ (nI j) v3 v2 = some (ρ', v3) ∧ (∀ i, i ≠ 92 → ρ' i = ρ i) ∧ ∀ q, q < 121 → ρ' 92 q = ρ 95 q := by
  intro d
  induction d with
  | zero =>
    intro j nn ρ e1 e2 hq
    obtain rfl : j = 121 := by omega
    obtain ⟨nn, rfl⟩ : ∃ j, nn = j + 1 := ⟨nn - 1, by omega⟩
    rw [F_X8_road_154, if_pos (show (121 : Int32) ≤ nI 121 by decide)]
    exact ⟨ρ, rfl, fun _ _ => rfl, hq⟩
  | succ d ih =>
    intro j nn ρ e1 e2 hq
    obtain ⟨nn, rfl⟩ : ∃ j, nn = j + 1 := ⟨nn - 1, by omega⟩
    have e95 : stm ρ 92 j (ρ 95 j) 95 = ρ 95 := stm_ne _ _ _ (by omega)
    obtain ⟨ρ', i1, i2, i3⟩ := ih (j + 1) nn (stm ρ 92 j (ρ 95 j)) (by omega) (by omega) (fun q hq2 => by
      rw [e95, stm_row]
      by_cases e : q = j
      · subst e; rw [upd_at]
      · rw [upd_ne _ _ e]; exact hq q (by omega))
    rw [F_X8_road_154, if_neg (show ¬ (121 : Int32) ≤ nI j from nI_ge (a := j) (b := 121) (by omega) (by decide)), ix_nI (by omega) (by decide), Option.bind_some, Option.bind_some, nI_1]
    rw [e95] at i3
    exact ⟨ρ', i1, fun i h1 => by rw [i2 i h1, stm_ne _ _ _ h1], i3⟩
theorem r71_l {x1 v3 v2 : Int32} : ∀ (d j nn : Nat) (ρ : Mem), j + d = 121 → d < nn → (∀ q, q < j → ρ 95 q = ρ 92 q) → ∃ (ρ' : Mem) (v4 : Int32), F_X8_road_71 x1 nn ρ (nI j) v3 v2 = F_X8_road_103 x1 FU (stm ρ' 91 12 0) v4 v3 v2 ∧ (∀ i, i ≠ 95 → ρ' i = ρ i) ∧ ∀ q, q < 121 → ρ' 95 q = ρ 92 q := by
  intro d
  induction d with
  | zero =>
    intro j nn ρ e1 e2 hq
    obtain rfl : j = 121 := by omega
    obtain ⟨nn, rfl⟩ : ∃ j, nn = j + 1 := ⟨nn - 1, by omega⟩
    rw [F_X8_road_71, if_pos (show (121 : Int32) ≤ nI 121 by decide)]
    exact ⟨ρ, nI 121, rfl, fun _ _ => rfl, hq⟩
  | succ d ih =>
    intro j nn ρ e1 e2 hq
    obtain ⟨nn, rfl⟩ : ∃ j, nn = j + 1 := ⟨nn - 1, by omega⟩
    have e92 : stm ρ 95 j (ρ 92 j) 92 = ρ 92 := stm_ne _ _ _ (by omega)
    obtain ⟨ρ', v4, i1, i2, i3⟩ := ih (j + 1) nn (stm ρ 95 j (ρ 92 j)) (by omega) (by omega) (fun q hq2 => by
      rw [e92, stm_row]
      by_cases e : q = j
      · subst e; rw [upd_at]
      · rw [upd_ne _ _ e]; exact hq q (by omega))
    rw [F_X8_road_71, if_neg (show ¬ (121 : Int32) ≤ nI j from nI_ge (a := j) (b := 121) (by omega) (by decide)), ix_nI (by omega) (by decide), Option.bind_some, Option.bind_some, nI_1]
    rw [e92] at i3
    exact ⟨ρ', v4, i1, fun i h1 => by rw [i2 i h1, stm_ne _ _ _ h1], i3⟩
/-- both sides do a text that is well written -/
theorem sim_g {x1 v3 v2 : Int32} (hz : z ≤ 100) : ∀ (k p : Nat) (B : GOOD T z k p) (σ ρ : Mem) (v5 nn nr j m n : Nat) (v4 : Int32) (len : Nat → Nat), CS σ d z T p false → RS ρ d z T p → RT σ 2 (ρ 95) m len n → LZ σ 2 → v5 ≤ p → z - p + 1 < nn → z - p + 1 < nr → ∃ σ', MX σ σ' ∧ ((∃ (f : Nat) (ρ' : Mem), f ≤ 1000 ∧ F_X3_read_23 d 2 nn σ (nI v5) (-1) (nI j) = some (σ', -2000 - nI f) ∧ F_X8_road_103 x1 nr ρ v4 v3 v2 = some (ρ', -2000 - nI f) ∧ KG ρ ρ') ∨ ∃ (ρ' : Mem) (m' : Nat) (len' : Nat → Nat) (n' : Nat), F_X3_read_23 d 2 nn σ (nI v5) (-1) (nI j) = some (σ', nI (j + k + 1)) ∧ F_X8_road_103 x1 nr ρ v4 v3 v2 = F_X8_road_154 x1 FU ρ' 0 v3 v2 ∧ KG ρ ρ' ∧ RT σ' 2 (ρ' 95) m' len' n' ∧ LZ σ' 2) := by
  have n1 : ¬ (0 : Int32) ≤ -1 := by decide
  -- one statement on both sides
  have one : ∀ (p p' : Nat) (W : Int32) (a b c l : Nat), SKq T z p p' W a b c l → ∀ (σ ρ : Mem) (v5 nn nr j m n : Nat) (v4 : Int32) (len : Nat → Nat), CS σ d z T p false → RS ρ d z T p → RT σ 2 (ρ 95) m len n → LZ σ 2 → v5 ≤ p → (∃ σ1 ρ1, CS σ1 d z T p' false ∧ MX σ σ1 ∧ KG ρ ρ1 ∧ F_X3_read_23 d 2 (nn + 1) σ (nI v5) (-1) (nI j) = F_X3_read_23 d 2 nn σ1 (nI (v5 + 1)) (nI p) (nI (j + 1)) ∧ F_X8_road_103 x1 (nr + 1) ρ v4 v3 v2 = some (ρ1, -2000 - nI p)) ∨ ∃ (σ1 ρ1 : Mem) (m' : Nat) (len' : Nat → Nat) (n' : Nat) (v4' : Int32), CS σ1 d z T p' false ∧ RS ρ1 d z T p' ∧ RT σ1 2 (ρ1 95) m' len' n' ∧ LZ σ1 2 ∧ MX σ σ1 ∧ KG ρ ρ1 ∧ F_X3_read_23 d 2 (nn + 1) σ (nI v5) (-1) (nI j) = F_X3_read_23 d 2 nn σ1 (nI (v5 + 1)) (-1) (nI (j + 1)) ∧ F_X8_road_103 x1 (nr + 1) ρ v4 v3 v2 = F_X8_road_103 x1 nr ρ1 v4' v3 v2 := by
    intro p p' W a b c l S σ ρ v5 nn nr j m n v4 len C Rr R L h5
    have s1 := S.1
    obtain ⟨σ1, a1, a2, a3, a4, a5, a6, a7, a8⟩ := S.2.1 d σ C
    obtain ⟨ρ1, b1, b2, b3, b4⟩ := S.2.2 d ρ Rr
    have st := read_1 C (v5 := v5) (by omega) (Or.inr s1.2.2.1) nn (-1) (nI j)
    rw [a1, Option.bind_some, a2.2.2.2.2.2, if_pos (show bI false = 0 from rfl), if_neg n1, nI_1] at st
    have sr : F_X8_road_103 x1 (nr + 1) ρ v4 v3 v2 = bd2 (F_X8_comes ρ1 W) fun s r => if r = 0 then (some (s, ((-2000) - nI p))) else (F_X8_road_103 x1 nr s (nI p) v3 v2) := by
      rw [F_X8_road_103, Rr.2.2.2.2, Rr.2.2.1, if_neg (nI_ge s1.2.2.1 (by omega)), here_r Rr, if_pos s1.2.2.1, s1.2.2.2.1, Option.bind_some, b1, bd2_s]
    have R1 : RT σ1 2 (ρ1 95) m len n := by
      rw [b3.1 95 (by omega) (by omega)]; exact RT_85 R a3
    rcases fulfil_p R1 (LZ_85 L a3) s1.2.2.2.2 b4 a4 a5 a6 a7 a8 with ⟨x, y⟩ | ⟨σ2, ρ2, m', len', n', x, y, u, w, v⟩
    · rw [x, bd2_s, if_pos rfl] at st
      rw [y, bd2_s, if_pos rfl] at sr
      exact Or.inl ⟨σ1, ρ1, a2, MX_85 a3, KG_kf b3, st, sr⟩
    · rw [x, bd2_s, if_neg i10] at st
      rw [y, bd2_s, if_neg i10] at sr
      exact Or.inr ⟨σ2, ρ2, m', len', n', nI p, CS_fr a2 w, RS_95 b2 v, u, LZ_fr (LZ_85 L a3) w, MX_tr (MX_85 a3) (MX_fr w), KG_tr (KG_kf b3) (KG_95 v), st, sr⟩
  intro k
  induction k with
  | zero =>
    rintro p ⟨W, a, b, c, l, S⟩ σ ρ v5 nn nr j m n v4 len C Rr R L h5 hn hr
    obtain ⟨nn, rfl⟩ : ∃ j, nn = j + 2 := ⟨nn - 2, by omega⟩
    obtain ⟨nr, rfl⟩ : ∃ j, nr = j + 2 := ⟨nr - 2, by omega⟩
    have s1 := S.1
    rcases one p z W a b c l S σ ρ v5 (nn + 1) (nr + 1) j m n v4 len C Rr R L h5 with ⟨σ1, ρ1, c1, c2, c3, c4, c5⟩ | ⟨σ1, ρ1, m', len', n', v4', c1, c2, c3, c4, c5, c6, c7, c8⟩
    · refine ⟨σ1, c2, Or.inl ⟨p, ρ1, by omega, ?_, c5, c3⟩⟩
      rw [c4, read_e c1 (by omega) (by omega), if_pos (show (0 : Int32) ≤ nI p from nI_le (a := 0) (b := p) (by omega) (by omega))]
    · refine ⟨σ1, c5, Or.inr ⟨ρ1, m', len', n', ?_, ?_, c6, c3, c4⟩⟩
      · rw [c7, read_e c1 (by omega) (by omega), if_neg n1]
      · rw [c8, F_X8_road_103, c2.2.2.2.2, c2.2.2.1, if_pos (nI_le (Nat.le_refl _) (by omega))]
  | succ k ih =>
    rintro p ⟨p', W, a, b, c, l, S, hp', B⟩ σ ρ v5 nn nr j m n v4 len C Rr R L h5 hn hr
    obtain ⟨nn, rfl⟩ : ∃ j, nn = j + 1 := ⟨nn - 1, by omega⟩
    obtain ⟨nr, rfl⟩ : ∃ j, nr = j + 1 := ⟨nr - 1, by omega⟩
    have s1 := S.1
    rcases one p p' W a b c l S σ ρ v5 nn nr j m n v4 len C Rr R L h5 with ⟨σ1, ρ1, c1, c2, c3, c4, c5⟩ | ⟨σ1, ρ1, m', len', n', v4', c1, c2, c3, c4, c5, c6, c7, c8⟩
    · obtain ⟨σ2, e1, e2⟩ := fault_g (d := d) hz k p' B σ1 (v5 + 1) nn p (nI (j + 1)) c1 (by omega) (by omega) (by omega)
      exact ⟨σ2, MX_tr c2 (MX_85 e2), Or.inl ⟨p, ρ1, by omega, c4.trans e1, c5, c3⟩⟩
    · obtain ⟨σ2, e1, e2⟩ := ih p' B σ1 ρ1 (v5 + 1) nn nr (j + 1) m' n' v4' len' c1 c2 c3 c4 (by omega) (by omega) (by omega)
      refine ⟨σ2, MX_tr c5 e1, ?_⟩
      rcases e2 with ⟨f, ρ2, f0, f1, f2, f3⟩ | ⟨ρ2, m2, len2, n2, f1, f2, f3, f4, f5⟩
      · exact Or.inl ⟨f, ρ2, f0, c7.trans f1, c8.trans f2, KG_tr c6 f3⟩
      · refine Or.inr ⟨ρ2, m2, len2, n2, ?_, c8.trans f2, KG_tr c6 f3, f4, f5⟩
        rw [c7, f1, show j + 1 + k + 1 = j + (k + 1) + 1 by omega]
end RR
