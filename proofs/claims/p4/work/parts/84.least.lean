/-! the class's search is the pure one -/
theorem pushQ_mem {Q : List (Nat × Nat)} {c d w : Nat} (h : w ∈ (pushQ Q c d).map Prod.fst) : w ∈ Q.map Prod.fst ∨ w = c := by
  unfold pushQ at h
  split at h
  · exact Or.inl h
  · rw [List.map_append, List.mem_append] at h
    rcases h with h | h
    · exact Or.inl h
    · exact Or.inr (by simpa using h)
theorem foldQ_mem (d : Nat) (cs : List Nat) : ∀ (Q : List (Nat × Nat)) (w : Nat), w ∈ (foldQ Q cs d).map Prod.fst → w ∈ Q.map Prod.fst ∨ w ∈ cs := by
  induction cs with
  | nil => intro Q w h; exact Or.inl h
  | cons c r ih =>
    intro Q w h
    rcases ih (pushQ Q c d) w h with h1 | h1
    · rcases pushQ_mem h1 with h2 | h2
      · exact Or.inl h2
      · exact Or.inr (by rw [h2]; exact List.mem_cons_self)
    · exact Or.inr (List.mem_cons_of_mem _ h1)
theorem st_ok : ∀ a, a < 4 → ∀ b, b < 4 → nI (a * 128) + (((2 : Int32) <<< (nI (a + b) &&& 31)) - ((1 : Int32) <<< (nI b &&& 31))) = nI (stC a b) := by decide +kernel
theorem wt_ok : ∀ a, a < 4 → ∀ b, b < 4 → nI (b * 128) + ((((1 : Int32) <<< (nI (a + b) &&& 31)) + ((1 : Int32) <<< (nI a &&& 31))) - 1) = nI (wtC a b) := by decide +kernel
theorem st_lt : ∀ a, a < 4 → ∀ b, b < 4 → (stC a b < 896 ∧ wtC a b < 896) := by decide +kernel
theorem st_v1 : ∀ a, a < 4 → ∀ b, b < 4 → (stC a b / 128 ≤ Nat.log2 (stC a b % 128) ∧ 1 ≤ stC a b % 128) := by decide +kernel
theorem st_v2 : ∀ a, a < 4 → ∀ b, b < 4 → (pcN (stC a b % 128) - 1 ≤ a ∧ Nat.log2 (stC a b % 128) - (pcN (stC a b % 128) - 1) ≤ b) := by decide +kernel
theorem QB_v {a b q x z : Nat} (ha : a ≤ 3) (hb : b ≤ 3) (hx : x ≤ 6) : ∀ i, ∀ c ∈ (QB a b q x z i).map Prod.fst, vcd a b c := by
  intro i
  induction i with
  | zero =>
    intro c hc
    have e : c = stC a b := by simpa [QB] using hc
    rw [e]
    exact ⟨(st_lt a (by omega) b (by omega)).1, (st_v1 a (by omega) b (by omega)).1, (st_v1 a (by omega) b (by omega)).2, st_v2 a (by omega) b (by omega)⟩
  | succ i ih =>
    intro c hc
    rw [QB, procQ] at hc
    split at hc
    · exact ih c hc
    · rename_i p hp
      rcases foldQ_mem _ _ _ _ hc with h | h
      · exact ih c h
      · have hv := ih p.1 (List.mem_map.mpr ⟨p, List.mem_of_getElem? hp, rfl⟩)
        exact nbr_ok ha hb hx hv.2.1 (Nat.mod_lt _ (by decide)) hv.2.2.1 hv.2.2.2.1 hv.2.2.2.2 c h
def rv (σ : Mem) (i k : Nat) (v : Int32) : Mem := fun a => if a = i then (fun b => if b < k then v else σ i b) else σ a
theorem rv_0 (σ : Mem) (i : Nat) (v : Int32) : σ = rv σ i 0 v := by
  funext a
  by_cases h : a = i
  · subst h
    simp [rv]
  · simp [rv, h]
theorem rv_s (σ : Mem) (i k : Nat) (v : Int32) : stm (rv σ i k v) i k v = rv σ i (k + 1) v := by
  funext a
  by_cases h : a = i
  · subst h
    funext b
    by_cases h1 : b = k
    · simp [stm, rv, upd, h1]
    · by_cases h2 : b < k
      · have h3 : b < k + 1 := by omega
        simp [stm, rv, upd, h1, h2, h3]
      · have h3 : ¬ b < k + 1 := by omega
        simp [stm, rv, upd, h1, h2, h3]
  · simp [stm, rv, h]
def lmM (σ : Mem) (a b q x z k : Nat) : Mem := rv (stm (stm (stm (stm (stm (stm σ 88 3 (nI a)) 88 4 (nI b)) 88 5 (nI q)) 88 6 (nI x)) 88 7 (nI z)) 88 2 0) 89 k (-4)
theorem lmM_rep (σ : Mem) (a b q x z : Nat) : RepC [] (lmM σ a b q x z 896) := by
  refine ⟨by simp [lmM, rv, stm, upd]; rfl, List.nodup_nil, fun k c d h => by simp at h, fun c hc _ => by simp [lmM, rv, hc]⟩
theorem lmM_f (σ : Mem) (a b q x z : Nat) : lmM σ a b q x z 896 88 3 = nI a ∧ lmM σ a b q x z 896 88 4 = nI b ∧ lmM σ a b q x z 896 88 5 = nI q ∧ lmM σ a b q x z 896 88 6 = nI x ∧ lmM σ a b q x z 896 88 7 = nI z := by
  refine ⟨?_, ?_, ?_, ?_, ?_⟩ <;> simp [lmM, rv, stm, upd]
theorem lmM_ne (σ : Mem) (a b q x z k : Nat) {i : Nat} (h1 : i ≠ 88) (h2 : i ≠ 89) : lmM σ a b q x z k i = σ i := by simp [lmM, rv, stm, h1, h2]
theorem QB_0 (a b q x z : Nat) : pushQ [] (stC a b / 128 * 128 + stC a b % 128) 0 = QB a b q x z 0 := by
  rw [show stC a b / 128 * 128 + stC a b % 128 = stC a b by omega]
  rfl
theorem QB_s {a b q x z i c d : Nat} (h : (QB a b q x z i)[i]? = some (c, d)) : foldQ (QB a b q x z i) (nbrL a b q x z (c / 128) (c % 128)) (d + 1) = QB a b q x z (i + 1) := by
  rw [QB, procQ, h]
theorem getQ {Q : List (Nat × Nat)} {i : Nat} (h : i < Q.length) : ∃ c d : Nat, Q[i]? = some (c, d) := ⟨Q[i].1, Q[i].2, List.getElem?_eq_getElem h⟩
theorem pk_rem128 {n : Nat} (h : n < 2 ^ 31) : nI n - nI n / 128 * 128 = nI (n % 128) := pk_rem (d := 128) h (by decide) (by decide)
theorem pk_div128 {n : Nat} (h : n < 2 ^ 31) : nI n / 128 = nI (n / 128) := pk_div (d := 128) h (by decide) (by decide)
def bB_cX2_leastMoves : Nat := 0xac2e07150b00b42ac6ffa70108842900b6708000112e08150f00b42a6c8000112e08150f00b42a2a2300a0fc102e07150b00b42a2f00a280031108153700a22200b42a08150836032500b6037080001106156c80001106152aacfc100600a180031107150b00a28003110615073660640460781b0478601c1b04688000111c06366064781c0478601c1b05688000111becffa70106844ffc1006150b00b42a1200a280031106150636032200b5032a1f00b505152a1c00b504152a1900b51d2a1600b51c2a1200b51b2a
theorem yB_cX2_leastMoves : BYS cX2_leastMoves 202 bB_cX2_leastMoves := BYS_of (by decide +kernel)
theorem dX2_leastMoves_0 : decode cX2_leastMoves 0 = .ok (.aload_n 0, 1) := D_42 yB_cX2_leastMoves rfl rfl
theorem dX2_leastMoves_1 : decode cX2_leastMoves 1 = .ok (.iload_n 1, 1) := D_27 yB_cX2_leastMoves rfl rfl
theorem dX2_leastMoves_2 : decode cX2_leastMoves 2 = .ok (.putfield 18, 3) := D_181 yB_cX2_leastMoves rfl rfl rfl
theorem dX2_leastMoves_5 : decode cX2_leastMoves 5 = .ok (.aload_n 0, 1) := D_42 yB_cX2_leastMoves rfl rfl
theorem dX2_leastMoves_6 : decode cX2_leastMoves 6 = .ok (.iload_n 2, 1) := D_28 yB_cX2_leastMoves rfl rfl
theorem dX2_leastMoves_7 : decode cX2_leastMoves 7 = .ok (.putfield 22, 3) := D_181 yB_cX2_leastMoves rfl rfl rfl
theorem dX2_leastMoves_10 : decode cX2_leastMoves 10 = .ok (.aload_n 0, 1) := D_42 yB_cX2_leastMoves rfl rfl
theorem dX2_leastMoves_11 : decode cX2_leastMoves 11 = .ok (.iload_n 3, 1) := D_29 yB_cX2_leastMoves rfl rfl
theorem dX2_leastMoves_12 : decode cX2_leastMoves 12 = .ok (.putfield 25, 3) := D_181 yB_cX2_leastMoves rfl rfl rfl
theorem dX2_leastMoves_15 : decode cX2_leastMoves 15 = .ok (.aload_n 0, 1) := D_42 yB_cX2_leastMoves rfl rfl
theorem dX2_leastMoves_16 : decode cX2_leastMoves 16 = .ok (.iload 4, 2) := D_21 yB_cX2_leastMoves rfl rfl rfl
theorem dX2_leastMoves_18 : decode cX2_leastMoves 18 = .ok (.putfield 28, 3) := D_181 yB_cX2_leastMoves rfl rfl rfl
theorem dX2_leastMoves_21 : decode cX2_leastMoves 21 = .ok (.aload_n 0, 1) := D_42 yB_cX2_leastMoves rfl rfl
theorem dX2_leastMoves_22 : decode cX2_leastMoves 22 = .ok (.iload 5, 2) := D_21 yB_cX2_leastMoves rfl rfl rfl
theorem dX2_leastMoves_24 : decode cX2_leastMoves 24 = .ok (.putfield 31, 3) := D_181 yB_cX2_leastMoves rfl rfl rfl
theorem dX2_leastMoves_27 : decode cX2_leastMoves 27 = .ok (.aload_n 0, 1) := D_42 yB_cX2_leastMoves rfl rfl
theorem dX2_leastMoves_28 : decode cX2_leastMoves 28 = .ok (.iconst 0, 1) := D_3 yB_cX2_leastMoves rfl rfl
theorem dX2_leastMoves_29 : decode cX2_leastMoves 29 = .ok (.putfield 34, 3) := D_181 yB_cX2_leastMoves rfl rfl rfl
theorem dX2_leastMoves_32 : decode cX2_leastMoves 32 = .ok (.iconst 0, 1) := D_3 yB_cX2_leastMoves rfl rfl
theorem dX2_leastMoves_33 : decode cX2_leastMoves 33 = .ok (.istore 6, 2) := D_54 yB_cX2_leastMoves rfl rfl rfl
theorem dX2_leastMoves_35 : decode cX2_leastMoves 35 = .ok (.iload 6, 2) := D_21 yB_cX2_leastMoves rfl rfl rfl
theorem dX2_leastMoves_37 : decode cX2_leastMoves 37 = .ok (.sipush 896, 3) := D_17 yB_cX2_leastMoves rfl rfl (sg_p (m := 32768) (N := 896) rfl rfl rfl)
theorem dX2_leastMoves_40 : decode cX2_leastMoves 40 = .ok (.if_icmp .ge 18, 3) := D_162 yB_cX2_leastMoves rfl rfl (sg_p (m := 32768) (N := 18) rfl rfl rfl)
theorem dX2_leastMoves_43 : decode cX2_leastMoves 43 = .ok (.aload_n 0, 1) := D_42 yB_cX2_leastMoves rfl rfl
theorem dX2_leastMoves_44 : decode cX2_leastMoves 44 = .ok (.getfield 11, 3) := D_180 yB_cX2_leastMoves rfl rfl rfl
theorem dX2_leastMoves_47 : decode cX2_leastMoves 47 = .ok (.iload 6, 2) := D_21 yB_cX2_leastMoves rfl rfl rfl
theorem dX2_leastMoves_49 : decode cX2_leastMoves 49 = .ok (.bipush (-4), 2) := D_16 yB_cX2_leastMoves rfl rfl (sg_n (m := 128) (N := 4) rfl rfl rfl)
theorem dX2_leastMoves_51 : decode cX2_leastMoves 51 = .ok (.iastore, 1) := D_79 yB_cX2_leastMoves rfl rfl
theorem dX2_leastMoves_52 : decode cX2_leastMoves 52 = .ok (.iinc 6 1, 3) := D_132 yB_cX2_leastMoves rfl rfl rfl (sg_p (m := 128) (N := 1) rfl rfl rfl)
theorem dX2_leastMoves_55 : decode cX2_leastMoves 55 = .ok (.goto (-20), 3) := D_167 yB_cX2_leastMoves rfl rfl (sg_n (m := 32768) (N := 20) rfl rfl rfl)
theorem dX2_leastMoves_58 : decode cX2_leastMoves 58 = .ok (.iload_n 1, 1) := D_27 yB_cX2_leastMoves rfl rfl
theorem dX2_leastMoves_59 : decode cX2_leastMoves 59 = .ok (.sipush 128, 3) := D_17 yB_cX2_leastMoves rfl rfl (sg_p (m := 32768) (N := 128) rfl rfl rfl)
theorem dX2_leastMoves_62 : decode cX2_leastMoves 62 = .ok (.imul, 1) := D_104 yB_cX2_leastMoves rfl rfl
theorem dX2_leastMoves_63 : decode cX2_leastMoves 63 = .ok (.iconst 2, 1) := D_5 yB_cX2_leastMoves rfl rfl
theorem dX2_leastMoves_64 : decode cX2_leastMoves 64 = .ok (.iload_n 1, 1) := D_27 yB_cX2_leastMoves rfl rfl
theorem dX2_leastMoves_65 : decode cX2_leastMoves 65 = .ok (.iload_n 2, 1) := D_28 yB_cX2_leastMoves rfl rfl
theorem dX2_leastMoves_66 : decode cX2_leastMoves 66 = .ok (.iadd, 1) := D_96 yB_cX2_leastMoves rfl rfl
theorem dX2_leastMoves_67 : decode cX2_leastMoves 67 = .ok (.ishl, 1) := D_120 yB_cX2_leastMoves rfl rfl
theorem dX2_leastMoves_68 : decode cX2_leastMoves 68 = .ok (.iconst 1, 1) := D_4 yB_cX2_leastMoves rfl rfl
theorem dX2_leastMoves_69 : decode cX2_leastMoves 69 = .ok (.iload_n 2, 1) := D_28 yB_cX2_leastMoves rfl rfl
theorem dX2_leastMoves_70 : decode cX2_leastMoves 70 = .ok (.ishl, 1) := D_120 yB_cX2_leastMoves rfl rfl
theorem dX2_leastMoves_71 : decode cX2_leastMoves 71 = .ok (.isub, 1) := D_100 yB_cX2_leastMoves rfl rfl
theorem dX2_leastMoves_72 : decode cX2_leastMoves 72 = .ok (.iadd, 1) := D_96 yB_cX2_leastMoves rfl rfl
theorem dX2_leastMoves_73 : decode cX2_leastMoves 73 = .ok (.istore 6, 2) := D_54 yB_cX2_leastMoves rfl rfl rfl
theorem dX2_leastMoves_75 : decode cX2_leastMoves 75 = .ok (.iload_n 2, 1) := D_28 yB_cX2_leastMoves rfl rfl
theorem dX2_leastMoves_76 : decode cX2_leastMoves 76 = .ok (.sipush 128, 3) := D_17 yB_cX2_leastMoves rfl rfl (sg_p (m := 32768) (N := 128) rfl rfl rfl)
theorem dX2_leastMoves_79 : decode cX2_leastMoves 79 = .ok (.imul, 1) := D_104 yB_cX2_leastMoves rfl rfl
theorem dX2_leastMoves_80 : decode cX2_leastMoves 80 = .ok (.iconst 1, 1) := D_4 yB_cX2_leastMoves rfl rfl
theorem dX2_leastMoves_81 : decode cX2_leastMoves 81 = .ok (.iload_n 1, 1) := D_27 yB_cX2_leastMoves rfl rfl
theorem dX2_leastMoves_82 : decode cX2_leastMoves 82 = .ok (.iload_n 2, 1) := D_28 yB_cX2_leastMoves rfl rfl
theorem dX2_leastMoves_83 : decode cX2_leastMoves 83 = .ok (.iadd, 1) := D_96 yB_cX2_leastMoves rfl rfl
theorem dX2_leastMoves_84 : decode cX2_leastMoves 84 = .ok (.ishl, 1) := D_120 yB_cX2_leastMoves rfl rfl
theorem dX2_leastMoves_85 : decode cX2_leastMoves 85 = .ok (.iconst 1, 1) := D_4 yB_cX2_leastMoves rfl rfl
theorem dX2_leastMoves_86 : decode cX2_leastMoves 86 = .ok (.iload_n 1, 1) := D_27 yB_cX2_leastMoves rfl rfl
theorem dX2_leastMoves_87 : decode cX2_leastMoves 87 = .ok (.ishl, 1) := D_120 yB_cX2_leastMoves rfl rfl
theorem dX2_leastMoves_88 : decode cX2_leastMoves 88 = .ok (.iadd, 1) := D_96 yB_cX2_leastMoves rfl rfl
theorem dX2_leastMoves_89 : decode cX2_leastMoves 89 = .ok (.iconst 1, 1) := D_4 yB_cX2_leastMoves rfl rfl
theorem dX2_leastMoves_90 : decode cX2_leastMoves 90 = .ok (.isub, 1) := D_100 yB_cX2_leastMoves rfl rfl
theorem dX2_leastMoves_91 : decode cX2_leastMoves 91 = .ok (.iadd, 1) := D_96 yB_cX2_leastMoves rfl rfl
theorem dX2_leastMoves_92 : decode cX2_leastMoves 92 = .ok (.istore 7, 2) := D_54 yB_cX2_leastMoves rfl rfl rfl
theorem dX2_leastMoves_94 : decode cX2_leastMoves 94 = .ok (.iload 6, 2) := D_21 yB_cX2_leastMoves rfl rfl rfl
theorem dX2_leastMoves_96 : decode cX2_leastMoves 96 = .ok (.sipush 896, 3) := D_17 yB_cX2_leastMoves rfl rfl (sg_p (m := 32768) (N := 896) rfl rfl rfl)
theorem dX2_leastMoves_99 : decode cX2_leastMoves 99 = .ok (.if_icmp .ge 11, 3) := D_162 yB_cX2_leastMoves rfl rfl (sg_p (m := 32768) (N := 11) rfl rfl rfl)
theorem dX2_leastMoves_102 : decode cX2_leastMoves 102 = .ok (.iload 7, 2) := D_21 yB_cX2_leastMoves rfl rfl rfl
theorem dX2_leastMoves_104 : decode cX2_leastMoves 104 = .ok (.sipush 896, 3) := D_17 yB_cX2_leastMoves rfl rfl (sg_p (m := 32768) (N := 896) rfl rfl rfl)
theorem dX2_leastMoves_107 : decode cX2_leastMoves 107 = .ok (.if_icmp .lt 6, 3) := D_161 yB_cX2_leastMoves rfl rfl (sg_p (m := 32768) (N := 6) rfl rfl rfl)
theorem dX2_leastMoves_110 : decode cX2_leastMoves 110 = .ok (.bipush (-4), 2) := D_16 yB_cX2_leastMoves rfl rfl (sg_n (m := 128) (N := 4) rfl rfl rfl)
theorem dX2_leastMoves_112 : decode cX2_leastMoves 112 = .ok (.ireturn, 1) := D_172 yB_cX2_leastMoves rfl rfl
theorem dX2_leastMoves_113 : decode cX2_leastMoves 113 = .ok (.aload_n 0, 1) := D_42 yB_cX2_leastMoves rfl rfl
theorem dX2_leastMoves_114 : decode cX2_leastMoves 114 = .ok (.iload 6, 2) := D_21 yB_cX2_leastMoves rfl rfl rfl
theorem dX2_leastMoves_116 : decode cX2_leastMoves 116 = .ok (.sipush 128, 3) := D_17 yB_cX2_leastMoves rfl rfl (sg_p (m := 32768) (N := 128) rfl rfl rfl)
theorem dX2_leastMoves_119 : decode cX2_leastMoves 119 = .ok (.idiv, 1) := D_108 yB_cX2_leastMoves rfl rfl
theorem dX2_leastMoves_120 : decode cX2_leastMoves 120 = .ok (.iload 6, 2) := D_21 yB_cX2_leastMoves rfl rfl rfl
theorem dX2_leastMoves_122 : decode cX2_leastMoves 122 = .ok (.sipush 128, 3) := D_17 yB_cX2_leastMoves rfl rfl (sg_p (m := 32768) (N := 128) rfl rfl rfl)
theorem dX2_leastMoves_125 : decode cX2_leastMoves 125 = .ok (.irem, 1) := D_112 yB_cX2_leastMoves rfl rfl
theorem dX2_leastMoves_126 : decode cX2_leastMoves 126 = .ok (.iconst 0, 1) := D_3 yB_cX2_leastMoves rfl rfl
theorem dX2_leastMoves_127 : decode cX2_leastMoves 127 = .ok (.invokevirtual 37, 3) := D_182 yB_cX2_leastMoves rfl rfl rfl
theorem dX2_leastMoves_130 : decode cX2_leastMoves 130 = .ok (.iconst 0, 1) := D_3 yB_cX2_leastMoves rfl rfl
theorem dX2_leastMoves_131 : decode cX2_leastMoves 131 = .ok (.istore 8, 2) := D_54 yB_cX2_leastMoves rfl rfl rfl
theorem dX2_leastMoves_133 : decode cX2_leastMoves 133 = .ok (.iload 8, 2) := D_21 yB_cX2_leastMoves rfl rfl rfl
theorem dX2_leastMoves_135 : decode cX2_leastMoves 135 = .ok (.aload_n 0, 1) := D_42 yB_cX2_leastMoves rfl rfl
theorem dX2_leastMoves_136 : decode cX2_leastMoves 136 = .ok (.getfield 34, 3) := D_180 yB_cX2_leastMoves rfl rfl rfl
theorem dX2_leastMoves_139 : decode cX2_leastMoves 139 = .ok (.if_icmp .ge 55, 3) := D_162 yB_cX2_leastMoves rfl rfl (sg_p (m := 32768) (N := 55) rfl rfl rfl)
theorem dX2_leastMoves_142 : decode cX2_leastMoves 142 = .ok (.iload 8, 2) := D_21 yB_cX2_leastMoves rfl rfl rfl
theorem dX2_leastMoves_144 : decode cX2_leastMoves 144 = .ok (.sipush 896, 3) := D_17 yB_cX2_leastMoves rfl rfl (sg_p (m := 32768) (N := 896) rfl rfl rfl)
theorem dX2_leastMoves_147 : decode cX2_leastMoves 147 = .ok (.if_icmp .ge 47, 3) := D_162 yB_cX2_leastMoves rfl rfl (sg_p (m := 32768) (N := 47) rfl rfl rfl)
theorem dX2_leastMoves_150 : decode cX2_leastMoves 150 = .ok (.aload_n 0, 1) := D_42 yB_cX2_leastMoves rfl rfl
theorem dX2_leastMoves_151 : decode cX2_leastMoves 151 = .ok (.getfield 11, 3) := D_180 yB_cX2_leastMoves rfl rfl rfl
theorem dX2_leastMoves_154 : decode cX2_leastMoves 154 = .ok (.iload 7, 2) := D_21 yB_cX2_leastMoves rfl rfl rfl
theorem dX2_leastMoves_156 : decode cX2_leastMoves 156 = .ok (.iaload, 1) := D_46 yB_cX2_leastMoves rfl rfl
theorem dX2_leastMoves_157 : decode cX2_leastMoves 157 = .ok (.bipush (-4), 2) := D_16 yB_cX2_leastMoves rfl rfl (sg_n (m := 128) (N := 4) rfl rfl rfl)
theorem dX2_leastMoves_159 : decode cX2_leastMoves 159 = .ok (.if_icmp .ne 35, 3) := D_160 yB_cX2_leastMoves rfl rfl (sg_p (m := 32768) (N := 35) rfl rfl rfl)
theorem dX2_leastMoves_162 : decode cX2_leastMoves 162 = .ok (.aload_n 0, 1) := D_42 yB_cX2_leastMoves rfl rfl
theorem dX2_leastMoves_163 : decode cX2_leastMoves 163 = .ok (.aload_n 0, 1) := D_42 yB_cX2_leastMoves rfl rfl
theorem dX2_leastMoves_164 : decode cX2_leastMoves 164 = .ok (.getfield 15, 3) := D_180 yB_cX2_leastMoves rfl rfl rfl
theorem dX2_leastMoves_167 : decode cX2_leastMoves 167 = .ok (.iload 8, 2) := D_21 yB_cX2_leastMoves rfl rfl rfl
theorem dX2_leastMoves_169 : decode cX2_leastMoves 169 = .ok (.iaload, 1) := D_46 yB_cX2_leastMoves rfl rfl
theorem dX2_leastMoves_170 : decode cX2_leastMoves 170 = .ok (.sipush 128, 3) := D_17 yB_cX2_leastMoves rfl rfl (sg_p (m := 32768) (N := 128) rfl rfl rfl)
theorem dX2_leastMoves_173 : decode cX2_leastMoves 173 = .ok (.idiv, 1) := D_108 yB_cX2_leastMoves rfl rfl
theorem dX2_leastMoves_174 : decode cX2_leastMoves 174 = .ok (.aload_n 0, 1) := D_42 yB_cX2_leastMoves rfl rfl
theorem dX2_leastMoves_175 : decode cX2_leastMoves 175 = .ok (.getfield 15, 3) := D_180 yB_cX2_leastMoves rfl rfl rfl
theorem dX2_leastMoves_178 : decode cX2_leastMoves 178 = .ok (.iload 8, 2) := D_21 yB_cX2_leastMoves rfl rfl rfl
theorem dX2_leastMoves_180 : decode cX2_leastMoves 180 = .ok (.iaload, 1) := D_46 yB_cX2_leastMoves rfl rfl
theorem dX2_leastMoves_181 : decode cX2_leastMoves 181 = .ok (.sipush 128, 3) := D_17 yB_cX2_leastMoves rfl rfl (sg_p (m := 32768) (N := 128) rfl rfl rfl)
theorem dX2_leastMoves_184 : decode cX2_leastMoves 184 = .ok (.irem, 1) := D_112 yB_cX2_leastMoves rfl rfl
theorem dX2_leastMoves_185 : decode cX2_leastMoves 185 = .ok (.invokevirtual 41, 3) := D_182 yB_cX2_leastMoves rfl rfl rfl
theorem dX2_leastMoves_188 : decode cX2_leastMoves 188 = .ok (.iinc 8 1, 3) := D_132 yB_cX2_leastMoves rfl rfl rfl (sg_p (m := 128) (N := 1) rfl rfl rfl)
theorem dX2_leastMoves_191 : decode cX2_leastMoves 191 = .ok (.goto (-58), 3) := D_167 yB_cX2_leastMoves rfl rfl (sg_n (m := 32768) (N := 58) rfl rfl rfl)
theorem dX2_leastMoves_194 : decode cX2_leastMoves 194 = .ok (.aload_n 0, 1) := D_42 yB_cX2_leastMoves rfl rfl
theorem dX2_leastMoves_195 : decode cX2_leastMoves 195 = .ok (.getfield 11, 3) := D_180 yB_cX2_leastMoves rfl rfl rfl
theorem dX2_leastMoves_198 : decode cX2_leastMoves 198 = .ok (.iload 7, 2) := D_21 yB_cX2_leastMoves rfl rfl rfl
theorem dX2_leastMoves_200 : decode cX2_leastMoves 200 = .ok (.iaload, 1) := D_46 yB_cX2_leastMoves rfl rfl
theorem dX2_leastMoves_201 : decode cX2_leastMoves 201 = .ok (.ireturn, 1) := D_172 yB_cX2_leastMoves rfl rfl
set_option maxHeartbeats 4000000 in
set_option maxRecDepth 100000 in
theorem c_X2_leastMoves (l : Launch) (D : va_G) (cA : Nat → ClassId) (ad : Nat → Nat) (o : Int64) (σ : Mem) (a : Nat) (b : Nat) (q : Nat) (x : Nat) (z : Nat) (ha : a ≤ 3) (hb3 : b ≤ 3) (hq : q ≤ 3) (hxb : x ≤ 6) (hz : z ≤ 6) (sz : Nat) : Met l yX2_leastMoves (WY yX2_leastMoves cX2_leastMoves 9 (some .int)) (RM 3) (va_Pc [.ref (ad 88), .int (nI a), .int (nI b), .int (nI q), .int (nI x), .int (nI z)] (PW D cA ad o σ sz)) (va_Qi (fun r (σ9 : Mem) => r = RWn a b q x z ∧ ∀ a9, a9 ≠ 88 → a9 ≠ 89 → a9 ≠ 90 → σ9 a9 = σ a9) (QW D cA ad o) (FA ad sz)) 0 0 (FA ad sz) := by
  refine ct_of (own := RX2) (k := 3) (Qf := va_Qi (fun r (σ9 : Mem) => r = RWn a b q x z ∧ ∀ a9, a9 ≠ 88 → a9 ≠ 89 → a9 ≠ 90 → σ9 a9 = σ a9) (QW D cA ad o)) rfl (by decide) (Nat.le_of_ble_eq_true rfl) (fun p e s m below meth c ls C0 X hr hlk hP hl => ?_) sz
  have hS : va_S (FA ad s.heap.size) s.heap s.heap [] := va_S.rf
  have hl : lv_has ls 9 [(0, .ref (ad 88)), (1, .int (nI a)), (2, .int (nI b)), (3, .int (nI q)), (4, .int (nI x)), (5, .int (nI z))] := hl
  obtain ⟨hx, hb, hml, hown, hts⟩ := id C0
  have hst := st_lt a (by omega) b (by omega)
  have hsv := st_v1 a (by omega) b (by omega)
  have hf := lmM_f σ a b q x z
  refine lv_aload_n hx hb dX2_leastMoves_0 rfl (lv_at hl 0 rfl) ?_
  refine lv_iload_n hx hb dX2_leastMoves_1 rfl (lv_at hl 1 rfl) ?_
  refine pf_X2_18 C0 X hP hS 88 ⟨by decide, rfl⟩ dX2_leastMoves_2 (fun H locs hP hS => ?_)
  refine lv_aload_n hx hb dX2_leastMoves_5 rfl (lv_at hl 0 rfl) ?_
  refine lv_iload_n hx hb dX2_leastMoves_6 rfl (lv_at hl 2 rfl) ?_
  refine pf_X2_22 C0 X hP hS 88 ⟨by decide, rfl⟩ dX2_leastMoves_7 (fun H locs hP hS => ?_)
  refine lv_aload_n hx hb dX2_leastMoves_10 rfl (lv_at hl 0 rfl) ?_
  refine lv_iload_n hx hb dX2_leastMoves_11 rfl (lv_at hl 3 rfl) ?_
  refine pf_X2_25 C0 X hP hS 88 ⟨by decide, rfl⟩ dX2_leastMoves_12 (fun H locs hP hS => ?_)
  refine lv_aload_n hx hb dX2_leastMoves_15 rfl (lv_at hl 0 rfl) ?_
  refine lv_iload hx hb dX2_leastMoves_16 (lv_at hl 4 rfl) ?_
  refine pf_X2_28 C0 X hP hS 88 ⟨by decide, rfl⟩ dX2_leastMoves_18 (fun H locs hP hS => ?_)
  refine lv_aload_n hx hb dX2_leastMoves_21 rfl (lv_at hl 0 rfl) ?_
  refine lv_iload hx hb dX2_leastMoves_22 (lv_at hl 5 rfl) ?_
  refine pf_X2_31 C0 X hP hS 88 ⟨by decide, rfl⟩ dX2_leastMoves_24 (fun H locs hP hS => ?_)
  refine lv_aload_n hx hb dX2_leastMoves_27 rfl (lv_at hl 0 rfl) ?_
  refine lv_iconst (v := 0) hx hb dX2_leastMoves_28 (by decide) ?_
  refine pf_X2_34 C0 X hP hS 88 ⟨by decide, rfl⟩ dX2_leastMoves_29 (fun H locs hP hS => ?_)
  refine lv_iconst (v := 0) hx hb dX2_leastMoves_32 (by decide) ?_
  refine lv_istore (lv' := [(6, .int 0), (0, .ref (ad 88)), (1, .int (nI a)), (2, .int (nI b)), (3, .int (nI q)), (4, .int (nI x)), (5, .int (nI z))]) hx hb dX2_leastMoves_33 hl (by decide) rfl (fun ls hl => ?_)
  have lp_1 : ∀ (nn : Nat) (k : Nat) (H : Heap) (locs : List Loc) (ls : Array Slot), k ≤ 896 → WP D cA ad o (lmM σ a b q x z k) H → va_S (FA ad s.heap.size) s.heap H locs → lv_has ls 9 [(0, .ref (ad 88)), (1, .int (nI a)), (2, .int (nI b)), (6, .int (nI k))] → (896 - k) < nn → W p l e (RM 3) s m ([.ref (ad 88), .int (nI a), .int (nI b), .int (nI q), .int (nI x), .int (nI z)] : List Value).toArray below meth c H locs 0 0 (MQ below (va_Qi (fun r (σ9 : Mem) => r = RWn a b q x z ∧ ∀ a9, a9 ≠ 88 → a9 ≠ 89 → a9 ≠ 90 → σ9 a9 = σ a9) (QW D cA ad o) (FA ad s.heap.size)) ([.ref (ad 88), .int (nI a), .int (nI b), .int (nI q), .int (nI x), .int (nI z)] : List Value).toArray s 0 0 (FA ad s.heap.size)) (F0 m 35 ls []) := by
    intro nn
    induction nn with
    | zero => intro k H locs ls hk hP hS hl hn; exact absurd hn (Nat.not_lt_zero _)
    | succ nn ih =>
      intro k H locs ls hk hP hS hl hn
      refine lv_iload hx hb dX2_leastMoves_35 (lv_at hl 3 rfl) ?_
      refine lv_sipush (v := 896) hx hb dX2_leastMoves_37 (by decide) ?_
      refine lv_icmp_ge (tgt := 58) hx hb dX2_leastMoves_40 (by decide) (fun c_2 => ?_) (fun c_2 => ?_)
      · obtain rfl : k = 896 := nI_geof (b := 896) c_2 hk (by omega)
        refine lv_iload_n hx hb dX2_leastMoves_58 rfl (lv_at hl 1 rfl) ?_
        refine lv_sipush (v := 128) hx hb dX2_leastMoves_59 (by decide) ?_
        refine lv_imul hx hb dX2_leastMoves_62 ?_
        refine lv_topE (y := (nI (a * 128))) (pk_mul a 128) ?_
        refine lv_iconst (v := 2) hx hb dX2_leastMoves_63 (by decide) ?_
        refine lv_iload_n hx hb dX2_leastMoves_64 rfl (lv_at hl 1 rfl) ?_
        refine lv_iload_n hx hb dX2_leastMoves_65 rfl (lv_at hl 2 rfl) ?_
        refine lv_iadd hx hb dX2_leastMoves_66 ?_
        refine lv_topE (y := (nI (a + b))) (nI_add _ _) ?_
        refine lv_ishl hx hb dX2_leastMoves_67 ?_
        refine lv_iconst (v := 1) hx hb dX2_leastMoves_68 (by decide) ?_
        refine lv_iload_n hx hb dX2_leastMoves_69 rfl (lv_at hl 2 rfl) ?_
        refine lv_ishl hx hb dX2_leastMoves_70 ?_
        refine lv_isub hx hb dX2_leastMoves_71 ?_
        refine lv_iadd hx hb dX2_leastMoves_72 ?_
        refine lv_topE (y := (nI (stC a b))) (st_ok a (by omega) b (by omega)) ?_
        refine lv_istore (lv' := [(6, .int (nI (stC a b))), (0, .ref (ad 88)), (1, .int (nI a)), (2, .int (nI b))]) hx hb dX2_leastMoves_73 hl (by decide) rfl (fun ls hl => ?_)
        refine lv_iload_n hx hb dX2_leastMoves_75 rfl (lv_at hl 3 rfl) ?_
        refine lv_sipush (v := 128) hx hb dX2_leastMoves_76 (by decide) ?_
        refine lv_imul hx hb dX2_leastMoves_79 ?_
        refine lv_topE (y := (nI (b * 128))) (pk_mul b 128) ?_
        refine lv_iconst (v := 1) hx hb dX2_leastMoves_80 (by decide) ?_
        refine lv_iload_n hx hb dX2_leastMoves_81 rfl (lv_at hl 2 rfl) ?_
        refine lv_iload_n hx hb dX2_leastMoves_82 rfl (lv_at hl 3 rfl) ?_
        refine lv_iadd hx hb dX2_leastMoves_83 ?_
        refine lv_topE (y := (nI (a + b))) (nI_add _ _) ?_
        refine lv_ishl hx hb dX2_leastMoves_84 ?_
        refine lv_iconst (v := 1) hx hb dX2_leastMoves_85 (by decide) ?_
        refine lv_iload_n hx hb dX2_leastMoves_86 rfl (lv_at hl 2 rfl) ?_
        refine lv_ishl hx hb dX2_leastMoves_87 ?_
        refine lv_iadd hx hb dX2_leastMoves_88 ?_
        refine lv_iconst (v := 1) hx hb dX2_leastMoves_89 (by decide) ?_
        refine lv_isub hx hb dX2_leastMoves_90 ?_
        refine lv_iadd hx hb dX2_leastMoves_91 ?_
        refine lv_topE (y := (nI (wtC a b))) (wt_ok a (by omega) b (by omega)) ?_
        refine lv_istore (lv' := [(7, .int (nI (wtC a b))), (6, .int (nI (stC a b))), (0, .ref (ad 88)), (1, .int (nI a)), (2, .int (nI b))]) hx hb dX2_leastMoves_92 hl (by decide) rfl (fun ls hl => ?_)
        refine lv_iload hx hb dX2_leastMoves_94 (lv_at hl 1 rfl) ?_
        refine lv_sipush (v := 896) hx hb dX2_leastMoves_96 (by decide) ?_
        refine lv_icmp_ge (tgt := 110) hx hb dX2_leastMoves_99 (by decide) (fun c_3 => absurd c_3 (nI_ge (a := stC a b) (b := 896) hst.1 (by decide))) (fun c_3 => ?_)
        refine lv_iload hx hb dX2_leastMoves_102 (lv_at hl 0 rfl) ?_
        refine lv_sipush (v := 896) hx hb dX2_leastMoves_104 (by decide) ?_
        refine lv_icmp_lt (tgt := 113) hx hb dX2_leastMoves_107 (by decide) (fun c_4 => ?_) (fun c_4 => absurd (nI_lt (a := wtC a b) (b := 896) hst.2 (by decide)) c_4)
        refine lv_aload_n hx hb dX2_leastMoves_113 rfl (lv_at hl 2 rfl) ?_
        refine lv_iload hx hb dX2_leastMoves_114 (lv_at hl 1 rfl) ?_
        refine lv_sipush (v := 128) hx hb dX2_leastMoves_116 (by decide) ?_
        refine lv_idiv hx hb dX2_leastMoves_119 (by decide) ?_
        refine lv_topE (y := (nI (stC a b / 128))) (pk_div128 (by omega)) ?_
        refine lv_iload hx hb dX2_leastMoves_120 (lv_at hl 1 rfl) ?_
        refine lv_sipush (v := 128) hx hb dX2_leastMoves_122 (by decide) ?_
        refine lv_irem hx hb dX2_leastMoves_125 (by decide) ?_
        refine lv_topE (y := (nI (stC a b % 128))) (pk_rem128 (by omega)) ?_
        refine lv_iconst (v := 0) hx hb dX2_leastMoves_126 (by decide) ?_
        refine r_cv X hS (r_runV (As := [.int (nI (stC a b / 128)), .int (nI (stC a b % 128)), .int 0]) (rest := []) C0 X hP L_X2_37 (fun sz => c_X2_reach l D cA ad o (lmM σ a b q x z 896) ([]) (stC a b / 128) (stC a b % 128) 0 (lmM_rep σ a b q x z) (by have := ln_lt (stC a b % 128) (by omega); omega) (Nat.mod_lt _ (by decide)) (Nat.le_refl 0) sz) (show 88 < 106 ∧ kd 88 = (2, 8) from ⟨by decide, rfl⟩).1 (show 88 < 106 ∧ kd 88 = (2, 8) from ⟨by decide, rfl⟩).2 (by decide) rfl ⟨Nat.le_of_ble_eq_true rfl, Nat.le_of_ble_eq_true rfl⟩ rfl hl.1 rfl (Nat.le_of_ble_eq_true rfl) dX2_leastMoves_127 ⟨Nat.zero_le _, Nat.zero_le _⟩) (fun σw_5 H locs hw_5 hP hS => ?_)
        refine lv_iconst (v := 0) hx hb dX2_leastMoves_130 (by decide) ?_
        refine lv_istore (lv' := [(8, .int 0), (7, .int (nI (wtC a b))), (6, .int (nI (stC a b))), (0, .ref (ad 88)), (1, .int (nI a)), (2, .int (nI b))]) hx hb dX2_leastMoves_131 hl (by decide) rfl (fun ls hl => ?_)
        have lp_6 : ∀ (nn : Nat) (i : Nat) (μ : Mem) (H : Heap) (locs : List Loc) (ls : Array Slot), RepC (QB a b q x z i) μ → FrP (lmM σ a b q x z 896) μ → i ≤ (QB a b q x z i).length → WP D cA ad o μ H → va_S (FA ad s.heap.size) s.heap H locs → lv_has ls 9 [(0, .ref (ad 88)), (7, .int (nI (wtC a b))), (8, .int (nI i))] → (897 - i) < nn → W p l e (RM 3) s m ([.ref (ad 88), .int (nI a), .int (nI b), .int (nI q), .int (nI x), .int (nI z)] : List Value).toArray below meth c H locs 0 0 (MQ below (va_Qi (fun r (σ9 : Mem) => r = RWn a b q x z ∧ ∀ a9, a9 ≠ 88 → a9 ≠ 89 → a9 ≠ 90 → σ9 a9 = σ a9) (QW D cA ad o) (FA ad s.heap.size)) ([.ref (ad 88), .int (nI a), .int (nI b), .int (nI q), .int (nI x), .int (nI z)] : List Value).toArray s 0 0 (FA ad s.heap.size)) (F0 m 133 ls []) := by
          intro nn
          induction nn with
          | zero => intro i μ H locs ls hR1 hF1 hi hP hS hl hn; exact absurd hn (Nat.not_lt_zero _)
          | succ nn ih =>
            intro i μ H locs ls hR1 hF1 hi hP hS hl hn
            refine lv_iload hx hb dX2_leastMoves_133 (lv_at hl 2 rfl) ?_
            refine lv_aload_n hx hb dX2_leastMoves_135 rfl (lv_at hl 0 rfl) ?_
            refine gf_X2_34 C0 X hP 88 ⟨by decide, rfl⟩ dX2_leastMoves_136 ?_
            refine lv_topE (y := (nI (QB a b q x z i).length)) hR1.1 ?_
            refine lv_icmp_ge (tgt := 194) hx hb dX2_leastMoves_139 (by decide) (fun c_7 => ?_) (fun c_7 => ?_)
            · refine lv_aload_n hx hb dX2_leastMoves_194 rfl (lv_at hl 0 rfl) ?_
              refine gf_X2_11 C0 X hP 88 (q := 89) ⟨by decide, rfl⟩ (by omega) rfl dX2_leastMoves_195 ?_
              refine lv_iload hx hb dX2_leastMoves_198 (lv_at hl 1 rfl) ?_
              refine r_ialdN C0 X hP 89 (k := (wtC a b)) ⟨by decide, rfl⟩ rfl hst.2 dX2_leastMoves_200 ?_
              exact r_iret C0 X hP hS hr hlk dX2_leastMoves_201 ⟨by rw [resQ_rep hR1 hst.2]; exact RWn_at (by have := RepC_len hR1; omega) (Or.inl (Nat.not_lt.mp (nI_nlt_of c_7 (by have := RepC_len hR1; omega)))), fun a9 h1 h2 h3 => (hF1.1 a9 h1 h2 h3).trans (lmM_ne σ a b q x z 896 h1 h2)⟩
            · have hL9 := RepC_len hR1
              have hi2 : i < (QB a b q x z i).length := nI_lt_of c_7 (by omega)
              refine lv_iload hx hb dX2_leastMoves_142 (lv_at hl 2 rfl) ?_
              refine lv_sipush (v := 896) hx hb dX2_leastMoves_144 (by decide) ?_
              refine lv_icmp_ge (tgt := 194) hx hb dX2_leastMoves_147 (by decide) (fun c_8 => absurd c_8 (nI_ge (a := i) (b := 896) (by have := RepC_len hR1; omega) (by decide))) (fun c_8 => ?_)
              refine lv_aload_n hx hb dX2_leastMoves_150 rfl (lv_at hl 0 rfl) ?_
              refine gf_X2_11 C0 X hP 88 (q := 89) ⟨by decide, rfl⟩ (by omega) rfl dX2_leastMoves_151 ?_
              refine lv_iload hx hb dX2_leastMoves_154 (lv_at hl 1 rfl) ?_
              refine r_ialdN C0 X hP 89 (k := (wtC a b)) ⟨by decide, rfl⟩ rfl hst.2 dX2_leastMoves_156 ?_
              refine lv_bipush (v := (-4)) hx hb dX2_leastMoves_157 (by decide) ?_
              refine lv_icmp_ne (tgt := 194) hx hb dX2_leastMoves_159 (by decide) (fun c_9 => ?_) (fun c_9 => ?_)
              · refine lv_aload_n hx hb dX2_leastMoves_194 rfl (lv_at hl 0 rfl) ?_
                refine gf_X2_11 C0 X hP 88 (q := 89) ⟨by decide, rfl⟩ (by omega) rfl dX2_leastMoves_195 ?_
                refine lv_iload hx hb dX2_leastMoves_198 (lv_at hl 1 rfl) ?_
                refine r_ialdN C0 X hP 89 (k := (wtC a b)) ⟨by decide, rfl⟩ rfl hst.2 dX2_leastMoves_200 ?_
                exact r_iret C0 X hP hS hr hlk dX2_leastMoves_201 ⟨by rw [resQ_rep hR1 hst.2]; exact RWn_at (by have := RepC_len hR1; omega) (Or.inr (Classical.byContradiction (fun q9 => c_9 ((RepC_iff hR1 hst.2).mpr q9)))), fun a9 h1 h2 h3 => (hF1.1 a9 h1 h2 h3).trans (lmM_ne σ a b q x z 896 h1 h2)⟩
              · obtain ⟨c9, d9, hg⟩ := getQ hi2
                have hk9 := hR1.2.2.1 i c9 d9 hg
                have hv9 := QB_v (q := q) (z := z) ha hb3 hxb i c9 (List.mem_map.mpr ⟨(c9, d9), List.mem_of_getElem? hg, rfl⟩)
                refine lv_aload_n hx hb dX2_leastMoves_162 rfl (lv_at hl 0 rfl) ?_
                refine lv_aload_n hx hb dX2_leastMoves_163 rfl (lv_at hl 0 rfl) ?_
                refine gf_X2_15 C0 X hP 88 (q := 90) ⟨by decide, rfl⟩ (by omega) rfl dX2_leastMoves_164 ?_
                refine lv_iload hx hb dX2_leastMoves_167 (lv_at hl 2 rfl) ?_
                refine r_ialdN C0 X hP 90 (k := i) ⟨by decide, rfl⟩ rfl (by have := RepC_len hR1; omega) dX2_leastMoves_169 ?_
                refine lv_topE (y := (nI c9)) hk9.1 ?_
                refine lv_sipush (v := 128) hx hb dX2_leastMoves_170 (by decide) ?_
                refine lv_idiv hx hb dX2_leastMoves_173 (by decide) ?_
                refine lv_topE (y := (nI (c9 / 128))) (pk_div128 (by omega)) ?_
                refine lv_aload_n hx hb dX2_leastMoves_174 rfl (lv_at hl 0 rfl) ?_
                refine gf_X2_15 C0 X hP 88 (q := 90) ⟨by decide, rfl⟩ (by omega) rfl dX2_leastMoves_175 ?_
                refine lv_iload hx hb dX2_leastMoves_178 (lv_at hl 2 rfl) ?_
                refine r_ialdN C0 X hP 90 (k := i) ⟨by decide, rfl⟩ rfl (by have := RepC_len hR1; omega) dX2_leastMoves_180 ?_
                refine lv_topE (y := (nI c9)) hk9.1 ?_
                refine lv_sipush (v := 128) hx hb dX2_leastMoves_181 (by decide) ?_
                refine lv_irem hx hb dX2_leastMoves_184 (by decide) ?_
                refine lv_topE (y := (nI (c9 % 128))) (pk_rem128 (by omega)) ?_
                refine r_cv X hS (r_runV (As := [.int (nI (c9 / 128)), .int (nI (c9 % 128))]) (rest := []) C0 X hP L_X2_41 (fun sz => c_X2_tryMoves l D cA ad o μ (QB a b q x z i) (c9 / 128) (c9 % 128) a b q x z d9 hR1 ((hF1.2 3 (by decide)).trans hf.1) ((hF1.2 4 (by decide)).trans hf.2.1) ((hF1.2 5 (by decide)).trans hf.2.2.1) ((hF1.2 6 (by decide)).trans hf.2.2.2.1) ((hF1.2 7 (by decide)).trans hf.2.2.2.2) ha hb3 hq hxb hz hv9.2.1 (Nat.mod_lt _ (by decide)) hv9.2.2.1 hv9.2.2.2.1 hv9.2.2.2.2 (by rw [show c9 / 128 * 128 + c9 % 128 = c9 by omega]; exact hk9.2.1) (by omega) sz) (show 88 < 106 ∧ kd 88 = (2, 8) from ⟨by decide, rfl⟩).1 (show 88 < 106 ∧ kd 88 = (2, 8) from ⟨by decide, rfl⟩).2 (by decide) rfl ⟨Nat.le_of_ble_eq_true rfl, Nat.le_of_ble_eq_true rfl⟩ rfl hl.1 rfl (Nat.le_of_ble_eq_true rfl) dX2_leastMoves_185 ⟨Nat.zero_le _, Nat.zero_le _⟩) (fun σw_10 H locs hw_10 hP hS => ?_)
                refine lv_iinc (v := (nI (i + 1))) (lv' := [(8, .int (nI (i + 1))), (0, .ref (ad 88)), (7, .int (nI (wtC a b)))]) hx hb dX2_leastMoves_188 hl (k := 2) rfl (nI_1 _) (by decide) rfl (fun ls hl => ?_)
                refine lv_goto (tgt := 133) hx hb dX2_leastMoves_191 (by decide) ?_
                exact ih (i + 1) σw_10 _ _ ls (by rw [← QB_s hg]; exact hw_10.1) (FrP_trans hF1 hw_10.2) (by rw [← QB_s hg]; exact Nat.le_trans hi2 (foldQ_len _ _ _)) hP hS (lv_sub hl [1, 2, 0] rfl) (by omega)
        exact lp_6 ((897 - 0) + 1) 0 σw_5 _ _ ls (by rw [← QB_0]; exact hw_5.1) hw_5.2 (Nat.zero_le _) hP hS (lv_sub hl [3, 1, 0] rfl) (by omega)
      · have hk7 : k < 896 := nI_ltof (b := 896) c_2 (by omega)
        refine lv_aload_n hx hb dX2_leastMoves_43 rfl (lv_at hl 0 rfl) ?_
        refine gf_X2_11 C0 X hP 88 (q := 89) ⟨by decide, rfl⟩ (by omega) rfl dX2_leastMoves_44 ?_
        refine lv_iload hx hb dX2_leastMoves_47 (lv_at hl 3 rfl) ?_
        refine lv_bipush (v := (-4)) hx hb dX2_leastMoves_49 (by decide) ?_
        refine r_iastN C0 X hP hS 89 (k := k) ⟨by decide, rfl⟩ rfl hk7 dX2_leastMoves_51 (fun H locs hP hS => ?_)
        refine lv_iinc (v := (nI (k + 1))) (lv' := [(6, .int (nI (k + 1))), (0, .ref (ad 88)), (1, .int (nI a)), (2, .int (nI b))]) hx hb dX2_leastMoves_52 hl (k := 3) rfl (nI_1 _) (by decide) rfl (fun ls hl => ?_)
        refine lv_goto (tgt := 35) hx hb dX2_leastMoves_55 (by decide) ?_
        exact ih (k + 1) _ _ ls (by omega) (mem_cast (rv_s _ 89 k (-4)) hP) hS (lv_sub hl [1, 2, 3, 0] rfl) (by omega)
  exact lp_1 ((896 - 0) + 1) 0 _ _ ls (by decide) (mem_cast (rv_0 _ 89 (-4)) hP) hS (lv_sub hl [1, 2, 3, 0] rfl) (by omega)
