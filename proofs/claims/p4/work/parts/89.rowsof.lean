/-! the reference's search is the pure one -/
theorem sh_1 : ∀ a, a < 4 → (1 : Int32) <<< (nI a &&& 31) = nI (2 ^ a) := by decide +kernel
theorem sh_2 : ∀ b, b < 4 → (2 : Int32) <<< (nI b &&& 31) = nI (2 ^ (b + 1)) := by decide +kernel
theorem pw_1 : ∀ a, a < 4 → (2 ^ a ≤ 8 ∧ 2 ^ (a + 1) ≤ 16) := by decide +kernel
theorem shr1 : ∀ v, v < 128 → nI v >>> ((1 : Int32) &&& 31) = nI (v / 2) := by decide +kernel
theorem and1 : ∀ v, v < 128 → nI v &&& 1 = nI (v % 2) := by decide +kernel
theorem pk_div16 {n : Nat} (h : n < 2 ^ 31) : nI n / 16 = nI (n / 16) := pk_div (d := 16) h (by decide) (by decide)
theorem pk_div4 {n : Nat} (h : n < 2 ^ 31) : nI n / 4 = nI (n / 4) := pk_div (d := 4) h (by decide) (by decide)
theorem pk_rem4 {n : Nat} (h : n < 2 ^ 31) : nI n - nI n / 4 * 4 = nI (n % 4) := pk_rem (d := 4) h (by decide) (by decide)
theorem RepR_0 (a b : Nat) (σ : Mem) : RepR σ a b [] (stm σ 91 23 0) := ⟨⟨by simp [stm, upd]; rfl, fun k c d h => by simp at h⟩, fun i h1 _ _ => stm_ne _ _ _ h1, fun j hj => by rw [stm_row, upd_ne _ _ hj]⟩
theorem QG_0 (a b : Nat) : QG a b [] := ⟨List.nodup_nil, fun c h => absurd h List.not_mem_nil⟩
theorem st_vcd {a b : Nat} (ha : a ≤ 3) (hb : b ≤ 3) : vcd a b (stC a b) := ⟨(st_lt a (by omega) b (by omega)).1, (st_v1 a (by omega) b (by omega)).1, (st_v1 a (by omega) b (by omega)).2, st_v2 a (by omega) b (by omega)⟩
theorem QB_g {a b q x z : Nat} (ha : a ≤ 3) (hb : b ≤ 3) (hx : x ≤ 6) (i : Nat) : QG a b (QB a b q x z i) := by
  refine ⟨?_, QB_v ha hb hx i⟩
  induction i with
  | zero => simp [QB]
  | succ i ih =>
    rw [QB, procQ]
    split
    · exact ih
    · exact foldQ_nd _ _ _ ih
theorem QB_no {a b q x z i w c9 d9 : Nat} (hg : (QB a b q x z i)[i]? = some (c9, d9)) (hne : c9 ≠ w) (hno : ∀ j c d : Nat, j < i → (QB a b q x z i)[j]? = some (c, d) → c ≠ w) : ∀ j c d : Nat, j < i + 1 → (QB a b q x z (i + 1))[j]? = some (c, d) → c ≠ w := by
  intro j c d hj hk
  obtain ⟨R, hR⟩ := QB_pre a b q x z i 1
  have hil := (List.getElem?_eq_some_iff.mp hg).1
  rw [hR, List.getElem?_append_left (by omega)] at hk
  rcases (show j < i ∨ j = i by omega) with h | rfl
  · exact hno j c d h hk
  · rw [hg] at hk
    rw [← (Prod.mk.inj (Option.some.inj hk)).1]
    exact hne
def m5a (a x br ln : Nat) : List Nat := if pcN ln - 1 < a then cb1 x br ln 1 else []
def m5b (a z br ln : Nat) : List Nat := if pcN ln - 1 < a then cb2 z br ln 1 else []
def m6a (b x br ln : Nat) : List Nat := if Nat.log2 ln - (pcN ln - 1) < b then cb1 x br ln 0 else []
def m6b (b z br ln : Nat) : List Nat := if Nat.log2 ln - (pcN ln - 1) < b then cb2 z br ln 0 else []
theorem nbrL_eq (a b q x z br ln : Nat) : nbrL a b q x z br ln = mm1 z br ln ++ mm2 x br ln ++ mm3 a b q br ln ++ mm4 a b q br ln ++ m5a a x br ln ++ m5b a z br ln ++ m6a b x br ln ++ m6b b z br ln := by
  have e5 : mm5 a x z br ln = m5a a x br ln ++ m5b a z br ln := by unfold mm5 m5a m5b; split <;> rfl
  have e6 : mm6 b x z br ln = m6a b x br ln ++ m6b b z br ln := by unfold mm6 m6a m6b; split <;> rfl
  rw [nbrL, e5, e6]
  simp only [List.append_assoc]
def bB_cX8_rowsOf : Nat := 0xacfc108dfea70107840f01b60d1564040c150b156004680a150509152a1700a205150f151e009e0c150f01b60d1564040c150b150a156004680915052a1700a204150e151e009e0c150f01b60d150c1564040b15680a150509152a1500a205150f151c009e0b150f01b60d150c1564040b150a15680915052a1500a204150e151c009e0b150f01b60d15607e040a150c15647e040a1560040b157a040a1509152a1f00a21d600c150b1528009e0f150f01b60d15607e0409150c15647e04091560040b150a157a0409152a1f00a21d600c150b1528009e0e150f01b60d150c150b157a040a15607e040a15680915052a1a00a204150e1521009e0f150f01b60d150c150b15607e040915680a15057a0409152a1a00a205150f1521009e0e150f361301b80a150e361301b80915ac0d150600a0680615101008150d362e07152b00b42a0c36700708150b3670076c0708150a36708000116c1010081509366c8000116c1010081508362e07152e00b42a7001a20c01b42a0715073603063660781b04688000116404781c050f01b60203036404781c05781b042a0c01b5032a
set_option maxRecDepth 100000 in
theorem yB_cX8_rowsOf : BYS cX8_rowsOf 415 bB_cX8_rowsOf := BYS_of (by decide +kernel)
theorem dX8_rowsOf_0 : decode cX8_rowsOf 0 = .ok (.aload_n 0, 1) := D_42 yB_cX8_rowsOf rfl rfl
theorem dX8_rowsOf_1 : decode cX8_rowsOf 1 = .ok (.iconst 0, 1) := D_3 yB_cX8_rowsOf rfl rfl
theorem dX8_rowsOf_2 : decode cX8_rowsOf 2 = .ok (.putfield 268, 3) := D_181 yB_cX8_rowsOf rfl rfl rfl
theorem dX8_rowsOf_5 : decode cX8_rowsOf 5 = .ok (.aload_n 0, 1) := D_42 yB_cX8_rowsOf rfl rfl
theorem dX8_rowsOf_6 : decode cX8_rowsOf 6 = .ok (.iconst 1, 1) := D_4 yB_cX8_rowsOf rfl rfl
theorem dX8_rowsOf_7 : decode cX8_rowsOf 7 = .ok (.iload_n 1, 1) := D_27 yB_cX8_rowsOf rfl rfl
theorem dX8_rowsOf_8 : decode cX8_rowsOf 8 = .ok (.ishl, 1) := D_120 yB_cX8_rowsOf rfl rfl
theorem dX8_rowsOf_9 : decode cX8_rowsOf 9 = .ok (.iconst 2, 1) := D_5 yB_cX8_rowsOf rfl rfl
theorem dX8_rowsOf_10 : decode cX8_rowsOf 10 = .ok (.iload_n 2, 1) := D_28 yB_cX8_rowsOf rfl rfl
theorem dX8_rowsOf_11 : decode cX8_rowsOf 11 = .ok (.ishl, 1) := D_120 yB_cX8_rowsOf rfl rfl
theorem dX8_rowsOf_12 : decode cX8_rowsOf 12 = .ok (.iconst 1, 1) := D_4 yB_cX8_rowsOf rfl rfl
theorem dX8_rowsOf_13 : decode cX8_rowsOf 13 = .ok (.isub, 1) := D_100 yB_cX8_rowsOf rfl rfl
theorem dX8_rowsOf_14 : decode cX8_rowsOf 14 = .ok (.iconst 0, 1) := D_3 yB_cX8_rowsOf rfl rfl
theorem dX8_rowsOf_15 : decode cX8_rowsOf 15 = .ok (.iconst 0, 1) := D_3 yB_cX8_rowsOf rfl rfl
theorem dX8_rowsOf_16 : decode cX8_rowsOf 16 = .ok (.iconst (-1), 1) := D_2 yB_cX8_rowsOf rfl rfl
theorem dX8_rowsOf_17 : decode cX8_rowsOf 17 = .ok (.invokevirtual 271, 3) := D_182 yB_cX8_rowsOf rfl rfl rfl
theorem dX8_rowsOf_20 : decode cX8_rowsOf 20 = .ok (.iconst 2, 1) := D_5 yB_cX8_rowsOf rfl rfl
theorem dX8_rowsOf_21 : decode cX8_rowsOf 21 = .ok (.iload_n 2, 1) := D_28 yB_cX8_rowsOf rfl rfl
theorem dX8_rowsOf_22 : decode cX8_rowsOf 22 = .ok (.ishl, 1) := D_120 yB_cX8_rowsOf rfl rfl
theorem dX8_rowsOf_23 : decode cX8_rowsOf 23 = .ok (.iconst 1, 1) := D_4 yB_cX8_rowsOf rfl rfl
theorem dX8_rowsOf_24 : decode cX8_rowsOf 24 = .ok (.isub, 1) := D_100 yB_cX8_rowsOf rfl rfl
theorem dX8_rowsOf_25 : decode cX8_rowsOf 25 = .ok (.sipush 128, 3) := D_17 yB_cX8_rowsOf rfl rfl (sg_p (m := 32768) (N := 128) rfl rfl rfl)
theorem dX8_rowsOf_28 : decode cX8_rowsOf 28 = .ok (.imul, 1) := D_104 yB_cX8_rowsOf rfl rfl
theorem dX8_rowsOf_29 : decode cX8_rowsOf 29 = .ok (.iconst 1, 1) := D_4 yB_cX8_rowsOf rfl rfl
theorem dX8_rowsOf_30 : decode cX8_rowsOf 30 = .ok (.iload_n 1, 1) := D_27 yB_cX8_rowsOf rfl rfl
theorem dX8_rowsOf_31 : decode cX8_rowsOf 31 = .ok (.ishl, 1) := D_120 yB_cX8_rowsOf rfl rfl
theorem dX8_rowsOf_32 : decode cX8_rowsOf 32 = .ok (.iadd, 1) := D_96 yB_cX8_rowsOf rfl rfl
theorem dX8_rowsOf_33 : decode cX8_rowsOf 33 = .ok (.istore 6, 2) := D_54 yB_cX8_rowsOf rfl rfl rfl
theorem dX8_rowsOf_35 : decode cX8_rowsOf 35 = .ok (.iconst 0, 1) := D_3 yB_cX8_rowsOf rfl rfl
theorem dX8_rowsOf_36 : decode cX8_rowsOf 36 = .ok (.istore 7, 2) := D_54 yB_cX8_rowsOf rfl rfl rfl
theorem dX8_rowsOf_38 : decode cX8_rowsOf 38 = .ok (.iload 7, 2) := D_21 yB_cX8_rowsOf rfl rfl rfl
theorem dX8_rowsOf_40 : decode cX8_rowsOf 40 = .ok (.aload_n 0, 1) := D_42 yB_cX8_rowsOf rfl rfl
theorem dX8_rowsOf_41 : decode cX8_rowsOf 41 = .ok (.getfield 268, 3) := D_180 yB_cX8_rowsOf rfl rfl rfl
theorem dX8_rowsOf_44 : decode cX8_rowsOf 44 = .ok (.if_icmp .ge 368, 3) := D_162 yB_cX8_rowsOf rfl rfl (sg_p (m := 32768) (N := 368) rfl rfl rfl)
theorem dX8_rowsOf_47 : decode cX8_rowsOf 47 = .ok (.aload_n 0, 1) := D_42 yB_cX8_rowsOf rfl rfl
theorem dX8_rowsOf_48 : decode cX8_rowsOf 48 = .ok (.getfield 46, 3) := D_180 yB_cX8_rowsOf rfl rfl rfl
theorem dX8_rowsOf_51 : decode cX8_rowsOf 51 = .ok (.iload 7, 2) := D_21 yB_cX8_rowsOf rfl rfl rfl
theorem dX8_rowsOf_53 : decode cX8_rowsOf 53 = .ok (.iaload, 1) := D_46 yB_cX8_rowsOf rfl rfl
theorem dX8_rowsOf_54 : decode cX8_rowsOf 54 = .ok (.istore 8, 2) := D_54 yB_cX8_rowsOf rfl rfl rfl
theorem dX8_rowsOf_56 : decode cX8_rowsOf 56 = .ok (.iload 8, 2) := D_21 yB_cX8_rowsOf rfl rfl rfl
theorem dX8_rowsOf_58 : decode cX8_rowsOf 58 = .ok (.bipush 16, 2) := D_16 yB_cX8_rowsOf rfl rfl (sg_p (m := 128) (N := 16) rfl rfl rfl)
theorem dX8_rowsOf_60 : decode cX8_rowsOf 60 = .ok (.idiv, 1) := D_108 yB_cX8_rowsOf rfl rfl
theorem dX8_rowsOf_61 : decode cX8_rowsOf 61 = .ok (.sipush 128, 3) := D_17 yB_cX8_rowsOf rfl rfl (sg_p (m := 32768) (N := 128) rfl rfl rfl)
theorem dX8_rowsOf_64 : decode cX8_rowsOf 64 = .ok (.idiv, 1) := D_108 yB_cX8_rowsOf rfl rfl
theorem dX8_rowsOf_65 : decode cX8_rowsOf 65 = .ok (.istore 9, 2) := D_54 yB_cX8_rowsOf rfl rfl rfl
theorem dX8_rowsOf_67 : decode cX8_rowsOf 67 = .ok (.iload 8, 2) := D_21 yB_cX8_rowsOf rfl rfl rfl
theorem dX8_rowsOf_69 : decode cX8_rowsOf 69 = .ok (.bipush 16, 2) := D_16 yB_cX8_rowsOf rfl rfl (sg_p (m := 128) (N := 16) rfl rfl rfl)
theorem dX8_rowsOf_71 : decode cX8_rowsOf 71 = .ok (.idiv, 1) := D_108 yB_cX8_rowsOf rfl rfl
theorem dX8_rowsOf_72 : decode cX8_rowsOf 72 = .ok (.sipush 128, 3) := D_17 yB_cX8_rowsOf rfl rfl (sg_p (m := 32768) (N := 128) rfl rfl rfl)
theorem dX8_rowsOf_75 : decode cX8_rowsOf 75 = .ok (.irem, 1) := D_112 yB_cX8_rowsOf rfl rfl
theorem dX8_rowsOf_76 : decode cX8_rowsOf 76 = .ok (.istore 10, 2) := D_54 yB_cX8_rowsOf rfl rfl rfl
theorem dX8_rowsOf_78 : decode cX8_rowsOf 78 = .ok (.iload 8, 2) := D_21 yB_cX8_rowsOf rfl rfl rfl
theorem dX8_rowsOf_80 : decode cX8_rowsOf 80 = .ok (.iconst 4, 1) := D_7 yB_cX8_rowsOf rfl rfl
theorem dX8_rowsOf_81 : decode cX8_rowsOf 81 = .ok (.idiv, 1) := D_108 yB_cX8_rowsOf rfl rfl
theorem dX8_rowsOf_82 : decode cX8_rowsOf 82 = .ok (.iconst 4, 1) := D_7 yB_cX8_rowsOf rfl rfl
theorem dX8_rowsOf_83 : decode cX8_rowsOf 83 = .ok (.irem, 1) := D_112 yB_cX8_rowsOf rfl rfl
theorem dX8_rowsOf_84 : decode cX8_rowsOf 84 = .ok (.istore 11, 2) := D_54 yB_cX8_rowsOf rfl rfl rfl
theorem dX8_rowsOf_86 : decode cX8_rowsOf 86 = .ok (.iload 8, 2) := D_21 yB_cX8_rowsOf rfl rfl rfl
theorem dX8_rowsOf_88 : decode cX8_rowsOf 88 = .ok (.iconst 4, 1) := D_7 yB_cX8_rowsOf rfl rfl
theorem dX8_rowsOf_89 : decode cX8_rowsOf 89 = .ok (.irem, 1) := D_112 yB_cX8_rowsOf rfl rfl
theorem dX8_rowsOf_90 : decode cX8_rowsOf 90 = .ok (.istore 12, 2) := D_54 yB_cX8_rowsOf rfl rfl rfl
theorem dX8_rowsOf_92 : decode cX8_rowsOf 92 = .ok (.aload_n 0, 1) := D_42 yB_cX8_rowsOf rfl rfl
theorem dX8_rowsOf_93 : decode cX8_rowsOf 93 = .ok (.getfield 43, 3) := D_180 yB_cX8_rowsOf rfl rfl rfl
theorem dX8_rowsOf_96 : decode cX8_rowsOf 96 = .ok (.iload 7, 2) := D_21 yB_cX8_rowsOf rfl rfl rfl
theorem dX8_rowsOf_98 : decode cX8_rowsOf 98 = .ok (.iaload, 1) := D_46 yB_cX8_rowsOf rfl rfl
theorem dX8_rowsOf_99 : decode cX8_rowsOf 99 = .ok (.istore 13, 2) := D_54 yB_cX8_rowsOf rfl rfl rfl
theorem dX8_rowsOf_101 : decode cX8_rowsOf 101 = .ok (.iload 8, 2) := D_21 yB_cX8_rowsOf rfl rfl rfl
theorem dX8_rowsOf_103 : decode cX8_rowsOf 103 = .ok (.bipush 16, 2) := D_16 yB_cX8_rowsOf rfl rfl (sg_p (m := 128) (N := 16) rfl rfl rfl)
theorem dX8_rowsOf_105 : decode cX8_rowsOf 105 = .ok (.iload 6, 2) := D_21 yB_cX8_rowsOf rfl rfl rfl
theorem dX8_rowsOf_107 : decode cX8_rowsOf 107 = .ok (.imul, 1) := D_104 yB_cX8_rowsOf rfl rfl
theorem dX8_rowsOf_108 : decode cX8_rowsOf 108 = .ok (.if_icmp .ne 6, 3) := D_160 yB_cX8_rowsOf rfl rfl (sg_p (m := 32768) (N := 6) rfl rfl rfl)
theorem dX8_rowsOf_111 : decode cX8_rowsOf 111 = .ok (.iload 13, 2) := D_21 yB_cX8_rowsOf rfl rfl rfl
theorem dX8_rowsOf_113 : decode cX8_rowsOf 113 = .ok (.ireturn, 1) := D_172 yB_cX8_rowsOf rfl rfl
theorem dX8_rowsOf_114 : decode cX8_rowsOf 114 = .ok (.iload 9, 2) := D_21 yB_cX8_rowsOf rfl rfl rfl
theorem dX8_rowsOf_116 : decode cX8_rowsOf 116 = .ok (.invokestatic 275, 3) := D_184 yB_cX8_rowsOf rfl rfl rfl
theorem dX8_rowsOf_119 : decode cX8_rowsOf 119 = .ok (.istore 14, 2) := D_54 yB_cX8_rowsOf rfl rfl rfl
theorem dX8_rowsOf_121 : decode cX8_rowsOf 121 = .ok (.iload 10, 2) := D_21 yB_cX8_rowsOf rfl rfl rfl
theorem dX8_rowsOf_123 : decode cX8_rowsOf 123 = .ok (.invokestatic 275, 3) := D_184 yB_cX8_rowsOf rfl rfl rfl
theorem dX8_rowsOf_126 : decode cX8_rowsOf 126 = .ok (.istore 15, 2) := D_54 yB_cX8_rowsOf rfl rfl rfl
theorem dX8_rowsOf_128 : decode cX8_rowsOf 128 = .ok (.iload 14, 2) := D_21 yB_cX8_rowsOf rfl rfl rfl
theorem dX8_rowsOf_130 : decode cX8_rowsOf 130 = .ok (.ifCond .le 33, 3) := D_158 yB_cX8_rowsOf rfl rfl (sg_p (m := 32768) (N := 33) rfl rfl rfl)
theorem dX8_rowsOf_133 : decode cX8_rowsOf 133 = .ok (.iload 15, 2) := D_21 yB_cX8_rowsOf rfl rfl rfl
theorem dX8_rowsOf_135 : decode cX8_rowsOf 135 = .ok (.iload 5, 2) := D_21 yB_cX8_rowsOf rfl rfl rfl
theorem dX8_rowsOf_137 : decode cX8_rowsOf 137 = .ok (.if_icmp .ge 26, 3) := D_162 yB_cX8_rowsOf rfl rfl (sg_p (m := 32768) (N := 26) rfl rfl rfl)
theorem dX8_rowsOf_140 : decode cX8_rowsOf 140 = .ok (.aload_n 0, 1) := D_42 yB_cX8_rowsOf rfl rfl
theorem dX8_rowsOf_141 : decode cX8_rowsOf 141 = .ok (.iload 9, 2) := D_21 yB_cX8_rowsOf rfl rfl rfl
theorem dX8_rowsOf_143 : decode cX8_rowsOf 143 = .ok (.iconst 1, 1) := D_4 yB_cX8_rowsOf rfl rfl
theorem dX8_rowsOf_144 : decode cX8_rowsOf 144 = .ok (.ishr, 1) := D_122 yB_cX8_rowsOf rfl rfl
theorem dX8_rowsOf_145 : decode cX8_rowsOf 145 = .ok (.iconst 2, 1) := D_5 yB_cX8_rowsOf rfl rfl
theorem dX8_rowsOf_146 : decode cX8_rowsOf 146 = .ok (.iload 10, 2) := D_21 yB_cX8_rowsOf rfl rfl rfl
theorem dX8_rowsOf_148 : decode cX8_rowsOf 148 = .ok (.imul, 1) := D_104 yB_cX8_rowsOf rfl rfl
theorem dX8_rowsOf_149 : decode cX8_rowsOf 149 = .ok (.iload 9, 2) := D_21 yB_cX8_rowsOf rfl rfl rfl
theorem dX8_rowsOf_151 : decode cX8_rowsOf 151 = .ok (.iconst 1, 1) := D_4 yB_cX8_rowsOf rfl rfl
theorem dX8_rowsOf_152 : decode cX8_rowsOf 152 = .ok (.iand, 1) := D_126 yB_cX8_rowsOf rfl rfl
theorem dX8_rowsOf_153 : decode cX8_rowsOf 153 = .ok (.iadd, 1) := D_96 yB_cX8_rowsOf rfl rfl
theorem dX8_rowsOf_154 : decode cX8_rowsOf 154 = .ok (.iload 11, 2) := D_21 yB_cX8_rowsOf rfl rfl rfl
theorem dX8_rowsOf_156 : decode cX8_rowsOf 156 = .ok (.iload 12, 2) := D_21 yB_cX8_rowsOf rfl rfl rfl
theorem dX8_rowsOf_158 : decode cX8_rowsOf 158 = .ok (.iload 13, 2) := D_21 yB_cX8_rowsOf rfl rfl rfl
theorem dX8_rowsOf_160 : decode cX8_rowsOf 160 = .ok (.invokevirtual 271, 3) := D_182 yB_cX8_rowsOf rfl rfl rfl
theorem dX8_rowsOf_163 : decode cX8_rowsOf 163 = .ok (.iload 15, 2) := D_21 yB_cX8_rowsOf rfl rfl rfl
theorem dX8_rowsOf_165 : decode cX8_rowsOf 165 = .ok (.ifCond .le 33, 3) := D_158 yB_cX8_rowsOf rfl rfl (sg_p (m := 32768) (N := 33) rfl rfl rfl)
theorem dX8_rowsOf_168 : decode cX8_rowsOf 168 = .ok (.iload 14, 2) := D_21 yB_cX8_rowsOf rfl rfl rfl
theorem dX8_rowsOf_170 : decode cX8_rowsOf 170 = .ok (.iload 4, 2) := D_21 yB_cX8_rowsOf rfl rfl rfl
theorem dX8_rowsOf_172 : decode cX8_rowsOf 172 = .ok (.if_icmp .ge 26, 3) := D_162 yB_cX8_rowsOf rfl rfl (sg_p (m := 32768) (N := 26) rfl rfl rfl)
theorem dX8_rowsOf_175 : decode cX8_rowsOf 175 = .ok (.aload_n 0, 1) := D_42 yB_cX8_rowsOf rfl rfl
theorem dX8_rowsOf_176 : decode cX8_rowsOf 176 = .ok (.iconst 2, 1) := D_5 yB_cX8_rowsOf rfl rfl
theorem dX8_rowsOf_177 : decode cX8_rowsOf 177 = .ok (.iload 9, 2) := D_21 yB_cX8_rowsOf rfl rfl rfl
theorem dX8_rowsOf_179 : decode cX8_rowsOf 179 = .ok (.imul, 1) := D_104 yB_cX8_rowsOf rfl rfl
theorem dX8_rowsOf_180 : decode cX8_rowsOf 180 = .ok (.iload 10, 2) := D_21 yB_cX8_rowsOf rfl rfl rfl
theorem dX8_rowsOf_182 : decode cX8_rowsOf 182 = .ok (.iconst 1, 1) := D_4 yB_cX8_rowsOf rfl rfl
theorem dX8_rowsOf_183 : decode cX8_rowsOf 183 = .ok (.iand, 1) := D_126 yB_cX8_rowsOf rfl rfl
theorem dX8_rowsOf_184 : decode cX8_rowsOf 184 = .ok (.iadd, 1) := D_96 yB_cX8_rowsOf rfl rfl
theorem dX8_rowsOf_185 : decode cX8_rowsOf 185 = .ok (.iload 10, 2) := D_21 yB_cX8_rowsOf rfl rfl rfl
theorem dX8_rowsOf_187 : decode cX8_rowsOf 187 = .ok (.iconst 1, 1) := D_4 yB_cX8_rowsOf rfl rfl
theorem dX8_rowsOf_188 : decode cX8_rowsOf 188 = .ok (.ishr, 1) := D_122 yB_cX8_rowsOf rfl rfl
theorem dX8_rowsOf_189 : decode cX8_rowsOf 189 = .ok (.iload 11, 2) := D_21 yB_cX8_rowsOf rfl rfl rfl
theorem dX8_rowsOf_191 : decode cX8_rowsOf 191 = .ok (.iload 12, 2) := D_21 yB_cX8_rowsOf rfl rfl rfl
theorem dX8_rowsOf_193 : decode cX8_rowsOf 193 = .ok (.iload 13, 2) := D_21 yB_cX8_rowsOf rfl rfl rfl
theorem dX8_rowsOf_195 : decode cX8_rowsOf 195 = .ok (.invokevirtual 271, 3) := D_182 yB_cX8_rowsOf rfl rfl rfl
theorem dX8_rowsOf_198 : decode cX8_rowsOf 198 = .ok (.iload 14, 2) := D_21 yB_cX8_rowsOf rfl rfl rfl
theorem dX8_rowsOf_200 : decode cX8_rowsOf 200 = .ok (.ifCond .le 40, 3) := D_158 yB_cX8_rowsOf rfl rfl (sg_p (m := 32768) (N := 40) rfl rfl rfl)
theorem dX8_rowsOf_203 : decode cX8_rowsOf 203 = .ok (.iload 11, 2) := D_21 yB_cX8_rowsOf rfl rfl rfl
theorem dX8_rowsOf_205 : decode cX8_rowsOf 205 = .ok (.iload 12, 2) := D_21 yB_cX8_rowsOf rfl rfl rfl
theorem dX8_rowsOf_207 : decode cX8_rowsOf 207 = .ok (.iadd, 1) := D_96 yB_cX8_rowsOf rfl rfl
theorem dX8_rowsOf_208 : decode cX8_rowsOf 208 = .ok (.iload_n 3, 1) := D_29 yB_cX8_rowsOf rfl rfl
theorem dX8_rowsOf_209 : decode cX8_rowsOf 209 = .ok (.if_icmp .ge 31, 3) := D_162 yB_cX8_rowsOf rfl rfl (sg_p (m := 32768) (N := 31) rfl rfl rfl)
theorem dX8_rowsOf_212 : decode cX8_rowsOf 212 = .ok (.aload_n 0, 1) := D_42 yB_cX8_rowsOf rfl rfl
theorem dX8_rowsOf_213 : decode cX8_rowsOf 213 = .ok (.iload 9, 2) := D_21 yB_cX8_rowsOf rfl rfl rfl
theorem dX8_rowsOf_215 : decode cX8_rowsOf 215 = .ok (.iconst 1, 1) := D_4 yB_cX8_rowsOf rfl rfl
theorem dX8_rowsOf_216 : decode cX8_rowsOf 216 = .ok (.ishr, 1) := D_122 yB_cX8_rowsOf rfl rfl
theorem dX8_rowsOf_217 : decode cX8_rowsOf 217 = .ok (.iload 10, 2) := D_21 yB_cX8_rowsOf rfl rfl rfl
theorem dX8_rowsOf_219 : decode cX8_rowsOf 219 = .ok (.iload 11, 2) := D_21 yB_cX8_rowsOf rfl rfl rfl
theorem dX8_rowsOf_221 : decode cX8_rowsOf 221 = .ok (.iconst 1, 1) := D_4 yB_cX8_rowsOf rfl rfl
theorem dX8_rowsOf_222 : decode cX8_rowsOf 222 = .ok (.iadd, 1) := D_96 yB_cX8_rowsOf rfl rfl
theorem dX8_rowsOf_223 : decode cX8_rowsOf 223 = .ok (.iload 9, 2) := D_21 yB_cX8_rowsOf rfl rfl rfl
theorem dX8_rowsOf_225 : decode cX8_rowsOf 225 = .ok (.iconst 1, 1) := D_4 yB_cX8_rowsOf rfl rfl
theorem dX8_rowsOf_226 : decode cX8_rowsOf 226 = .ok (.iand, 1) := D_126 yB_cX8_rowsOf rfl rfl
theorem dX8_rowsOf_227 : decode cX8_rowsOf 227 = .ok (.isub, 1) := D_100 yB_cX8_rowsOf rfl rfl
theorem dX8_rowsOf_228 : decode cX8_rowsOf 228 = .ok (.iload 12, 2) := D_21 yB_cX8_rowsOf rfl rfl rfl
theorem dX8_rowsOf_230 : decode cX8_rowsOf 230 = .ok (.iload 9, 2) := D_21 yB_cX8_rowsOf rfl rfl rfl
theorem dX8_rowsOf_232 : decode cX8_rowsOf 232 = .ok (.iconst 1, 1) := D_4 yB_cX8_rowsOf rfl rfl
theorem dX8_rowsOf_233 : decode cX8_rowsOf 233 = .ok (.iand, 1) := D_126 yB_cX8_rowsOf rfl rfl
theorem dX8_rowsOf_234 : decode cX8_rowsOf 234 = .ok (.iadd, 1) := D_96 yB_cX8_rowsOf rfl rfl
theorem dX8_rowsOf_235 : decode cX8_rowsOf 235 = .ok (.iload 13, 2) := D_21 yB_cX8_rowsOf rfl rfl rfl
theorem dX8_rowsOf_237 : decode cX8_rowsOf 237 = .ok (.invokevirtual 271, 3) := D_182 yB_cX8_rowsOf rfl rfl rfl
theorem dX8_rowsOf_240 : decode cX8_rowsOf 240 = .ok (.iload 15, 2) := D_21 yB_cX8_rowsOf rfl rfl rfl
theorem dX8_rowsOf_242 : decode cX8_rowsOf 242 = .ok (.ifCond .le 40, 3) := D_158 yB_cX8_rowsOf rfl rfl (sg_p (m := 32768) (N := 40) rfl rfl rfl)
theorem dX8_rowsOf_245 : decode cX8_rowsOf 245 = .ok (.iload 11, 2) := D_21 yB_cX8_rowsOf rfl rfl rfl
theorem dX8_rowsOf_247 : decode cX8_rowsOf 247 = .ok (.iload 12, 2) := D_21 yB_cX8_rowsOf rfl rfl rfl
theorem dX8_rowsOf_249 : decode cX8_rowsOf 249 = .ok (.iadd, 1) := D_96 yB_cX8_rowsOf rfl rfl
theorem dX8_rowsOf_250 : decode cX8_rowsOf 250 = .ok (.iload_n 3, 1) := D_29 yB_cX8_rowsOf rfl rfl
theorem dX8_rowsOf_251 : decode cX8_rowsOf 251 = .ok (.if_icmp .ge 31, 3) := D_162 yB_cX8_rowsOf rfl rfl (sg_p (m := 32768) (N := 31) rfl rfl rfl)
theorem dX8_rowsOf_254 : decode cX8_rowsOf 254 = .ok (.aload_n 0, 1) := D_42 yB_cX8_rowsOf rfl rfl
theorem dX8_rowsOf_255 : decode cX8_rowsOf 255 = .ok (.iload 9, 2) := D_21 yB_cX8_rowsOf rfl rfl rfl
theorem dX8_rowsOf_257 : decode cX8_rowsOf 257 = .ok (.iload 10, 2) := D_21 yB_cX8_rowsOf rfl rfl rfl
theorem dX8_rowsOf_259 : decode cX8_rowsOf 259 = .ok (.iconst 1, 1) := D_4 yB_cX8_rowsOf rfl rfl
theorem dX8_rowsOf_260 : decode cX8_rowsOf 260 = .ok (.ishr, 1) := D_122 yB_cX8_rowsOf rfl rfl
theorem dX8_rowsOf_261 : decode cX8_rowsOf 261 = .ok (.iload 11, 2) := D_21 yB_cX8_rowsOf rfl rfl rfl
theorem dX8_rowsOf_263 : decode cX8_rowsOf 263 = .ok (.iconst 1, 1) := D_4 yB_cX8_rowsOf rfl rfl
theorem dX8_rowsOf_264 : decode cX8_rowsOf 264 = .ok (.iadd, 1) := D_96 yB_cX8_rowsOf rfl rfl
theorem dX8_rowsOf_265 : decode cX8_rowsOf 265 = .ok (.iload 10, 2) := D_21 yB_cX8_rowsOf rfl rfl rfl
theorem dX8_rowsOf_267 : decode cX8_rowsOf 267 = .ok (.iconst 1, 1) := D_4 yB_cX8_rowsOf rfl rfl
theorem dX8_rowsOf_268 : decode cX8_rowsOf 268 = .ok (.iand, 1) := D_126 yB_cX8_rowsOf rfl rfl
theorem dX8_rowsOf_269 : decode cX8_rowsOf 269 = .ok (.isub, 1) := D_100 yB_cX8_rowsOf rfl rfl
theorem dX8_rowsOf_270 : decode cX8_rowsOf 270 = .ok (.iload 12, 2) := D_21 yB_cX8_rowsOf rfl rfl rfl
theorem dX8_rowsOf_272 : decode cX8_rowsOf 272 = .ok (.iload 10, 2) := D_21 yB_cX8_rowsOf rfl rfl rfl
theorem dX8_rowsOf_274 : decode cX8_rowsOf 274 = .ok (.iconst 1, 1) := D_4 yB_cX8_rowsOf rfl rfl
theorem dX8_rowsOf_275 : decode cX8_rowsOf 275 = .ok (.iand, 1) := D_126 yB_cX8_rowsOf rfl rfl
theorem dX8_rowsOf_276 : decode cX8_rowsOf 276 = .ok (.iadd, 1) := D_96 yB_cX8_rowsOf rfl rfl
theorem dX8_rowsOf_277 : decode cX8_rowsOf 277 = .ok (.iload 13, 2) := D_21 yB_cX8_rowsOf rfl rfl rfl
theorem dX8_rowsOf_279 : decode cX8_rowsOf 279 = .ok (.invokevirtual 271, 3) := D_182 yB_cX8_rowsOf rfl rfl rfl
theorem dX8_rowsOf_282 : decode cX8_rowsOf 282 = .ok (.iload 11, 2) := D_21 yB_cX8_rowsOf rfl rfl rfl
theorem dX8_rowsOf_284 : decode cX8_rowsOf 284 = .ok (.ifCond .le 28, 3) := D_158 yB_cX8_rowsOf rfl rfl (sg_p (m := 32768) (N := 28) rfl rfl rfl)
theorem dX8_rowsOf_287 : decode cX8_rowsOf 287 = .ok (.iload 14, 2) := D_21 yB_cX8_rowsOf rfl rfl rfl
theorem dX8_rowsOf_289 : decode cX8_rowsOf 289 = .ok (.iload 4, 2) := D_21 yB_cX8_rowsOf rfl rfl rfl
theorem dX8_rowsOf_291 : decode cX8_rowsOf 291 = .ok (.if_icmp .ge 21, 3) := D_162 yB_cX8_rowsOf rfl rfl (sg_p (m := 32768) (N := 21) rfl rfl rfl)
theorem dX8_rowsOf_294 : decode cX8_rowsOf 294 = .ok (.aload_n 0, 1) := D_42 yB_cX8_rowsOf rfl rfl
theorem dX8_rowsOf_295 : decode cX8_rowsOf 295 = .ok (.iconst 2, 1) := D_5 yB_cX8_rowsOf rfl rfl
theorem dX8_rowsOf_296 : decode cX8_rowsOf 296 = .ok (.iload 9, 2) := D_21 yB_cX8_rowsOf rfl rfl rfl
theorem dX8_rowsOf_298 : decode cX8_rowsOf 298 = .ok (.imul, 1) := D_104 yB_cX8_rowsOf rfl rfl
theorem dX8_rowsOf_299 : decode cX8_rowsOf 299 = .ok (.iload 10, 2) := D_21 yB_cX8_rowsOf rfl rfl rfl
theorem dX8_rowsOf_301 : decode cX8_rowsOf 301 = .ok (.iload 11, 2) := D_21 yB_cX8_rowsOf rfl rfl rfl
theorem dX8_rowsOf_303 : decode cX8_rowsOf 303 = .ok (.iconst 1, 1) := D_4 yB_cX8_rowsOf rfl rfl
theorem dX8_rowsOf_304 : decode cX8_rowsOf 304 = .ok (.isub, 1) := D_100 yB_cX8_rowsOf rfl rfl
theorem dX8_rowsOf_305 : decode cX8_rowsOf 305 = .ok (.iload 12, 2) := D_21 yB_cX8_rowsOf rfl rfl rfl
theorem dX8_rowsOf_307 : decode cX8_rowsOf 307 = .ok (.iload 13, 2) := D_21 yB_cX8_rowsOf rfl rfl rfl
theorem dX8_rowsOf_309 : decode cX8_rowsOf 309 = .ok (.invokevirtual 271, 3) := D_182 yB_cX8_rowsOf rfl rfl rfl
theorem dX8_rowsOf_312 : decode cX8_rowsOf 312 = .ok (.iload 11, 2) := D_21 yB_cX8_rowsOf rfl rfl rfl
theorem dX8_rowsOf_314 : decode cX8_rowsOf 314 = .ok (.ifCond .le 28, 3) := D_158 yB_cX8_rowsOf rfl rfl (sg_p (m := 32768) (N := 28) rfl rfl rfl)
theorem dX8_rowsOf_317 : decode cX8_rowsOf 317 = .ok (.iload 15, 2) := D_21 yB_cX8_rowsOf rfl rfl rfl
theorem dX8_rowsOf_319 : decode cX8_rowsOf 319 = .ok (.iload 5, 2) := D_21 yB_cX8_rowsOf rfl rfl rfl
theorem dX8_rowsOf_321 : decode cX8_rowsOf 321 = .ok (.if_icmp .ge 21, 3) := D_162 yB_cX8_rowsOf rfl rfl (sg_p (m := 32768) (N := 21) rfl rfl rfl)
theorem dX8_rowsOf_324 : decode cX8_rowsOf 324 = .ok (.aload_n 0, 1) := D_42 yB_cX8_rowsOf rfl rfl
theorem dX8_rowsOf_325 : decode cX8_rowsOf 325 = .ok (.iload 9, 2) := D_21 yB_cX8_rowsOf rfl rfl rfl
theorem dX8_rowsOf_327 : decode cX8_rowsOf 327 = .ok (.iconst 2, 1) := D_5 yB_cX8_rowsOf rfl rfl
theorem dX8_rowsOf_328 : decode cX8_rowsOf 328 = .ok (.iload 10, 2) := D_21 yB_cX8_rowsOf rfl rfl rfl
theorem dX8_rowsOf_330 : decode cX8_rowsOf 330 = .ok (.imul, 1) := D_104 yB_cX8_rowsOf rfl rfl
theorem dX8_rowsOf_331 : decode cX8_rowsOf 331 = .ok (.iload 11, 2) := D_21 yB_cX8_rowsOf rfl rfl rfl
theorem dX8_rowsOf_333 : decode cX8_rowsOf 333 = .ok (.iconst 1, 1) := D_4 yB_cX8_rowsOf rfl rfl
theorem dX8_rowsOf_334 : decode cX8_rowsOf 334 = .ok (.isub, 1) := D_100 yB_cX8_rowsOf rfl rfl
theorem dX8_rowsOf_335 : decode cX8_rowsOf 335 = .ok (.iload 12, 2) := D_21 yB_cX8_rowsOf rfl rfl rfl
theorem dX8_rowsOf_337 : decode cX8_rowsOf 337 = .ok (.iload 13, 2) := D_21 yB_cX8_rowsOf rfl rfl rfl
theorem dX8_rowsOf_339 : decode cX8_rowsOf 339 = .ok (.invokevirtual 271, 3) := D_182 yB_cX8_rowsOf rfl rfl rfl
theorem dX8_rowsOf_342 : decode cX8_rowsOf 342 = .ok (.iload 12, 2) := D_21 yB_cX8_rowsOf rfl rfl rfl
theorem dX8_rowsOf_344 : decode cX8_rowsOf 344 = .ok (.ifCond .le 30, 3) := D_158 yB_cX8_rowsOf rfl rfl (sg_p (m := 32768) (N := 30) rfl rfl rfl)
theorem dX8_rowsOf_347 : decode cX8_rowsOf 347 = .ok (.iload 14, 2) := D_21 yB_cX8_rowsOf rfl rfl rfl
theorem dX8_rowsOf_349 : decode cX8_rowsOf 349 = .ok (.iload 4, 2) := D_21 yB_cX8_rowsOf rfl rfl rfl
theorem dX8_rowsOf_351 : decode cX8_rowsOf 351 = .ok (.if_icmp .ge 23, 3) := D_162 yB_cX8_rowsOf rfl rfl (sg_p (m := 32768) (N := 23) rfl rfl rfl)
theorem dX8_rowsOf_354 : decode cX8_rowsOf 354 = .ok (.aload_n 0, 1) := D_42 yB_cX8_rowsOf rfl rfl
theorem dX8_rowsOf_355 : decode cX8_rowsOf 355 = .ok (.iconst 2, 1) := D_5 yB_cX8_rowsOf rfl rfl
theorem dX8_rowsOf_356 : decode cX8_rowsOf 356 = .ok (.iload 9, 2) := D_21 yB_cX8_rowsOf rfl rfl rfl
theorem dX8_rowsOf_358 : decode cX8_rowsOf 358 = .ok (.imul, 1) := D_104 yB_cX8_rowsOf rfl rfl
theorem dX8_rowsOf_359 : decode cX8_rowsOf 359 = .ok (.iconst 1, 1) := D_4 yB_cX8_rowsOf rfl rfl
theorem dX8_rowsOf_360 : decode cX8_rowsOf 360 = .ok (.iadd, 1) := D_96 yB_cX8_rowsOf rfl rfl
theorem dX8_rowsOf_361 : decode cX8_rowsOf 361 = .ok (.iload 10, 2) := D_21 yB_cX8_rowsOf rfl rfl rfl
theorem dX8_rowsOf_363 : decode cX8_rowsOf 363 = .ok (.iload 11, 2) := D_21 yB_cX8_rowsOf rfl rfl rfl
theorem dX8_rowsOf_365 : decode cX8_rowsOf 365 = .ok (.iload 12, 2) := D_21 yB_cX8_rowsOf rfl rfl rfl
theorem dX8_rowsOf_367 : decode cX8_rowsOf 367 = .ok (.iconst 1, 1) := D_4 yB_cX8_rowsOf rfl rfl
theorem dX8_rowsOf_368 : decode cX8_rowsOf 368 = .ok (.isub, 1) := D_100 yB_cX8_rowsOf rfl rfl
theorem dX8_rowsOf_369 : decode cX8_rowsOf 369 = .ok (.iload 13, 2) := D_21 yB_cX8_rowsOf rfl rfl rfl
theorem dX8_rowsOf_371 : decode cX8_rowsOf 371 = .ok (.invokevirtual 271, 3) := D_182 yB_cX8_rowsOf rfl rfl rfl
theorem dX8_rowsOf_374 : decode cX8_rowsOf 374 = .ok (.iload 12, 2) := D_21 yB_cX8_rowsOf rfl rfl rfl
theorem dX8_rowsOf_376 : decode cX8_rowsOf 376 = .ok (.ifCond .le 30, 3) := D_158 yB_cX8_rowsOf rfl rfl (sg_p (m := 32768) (N := 30) rfl rfl rfl)
theorem dX8_rowsOf_379 : decode cX8_rowsOf 379 = .ok (.iload 15, 2) := D_21 yB_cX8_rowsOf rfl rfl rfl
theorem dX8_rowsOf_381 : decode cX8_rowsOf 381 = .ok (.iload 5, 2) := D_21 yB_cX8_rowsOf rfl rfl rfl
theorem dX8_rowsOf_383 : decode cX8_rowsOf 383 = .ok (.if_icmp .ge 23, 3) := D_162 yB_cX8_rowsOf rfl rfl (sg_p (m := 32768) (N := 23) rfl rfl rfl)
theorem dX8_rowsOf_386 : decode cX8_rowsOf 386 = .ok (.aload_n 0, 1) := D_42 yB_cX8_rowsOf rfl rfl
theorem dX8_rowsOf_387 : decode cX8_rowsOf 387 = .ok (.iload 9, 2) := D_21 yB_cX8_rowsOf rfl rfl rfl
theorem dX8_rowsOf_389 : decode cX8_rowsOf 389 = .ok (.iconst 2, 1) := D_5 yB_cX8_rowsOf rfl rfl
theorem dX8_rowsOf_390 : decode cX8_rowsOf 390 = .ok (.iload 10, 2) := D_21 yB_cX8_rowsOf rfl rfl rfl
theorem dX8_rowsOf_392 : decode cX8_rowsOf 392 = .ok (.imul, 1) := D_104 yB_cX8_rowsOf rfl rfl
theorem dX8_rowsOf_393 : decode cX8_rowsOf 393 = .ok (.iconst 1, 1) := D_4 yB_cX8_rowsOf rfl rfl
theorem dX8_rowsOf_394 : decode cX8_rowsOf 394 = .ok (.iadd, 1) := D_96 yB_cX8_rowsOf rfl rfl
theorem dX8_rowsOf_395 : decode cX8_rowsOf 395 = .ok (.iload 11, 2) := D_21 yB_cX8_rowsOf rfl rfl rfl
theorem dX8_rowsOf_397 : decode cX8_rowsOf 397 = .ok (.iload 12, 2) := D_21 yB_cX8_rowsOf rfl rfl rfl
theorem dX8_rowsOf_399 : decode cX8_rowsOf 399 = .ok (.iconst 1, 1) := D_4 yB_cX8_rowsOf rfl rfl
theorem dX8_rowsOf_400 : decode cX8_rowsOf 400 = .ok (.isub, 1) := D_100 yB_cX8_rowsOf rfl rfl
theorem dX8_rowsOf_401 : decode cX8_rowsOf 401 = .ok (.iload 13, 2) := D_21 yB_cX8_rowsOf rfl rfl rfl
theorem dX8_rowsOf_403 : decode cX8_rowsOf 403 = .ok (.invokevirtual 271, 3) := D_182 yB_cX8_rowsOf rfl rfl rfl
theorem dX8_rowsOf_406 : decode cX8_rowsOf 406 = .ok (.iinc 7 1, 3) := D_132 yB_cX8_rowsOf rfl rfl rfl (sg_p (m := 128) (N := 1) rfl rfl rfl)
theorem dX8_rowsOf_409 : decode cX8_rowsOf 409 = .ok (.goto (-371), 3) := D_167 yB_cX8_rowsOf rfl rfl (sg_n (m := 32768) (N := 371) rfl rfl rfl)
theorem dX8_rowsOf_412 : decode cX8_rowsOf 412 = .ok (.bipush (-4), 2) := D_16 yB_cX8_rowsOf rfl rfl (sg_n (m := 128) (N := 4) rfl rfl rfl)
theorem dX8_rowsOf_414 : decode cX8_rowsOf 414 = .ok (.ireturn, 1) := D_172 yB_cX8_rowsOf rfl rfl
set_option maxHeartbeats 4000000 in
set_option maxRecDepth 100000 in
theorem c_X8_rowsOf (l : Launch) (D : va_G) (cA : Nat → ClassId) (ad : Nat → Nat) (o : Int64) (σ : Mem) (a : Nat) (b : Nat) (q : Nat) (x : Nat) (z : Nat) (ha : a ≤ 3) (hb3 : b ≤ 3) (hq : q ≤ 3) (hxb : x ≤ 6) (hz : z ≤ 6) (sz : Nat) : Met l yX8_rowsOf (WY yX8_rowsOf cX8_rowsOf 16 (some .int)) (RM 1) (va_Pc [.ref (ad 91), .int (nI a), .int (nI b), .int (nI q), .int (nI x), .int (nI z)] (PW D cA ad o σ sz)) (va_Qi (fun r (σ9 : Mem) => r = RWn a b q x z ∧ Fr9 σ σ9) (QW D cA ad o) (FA ad sz)) 0 0 (FA ad sz) := by
  refine ct_of (own := RX8) (k := 1) (Qf := va_Qi (fun r (σ9 : Mem) => r = RWn a b q x z ∧ Fr9 σ σ9) (QW D cA ad o)) rfl (by decide) (Nat.le_of_ble_eq_true rfl) (fun p e s m below meth c ls C0 X hr hlk hP hl => ?_) sz
  have hS : va_S (FA ad s.heap.size) s.heap s.heap [] := va_S.rf
  have hl : lv_has ls 16 [(0, .ref (ad 91)), (1, .int (nI a)), (2, .int (nI b)), (3, .int (nI q)), (4, .int (nI x)), (5, .int (nI z))] := hl
  obtain ⟨hx, hb, hml, hown, hts⟩ := id C0
  have hpa := pw_1 a (by omega)
  have hpb := pw_1 b (by omega)
  refine lv_aload_n hx hb dX8_rowsOf_0 rfl (lv_at hl 0 rfl) ?_
  refine lv_iconst (v := 0) hx hb dX8_rowsOf_1 (by decide) ?_
  refine pf_X8_268 C0 X hP hS 91 ⟨by decide, rfl⟩ dX8_rowsOf_2 (fun H locs hP hS => ?_)
  refine lv_aload_n hx hb dX8_rowsOf_5 rfl (lv_at hl 0 rfl) ?_
  refine lv_iconst (v := 1) hx hb dX8_rowsOf_6 (by decide) ?_
  refine lv_iload_n hx hb dX8_rowsOf_7 rfl (lv_at hl 1 rfl) ?_
  refine lv_ishl hx hb dX8_rowsOf_8 ?_
  refine lv_topE (y := (nI (2 ^ a))) (sh_1 a (by omega)) ?_
  refine lv_iconst (v := 2) hx hb dX8_rowsOf_9 (by decide) ?_
  refine lv_iload_n hx hb dX8_rowsOf_10 rfl (lv_at hl 2 rfl) ?_
  refine lv_ishl hx hb dX8_rowsOf_11 ?_
  refine lv_topE (y := (nI (2 ^ (b + 1)))) (sh_2 b (by omega)) ?_
  refine lv_iconst (v := 1) hx hb dX8_rowsOf_12 (by decide) ?_
  refine lv_isub hx hb dX8_rowsOf_13 ?_
  refine lv_topE (y := (nI (2 ^ (b + 1) - 1))) (pk_sub (a := 2 ^ (b + 1)) (b := 1) (Nat.two_pow_pos _)) ?_
  refine lv_iconst (v := 0) hx hb dX8_rowsOf_14 (by decide) ?_
  refine lv_iconst (v := 0) hx hb dX8_rowsOf_15 (by decide) ?_
  refine lv_iconst (v := (-1)) hx hb dX8_rowsOf_16 (by decide) ?_
  refine r_cv X hS (r_runV (As := [.int (nI (2 ^ a)), .int (nI (2 ^ (b + 1) - 1)), .int 0, .int 0, .int (-1)]) (rest := []) C0 X hP L_X8_271 (fun sz => c_X8_reaches l D cA ad o σ (stm σ 91 23 0) [] (2 ^ a) (2 ^ (b + 1) - 1) 0 0 (-1) a b (stC a b) 0 ha hb3 (RepR_0 a b σ) (QG_0 a b) (st_vcd ha hb3) (by rw [enc_s a (by omega) b (by omega)]; omega) (by decide) sz) (show 91 < 106 ∧ kd 91 = (8, 24) from ⟨by decide, rfl⟩).1 (show 91 < 106 ∧ kd 91 = (8, 24) from ⟨by decide, rfl⟩).2 (by decide) rfl ⟨Nat.le_of_ble_eq_true rfl, Nat.le_of_ble_eq_true rfl⟩ rfl hl.1 rfl (Nat.le_of_ble_eq_true rfl) dX8_rowsOf_17 ⟨Nat.zero_le _, Nat.zero_le _⟩) (fun σw_1 H locs hw_1 hP hS => ?_)
  refine lv_iconst (v := 2) hx hb dX8_rowsOf_20 (by decide) ?_
  refine lv_iload_n hx hb dX8_rowsOf_21 rfl (lv_at hl 2 rfl) ?_
  refine lv_ishl hx hb dX8_rowsOf_22 ?_
  refine lv_topE (y := (nI (2 ^ (b + 1)))) (sh_2 b (by omega)) ?_
  refine lv_iconst (v := 1) hx hb dX8_rowsOf_23 (by decide) ?_
  refine lv_isub hx hb dX8_rowsOf_24 ?_
  refine lv_topE (y := (nI (2 ^ (b + 1) - 1))) (pk_sub (a := 2 ^ (b + 1)) (b := 1) (Nat.two_pow_pos _)) ?_
  refine lv_sipush (v := 128) hx hb dX8_rowsOf_25 (by decide) ?_
  refine lv_imul hx hb dX8_rowsOf_28 ?_
  refine lv_topE (y := (nI ((2 ^ (b + 1) - 1) * 128))) (pk_mul _ 128) ?_
  refine lv_iconst (v := 1) hx hb dX8_rowsOf_29 (by decide) ?_
  refine lv_iload_n hx hb dX8_rowsOf_30 rfl (lv_at hl 1 rfl) ?_
  refine lv_ishl hx hb dX8_rowsOf_31 ?_
  refine lv_topE (y := (nI (2 ^ a))) (sh_1 a (by omega)) ?_
  refine lv_iadd hx hb dX8_rowsOf_32 ?_
  refine lv_topE (y := (nI ((2 ^ (b + 1) - 1) * 128 + 2 ^ a))) (nI_add _ _) ?_
  refine lv_istore (lv' := [(6, .int (nI ((2 ^ (b + 1) - 1) * 128 + 2 ^ a))), (0, .ref (ad 91)), (1, .int (nI a)), (2, .int (nI b)), (3, .int (nI q)), (4, .int (nI x)), (5, .int (nI z))]) hx hb dX8_rowsOf_33 hl (by decide) rfl (fun ls hl => ?_)
  refine lv_iconst (v := 0) hx hb dX8_rowsOf_35 (by decide) ?_
  refine lv_istore (lv' := [(7, .int 0), (6, .int (nI ((2 ^ (b + 1) - 1) * 128 + 2 ^ a))), (0, .ref (ad 91)), (1, .int (nI a)), (2, .int (nI b)), (3, .int (nI q)), (4, .int (nI x)), (5, .int (nI z))]) hx hb dX8_rowsOf_36 hl (by decide) rfl (fun ls hl => ?_)
  have lp_2 : ∀ (nn : Nat) (i : Nat) (μ : Mem) (H : Heap) (locs : List Loc) (ls : Array Slot), RepR σ a b (QB a b q x z i) μ → i ≤ (QB a b q x z i).length → (∀ j c d : Nat, j < i → (QB a b q x z i)[j]? = some (c, d) → c ≠ wtC a b) → WP D cA ad o μ H → va_S (FA ad s.heap.size) s.heap H locs → lv_has ls 16 [(0, .ref (ad 91)), (3, .int (nI q)), (4, .int (nI x)), (5, .int (nI z)), (6, .int (nI ((2 ^ (b + 1) - 1) * 128 + 2 ^ a))), (7, .int (nI i))] → (900 - i) < nn → W p l e (RM 1) s m ([.ref (ad 91), .int (nI a), .int (nI b), .int (nI q), .int (nI x), .int (nI z)] : List Value).toArray below meth c H locs 0 0 (MQ below (va_Qi (fun r (σ9 : Mem) => r = RWn a b q x z ∧ Fr9 σ σ9) (QW D cA ad o) (FA ad s.heap.size)) ([.ref (ad 91), .int (nI a), .int (nI b), .int (nI q), .int (nI x), .int (nI z)] : List Value).toArray s 0 0 (FA ad s.heap.size)) (F0 m 38 ls []) := by
    intro nn
    induction nn with
    | zero => intro i μ H locs ls hR1 hi hno hP hS hl hn; exact absurd hn (Nat.not_lt_zero _)
    | succ nn ih =>
      intro i μ H locs ls hR1 hi hno hP hS hl hn
      have hL9 := QG_len ha hb3 (QB_g (q := q) (z := z) ha hb3 hxb i)
      refine lv_iload hx hb dX8_rowsOf_38 (lv_at hl 5 rfl) ?_
      refine lv_aload_n hx hb dX8_rowsOf_40 rfl (lv_at hl 0 rfl) ?_
      refine gf_X8_268 C0 X hP 91 ⟨by decide, rfl⟩ dX8_rowsOf_41 ?_
      refine lv_topE (y := (nI (QB a b q x z i).length)) hR1.1.1 ?_
      refine lv_icmp_ge (tgt := 412) hx hb dX8_rowsOf_44 (by decide) (fun c_3 => ?_) (fun c_3 => ?_)
      · refine lv_bipush (v := (-4)) hx hb dX8_rowsOf_412 (by decide) ?_
        exact r_iret C0 X hP hS hr hlk dX8_rowsOf_414 ⟨(by rw [← RWn_at (i := i) (by omega) (Or.inl (Nat.not_lt.mp (nI_nlt_of c_3 (by omega)))), resQ_miss (fun hm => by obtain ⟨k9, d9, hg9⟩ := mem_fst hm; exact hno k9 _ d9 (Nat.lt_of_lt_of_le (List.getElem?_eq_some_iff.mp hg9).1 (Nat.not_lt.mp (nI_nlt_of c_3 (by omega)))) hg9 rfl)]), hR1.2⟩
      · have hi2 : i < (QB a b q x z i).length := nI_lt_of c_3 (by omega)
        obtain ⟨c9, d9, hg⟩ := getQ hi2
        have hk9 := hR1.1.2 i c9 d9 hg
        have hv9 := (QB_g (q := q) (z := z) ha hb3 hxb i).2 c9 (List.mem_map.mpr ⟨(c9, d9), List.mem_of_getElem? hg, rfl⟩)
        have hb9 := enc_b ha hb3 hv9
        have hEl := enc_lt ha hb3 hv9
        have hE : enc a b c9 = ((oneN (c9 % 128) (eyN c9)) * 128 + (othN (c9 % 128) (eyN c9))) * 16 + (xN a c9) * 4 + (yN b c9) := rfl
        have hll : c9 % 128 < 128 := Nat.mod_lt _ (by decide)
        have hl7 := ln_lt _ hll
        have hpc := ln_f1 _ hll hv9.2.2.1
        have hvv := hv9.2
        have hey : eyN c9 = Nat.log2 (c9 % 128) - c9 / 128 := rfl
        have hxn : xN a c9 = a - (pcN (c9 % 128) - 1) := rfl
        have hyn : yN b c9 = b - (Nat.log2 (c9 % 128) - (pcN (c9 % 128) - 1)) := rfl
        have hall : ∀ c ∈ nbrL a b q x z (c9 / 128) (c9 % 128), vcd a b c := nbr_ok ha hb3 hxb hv9.2.1 hll hv9.2.2.1 hv9.2.2.2.1 hv9.2.2.2.2
        have hsum : ¬ nI q ≤ nI (xN a c9 + yN b c9) → a + b - Nat.log2 (c9 % 128) < q := fun h9 => by have := nI_lt_of h9 (by omega); omega
        have hsumn : nI q ≤ nI (xN a c9 + yN b c9) → ¬ a + b - Nat.log2 (c9 % 128) < q := fun h9 => by have := nI_nlt_of h9 (by omega); omega
        have hones : ¬ nI (xN a c9) ≤ 0 → pcN (c9 % 128) - 1 < a := fun h9 => by have := nI_pos_of h9; omega
        have honesn : nI (xN a c9) ≤ 0 → ¬ pcN (c9 % 128) - 1 < a := fun h9 => by have := nI_zero_of (by omega) h9; omega
        have hzeros : ¬ nI (yN b c9) ≤ 0 → Nat.log2 (c9 % 128) - (pcN (c9 % 128) - 1) < b := fun h9 => by have := nI_pos_of h9; omega
        have hzerosn : nI (yN b c9) ≤ 0 → ¬ Nat.log2 (c9 % 128) - (pcN (c9 % 128) - 1) < b := fun h9 => by have := nI_zero_of (by omega) h9; omega
        refine lv_aload_n hx hb dX8_rowsOf_47 rfl (lv_at hl 0 rfl) ?_
        refine gf_X8_46 C0 X hP 91 (q := 104) ⟨by decide, rfl⟩ (by omega) rfl dX8_rowsOf_48 ?_
        refine lv_iload hx hb dX8_rowsOf_51 (lv_at hl 5 rfl) ?_
        refine r_ialdN C0 X hP 104 (k := i) ⟨by decide, rfl⟩ rfl (by omega) dX8_rowsOf_53 ?_
        refine lv_topE (y := (nI (enc a b c9))) hk9.1 ?_
        refine lv_istore (lv' := [(8, .int (nI (enc a b c9))), (0, .ref (ad 91)), (3, .int (nI q)), (4, .int (nI x)), (5, .int (nI z)), (6, .int (nI ((2 ^ (b + 1) - 1) * 128 + 2 ^ a))), (7, .int (nI i))]) hx hb dX8_rowsOf_54 hl (by decide) rfl (fun ls hl => ?_)
        refine lv_iload hx hb dX8_rowsOf_56 (lv_at hl 0 rfl) ?_
        refine lv_bipush (v := 16) hx hb dX8_rowsOf_58 (by decide) ?_
        refine lv_idiv hx hb dX8_rowsOf_60 (by decide) ?_
        refine lv_topE (y := (nI (enc a b c9 / 16))) (pk_div16 (by omega)) ?_
        refine lv_sipush (v := 128) hx hb dX8_rowsOf_61 (by decide) ?_
        refine lv_idiv hx hb dX8_rowsOf_64 (by decide) ?_
        refine lv_topE (y := (nI (oneN (c9 % 128) (eyN c9)))) (by rw [pk_div128 (by omega), show enc a b c9 / 16 / 128 = (oneN (c9 % 128) (eyN c9)) by omega]) ?_
        refine lv_istore (lv' := [(9, .int (nI (oneN (c9 % 128) (eyN c9)))), (8, .int (nI (enc a b c9))), (0, .ref (ad 91)), (3, .int (nI q)), (4, .int (nI x)), (5, .int (nI z)), (6, .int (nI ((2 ^ (b + 1) - 1) * 128 + 2 ^ a))), (7, .int (nI i))]) hx hb dX8_rowsOf_65 hl (by decide) rfl (fun ls hl => ?_)
        refine lv_iload hx hb dX8_rowsOf_67 (lv_at hl 1 rfl) ?_
        refine lv_bipush (v := 16) hx hb dX8_rowsOf_69 (by decide) ?_
        refine lv_idiv hx hb dX8_rowsOf_71 (by decide) ?_
        refine lv_topE (y := (nI (enc a b c9 / 16))) (pk_div16 (by omega)) ?_
        refine lv_sipush (v := 128) hx hb dX8_rowsOf_72 (by decide) ?_
        refine lv_irem hx hb dX8_rowsOf_75 (by decide) ?_
        refine lv_topE (y := (nI (othN (c9 % 128) (eyN c9)))) (by rw [pk_rem128 (by omega), show enc a b c9 / 16 % 128 = (othN (c9 % 128) (eyN c9)) by omega]) ?_
        refine lv_istore (lv' := [(10, .int (nI (othN (c9 % 128) (eyN c9)))), (9, .int (nI (oneN (c9 % 128) (eyN c9)))), (8, .int (nI (enc a b c9))), (0, .ref (ad 91)), (3, .int (nI q)), (4, .int (nI x)), (5, .int (nI z)), (6, .int (nI ((2 ^ (b + 1) - 1) * 128 + 2 ^ a))), (7, .int (nI i))]) hx hb dX8_rowsOf_76 hl (by decide) rfl (fun ls hl => ?_)
        refine lv_iload hx hb dX8_rowsOf_78 (lv_at hl 2 rfl) ?_
        refine lv_iconst (v := 4) hx hb dX8_rowsOf_80 (by decide) ?_
        refine lv_idiv hx hb dX8_rowsOf_81 (by decide) ?_
        refine lv_topE (y := (nI (enc a b c9 / 4))) (pk_div4 (by omega)) ?_
        refine lv_iconst (v := 4) hx hb dX8_rowsOf_82 (by decide) ?_
        refine lv_irem hx hb dX8_rowsOf_83 (by decide) ?_
        refine lv_topE (y := (nI (xN a c9))) (by rw [pk_rem4 (by omega), show enc a b c9 / 4 % 4 = (xN a c9) by omega]) ?_
        refine lv_istore (lv' := [(11, .int (nI (xN a c9))), (10, .int (nI (othN (c9 % 128) (eyN c9)))), (9, .int (nI (oneN (c9 % 128) (eyN c9)))), (8, .int (nI (enc a b c9))), (0, .ref (ad 91)), (3, .int (nI q)), (4, .int (nI x)), (5, .int (nI z)), (6, .int (nI ((2 ^ (b + 1) - 1) * 128 + 2 ^ a))), (7, .int (nI i))]) hx hb dX8_rowsOf_84 hl (by decide) rfl (fun ls hl => ?_)
        refine lv_iload hx hb dX8_rowsOf_86 (lv_at hl 3 rfl) ?_
        refine lv_iconst (v := 4) hx hb dX8_rowsOf_88 (by decide) ?_
        refine lv_irem hx hb dX8_rowsOf_89 (by decide) ?_
        refine lv_topE (y := (nI (yN b c9))) (by rw [pk_rem4 (by omega), show enc a b c9 % 4 = (yN b c9) by omega]) ?_
        refine lv_istore (lv' := [(12, .int (nI (yN b c9))), (11, .int (nI (xN a c9))), (10, .int (nI (othN (c9 % 128) (eyN c9)))), (9, .int (nI (oneN (c9 % 128) (eyN c9)))), (8, .int (nI (enc a b c9))), (0, .ref (ad 91)), (3, .int (nI q)), (4, .int (nI x)), (5, .int (nI z)), (6, .int (nI ((2 ^ (b + 1) - 1) * 128 + 2 ^ a))), (7, .int (nI i))]) hx hb dX8_rowsOf_90 hl (by decide) rfl (fun ls hl => ?_)
        refine lv_aload_n hx hb dX8_rowsOf_92 rfl (lv_at hl 5 rfl) ?_
        refine gf_X8_43 C0 X hP 91 (q := 103) ⟨by decide, rfl⟩ (by omega) rfl dX8_rowsOf_93 ?_
        refine lv_iload hx hb dX8_rowsOf_96 (lv_at hl 10 rfl) ?_
        refine r_ialdN C0 X hP 103 (k := i) ⟨by decide, rfl⟩ rfl (by omega) dX8_rowsOf_98 ?_
        refine lv_topE (y := (nI d9)) hk9.2 ?_
        refine lv_istore (lv' := [(13, .int (nI d9)), (12, .int (nI (yN b c9))), (11, .int (nI (xN a c9))), (10, .int (nI (othN (c9 % 128) (eyN c9)))), (9, .int (nI (oneN (c9 % 128) (eyN c9)))), (8, .int (nI (enc a b c9))), (0, .ref (ad 91)), (3, .int (nI q)), (4, .int (nI x)), (5, .int (nI z)), (6, .int (nI ((2 ^ (b + 1) - 1) * 128 + 2 ^ a))), (7, .int (nI i))]) hx hb dX8_rowsOf_99 hl (by decide) rfl (fun ls hl => ?_)
        refine lv_iload hx hb dX8_rowsOf_101 (lv_at hl 5 rfl) ?_
        refine lv_bipush (v := 16) hx hb dX8_rowsOf_103 (by decide) ?_
        refine lv_iload hx hb dX8_rowsOf_105 (lv_at hl 10 rfl) ?_
        refine lv_imul hx hb dX8_rowsOf_107 ?_
        refine lv_topE (y := (nI (16 * ((2 ^ (b + 1) - 1) * 128 + 2 ^ a)))) (pk_mul 16 _) ?_
        refine lv_icmp_ne (tgt := 114) hx hb dX8_rowsOf_108 (by decide) (fun c_4 => ?_) (fun c_4 => ?_)
        · have hne9 : c9 ≠ wtC a b := fun e9 => c_4 (by rw [e9, enc_w a (by omega) b (by omega)])
          refine lv_iload hx hb dX8_rowsOf_114 (lv_at hl 4 rfl) ?_
          refine r_ci X hS (r_runS (As := [.int (nI (oneN (c9 % 128) (eyN c9)))]) (rest := []) C0 X hP L_X8_275 (fun sz => c_X8_manyOf l D cA ad o μ (oneN (c9 % 128) (eyN c9)) hb9.1 sz) ⟨Nat.le_of_ble_eq_true rfl, Nat.le_of_ble_eq_true rfl⟩ rfl hl.1 rfl (Nat.le_of_ble_eq_true rfl) dX8_rowsOf_116 ⟨Nat.zero_le _, Nat.zero_le _⟩) (fun r σ9 H locs hw hP hS => ?_)
          rw [hw.2] at hP
          rw [hw.1]
          refine lv_topE (y := (nI (c9 / 128))) (by rw [hb9.2.2.2.2.2.2.1]) ?_
          refine lv_istore (lv' := [(14, .int (nI (c9 / 128))), (13, .int (nI d9)), (12, .int (nI (yN b c9))), (11, .int (nI (xN a c9))), (10, .int (nI (othN (c9 % 128) (eyN c9)))), (9, .int (nI (oneN (c9 % 128) (eyN c9)))), (8, .int (nI (enc a b c9))), (0, .ref (ad 91)), (3, .int (nI q)), (4, .int (nI x)), (5, .int (nI z)), (6, .int (nI ((2 ^ (b + 1) - 1) * 128 + 2 ^ a))), (7, .int (nI i))]) hx hb dX8_rowsOf_119 hl (by decide) rfl (fun ls hl => ?_)
          refine lv_iload hx hb dX8_rowsOf_121 (lv_at hl 4 rfl) ?_
          refine r_ci X hS (r_runS (As := [.int (nI (othN (c9 % 128) (eyN c9)))]) (rest := []) C0 X hP L_X8_275 (fun sz => c_X8_manyOf l D cA ad o μ (othN (c9 % 128) (eyN c9)) hb9.2.1 sz) ⟨Nat.le_of_ble_eq_true rfl, Nat.le_of_ble_eq_true rfl⟩ rfl hl.1 rfl (Nat.le_of_ble_eq_true rfl) dX8_rowsOf_123 ⟨Nat.zero_le _, Nat.zero_le _⟩) (fun r σ9 H locs hw hP hS => ?_)
          rw [hw.2] at hP
          rw [hw.1]
          refine lv_topE (y := (nI (eyN c9))) (by rw [hb9.2.2.2.2.2.2.2]) ?_
          refine lv_istore (lv' := [(15, .int (nI (eyN c9))), (14, .int (nI (c9 / 128))), (13, .int (nI d9)), (12, .int (nI (yN b c9))), (11, .int (nI (xN a c9))), (10, .int (nI (othN (c9 % 128) (eyN c9)))), (9, .int (nI (oneN (c9 % 128) (eyN c9)))), (8, .int (nI (enc a b c9))), (0, .ref (ad 91)), (3, .int (nI q)), (4, .int (nI x)), (5, .int (nI z)), (6, .int (nI ((2 ^ (b + 1) - 1) * 128 + 2 ^ a))), (7, .int (nI i))]) hx hb dX8_rowsOf_126 hl (by decide) rfl (fun ls hl => ?_)
          have jp_5 : ∀ (μ1 : Mem) (H : Heap) (locs : List Loc) (ls : Array Slot), RepR σ a b (foldQ (QB a b q x z i) (mm1 z (c9 / 128) (c9 % 128)) (d9 + 1)) μ1 → WP D cA ad o μ1 H → va_S (FA ad s.heap.size) s.heap H locs → lv_has ls 16 [(0, .ref (ad 91)), (3, .int (nI q)), (4, .int (nI x)), (5, .int (nI z)), (6, .int (nI ((2 ^ (b + 1) - 1) * 128 + 2 ^ a))), (7, .int (nI i)), (9, .int (nI (oneN (c9 % 128) (eyN c9)))), (10, .int (nI (othN (c9 % 128) (eyN c9)))), (11, .int (nI (xN a c9))), (12, .int (nI (yN b c9))), (13, .int (nI d9)), (14, .int (nI (c9 / 128))), (15, .int (nI (eyN c9)))] → W p l e (RM 1) s m ([.ref (ad 91), .int (nI a), .int (nI b), .int (nI q), .int (nI x), .int (nI z)] : List Value).toArray below meth c H locs 0 0 (MQ below (va_Qi (fun r (σ9 : Mem) => r = RWn a b q x z ∧ Fr9 σ σ9) (QW D cA ad o) (FA ad s.heap.size)) ([.ref (ad 91), .int (nI a), .int (nI b), .int (nI q), .int (nI x), .int (nI z)] : List Value).toArray s 0 0 (FA ad s.heap.size)) (F0 m 163 ls []) := by
            intro μ1 H locs ls hRa hP hS hl
            have jp_6 : ∀ (μ2 : Mem) (H : Heap) (locs : List Loc) (ls : Array Slot), RepR σ a b (foldQ (QB a b q x z i) (mm1 z (c9 / 128) (c9 % 128) ++ mm2 x (c9 / 128) (c9 % 128)) (d9 + 1)) μ2 → WP D cA ad o μ2 H → va_S (FA ad s.heap.size) s.heap H locs → lv_has ls 16 [(0, .ref (ad 91)), (3, .int (nI q)), (4, .int (nI x)), (5, .int (nI z)), (6, .int (nI ((2 ^ (b + 1) - 1) * 128 + 2 ^ a))), (7, .int (nI i)), (9, .int (nI (oneN (c9 % 128) (eyN c9)))), (10, .int (nI (othN (c9 % 128) (eyN c9)))), (11, .int (nI (xN a c9))), (12, .int (nI (yN b c9))), (13, .int (nI d9)), (14, .int (nI (c9 / 128))), (15, .int (nI (eyN c9)))] → W p l e (RM 1) s m ([.ref (ad 91), .int (nI a), .int (nI b), .int (nI q), .int (nI x), .int (nI z)] : List Value).toArray below meth c H locs 0 0 (MQ below (va_Qi (fun r (σ9 : Mem) => r = RWn a b q x z ∧ Fr9 σ σ9) (QW D cA ad o) (FA ad s.heap.size)) ([.ref (ad 91), .int (nI a), .int (nI b), .int (nI q), .int (nI x), .int (nI z)] : List Value).toArray s 0 0 (FA ad s.heap.size)) (F0 m 198 ls []) := by
              intro μ2 H locs ls hR2 hP hS hl
              have jp_7 : ∀ (μ3 : Mem) (H : Heap) (locs : List Loc) (ls : Array Slot), RepR σ a b (foldQ (QB a b q x z i) (mm1 z (c9 / 128) (c9 % 128) ++ mm2 x (c9 / 128) (c9 % 128) ++ mm3 a b q (c9 / 128) (c9 % 128)) (d9 + 1)) μ3 → WP D cA ad o μ3 H → va_S (FA ad s.heap.size) s.heap H locs → lv_has ls 16 [(0, .ref (ad 91)), (3, .int (nI q)), (4, .int (nI x)), (5, .int (nI z)), (6, .int (nI ((2 ^ (b + 1) - 1) * 128 + 2 ^ a))), (7, .int (nI i)), (9, .int (nI (oneN (c9 % 128) (eyN c9)))), (10, .int (nI (othN (c9 % 128) (eyN c9)))), (11, .int (nI (xN a c9))), (12, .int (nI (yN b c9))), (13, .int (nI d9)), (14, .int (nI (c9 / 128))), (15, .int (nI (eyN c9)))] → W p l e (RM 1) s m ([.ref (ad 91), .int (nI a), .int (nI b), .int (nI q), .int (nI x), .int (nI z)] : List Value).toArray below meth c H locs 0 0 (MQ below (va_Qi (fun r (σ9 : Mem) => r = RWn a b q x z ∧ Fr9 σ σ9) (QW D cA ad o) (FA ad s.heap.size)) ([.ref (ad 91), .int (nI a), .int (nI b), .int (nI q), .int (nI x), .int (nI z)] : List Value).toArray s 0 0 (FA ad s.heap.size)) (F0 m 240 ls []) := by
                intro μ3 H locs ls hR3 hP hS hl
                have jp_8 : ∀ (μ4 : Mem) (H : Heap) (locs : List Loc) (ls : Array Slot), RepR σ a b (foldQ (QB a b q x z i) (mm1 z (c9 / 128) (c9 % 128) ++ mm2 x (c9 / 128) (c9 % 128) ++ mm3 a b q (c9 / 128) (c9 % 128) ++ mm4 a b q (c9 / 128) (c9 % 128)) (d9 + 1)) μ4 → WP D cA ad o μ4 H → va_S (FA ad s.heap.size) s.heap H locs → lv_has ls 16 [(0, .ref (ad 91)), (3, .int (nI q)), (4, .int (nI x)), (5, .int (nI z)), (6, .int (nI ((2 ^ (b + 1) - 1) * 128 + 2 ^ a))), (7, .int (nI i)), (9, .int (nI (oneN (c9 % 128) (eyN c9)))), (10, .int (nI (othN (c9 % 128) (eyN c9)))), (11, .int (nI (xN a c9))), (12, .int (nI (yN b c9))), (13, .int (nI d9)), (14, .int (nI (c9 / 128))), (15, .int (nI (eyN c9)))] → W p l e (RM 1) s m ([.ref (ad 91), .int (nI a), .int (nI b), .int (nI q), .int (nI x), .int (nI z)] : List Value).toArray below meth c H locs 0 0 (MQ below (va_Qi (fun r (σ9 : Mem) => r = RWn a b q x z ∧ Fr9 σ σ9) (QW D cA ad o) (FA ad s.heap.size)) ([.ref (ad 91), .int (nI a), .int (nI b), .int (nI q), .int (nI x), .int (nI z)] : List Value).toArray s 0 0 (FA ad s.heap.size)) (F0 m 282 ls []) := by
                  intro μ4 H locs ls hR4 hP hS hl
                  have jp_9 : ∀ (μ5 : Mem) (H : Heap) (locs : List Loc) (ls : Array Slot), RepR σ a b (foldQ (QB a b q x z i) (mm1 z (c9 / 128) (c9 % 128) ++ mm2 x (c9 / 128) (c9 % 128) ++ mm3 a b q (c9 / 128) (c9 % 128) ++ mm4 a b q (c9 / 128) (c9 % 128) ++ m5a a x (c9 / 128) (c9 % 128)) (d9 + 1)) μ5 → WP D cA ad o μ5 H → va_S (FA ad s.heap.size) s.heap H locs → lv_has ls 16 [(0, .ref (ad 91)), (3, .int (nI q)), (4, .int (nI x)), (5, .int (nI z)), (6, .int (nI ((2 ^ (b + 1) - 1) * 128 + 2 ^ a))), (7, .int (nI i)), (9, .int (nI (oneN (c9 % 128) (eyN c9)))), (10, .int (nI (othN (c9 % 128) (eyN c9)))), (11, .int (nI (xN a c9))), (12, .int (nI (yN b c9))), (13, .int (nI d9)), (14, .int (nI (c9 / 128))), (15, .int (nI (eyN c9)))] → W p l e (RM 1) s m ([.ref (ad 91), .int (nI a), .int (nI b), .int (nI q), .int (nI x), .int (nI z)] : List Value).toArray below meth c H locs 0 0 (MQ below (va_Qi (fun r (σ9 : Mem) => r = RWn a b q x z ∧ Fr9 σ σ9) (QW D cA ad o) (FA ad s.heap.size)) ([.ref (ad 91), .int (nI a), .int (nI b), .int (nI q), .int (nI x), .int (nI z)] : List Value).toArray s 0 0 (FA ad s.heap.size)) (F0 m 312 ls []) := by
                    intro μ5 H locs ls hR5 hP hS hl
                    have jp_10 : ∀ (μ6 : Mem) (H : Heap) (locs : List Loc) (ls : Array Slot), RepR σ a b (foldQ (QB a b q x z i) (mm1 z (c9 / 128) (c9 % 128) ++ mm2 x (c9 / 128) (c9 % 128) ++ mm3 a b q (c9 / 128) (c9 % 128) ++ mm4 a b q (c9 / 128) (c9 % 128) ++ m5a a x (c9 / 128) (c9 % 128) ++ m5b a z (c9 / 128) (c9 % 128)) (d9 + 1)) μ6 → WP D cA ad o μ6 H → va_S (FA ad s.heap.size) s.heap H locs → lv_has ls 16 [(0, .ref (ad 91)), (3, .int (nI q)), (4, .int (nI x)), (5, .int (nI z)), (6, .int (nI ((2 ^ (b + 1) - 1) * 128 + 2 ^ a))), (7, .int (nI i)), (9, .int (nI (oneN (c9 % 128) (eyN c9)))), (10, .int (nI (othN (c9 % 128) (eyN c9)))), (11, .int (nI (xN a c9))), (12, .int (nI (yN b c9))), (13, .int (nI d9)), (14, .int (nI (c9 / 128))), (15, .int (nI (eyN c9)))] → W p l e (RM 1) s m ([.ref (ad 91), .int (nI a), .int (nI b), .int (nI q), .int (nI x), .int (nI z)] : List Value).toArray below meth c H locs 0 0 (MQ below (va_Qi (fun r (σ9 : Mem) => r = RWn a b q x z ∧ Fr9 σ σ9) (QW D cA ad o) (FA ad s.heap.size)) ([.ref (ad 91), .int (nI a), .int (nI b), .int (nI q), .int (nI x), .int (nI z)] : List Value).toArray s 0 0 (FA ad s.heap.size)) (F0 m 342 ls []) := by
                      intro μ6 H locs ls hR6 hP hS hl
                      have jp_11 : ∀ (μ7 : Mem) (H : Heap) (locs : List Loc) (ls : Array Slot), RepR σ a b (foldQ (QB a b q x z i) (mm1 z (c9 / 128) (c9 % 128) ++ mm2 x (c9 / 128) (c9 % 128) ++ mm3 a b q (c9 / 128) (c9 % 128) ++ mm4 a b q (c9 / 128) (c9 % 128) ++ m5a a x (c9 / 128) (c9 % 128) ++ m5b a z (c9 / 128) (c9 % 128) ++ m6a b x (c9 / 128) (c9 % 128)) (d9 + 1)) μ7 → WP D cA ad o μ7 H → va_S (FA ad s.heap.size) s.heap H locs → lv_has ls 16 [(0, .ref (ad 91)), (3, .int (nI q)), (4, .int (nI x)), (5, .int (nI z)), (6, .int (nI ((2 ^ (b + 1) - 1) * 128 + 2 ^ a))), (7, .int (nI i)), (9, .int (nI (oneN (c9 % 128) (eyN c9)))), (10, .int (nI (othN (c9 % 128) (eyN c9)))), (11, .int (nI (xN a c9))), (12, .int (nI (yN b c9))), (13, .int (nI d9)), (14, .int (nI (c9 / 128))), (15, .int (nI (eyN c9)))] → W p l e (RM 1) s m ([.ref (ad 91), .int (nI a), .int (nI b), .int (nI q), .int (nI x), .int (nI z)] : List Value).toArray below meth c H locs 0 0 (MQ below (va_Qi (fun r (σ9 : Mem) => r = RWn a b q x z ∧ Fr9 σ σ9) (QW D cA ad o) (FA ad s.heap.size)) ([.ref (ad 91), .int (nI a), .int (nI b), .int (nI q), .int (nI x), .int (nI z)] : List Value).toArray s 0 0 (FA ad s.heap.size)) (F0 m 374 ls []) := by
                        intro μ7 H locs ls hR7 hP hS hl
                        have jp_12 : ∀ (μ8 : Mem) (H : Heap) (locs : List Loc) (ls : Array Slot), RepR σ a b (foldQ (QB a b q x z i) (mm1 z (c9 / 128) (c9 % 128) ++ mm2 x (c9 / 128) (c9 % 128) ++ mm3 a b q (c9 / 128) (c9 % 128) ++ mm4 a b q (c9 / 128) (c9 % 128) ++ m5a a x (c9 / 128) (c9 % 128) ++ m5b a z (c9 / 128) (c9 % 128) ++ m6a b x (c9 / 128) (c9 % 128) ++ m6b b z (c9 / 128) (c9 % 128)) (d9 + 1)) μ8 → WP D cA ad o μ8 H → va_S (FA ad s.heap.size) s.heap H locs → lv_has ls 16 [(0, .ref (ad 91)), (3, .int (nI q)), (4, .int (nI x)), (5, .int (nI z)), (6, .int (nI ((2 ^ (b + 1) - 1) * 128 + 2 ^ a))), (7, .int (nI i)), (9, .int (nI (oneN (c9 % 128) (eyN c9)))), (10, .int (nI (othN (c9 % 128) (eyN c9)))), (11, .int (nI (xN a c9))), (12, .int (nI (yN b c9))), (13, .int (nI d9)), (14, .int (nI (c9 / 128))), (15, .int (nI (eyN c9)))] → W p l e (RM 1) s m ([.ref (ad 91), .int (nI a), .int (nI b), .int (nI q), .int (nI x), .int (nI z)] : List Value).toArray below meth c H locs 0 0 (MQ below (va_Qi (fun r (σ9 : Mem) => r = RWn a b q x z ∧ Fr9 σ σ9) (QW D cA ad o) (FA ad s.heap.size)) ([.ref (ad 91), .int (nI a), .int (nI b), .int (nI q), .int (nI x), .int (nI z)] : List Value).toArray s 0 0 (FA ad s.heap.size)) (F0 m 406 ls []) := by
                          intro μ8 H locs ls hR8 hP hS hl
                          refine lv_iinc (v := (nI (i + 1))) (lv' := [(7, .int (nI (i + 1))), (0, .ref (ad 91)), (3, .int (nI q)), (4, .int (nI x)), (5, .int (nI z)), (6, .int (nI ((2 ^ (b + 1) - 1) * 128 + 2 ^ a))), (9, .int (nI (oneN (c9 % 128) (eyN c9)))), (10, .int (nI (othN (c9 % 128) (eyN c9)))), (11, .int (nI (xN a c9))), (12, .int (nI (yN b c9))), (13, .int (nI d9)), (14, .int (nI (c9 / 128))), (15, .int (nI (eyN c9)))]) hx hb dX8_rowsOf_406 hl (k := 5) rfl (nI_1 _) (by decide) rfl (fun ls hl => ?_)
                          refine lv_goto (tgt := 38) hx hb dX8_rowsOf_409 (by decide) ?_
                          exact ih (i + 1) μ8 _ _ ls (by rw [← QB_s hg, nbrL_eq]; exact hR8) (by rw [← QB_s hg]; exact Nat.le_trans hi2 (foldQ_len _ _ _)) (QB_no hg hne9 hno) hP hS (lv_sub hl [1, 2, 3, 4, 5, 0] rfl) (by omega)
                        refine lv_iload hx hb dX8_rowsOf_374 (lv_at hl 9 rfl) ?_
                        refine lv_if_le (tgt := 406) hx hb dX8_rowsOf_376 (by decide) (fun c_13 => ?_) (fun c_13 => ?_)
                        · exact jp_12 μ7 _ _ ls (by rw [foldQ_app, m6b, if_neg (hzerosn c_13)]; exact hR7) hP hS (lv_sub hl [0, 1, 2, 3, 4, 5, 6, 7, 8, 9, 10, 11, 12] rfl)
                        · refine lv_iload hx hb dX8_rowsOf_379 (lv_at hl 12 rfl) ?_
                          refine lv_iload hx hb dX8_rowsOf_381 (lv_at hl 3 rfl) ?_
                          refine lv_icmp_ge (tgt := 406) hx hb dX8_rowsOf_383 (by decide) (fun c_14 => ?_) (fun c_14 => ?_)
                          · exact jp_12 μ7 _ _ ls (by rw [foldQ_app, m6b]; split; rw [cb2, if_neg (show ¬ Nat.log2 (c9 % 128) - c9 / 128 < z from nI_nlt_of c_14 (by omega))]; exact hR7; exact hR7) hP hS (lv_sub hl [0, 1, 2, 3, 4, 5, 6, 7, 8, 9, 10, 11, 12] rfl)
                          · refine lv_aload_n hx hb dX8_rowsOf_386 rfl (lv_at hl 0 rfl) ?_
                            refine lv_iload hx hb dX8_rowsOf_387 (lv_at hl 6 rfl) ?_
                            refine lv_iconst (v := 2) hx hb dX8_rowsOf_389 (by decide) ?_
                            refine lv_iload hx hb dX8_rowsOf_390 (lv_at hl 7 rfl) ?_
                            refine lv_imul hx hb dX8_rowsOf_392 ?_
                            refine lv_topE (y := (nI (2 * (othN (c9 % 128) (eyN c9))))) (pk_mul 2 _) ?_
                            refine lv_iconst (v := 1) hx hb dX8_rowsOf_393 (by decide) ?_
                            refine lv_iadd hx hb dX8_rowsOf_394 ?_
                            refine lv_topE (y := (nI (2 * (othN (c9 % 128) (eyN c9)) + 1))) (nI_1 _) ?_
                            refine lv_iload hx hb dX8_rowsOf_395 (lv_at hl 8 rfl) ?_
                            refine lv_iload hx hb dX8_rowsOf_397 (lv_at hl 9 rfl) ?_
                            refine lv_iconst (v := 1) hx hb dX8_rowsOf_399 (by decide) ?_
                            refine lv_isub hx hb dX8_rowsOf_400 ?_
                            refine lv_topE (y := (nI ((yN b c9) - 1))) (pk_sub (a := (yN b c9)) (b := 1) (nI_pos_of c_13)) ?_
                            refine lv_iload hx hb dX8_rowsOf_401 (lv_at hl 10 rfl) ?_
                            refine r_cv X hS (r_runV (As := [.int (nI (oneN (c9 % 128) (eyN c9))), .int (nI (2 * (othN (c9 % 128) (eyN c9)) + 1)), .int (nI (xN a c9)), .int (nI ((yN b c9) - 1)), .int (nI d9)]) (rest := []) C0 X hP L_X8_271 (fun sz => c_X8_reaches l D cA ad o σ μ7 (foldQ (QB a b q x z i) (mm1 z (c9 / 128) (c9 % 128) ++ mm2 x (c9 / 128) (c9 % 128) ++ mm3 a b q (c9 / 128) (c9 % 128) ++ mm4 a b q (c9 / 128) (c9 % 128) ++ m5a a x (c9 / 128) (c9 % 128) ++ m5b a z (c9 / 128) (c9 % 128) ++ m6a b x (c9 / 128) (c9 % 128)) (d9 + 1)) (oneN (c9 % 128) (eyN c9)) (2 * (othN (c9 % 128) (eyN c9)) + 1) (xN a c9) ((yN b c9) - 1) (nI d9) a b ((c9 / 128) * 128 + lgN (c9 % 128) (Nat.log2 (c9 % 128) - (c9 / 128)) 0) (d9 + 1) ha hb3 hR7 (QG_fold (QB_g ha hb3 hxb i) _ (fun w9 hw9 => hall w9 (by rw [nbrL_eq]; exact List.mem_append_left _ (hw9)))) (hall _ (by rw [nbrL_eq, m6b, if_pos (hzeros c_13), cb2, if_pos (show Nat.log2 (c9 % 128) - c9 / 128 < z from nI_lt_of c_14 (by omega))]; simp)) (mv8 ha hb3 hv9 (nI_pos_of c_13)) (nI_1 _) sz) (show 91 < 106 ∧ kd 91 = (8, 24) from ⟨by decide, rfl⟩).1 (show 91 < 106 ∧ kd 91 = (8, 24) from ⟨by decide, rfl⟩).2 (by decide) rfl ⟨Nat.le_of_ble_eq_true rfl, Nat.le_of_ble_eq_true rfl⟩ rfl hl.1 rfl (Nat.le_of_ble_eq_true rfl) dX8_rowsOf_403 ⟨Nat.zero_le _, Nat.zero_le _⟩) (fun σw_15 H locs hw_15 hP hS => ?_)
                            exact jp_12 σw_15 _ _ ls (by rw [foldQ_app, m6b, if_pos (hzeros c_13), cb2, if_pos (show Nat.log2 (c9 % 128) - c9 / 128 < z from nI_lt_of c_14 (by omega)), foldQ_one]; exact hw_15) hP hS (lv_sub hl [0, 1, 2, 3, 4, 5, 6, 7, 8, 9, 10, 11, 12] rfl)
                      refine lv_iload hx hb dX8_rowsOf_342 (lv_at hl 9 rfl) ?_
                      refine lv_if_le (tgt := 374) hx hb dX8_rowsOf_344 (by decide) (fun c_16 => ?_) (fun c_16 => ?_)
                      · exact jp_11 μ6 _ _ ls (by rw [foldQ_app, m6a, if_neg (hzerosn c_16)]; exact hR6) hP hS (lv_sub hl [0, 1, 2, 3, 4, 5, 6, 7, 8, 9, 10, 11, 12] rfl)
                      · refine lv_iload hx hb dX8_rowsOf_347 (lv_at hl 11 rfl) ?_
                        refine lv_iload hx hb dX8_rowsOf_349 (lv_at hl 2 rfl) ?_
                        refine lv_icmp_ge (tgt := 374) hx hb dX8_rowsOf_351 (by decide) (fun c_17 => ?_) (fun c_17 => ?_)
                        · exact jp_11 μ6 _ _ ls (by rw [foldQ_app, m6a]; split; rw [cb1, if_neg (nI_nlt_of c_17 (by omega))]; exact hR6; exact hR6) hP hS (lv_sub hl [0, 1, 2, 3, 4, 5, 6, 7, 8, 9, 10, 11, 12] rfl)
                        · refine lv_aload_n hx hb dX8_rowsOf_354 rfl (lv_at hl 0 rfl) ?_
                          refine lv_iconst (v := 2) hx hb dX8_rowsOf_355 (by decide) ?_
                          refine lv_iload hx hb dX8_rowsOf_356 (lv_at hl 6 rfl) ?_
                          refine lv_imul hx hb dX8_rowsOf_358 ?_
                          refine lv_topE (y := (nI (2 * (oneN (c9 % 128) (eyN c9))))) (pk_mul 2 _) ?_
                          refine lv_iconst (v := 1) hx hb dX8_rowsOf_359 (by decide) ?_
                          refine lv_iadd hx hb dX8_rowsOf_360 ?_
                          refine lv_topE (y := (nI (2 * (oneN (c9 % 128) (eyN c9)) + 1))) (nI_1 _) ?_
                          refine lv_iload hx hb dX8_rowsOf_361 (lv_at hl 7 rfl) ?_
                          refine lv_iload hx hb dX8_rowsOf_363 (lv_at hl 8 rfl) ?_
                          refine lv_iload hx hb dX8_rowsOf_365 (lv_at hl 9 rfl) ?_
                          refine lv_iconst (v := 1) hx hb dX8_rowsOf_367 (by decide) ?_
                          refine lv_isub hx hb dX8_rowsOf_368 ?_
                          refine lv_topE (y := (nI ((yN b c9) - 1))) (pk_sub (a := (yN b c9)) (b := 1) (nI_pos_of c_16)) ?_
                          refine lv_iload hx hb dX8_rowsOf_369 (lv_at hl 10 rfl) ?_
                          refine r_cv X hS (r_runV (As := [.int (nI (2 * (oneN (c9 % 128) (eyN c9)) + 1)), .int (nI (othN (c9 % 128) (eyN c9))), .int (nI (xN a c9)), .int (nI ((yN b c9) - 1)), .int (nI d9)]) (rest := []) C0 X hP L_X8_271 (fun sz => c_X8_reaches l D cA ad o σ μ6 (foldQ (QB a b q x z i) (mm1 z (c9 / 128) (c9 % 128) ++ mm2 x (c9 / 128) (c9 % 128) ++ mm3 a b q (c9 / 128) (c9 % 128) ++ mm4 a b q (c9 / 128) (c9 % 128) ++ m5a a x (c9 / 128) (c9 % 128) ++ m5b a z (c9 / 128) (c9 % 128)) (d9 + 1)) (2 * (oneN (c9 % 128) (eyN c9)) + 1) (othN (c9 % 128) (eyN c9)) (xN a c9) ((yN b c9) - 1) (nI d9) a b (((c9 / 128) + 1) * 128 + lgN (c9 % 128) (Nat.log2 (c9 % 128) - (c9 / 128)) 0) (d9 + 1) ha hb3 hR6 (QG_fold (QB_g ha hb3 hxb i) _ (fun w9 hw9 => hall w9 (by rw [nbrL_eq]; exact List.mem_append_left _ (List.mem_append_left _ (hw9))))) (hall _ (by rw [nbrL_eq, m6a, if_pos (hzeros c_16), cb1, if_pos (nI_lt_of c_17 (by omega))]; simp)) (mv7 ha hb3 hv9 (nI_pos_of c_16)) (nI_1 _) sz) (show 91 < 106 ∧ kd 91 = (8, 24) from ⟨by decide, rfl⟩).1 (show 91 < 106 ∧ kd 91 = (8, 24) from ⟨by decide, rfl⟩).2 (by decide) rfl ⟨Nat.le_of_ble_eq_true rfl, Nat.le_of_ble_eq_true rfl⟩ rfl hl.1 rfl (Nat.le_of_ble_eq_true rfl) dX8_rowsOf_371 ⟨Nat.zero_le _, Nat.zero_le _⟩) (fun σw_18 H locs hw_18 hP hS => ?_)
                          exact jp_11 σw_18 _ _ ls (by rw [foldQ_app, m6a, if_pos (hzeros c_16), cb1, if_pos (nI_lt_of c_17 (by omega)), foldQ_one]; exact hw_18) hP hS (lv_sub hl [0, 1, 2, 3, 4, 5, 6, 7, 8, 9, 10, 11, 12] rfl)
                    refine lv_iload hx hb dX8_rowsOf_312 (lv_at hl 8 rfl) ?_
                    refine lv_if_le (tgt := 342) hx hb dX8_rowsOf_314 (by decide) (fun c_19 => ?_) (fun c_19 => ?_)
                    · exact jp_10 μ5 _ _ ls (by rw [foldQ_app, m5b, if_neg (honesn c_19)]; exact hR5) hP hS (lv_sub hl [0, 1, 2, 3, 4, 5, 6, 7, 8, 9, 10, 11, 12] rfl)
                    · refine lv_iload hx hb dX8_rowsOf_317 (lv_at hl 12 rfl) ?_
                      refine lv_iload hx hb dX8_rowsOf_319 (lv_at hl 3 rfl) ?_
                      refine lv_icmp_ge (tgt := 342) hx hb dX8_rowsOf_321 (by decide) (fun c_20 => ?_) (fun c_20 => ?_)
                      · exact jp_10 μ5 _ _ ls (by rw [foldQ_app, m5b]; split; rw [cb2, if_neg (show ¬ Nat.log2 (c9 % 128) - c9 / 128 < z from nI_nlt_of c_20 (by omega))]; exact hR5; exact hR5) hP hS (lv_sub hl [0, 1, 2, 3, 4, 5, 6, 7, 8, 9, 10, 11, 12] rfl)
                      · refine lv_aload_n hx hb dX8_rowsOf_324 rfl (lv_at hl 0 rfl) ?_
                        refine lv_iload hx hb dX8_rowsOf_325 (lv_at hl 6 rfl) ?_
                        refine lv_iconst (v := 2) hx hb dX8_rowsOf_327 (by decide) ?_
                        refine lv_iload hx hb dX8_rowsOf_328 (lv_at hl 7 rfl) ?_
                        refine lv_imul hx hb dX8_rowsOf_330 ?_
                        refine lv_topE (y := (nI (2 * (othN (c9 % 128) (eyN c9))))) (pk_mul 2 _) ?_
                        refine lv_iload hx hb dX8_rowsOf_331 (lv_at hl 8 rfl) ?_
                        refine lv_iconst (v := 1) hx hb dX8_rowsOf_333 (by decide) ?_
                        refine lv_isub hx hb dX8_rowsOf_334 ?_
                        refine lv_topE (y := (nI ((xN a c9) - 1))) (pk_sub (a := (xN a c9)) (b := 1) (nI_pos_of c_19)) ?_
                        refine lv_iload hx hb dX8_rowsOf_335 (lv_at hl 9 rfl) ?_
                        refine lv_iload hx hb dX8_rowsOf_337 (lv_at hl 10 rfl) ?_
                        refine r_cv X hS (r_runV (As := [.int (nI (oneN (c9 % 128) (eyN c9))), .int (nI (2 * (othN (c9 % 128) (eyN c9)))), .int (nI ((xN a c9) - 1)), .int (nI (yN b c9)), .int (nI d9)]) (rest := []) C0 X hP L_X8_271 (fun sz => c_X8_reaches l D cA ad o σ μ5 (foldQ (QB a b q x z i) (mm1 z (c9 / 128) (c9 % 128) ++ mm2 x (c9 / 128) (c9 % 128) ++ mm3 a b q (c9 / 128) (c9 % 128) ++ mm4 a b q (c9 / 128) (c9 % 128) ++ m5a a x (c9 / 128) (c9 % 128)) (d9 + 1)) (oneN (c9 % 128) (eyN c9)) (2 * (othN (c9 % 128) (eyN c9))) ((xN a c9) - 1) (yN b c9) (nI d9) a b ((c9 / 128) * 128 + lgN (c9 % 128) (Nat.log2 (c9 % 128) - (c9 / 128)) 1) (d9 + 1) ha hb3 hR5 (QG_fold (QB_g ha hb3 hxb i) _ (fun w9 hw9 => hall w9 (by rw [nbrL_eq]; exact List.mem_append_left _ (List.mem_append_left _ (List.mem_append_left _ (hw9)))))) (hall _ (by rw [nbrL_eq, m5b, if_pos (hones c_19), cb2, if_pos (show Nat.log2 (c9 % 128) - c9 / 128 < z from nI_lt_of c_20 (by omega))]; simp)) (mv6 ha hb3 hv9 (nI_pos_of c_19)) (nI_1 _) sz) (show 91 < 106 ∧ kd 91 = (8, 24) from ⟨by decide, rfl⟩).1 (show 91 < 106 ∧ kd 91 = (8, 24) from ⟨by decide, rfl⟩).2 (by decide) rfl ⟨Nat.le_of_ble_eq_true rfl, Nat.le_of_ble_eq_true rfl⟩ rfl hl.1 rfl (Nat.le_of_ble_eq_true rfl) dX8_rowsOf_339 ⟨Nat.zero_le _, Nat.zero_le _⟩) (fun σw_21 H locs hw_21 hP hS => ?_)
                        exact jp_10 σw_21 _ _ ls (by rw [foldQ_app, m5b, if_pos (hones c_19), cb2, if_pos (show Nat.log2 (c9 % 128) - c9 / 128 < z from nI_lt_of c_20 (by omega)), foldQ_one]; exact hw_21) hP hS (lv_sub hl [0, 1, 2, 3, 4, 5, 6, 7, 8, 9, 10, 11, 12] rfl)
                  refine lv_iload hx hb dX8_rowsOf_282 (lv_at hl 8 rfl) ?_
                  refine lv_if_le (tgt := 312) hx hb dX8_rowsOf_284 (by decide) (fun c_22 => ?_) (fun c_22 => ?_)
                  · exact jp_9 μ4 _ _ ls (by rw [foldQ_app, m5a, if_neg (honesn c_22)]; exact hR4) hP hS (lv_sub hl [0, 1, 2, 3, 4, 5, 6, 7, 8, 9, 10, 11, 12] rfl)
                  · refine lv_iload hx hb dX8_rowsOf_287 (lv_at hl 11 rfl) ?_
                    refine lv_iload hx hb dX8_rowsOf_289 (lv_at hl 2 rfl) ?_
                    refine lv_icmp_ge (tgt := 312) hx hb dX8_rowsOf_291 (by decide) (fun c_23 => ?_) (fun c_23 => ?_)
                    · exact jp_9 μ4 _ _ ls (by rw [foldQ_app, m5a]; split; rw [cb1, if_neg (nI_nlt_of c_23 (by omega))]; exact hR4; exact hR4) hP hS (lv_sub hl [0, 1, 2, 3, 4, 5, 6, 7, 8, 9, 10, 11, 12] rfl)
                    · refine lv_aload_n hx hb dX8_rowsOf_294 rfl (lv_at hl 0 rfl) ?_
                      refine lv_iconst (v := 2) hx hb dX8_rowsOf_295 (by decide) ?_
                      refine lv_iload hx hb dX8_rowsOf_296 (lv_at hl 6 rfl) ?_
                      refine lv_imul hx hb dX8_rowsOf_298 ?_
                      refine lv_topE (y := (nI (2 * (oneN (c9 % 128) (eyN c9))))) (pk_mul 2 _) ?_
                      refine lv_iload hx hb dX8_rowsOf_299 (lv_at hl 7 rfl) ?_
                      refine lv_iload hx hb dX8_rowsOf_301 (lv_at hl 8 rfl) ?_
                      refine lv_iconst (v := 1) hx hb dX8_rowsOf_303 (by decide) ?_
                      refine lv_isub hx hb dX8_rowsOf_304 ?_
                      refine lv_topE (y := (nI ((xN a c9) - 1))) (pk_sub (a := (xN a c9)) (b := 1) (nI_pos_of c_22)) ?_
                      refine lv_iload hx hb dX8_rowsOf_305 (lv_at hl 9 rfl) ?_
                      refine lv_iload hx hb dX8_rowsOf_307 (lv_at hl 10 rfl) ?_
                      refine r_cv X hS (r_runV (As := [.int (nI (2 * (oneN (c9 % 128) (eyN c9)))), .int (nI (othN (c9 % 128) (eyN c9))), .int (nI ((xN a c9) - 1)), .int (nI (yN b c9)), .int (nI d9)]) (rest := []) C0 X hP L_X8_271 (fun sz => c_X8_reaches l D cA ad o σ μ4 (foldQ (QB a b q x z i) (mm1 z (c9 / 128) (c9 % 128) ++ mm2 x (c9 / 128) (c9 % 128) ++ mm3 a b q (c9 / 128) (c9 % 128) ++ mm4 a b q (c9 / 128) (c9 % 128)) (d9 + 1)) (2 * (oneN (c9 % 128) (eyN c9))) (othN (c9 % 128) (eyN c9)) ((xN a c9) - 1) (yN b c9) (nI d9) a b (((c9 / 128) + 1) * 128 + lgN (c9 % 128) (Nat.log2 (c9 % 128) - (c9 / 128)) 1) (d9 + 1) ha hb3 hR4 (QG_fold (QB_g ha hb3 hxb i) _ (fun w9 hw9 => hall w9 (by rw [nbrL_eq]; exact List.mem_append_left _ (List.mem_append_left _ (List.mem_append_left _ (List.mem_append_left _ (hw9))))))) (hall _ (by rw [nbrL_eq, m5a, if_pos (hones c_22), cb1, if_pos (nI_lt_of c_23 (by omega))]; simp)) (mv5 ha hb3 hv9 (nI_pos_of c_22)) (nI_1 _) sz) (show 91 < 106 ∧ kd 91 = (8, 24) from ⟨by decide, rfl⟩).1 (show 91 < 106 ∧ kd 91 = (8, 24) from ⟨by decide, rfl⟩).2 (by decide) rfl ⟨Nat.le_of_ble_eq_true rfl, Nat.le_of_ble_eq_true rfl⟩ rfl hl.1 rfl (Nat.le_of_ble_eq_true rfl) dX8_rowsOf_309 ⟨Nat.zero_le _, Nat.zero_le _⟩) (fun σw_24 H locs hw_24 hP hS => ?_)
                      exact jp_9 σw_24 _ _ ls (by rw [foldQ_app, m5a, if_pos (hones c_22), cb1, if_pos (nI_lt_of c_23 (by omega)), foldQ_one]; exact hw_24) hP hS (lv_sub hl [0, 1, 2, 3, 4, 5, 6, 7, 8, 9, 10, 11, 12] rfl)
                refine lv_iload hx hb dX8_rowsOf_240 (lv_at hl 12 rfl) ?_
                refine lv_if_le (tgt := 282) hx hb dX8_rowsOf_242 (by decide) (fun c_25 => ?_) (fun c_25 => ?_)
                · exact jp_8 μ3 _ _ ls (by rw [foldQ_app, mm4, if_neg (fun h9 => absurd h9.2 (by have := nI_zero_of (by omega) c_25; first | omega | (unfold eyN at this; omega)))]; exact hR3) hP hS (lv_sub hl [0, 1, 2, 3, 4, 5, 6, 7, 8, 9, 10, 11, 12] rfl)
                · refine lv_iload hx hb dX8_rowsOf_245 (lv_at hl 8 rfl) ?_
                  refine lv_iload hx hb dX8_rowsOf_247 (lv_at hl 9 rfl) ?_
                  refine lv_iadd hx hb dX8_rowsOf_249 ?_
                  refine lv_topE (y := (nI ((xN a c9) + (yN b c9)))) (nI_add _ _) ?_
                  refine lv_iload_n hx hb dX8_rowsOf_250 rfl (lv_at hl 1 rfl) ?_
                  refine lv_icmp_ge (tgt := 282) hx hb dX8_rowsOf_251 (by decide) (fun c_26 => ?_) (fun c_26 => ?_)
                  · exact jp_8 μ3 _ _ ls (by rw [foldQ_app, mm4, if_neg (fun h9 => hsumn c_26 h9.1)]; exact hR3) hP hS (lv_sub hl [0, 1, 2, 3, 4, 5, 6, 7, 8, 9, 10, 11, 12] rfl)
                  · refine lv_aload_n hx hb dX8_rowsOf_254 rfl (lv_at hl 0 rfl) ?_
                    refine lv_iload hx hb dX8_rowsOf_255 (lv_at hl 6 rfl) ?_
                    refine lv_iload hx hb dX8_rowsOf_257 (lv_at hl 7 rfl) ?_
                    refine lv_iconst (v := 1) hx hb dX8_rowsOf_259 (by decide) ?_
                    refine lv_ishr hx hb dX8_rowsOf_260 ?_
                    refine lv_topE (y := (nI ((othN (c9 % 128) (eyN c9)) / 2))) (shr1 _ hb9.2.1) ?_
                    refine lv_iload hx hb dX8_rowsOf_261 (lv_at hl 8 rfl) ?_
                    refine lv_iconst (v := 1) hx hb dX8_rowsOf_263 (by decide) ?_
                    refine lv_iadd hx hb dX8_rowsOf_264 ?_
                    refine lv_topE (y := (nI ((xN a c9) + 1))) (nI_1 _) ?_
                    refine lv_iload hx hb dX8_rowsOf_265 (lv_at hl 7 rfl) ?_
                    refine lv_iconst (v := 1) hx hb dX8_rowsOf_267 (by decide) ?_
                    refine lv_iand hx hb dX8_rowsOf_268 ?_
                    refine lv_topE (y := (nI ((othN (c9 % 128) (eyN c9)) % 2))) (and1 _ hb9.2.1) ?_
                    refine lv_isub hx hb dX8_rowsOf_269 ?_
                    refine lv_topE (y := (nI ((xN a c9) + 1 - (othN (c9 % 128) (eyN c9)) % 2))) (pk_sub (by omega)) ?_
                    refine lv_iload hx hb dX8_rowsOf_270 (lv_at hl 9 rfl) ?_
                    refine lv_iload hx hb dX8_rowsOf_272 (lv_at hl 7 rfl) ?_
                    refine lv_iconst (v := 1) hx hb dX8_rowsOf_274 (by decide) ?_
                    refine lv_iand hx hb dX8_rowsOf_275 ?_
                    refine lv_topE (y := (nI ((othN (c9 % 128) (eyN c9)) % 2))) (and1 _ hb9.2.1) ?_
                    refine lv_iadd hx hb dX8_rowsOf_276 ?_
                    refine lv_topE (y := (nI ((yN b c9) + (othN (c9 % 128) (eyN c9)) % 2))) (nI_add _ _) ?_
                    refine lv_iload hx hb dX8_rowsOf_277 (lv_at hl 10 rfl) ?_
                    refine r_cv X hS (r_runV (As := [.int (nI (oneN (c9 % 128) (eyN c9))), .int (nI ((othN (c9 % 128) (eyN c9)) / 2)), .int (nI ((xN a c9) + 1 - (othN (c9 % 128) (eyN c9)) % 2)), .int (nI ((yN b c9) + (othN (c9 % 128) (eyN c9)) % 2)), .int (nI d9)]) (rest := []) C0 X hP L_X8_271 (fun sz => c_X8_reaches l D cA ad o σ μ3 (foldQ (QB a b q x z i) (mm1 z (c9 / 128) (c9 % 128) ++ mm2 x (c9 / 128) (c9 % 128) ++ mm3 a b q (c9 / 128) (c9 % 128)) (d9 + 1)) (oneN (c9 % 128) (eyN c9)) ((othN (c9 % 128) (eyN c9)) / 2) ((xN a c9) + 1 - (othN (c9 % 128) (eyN c9)) % 2) ((yN b c9) + (othN (c9 % 128) (eyN c9)) % 2) (nI d9) a b ((c9 / 128) * 128 + woN (c9 % 128) (Nat.log2 (c9 % 128) - (c9 / 128) - 1)) (d9 + 1) ha hb3 hR3 (QG_fold (QB_g ha hb3 hxb i) _ (fun w9 hw9 => hall w9 (by rw [nbrL_eq]; exact List.mem_append_left _ (List.mem_append_left _ (List.mem_append_left _ (List.mem_append_left _ (List.mem_append_left _ (hw9)))))))) (hall _ (by rw [nbrL_eq, mm4, if_pos ⟨hsum c_26, nI_pos_of c_25⟩]; simp)) (mv4 hv9 (nI_pos_of c_25)) (nI_1 _) sz) (show 91 < 106 ∧ kd 91 = (8, 24) from ⟨by decide, rfl⟩).1 (show 91 < 106 ∧ kd 91 = (8, 24) from ⟨by decide, rfl⟩).2 (by decide) rfl ⟨Nat.le_of_ble_eq_true rfl, Nat.le_of_ble_eq_true rfl⟩ rfl hl.1 rfl (Nat.le_of_ble_eq_true rfl) dX8_rowsOf_279 ⟨Nat.zero_le _, Nat.zero_le _⟩) (fun σw_27 H locs hw_27 hP hS => ?_)
                    exact jp_8 σw_27 _ _ ls (by rw [foldQ_app, mm4, if_pos ⟨hsum c_26, nI_pos_of c_25⟩, foldQ_one]; exact hw_27) hP hS (lv_sub hl [0, 1, 2, 3, 4, 5, 6, 7, 8, 9, 10, 11, 12] rfl)
              refine lv_iload hx hb dX8_rowsOf_198 (lv_at hl 11 rfl) ?_
              refine lv_if_le (tgt := 240) hx hb dX8_rowsOf_200 (by decide) (fun c_28 => ?_) (fun c_28 => ?_)
              · exact jp_7 μ2 _ _ ls (by rw [foldQ_app, mm3, if_neg (fun h9 => absurd h9.2 (by have := nI_zero_of (by omega) c_28; first | omega | (unfold eyN at this; omega)))]; exact hR2) hP hS (lv_sub hl [0, 1, 2, 3, 4, 5, 6, 7, 8, 9, 10, 11, 12] rfl)
              · refine lv_iload hx hb dX8_rowsOf_203 (lv_at hl 8 rfl) ?_
                refine lv_iload hx hb dX8_rowsOf_205 (lv_at hl 9 rfl) ?_
                refine lv_iadd hx hb dX8_rowsOf_207 ?_
                refine lv_topE (y := (nI ((xN a c9) + (yN b c9)))) (nI_add _ _) ?_
                refine lv_iload_n hx hb dX8_rowsOf_208 rfl (lv_at hl 1 rfl) ?_
                refine lv_icmp_ge (tgt := 240) hx hb dX8_rowsOf_209 (by decide) (fun c_29 => ?_) (fun c_29 => ?_)
                · exact jp_7 μ2 _ _ ls (by rw [foldQ_app, mm3, if_neg (fun h9 => hsumn c_29 h9.1)]; exact hR2) hP hS (lv_sub hl [0, 1, 2, 3, 4, 5, 6, 7, 8, 9, 10, 11, 12] rfl)
                · refine lv_aload_n hx hb dX8_rowsOf_212 rfl (lv_at hl 0 rfl) ?_
                  refine lv_iload hx hb dX8_rowsOf_213 (lv_at hl 6 rfl) ?_
                  refine lv_iconst (v := 1) hx hb dX8_rowsOf_215 (by decide) ?_
                  refine lv_ishr hx hb dX8_rowsOf_216 ?_
                  refine lv_topE (y := (nI ((oneN (c9 % 128) (eyN c9)) / 2))) (shr1 _ hb9.1) ?_
                  refine lv_iload hx hb dX8_rowsOf_217 (lv_at hl 7 rfl) ?_
                  refine lv_iload hx hb dX8_rowsOf_219 (lv_at hl 8 rfl) ?_
                  refine lv_iconst (v := 1) hx hb dX8_rowsOf_221 (by decide) ?_
                  refine lv_iadd hx hb dX8_rowsOf_222 ?_
                  refine lv_topE (y := (nI ((xN a c9) + 1))) (nI_1 _) ?_
                  refine lv_iload hx hb dX8_rowsOf_223 (lv_at hl 6 rfl) ?_
                  refine lv_iconst (v := 1) hx hb dX8_rowsOf_225 (by decide) ?_
                  refine lv_iand hx hb dX8_rowsOf_226 ?_
                  refine lv_topE (y := (nI ((oneN (c9 % 128) (eyN c9)) % 2))) (and1 _ hb9.1) ?_
                  refine lv_isub hx hb dX8_rowsOf_227 ?_
                  refine lv_topE (y := (nI ((xN a c9) + 1 - (oneN (c9 % 128) (eyN c9)) % 2))) (pk_sub (by omega)) ?_
                  refine lv_iload hx hb dX8_rowsOf_228 (lv_at hl 9 rfl) ?_
                  refine lv_iload hx hb dX8_rowsOf_230 (lv_at hl 6 rfl) ?_
                  refine lv_iconst (v := 1) hx hb dX8_rowsOf_232 (by decide) ?_
                  refine lv_iand hx hb dX8_rowsOf_233 ?_
                  refine lv_topE (y := (nI ((oneN (c9 % 128) (eyN c9)) % 2))) (and1 _ hb9.1) ?_
                  refine lv_iadd hx hb dX8_rowsOf_234 ?_
                  refine lv_topE (y := (nI ((yN b c9) + (oneN (c9 % 128) (eyN c9)) % 2))) (nI_add _ _) ?_
                  refine lv_iload hx hb dX8_rowsOf_235 (lv_at hl 10 rfl) ?_
                  refine r_cv X hS (r_runV (As := [.int (nI ((oneN (c9 % 128) (eyN c9)) / 2)), .int (nI (othN (c9 % 128) (eyN c9))), .int (nI ((xN a c9) + 1 - (oneN (c9 % 128) (eyN c9)) % 2)), .int (nI ((yN b c9) + (oneN (c9 % 128) (eyN c9)) % 2)), .int (nI d9)]) (rest := []) C0 X hP L_X8_271 (fun sz => c_X8_reaches l D cA ad o σ μ2 (foldQ (QB a b q x z i) (mm1 z (c9 / 128) (c9 % 128) ++ mm2 x (c9 / 128) (c9 % 128)) (d9 + 1)) ((oneN (c9 % 128) (eyN c9)) / 2) (othN (c9 % 128) (eyN c9)) ((xN a c9) + 1 - (oneN (c9 % 128) (eyN c9)) % 2) ((yN b c9) + (oneN (c9 % 128) (eyN c9)) % 2) (nI d9) a b (((c9 / 128) - 1) * 128 + woN (c9 % 128) (Nat.log2 (c9 % 128) - (c9 / 128))) (d9 + 1) ha hb3 hR2 (QG_fold (QB_g ha hb3 hxb i) _ (fun w9 hw9 => hall w9 (by rw [nbrL_eq]; exact List.mem_append_left _ (List.mem_append_left _ (List.mem_append_left _ (List.mem_append_left _ (List.mem_append_left _ (List.mem_append_left _ (hw9))))))))) (hall _ (by rw [nbrL_eq, mm3, if_pos ⟨hsum c_29, nI_pos_of c_28⟩]; simp)) (mv3 hv9 (nI_pos_of c_28)) (nI_1 _) sz) (show 91 < 106 ∧ kd 91 = (8, 24) from ⟨by decide, rfl⟩).1 (show 91 < 106 ∧ kd 91 = (8, 24) from ⟨by decide, rfl⟩).2 (by decide) rfl ⟨Nat.le_of_ble_eq_true rfl, Nat.le_of_ble_eq_true rfl⟩ rfl hl.1 rfl (Nat.le_of_ble_eq_true rfl) dX8_rowsOf_237 ⟨Nat.zero_le _, Nat.zero_le _⟩) (fun σw_30 H locs hw_30 hP hS => ?_)
                  exact jp_7 σw_30 _ _ ls (by rw [foldQ_app, mm3, if_pos ⟨hsum c_29, nI_pos_of c_28⟩, foldQ_one]; exact hw_30) hP hS (lv_sub hl [0, 1, 2, 3, 4, 5, 6, 7, 8, 9, 10, 11, 12] rfl)
            refine lv_iload hx hb dX8_rowsOf_163 (lv_at hl 12 rfl) ?_
            refine lv_if_le (tgt := 198) hx hb dX8_rowsOf_165 (by decide) (fun c_31 => ?_) (fun c_31 => ?_)
            · exact jp_6 μ1 _ _ ls (by rw [foldQ_app, mm2, if_neg (fun h9 => absurd h9.1 (by have := nI_zero_of (by omega) c_31; first | omega | (unfold eyN at this; omega)))]; exact hRa) hP hS (lv_sub hl [0, 1, 2, 3, 4, 5, 6, 7, 8, 9, 10, 11, 12] rfl)
            · refine lv_iload hx hb dX8_rowsOf_168 (lv_at hl 11 rfl) ?_
              refine lv_iload hx hb dX8_rowsOf_170 (lv_at hl 2 rfl) ?_
              refine lv_icmp_ge (tgt := 198) hx hb dX8_rowsOf_172 (by decide) (fun c_32 => ?_) (fun c_32 => ?_)
              · exact jp_6 μ1 _ _ ls (by rw [foldQ_app, mm2, if_neg (fun h9 => nI_nlt_of c_32 (by omega) h9.2)]; exact hRa) hP hS (lv_sub hl [0, 1, 2, 3, 4, 5, 6, 7, 8, 9, 10, 11, 12] rfl)
              · refine lv_aload_n hx hb dX8_rowsOf_175 rfl (lv_at hl 0 rfl) ?_
                refine lv_iconst (v := 2) hx hb dX8_rowsOf_176 (by decide) ?_
                refine lv_iload hx hb dX8_rowsOf_177 (lv_at hl 6 rfl) ?_
                refine lv_imul hx hb dX8_rowsOf_179 ?_
                refine lv_topE (y := (nI (2 * (oneN (c9 % 128) (eyN c9))))) (pk_mul 2 _) ?_
                refine lv_iload hx hb dX8_rowsOf_180 (lv_at hl 7 rfl) ?_
                refine lv_iconst (v := 1) hx hb dX8_rowsOf_182 (by decide) ?_
                refine lv_iand hx hb dX8_rowsOf_183 ?_
                refine lv_topE (y := (nI ((othN (c9 % 128) (eyN c9)) % 2))) (and1 _ hb9.2.1) ?_
                refine lv_iadd hx hb dX8_rowsOf_184 ?_
                refine lv_topE (y := (nI (2 * (oneN (c9 % 128) (eyN c9)) + (othN (c9 % 128) (eyN c9)) % 2))) (nI_add _ _) ?_
                refine lv_iload hx hb dX8_rowsOf_185 (lv_at hl 7 rfl) ?_
                refine lv_iconst (v := 1) hx hb dX8_rowsOf_187 (by decide) ?_
                refine lv_ishr hx hb dX8_rowsOf_188 ?_
                refine lv_topE (y := (nI ((othN (c9 % 128) (eyN c9)) / 2))) (shr1 _ hb9.2.1) ?_
                refine lv_iload hx hb dX8_rowsOf_189 (lv_at hl 8 rfl) ?_
                refine lv_iload hx hb dX8_rowsOf_191 (lv_at hl 9 rfl) ?_
                refine lv_iload hx hb dX8_rowsOf_193 (lv_at hl 10 rfl) ?_
                refine r_cv X hS (r_runV (As := [.int (nI (2 * (oneN (c9 % 128) (eyN c9)) + (othN (c9 % 128) (eyN c9)) % 2)), .int (nI ((othN (c9 % 128) (eyN c9)) / 2)), .int (nI (xN a c9)), .int (nI (yN b c9)), .int (nI d9)]) (rest := []) C0 X hP L_X8_271 (fun sz => c_X8_reaches l D cA ad o σ μ1 (foldQ (QB a b q x z i) (mm1 z (c9 / 128) (c9 % 128)) (d9 + 1)) (2 * (oneN (c9 % 128) (eyN c9)) + (othN (c9 % 128) (eyN c9)) % 2) ((othN (c9 % 128) (eyN c9)) / 2) (xN a c9) (yN b c9) (nI d9) a b (((c9 / 128) + 1) * 128 + (c9 % 128)) (d9 + 1) ha hb3 hRa (QG_fold (QB_g ha hb3 hxb i) _ (fun w9 hw9 => hall w9 (by rw [nbrL_eq]; exact List.mem_append_left _ (List.mem_append_left _ (List.mem_append_left _ (List.mem_append_left _ (List.mem_append_left _ (List.mem_append_left _ (List.mem_append_left _ (hw9)))))))))) (hall _ (by rw [nbrL_eq, mm2, if_pos ⟨nI_pos_of c_31, nI_lt_of c_32 (by omega)⟩]; simp)) (by have := mv2 hv9 (nI_pos_of c_31); omega) (nI_1 _) sz) (show 91 < 106 ∧ kd 91 = (8, 24) from ⟨by decide, rfl⟩).1 (show 91 < 106 ∧ kd 91 = (8, 24) from ⟨by decide, rfl⟩).2 (by decide) rfl ⟨Nat.le_of_ble_eq_true rfl, Nat.le_of_ble_eq_true rfl⟩ rfl hl.1 rfl (Nat.le_of_ble_eq_true rfl) dX8_rowsOf_195 ⟨Nat.zero_le _, Nat.zero_le _⟩) (fun σw_33 H locs hw_33 hP hS => ?_)
                exact jp_6 σw_33 _ _ ls (by rw [foldQ_app, mm2, if_pos ⟨nI_pos_of c_31, nI_lt_of c_32 (by omega)⟩, foldQ_one]; exact hw_33) hP hS (lv_sub hl [0, 1, 2, 3, 4, 5, 6, 7, 8, 9, 10, 11, 12] rfl)
          refine lv_iload hx hb dX8_rowsOf_128 (lv_at hl 1 rfl) ?_
          refine lv_if_le (tgt := 163) hx hb dX8_rowsOf_130 (by decide) (fun c_34 => ?_) (fun c_34 => ?_)
          · exact jp_5 μ _ _ ls (by rw [mm1, if_neg (fun h9 => absurd h9.1 (by have := nI_zero_of (by omega) c_34; first | omega | (unfold eyN at this; omega)))]; exact hR1) hP hS (lv_sub hl [8, 9, 10, 11, 12, 13, 6, 5, 4, 3, 2, 1, 0] rfl)
          · refine lv_iload hx hb dX8_rowsOf_133 (lv_at hl 0 rfl) ?_
            refine lv_iload hx hb dX8_rowsOf_135 (lv_at hl 11 rfl) ?_
            refine lv_icmp_ge (tgt := 163) hx hb dX8_rowsOf_137 (by decide) (fun c_35 => ?_) (fun c_35 => ?_)
            · exact jp_5 μ _ _ ls (by rw [mm1, if_neg (fun h9 => nI_nlt_of c_35 (by omega) h9.2)]; exact hR1) hP hS (lv_sub hl [8, 9, 10, 11, 12, 13, 6, 5, 4, 3, 2, 1, 0] rfl)
            · refine lv_aload_n hx hb dX8_rowsOf_140 rfl (lv_at hl 8 rfl) ?_
              refine lv_iload hx hb dX8_rowsOf_141 (lv_at hl 6 rfl) ?_
              refine lv_iconst (v := 1) hx hb dX8_rowsOf_143 (by decide) ?_
              refine lv_ishr hx hb dX8_rowsOf_144 ?_
              refine lv_topE (y := (nI ((oneN (c9 % 128) (eyN c9)) / 2))) (shr1 _ hb9.1) ?_
              refine lv_iconst (v := 2) hx hb dX8_rowsOf_145 (by decide) ?_
              refine lv_iload hx hb dX8_rowsOf_146 (lv_at hl 5 rfl) ?_
              refine lv_imul hx hb dX8_rowsOf_148 ?_
              refine lv_topE (y := (nI (2 * (othN (c9 % 128) (eyN c9))))) (pk_mul 2 _) ?_
              refine lv_iload hx hb dX8_rowsOf_149 (lv_at hl 6 rfl) ?_
              refine lv_iconst (v := 1) hx hb dX8_rowsOf_151 (by decide) ?_
              refine lv_iand hx hb dX8_rowsOf_152 ?_
              refine lv_topE (y := (nI ((oneN (c9 % 128) (eyN c9)) % 2))) (and1 _ hb9.1) ?_
              refine lv_iadd hx hb dX8_rowsOf_153 ?_
              refine lv_topE (y := (nI (2 * (othN (c9 % 128) (eyN c9)) + (oneN (c9 % 128) (eyN c9)) % 2))) (nI_add _ _) ?_
              refine lv_iload hx hb dX8_rowsOf_154 (lv_at hl 4 rfl) ?_
              refine lv_iload hx hb dX8_rowsOf_156 (lv_at hl 3 rfl) ?_
              refine lv_iload hx hb dX8_rowsOf_158 (lv_at hl 2 rfl) ?_
              refine r_cv X hS (r_runV (As := [.int (nI ((oneN (c9 % 128) (eyN c9)) / 2)), .int (nI (2 * (othN (c9 % 128) (eyN c9)) + (oneN (c9 % 128) (eyN c9)) % 2)), .int (nI (xN a c9)), .int (nI (yN b c9)), .int (nI d9)]) (rest := []) C0 X hP L_X8_271 (fun sz => c_X8_reaches l D cA ad o σ μ ((QB a b q x z i)) ((oneN (c9 % 128) (eyN c9)) / 2) (2 * (othN (c9 % 128) (eyN c9)) + (oneN (c9 % 128) (eyN c9)) % 2) (xN a c9) (yN b c9) (nI d9) a b (((c9 / 128) - 1) * 128 + (c9 % 128)) (d9 + 1) ha hb3 hR1 (QB_g ha hb3 hxb i) (hall _ (by rw [nbrL_eq, mm1, if_pos ⟨nI_pos_of c_34, nI_lt_of c_35 (by omega)⟩]; simp)) (mv1 hv9 (nI_pos_of c_34)) (nI_1 _) sz) (show 91 < 106 ∧ kd 91 = (8, 24) from ⟨by decide, rfl⟩).1 (show 91 < 106 ∧ kd 91 = (8, 24) from ⟨by decide, rfl⟩).2 (by decide) rfl ⟨Nat.le_of_ble_eq_true rfl, Nat.le_of_ble_eq_true rfl⟩ rfl hl.1 rfl (Nat.le_of_ble_eq_true rfl) dX8_rowsOf_160 ⟨Nat.zero_le _, Nat.zero_le _⟩) (fun σw_36 H locs hw_36 hP hS => ?_)
              exact jp_5 σw_36 _ _ ls (by rw [mm1, if_pos ⟨nI_pos_of c_34, nI_lt_of c_35 (by omega)⟩, foldQ_one]; exact hw_36) hP hS (lv_sub hl [8, 9, 10, 11, 12, 13, 6, 5, 4, 3, 2, 1, 0] rfl)
        · refine lv_iload hx hb dX8_rowsOf_111 (lv_at hl 0 rfl) ?_
          exact r_iret C0 X hP hS hr hlk dX8_rowsOf_113 ⟨(by have e9 := enc_inj ha hb3 hv9 (wt_vcd ha hb3) (((nI_eq (by omega) (by omega)).mp c_4).trans (enc_w a (by omega) b (by omega)).symm); rw [← RWn_at (i := i) (by omega) (Or.inr (by rw [← e9]; exact List.mem_map.mpr ⟨(c9, d9), List.mem_of_getElem? hg, rfl⟩)), ← e9, resQ_hit (QB_g ha hb3 hxb i).1 hg]), hR1.2⟩
  exact lp_2 ((900 - 0) + 1) 0 σw_1 _ _ ls (by exact hw_1) (Nat.zero_le _) (fun j c d h => absurd h (Nat.not_lt_zero _)) hP hS (lv_sub hl [2, 5, 6, 7, 1, 0] rfl) (by omega)
