theorem nI_pos_of {n : Nat} (h : ¬ nI n ≤ 0) : 0 < n := by
  rcases Nat.eq_zero_or_pos n with rfl | q
  · exact absurd (by decide) h
  · exact q
theorem nI_zero_of {n : Nat} (hn : n < 2 ^ 31) (h : nI n ≤ 0) : n = 0 := by
  rcases Nat.eq_zero_or_pos n with q | q
  · exact q
  · exact absurd h (nI_nle q hn)
def LSx (own : String) (index : Nat) (y : MethodName) (bytes : ByteArray) (maxL : Nat) (ret : Option FieldType) (n : Nat) : Prop := GoodIn tbg (va_wsS own index y (WY y bytes maxL ret)) ∧ (y.cls ≠ "java/lang/invoke/MethodHandle" ∧ y.cls ≠ "java/lang/invoke/VarHandle" ∧ (parseMethodDescriptor y.desc).map (fun d => d.parameters.length) = some n)
set_option maxRecDepth 100000 in
theorem wc_bit : Cond.code yJ6_bitCount_0f7a4 cJ6_bitCount_0f7a4 1 (some .int) ∈ tbg := tmc sb4 49 rfl (by decide +kernel)
theorem L_X2_53 : LSx RX2 53 yJ6_bitCount_0f7a4 cJ6_bitCount_0f7a4 1 (some .int) 1 := by
  refine ⟨tbg_good (fun w hw => ?_), by decide +kernel, by decide +kernel, by decide +kernel⟩
  simp only [va_wsS, List.cons_append, List.nil_append, List.mem_cons] at hw
  rcases hw with rfl | rfl | rfl | hw
  · exact tmc sb4 47 (by decide +kernel) (by decide +kernel)
  · exact tmc sb4 48 (by decide +kernel) (by decide +kernel)
  · exact tmc sb1 12 (by decide +kernel) (by decide +kernel)
  · exact WY_good wc_bit w hw
theorem r_runSX {p : Program} {l : Launch} {e : Env} {R : Room} {s : State} {m : MethodId} {args : Array Value} {below : List Frame} {meth : Method} {c : Code} {H : Heap} {locs : List Loc} {cells slots : Nat} {cc : ByteArray} {pc nL : Nat} {ls : Array Slot} {rest st0 : List Value} {D : va_G} {cA : Nat → ClassId} {ad : Nat → Nat} {A : Nat → Prop} {σ : Mem} {o : Int64} {own : String} {y : MethodName} {bytes : ByteArray} {maxL n index k : Nat} {ret : Option FieldType} {As : List Value} {Qf : (Nat → Prop) → Array Value → State → Outcome → State → Prop} (C0 : CX p s m args c cc nL own) (X : WX D cA ad A s) (hP : WP D cA ad o σ H) (hL : LSx own index y bytes maxL ret n) (hM : ∀ sz, Met l y (WY y bytes maxL ret) (RM k) (va_Pc As (PW D cA ad o σ sz)) (Qf (FA ad sz)) 0 0 (FA ad sz)) (hR : k + 1 ≤ R.frames ∧ 8 + (maxL + 11) + 40 * k ≤ R.locals) (hn : As.length = n) (hsz : ls.size = nL) (hst : st0 = As.reverse ++ rest) (hrm : (rest.map fun v => v.category).sum ≤ 8) (hdg : decode cc pc = .ok (.invokestatic index, 3)) (hf : cells ≤ R.cells ∧ slots ≤ R.slots) :
    va_Run p l e R s m args below meth c H locs cells slots 0 0 (F0 m pc ls st0) rest (Qf (FA ad H.size) As.toArray) (FA ad H.size) :=
  va_runS C0 (hM H.size) (va_cwS n C0.2.2.2.2 hL.1 rfl rfl rfl hL.2 hR) ⟨PW_blind, fun U hU hW => ⟨rfl, PW_of X hP hU hW⟩⟩ rfl hn hsz hst (lv_room hrm) hdg hf
def bB_cX2_tryMoves : Nat := 0xb13a00b60515031c1b2a0c00a21600b42a6406151d3a00b60515041c1b2a0c00a21200b42a0615063664043500b81c2500b605153100b8640404151c1b2a12009e04152500b605153100b804151c64041b2a12009e1b2a00a21900b42a641d601600b42a1200b42a2500b605151c60041b2a0d00a21c00b42a1b15009e04152500b605151c64041b2a0d00a21f00b42a041516009e1b053660042e601c688000111b0b00b42a0436641b1d3e2d00b81cb10400a18000111c0a00a1041c0f00a207101b15009b1b
theorem yB_cX2_tryMoves : BYS cX2_tryMoves 199 bB_cX2_tryMoves := BYS_of (by decide +kernel)
theorem dX2_tryMoves_0 : decode cX2_tryMoves 0 = .ok (.iload_n 1, 1) := D_27 yB_cX2_tryMoves rfl rfl
theorem dX2_tryMoves_1 : decode cX2_tryMoves 1 = .ok (.ifCond .lt 21, 3) := D_155 yB_cX2_tryMoves rfl rfl (sg_p (m := 32768) (N := 21) rfl rfl rfl)
theorem dX2_tryMoves_4 : decode cX2_tryMoves 4 = .ok (.iload_n 1, 1) := D_27 yB_cX2_tryMoves rfl rfl
theorem dX2_tryMoves_5 : decode cX2_tryMoves 5 = .ok (.bipush 7, 2) := D_16 yB_cX2_tryMoves rfl rfl (sg_p (m := 128) (N := 7) rfl rfl rfl)
theorem dX2_tryMoves_7 : decode cX2_tryMoves 7 = .ok (.if_icmp .ge 15, 3) := D_162 yB_cX2_tryMoves rfl rfl (sg_p (m := 32768) (N := 15) rfl rfl rfl)
theorem dX2_tryMoves_10 : decode cX2_tryMoves 10 = .ok (.iload_n 2, 1) := D_28 yB_cX2_tryMoves rfl rfl
theorem dX2_tryMoves_11 : decode cX2_tryMoves 11 = .ok (.iconst 1, 1) := D_4 yB_cX2_tryMoves rfl rfl
theorem dX2_tryMoves_12 : decode cX2_tryMoves 12 = .ok (.if_icmp .lt 10, 3) := D_161 yB_cX2_tryMoves rfl rfl (sg_p (m := 32768) (N := 10) rfl rfl rfl)
theorem dX2_tryMoves_15 : decode cX2_tryMoves 15 = .ok (.iload_n 2, 1) := D_28 yB_cX2_tryMoves rfl rfl
theorem dX2_tryMoves_16 : decode cX2_tryMoves 16 = .ok (.sipush 128, 3) := D_17 yB_cX2_tryMoves rfl rfl (sg_p (m := 32768) (N := 128) rfl rfl rfl)
theorem dX2_tryMoves_19 : decode cX2_tryMoves 19 = .ok (.if_icmp .lt 4, 3) := D_161 yB_cX2_tryMoves rfl rfl (sg_p (m := 32768) (N := 4) rfl rfl rfl)
theorem dX2_tryMoves_22 : decode cX2_tryMoves 22 = .ok (.return_, 1) := D_177 yB_cX2_tryMoves rfl rfl
theorem dX2_tryMoves_23 : decode cX2_tryMoves 23 = .ok (.iload_n 2, 1) := D_28 yB_cX2_tryMoves rfl rfl
theorem dX2_tryMoves_24 : decode cX2_tryMoves 24 = .ok (.invokestatic 45, 3) := D_184 yB_cX2_tryMoves rfl rfl rfl
theorem dX2_tryMoves_27 : decode cX2_tryMoves 27 = .ok (.istore_n 3, 1) := D_62 yB_cX2_tryMoves rfl rfl
theorem dX2_tryMoves_28 : decode cX2_tryMoves 28 = .ok (.iload_n 3, 1) := D_29 yB_cX2_tryMoves rfl rfl
theorem dX2_tryMoves_29 : decode cX2_tryMoves 29 = .ok (.iload_n 1, 1) := D_27 yB_cX2_tryMoves rfl rfl
theorem dX2_tryMoves_30 : decode cX2_tryMoves 30 = .ok (.isub, 1) := D_100 yB_cX2_tryMoves rfl rfl
theorem dX2_tryMoves_31 : decode cX2_tryMoves 31 = .ok (.istore 4, 2) := D_54 yB_cX2_tryMoves rfl rfl rfl
theorem dX2_tryMoves_33 : decode cX2_tryMoves 33 = .ok (.aload_n 0, 1) := D_42 yB_cX2_tryMoves rfl rfl
theorem dX2_tryMoves_34 : decode cX2_tryMoves 34 = .ok (.getfield 11, 3) := D_180 yB_cX2_tryMoves rfl rfl rfl
theorem dX2_tryMoves_37 : decode cX2_tryMoves 37 = .ok (.iload_n 1, 1) := D_27 yB_cX2_tryMoves rfl rfl
theorem dX2_tryMoves_38 : decode cX2_tryMoves 38 = .ok (.sipush 128, 3) := D_17 yB_cX2_tryMoves rfl rfl (sg_p (m := 32768) (N := 128) rfl rfl rfl)
theorem dX2_tryMoves_41 : decode cX2_tryMoves 41 = .ok (.imul, 1) := D_104 yB_cX2_tryMoves rfl rfl
theorem dX2_tryMoves_42 : decode cX2_tryMoves 42 = .ok (.iload_n 2, 1) := D_28 yB_cX2_tryMoves rfl rfl
theorem dX2_tryMoves_43 : decode cX2_tryMoves 43 = .ok (.iadd, 1) := D_96 yB_cX2_tryMoves rfl rfl
theorem dX2_tryMoves_44 : decode cX2_tryMoves 44 = .ok (.iaload, 1) := D_46 yB_cX2_tryMoves rfl rfl
theorem dX2_tryMoves_45 : decode cX2_tryMoves 45 = .ok (.iconst 1, 1) := D_4 yB_cX2_tryMoves rfl rfl
theorem dX2_tryMoves_46 : decode cX2_tryMoves 46 = .ok (.iadd, 1) := D_96 yB_cX2_tryMoves rfl rfl
theorem dX2_tryMoves_47 : decode cX2_tryMoves 47 = .ok (.istore 5, 2) := D_54 yB_cX2_tryMoves rfl rfl rfl
theorem dX2_tryMoves_49 : decode cX2_tryMoves 49 = .ok (.iload_n 1, 1) := D_27 yB_cX2_tryMoves rfl rfl
theorem dX2_tryMoves_50 : decode cX2_tryMoves 50 = .ok (.ifCond .le 22, 3) := D_158 yB_cX2_tryMoves rfl rfl (sg_p (m := 32768) (N := 22) rfl rfl rfl)
theorem dX2_tryMoves_53 : decode cX2_tryMoves 53 = .ok (.iload 4, 2) := D_21 yB_cX2_tryMoves rfl rfl rfl
theorem dX2_tryMoves_55 : decode cX2_tryMoves 55 = .ok (.aload_n 0, 1) := D_42 yB_cX2_tryMoves rfl rfl
theorem dX2_tryMoves_56 : decode cX2_tryMoves 56 = .ok (.getfield 31, 3) := D_180 yB_cX2_tryMoves rfl rfl rfl
theorem dX2_tryMoves_59 : decode cX2_tryMoves 59 = .ok (.if_icmp .ge 13, 3) := D_162 yB_cX2_tryMoves rfl rfl (sg_p (m := 32768) (N := 13) rfl rfl rfl)
theorem dX2_tryMoves_62 : decode cX2_tryMoves 62 = .ok (.aload_n 0, 1) := D_42 yB_cX2_tryMoves rfl rfl
theorem dX2_tryMoves_63 : decode cX2_tryMoves 63 = .ok (.iload_n 1, 1) := D_27 yB_cX2_tryMoves rfl rfl
theorem dX2_tryMoves_64 : decode cX2_tryMoves 64 = .ok (.iconst 1, 1) := D_4 yB_cX2_tryMoves rfl rfl
theorem dX2_tryMoves_65 : decode cX2_tryMoves 65 = .ok (.isub, 1) := D_100 yB_cX2_tryMoves rfl rfl
theorem dX2_tryMoves_66 : decode cX2_tryMoves 66 = .ok (.iload_n 2, 1) := D_28 yB_cX2_tryMoves rfl rfl
theorem dX2_tryMoves_67 : decode cX2_tryMoves 67 = .ok (.iload 5, 2) := D_21 yB_cX2_tryMoves rfl rfl rfl
theorem dX2_tryMoves_69 : decode cX2_tryMoves 69 = .ok (.invokevirtual 37, 3) := D_182 yB_cX2_tryMoves rfl rfl rfl
theorem dX2_tryMoves_72 : decode cX2_tryMoves 72 = .ok (.iload 4, 2) := D_21 yB_cX2_tryMoves rfl rfl rfl
theorem dX2_tryMoves_74 : decode cX2_tryMoves 74 = .ok (.ifCond .le 21, 3) := D_158 yB_cX2_tryMoves rfl rfl (sg_p (m := 32768) (N := 21) rfl rfl rfl)
theorem dX2_tryMoves_77 : decode cX2_tryMoves 77 = .ok (.iload_n 1, 1) := D_27 yB_cX2_tryMoves rfl rfl
theorem dX2_tryMoves_78 : decode cX2_tryMoves 78 = .ok (.aload_n 0, 1) := D_42 yB_cX2_tryMoves rfl rfl
theorem dX2_tryMoves_79 : decode cX2_tryMoves 79 = .ok (.getfield 28, 3) := D_180 yB_cX2_tryMoves rfl rfl rfl
theorem dX2_tryMoves_82 : decode cX2_tryMoves 82 = .ok (.if_icmp .ge 13, 3) := D_162 yB_cX2_tryMoves rfl rfl (sg_p (m := 32768) (N := 13) rfl rfl rfl)
theorem dX2_tryMoves_85 : decode cX2_tryMoves 85 = .ok (.aload_n 0, 1) := D_42 yB_cX2_tryMoves rfl rfl
theorem dX2_tryMoves_86 : decode cX2_tryMoves 86 = .ok (.iload_n 1, 1) := D_27 yB_cX2_tryMoves rfl rfl
theorem dX2_tryMoves_87 : decode cX2_tryMoves 87 = .ok (.iconst 1, 1) := D_4 yB_cX2_tryMoves rfl rfl
theorem dX2_tryMoves_88 : decode cX2_tryMoves 88 = .ok (.iadd, 1) := D_96 yB_cX2_tryMoves rfl rfl
theorem dX2_tryMoves_89 : decode cX2_tryMoves 89 = .ok (.iload_n 2, 1) := D_28 yB_cX2_tryMoves rfl rfl
theorem dX2_tryMoves_90 : decode cX2_tryMoves 90 = .ok (.iload 5, 2) := D_21 yB_cX2_tryMoves rfl rfl rfl
theorem dX2_tryMoves_92 : decode cX2_tryMoves 92 = .ok (.invokevirtual 37, 3) := D_182 yB_cX2_tryMoves rfl rfl rfl
theorem dX2_tryMoves_95 : decode cX2_tryMoves 95 = .ok (.aload_n 0, 1) := D_42 yB_cX2_tryMoves rfl rfl
theorem dX2_tryMoves_96 : decode cX2_tryMoves 96 = .ok (.getfield 18, 3) := D_180 yB_cX2_tryMoves rfl rfl rfl
theorem dX2_tryMoves_99 : decode cX2_tryMoves 99 = .ok (.aload_n 0, 1) := D_42 yB_cX2_tryMoves rfl rfl
theorem dX2_tryMoves_100 : decode cX2_tryMoves 100 = .ok (.getfield 22, 3) := D_180 yB_cX2_tryMoves rfl rfl rfl
theorem dX2_tryMoves_103 : decode cX2_tryMoves 103 = .ok (.iadd, 1) := D_96 yB_cX2_tryMoves rfl rfl
theorem dX2_tryMoves_104 : decode cX2_tryMoves 104 = .ok (.iload_n 3, 1) := D_29 yB_cX2_tryMoves rfl rfl
theorem dX2_tryMoves_105 : decode cX2_tryMoves 105 = .ok (.isub, 1) := D_100 yB_cX2_tryMoves rfl rfl
theorem dX2_tryMoves_106 : decode cX2_tryMoves 106 = .ok (.aload_n 0, 1) := D_42 yB_cX2_tryMoves rfl rfl
theorem dX2_tryMoves_107 : decode cX2_tryMoves 107 = .ok (.getfield 25, 3) := D_180 yB_cX2_tryMoves rfl rfl rfl
theorem dX2_tryMoves_110 : decode cX2_tryMoves 110 = .ok (.if_icmp .ge 42, 3) := D_162 yB_cX2_tryMoves rfl rfl (sg_p (m := 32768) (N := 42) rfl rfl rfl)
theorem dX2_tryMoves_113 : decode cX2_tryMoves 113 = .ok (.iload_n 1, 1) := D_27 yB_cX2_tryMoves rfl rfl
theorem dX2_tryMoves_114 : decode cX2_tryMoves 114 = .ok (.ifCond .le 18, 3) := D_158 yB_cX2_tryMoves rfl rfl (sg_p (m := 32768) (N := 18) rfl rfl rfl)
theorem dX2_tryMoves_117 : decode cX2_tryMoves 117 = .ok (.aload_n 0, 1) := D_42 yB_cX2_tryMoves rfl rfl
theorem dX2_tryMoves_118 : decode cX2_tryMoves 118 = .ok (.iload_n 1, 1) := D_27 yB_cX2_tryMoves rfl rfl
theorem dX2_tryMoves_119 : decode cX2_tryMoves 119 = .ok (.iconst 1, 1) := D_4 yB_cX2_tryMoves rfl rfl
theorem dX2_tryMoves_120 : decode cX2_tryMoves 120 = .ok (.isub, 1) := D_100 yB_cX2_tryMoves rfl rfl
theorem dX2_tryMoves_121 : decode cX2_tryMoves 121 = .ok (.iload_n 2, 1) := D_28 yB_cX2_tryMoves rfl rfl
theorem dX2_tryMoves_122 : decode cX2_tryMoves 122 = .ok (.iload 4, 2) := D_21 yB_cX2_tryMoves rfl rfl rfl
theorem dX2_tryMoves_124 : decode cX2_tryMoves 124 = .ok (.invokestatic 49, 3) := D_184 yB_cX2_tryMoves rfl rfl rfl
theorem dX2_tryMoves_127 : decode cX2_tryMoves 127 = .ok (.iload 5, 2) := D_21 yB_cX2_tryMoves rfl rfl rfl
theorem dX2_tryMoves_129 : decode cX2_tryMoves 129 = .ok (.invokevirtual 37, 3) := D_182 yB_cX2_tryMoves rfl rfl rfl
theorem dX2_tryMoves_132 : decode cX2_tryMoves 132 = .ok (.iload 4, 2) := D_21 yB_cX2_tryMoves rfl rfl rfl
theorem dX2_tryMoves_134 : decode cX2_tryMoves 134 = .ok (.ifCond .le 18, 3) := D_158 yB_cX2_tryMoves rfl rfl (sg_p (m := 32768) (N := 18) rfl rfl rfl)
theorem dX2_tryMoves_137 : decode cX2_tryMoves 137 = .ok (.aload_n 0, 1) := D_42 yB_cX2_tryMoves rfl rfl
theorem dX2_tryMoves_138 : decode cX2_tryMoves 138 = .ok (.iload_n 1, 1) := D_27 yB_cX2_tryMoves rfl rfl
theorem dX2_tryMoves_139 : decode cX2_tryMoves 139 = .ok (.iload_n 2, 1) := D_28 yB_cX2_tryMoves rfl rfl
theorem dX2_tryMoves_140 : decode cX2_tryMoves 140 = .ok (.iload 4, 2) := D_21 yB_cX2_tryMoves rfl rfl rfl
theorem dX2_tryMoves_142 : decode cX2_tryMoves 142 = .ok (.iconst 1, 1) := D_4 yB_cX2_tryMoves rfl rfl
theorem dX2_tryMoves_143 : decode cX2_tryMoves 143 = .ok (.isub, 1) := D_100 yB_cX2_tryMoves rfl rfl
theorem dX2_tryMoves_144 : decode cX2_tryMoves 144 = .ok (.invokestatic 49, 3) := D_184 yB_cX2_tryMoves rfl rfl rfl
theorem dX2_tryMoves_147 : decode cX2_tryMoves 147 = .ok (.iload 5, 2) := D_21 yB_cX2_tryMoves rfl rfl rfl
theorem dX2_tryMoves_149 : decode cX2_tryMoves 149 = .ok (.invokevirtual 37, 3) := D_182 yB_cX2_tryMoves rfl rfl rfl
theorem dX2_tryMoves_152 : decode cX2_tryMoves 152 = .ok (.iload_n 2, 1) := D_28 yB_cX2_tryMoves rfl rfl
theorem dX2_tryMoves_153 : decode cX2_tryMoves 153 = .ok (.invokestatic 53, 3) := D_184 yB_cX2_tryMoves rfl rfl rfl
theorem dX2_tryMoves_156 : decode cX2_tryMoves 156 = .ok (.iconst 1, 1) := D_4 yB_cX2_tryMoves rfl rfl
theorem dX2_tryMoves_157 : decode cX2_tryMoves 157 = .ok (.isub, 1) := D_100 yB_cX2_tryMoves rfl rfl
theorem dX2_tryMoves_158 : decode cX2_tryMoves 158 = .ok (.istore 6, 2) := D_54 yB_cX2_tryMoves rfl rfl rfl
theorem dX2_tryMoves_160 : decode cX2_tryMoves 160 = .ok (.iload 6, 2) := D_21 yB_cX2_tryMoves rfl rfl rfl
theorem dX2_tryMoves_162 : decode cX2_tryMoves 162 = .ok (.aload_n 0, 1) := D_42 yB_cX2_tryMoves rfl rfl
theorem dX2_tryMoves_163 : decode cX2_tryMoves 163 = .ok (.getfield 18, 3) := D_180 yB_cX2_tryMoves rfl rfl rfl
theorem dX2_tryMoves_166 : decode cX2_tryMoves 166 = .ok (.if_icmp .ge 12, 3) := D_162 yB_cX2_tryMoves rfl rfl (sg_p (m := 32768) (N := 12) rfl rfl rfl)
theorem dX2_tryMoves_169 : decode cX2_tryMoves 169 = .ok (.aload_n 0, 1) := D_42 yB_cX2_tryMoves rfl rfl
theorem dX2_tryMoves_170 : decode cX2_tryMoves 170 = .ok (.iload_n 1, 1) := D_27 yB_cX2_tryMoves rfl rfl
theorem dX2_tryMoves_171 : decode cX2_tryMoves 171 = .ok (.iload_n 2, 1) := D_28 yB_cX2_tryMoves rfl rfl
theorem dX2_tryMoves_172 : decode cX2_tryMoves 172 = .ok (.iconst 1, 1) := D_4 yB_cX2_tryMoves rfl rfl
theorem dX2_tryMoves_173 : decode cX2_tryMoves 173 = .ok (.iload 5, 2) := D_21 yB_cX2_tryMoves rfl rfl rfl
theorem dX2_tryMoves_175 : decode cX2_tryMoves 175 = .ok (.invokevirtual 58, 3) := D_182 yB_cX2_tryMoves rfl rfl rfl
theorem dX2_tryMoves_178 : decode cX2_tryMoves 178 = .ok (.iload_n 3, 1) := D_29 yB_cX2_tryMoves rfl rfl
theorem dX2_tryMoves_179 : decode cX2_tryMoves 179 = .ok (.iload 6, 2) := D_21 yB_cX2_tryMoves rfl rfl rfl
theorem dX2_tryMoves_181 : decode cX2_tryMoves 181 = .ok (.isub, 1) := D_100 yB_cX2_tryMoves rfl rfl
theorem dX2_tryMoves_182 : decode cX2_tryMoves 182 = .ok (.aload_n 0, 1) := D_42 yB_cX2_tryMoves rfl rfl
theorem dX2_tryMoves_183 : decode cX2_tryMoves 183 = .ok (.getfield 22, 3) := D_180 yB_cX2_tryMoves rfl rfl rfl
theorem dX2_tryMoves_186 : decode cX2_tryMoves 186 = .ok (.if_icmp .ge 12, 3) := D_162 yB_cX2_tryMoves rfl rfl (sg_p (m := 32768) (N := 12) rfl rfl rfl)
theorem dX2_tryMoves_189 : decode cX2_tryMoves 189 = .ok (.aload_n 0, 1) := D_42 yB_cX2_tryMoves rfl rfl
theorem dX2_tryMoves_190 : decode cX2_tryMoves 190 = .ok (.iload_n 1, 1) := D_27 yB_cX2_tryMoves rfl rfl
theorem dX2_tryMoves_191 : decode cX2_tryMoves 191 = .ok (.iload_n 2, 1) := D_28 yB_cX2_tryMoves rfl rfl
theorem dX2_tryMoves_192 : decode cX2_tryMoves 192 = .ok (.iconst 0, 1) := D_3 yB_cX2_tryMoves rfl rfl
theorem dX2_tryMoves_193 : decode cX2_tryMoves 193 = .ok (.iload 5, 2) := D_21 yB_cX2_tryMoves rfl rfl rfl
theorem dX2_tryMoves_195 : decode cX2_tryMoves 195 = .ok (.invokevirtual 58, 3) := D_182 yB_cX2_tryMoves rfl rfl rfl
theorem dX2_tryMoves_198 : decode cX2_tryMoves 198 = .ok (.return_, 1) := D_177 yB_cX2_tryMoves rfl rfl
set_option maxHeartbeats 4000000 in
set_option maxRecDepth 100000 in
theorem c_X2_tryMoves (l : Launch) (D : va_G) (cA : Nat → ClassId) (ad : Nat → Nat) (o : Int64) (σ : Mem) (Q : List (Nat × Nat)) (br : Nat) (ln : Nat) (a : Nat) (b : Nat) (q : Nat) (x : Nat) (z : Nat) (d : Nat) (hR : RepC Q σ) (h3 : σ 88 3 = nI a) (h4 : σ 88 4 = nI b) (h5 : σ 88 5 = nI q) (hx6 : σ 88 6 = nI x) (hz7 : σ 88 7 = nI z) (ha : a ≤ 3) (hb3 : b ≤ 3) (hq : q ≤ 3) (hxb : x ≤ 6) (hz : z ≤ 6) (hbl : br ≤ Nat.log2 ln) (hln : ln < 128) (hl1 : 1 ≤ ln) (hv1 : pcN ln - 1 ≤ a) (hv2 : Nat.log2 ln - (pcN ln - 1) ≤ b) (hd0 : σ 89 (br * 128 + ln) = nI d) (hd : d + 1 ≤ Q.length) (sz : Nat) : Met l yX2_tryMoves (WY yX2_tryMoves cX2_tryMoves 7 none) (RM 2) (va_Pc [.ref (ad 88), .int (nI br), .int (nI ln)] (PW D cA ad o σ sz)) (va_Qv (fun σ9 => RepC (foldQ Q (nbrL a b q x z br ln) (d + 1)) σ9 ∧ FrP σ σ9) (QW D cA ad o) (FA ad sz)) 0 0 (FA ad sz) := by
  refine ct_of (own := RX2) (k := 2) (Qf := va_Qv (fun σ9 => RepC (foldQ Q (nbrL a b q x z br ln) (d + 1)) σ9 ∧ FrP σ σ9) (QW D cA ad o)) rfl (by decide) (Nat.le_of_ble_eq_true rfl) (fun p e s m below meth c ls C0 X hr hlk hP hl => ?_) sz
  have hS : va_S (FA ad s.heap.size) s.heap s.heap [] := va_S.rf
  have hl : lv_has ls 7 [(0, .ref (ad 88)), (1, .int (nI br)), (2, .int (nI ln))] := hl
  obtain ⟨hx, hb, hml, hown, hts⟩ := id C0
  have h7 := ln_lt ln hln
  have hpc := ln_f1 ln hln hl1
  refine lv_iload_n hx hb dX2_tryMoves_0 rfl (lv_at hl 1 rfl) ?_
  refine lv_if_lt (tgt := 22) hx hb dX2_tryMoves_1 (by decide) (fun c_1 => absurd c_1 (nI_pos (by omega))) (fun c_1 => ?_)
  refine lv_iload_n hx hb dX2_tryMoves_4 rfl (lv_at hl 1 rfl) ?_
  refine lv_bipush (v := 7) hx hb dX2_tryMoves_5 (by decide) ?_
  refine lv_icmp_ge (tgt := 22) hx hb dX2_tryMoves_7 (by decide) (fun c_2 => absurd c_2 (nI_ge (a := br) (b := 7) (by omega) (by decide))) (fun c_2 => ?_)
  refine lv_iload_n hx hb dX2_tryMoves_10 rfl (lv_at hl 2 rfl) ?_
  refine lv_iconst (v := 1) hx hb dX2_tryMoves_11 (by decide) ?_
  refine lv_icmp_lt (tgt := 22) hx hb dX2_tryMoves_12 (by decide) (fun c_3 => absurd c_3 (nI_nlt (a := ln) (b := 1) hl1 (by omega))) (fun c_3 => ?_)
  refine lv_iload_n hx hb dX2_tryMoves_15 rfl (lv_at hl 2 rfl) ?_
  refine lv_sipush (v := 128) hx hb dX2_tryMoves_16 (by decide) ?_
  refine lv_icmp_lt (tgt := 23) hx hb dX2_tryMoves_19 (by decide) (fun c_4 => ?_) (fun c_4 => absurd (nI_lt (a := ln) (b := 128) hln (by decide)) c_4)
  refine lv_iload_n hx hb dX2_tryMoves_23 rfl (lv_at hl 2 rfl) ?_
  refine r_ci X hS (r_runS (As := [.int (nI ln)]) (rest := []) C0 X hP L_X2_45 (fun sz => c_X2_lengthOf l D cA ad o σ ln hln sz) ⟨Nat.le_of_ble_eq_true rfl, Nat.le_of_ble_eq_true rfl⟩ rfl hl.1 rfl (Nat.le_of_ble_eq_true rfl) dX2_tryMoves_24 ⟨Nat.zero_le _, Nat.zero_le _⟩) (fun r σ9 H locs hw hP hS => ?_)
  rw [hw.2] at hP
  rw [hw.1]
  refine lv_istore_n (lv' := [(3, .int (nI (Nat.log2 ln))), (0, .ref (ad 88)), (1, .int (nI br)), (2, .int (nI ln))]) hx hb dX2_tryMoves_27 rfl hl (by decide) rfl (fun ls hl => ?_)
  refine lv_iload_n hx hb dX2_tryMoves_28 rfl (lv_at hl 0 rfl) ?_
  refine lv_iload_n hx hb dX2_tryMoves_29 rfl (lv_at hl 2 rfl) ?_
  refine lv_isub hx hb dX2_tryMoves_30 ?_
  refine lv_topE (y := (nI (Nat.log2 ln - br))) (pk_sub hbl) ?_
  refine lv_istore (lv' := [(4, .int (nI (Nat.log2 ln - br))), (3, .int (nI (Nat.log2 ln))), (0, .ref (ad 88)), (1, .int (nI br)), (2, .int (nI ln))]) hx hb dX2_tryMoves_31 hl (by decide) rfl (fun ls hl => ?_)
  refine lv_aload_n hx hb dX2_tryMoves_33 rfl (lv_at hl 2 rfl) ?_
  refine gf_X2_11 C0 X hP 88 (q := 89) ⟨by decide, rfl⟩ (by omega) rfl dX2_tryMoves_34 ?_
  refine lv_iload_n hx hb dX2_tryMoves_37 rfl (lv_at hl 3 rfl) ?_
  refine lv_sipush (v := 128) hx hb dX2_tryMoves_38 (by decide) ?_
  refine lv_imul hx hb dX2_tryMoves_41 ?_
  refine lv_topE (y := (nI (br * 128))) (pk_mul br 128) ?_
  refine lv_iload_n hx hb dX2_tryMoves_42 rfl (lv_at hl 4 rfl) ?_
  refine lv_iadd hx hb dX2_tryMoves_43 ?_
  refine lv_topE (y := (nI (br * 128 + ln))) (nI_add _ _) ?_
  refine r_ialdN C0 X hP 89 (k := (br * 128 + ln)) ⟨by decide, rfl⟩ rfl (by omega) dX2_tryMoves_44 ?_
  refine lv_topE (y := (nI d)) hd0 ?_
  refine lv_iconst (v := 1) hx hb dX2_tryMoves_45 (by decide) ?_
  refine lv_iadd hx hb dX2_tryMoves_46 ?_
  refine lv_topE (y := (nI (d + 1))) (nI_1 _) ?_
  refine lv_istore (lv' := [(5, .int (nI (d + 1))), (4, .int (nI (Nat.log2 ln - br))), (3, .int (nI (Nat.log2 ln))), (0, .ref (ad 88)), (1, .int (nI br)), (2, .int (nI ln))]) hx hb dX2_tryMoves_47 hl (by decide) rfl (fun ls hl => ?_)
  have jp_5 : ∀ (μ1 : Mem) (H : Heap) (locs : List Loc) (ls : Array Slot), RepC (foldQ Q (mm1 z br ln) (d + 1)) μ1 → FrP σ μ1 → WP D cA ad o μ1 H → va_S (FA ad s.heap.size) s.heap H locs → lv_has ls 7 [(0, .ref (ad 88)), (1, .int (nI br)), (2, .int (nI ln)), (3, .int (nI (Nat.log2 ln))), (4, .int (nI (Nat.log2 ln - br))), (5, .int (nI (d + 1)))] → W p l e (RM 2) s m ([.ref (ad 88), .int (nI br), .int (nI ln)] : List Value).toArray below meth c H locs 0 0 (MQ below (va_Qv (fun σ9 => RepC (foldQ Q (nbrL a b q x z br ln) (d + 1)) σ9 ∧ FrP σ σ9) (QW D cA ad o) (FA ad s.heap.size)) ([.ref (ad 88), .int (nI br), .int (nI ln)] : List Value).toArray s 0 0 (FA ad s.heap.size)) (F0 m 72 ls []) := by
    intro μ1 H locs ls hR1 hF1 hP hS hl
    have jp_6 : ∀ (μ2 : Mem) (H : Heap) (locs : List Loc) (ls : Array Slot), RepC (foldQ Q (mm1 z br ln ++ mm2 x br ln) (d + 1)) μ2 → FrP σ μ2 → WP D cA ad o μ2 H → va_S (FA ad s.heap.size) s.heap H locs → lv_has ls 7 [(0, .ref (ad 88)), (1, .int (nI br)), (2, .int (nI ln)), (3, .int (nI (Nat.log2 ln))), (4, .int (nI (Nat.log2 ln - br))), (5, .int (nI (d + 1)))] → W p l e (RM 2) s m ([.ref (ad 88), .int (nI br), .int (nI ln)] : List Value).toArray below meth c H locs 0 0 (MQ below (va_Qv (fun σ9 => RepC (foldQ Q (nbrL a b q x z br ln) (d + 1)) σ9 ∧ FrP σ σ9) (QW D cA ad o) (FA ad s.heap.size)) ([.ref (ad 88), .int (nI br), .int (nI ln)] : List Value).toArray s 0 0 (FA ad s.heap.size)) (F0 m 95 ls []) := by
      intro μ2 H locs ls hR2 hF2 hP hS hl
      have jp_7 : ∀ (μ4 : Mem) (H : Heap) (locs : List Loc) (ls : Array Slot), RepC (foldQ Q (mm1 z br ln ++ mm2 x br ln ++ mm3 a b q br ln ++ mm4 a b q br ln) (d + 1)) μ4 → FrP σ μ4 → WP D cA ad o μ4 H → va_S (FA ad s.heap.size) s.heap H locs → lv_has ls 7 [(0, .ref (ad 88)), (1, .int (nI br)), (2, .int (nI ln)), (3, .int (nI (Nat.log2 ln))), (4, .int (nI (Nat.log2 ln - br))), (5, .int (nI (d + 1)))] → W p l e (RM 2) s m ([.ref (ad 88), .int (nI br), .int (nI ln)] : List Value).toArray below meth c H locs 0 0 (MQ below (va_Qv (fun σ9 => RepC (foldQ Q (nbrL a b q x z br ln) (d + 1)) σ9 ∧ FrP σ σ9) (QW D cA ad o) (FA ad s.heap.size)) ([.ref (ad 88), .int (nI br), .int (nI ln)] : List Value).toArray s 0 0 (FA ad s.heap.size)) (F0 m 152 ls []) := by
        intro μ4 H locs ls hR4 hF4 hP hS hl
        refine lv_iload_n hx hb dX2_tryMoves_152 rfl (lv_at hl 2 rfl) ?_
        refine r_ci X hS (r_runSX (As := [.int (nI ln)]) (rest := []) C0 X hP L_X2_53 (fun sz => c_J6_bitCount_0f7a4 l D cA ad o μ4 ln hln sz) ⟨Nat.le_of_ble_eq_true rfl, Nat.le_of_ble_eq_true rfl⟩ rfl hl.1 rfl (Nat.le_of_ble_eq_true rfl) dX2_tryMoves_153 ⟨Nat.zero_le _, Nat.zero_le _⟩) (fun r σ9 H locs hw hP hS => ?_)
        rw [hw.2] at hP
        rw [hw.1]
        refine lv_iconst (v := 1) hx hb dX2_tryMoves_156 (by decide) ?_
        refine lv_isub hx hb dX2_tryMoves_157 ?_
        refine lv_topE (y := (nI (pcN ln - 1))) (pk_sub (a := pcN ln) (b := 1) hpc.1) ?_
        refine lv_istore (lv' := [(6, .int (nI (pcN ln - 1))), (0, .ref (ad 88)), (1, .int (nI br)), (2, .int (nI ln)), (3, .int (nI (Nat.log2 ln))), (4, .int (nI (Nat.log2 ln - br))), (5, .int (nI (d + 1)))]) hx hb dX2_tryMoves_158 hl (by decide) rfl (fun ls hl => ?_)
        have jp_8 : ∀ (μ5 : Mem) (H : Heap) (locs : List Loc) (ls : Array Slot), RepC (foldQ Q (mm1 z br ln ++ mm2 x br ln ++ mm3 a b q br ln ++ mm4 a b q br ln ++ mm5 a x z br ln) (d + 1)) μ5 → FrP σ μ5 → WP D cA ad o μ5 H → va_S (FA ad s.heap.size) s.heap H locs → lv_has ls 7 [(0, .ref (ad 88)), (1, .int (nI br)), (2, .int (nI ln)), (3, .int (nI (Nat.log2 ln))), (4, .int (nI (Nat.log2 ln - br))), (5, .int (nI (d + 1))), (6, .int (nI (pcN ln - 1)))] → W p l e (RM 2) s m ([.ref (ad 88), .int (nI br), .int (nI ln)] : List Value).toArray below meth c H locs 0 0 (MQ below (va_Qv (fun σ9 => RepC (foldQ Q (nbrL a b q x z br ln) (d + 1)) σ9 ∧ FrP σ σ9) (QW D cA ad o) (FA ad s.heap.size)) ([.ref (ad 88), .int (nI br), .int (nI ln)] : List Value).toArray s 0 0 (FA ad s.heap.size)) (F0 m 178 ls []) := by
          intro μ5 H locs ls hR5 hF5 hP hS hl
          refine lv_iload_n hx hb dX2_tryMoves_178 rfl (lv_at hl 3 rfl) ?_
          refine lv_iload hx hb dX2_tryMoves_179 (lv_at hl 6 rfl) ?_
          refine lv_isub hx hb dX2_tryMoves_181 ?_
          refine lv_topE (y := (nI (Nat.log2 ln - (pcN ln - 1)))) (pk_sub hpc.2) ?_
          refine lv_aload_n hx hb dX2_tryMoves_182 rfl (lv_at hl 0 rfl) ?_
          refine gf_X2_22 C0 X hP 88 ⟨by decide, rfl⟩ dX2_tryMoves_183 ?_
          refine lv_topE (y := (nI b)) ((hF5.2 4 (by decide)).trans h4) ?_
          refine lv_icmp_ge (tgt := 198) hx hb dX2_tryMoves_186 (by decide) (fun c_9 => ?_) (fun c_9 => ?_)
          · exact r_vret C0 X hP hS hr hlk dX2_tryMoves_198 ⟨by rw [nbrL, foldQ_app, mm6, if_neg (nI_nlt_of c_9 (by omega))]; exact hR5, hF5⟩
          · refine lv_aload_n hx hb dX2_tryMoves_189 rfl (lv_at hl 0 rfl) ?_
            refine lv_iload_n hx hb dX2_tryMoves_190 rfl (lv_at hl 1 rfl) ?_
            refine lv_iload_n hx hb dX2_tryMoves_191 rfl (lv_at hl 2 rfl) ?_
            refine lv_iconst (v := 0) hx hb dX2_tryMoves_192 (by decide) ?_
            refine lv_iload hx hb dX2_tryMoves_193 (lv_at hl 5 rfl) ?_
            refine r_cv X hS (r_runV (As := [.int (nI br), .int (nI ln), .int 0, .int (nI (d + 1))]) (rest := []) C0 X hP L_X2_58 (fun sz => c_X2_comeBack l D cA ad o μ5 (foldQ Q (mm1 z br ln ++ mm2 x br ln ++ mm3 a b q br ln ++ mm4 a b q br ln ++ mm5 a x z br ln) (d + 1)) br ln 0 (d + 1) x z hR5 ((hF5.2 6 (by decide)).trans hx6) ((hF5.2 7 (by decide)).trans hz7) hbl hln hl1 (by have := nI_lt_of c_9 (by omega); omega) (by decide) (Nat.le_trans hd (foldQ_len _ _ _)) hxb hz sz) (show 88 < 106 ∧ kd 88 = (2, 8) from ⟨by decide, rfl⟩).1 (show 88 < 106 ∧ kd 88 = (2, 8) from ⟨by decide, rfl⟩).2 (by decide) rfl ⟨Nat.le_of_ble_eq_true rfl, Nat.le_of_ble_eq_true rfl⟩ rfl hl.1 rfl (Nat.le_of_ble_eq_true rfl) dX2_tryMoves_195 ⟨Nat.zero_le _, Nat.zero_le _⟩) (fun σw_10 H locs hw_10 hP hS => ?_)
            exact r_vret C0 X hP hS hr hlk dX2_tryMoves_198 ⟨by rw [nbrL, foldQ_app, mm6, if_pos (nI_lt_of c_9 (by omega))]; exact hw_10.1, FrP_trans hF5 hw_10.2⟩
        refine lv_iload hx hb dX2_tryMoves_160 (lv_at hl 0 rfl) ?_
        refine lv_aload_n hx hb dX2_tryMoves_162 rfl (lv_at hl 1 rfl) ?_
        refine gf_X2_18 C0 X hP 88 ⟨by decide, rfl⟩ dX2_tryMoves_163 ?_
        refine lv_topE (y := (nI a)) ((hF4.2 3 (by decide)).trans h3) ?_
        refine lv_icmp_ge (tgt := 178) hx hb dX2_tryMoves_166 (by decide) (fun c_11 => ?_) (fun c_11 => ?_)
        · exact jp_8 μ4 _ _ ls (by rw [foldQ_app, mm5, if_neg (nI_nlt_of c_11 (by omega))]; exact hR4) hF4 hP hS (lv_sub hl [1, 2, 3, 4, 5, 6, 0] rfl)
        · refine lv_aload_n hx hb dX2_tryMoves_169 rfl (lv_at hl 1 rfl) ?_
          refine lv_iload_n hx hb dX2_tryMoves_170 rfl (lv_at hl 2 rfl) ?_
          refine lv_iload_n hx hb dX2_tryMoves_171 rfl (lv_at hl 3 rfl) ?_
          refine lv_iconst (v := 1) hx hb dX2_tryMoves_172 (by decide) ?_
          refine lv_iload hx hb dX2_tryMoves_173 (lv_at hl 6 rfl) ?_
          refine r_cv X hS (r_runV (As := [.int (nI br), .int (nI ln), .int 1, .int (nI (d + 1))]) (rest := []) C0 X hP L_X2_58 (fun sz => c_X2_comeBack l D cA ad o μ4 (foldQ Q (mm1 z br ln ++ mm2 x br ln ++ mm3 a b q br ln ++ mm4 a b q br ln) (d + 1)) br ln 1 (d + 1) x z hR4 ((hF4.2 6 (by decide)).trans hx6) ((hF4.2 7 (by decide)).trans hz7) hbl hln hl1 (by have := nI_lt_of c_11 (by omega); omega) (by decide) (Nat.le_trans hd (foldQ_len _ _ _)) hxb hz sz) (show 88 < 106 ∧ kd 88 = (2, 8) from ⟨by decide, rfl⟩).1 (show 88 < 106 ∧ kd 88 = (2, 8) from ⟨by decide, rfl⟩).2 (by decide) rfl ⟨Nat.le_of_ble_eq_true rfl, Nat.le_of_ble_eq_true rfl⟩ rfl hl.1 rfl (Nat.le_of_ble_eq_true rfl) dX2_tryMoves_175 ⟨Nat.zero_le _, Nat.zero_le _⟩) (fun σw_12 H locs hw_12 hP hS => ?_)
          exact jp_8 σw_12 _ _ ls (by rw [foldQ_app, mm5, if_pos (nI_lt_of c_11 (by omega))]; exact hw_12.1) (FrP_trans hF4 hw_12.2) hP hS (lv_sub hl [1, 2, 3, 4, 5, 6, 0] rfl)
      refine lv_aload_n hx hb dX2_tryMoves_95 rfl (lv_at hl 0 rfl) ?_
      refine gf_X2_18 C0 X hP 88 ⟨by decide, rfl⟩ dX2_tryMoves_96 ?_
      refine lv_topE (y := (nI a)) ((hF2.2 3 (by decide)).trans h3) ?_
      refine lv_aload_n hx hb dX2_tryMoves_99 rfl (lv_at hl 0 rfl) ?_
      refine gf_X2_22 C0 X hP 88 ⟨by decide, rfl⟩ dX2_tryMoves_100 ?_
      refine lv_topE (y := (nI b)) ((hF2.2 4 (by decide)).trans h4) ?_
      refine lv_iadd hx hb dX2_tryMoves_103 ?_
      refine lv_topE (y := (nI (a + b))) (nI_add _ _) ?_
      refine lv_iload_n hx hb dX2_tryMoves_104 rfl (lv_at hl 3 rfl) ?_
      refine lv_isub hx hb dX2_tryMoves_105 ?_
      refine lv_topE (y := (nI (a + b - Nat.log2 ln))) (pk_sub (by omega)) ?_
      refine lv_aload_n hx hb dX2_tryMoves_106 rfl (lv_at hl 0 rfl) ?_
      refine gf_X2_25 C0 X hP 88 ⟨by decide, rfl⟩ dX2_tryMoves_107 ?_
      refine lv_topE (y := (nI q)) ((hF2.2 5 (by decide)).trans h5) ?_
      refine lv_icmp_ge (tgt := 152) hx hb dX2_tryMoves_110 (by decide) (fun c_13 => ?_) (fun c_13 => ?_)
      · exact jp_7 μ2 _ _ ls (by rw [foldQ_app, mm4, if_neg (fun h9 => nI_nlt_of c_13 (by omega) h9.1), foldQ_nil, foldQ_app, mm3, if_neg (fun h9 => nI_nlt_of c_13 (by omega) h9.1)]; exact hR2) hF2 hP hS (lv_sub hl [0, 1, 2, 3, 4, 5] rfl)
      · have jp_14 : ∀ (μ3 : Mem) (H : Heap) (locs : List Loc) (ls : Array Slot), RepC (foldQ Q (mm1 z br ln ++ mm2 x br ln ++ mm3 a b q br ln) (d + 1)) μ3 → FrP σ μ3 → WP D cA ad o μ3 H → va_S (FA ad s.heap.size) s.heap H locs → lv_has ls 7 [(0, .ref (ad 88)), (1, .int (nI br)), (2, .int (nI ln)), (3, .int (nI (Nat.log2 ln))), (4, .int (nI (Nat.log2 ln - br))), (5, .int (nI (d + 1)))] → W p l e (RM 2) s m ([.ref (ad 88), .int (nI br), .int (nI ln)] : List Value).toArray below meth c H locs 0 0 (MQ below (va_Qv (fun σ9 => RepC (foldQ Q (nbrL a b q x z br ln) (d + 1)) σ9 ∧ FrP σ σ9) (QW D cA ad o) (FA ad s.heap.size)) ([.ref (ad 88), .int (nI br), .int (nI ln)] : List Value).toArray s 0 0 (FA ad s.heap.size)) (F0 m 132 ls []) := by
          intro μ3 H locs ls hR3 hF3 hP hS hl
          refine lv_iload hx hb dX2_tryMoves_132 (lv_at hl 4 rfl) ?_
          refine lv_if_le (tgt := 152) hx hb dX2_tryMoves_134 (by decide) (fun c_15 => ?_) (fun c_15 => ?_)
          · exact jp_7 μ3 _ _ ls (by rw [foldQ_app, mm4, if_neg (fun h9 => absurd h9.2 (by have := nI_zero_of (by omega) c_15; omega))]; exact hR3) hF3 hP hS (lv_sub hl [0, 1, 2, 3, 4, 5] rfl)
          · refine lv_aload_n hx hb dX2_tryMoves_137 rfl (lv_at hl 0 rfl) ?_
            refine lv_iload_n hx hb dX2_tryMoves_138 rfl (lv_at hl 1 rfl) ?_
            refine lv_iload_n hx hb dX2_tryMoves_139 rfl (lv_at hl 2 rfl) ?_
            refine lv_iload hx hb dX2_tryMoves_140 (lv_at hl 4 rfl) ?_
            refine lv_iconst (v := 1) hx hb dX2_tryMoves_142 (by decide) ?_
            refine lv_isub hx hb dX2_tryMoves_143 ?_
            refine lv_topE (y := (nI (Nat.log2 ln - br - 1))) (pk_sub (a := Nat.log2 ln - br) (b := 1) (nI_pos_of c_15)) ?_
            refine r_ci X hS (r_runS (As := [.int (nI ln), .int (nI (Nat.log2 ln - br - 1))]) (rest := [.int (nI br), .ref (ad 88)]) C0 X hP L_X2_49 (fun sz => c_X2_without l D cA ad o μ3 ln (Nat.log2 ln - br - 1) hln (by omega) sz) ⟨Nat.le_of_ble_eq_true rfl, Nat.le_of_ble_eq_true rfl⟩ rfl hl.1 rfl (Nat.le_of_ble_eq_true rfl) dX2_tryMoves_144 ⟨Nat.zero_le _, Nat.zero_le _⟩) (fun r σ9 H locs hw hP hS => ?_)
            rw [hw.2] at hP
            rw [hw.1]
            refine lv_iload hx hb dX2_tryMoves_147 (lv_at hl 5 rfl) ?_
            refine r_cv X hS (r_runV (As := [.int (nI br), .int (nI (woN ln (Nat.log2 ln - br - 1))), .int (nI (d + 1))]) (rest := []) C0 X hP L_X2_37 (fun sz => c_X2_reach l D cA ad o μ3 (foldQ Q (mm1 z br ln ++ mm2 x br ln ++ mm3 a b q br ln) (d + 1)) br (woN ln (Nat.log2 ln - br - 1)) (d + 1) hR3 (by omega) (ln_f2 ln hln _ (by omega) (by have := nI_pos_of c_15; omega)).1 (Nat.le_trans hd (foldQ_len _ _ _)) sz) (show 88 < 106 ∧ kd 88 = (2, 8) from ⟨by decide, rfl⟩).1 (show 88 < 106 ∧ kd 88 = (2, 8) from ⟨by decide, rfl⟩).2 (by decide) rfl ⟨Nat.le_of_ble_eq_true rfl, Nat.le_of_ble_eq_true rfl⟩ rfl hl.1 rfl (Nat.le_of_ble_eq_true rfl) dX2_tryMoves_149 ⟨Nat.zero_le _, Nat.zero_le _⟩) (fun σw_16 H locs hw_16 hP hS => ?_)
            exact jp_7 σw_16 _ _ ls (by rw [foldQ_app, mm4, if_pos ⟨nI_lt_of c_13 (by omega), nI_pos_of c_15⟩, foldQ_one]; exact hw_16.1) (FrP_trans hF3 hw_16.2) hP hS (lv_sub hl [0, 1, 2, 3, 4, 5] rfl)
        refine lv_iload_n hx hb dX2_tryMoves_113 rfl (lv_at hl 1 rfl) ?_
        refine lv_if_le (tgt := 132) hx hb dX2_tryMoves_114 (by decide) (fun c_17 => ?_) (fun c_17 => ?_)
        · exact jp_14 μ2 _ _ ls (by rw [foldQ_app, mm3, if_neg (fun h9 => absurd h9.2 (by have := nI_zero_of (by omega) c_17; omega))]; exact hR2) hF2 hP hS (lv_sub hl [0, 1, 2, 3, 4, 5] rfl)
        · refine lv_aload_n hx hb dX2_tryMoves_117 rfl (lv_at hl 0 rfl) ?_
          refine lv_iload_n hx hb dX2_tryMoves_118 rfl (lv_at hl 1 rfl) ?_
          refine lv_iconst (v := 1) hx hb dX2_tryMoves_119 (by decide) ?_
          refine lv_isub hx hb dX2_tryMoves_120 ?_
          refine lv_topE (y := (nI (br - 1))) (pk_sub (a := br) (b := 1) (nI_pos_of c_17)) ?_
          refine lv_iload_n hx hb dX2_tryMoves_121 rfl (lv_at hl 2 rfl) ?_
          refine lv_iload hx hb dX2_tryMoves_122 (lv_at hl 4 rfl) ?_
          refine r_ci X hS (r_runS (As := [.int (nI ln), .int (nI (Nat.log2 ln - br))]) (rest := [.int (nI (br - 1)), .ref (ad 88)]) C0 X hP L_X2_49 (fun sz => c_X2_without l D cA ad o μ2 ln (Nat.log2 ln - br) hln (by omega) sz) ⟨Nat.le_of_ble_eq_true rfl, Nat.le_of_ble_eq_true rfl⟩ rfl hl.1 rfl (Nat.le_of_ble_eq_true rfl) dX2_tryMoves_124 ⟨Nat.zero_le _, Nat.zero_le _⟩) (fun r σ9 H locs hw hP hS => ?_)
          rw [hw.2] at hP
          rw [hw.1]
          refine lv_iload hx hb dX2_tryMoves_127 (lv_at hl 5 rfl) ?_
          refine r_cv X hS (r_runV (As := [.int (nI (br - 1)), .int (nI (woN ln (Nat.log2 ln - br))), .int (nI (d + 1))]) (rest := []) C0 X hP L_X2_37 (fun sz => c_X2_reach l D cA ad o μ2 (foldQ Q (mm1 z br ln ++ mm2 x br ln) (d + 1)) (br - 1) (woN ln (Nat.log2 ln - br)) (d + 1) hR2 (by omega) (ln_f2 ln hln _ (by omega) (by have := nI_pos_of c_17; omega)).1 (Nat.le_trans hd (foldQ_len _ _ _)) sz) (show 88 < 106 ∧ kd 88 = (2, 8) from ⟨by decide, rfl⟩).1 (show 88 < 106 ∧ kd 88 = (2, 8) from ⟨by decide, rfl⟩).2 (by decide) rfl ⟨Nat.le_of_ble_eq_true rfl, Nat.le_of_ble_eq_true rfl⟩ rfl hl.1 rfl (Nat.le_of_ble_eq_true rfl) dX2_tryMoves_129 ⟨Nat.zero_le _, Nat.zero_le _⟩) (fun σw_18 H locs hw_18 hP hS => ?_)
          exact jp_14 σw_18 _ _ ls (by rw [foldQ_app, mm3, if_pos ⟨nI_lt_of c_13 (by omega), nI_pos_of c_17⟩, foldQ_one]; exact hw_18.1) (FrP_trans hF2 hw_18.2) hP hS (lv_sub hl [0, 1, 2, 3, 4, 5] rfl)
    refine lv_iload hx hb dX2_tryMoves_72 (lv_at hl 4 rfl) ?_
    refine lv_if_le (tgt := 95) hx hb dX2_tryMoves_74 (by decide) (fun c_19 => ?_) (fun c_19 => ?_)
    · exact jp_6 μ1 _ _ ls (by rw [foldQ_app, mm2, if_neg (fun h9 => absurd h9.1 (by have := nI_zero_of (by omega) c_19; omega))]; exact hR1) hF1 hP hS (lv_sub hl [0, 1, 2, 3, 4, 5] rfl)
    · refine lv_iload_n hx hb dX2_tryMoves_77 rfl (lv_at hl 1 rfl) ?_
      refine lv_aload_n hx hb dX2_tryMoves_78 rfl (lv_at hl 0 rfl) ?_
      refine gf_X2_28 C0 X hP 88 ⟨by decide, rfl⟩ dX2_tryMoves_79 ?_
      refine lv_topE (y := (nI x)) ((hF1.2 6 (by decide)).trans hx6) ?_
      refine lv_icmp_ge (tgt := 95) hx hb dX2_tryMoves_82 (by decide) (fun c_20 => ?_) (fun c_20 => ?_)
      · exact jp_6 μ1 _ _ ls (by rw [foldQ_app, mm2, if_neg (fun h9 => nI_nlt_of c_20 (by omega) h9.2)]; exact hR1) hF1 hP hS (lv_sub hl [0, 1, 2, 3, 4, 5] rfl)
      · refine lv_aload_n hx hb dX2_tryMoves_85 rfl (lv_at hl 0 rfl) ?_
        refine lv_iload_n hx hb dX2_tryMoves_86 rfl (lv_at hl 1 rfl) ?_
        refine lv_iconst (v := 1) hx hb dX2_tryMoves_87 (by decide) ?_
        refine lv_iadd hx hb dX2_tryMoves_88 ?_
        refine lv_topE (y := (nI (br + 1))) (nI_1 _) ?_
        refine lv_iload_n hx hb dX2_tryMoves_89 rfl (lv_at hl 2 rfl) ?_
        refine lv_iload hx hb dX2_tryMoves_90 (lv_at hl 5 rfl) ?_
        refine r_cv X hS (r_runV (As := [.int (nI (br + 1)), .int (nI ln), .int (nI (d + 1))]) (rest := []) C0 X hP L_X2_37 (fun sz => c_X2_reach l D cA ad o μ1 (foldQ Q (mm1 z br ln) (d + 1)) (br + 1) ln (d + 1) hR1 (by have := nI_lt_of c_20 (by omega); omega) hln (Nat.le_trans hd (foldQ_len _ _ _)) sz) (show 88 < 106 ∧ kd 88 = (2, 8) from ⟨by decide, rfl⟩).1 (show 88 < 106 ∧ kd 88 = (2, 8) from ⟨by decide, rfl⟩).2 (by decide) rfl ⟨Nat.le_of_ble_eq_true rfl, Nat.le_of_ble_eq_true rfl⟩ rfl hl.1 rfl (Nat.le_of_ble_eq_true rfl) dX2_tryMoves_92 ⟨Nat.zero_le _, Nat.zero_le _⟩) (fun σw_21 H locs hw_21 hP hS => ?_)
        exact jp_6 σw_21 _ _ ls (by rw [foldQ_app, mm2, if_pos ⟨nI_pos_of c_19, nI_lt_of c_20 (by omega)⟩, foldQ_one]; exact hw_21.1) (FrP_trans hF1 hw_21.2) hP hS (lv_sub hl [0, 1, 2, 3, 4, 5] rfl)
  refine lv_iload_n hx hb dX2_tryMoves_49 rfl (lv_at hl 4 rfl) ?_
  refine lv_if_le (tgt := 72) hx hb dX2_tryMoves_50 (by decide) (fun c_22 => ?_) (fun c_22 => ?_)
  · exact jp_5 σ _ _ ls (by rw [mm1, if_neg (fun h9 => absurd h9.1 (by have := nI_zero_of (by omega) c_22; omega))]; exact hR) (FrP_refl σ) hP hS (lv_sub hl [3, 4, 5, 2, 1, 0] rfl)
  · refine lv_iload hx hb dX2_tryMoves_53 (lv_at hl 1 rfl) ?_
    refine lv_aload_n hx hb dX2_tryMoves_55 rfl (lv_at hl 3 rfl) ?_
    refine gf_X2_31 C0 X hP 88 ⟨by decide, rfl⟩ dX2_tryMoves_56 ?_
    refine lv_topE (y := (nI z)) hz7 ?_
    refine lv_icmp_ge (tgt := 72) hx hb dX2_tryMoves_59 (by decide) (fun c_23 => ?_) (fun c_23 => ?_)
    · exact jp_5 σ _ _ ls (by rw [mm1, if_neg (fun h9 => nI_nlt_of c_23 (by omega) h9.2)]; exact hR) (FrP_refl σ) hP hS (lv_sub hl [3, 4, 5, 2, 1, 0] rfl)
    · refine lv_aload_n hx hb dX2_tryMoves_62 rfl (lv_at hl 3 rfl) ?_
      refine lv_iload_n hx hb dX2_tryMoves_63 rfl (lv_at hl 4 rfl) ?_
      refine lv_iconst (v := 1) hx hb dX2_tryMoves_64 (by decide) ?_
      refine lv_isub hx hb dX2_tryMoves_65 ?_
      refine lv_topE (y := (nI (br - 1))) (pk_sub (a := br) (b := 1) (nI_pos_of c_22)) ?_
      refine lv_iload_n hx hb dX2_tryMoves_66 rfl (lv_at hl 5 rfl) ?_
      refine lv_iload hx hb dX2_tryMoves_67 (lv_at hl 0 rfl) ?_
      refine r_cv X hS (r_runV (As := [.int (nI (br - 1)), .int (nI ln), .int (nI (d + 1))]) (rest := []) C0 X hP L_X2_37 (fun sz => c_X2_reach l D cA ad o σ Q (br - 1) ln (d + 1) hR (by omega) hln hd sz) (show 88 < 106 ∧ kd 88 = (2, 8) from ⟨by decide, rfl⟩).1 (show 88 < 106 ∧ kd 88 = (2, 8) from ⟨by decide, rfl⟩).2 (by decide) rfl ⟨Nat.le_of_ble_eq_true rfl, Nat.le_of_ble_eq_true rfl⟩ rfl hl.1 rfl (Nat.le_of_ble_eq_true rfl) dX2_tryMoves_69 ⟨Nat.zero_le _, Nat.zero_le _⟩) (fun σw_24 H locs hw_24 hP hS => ?_)
      exact jp_5 σw_24 _ _ ls (by rw [mm1, if_pos ⟨nI_pos_of c_22, nI_lt_of c_23 (by omega)⟩, foldQ_one]; exact hw_24.1) hw_24.2 hP hS (lv_sub hl [3, 4, 5, 2, 1, 0] rfl)
