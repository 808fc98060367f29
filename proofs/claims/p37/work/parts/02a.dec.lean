/-! places within a chunk of the table -/
theorem sb1_0 : ∀ w ∈ bk1_0, w ∈ lw_tbl := fun w h => List.mem_append.mpr (Or.inr (mb1_0 w h))
theorem sb1_1 : ∀ w ∈ bk1_1, w ∈ lw_tbl := fun w h => List.mem_append.mpr (Or.inr (mb1_1 w h))
theorem sb1_2 : ∀ w ∈ bk1_2, w ∈ lw_tbl := fun w h => List.mem_append.mpr (Or.inr (mb1_2 w h))
theorem sb1_3 : ∀ w ∈ bk1_3, w ∈ lw_tbl := fun w h => List.mem_append.mpr (Or.inr (mb1_3 w h))
theorem sb1_4 : ∀ w ∈ bk1_4, w ∈ lw_tbl := fun w h => List.mem_append.mpr (Or.inr (mb1_4 w h))
theorem sb1_5 : ∀ w ∈ bk1_5, w ∈ lw_tbl := fun w h => List.mem_append.mpr (Or.inr (mb1_5 w h))
theorem sb1_6 : ∀ w ∈ bk1_6, w ∈ lw_tbl := fun w h => List.mem_append.mpr (Or.inr (mb1_6 w h))
theorem sb1_7 : ∀ w ∈ bk1_7, w ∈ lw_tbl := fun w h => List.mem_append.mpr (Or.inr (mb1_7 w h))
theorem sb1_8 : ∀ w ∈ bk1_8, w ∈ lw_tbl := fun w h => List.mem_append.mpr (Or.inr (mb1_8 w h))
theorem sb1_9 : ∀ w ∈ bk1_9, w ∈ lw_tbl := fun w h => List.mem_append.mpr (Or.inr (mb1_9 w h))
theorem sb1_10 : ∀ w ∈ bk1_10, w ∈ lw_tbl := fun w h => List.mem_append.mpr (Or.inr (mb1_10 w h))
theorem sb1_11 : ∀ w ∈ bk1_11, w ∈ lw_tbl := fun w h => List.mem_append.mpr (Or.inr (mb1_11 w h))
theorem sb1_12 : ∀ w ∈ bk1_12, w ∈ lw_tbl := fun w h => List.mem_append.mpr (Or.inr (mb1_12 w h))
theorem sb1_13 : ∀ w ∈ bk1_13, w ∈ lw_tbl := fun w h => List.mem_append.mpr (Or.inr (mb1_13 w h))
theorem sb1_14 : ∀ w ∈ bk1_14, w ∈ lw_tbl := fun w h => List.mem_append.mpr (Or.inr (mb1_14 w h))
theorem sb2_0 : ∀ w ∈ bk2_0, w ∈ lw_tbl := fun w h => List.mem_append.mpr (Or.inr (mb2_0 w h))
theorem sb2_1 : ∀ w ∈ bk2_1, w ∈ lw_tbl := fun w h => List.mem_append.mpr (Or.inr (mb2_1 w h))
theorem sb2_2 : ∀ w ∈ bk2_2, w ∈ lw_tbl := fun w h => List.mem_append.mpr (Or.inr (mb2_2 w h))
theorem sb2_3 : ∀ w ∈ bk2_3, w ∈ lw_tbl := fun w h => List.mem_append.mpr (Or.inr (mb2_3 w h))
theorem sb2_4 : ∀ w ∈ bk2_4, w ∈ lw_tbl := fun w h => List.mem_append.mpr (Or.inr (mb2_4 w h))
theorem sb2_5 : ∀ w ∈ bk2_5, w ∈ lw_tbl := fun w h => List.mem_append.mpr (Or.inr (mb2_5 w h))
theorem sb2_6 : ∀ w ∈ bk2_6, w ∈ lw_tbl := fun w h => List.mem_append.mpr (Or.inr (mb2_6 w h))
theorem sb2_7 : ∀ w ∈ bk2_7, w ∈ lw_tbl := fun w h => List.mem_append.mpr (Or.inr (mb2_7 w h))
theorem sb2_8 : ∀ w ∈ bk2_8, w ∈ lw_tbl := fun w h => List.mem_append.mpr (Or.inr (mb2_8 w h))
theorem sb2_9 : ∀ w ∈ bk2_9, w ∈ lw_tbl := fun w h => List.mem_append.mpr (Or.inr (mb2_9 w h))
theorem sb2_10 : ∀ w ∈ bk2_10, w ∈ lw_tbl := fun w h => List.mem_append.mpr (Or.inr (mb2_10 w h))
theorem sb2_11 : ∀ w ∈ bk2_11, w ∈ lw_tbl := fun w h => List.mem_append.mpr (Or.inr (mb2_11 w h))
theorem sb2_12 : ∀ w ∈ bk2_12, w ∈ lw_tbl := fun w h => List.mem_append.mpr (Or.inr (mb2_12 w h))
theorem sb2_13 : ∀ w ∈ bk2_13, w ∈ lw_tbl := fun w h => List.mem_append.mpr (Or.inr (mb2_13 w h))
theorem sb2_14 : ∀ w ∈ bk2_14, w ∈ lw_tbl := fun w h => List.mem_append.mpr (Or.inr (mb2_14 w h))
theorem sb3_0 : ∀ w ∈ bk3_0, w ∈ lw_tbl := fun w h => List.mem_append.mpr (Or.inr (mb3_0 w h))
theorem sb3_1 : ∀ w ∈ bk3_1, w ∈ lw_tbl := fun w h => List.mem_append.mpr (Or.inr (mb3_1 w h))
theorem sb3_2 : ∀ w ∈ bk3_2, w ∈ lw_tbl := fun w h => List.mem_append.mpr (Or.inr (mb3_2 w h))
theorem sb3_3 : ∀ w ∈ bk3_3, w ∈ lw_tbl := fun w h => List.mem_append.mpr (Or.inr (mb3_3 w h))
theorem sb3_4 : ∀ w ∈ bk3_4, w ∈ lw_tbl := fun w h => List.mem_append.mpr (Or.inr (mb3_4 w h))
theorem sb3_5 : ∀ w ∈ bk3_5, w ∈ lw_tbl := fun w h => List.mem_append.mpr (Or.inr (mb3_5 w h))
theorem sb3_6 : ∀ w ∈ bk3_6, w ∈ lw_tbl := fun w h => List.mem_append.mpr (Or.inr (mb3_6 w h))
theorem sb3_7 : ∀ w ∈ bk3_7, w ∈ lw_tbl := fun w h => List.mem_append.mpr (Or.inr (mb3_7 w h))
theorem sb3_8 : ∀ w ∈ bk3_8, w ∈ lw_tbl := fun w h => List.mem_append.mpr (Or.inr (mb3_8 w h))
theorem sb3_9 : ∀ w ∈ bk3_9, w ∈ lw_tbl := fun w h => List.mem_append.mpr (Or.inr (mb3_9 w h))
theorem sb3_10 : ∀ w ∈ bk3_10, w ∈ lw_tbl := fun w h => List.mem_append.mpr (Or.inr (mb3_10 w h))
theorem sb3_11 : ∀ w ∈ bk3_11, w ∈ lw_tbl := fun w h => List.mem_append.mpr (Or.inr (mb3_11 w h))
theorem sb3_12 : ∀ w ∈ bk3_12, w ∈ lw_tbl := fun w h => List.mem_append.mpr (Or.inr (mb3_12 w h))
theorem sb3_13 : ∀ w ∈ bk3_13, w ∈ lw_tbl := fun w h => List.mem_append.mpr (Or.inr (mb3_13 w h))
theorem sb3_14 : ∀ w ∈ bk3_14, w ∈ lw_tbl := fun w h => List.mem_append.mpr (Or.inr (mb3_14 w h))
theorem sb4_0 : ∀ w ∈ bk4_0, w ∈ lw_tbl := fun w h => List.mem_append.mpr (Or.inr (mb4_0 w h))
theorem sb4_1 : ∀ w ∈ bk4_1, w ∈ lw_tbl := fun w h => List.mem_append.mpr (Or.inr (mb4_1 w h))
theorem sb4_2 : ∀ w ∈ bk4_2, w ∈ lw_tbl := fun w h => List.mem_append.mpr (Or.inr (mb4_2 w h))
theorem sb4_3 : ∀ w ∈ bk4_3, w ∈ lw_tbl := fun w h => List.mem_append.mpr (Or.inr (mb4_3 w h))
theorem sb4_4 : ∀ w ∈ bk4_4, w ∈ lw_tbl := fun w h => List.mem_append.mpr (Or.inr (mb4_4 w h))
theorem sb4_5 : ∀ w ∈ bk4_5, w ∈ lw_tbl := fun w h => List.mem_append.mpr (Or.inr (mb4_5 w h))
theorem sb4_6 : ∀ w ∈ bk4_6, w ∈ lw_tbl := fun w h => List.mem_append.mpr (Or.inr (mb4_6 w h))
theorem sb4_7 : ∀ w ∈ bk4_7, w ∈ lw_tbl := fun w h => List.mem_append.mpr (Or.inr (mb4_7 w h))
theorem sb4_8 : ∀ w ∈ bk4_8, w ∈ lw_tbl := fun w h => List.mem_append.mpr (Or.inr (mb4_8 w h))
theorem sb4_9 : ∀ w ∈ bk4_9, w ∈ lw_tbl := fun w h => List.mem_append.mpr (Or.inr (mb4_9 w h))
theorem sb4_10 : ∀ w ∈ bk4_10, w ∈ lw_tbl := fun w h => List.mem_append.mpr (Or.inr (mb4_10 w h))
theorem sb4_11 : ∀ w ∈ bk4_11, w ∈ lw_tbl := fun w h => List.mem_append.mpr (Or.inr (mb4_11 w h))
theorem sb4_12 : ∀ w ∈ bk4_12, w ∈ lw_tbl := fun w h => List.mem_append.mpr (Or.inr (mb4_12 w h))
theorem sb4_13 : ∀ w ∈ bk4_13, w ∈ lw_tbl := fun w h => List.mem_append.mpr (Or.inr (mb4_13 w h))
theorem sb4_14 : ∀ w ∈ bk4_14, w ∈ lw_tbl := fun w h => List.mem_append.mpr (Or.inr (mb4_14 w h))
theorem sb5_0 : ∀ w ∈ bk5_0, w ∈ lw_tbl := fun w h => List.mem_append.mpr (Or.inr (mb5_0 w h))
theorem sb5_1 : ∀ w ∈ bk5_1, w ∈ lw_tbl := fun w h => List.mem_append.mpr (Or.inr (mb5_1 w h))
theorem sb5_2 : ∀ w ∈ bk5_2, w ∈ lw_tbl := fun w h => List.mem_append.mpr (Or.inr (mb5_2 w h))
theorem sb5_3 : ∀ w ∈ bk5_3, w ∈ lw_tbl := fun w h => List.mem_append.mpr (Or.inr (mb5_3 w h))
theorem sb5_4 : ∀ w ∈ bk5_4, w ∈ lw_tbl := fun w h => List.mem_append.mpr (Or.inr (mb5_4 w h))
theorem sb5_5 : ∀ w ∈ bk5_5, w ∈ lw_tbl := fun w h => List.mem_append.mpr (Or.inr (mb5_5 w h))
theorem sb5_6 : ∀ w ∈ bk5_6, w ∈ lw_tbl := fun w h => List.mem_append.mpr (Or.inr (mb5_6 w h))
theorem sb5_7 : ∀ w ∈ bk5_7, w ∈ lw_tbl := fun w h => List.mem_append.mpr (Or.inr (mb5_7 w h))
theorem sb5_8 : ∀ w ∈ bk5_8, w ∈ lw_tbl := fun w h => List.mem_append.mpr (Or.inr (mb5_8 w h))
theorem sb5_9 : ∀ w ∈ bk5_9, w ∈ lw_tbl := fun w h => List.mem_append.mpr (Or.inr (mb5_9 w h))
theorem sb5_10 : ∀ w ∈ bk5_10, w ∈ lw_tbl := fun w h => List.mem_append.mpr (Or.inr (mb5_10 w h))
theorem sb5_11 : ∀ w ∈ bk5_11, w ∈ lw_tbl := fun w h => List.mem_append.mpr (Or.inr (mb5_11 w h))
theorem sb5_12 : ∀ w ∈ bk5_12, w ∈ lw_tbl := fun w h => List.mem_append.mpr (Or.inr (mb5_12 w h))
theorem sb5_13 : ∀ w ∈ bk5_13, w ∈ lw_tbl := fun w h => List.mem_append.mpr (Or.inr (mb5_13 w h))
theorem sb5_14 : ∀ w ∈ bk5_14, w ∈ lw_tbl := fun w h => List.mem_append.mpr (Or.inr (mb5_14 w h))
theorem sb6_0 : ∀ w ∈ bk6_0, w ∈ lw_tbl := fun w h => List.mem_append.mpr (Or.inr (mb6_0 w h))
theorem sb6_1 : ∀ w ∈ bk6_1, w ∈ lw_tbl := fun w h => List.mem_append.mpr (Or.inr (mb6_1 w h))
theorem sb6_2 : ∀ w ∈ bk6_2, w ∈ lw_tbl := fun w h => List.mem_append.mpr (Or.inr (mb6_2 w h))
theorem sb6_3 : ∀ w ∈ bk6_3, w ∈ lw_tbl := fun w h => List.mem_append.mpr (Or.inr (mb6_3 w h))
theorem sb6_4 : ∀ w ∈ bk6_4, w ∈ lw_tbl := fun w h => List.mem_append.mpr (Or.inr (mb6_4 w h))
theorem sb6_5 : ∀ w ∈ bk6_5, w ∈ lw_tbl := fun w h => List.mem_append.mpr (Or.inr (mb6_5 w h))
theorem sb6_6 : ∀ w ∈ bk6_6, w ∈ lw_tbl := fun w h => List.mem_append.mpr (Or.inr (mb6_6 w h))
theorem sb6_7 : ∀ w ∈ bk6_7, w ∈ lw_tbl := fun w h => List.mem_append.mpr (Or.inr (mb6_7 w h))
theorem sb6_8 : ∀ w ∈ bk6_8, w ∈ lw_tbl := fun w h => List.mem_append.mpr (Or.inr (mb6_8 w h))
theorem sb6_9 : ∀ w ∈ bk6_9, w ∈ lw_tbl := fun w h => List.mem_append.mpr (Or.inr (mb6_9 w h))
theorem sb6_10 : ∀ w ∈ bk6_10, w ∈ lw_tbl := fun w h => List.mem_append.mpr (Or.inr (mb6_10 w h))
theorem sb6_11 : ∀ w ∈ bk6_11, w ∈ lw_tbl := fun w h => List.mem_append.mpr (Or.inr (mb6_11 w h))
theorem sb1 : ∀ w ∈ tables_1_1, w ∈ lw_tbl := fun w h => List.mem_append.mpr (Or.inr (List.mem_append.mpr (Or.inl h)))
theorem sb2 : ∀ w ∈ tables_1_2, w ∈ lw_tbl := fun w h => List.mem_append.mpr (Or.inr (List.mem_append.mpr (Or.inr (List.mem_append.mpr (Or.inl h)))))
theorem sb3 : ∀ w ∈ tables_1_3, w ∈ lw_tbl := fun w h => List.mem_append.mpr (Or.inr (List.mem_append.mpr (Or.inr (List.mem_append.mpr (Or.inr (List.mem_append.mpr (Or.inl h)))))))
theorem sb4 : ∀ w ∈ tables_1_4, w ∈ lw_tbl := fun w h => List.mem_append.mpr (Or.inr (List.mem_append.mpr (Or.inr (List.mem_append.mpr (Or.inr (List.mem_append.mpr (Or.inr (List.mem_append.mpr (Or.inl h)))))))))
theorem sb5 : ∀ w ∈ tables_1_5, w ∈ lw_tbl := fun w h => List.mem_append.mpr (Or.inr (List.mem_append.mpr (Or.inr (List.mem_append.mpr (Or.inr (List.mem_append.mpr (Or.inr (List.mem_append.mpr (Or.inr (List.mem_append.mpr (Or.inl h)))))))))))
theorem sb6 : ∀ w ∈ tables_1_6, w ∈ lw_tbl := fun w h => List.mem_append.mpr (Or.inr (List.mem_append.mpr (Or.inr (List.mem_append.mpr (Or.inr (List.mem_append.mpr (Or.inr (List.mem_append.mpr (Or.inr (List.mem_append.mpr (Or.inr (h))))))))))))
theorem tmc {L : List Cond} {w : Cond} (hL : ∀ w ∈ L, w ∈ lw_tbl) (j : Nat) (h : L[j]? = some w) (hg : goodWord w = true) : w ∈ tbg := List.mem_filter.mpr ⟨hL w (List.mem_of_getElem? h), hg⟩
theorem sbx {L : List Cond} (h : ∀ w ∈ L, w ∈ tables_1_4.drop 122 ∨ w ∈ lw_tbl) : ∀ w ∈ L, w ∈ lw_tbl := fun w hw => (h w hw).elim (fun z => sb4 w (List.mem_of_mem_drop z)) id
def tbk : Nat → List Cond
  | 1 => tables_1_1
  | 2 => tables_1_2
  | 3 => tables_1_3
  | 4 => tables_1_4
  | 5 => tables_1_5
  | 6 => tables_1_6
  | _ => []
theorem tbk_sub : ∀ k, ∀ w ∈ tbk k, w ∈ lw_tbl
  | 1 => sb1
  | 2 => sb2
  | 3 => sb3
  | 4 => sb4
  | 5 => sb5
  | 6 => sb6
  | 0 => fun _ h => absurd h List.not_mem_nil
  | _ + 7 => fun _ h => absurd h List.not_mem_nil
theorem mem_pl2 {ws : List Cond} (ps : List (Nat × Nat)) (hp : ws = ps.filterMap (fun q => (tbk q.1)[q.2]?)) (hg : ws.all goodWord = true) : ∀ w ∈ ws, w ∈ tbg := by
  intro w hw
  refine List.mem_filter.mpr ⟨?_, List.all_eq_true.mp hg w hw⟩
  rw [hp] at hw
  obtain ⟨q, -, h⟩ := List.mem_filterMap.mp hw
  exact tbk_sub q.1 w (List.mem_of_getElem? h)
/-! decode rows by the bytes of one number -/
/-- the byte at p is b -/
def BY (c : ByteArray) (p b : Nat) : Prop := ∃ h : p < c.size, (c[p]'h).toNat = b
/-- the bytes of a number, lowest first -/
def tbb : Nat → Nat → List Nat
  | 0, _ => []
  | n + 1, x => x % 256 :: tbb n (x / 256)
theorem tbb_len : ∀ n x, (tbb n x).length = n
  | 0, _ => rfl
  | n + 1, x => by rw [tbb, List.length_cons, tbb_len n]
theorem tbb_get : ∀ n x p, p < n → (tbb n x)[p]? = some (x / 256 ^ p % 256)
  | n + 1, x, 0, _ => by rw [tbb, List.getElem?_cons_zero, Nat.pow_zero, Nat.div_one]
  | n + 1, x, p + 1, h => by rw [tbb, List.getElem?_cons_succ, tbb_get n _ p (by omega), Nat.div_div_eq_div_mul, Nat.pow_succ, Nat.mul_comm 256]
def eqN : List UInt8 → List Nat → Bool
  | [], [] => true
  | a :: as, b :: bs => Nat.beq a.toNat b && eqN as bs
  | _, _ => false
theorem eqN_of : ∀ (l : List UInt8) (m : List Nat), eqN l m = true → l.map UInt8.toNat = m
  | [], [], _ => rfl
  | a :: as, b :: bs, h => by
    rw [eqN, Bool.and_eq_true] at h
    rw [List.map_cons, eqN_of as bs h.2, Nat.eq_of_beq_eq_true h.1]
  | [], _ :: _, h => by simp [eqN] at h
  | _ :: _, [], h => by simp [eqN] at h
/-- byte p of x -/
abbrev byt (x p : Nat) : Nat := Nat.mod (Nat.shiftRight x (Nat.mul 8 p)) 256
theorem byt_eq (x p : Nat) : byt x p = x / 256 ^ p % 256 := by
  show (x >>> (8 * p)) % 256 = _
  rw [Nat.shiftRight_eq_div_pow, Nat.pow_mul]
/-- c has n bytes, those of x -/
def BYS (c : ByteArray) (n x : Nat) : Prop := ∀ p, p < n → BY c p (byt x p)
theorem BYS_of {c : ByteArray} {n x : Nat} (h : eqN c.data.toList (tbb n x) = true) : BYS c n x := by
  intro p hp
  have e := eqN_of _ _ h
  have hl : c.data.toList.length = n := by
    have := congrArg List.length e
    rw [List.length_map, tbb_len] at this
    exact this
  have hs : p < c.size := by
    show p < c.data.size
    rw [← Array.length_toList, hl]
    exact hp
  refine ⟨hs, ?_⟩
  have g := tbb_get n x p hp
  rw [← e, List.getElem?_map, List.getElem?_eq_getElem (by rw [hl]; exact hp)] at g
  rw [byt_eq]
  exact Option.some.inj g
theorem rb9 {α β : Type} {c : ByteArray} {p s : Nat} {a : α} (x : Jvm.ClassFile.Decoder α) (f : α → Jvm.ClassFile.Decoder β) (h : x c p = .ok (a, s)) : (x >>= f) c p = f a c s := by
  show Except.bind (x c p) (fun q => f q.1 c q.2) = _
  rw [h]
  rfl
theorem u1_at {c : ByteArray} {p b : Nat} (h : BY c p b) : (Jvm.ClassFile.Reader.u1 : Jvm.ClassFile.Decoder Nat) c p = .ok (b, p + 1) := by
  obtain ⟨h1, h2⟩ := h
  unfold Jvm.ClassFile.Reader.u1
  rw [rb9 (s := p) (a := c) _ _ rfl, rb9 (s := p) (a := p) _ _ rfl, dif_pos h1, ← h2]
  rfl
theorem u2_at {c : ByteArray} {p a b : Nat} (h : BY c p a) (h' : BY c (p + 1) b) : (Jvm.ClassFile.Reader.u2 : Jvm.ClassFile.Decoder Nat) c p = .ok (a * 256 + b, p + 2) := by
  unfold Jvm.ClassFile.Reader.u2
  rw [rb9 _ _ (u1_at h), rb9 _ _ (u1_at h')]
  rfl
theorem s1_at {c : ByteArray} {p b : Nat} (h : BY c p b) : (Jvm.ClassFile.Reader.s1 : Jvm.ClassFile.Decoder Int) c p = .ok (Jvm.ClassFile.Reader.signed 8 b, p + 1) := by
  unfold Jvm.ClassFile.Reader.s1
  show Except.map (fun q => (Jvm.ClassFile.Reader.signed 8 q.1, q.2)) ((Jvm.ClassFile.Reader.u1 : Jvm.ClassFile.Decoder Nat) c p) = _
  rw [u1_at h]
  rfl
theorem s2_at {c : ByteArray} {p a b : Nat} (h : BY c p a) (h' : BY c (p + 1) b) : (Jvm.ClassFile.Reader.s2 : Jvm.ClassFile.Decoder Int) c p = .ok (Jvm.ClassFile.Reader.signed 16 (a * 256 + b), p + 2) := by
  unfold Jvm.ClassFile.Reader.s2
  show Except.map (fun q => (Jvm.ClassFile.Reader.signed 16 q.1, q.2)) ((Jvm.ClassFile.Reader.u2 : Jvm.ClassFile.Decoder Nat) c p) = _
  rw [u2_at h h']
  rfl
theorem sg_p {b m n N : Nat} (h : n = N) (hb : 2 ^ (b - 1) = m) (hl : Nat.blt N m = true) : Jvm.ClassFile.Reader.signed b n = (N : Int) := by
  subst h hb
  unfold Jvm.ClassFile.Reader.signed
  rw [if_pos (by simpa [Nat.blt_eq] using hl)]
theorem sg_n {b m n N : Nat} (h : Nat.add n N = 2 ^ b) (hb : 2 ^ (b - 1) = m) (hl : Nat.ble m n = true) : Jvm.ClassFile.Reader.signed b n = -(N : Int) := by
  subst hb
  have h1 : n + N = 2 ^ b := h
  have h2 := Nat.le_of_ble_eq_true hl
  unfold Jvm.ClassFile.Reader.signed
  rw [if_neg (by omega), ← h1]
  omega
theorem BY_0 {c : ByteArray} {n x p b : Nat} (h : BYS c n x) (k : Nat) (hk : p + k < n) (hb : byt x (Nat.add p k) = b) : BY c (p + k) b := by
  subst hb
  exact h _ hk
theorem dec_at {c : ByteArray} {p n : Nat} {i : Instr} (h : Jvm.ClassFile.Decoder.instr p c p = .ok (i, p + n)) : decode c p = .ok (i, n) := by
  show Except.bind (Jvm.ClassFile.Decoder.instr p c p) (fun q => .ok (q.1, q.2 - p)) = _
  rw [h]
  show Except.ok (i, p + n - p) = _
  rw [Nat.add_sub_cancel_left]
set_option maxRecDepth 100000 in
theorem D_1 {c : ByteArray} {n x p : Nat} (hB : BYS c n x) (hp : Nat.ble (Nat.add p 1) n = true) (h0 : byt x p = 1) : decode c p = .ok (.aconst_null, 1) := by
  refine dec_at ?_
  unfold Jvm.ClassFile.Decoder.instr
  refine (rb9 _ _ (u1_at (p := p) (BY_0 hB 0 (by have := Nat.le_of_ble_eq_true hp; simp only [Nat.add_eq] at this; omega) h0))).trans ?_
  rfl
set_option maxRecDepth 100000 in
theorem D_2 {c : ByteArray} {n x p : Nat} (hB : BYS c n x) (hp : Nat.ble (Nat.add p 1) n = true) (h0 : byt x p = 2) : decode c p = .ok (.iconst (-1), 1) := by
  refine dec_at ?_
  unfold Jvm.ClassFile.Decoder.instr
  refine (rb9 _ _ (u1_at (p := p) (BY_0 hB 0 (by have := Nat.le_of_ble_eq_true hp; simp only [Nat.add_eq] at this; omega) h0))).trans ?_
  rfl
set_option maxRecDepth 100000 in
theorem D_3 {c : ByteArray} {n x p : Nat} (hB : BYS c n x) (hp : Nat.ble (Nat.add p 1) n = true) (h0 : byt x p = 3) : decode c p = .ok (.iconst 0, 1) := by
  refine dec_at ?_
  unfold Jvm.ClassFile.Decoder.instr
  refine (rb9 _ _ (u1_at (p := p) (BY_0 hB 0 (by have := Nat.le_of_ble_eq_true hp; simp only [Nat.add_eq] at this; omega) h0))).trans ?_
  rfl
set_option maxRecDepth 100000 in
theorem D_4 {c : ByteArray} {n x p : Nat} (hB : BYS c n x) (hp : Nat.ble (Nat.add p 1) n = true) (h0 : byt x p = 4) : decode c p = .ok (.iconst 1, 1) := by
  refine dec_at ?_
  unfold Jvm.ClassFile.Decoder.instr
  refine (rb9 _ _ (u1_at (p := p) (BY_0 hB 0 (by have := Nat.le_of_ble_eq_true hp; simp only [Nat.add_eq] at this; omega) h0))).trans ?_
  rfl
set_option maxRecDepth 100000 in
theorem D_5 {c : ByteArray} {n x p : Nat} (hB : BYS c n x) (hp : Nat.ble (Nat.add p 1) n = true) (h0 : byt x p = 5) : decode c p = .ok (.iconst 2, 1) := by
  refine dec_at ?_
  unfold Jvm.ClassFile.Decoder.instr
  refine (rb9 _ _ (u1_at (p := p) (BY_0 hB 0 (by have := Nat.le_of_ble_eq_true hp; simp only [Nat.add_eq] at this; omega) h0))).trans ?_
  rfl
set_option maxRecDepth 100000 in
theorem D_6 {c : ByteArray} {n x p : Nat} (hB : BYS c n x) (hp : Nat.ble (Nat.add p 1) n = true) (h0 : byt x p = 6) : decode c p = .ok (.iconst 3, 1) := by
  refine dec_at ?_
  unfold Jvm.ClassFile.Decoder.instr
  refine (rb9 _ _ (u1_at (p := p) (BY_0 hB 0 (by have := Nat.le_of_ble_eq_true hp; simp only [Nat.add_eq] at this; omega) h0))).trans ?_
  rfl
set_option maxRecDepth 100000 in
theorem D_7 {c : ByteArray} {n x p : Nat} (hB : BYS c n x) (hp : Nat.ble (Nat.add p 1) n = true) (h0 : byt x p = 7) : decode c p = .ok (.iconst 4, 1) := by
  refine dec_at ?_
  unfold Jvm.ClassFile.Decoder.instr
  refine (rb9 _ _ (u1_at (p := p) (BY_0 hB 0 (by have := Nat.le_of_ble_eq_true hp; simp only [Nat.add_eq] at this; omega) h0))).trans ?_
  rfl
set_option maxRecDepth 100000 in
theorem D_8 {c : ByteArray} {n x p : Nat} (hB : BYS c n x) (hp : Nat.ble (Nat.add p 1) n = true) (h0 : byt x p = 8) : decode c p = .ok (.iconst 5, 1) := by
  refine dec_at ?_
  unfold Jvm.ClassFile.Decoder.instr
  refine (rb9 _ _ (u1_at (p := p) (BY_0 hB 0 (by have := Nat.le_of_ble_eq_true hp; simp only [Nat.add_eq] at this; omega) h0))).trans ?_
  rfl
set_option maxRecDepth 100000 in
theorem D_9 {c : ByteArray} {n x p : Nat} (hB : BYS c n x) (hp : Nat.ble (Nat.add p 1) n = true) (h0 : byt x p = 9) : decode c p = .ok (.lconst 0, 1) := by
  refine dec_at ?_
  unfold Jvm.ClassFile.Decoder.instr
  refine (rb9 _ _ (u1_at (p := p) (BY_0 hB 0 (by have := Nat.le_of_ble_eq_true hp; simp only [Nat.add_eq] at this; omega) h0))).trans ?_
  rfl
set_option maxRecDepth 100000 in
theorem D_10 {c : ByteArray} {n x p : Nat} (hB : BYS c n x) (hp : Nat.ble (Nat.add p 1) n = true) (h0 : byt x p = 10) : decode c p = .ok (.lconst 1, 1) := by
  refine dec_at ?_
  unfold Jvm.ClassFile.Decoder.instr
  refine (rb9 _ _ (u1_at (p := p) (BY_0 hB 0 (by have := Nat.le_of_ble_eq_true hp; simp only [Nat.add_eq] at this; omega) h0))).trans ?_
  rfl
set_option maxRecDepth 100000 in
theorem D_26 {c : ByteArray} {n x p : Nat} (hB : BYS c n x) (hp : Nat.ble (Nat.add p 1) n = true) (h0 : byt x p = 26) : decode c p = .ok (.iload_n 0, 1) := by
  refine dec_at ?_
  unfold Jvm.ClassFile.Decoder.instr
  refine (rb9 _ _ (u1_at (p := p) (BY_0 hB 0 (by have := Nat.le_of_ble_eq_true hp; simp only [Nat.add_eq] at this; omega) h0))).trans ?_
  rfl
set_option maxRecDepth 100000 in
theorem D_27 {c : ByteArray} {n x p : Nat} (hB : BYS c n x) (hp : Nat.ble (Nat.add p 1) n = true) (h0 : byt x p = 27) : decode c p = .ok (.iload_n 1, 1) := by
  refine dec_at ?_
  unfold Jvm.ClassFile.Decoder.instr
  refine (rb9 _ _ (u1_at (p := p) (BY_0 hB 0 (by have := Nat.le_of_ble_eq_true hp; simp only [Nat.add_eq] at this; omega) h0))).trans ?_
  rfl
set_option maxRecDepth 100000 in
theorem D_28 {c : ByteArray} {n x p : Nat} (hB : BYS c n x) (hp : Nat.ble (Nat.add p 1) n = true) (h0 : byt x p = 28) : decode c p = .ok (.iload_n 2, 1) := by
  refine dec_at ?_
  unfold Jvm.ClassFile.Decoder.instr
  refine (rb9 _ _ (u1_at (p := p) (BY_0 hB 0 (by have := Nat.le_of_ble_eq_true hp; simp only [Nat.add_eq] at this; omega) h0))).trans ?_
  rfl
set_option maxRecDepth 100000 in
theorem D_29 {c : ByteArray} {n x p : Nat} (hB : BYS c n x) (hp : Nat.ble (Nat.add p 1) n = true) (h0 : byt x p = 29) : decode c p = .ok (.iload_n 3, 1) := by
  refine dec_at ?_
  unfold Jvm.ClassFile.Decoder.instr
  refine (rb9 _ _ (u1_at (p := p) (BY_0 hB 0 (by have := Nat.le_of_ble_eq_true hp; simp only [Nat.add_eq] at this; omega) h0))).trans ?_
  rfl
set_option maxRecDepth 100000 in
theorem D_30 {c : ByteArray} {n x p : Nat} (hB : BYS c n x) (hp : Nat.ble (Nat.add p 1) n = true) (h0 : byt x p = 30) : decode c p = .ok (.lload_n 0, 1) := by
  refine dec_at ?_
  unfold Jvm.ClassFile.Decoder.instr
  refine (rb9 _ _ (u1_at (p := p) (BY_0 hB 0 (by have := Nat.le_of_ble_eq_true hp; simp only [Nat.add_eq] at this; omega) h0))).trans ?_
  rfl
set_option maxRecDepth 100000 in
theorem D_31 {c : ByteArray} {n x p : Nat} (hB : BYS c n x) (hp : Nat.ble (Nat.add p 1) n = true) (h0 : byt x p = 31) : decode c p = .ok (.lload_n 1, 1) := by
  refine dec_at ?_
  unfold Jvm.ClassFile.Decoder.instr
  refine (rb9 _ _ (u1_at (p := p) (BY_0 hB 0 (by have := Nat.le_of_ble_eq_true hp; simp only [Nat.add_eq] at this; omega) h0))).trans ?_
  rfl
set_option maxRecDepth 100000 in
theorem D_32 {c : ByteArray} {n x p : Nat} (hB : BYS c n x) (hp : Nat.ble (Nat.add p 1) n = true) (h0 : byt x p = 32) : decode c p = .ok (.lload_n 2, 1) := by
  refine dec_at ?_
  unfold Jvm.ClassFile.Decoder.instr
  refine (rb9 _ _ (u1_at (p := p) (BY_0 hB 0 (by have := Nat.le_of_ble_eq_true hp; simp only [Nat.add_eq] at this; omega) h0))).trans ?_
  rfl
set_option maxRecDepth 100000 in
theorem D_33 {c : ByteArray} {n x p : Nat} (hB : BYS c n x) (hp : Nat.ble (Nat.add p 1) n = true) (h0 : byt x p = 33) : decode c p = .ok (.lload_n 3, 1) := by
  refine dec_at ?_
  unfold Jvm.ClassFile.Decoder.instr
  refine (rb9 _ _ (u1_at (p := p) (BY_0 hB 0 (by have := Nat.le_of_ble_eq_true hp; simp only [Nat.add_eq] at this; omega) h0))).trans ?_
  rfl
set_option maxRecDepth 100000 in
theorem D_42 {c : ByteArray} {n x p : Nat} (hB : BYS c n x) (hp : Nat.ble (Nat.add p 1) n = true) (h0 : byt x p = 42) : decode c p = .ok (.aload_n 0, 1) := by
  refine dec_at ?_
  unfold Jvm.ClassFile.Decoder.instr
  refine (rb9 _ _ (u1_at (p := p) (BY_0 hB 0 (by have := Nat.le_of_ble_eq_true hp; simp only [Nat.add_eq] at this; omega) h0))).trans ?_
  rfl
set_option maxRecDepth 100000 in
theorem D_43 {c : ByteArray} {n x p : Nat} (hB : BYS c n x) (hp : Nat.ble (Nat.add p 1) n = true) (h0 : byt x p = 43) : decode c p = .ok (.aload_n 1, 1) := by
  refine dec_at ?_
  unfold Jvm.ClassFile.Decoder.instr
  refine (rb9 _ _ (u1_at (p := p) (BY_0 hB 0 (by have := Nat.le_of_ble_eq_true hp; simp only [Nat.add_eq] at this; omega) h0))).trans ?_
  rfl
set_option maxRecDepth 100000 in
theorem D_44 {c : ByteArray} {n x p : Nat} (hB : BYS c n x) (hp : Nat.ble (Nat.add p 1) n = true) (h0 : byt x p = 44) : decode c p = .ok (.aload_n 2, 1) := by
  refine dec_at ?_
  unfold Jvm.ClassFile.Decoder.instr
  refine (rb9 _ _ (u1_at (p := p) (BY_0 hB 0 (by have := Nat.le_of_ble_eq_true hp; simp only [Nat.add_eq] at this; omega) h0))).trans ?_
  rfl
set_option maxRecDepth 100000 in
theorem D_45 {c : ByteArray} {n x p : Nat} (hB : BYS c n x) (hp : Nat.ble (Nat.add p 1) n = true) (h0 : byt x p = 45) : decode c p = .ok (.aload_n 3, 1) := by
  refine dec_at ?_
  unfold Jvm.ClassFile.Decoder.instr
  refine (rb9 _ _ (u1_at (p := p) (BY_0 hB 0 (by have := Nat.le_of_ble_eq_true hp; simp only [Nat.add_eq] at this; omega) h0))).trans ?_
  rfl
set_option maxRecDepth 100000 in
theorem D_46 {c : ByteArray} {n x p : Nat} (hB : BYS c n x) (hp : Nat.ble (Nat.add p 1) n = true) (h0 : byt x p = 46) : decode c p = .ok (.iaload, 1) := by
  refine dec_at ?_
  unfold Jvm.ClassFile.Decoder.instr
  refine (rb9 _ _ (u1_at (p := p) (BY_0 hB 0 (by have := Nat.le_of_ble_eq_true hp; simp only [Nat.add_eq] at this; omega) h0))).trans ?_
  rfl
set_option maxRecDepth 100000 in
theorem D_47 {c : ByteArray} {n x p : Nat} (hB : BYS c n x) (hp : Nat.ble (Nat.add p 1) n = true) (h0 : byt x p = 47) : decode c p = .ok (.laload, 1) := by
  refine dec_at ?_
  unfold Jvm.ClassFile.Decoder.instr
  refine (rb9 _ _ (u1_at (p := p) (BY_0 hB 0 (by have := Nat.le_of_ble_eq_true hp; simp only [Nat.add_eq] at this; omega) h0))).trans ?_
  rfl
set_option maxRecDepth 100000 in
theorem D_50 {c : ByteArray} {n x p : Nat} (hB : BYS c n x) (hp : Nat.ble (Nat.add p 1) n = true) (h0 : byt x p = 50) : decode c p = .ok (.aaload, 1) := by
  refine dec_at ?_
  unfold Jvm.ClassFile.Decoder.instr
  refine (rb9 _ _ (u1_at (p := p) (BY_0 hB 0 (by have := Nat.le_of_ble_eq_true hp; simp only [Nat.add_eq] at this; omega) h0))).trans ?_
  rfl
set_option maxRecDepth 100000 in
theorem D_59 {c : ByteArray} {n x p : Nat} (hB : BYS c n x) (hp : Nat.ble (Nat.add p 1) n = true) (h0 : byt x p = 59) : decode c p = .ok (.istore_n 0, 1) := by
  refine dec_at ?_
  unfold Jvm.ClassFile.Decoder.instr
  refine (rb9 _ _ (u1_at (p := p) (BY_0 hB 0 (by have := Nat.le_of_ble_eq_true hp; simp only [Nat.add_eq] at this; omega) h0))).trans ?_
  rfl
set_option maxRecDepth 100000 in
theorem D_60 {c : ByteArray} {n x p : Nat} (hB : BYS c n x) (hp : Nat.ble (Nat.add p 1) n = true) (h0 : byt x p = 60) : decode c p = .ok (.istore_n 1, 1) := by
  refine dec_at ?_
  unfold Jvm.ClassFile.Decoder.instr
  refine (rb9 _ _ (u1_at (p := p) (BY_0 hB 0 (by have := Nat.le_of_ble_eq_true hp; simp only [Nat.add_eq] at this; omega) h0))).trans ?_
  rfl
set_option maxRecDepth 100000 in
theorem D_61 {c : ByteArray} {n x p : Nat} (hB : BYS c n x) (hp : Nat.ble (Nat.add p 1) n = true) (h0 : byt x p = 61) : decode c p = .ok (.istore_n 2, 1) := by
  refine dec_at ?_
  unfold Jvm.ClassFile.Decoder.instr
  refine (rb9 _ _ (u1_at (p := p) (BY_0 hB 0 (by have := Nat.le_of_ble_eq_true hp; simp only [Nat.add_eq] at this; omega) h0))).trans ?_
  rfl
set_option maxRecDepth 100000 in
theorem D_62 {c : ByteArray} {n x p : Nat} (hB : BYS c n x) (hp : Nat.ble (Nat.add p 1) n = true) (h0 : byt x p = 62) : decode c p = .ok (.istore_n 3, 1) := by
  refine dec_at ?_
  unfold Jvm.ClassFile.Decoder.instr
  refine (rb9 _ _ (u1_at (p := p) (BY_0 hB 0 (by have := Nat.le_of_ble_eq_true hp; simp only [Nat.add_eq] at this; omega) h0))).trans ?_
  rfl
set_option maxRecDepth 100000 in
theorem D_63 {c : ByteArray} {n x p : Nat} (hB : BYS c n x) (hp : Nat.ble (Nat.add p 1) n = true) (h0 : byt x p = 63) : decode c p = .ok (.lstore_n 0, 1) := by
  refine dec_at ?_
  unfold Jvm.ClassFile.Decoder.instr
  refine (rb9 _ _ (u1_at (p := p) (BY_0 hB 0 (by have := Nat.le_of_ble_eq_true hp; simp only [Nat.add_eq] at this; omega) h0))).trans ?_
  rfl
set_option maxRecDepth 100000 in
theorem D_64 {c : ByteArray} {n x p : Nat} (hB : BYS c n x) (hp : Nat.ble (Nat.add p 1) n = true) (h0 : byt x p = 64) : decode c p = .ok (.lstore_n 1, 1) := by
  refine dec_at ?_
  unfold Jvm.ClassFile.Decoder.instr
  refine (rb9 _ _ (u1_at (p := p) (BY_0 hB 0 (by have := Nat.le_of_ble_eq_true hp; simp only [Nat.add_eq] at this; omega) h0))).trans ?_
  rfl
set_option maxRecDepth 100000 in
theorem D_65 {c : ByteArray} {n x p : Nat} (hB : BYS c n x) (hp : Nat.ble (Nat.add p 1) n = true) (h0 : byt x p = 65) : decode c p = .ok (.lstore_n 2, 1) := by
  refine dec_at ?_
  unfold Jvm.ClassFile.Decoder.instr
  refine (rb9 _ _ (u1_at (p := p) (BY_0 hB 0 (by have := Nat.le_of_ble_eq_true hp; simp only [Nat.add_eq] at this; omega) h0))).trans ?_
  rfl
set_option maxRecDepth 100000 in
theorem D_66 {c : ByteArray} {n x p : Nat} (hB : BYS c n x) (hp : Nat.ble (Nat.add p 1) n = true) (h0 : byt x p = 66) : decode c p = .ok (.lstore_n 3, 1) := by
  refine dec_at ?_
  unfold Jvm.ClassFile.Decoder.instr
  refine (rb9 _ _ (u1_at (p := p) (BY_0 hB 0 (by have := Nat.le_of_ble_eq_true hp; simp only [Nat.add_eq] at this; omega) h0))).trans ?_
  rfl
set_option maxRecDepth 100000 in
theorem D_75 {c : ByteArray} {n x p : Nat} (hB : BYS c n x) (hp : Nat.ble (Nat.add p 1) n = true) (h0 : byt x p = 75) : decode c p = .ok (.astore_n 0, 1) := by
  refine dec_at ?_
  unfold Jvm.ClassFile.Decoder.instr
  refine (rb9 _ _ (u1_at (p := p) (BY_0 hB 0 (by have := Nat.le_of_ble_eq_true hp; simp only [Nat.add_eq] at this; omega) h0))).trans ?_
  rfl
set_option maxRecDepth 100000 in
theorem D_76 {c : ByteArray} {n x p : Nat} (hB : BYS c n x) (hp : Nat.ble (Nat.add p 1) n = true) (h0 : byt x p = 76) : decode c p = .ok (.astore_n 1, 1) := by
  refine dec_at ?_
  unfold Jvm.ClassFile.Decoder.instr
  refine (rb9 _ _ (u1_at (p := p) (BY_0 hB 0 (by have := Nat.le_of_ble_eq_true hp; simp only [Nat.add_eq] at this; omega) h0))).trans ?_
  rfl
set_option maxRecDepth 100000 in
theorem D_77 {c : ByteArray} {n x p : Nat} (hB : BYS c n x) (hp : Nat.ble (Nat.add p 1) n = true) (h0 : byt x p = 77) : decode c p = .ok (.astore_n 2, 1) := by
  refine dec_at ?_
  unfold Jvm.ClassFile.Decoder.instr
  refine (rb9 _ _ (u1_at (p := p) (BY_0 hB 0 (by have := Nat.le_of_ble_eq_true hp; simp only [Nat.add_eq] at this; omega) h0))).trans ?_
  rfl
set_option maxRecDepth 100000 in
theorem D_78 {c : ByteArray} {n x p : Nat} (hB : BYS c n x) (hp : Nat.ble (Nat.add p 1) n = true) (h0 : byt x p = 78) : decode c p = .ok (.astore_n 3, 1) := by
  refine dec_at ?_
  unfold Jvm.ClassFile.Decoder.instr
  refine (rb9 _ _ (u1_at (p := p) (BY_0 hB 0 (by have := Nat.le_of_ble_eq_true hp; simp only [Nat.add_eq] at this; omega) h0))).trans ?_
  rfl
set_option maxRecDepth 100000 in
theorem D_79 {c : ByteArray} {n x p : Nat} (hB : BYS c n x) (hp : Nat.ble (Nat.add p 1) n = true) (h0 : byt x p = 79) : decode c p = .ok (.iastore, 1) := by
  refine dec_at ?_
  unfold Jvm.ClassFile.Decoder.instr
  refine (rb9 _ _ (u1_at (p := p) (BY_0 hB 0 (by have := Nat.le_of_ble_eq_true hp; simp only [Nat.add_eq] at this; omega) h0))).trans ?_
  rfl
set_option maxRecDepth 100000 in
theorem D_80 {c : ByteArray} {n x p : Nat} (hB : BYS c n x) (hp : Nat.ble (Nat.add p 1) n = true) (h0 : byt x p = 80) : decode c p = .ok (.lastore, 1) := by
  refine dec_at ?_
  unfold Jvm.ClassFile.Decoder.instr
  refine (rb9 _ _ (u1_at (p := p) (BY_0 hB 0 (by have := Nat.le_of_ble_eq_true hp; simp only [Nat.add_eq] at this; omega) h0))).trans ?_
  rfl
set_option maxRecDepth 100000 in
theorem D_83 {c : ByteArray} {n x p : Nat} (hB : BYS c n x) (hp : Nat.ble (Nat.add p 1) n = true) (h0 : byt x p = 83) : decode c p = .ok (.aastore, 1) := by
  refine dec_at ?_
  unfold Jvm.ClassFile.Decoder.instr
  refine (rb9 _ _ (u1_at (p := p) (BY_0 hB 0 (by have := Nat.le_of_ble_eq_true hp; simp only [Nat.add_eq] at this; omega) h0))).trans ?_
  rfl
set_option maxRecDepth 100000 in
theorem D_87 {c : ByteArray} {n x p : Nat} (hB : BYS c n x) (hp : Nat.ble (Nat.add p 1) n = true) (h0 : byt x p = 87) : decode c p = .ok (.pop, 1) := by
  refine dec_at ?_
  unfold Jvm.ClassFile.Decoder.instr
  refine (rb9 _ _ (u1_at (p := p) (BY_0 hB 0 (by have := Nat.le_of_ble_eq_true hp; simp only [Nat.add_eq] at this; omega) h0))).trans ?_
  rfl
set_option maxRecDepth 100000 in
theorem D_89 {c : ByteArray} {n x p : Nat} (hB : BYS c n x) (hp : Nat.ble (Nat.add p 1) n = true) (h0 : byt x p = 89) : decode c p = .ok (.dup, 1) := by
  refine dec_at ?_
  unfold Jvm.ClassFile.Decoder.instr
  refine (rb9 _ _ (u1_at (p := p) (BY_0 hB 0 (by have := Nat.le_of_ble_eq_true hp; simp only [Nat.add_eq] at this; omega) h0))).trans ?_
  rfl
set_option maxRecDepth 100000 in
theorem D_92 {c : ByteArray} {n x p : Nat} (hB : BYS c n x) (hp : Nat.ble (Nat.add p 1) n = true) (h0 : byt x p = 92) : decode c p = .ok (.dup2, 1) := by
  refine dec_at ?_
  unfold Jvm.ClassFile.Decoder.instr
  refine (rb9 _ _ (u1_at (p := p) (BY_0 hB 0 (by have := Nat.le_of_ble_eq_true hp; simp only [Nat.add_eq] at this; omega) h0))).trans ?_
  rfl
set_option maxRecDepth 100000 in
theorem D_96 {c : ByteArray} {n x p : Nat} (hB : BYS c n x) (hp : Nat.ble (Nat.add p 1) n = true) (h0 : byt x p = 96) : decode c p = .ok (.iadd, 1) := by
  refine dec_at ?_
  unfold Jvm.ClassFile.Decoder.instr
  refine (rb9 _ _ (u1_at (p := p) (BY_0 hB 0 (by have := Nat.le_of_ble_eq_true hp; simp only [Nat.add_eq] at this; omega) h0))).trans ?_
  rfl
set_option maxRecDepth 100000 in
theorem D_100 {c : ByteArray} {n x p : Nat} (hB : BYS c n x) (hp : Nat.ble (Nat.add p 1) n = true) (h0 : byt x p = 100) : decode c p = .ok (.isub, 1) := by
  refine dec_at ?_
  unfold Jvm.ClassFile.Decoder.instr
  refine (rb9 _ _ (u1_at (p := p) (BY_0 hB 0 (by have := Nat.le_of_ble_eq_true hp; simp only [Nat.add_eq] at this; omega) h0))).trans ?_
  rfl
set_option maxRecDepth 100000 in
theorem D_104 {c : ByteArray} {n x p : Nat} (hB : BYS c n x) (hp : Nat.ble (Nat.add p 1) n = true) (h0 : byt x p = 104) : decode c p = .ok (.imul, 1) := by
  refine dec_at ?_
  unfold Jvm.ClassFile.Decoder.instr
  refine (rb9 _ _ (u1_at (p := p) (BY_0 hB 0 (by have := Nat.le_of_ble_eq_true hp; simp only [Nat.add_eq] at this; omega) h0))).trans ?_
  rfl
set_option maxRecDepth 100000 in
theorem D_108 {c : ByteArray} {n x p : Nat} (hB : BYS c n x) (hp : Nat.ble (Nat.add p 1) n = true) (h0 : byt x p = 108) : decode c p = .ok (.idiv, 1) := by
  refine dec_at ?_
  unfold Jvm.ClassFile.Decoder.instr
  refine (rb9 _ _ (u1_at (p := p) (BY_0 hB 0 (by have := Nat.le_of_ble_eq_true hp; simp only [Nat.add_eq] at this; omega) h0))).trans ?_
  rfl
set_option maxRecDepth 100000 in
theorem D_112 {c : ByteArray} {n x p : Nat} (hB : BYS c n x) (hp : Nat.ble (Nat.add p 1) n = true) (h0 : byt x p = 112) : decode c p = .ok (.irem, 1) := by
  refine dec_at ?_
  unfold Jvm.ClassFile.Decoder.instr
  refine (rb9 _ _ (u1_at (p := p) (BY_0 hB 0 (by have := Nat.le_of_ble_eq_true hp; simp only [Nat.add_eq] at this; omega) h0))).trans ?_
  rfl
set_option maxRecDepth 100000 in
theorem D_116 {c : ByteArray} {n x p : Nat} (hB : BYS c n x) (hp : Nat.ble (Nat.add p 1) n = true) (h0 : byt x p = 116) : decode c p = .ok (.ineg, 1) := by
  refine dec_at ?_
  unfold Jvm.ClassFile.Decoder.instr
  refine (rb9 _ _ (u1_at (p := p) (BY_0 hB 0 (by have := Nat.le_of_ble_eq_true hp; simp only [Nat.add_eq] at this; omega) h0))).trans ?_
  rfl
set_option maxRecDepth 100000 in
theorem D_120 {c : ByteArray} {n x p : Nat} (hB : BYS c n x) (hp : Nat.ble (Nat.add p 1) n = true) (h0 : byt x p = 120) : decode c p = .ok (.ishl, 1) := by
  refine dec_at ?_
  unfold Jvm.ClassFile.Decoder.instr
  refine (rb9 _ _ (u1_at (p := p) (BY_0 hB 0 (by have := Nat.le_of_ble_eq_true hp; simp only [Nat.add_eq] at this; omega) h0))).trans ?_
  rfl
set_option maxRecDepth 100000 in
theorem D_122 {c : ByteArray} {n x p : Nat} (hB : BYS c n x) (hp : Nat.ble (Nat.add p 1) n = true) (h0 : byt x p = 122) : decode c p = .ok (.ishr, 1) := by
  refine dec_at ?_
  unfold Jvm.ClassFile.Decoder.instr
  refine (rb9 _ _ (u1_at (p := p) (BY_0 hB 0 (by have := Nat.le_of_ble_eq_true hp; simp only [Nat.add_eq] at this; omega) h0))).trans ?_
  rfl
set_option maxRecDepth 100000 in
theorem D_124 {c : ByteArray} {n x p : Nat} (hB : BYS c n x) (hp : Nat.ble (Nat.add p 1) n = true) (h0 : byt x p = 124) : decode c p = .ok (.iushr, 1) := by
  refine dec_at ?_
  unfold Jvm.ClassFile.Decoder.instr
  refine (rb9 _ _ (u1_at (p := p) (BY_0 hB 0 (by have := Nat.le_of_ble_eq_true hp; simp only [Nat.add_eq] at this; omega) h0))).trans ?_
  rfl
set_option maxRecDepth 100000 in
theorem D_126 {c : ByteArray} {n x p : Nat} (hB : BYS c n x) (hp : Nat.ble (Nat.add p 1) n = true) (h0 : byt x p = 126) : decode c p = .ok (.iand, 1) := by
  refine dec_at ?_
  unfold Jvm.ClassFile.Decoder.instr
  refine (rb9 _ _ (u1_at (p := p) (BY_0 hB 0 (by have := Nat.le_of_ble_eq_true hp; simp only [Nat.add_eq] at this; omega) h0))).trans ?_
  rfl
set_option maxRecDepth 100000 in
theorem D_128 {c : ByteArray} {n x p : Nat} (hB : BYS c n x) (hp : Nat.ble (Nat.add p 1) n = true) (h0 : byt x p = 128) : decode c p = .ok (.ior, 1) := by
  refine dec_at ?_
  unfold Jvm.ClassFile.Decoder.instr
  refine (rb9 _ _ (u1_at (p := p) (BY_0 hB 0 (by have := Nat.le_of_ble_eq_true hp; simp only [Nat.add_eq] at this; omega) h0))).trans ?_
  rfl
set_option maxRecDepth 100000 in
theorem D_133 {c : ByteArray} {n x p : Nat} (hB : BYS c n x) (hp : Nat.ble (Nat.add p 1) n = true) (h0 : byt x p = 133) : decode c p = .ok (.i2l, 1) := by
  refine dec_at ?_
  unfold Jvm.ClassFile.Decoder.instr
  refine (rb9 _ _ (u1_at (p := p) (BY_0 hB 0 (by have := Nat.le_of_ble_eq_true hp; simp only [Nat.add_eq] at this; omega) h0))).trans ?_
  rfl
set_option maxRecDepth 100000 in
theorem D_145 {c : ByteArray} {n x p : Nat} (hB : BYS c n x) (hp : Nat.ble (Nat.add p 1) n = true) (h0 : byt x p = 145) : decode c p = .ok (.i2b, 1) := by
  refine dec_at ?_
  unfold Jvm.ClassFile.Decoder.instr
  refine (rb9 _ _ (u1_at (p := p) (BY_0 hB 0 (by have := Nat.le_of_ble_eq_true hp; simp only [Nat.add_eq] at this; omega) h0))).trans ?_
  rfl
set_option maxRecDepth 100000 in
theorem D_147 {c : ByteArray} {n x p : Nat} (hB : BYS c n x) (hp : Nat.ble (Nat.add p 1) n = true) (h0 : byt x p = 147) : decode c p = .ok (.i2s, 1) := by
  refine dec_at ?_
  unfold Jvm.ClassFile.Decoder.instr
  refine (rb9 _ _ (u1_at (p := p) (BY_0 hB 0 (by have := Nat.le_of_ble_eq_true hp; simp only [Nat.add_eq] at this; omega) h0))).trans ?_
  rfl
set_option maxRecDepth 100000 in
theorem D_148 {c : ByteArray} {n x p : Nat} (hB : BYS c n x) (hp : Nat.ble (Nat.add p 1) n = true) (h0 : byt x p = 148) : decode c p = .ok (.lcmp, 1) := by
  refine dec_at ?_
  unfold Jvm.ClassFile.Decoder.instr
  refine (rb9 _ _ (u1_at (p := p) (BY_0 hB 0 (by have := Nat.le_of_ble_eq_true hp; simp only [Nat.add_eq] at this; omega) h0))).trans ?_
  rfl
set_option maxRecDepth 100000 in
theorem D_172 {c : ByteArray} {n x p : Nat} (hB : BYS c n x) (hp : Nat.ble (Nat.add p 1) n = true) (h0 : byt x p = 172) : decode c p = .ok (.ireturn, 1) := by
  refine dec_at ?_
  unfold Jvm.ClassFile.Decoder.instr
  refine (rb9 _ _ (u1_at (p := p) (BY_0 hB 0 (by have := Nat.le_of_ble_eq_true hp; simp only [Nat.add_eq] at this; omega) h0))).trans ?_
  rfl
set_option maxRecDepth 100000 in
theorem D_173 {c : ByteArray} {n x p : Nat} (hB : BYS c n x) (hp : Nat.ble (Nat.add p 1) n = true) (h0 : byt x p = 173) : decode c p = .ok (.lreturn, 1) := by
  refine dec_at ?_
  unfold Jvm.ClassFile.Decoder.instr
  refine (rb9 _ _ (u1_at (p := p) (BY_0 hB 0 (by have := Nat.le_of_ble_eq_true hp; simp only [Nat.add_eq] at this; omega) h0))).trans ?_
  rfl
set_option maxRecDepth 100000 in
theorem D_176 {c : ByteArray} {n x p : Nat} (hB : BYS c n x) (hp : Nat.ble (Nat.add p 1) n = true) (h0 : byt x p = 176) : decode c p = .ok (.areturn, 1) := by
  refine dec_at ?_
  unfold Jvm.ClassFile.Decoder.instr
  refine (rb9 _ _ (u1_at (p := p) (BY_0 hB 0 (by have := Nat.le_of_ble_eq_true hp; simp only [Nat.add_eq] at this; omega) h0))).trans ?_
  rfl
set_option maxRecDepth 100000 in
theorem D_177 {c : ByteArray} {n x p : Nat} (hB : BYS c n x) (hp : Nat.ble (Nat.add p 1) n = true) (h0 : byt x p = 177) : decode c p = .ok (.return_, 1) := by
  refine dec_at ?_
  unfold Jvm.ClassFile.Decoder.instr
  refine (rb9 _ _ (u1_at (p := p) (BY_0 hB 0 (by have := Nat.le_of_ble_eq_true hp; simp only [Nat.add_eq] at this; omega) h0))).trans ?_
  rfl
set_option maxRecDepth 100000 in
theorem D_190 {c : ByteArray} {n x p : Nat} (hB : BYS c n x) (hp : Nat.ble (Nat.add p 1) n = true) (h0 : byt x p = 190) : decode c p = .ok (.arraylength, 1) := by
  refine dec_at ?_
  unfold Jvm.ClassFile.Decoder.instr
  refine (rb9 _ _ (u1_at (p := p) (BY_0 hB 0 (by have := Nat.le_of_ble_eq_true hp; simp only [Nat.add_eq] at this; omega) h0))).trans ?_
  rfl
set_option maxRecDepth 100000 in
theorem D_191 {c : ByteArray} {n x p : Nat} (hB : BYS c n x) (hp : Nat.ble (Nat.add p 1) n = true) (h0 : byt x p = 191) : decode c p = .ok (.athrow, 1) := by
  refine dec_at ?_
  unfold Jvm.ClassFile.Decoder.instr
  refine (rb9 _ _ (u1_at (p := p) (BY_0 hB 0 (by have := Nat.le_of_ble_eq_true hp; simp only [Nat.add_eq] at this; omega) h0))).trans ?_
  rfl
set_option maxRecDepth 100000 in
theorem D_18 {c : ByteArray} {n x p : Nat} (hB : BYS c n x) {N : Nat} (hp : Nat.ble (Nat.add p 2) n = true) (h0 : byt x p = 18) (h1 : byt x (Nat.add p 1) = N) : decode c p = .ok (.ldc N, 2) := by
  refine dec_at ?_
  unfold Jvm.ClassFile.Decoder.instr
  refine (rb9 _ _ (u1_at (p := p) (BY_0 hB 0 (by have := Nat.le_of_ble_eq_true hp; simp only [Nat.add_eq] at this; omega) h0))).trans ?_
  exact rb9 _ _ (u1_at (BY_0 hB 1 (by have := Nat.le_of_ble_eq_true hp; simp only [Nat.add_eq] at this; omega) h1))
set_option maxRecDepth 100000 in
theorem D_21 {c : ByteArray} {n x p : Nat} (hB : BYS c n x) {N : Nat} (hp : Nat.ble (Nat.add p 2) n = true) (h0 : byt x p = 21) (h1 : byt x (Nat.add p 1) = N) : decode c p = .ok (.iload N, 2) := by
  refine dec_at ?_
  unfold Jvm.ClassFile.Decoder.instr
  refine (rb9 _ _ (u1_at (p := p) (BY_0 hB 0 (by have := Nat.le_of_ble_eq_true hp; simp only [Nat.add_eq] at this; omega) h0))).trans ?_
  exact rb9 _ _ (u1_at (BY_0 hB 1 (by have := Nat.le_of_ble_eq_true hp; simp only [Nat.add_eq] at this; omega) h1))
set_option maxRecDepth 100000 in
theorem D_22 {c : ByteArray} {n x p : Nat} (hB : BYS c n x) {N : Nat} (hp : Nat.ble (Nat.add p 2) n = true) (h0 : byt x p = 22) (h1 : byt x (Nat.add p 1) = N) : decode c p = .ok (.lload N, 2) := by
  refine dec_at ?_
  unfold Jvm.ClassFile.Decoder.instr
  refine (rb9 _ _ (u1_at (p := p) (BY_0 hB 0 (by have := Nat.le_of_ble_eq_true hp; simp only [Nat.add_eq] at this; omega) h0))).trans ?_
  exact rb9 _ _ (u1_at (BY_0 hB 1 (by have := Nat.le_of_ble_eq_true hp; simp only [Nat.add_eq] at this; omega) h1))
set_option maxRecDepth 100000 in
theorem D_25 {c : ByteArray} {n x p : Nat} (hB : BYS c n x) {N : Nat} (hp : Nat.ble (Nat.add p 2) n = true) (h0 : byt x p = 25) (h1 : byt x (Nat.add p 1) = N) : decode c p = .ok (.aload N, 2) := by
  refine dec_at ?_
  unfold Jvm.ClassFile.Decoder.instr
  refine (rb9 _ _ (u1_at (p := p) (BY_0 hB 0 (by have := Nat.le_of_ble_eq_true hp; simp only [Nat.add_eq] at this; omega) h0))).trans ?_
  exact rb9 _ _ (u1_at (BY_0 hB 1 (by have := Nat.le_of_ble_eq_true hp; simp only [Nat.add_eq] at this; omega) h1))
set_option maxRecDepth 100000 in
theorem D_54 {c : ByteArray} {n x p : Nat} (hB : BYS c n x) {N : Nat} (hp : Nat.ble (Nat.add p 2) n = true) (h0 : byt x p = 54) (h1 : byt x (Nat.add p 1) = N) : decode c p = .ok (.istore N, 2) := by
  refine dec_at ?_
  unfold Jvm.ClassFile.Decoder.instr
  refine (rb9 _ _ (u1_at (p := p) (BY_0 hB 0 (by have := Nat.le_of_ble_eq_true hp; simp only [Nat.add_eq] at this; omega) h0))).trans ?_
  exact rb9 _ _ (u1_at (BY_0 hB 1 (by have := Nat.le_of_ble_eq_true hp; simp only [Nat.add_eq] at this; omega) h1))
set_option maxRecDepth 100000 in
theorem D_55 {c : ByteArray} {n x p : Nat} (hB : BYS c n x) {N : Nat} (hp : Nat.ble (Nat.add p 2) n = true) (h0 : byt x p = 55) (h1 : byt x (Nat.add p 1) = N) : decode c p = .ok (.lstore N, 2) := by
  refine dec_at ?_
  unfold Jvm.ClassFile.Decoder.instr
  refine (rb9 _ _ (u1_at (p := p) (BY_0 hB 0 (by have := Nat.le_of_ble_eq_true hp; simp only [Nat.add_eq] at this; omega) h0))).trans ?_
  exact rb9 _ _ (u1_at (BY_0 hB 1 (by have := Nat.le_of_ble_eq_true hp; simp only [Nat.add_eq] at this; omega) h1))
set_option maxRecDepth 100000 in
theorem D_58 {c : ByteArray} {n x p : Nat} (hB : BYS c n x) {N : Nat} (hp : Nat.ble (Nat.add p 2) n = true) (h0 : byt x p = 58) (h1 : byt x (Nat.add p 1) = N) : decode c p = .ok (.astore N, 2) := by
  refine dec_at ?_
  unfold Jvm.ClassFile.Decoder.instr
  refine (rb9 _ _ (u1_at (p := p) (BY_0 hB 0 (by have := Nat.le_of_ble_eq_true hp; simp only [Nat.add_eq] at this; omega) h0))).trans ?_
  exact rb9 _ _ (u1_at (BY_0 hB 1 (by have := Nat.le_of_ble_eq_true hp; simp only [Nat.add_eq] at this; omega) h1))
set_option maxRecDepth 100000 in
theorem D_19 {c : ByteArray} {n x p : Nat} (hB : BYS c n x) {N : Nat} (hp : Nat.ble (Nat.add p 3) n = true) (h0 : byt x p = 19) (h1 : Nat.add (Nat.mul (byt x (Nat.add p 1)) 256) (byt x (Nat.add p 2)) = N) : decode c p = .ok (.ldc_w N, 3) := by
  subst h1
  refine dec_at ?_
  unfold Jvm.ClassFile.Decoder.instr
  refine (rb9 _ _ (u1_at (p := p) (BY_0 hB 0 (by have := Nat.le_of_ble_eq_true hp; simp only [Nat.add_eq] at this; omega) h0))).trans ?_
  exact rb9 _ _ (u2_at (BY_0 hB 1 (by have := Nat.le_of_ble_eq_true hp; simp only [Nat.add_eq] at this; omega) rfl) (BY_0 hB 2 (by have := Nat.le_of_ble_eq_true hp; simp only [Nat.add_eq] at this; omega) rfl))
set_option maxRecDepth 100000 in
theorem D_20 {c : ByteArray} {n x p : Nat} (hB : BYS c n x) {N : Nat} (hp : Nat.ble (Nat.add p 3) n = true) (h0 : byt x p = 20) (h1 : Nat.add (Nat.mul (byt x (Nat.add p 1)) 256) (byt x (Nat.add p 2)) = N) : decode c p = .ok (.ldc2_w N, 3) := by
  subst h1
  refine dec_at ?_
  unfold Jvm.ClassFile.Decoder.instr
  refine (rb9 _ _ (u1_at (p := p) (BY_0 hB 0 (by have := Nat.le_of_ble_eq_true hp; simp only [Nat.add_eq] at this; omega) h0))).trans ?_
  exact rb9 _ _ (u2_at (BY_0 hB 1 (by have := Nat.le_of_ble_eq_true hp; simp only [Nat.add_eq] at this; omega) rfl) (BY_0 hB 2 (by have := Nat.le_of_ble_eq_true hp; simp only [Nat.add_eq] at this; omega) rfl))
set_option maxRecDepth 100000 in
theorem D_180 {c : ByteArray} {n x p : Nat} (hB : BYS c n x) {N : Nat} (hp : Nat.ble (Nat.add p 3) n = true) (h0 : byt x p = 180) (h1 : Nat.add (Nat.mul (byt x (Nat.add p 1)) 256) (byt x (Nat.add p 2)) = N) : decode c p = .ok (.getfield N, 3) := by
  subst h1
  refine dec_at ?_
  unfold Jvm.ClassFile.Decoder.instr
  refine (rb9 _ _ (u1_at (p := p) (BY_0 hB 0 (by have := Nat.le_of_ble_eq_true hp; simp only [Nat.add_eq] at this; omega) h0))).trans ?_
  exact rb9 _ _ (u2_at (BY_0 hB 1 (by have := Nat.le_of_ble_eq_true hp; simp only [Nat.add_eq] at this; omega) rfl) (BY_0 hB 2 (by have := Nat.le_of_ble_eq_true hp; simp only [Nat.add_eq] at this; omega) rfl))
set_option maxRecDepth 100000 in
theorem D_181 {c : ByteArray} {n x p : Nat} (hB : BYS c n x) {N : Nat} (hp : Nat.ble (Nat.add p 3) n = true) (h0 : byt x p = 181) (h1 : Nat.add (Nat.mul (byt x (Nat.add p 1)) 256) (byt x (Nat.add p 2)) = N) : decode c p = .ok (.putfield N, 3) := by
  subst h1
  refine dec_at ?_
  unfold Jvm.ClassFile.Decoder.instr
  refine (rb9 _ _ (u1_at (p := p) (BY_0 hB 0 (by have := Nat.le_of_ble_eq_true hp; simp only [Nat.add_eq] at this; omega) h0))).trans ?_
  exact rb9 _ _ (u2_at (BY_0 hB 1 (by have := Nat.le_of_ble_eq_true hp; simp only [Nat.add_eq] at this; omega) rfl) (BY_0 hB 2 (by have := Nat.le_of_ble_eq_true hp; simp only [Nat.add_eq] at this; omega) rfl))
set_option maxRecDepth 100000 in
theorem D_182 {c : ByteArray} {n x p : Nat} (hB : BYS c n x) {N : Nat} (hp : Nat.ble (Nat.add p 3) n = true) (h0 : byt x p = 182) (h1 : Nat.add (Nat.mul (byt x (Nat.add p 1)) 256) (byt x (Nat.add p 2)) = N) : decode c p = .ok (.invokevirtual N, 3) := by
  subst h1
  refine dec_at ?_
  unfold Jvm.ClassFile.Decoder.instr
  refine (rb9 _ _ (u1_at (p := p) (BY_0 hB 0 (by have := Nat.le_of_ble_eq_true hp; simp only [Nat.add_eq] at this; omega) h0))).trans ?_
  exact rb9 _ _ (u2_at (BY_0 hB 1 (by have := Nat.le_of_ble_eq_true hp; simp only [Nat.add_eq] at this; omega) rfl) (BY_0 hB 2 (by have := Nat.le_of_ble_eq_true hp; simp only [Nat.add_eq] at this; omega) rfl))
set_option maxRecDepth 100000 in
theorem D_183 {c : ByteArray} {n x p : Nat} (hB : BYS c n x) {N : Nat} (hp : Nat.ble (Nat.add p 3) n = true) (h0 : byt x p = 183) (h1 : Nat.add (Nat.mul (byt x (Nat.add p 1)) 256) (byt x (Nat.add p 2)) = N) : decode c p = .ok (.invokespecial N, 3) := by
  subst h1
  refine dec_at ?_
  unfold Jvm.ClassFile.Decoder.instr
  refine (rb9 _ _ (u1_at (p := p) (BY_0 hB 0 (by have := Nat.le_of_ble_eq_true hp; simp only [Nat.add_eq] at this; omega) h0))).trans ?_
  exact rb9 _ _ (u2_at (BY_0 hB 1 (by have := Nat.le_of_ble_eq_true hp; simp only [Nat.add_eq] at this; omega) rfl) (BY_0 hB 2 (by have := Nat.le_of_ble_eq_true hp; simp only [Nat.add_eq] at this; omega) rfl))
set_option maxRecDepth 100000 in
theorem D_184 {c : ByteArray} {n x p : Nat} (hB : BYS c n x) {N : Nat} (hp : Nat.ble (Nat.add p 3) n = true) (h0 : byt x p = 184) (h1 : Nat.add (Nat.mul (byt x (Nat.add p 1)) 256) (byt x (Nat.add p 2)) = N) : decode c p = .ok (.invokestatic N, 3) := by
  subst h1
  refine dec_at ?_
  unfold Jvm.ClassFile.Decoder.instr
  refine (rb9 _ _ (u1_at (p := p) (BY_0 hB 0 (by have := Nat.le_of_ble_eq_true hp; simp only [Nat.add_eq] at this; omega) h0))).trans ?_
  exact rb9 _ _ (u2_at (BY_0 hB 1 (by have := Nat.le_of_ble_eq_true hp; simp only [Nat.add_eq] at this; omega) rfl) (BY_0 hB 2 (by have := Nat.le_of_ble_eq_true hp; simp only [Nat.add_eq] at this; omega) rfl))
set_option maxRecDepth 100000 in
theorem D_187 {c : ByteArray} {n x p : Nat} (hB : BYS c n x) {N : Nat} (hp : Nat.ble (Nat.add p 3) n = true) (h0 : byt x p = 187) (h1 : Nat.add (Nat.mul (byt x (Nat.add p 1)) 256) (byt x (Nat.add p 2)) = N) : decode c p = .ok (.new N, 3) := by
  subst h1
  refine dec_at ?_
  unfold Jvm.ClassFile.Decoder.instr
  refine (rb9 _ _ (u1_at (p := p) (BY_0 hB 0 (by have := Nat.le_of_ble_eq_true hp; simp only [Nat.add_eq] at this; omega) h0))).trans ?_
  exact rb9 _ _ (u2_at (BY_0 hB 1 (by have := Nat.le_of_ble_eq_true hp; simp only [Nat.add_eq] at this; omega) rfl) (BY_0 hB 2 (by have := Nat.le_of_ble_eq_true hp; simp only [Nat.add_eq] at this; omega) rfl))
set_option maxRecDepth 100000 in
theorem D_189 {c : ByteArray} {n x p : Nat} (hB : BYS c n x) {N : Nat} (hp : Nat.ble (Nat.add p 3) n = true) (h0 : byt x p = 189) (h1 : Nat.add (Nat.mul (byt x (Nat.add p 1)) 256) (byt x (Nat.add p 2)) = N) : decode c p = .ok (.anewarray N, 3) := by
  subst h1
  refine dec_at ?_
  unfold Jvm.ClassFile.Decoder.instr
  refine (rb9 _ _ (u1_at (p := p) (BY_0 hB 0 (by have := Nat.le_of_ble_eq_true hp; simp only [Nat.add_eq] at this; omega) h0))).trans ?_
  exact rb9 _ _ (u2_at (BY_0 hB 1 (by have := Nat.le_of_ble_eq_true hp; simp only [Nat.add_eq] at this; omega) rfl) (BY_0 hB 2 (by have := Nat.le_of_ble_eq_true hp; simp only [Nat.add_eq] at this; omega) rfl))
set_option maxRecDepth 100000 in
theorem D_17 {c : ByteArray} {n x p : Nat} (hB : BYS c n x) {Z : Int} (hp : Nat.ble (Nat.add p 3) n = true) (h0 : byt x p = 17) (h1 : Jvm.ClassFile.Reader.signed 16 (Nat.add (Nat.mul (byt x (Nat.add p 1)) 256) (byt x (Nat.add p 2))) = Z) : decode c p = .ok (.sipush Z, 3) := by
  subst h1
  refine dec_at ?_
  unfold Jvm.ClassFile.Decoder.instr
  refine (rb9 _ _ (u1_at (p := p) (BY_0 hB 0 (by have := Nat.le_of_ble_eq_true hp; simp only [Nat.add_eq] at this; omega) h0))).trans ?_
  exact rb9 _ _ (s2_at (BY_0 hB 1 (by have := Nat.le_of_ble_eq_true hp; simp only [Nat.add_eq] at this; omega) rfl) (BY_0 hB 2 (by have := Nat.le_of_ble_eq_true hp; simp only [Nat.add_eq] at this; omega) rfl))
set_option maxRecDepth 100000 in
theorem D_153 {c : ByteArray} {n x p : Nat} (hB : BYS c n x) {Z : Int} (hp : Nat.ble (Nat.add p 3) n = true) (h0 : byt x p = 153) (h1 : Jvm.ClassFile.Reader.signed 16 (Nat.add (Nat.mul (byt x (Nat.add p 1)) 256) (byt x (Nat.add p 2))) = Z) : decode c p = .ok (.ifCond .eq Z, 3) := by
  subst h1
  refine dec_at ?_
  unfold Jvm.ClassFile.Decoder.instr
  refine (rb9 _ _ (u1_at (p := p) (BY_0 hB 0 (by have := Nat.le_of_ble_eq_true hp; simp only [Nat.add_eq] at this; omega) h0))).trans ?_
  exact rb9 _ _ (s2_at (BY_0 hB 1 (by have := Nat.le_of_ble_eq_true hp; simp only [Nat.add_eq] at this; omega) rfl) (BY_0 hB 2 (by have := Nat.le_of_ble_eq_true hp; simp only [Nat.add_eq] at this; omega) rfl))
set_option maxRecDepth 100000 in
theorem D_154 {c : ByteArray} {n x p : Nat} (hB : BYS c n x) {Z : Int} (hp : Nat.ble (Nat.add p 3) n = true) (h0 : byt x p = 154) (h1 : Jvm.ClassFile.Reader.signed 16 (Nat.add (Nat.mul (byt x (Nat.add p 1)) 256) (byt x (Nat.add p 2))) = Z) : decode c p = .ok (.ifCond .ne Z, 3) := by
  subst h1
  refine dec_at ?_
  unfold Jvm.ClassFile.Decoder.instr
  refine (rb9 _ _ (u1_at (p := p) (BY_0 hB 0 (by have := Nat.le_of_ble_eq_true hp; simp only [Nat.add_eq] at this; omega) h0))).trans ?_
  exact rb9 _ _ (s2_at (BY_0 hB 1 (by have := Nat.le_of_ble_eq_true hp; simp only [Nat.add_eq] at this; omega) rfl) (BY_0 hB 2 (by have := Nat.le_of_ble_eq_true hp; simp only [Nat.add_eq] at this; omega) rfl))
set_option maxRecDepth 100000 in
theorem D_155 {c : ByteArray} {n x p : Nat} (hB : BYS c n x) {Z : Int} (hp : Nat.ble (Nat.add p 3) n = true) (h0 : byt x p = 155) (h1 : Jvm.ClassFile.Reader.signed 16 (Nat.add (Nat.mul (byt x (Nat.add p 1)) 256) (byt x (Nat.add p 2))) = Z) : decode c p = .ok (.ifCond .lt Z, 3) := by
  subst h1
  refine dec_at ?_
  unfold Jvm.ClassFile.Decoder.instr
  refine (rb9 _ _ (u1_at (p := p) (BY_0 hB 0 (by have := Nat.le_of_ble_eq_true hp; simp only [Nat.add_eq] at this; omega) h0))).trans ?_
  exact rb9 _ _ (s2_at (BY_0 hB 1 (by have := Nat.le_of_ble_eq_true hp; simp only [Nat.add_eq] at this; omega) rfl) (BY_0 hB 2 (by have := Nat.le_of_ble_eq_true hp; simp only [Nat.add_eq] at this; omega) rfl))
set_option maxRecDepth 100000 in
theorem D_156 {c : ByteArray} {n x p : Nat} (hB : BYS c n x) {Z : Int} (hp : Nat.ble (Nat.add p 3) n = true) (h0 : byt x p = 156) (h1 : Jvm.ClassFile.Reader.signed 16 (Nat.add (Nat.mul (byt x (Nat.add p 1)) 256) (byt x (Nat.add p 2))) = Z) : decode c p = .ok (.ifCond .ge Z, 3) := by
  subst h1
  refine dec_at ?_
  unfold Jvm.ClassFile.Decoder.instr
  refine (rb9 _ _ (u1_at (p := p) (BY_0 hB 0 (by have := Nat.le_of_ble_eq_true hp; simp only [Nat.add_eq] at this; omega) h0))).trans ?_
  exact rb9 _ _ (s2_at (BY_0 hB 1 (by have := Nat.le_of_ble_eq_true hp; simp only [Nat.add_eq] at this; omega) rfl) (BY_0 hB 2 (by have := Nat.le_of_ble_eq_true hp; simp only [Nat.add_eq] at this; omega) rfl))
set_option maxRecDepth 100000 in
theorem D_157 {c : ByteArray} {n x p : Nat} (hB : BYS c n x) {Z : Int} (hp : Nat.ble (Nat.add p 3) n = true) (h0 : byt x p = 157) (h1 : Jvm.ClassFile.Reader.signed 16 (Nat.add (Nat.mul (byt x (Nat.add p 1)) 256) (byt x (Nat.add p 2))) = Z) : decode c p = .ok (.ifCond .gt Z, 3) := by
  subst h1
  refine dec_at ?_
  unfold Jvm.ClassFile.Decoder.instr
  refine (rb9 _ _ (u1_at (p := p) (BY_0 hB 0 (by have := Nat.le_of_ble_eq_true hp; simp only [Nat.add_eq] at this; omega) h0))).trans ?_
  exact rb9 _ _ (s2_at (BY_0 hB 1 (by have := Nat.le_of_ble_eq_true hp; simp only [Nat.add_eq] at this; omega) rfl) (BY_0 hB 2 (by have := Nat.le_of_ble_eq_true hp; simp only [Nat.add_eq] at this; omega) rfl))
set_option maxRecDepth 100000 in
theorem D_158 {c : ByteArray} {n x p : Nat} (hB : BYS c n x) {Z : Int} (hp : Nat.ble (Nat.add p 3) n = true) (h0 : byt x p = 158) (h1 : Jvm.ClassFile.Reader.signed 16 (Nat.add (Nat.mul (byt x (Nat.add p 1)) 256) (byt x (Nat.add p 2))) = Z) : decode c p = .ok (.ifCond .le Z, 3) := by
  subst h1
  refine dec_at ?_
  unfold Jvm.ClassFile.Decoder.instr
  refine (rb9 _ _ (u1_at (p := p) (BY_0 hB 0 (by have := Nat.le_of_ble_eq_true hp; simp only [Nat.add_eq] at this; omega) h0))).trans ?_
  exact rb9 _ _ (s2_at (BY_0 hB 1 (by have := Nat.le_of_ble_eq_true hp; simp only [Nat.add_eq] at this; omega) rfl) (BY_0 hB 2 (by have := Nat.le_of_ble_eq_true hp; simp only [Nat.add_eq] at this; omega) rfl))
set_option maxRecDepth 100000 in
theorem D_159 {c : ByteArray} {n x p : Nat} (hB : BYS c n x) {Z : Int} (hp : Nat.ble (Nat.add p 3) n = true) (h0 : byt x p = 159) (h1 : Jvm.ClassFile.Reader.signed 16 (Nat.add (Nat.mul (byt x (Nat.add p 1)) 256) (byt x (Nat.add p 2))) = Z) : decode c p = .ok (.if_icmp .eq Z, 3) := by
  subst h1
  refine dec_at ?_
  unfold Jvm.ClassFile.Decoder.instr
  refine (rb9 _ _ (u1_at (p := p) (BY_0 hB 0 (by have := Nat.le_of_ble_eq_true hp; simp only [Nat.add_eq] at this; omega) h0))).trans ?_
  exact rb9 _ _ (s2_at (BY_0 hB 1 (by have := Nat.le_of_ble_eq_true hp; simp only [Nat.add_eq] at this; omega) rfl) (BY_0 hB 2 (by have := Nat.le_of_ble_eq_true hp; simp only [Nat.add_eq] at this; omega) rfl))
set_option maxRecDepth 100000 in
theorem D_160 {c : ByteArray} {n x p : Nat} (hB : BYS c n x) {Z : Int} (hp : Nat.ble (Nat.add p 3) n = true) (h0 : byt x p = 160) (h1 : Jvm.ClassFile.Reader.signed 16 (Nat.add (Nat.mul (byt x (Nat.add p 1)) 256) (byt x (Nat.add p 2))) = Z) : decode c p = .ok (.if_icmp .ne Z, 3) := by
  subst h1
  refine dec_at ?_
  unfold Jvm.ClassFile.Decoder.instr
  refine (rb9 _ _ (u1_at (p := p) (BY_0 hB 0 (by have := Nat.le_of_ble_eq_true hp; simp only [Nat.add_eq] at this; omega) h0))).trans ?_
  exact rb9 _ _ (s2_at (BY_0 hB 1 (by have := Nat.le_of_ble_eq_true hp; simp only [Nat.add_eq] at this; omega) rfl) (BY_0 hB 2 (by have := Nat.le_of_ble_eq_true hp; simp only [Nat.add_eq] at this; omega) rfl))
set_option maxRecDepth 100000 in
theorem D_161 {c : ByteArray} {n x p : Nat} (hB : BYS c n x) {Z : Int} (hp : Nat.ble (Nat.add p 3) n = true) (h0 : byt x p = 161) (h1 : Jvm.ClassFile.Reader.signed 16 (Nat.add (Nat.mul (byt x (Nat.add p 1)) 256) (byt x (Nat.add p 2))) = Z) : decode c p = .ok (.if_icmp .lt Z, 3) := by
  subst h1
  refine dec_at ?_
  unfold Jvm.ClassFile.Decoder.instr
  refine (rb9 _ _ (u1_at (p := p) (BY_0 hB 0 (by have := Nat.le_of_ble_eq_true hp; simp only [Nat.add_eq] at this; omega) h0))).trans ?_
  exact rb9 _ _ (s2_at (BY_0 hB 1 (by have := Nat.le_of_ble_eq_true hp; simp only [Nat.add_eq] at this; omega) rfl) (BY_0 hB 2 (by have := Nat.le_of_ble_eq_true hp; simp only [Nat.add_eq] at this; omega) rfl))
set_option maxRecDepth 100000 in
theorem D_162 {c : ByteArray} {n x p : Nat} (hB : BYS c n x) {Z : Int} (hp : Nat.ble (Nat.add p 3) n = true) (h0 : byt x p = 162) (h1 : Jvm.ClassFile.Reader.signed 16 (Nat.add (Nat.mul (byt x (Nat.add p 1)) 256) (byt x (Nat.add p 2))) = Z) : decode c p = .ok (.if_icmp .ge Z, 3) := by
  subst h1
  refine dec_at ?_
  unfold Jvm.ClassFile.Decoder.instr
  refine (rb9 _ _ (u1_at (p := p) (BY_0 hB 0 (by have := Nat.le_of_ble_eq_true hp; simp only [Nat.add_eq] at this; omega) h0))).trans ?_
  exact rb9 _ _ (s2_at (BY_0 hB 1 (by have := Nat.le_of_ble_eq_true hp; simp only [Nat.add_eq] at this; omega) rfl) (BY_0 hB 2 (by have := Nat.le_of_ble_eq_true hp; simp only [Nat.add_eq] at this; omega) rfl))
set_option maxRecDepth 100000 in
theorem D_163 {c : ByteArray} {n x p : Nat} (hB : BYS c n x) {Z : Int} (hp : Nat.ble (Nat.add p 3) n = true) (h0 : byt x p = 163) (h1 : Jvm.ClassFile.Reader.signed 16 (Nat.add (Nat.mul (byt x (Nat.add p 1)) 256) (byt x (Nat.add p 2))) = Z) : decode c p = .ok (.if_icmp .gt Z, 3) := by
  subst h1
  refine dec_at ?_
  unfold Jvm.ClassFile.Decoder.instr
  refine (rb9 _ _ (u1_at (p := p) (BY_0 hB 0 (by have := Nat.le_of_ble_eq_true hp; simp only [Nat.add_eq] at this; omega) h0))).trans ?_
  exact rb9 _ _ (s2_at (BY_0 hB 1 (by have := Nat.le_of_ble_eq_true hp; simp only [Nat.add_eq] at this; omega) rfl) (BY_0 hB 2 (by have := Nat.le_of_ble_eq_true hp; simp only [Nat.add_eq] at this; omega) rfl))
set_option maxRecDepth 100000 in
theorem D_164 {c : ByteArray} {n x p : Nat} (hB : BYS c n x) {Z : Int} (hp : Nat.ble (Nat.add p 3) n = true) (h0 : byt x p = 164) (h1 : Jvm.ClassFile.Reader.signed 16 (Nat.add (Nat.mul (byt x (Nat.add p 1)) 256) (byt x (Nat.add p 2))) = Z) : decode c p = .ok (.if_icmp .le Z, 3) := by
  subst h1
  refine dec_at ?_
  unfold Jvm.ClassFile.Decoder.instr
  refine (rb9 _ _ (u1_at (p := p) (BY_0 hB 0 (by have := Nat.le_of_ble_eq_true hp; simp only [Nat.add_eq] at this; omega) h0))).trans ?_
  exact rb9 _ _ (s2_at (BY_0 hB 1 (by have := Nat.le_of_ble_eq_true hp; simp only [Nat.add_eq] at this; omega) rfl) (BY_0 hB 2 (by have := Nat.le_of_ble_eq_true hp; simp only [Nat.add_eq] at this; omega) rfl))
set_option maxRecDepth 100000 in
theorem D_167 {c : ByteArray} {n x p : Nat} (hB : BYS c n x) {Z : Int} (hp : Nat.ble (Nat.add p 3) n = true) (h0 : byt x p = 167) (h1 : Jvm.ClassFile.Reader.signed 16 (Nat.add (Nat.mul (byt x (Nat.add p 1)) 256) (byt x (Nat.add p 2))) = Z) : decode c p = .ok (.goto Z, 3) := by
  subst h1
  refine dec_at ?_
  unfold Jvm.ClassFile.Decoder.instr
  refine (rb9 _ _ (u1_at (p := p) (BY_0 hB 0 (by have := Nat.le_of_ble_eq_true hp; simp only [Nat.add_eq] at this; omega) h0))).trans ?_
  exact rb9 _ _ (s2_at (BY_0 hB 1 (by have := Nat.le_of_ble_eq_true hp; simp only [Nat.add_eq] at this; omega) rfl) (BY_0 hB 2 (by have := Nat.le_of_ble_eq_true hp; simp only [Nat.add_eq] at this; omega) rfl))
set_option maxRecDepth 100000 in
theorem D_198 {c : ByteArray} {n x p : Nat} (hB : BYS c n x) {Z : Int} (hp : Nat.ble (Nat.add p 3) n = true) (h0 : byt x p = 198) (h1 : Jvm.ClassFile.Reader.signed 16 (Nat.add (Nat.mul (byt x (Nat.add p 1)) 256) (byt x (Nat.add p 2))) = Z) : decode c p = .ok (.ifnull Z, 3) := by
  subst h1
  refine dec_at ?_
  unfold Jvm.ClassFile.Decoder.instr
  refine (rb9 _ _ (u1_at (p := p) (BY_0 hB 0 (by have := Nat.le_of_ble_eq_true hp; simp only [Nat.add_eq] at this; omega) h0))).trans ?_
  exact rb9 _ _ (s2_at (BY_0 hB 1 (by have := Nat.le_of_ble_eq_true hp; simp only [Nat.add_eq] at this; omega) rfl) (BY_0 hB 2 (by have := Nat.le_of_ble_eq_true hp; simp only [Nat.add_eq] at this; omega) rfl))
set_option maxRecDepth 100000 in
theorem D_199 {c : ByteArray} {n x p : Nat} (hB : BYS c n x) {Z : Int} (hp : Nat.ble (Nat.add p 3) n = true) (h0 : byt x p = 199) (h1 : Jvm.ClassFile.Reader.signed 16 (Nat.add (Nat.mul (byt x (Nat.add p 1)) 256) (byt x (Nat.add p 2))) = Z) : decode c p = .ok (.ifnonnull Z, 3) := by
  subst h1
  refine dec_at ?_
  unfold Jvm.ClassFile.Decoder.instr
  refine (rb9 _ _ (u1_at (p := p) (BY_0 hB 0 (by have := Nat.le_of_ble_eq_true hp; simp only [Nat.add_eq] at this; omega) h0))).trans ?_
  exact rb9 _ _ (s2_at (BY_0 hB 1 (by have := Nat.le_of_ble_eq_true hp; simp only [Nat.add_eq] at this; omega) rfl) (BY_0 hB 2 (by have := Nat.le_of_ble_eq_true hp; simp only [Nat.add_eq] at this; omega) rfl))
set_option maxRecDepth 100000 in
theorem D_16 {c : ByteArray} {n x p : Nat} (hB : BYS c n x) {Z : Int} (hp : Nat.ble (Nat.add p 2) n = true) (h0 : byt x p = 16) (h1 : Jvm.ClassFile.Reader.signed 8 (byt x (Nat.add p 1)) = Z) : decode c p = .ok (.bipush Z, 2) := by
  subst h1
  refine dec_at ?_
  unfold Jvm.ClassFile.Decoder.instr
  refine (rb9 _ _ (u1_at (p := p) (BY_0 hB 0 (by have := Nat.le_of_ble_eq_true hp; simp only [Nat.add_eq] at this; omega) h0))).trans ?_
  exact rb9 _ _ (s1_at (BY_0 hB 1 (by have := Nat.le_of_ble_eq_true hp; simp only [Nat.add_eq] at this; omega) rfl))
set_option maxRecDepth 100000 in
theorem D_132 {c : ByteArray} {n x p : Nat} (hB : BYS c n x) {N : Nat} {Z : Int} (hp : Nat.ble (Nat.add p 3) n = true) (h0 : byt x p = 132) (h1 : byt x (Nat.add p 1) = N) (h2 : Jvm.ClassFile.Reader.signed 8 (byt x (Nat.add p 2)) = Z) : decode c p = .ok (.iinc N Z, 3) := by
  subst h2
  refine dec_at ?_
  unfold Jvm.ClassFile.Decoder.instr
  refine (rb9 _ _ (u1_at (p := p) (BY_0 hB 0 (by have := Nat.le_of_ble_eq_true hp; simp only [Nat.add_eq] at this; omega) h0))).trans ?_
  refine (rb9 _ _ (u1_at (BY_0 hB 1 (by have := Nat.le_of_ble_eq_true hp; simp only [Nat.add_eq] at this; omega) h1))).trans ?_
  exact rb9 _ _ (s1_at (BY_0 hB 2 (by have := Nat.le_of_ble_eq_true hp; simp only [Nat.add_eq] at this; omega) rfl))
set_option maxRecDepth 100000 in
theorem D_188_10 {c : ByteArray} {n x p : Nat} (hB : BYS c n x) (hp : Nat.ble (Nat.add p 2) n = true) (h0 : byt x p = 188) (h1 : byt x (Nat.add p 1) = 10) : decode c p = .ok (.newarray .int, 2) := by
  refine dec_at ?_
  unfold Jvm.ClassFile.Decoder.instr
  refine (rb9 _ _ (u1_at (p := p) (BY_0 hB 0 (by have := Nat.le_of_ble_eq_true hp; simp only [Nat.add_eq] at this; omega) h0))).trans ?_
  unfold Jvm.ClassFile.Decoder.newarray
  refine (rb9 _ _ (u1_at (BY_0 hB 1 (by have := Nat.le_of_ble_eq_true hp; simp only [Nat.add_eq] at this; omega) h1))).trans ?_
  rfl
set_option maxRecDepth 100000 in
theorem D_188_11 {c : ByteArray} {n x p : Nat} (hB : BYS c n x) (hp : Nat.ble (Nat.add p 2) n = true) (h0 : byt x p = 188) (h1 : byt x (Nat.add p 1) = 11) : decode c p = .ok (.newarray .long, 2) := by
  refine dec_at ?_
  unfold Jvm.ClassFile.Decoder.instr
  refine (rb9 _ _ (u1_at (p := p) (BY_0 hB 0 (by have := Nat.le_of_ble_eq_true hp; simp only [Nat.add_eq] at this; omega) h0))).trans ?_
  unfold Jvm.ClassFile.Decoder.newarray
  refine (rb9 _ _ (u1_at (BY_0 hB 1 (by have := Nat.le_of_ble_eq_true hp; simp only [Nat.add_eq] at this; omega) h1))).trans ?_
  rfl
