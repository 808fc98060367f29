/-! THE FLAT WORLD: all cells of class, reference and law by numbers 0 .. 105; a memory tells each cell's ints; references are fixed links -/
abbrev Mem : Type := Nat → Nat → Int32
def stm (σ : Mem) (i j : Nat) (v : Int32) : Mem := fun a => if a = i then upd (σ i) j v else σ a
theorem stm_row (σ : Mem) (i j : Nat) (v : Int32) : stm σ i j v i = upd (σ i) j v := by simp [stm]
theorem stm_ne (σ : Mem) {a i : Nat} (j : Nat) (v : Int32) (h : a ≠ i) : stm σ i j v a = σ a := by simp [stm, h]
def kd (i : Nat) : Nat × Nat :=
  if i < 66 then (match i % 22 with
    | 0 => (6, 11) | 1 => (4, 13) | 2 => (9, 8) | 3 => (9, 8) | 4 => (9, 8) | 5 => (9, 9) | 6 => (9, 9) | 7 => (9, 73) | 8 => (9, 73) | 9 => (9, 73) | 10 => (9, 73) | 11 => (9, 3) | 12 => (9, 3) | 13 => (10, 7) | 14 => (9, 73) | _ => (0, 12))
  else ([(7, 8), (11, 8), (5, 6), (5, 6), (5, 6), (5, 6), (5, 6), (5, 6), (5, 6), (5, 6), (9, 100), (9, 100), (9, 100), (9, 100), (9, 100), (9, 100), (9, 100), (9, 100), (1, 2), (3, 8), (5, 6), (9, 100), (2, 8), (9, 896), (9, 896), (8, 24), (9, 121), (9, 121), (9, 121), (9, 121), (9, 8), (9, 8), (9, 8), (9, 800), (9, 8), (9, 8), (9, 5), (9, 512), (9, 512), (12, 1)] : List (Nat × Nat)).getD (i - 66) (99, 0)
def lk (i k : Nat) : Option Nat :=
  if i < 66 then (match i % 22 with
    | 0 => if k = 0 then some (i + 1) else if k = 1 then some (i + 13) else if k = 7 then some (i + 14) else none
    | 1 => if 2 ≤ k ∧ k ≤ 12 then some (i - 1 + k) else none
    | 13 => if k < 7 then some (i + 2 + k) else none
    | _ => none)
  else if i = 66 then (if k = 0 then some 0 else if k = 1 then some 22 else if k = 2 then some 44 else if k = 4 then some 67 else if k = 5 then some 84 else if k = 6 then some 85 else if k = 7 then some 88 else none)
  else if i = 67 then (if k < 8 then some (68 + k) else none)
  else if i < 76 then (if k = 5 then some (i + 8) else none)
  else if i = 86 then (if k = 5 then some 87 else none)
  else if i = 88 then (if k = 0 then some 89 else if k = 1 then some 90 else none)
  else if i = 91 then (if k < 10 then some (92 + k) else if k = 16 then some 102 else if k = 21 then some 103 else if k = 22 then some 104 else none)
  else none
/-- what field k of cell i holds -/
def fv (ad : Nat → Nat) (r : Nat → Int32) (i k : Nat) : Value := if i = 85 ∧ k = 0 then .ref (ad (r 0).toNatClampNeg) else match lk i k with
  | some j => .ref (ad j)
  | none => .int (r k)
def cel (cA : Nat → ClassId) (ad : Nat → Nat) (o : Int64) (r : Nat → Int32) (i : Nat) : va_E :=
  if (kd i).1 = 9 then .inl (cA 0, (kd i).2, .inl r)
  else if (kd i).1 = 10 then .inl (cA 1, (kd i).2, .inr (.inr (.inr (.inr (fun k => (lk i k).map ad)))))
  else if (kd i).1 = 11 then .inl (cA 2, (kd i).2, .inr (.inr (.inr (.inr (fun k => (lk i k).map ad)))))
  else if (kd i).1 = 12 then .inl (cA 3, (kd i).2, .inr (.inl (fun _ => o)))
  else .inr ((kd i).1, (List.range (kd i).2).map (fv ad r i))
def wl (cA : Nat → ClassId) (ad : Nat → Nat) (o : Int64) (σ : Mem) : va_W := (List.range 106).map (fun i => (ad i, cel cA ad o (σ i) i))
theorem wl_get (cA : Nat → ClassId) (ad : Nat → Nat) (o : Int64) (σ : Mem) {i : Nat} (h : i < 106) : (wl cA ad o σ)[i]? = some (ad i, cel cA ad o (σ i) i) := by
  simp [wl, h]
theorem wl_set (cA : Nat → ClassId) (ad : Nat → Nat) (o : Int64) (σ : Mem) {i : Nat} (r : Nat → Int32) : (wl cA ad o σ).set i (ad i, cel cA ad o r i) = wl cA ad o (fun a => if a = i then r else σ a) := by
  apply List.ext_getElem?
  intro j
  rw [List.getElem?_set]
  by_cases h : i = j
  · subst h
    by_cases h2 : i < 106 <;> simp [wl, h2]
  · have h' : ¬ j = i := fun q => h q.symm
    by_cases h2 : j < 106 <;> simp [wl, h, h', h2]
theorem cel_obj {cA : Nat → ClassId} {ad : Nat → Nat} {o : Int64} {r : Nat → Int32} {i ci n : Nat} (h : kd i = (ci, n)) (hc : ci < 9) : cel cA ad o r i = .inr (ci, (List.range n).map (fv ad r i)) := by
  have h1 : ¬ ci = 9 := by omega
  have h2 : ¬ ci = 10 := by omega
  have h3 : ¬ ci = 11 := by omega
  have h4 : ¬ ci = 12 := by omega
  simp [cel, h, h1, h2, h3, h4]
theorem cel_arr {cA : Nat → ClassId} {ad : Nat → Nat} {o : Int64} {r : Nat → Int32} {i n : Nat} (h : kd i = (9, n)) : cel cA ad o r i = .inl (cA 0, n, .inl r) := by simp [cel, h]
theorem cel_refC {cA : Nat → ClassId} {ad : Nat → Nat} {o : Int64} {r : Nat → Int32} {i n : Nat} (h : kd i = (10, n)) : cel cA ad o r i = .inl (cA 1, n, .inr (.inr (.inr (.inr (fun k => (lk i k).map ad))))) := by simp [cel, h]
theorem cel_refS {cA : Nat → ClassId} {ad : Nat → Nat} {o : Int64} {r : Nat → Int32} {i n : Nat} (h : kd i = (11, n)) : cel cA ad o r i = .inl (cA 2, n, .inr (.inr (.inr (.inr (fun k => (lk i k).map ad))))) := by simp [cel, h]
theorem fs_get (ad : Nat → Nat) (r : Nat → Int32) (i : Nat) {n k : Nat} (h : k < n) : ((List.range n).map (fv ad r i))[k]? = some (fv ad r i k) := by simp [h]
theorem fs_set (ad : Nat → Nat) (r : Nat → Int32) (i : Nat) {n k : Nat} (v : Int32) (hl : lk i k = none) (h85 : ¬ (i = 85 ∧ k = 0)) : ((List.range n).map (fv ad r i)).set k (.int v) = (List.range n).map (fv ad (upd r k v) i) := by
  apply List.ext_getElem?
  intro j
  rw [List.getElem?_set]
  by_cases h : k = j
  · subst h
    by_cases h2 : k < n
    · simp [h2, fv, h85, hl, upd]
    · simp [h2]
  · have h' : ¬ j = k := fun q => h q.symm
    by_cases h2 : j < n
    · simp only [h, if_false, List.getElem?_map, List.getElem?_range h2, Option.map_some, Option.some.injEq]
      by_cases h3 : i = 85 ∧ j = 0
      · have h4 : ¬ (0 = k) := by omega
        simp [fv, h3, upd, h4]
      · simp [fv, h3, upd, h']
    · simp [h, h2]
theorem fs_setr (ad : Nat → Nat) (r : Nat → Int32) {n : Nat} (j : Nat) (hj : j < 2 ^ 31) : ((List.range n).map (fv ad r 85)).set 0 (.ref (ad j)) = (List.range n).map (fv ad (upd r 0 (nI j)) 85) := by
  apply List.ext_getElem?
  intro q
  rw [List.getElem?_set]
  by_cases h : 0 = q
  · subst h
    by_cases h2 : 0 < n
    · simp [h2, fv, upd, nI_clamp hj]
    · simp [h2]
  · have h' : ¬ q = 0 := fun z => h z.symm
    by_cases h2 : q < n
    · simp [h, h2, fv, h', upd]
    · simp [h, h2]
/-! words -/
def tbg : List Cond := lw_tbl.filter goodWord
def WY (y : MethodName) (cc : ByteArray) (n : Nat) (ret : Option FieldType) : List Cond := .code y cc n ret :: tbg
def RM (k : Nat) : Room := { frames := k, cells := 0, slots := 0, locals := 40 * k }
theorem mem_places {ws : List Cond} (ps : List Nat) (hp : ws = ps.filterMap (fun i => lw_tbl[i]?)) (hg : ws.all goodWord = true) : ∀ w ∈ ws, w ∈ tbg := by
  intro w hw
  have h1 := List.all_eq_true.mp hg w hw
  rw [hp] at hw
  obtain ⟨i, -, hi⟩ := List.mem_filterMap.mp hw
  exact List.mem_filter.mpr ⟨List.mem_of_getElem? hi, h1⟩
theorem tm {w : Cond} (i : Nat) (h : lw_tbl[i]? = some w) (hg : goodWord w = true) : w ∈ tbg := List.mem_filter.mpr ⟨List.mem_of_getElem? h, hg⟩
theorem tbg_good {ws : List Cond} (h : ∀ w ∈ ws, w ∈ tbg) : GoodIn tbg ws := fun w hw => ⟨h w hw, good_of_word (List.mem_filter.mp (h w hw)).2⟩
/-! contexts -/
abbrev CX (p : Program) (s : State) (m : MethodId) (args : Array Value) (c : Code) (cc : ByteArray) (nL : Nat) (own : String) : Prop := CallFix p m c cc nL s args tbg own
abbrev wtys (cA : Nat → ClassId) : List (ClassId × FieldType) := [(cA 0, .int), (cA 1, .object "WhoBacks$Cart"), (cA 2, .object "WhoBacks$Shelf"), (cA 3, .long)]
def WX (D : va_G) (cA : Nat → ClassId) (ad : Nat → Nat) (A : Nat → Prop) (s : State) : Prop := va_K D vwCl (wtys cA) s ∧ (∀ i j, i < 106 → j < 106 → ad i = ad j → i = j) ∧ (∀ i, i < 106 → A (ad i)) ∧ (∀ q, s.heap.size ≤ q → A q)
def WP (D : va_G) (cA : Nat → ClassId) (ad : Nat → Nat) (o : Int64) (σ : Mem) (H : Heap) : Prop := va_P D vwCl (wl cA ad o σ) H
def FA (ad : Nat → Nat) (sz : Nat) : Nat → Prop := fun q => (∃ i, i < 106 ∧ q = ad i) ∨ sz ≤ q
def PW (D : va_G) (cA : Nat → ClassId) (ad : Nat → Nat) (o : Int64) (σ : Mem) (sz : Nat) : State → Prop := fun U => U.heap.size = sz ∧ WP D cA ad o σ U.heap ∧ va_K D vwCl (wtys cA) U ∧ (∀ i j, i < 106 → j < 106 → ad i = ad j → i = j)
def QW (D : va_G) (cA : Nat → ClassId) (ad : Nat → Nat) (o : Int64) : Mem → State → Prop := fun σ t => WP D cA ad o σ t.heap ∧ va_K D vwCl (wtys cA) t
theorem WX_D {D : va_G} {cA : Nat → ClassId} {ad : Nat → Nat} {A : Nat → Prop} {s : State} (X : WX D cA ad A s) (o : Int64) (σ : Mem) : va_D A (wl cA ad o σ) := by
  have key : ∀ (k : Nat) (q : Nat × va_E), (wl cA ad o σ)[k]? = some q → k < 106 ∧ q.1 = ad k := by
    intro k q h
    have hk : k < 106 := by
      have := (List.getElem?_eq_some_iff.mp h).1
      simpa [wl] using this
    rw [wl_get cA ad o σ hk] at h
    exact ⟨hk, by rw [← Option.some.inj h]⟩
  refine ⟨fun i j a b ha hb hab => ?_, fun k q h => ?_⟩
  · obtain ⟨h1, h2⟩ := key i a ha
    obtain ⟨h3, h4⟩ := key j b hb
    exact X.2.1 i j h1 h3 (by rw [← h2, ← h4]; exact hab)
  · obtain ⟨h1, h2⟩ := key k q h
    rw [h2]
    exact X.2.2.1 k h1
section FW
variable {p : Program} {l : Launch} {e : Env} {R : Room} {s : State} {m : MethodId} {args : Array Value} {below : List Frame} {meth : Method} {c : Code} {H : Heap} {locs : List Loc} {cells slots : Nat} {Q : State → Prop}
variable {cc : ByteArray} {pc nL : Nat} {ls : Array Slot} {rest : List Value} {D : va_G} {cA : Nat → ClassId} {ad : Nat → Nat} {A : Nat → Prop} {σ : Mem} {o : Int64} {own : String}
theorem r_get {C : String} {T : u_T} {N ci index : Nat} (C0 : CX p s m args c cc nL own) (X : WX D cA ad A s) (hP : WP D cA ad o σ H) (i k : Nat) {v : Value} (hi : i < 106) (hkd : kd i = (ci, N)) (hci : ci < 9) (hc : vwCl[ci]? = some (C, T, N)) (hin : ∀ w ∈ u_ws C T N, w ∈ tbg) (hk : k < N) (hlink : Cond.fieldLink own index (T k).1 (T k).2.1 (T k).2.2.1 ∈ tbg) (hv : fv ad (σ i) i k = v) (hdg : decode cc pc = .ok (.getfield index, 3))
    (kk : W p l e R s m args below meth c H locs cells slots Q (F0 m (pc + 3) ls (v :: rest))) : W p l e R s m args below meth c H locs cells slots Q (F0 m pc ls (.ref (ad i) :: rest)) := by
  obtain ⟨hx, hb, hml, hown, hts⟩ := C0
  refine va_get (D := D) (ci := ci) (C := C) (T := T) (N := N) (v := v) hx hb hts hin hown X.1 hP i (fs := (List.range N).map (fv ad (σ i) i)) ?_ hc k hk (hts _ hlink) (fun _ h => h) ?_ hdg kk
  · rw [wl_get cA ad o σ hi, cel_obj hkd hci]
  · rw [fs_get ad (σ i) i hk, hv]
theorem r_put {C : String} {T : u_T} {N ci index : Nat} (C0 : CX p s m args c cc nL own) (X : WX D cA ad A s) (hP : WP D cA ad o σ H) (hS : va_S A s.heap H locs) (i k : Nat) {v : Int32} {ty : FieldType} (hi : i < 106) (hkd : kd i = (ci, N)) (hci : ci < 9) (hc : vwCl[ci]? = some (C, T, N)) (hin : ∀ w ∈ u_ws C T N, w ∈ tbg) (ty0 : Nat → FieldType) (hty : ∀ k, k < N → parseFieldDescriptor (T k).2.2.1 = some (ty0 k)) (hnm : ∀ a, a < N → ∀ b, b < N → a ≠ b → (T a).2.1 ≠ (T b).2.1) (hk : k < N) (hlink : Cond.fieldLink own index (T k).1 (T k).2.1 (T k).2.2.1 ∈ tbg) (hfin : (T k).2.2.2 = false) (hd : ty0 k = ty) (hn : narrow ty (.int v) = .int v) (hfit : fits ty (.int v) = true) (hl : lk i k = none) (h85 : ¬ (i = 85 ∧ k = 0)) (hdg : decode cc pc = .ok (.putfield index, 3))
    (kk : ∀ (H1 : Heap) (locs1 : List Loc), WP D cA ad o (stm σ i k v) H1 → va_S A s.heap H1 locs1 → W p l e R s m args below meth c H1 locs1 cells slots Q (F0 m (pc + 3) ls rest)) : W p l e R s m args below meth c H locs cells slots Q (F0 m pc ls (.int v :: .ref (ad i) :: rest)) := by
  obtain ⟨hx, hb, hml, hown, hts⟩ := C0
  refine va_put (D := D) (ci := ci) (C := C) (T := T) (N := N) (v := .int v) (ty := ty) hx hb hts hin ty0 hty hnm hown X.1 hP (WX_D X o σ) hS i (fs := (List.range N).map (fv ad (σ i) i)) ?_ hc k hk (hts _ hlink) (fun _ h => h) hfin (by rw [hty k hk, hd]) hn hfit (by simpa using hk) hdg (fun H1 locs1 hP1 _ hS1 => kk H1 locs1 ?_ hS1)
  · rw [wl_get cA ad o σ hi, cel_obj hkd hci]
  · rw [fs_set ad (σ i) i v hl h85, ← cel_obj (cA := cA) (o := o) hkd hci, wl_set] at hP1
    exact hP1
theorem r_iald (C0 : CX p s m args c cc nL own) (X : WX D cA ad A s) (hP : WP D cA ad o σ H) (i : Nat) {n : Nat} (hi : i < 106) (hkd : kd i = (9, n)) {j : Int32} (hin : vp_in j n) (hdg : decode cc pc = .ok (.iaload, 1))
    (kk : W p l e R s m args below meth c H locs cells slots Q (F0 m (pc + 1) ls (.int (σ i j.toNatClampNeg) :: rest))) : W p l e R s m args below meth c H locs cells slots Q (F0 m pc ls (.int j :: .ref (ad i) :: rest)) :=
  va_iald C0.1 C0.2.1 X.1 hP i 0 (cA := cA 0) (n := n) (f := σ i) (by rw [wl_get cA ad o σ hi, cel_arr hkd]) rfl hin hdg kk
theorem r_iast (C0 : CX p s m args c cc nL own) (X : WX D cA ad A s) (hP : WP D cA ad o σ H) (hS : va_S A s.heap H locs) (i : Nat) {n : Nat} (hi : i < 106) (hkd : kd i = (9, n)) {j x : Int32} (hin : vp_in j n) (hdg : decode cc pc = .ok (.iastore, 1))
    (kk : ∀ (H1 : Heap) (locs1 : List Loc), WP D cA ad o (stm σ i j.toNatClampNeg x) H1 → va_S A s.heap H1 locs1 → W p l e R s m args below meth c H1 locs1 cells slots Q (F0 m (pc + 1) ls rest)) : W p l e R s m args below meth c H locs cells slots Q (F0 m pc ls (.int x :: .int j :: .ref (ad i) :: rest)) := by
  refine va_iast C0.1 C0.2.1 X.1 hP (WX_D X o σ) hS i 0 (cA := cA 0) (n := n) (f := σ i) (by rw [wl_get cA ad o σ hi, cel_arr hkd]) rfl hin hdg (fun H1 locs1 hP1 _ hS1 => kk H1 locs1 ?_ hS1)
  rw [← cel_arr (cA := cA) (ad := ad) (o := o) hkd, wl_set] at hP1
  exact hP1
theorem r_aaldC (C0 : CX p s m args c cc nL own) (X : WX D cA ad A s) (hP : WP D cA ad o σ H) (i : Nat) {n q : Nat} (hi : i < 106) (hkd : kd i = (10, n)) {j : Int32} (hin : vp_in j n) (hl : lk i j.toNatClampNeg = some q) (hdg : decode cc pc = .ok (.aaload, 1))
    (kk : W p l e R s m args below meth c H locs cells slots Q (F0 m (pc + 1) ls (.ref (ad q) :: rest))) : W p l e R s m args below meth c H locs cells slots Q (F0 m pc ls (.int j :: .ref (ad i) :: rest)) := by
  refine va_aldq C0.1 C0.2.1 X.1 hP i 1 (cA := cA 1) (C := "WhoBacks$Cart") (n := n) (f := fun k => (lk i k).map ad) (by rw [wl_get cA ad o σ hi, cel_refC hkd]) rfl hin hdg ?_
  rw [hl]
  exact kk
theorem r_aaldS (C0 : CX p s m args c cc nL own) (X : WX D cA ad A s) (hP : WP D cA ad o σ H) (i : Nat) {n q : Nat} (hi : i < 106) (hkd : kd i = (11, n)) {j : Int32} (hin : vp_in j n) (hl : lk i j.toNatClampNeg = some q) (hdg : decode cc pc = .ok (.aaload, 1))
    (kk : W p l e R s m args below meth c H locs cells slots Q (F0 m (pc + 1) ls (.ref (ad q) :: rest))) : W p l e R s m args below meth c H locs cells slots Q (F0 m pc ls (.int j :: .ref (ad i) :: rest)) := by
  refine va_aldq C0.1 C0.2.1 X.1 hP i 2 (cA := cA 2) (C := "WhoBacks$Shelf") (n := n) (f := fun k => (lk i k).map ad) (by rw [wl_get cA ad o σ hi, cel_refS hkd]) rfl hin hdg ?_
  rw [hl]
  exact kk
end FW
