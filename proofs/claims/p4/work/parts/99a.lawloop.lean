/-! the law's loop -/
theorem i32_len {L i : Nat} (hL : L ≤ 384) (hi : i ≤ 1000) : (nI L - 6 < nI i ↔ L < i + 6) := by
  have z : (6 : Int32).toInt = 6 := by decide
  have e := nI_toInt (n := L) (by omega)
  have f := nI_toInt (n := i) (by omega)
  rw [i32_lt, t_sub (by rw [e, z]; omega) (by rw [e, z]; omega), e, f, z]
  omega
set_option maxHeartbeats 4000000 in
set_option maxRecDepth 100000 in
theorem law_loop {p : Program} {l : Launch} {e : Env} {s : State} {m : MethodId} {below : List Frame} {meth : Method} {c : Code} {D : va_G} {cA : Nat → ClassId} {ad : Nat → Nat} {b Lx : Nat} {xs : Nat → Int32} {sa : Nat → Nat} (hfl : l.stackTraces = false) (C0 : CX p s m #[Value.ref b] c code 8 RL) (hr : meth.sig.returnType = ret) (hlk : meth.locks = false) (hX : va_X b Lx xs s s.heap) (hL : Lx ≤ 384) (hbl : b < s.heap.size) (X : WX D cA ad (fun q => s.heap.size ≤ q) s) (hZ : XL sa s) : ∀ (nn i : Nat) (o : Int64) (σ : Mem) (H : Heap) (locs : List Loc) (cells slots : Nat) (ls : Array Slot), 64 < nn + i → i ≤ 64 → WP D cA ad o σ H → INV σ σ → va_S (fun q => s.heap.size ≤ q) s.heap H locs → lv_has ls 8 [(0, .ref b), (1, .ref (ad 66)), (2, .ref (ad 91)), (3, .ref (ad 105)), (4, .int (nI (6 * i)))] → cells ≤ 500000 + i → slots ≤ 7200000 + 6 * i → W p l e room_1 s m #[Value.ref b] below meth c H locs cells slots (lw_Z below #[Value.ref b] s) (F0 m 23 ls []) := by
  intro nn
  induction nn with
  | zero => intro i o σ H locs cells slots ls h1 h2; exact absurd h1 (by omega)
  | succ nn ih =>
    intro i o σ H locs cells slots ls h1 h2 hP hI hS hl hc hs
    obtain ⟨hx, hb, hml, hown, hts⟩ := id C0
    have hbA : ¬ (fun q => s.heap.size ≤ q) b := Nat.not_le.mpr hbl
    refine lv_iload hx hb dL_law_23 (lv_at hl 4 rfl) ?_
    refine lv_aload_n hx hb dL_law_25 rfl (lv_at hl 0 rfl) ?_
    refine va_slen hx hb hX hbl hbA hS dL_law_26 ?_
    refine lv_bipush (v := 6) hx hb dL_law_27 (by decide) ?_
    refine lv_isub hx hb dL_law_29 ?_
    refine lv_icmp_gt (tgt := 1486) hx hb dL_law_30 (by decide) (fun c_1 => ?_) (fun c_1 => ?_)
    · refine lv_iconst (v := 1) hx hb dL_law_1486 (by decide) ?_
      refine va_forget (fun q hq => hS.2.2 q hq) ?_
      refine W.widen (k := 600128) (n := 7301098) (by omega) (by omega) ?_
      exact lw_ret hx hb hr hlk dL_law_1487
    · have hi : 6 * i + 6 ≤ Lx := by
        have h9 : ¬ Lx < 6 * i + 6 := fun z => c_1 ((i32_len (L := Lx) (i := 6 * i) hL (by omega)).mpr z)
        omega
      have kk : ∀ (σ' : Mem) (o' : Int64) (H1 : Heap) (locs1 : List Loc) (c1 s1 : Nat) (ls' : Array Slot), INV σ' σ' → WP D cA ad o' σ' H1 → va_S (fun q => s.heap.size ≤ q) s.heap H1 locs1 → c1 ≤ cells + 1 → s1 ≤ slots + 6 → lv_has ls' 8 [(0, .ref b), (1, .ref (ad 66)), (2, .ref (ad 91)), (3, .ref (ad 105)), (4, .int (nI (6 * i)))] → W p l e room_1 s m #[Value.ref b] below meth c H1 locs1 c1 s1 (lw_Z below #[Value.ref b] s) (F0 m 1480 ls' []) := by
        intro σ' o' H1 locs1 c1 s1 ls' I' P' S' hc' hs' hl'
        refine lv_iinc (v := nI (6 * (i + 1))) (lv' := [(4, .int (nI (6 * (i + 1)))), (0, .ref b), (1, .ref (ad 66)), (2, .ref (ad 91)), (3, .ref (ad 105))]) hx hb dL_law_1480 hl' (k := 4) rfl (by rw [show 6 * (i + 1) = 6 * i + 6 by omega]; exact nI_add (6 * i) 6) (by decide) rfl (fun ls hl => ?_)
        refine lv_goto (tgt := 23) hx hb dL_law_1483 (by decide) ?_
        exact ih (i + 1) o' σ' H1 locs1 c1 s1 ls (by omega) (by omega) P' I' S' (lv_sub hl [1, 2, 3, 4, 0] rfl) (by omega) (by omega)
      have hc' : cells ≤ 600000 := by omega
      have hs' : slots ≤ 7300000 := by omega
      refine lv_aload_n hx hb dL_law_33 rfl (lv_at hl 0 rfl) ?_
      refine lv_iload hx hb dL_law_34 (lv_at hl 4 rfl) ?_
      refine va_sld (xs := xs) hx hb hX hbl hbA hS (vp_in_nI (by omega) (by omega)) dL_law_36 ?_
      refine lv_bipush (v := 63) hx hb dL_law_37 (by decide) ?_
      refine lv_iand hx hb dL_law_39 ?_
      refine lv_topi (fun y ey => ?_)
      rcases sw_in (x := y) (lo := 0) (n := 37) with hn | ⟨j, hj, hn⟩
      · refine lv_tableOut (tgt := 1480) hx hb dL_law_40 (by omega) (by decide) ?_
        exact kk _ _ _ _ _ _ _ hI hP hS (Nat.le_add_right _ _) (Nat.le_add_right _ _) hl
      · rcases (show j = 0 ∨ j = 1 ∨ j = 2 ∨ j = 3 ∨ j = 4 ∨ j = 5 ∨ j = 6 ∨ j = 7 ∨ j = 8 ∨ j = 9 ∨ j = 10 ∨ j = 11 ∨ j = 12 ∨ j = 13 ∨ j = 14 ∨ j = 15 ∨ j = 16 ∨ j = 17 ∨ j = 18 ∨ j = 19 ∨ j = 20 ∨ j = 21 ∨ j = 22 ∨ j = 23 ∨ j = 24 ∨ j = 25 ∨ j = 26 ∨ j = 27 ∨ j = 28 ∨ j = 29 ∨ j = 30 ∨ j = 31 ∨ j = 32 ∨ j = 33 ∨ j = 34 ∨ j = 35 ∨ j = 36 by omega) with rfl | rfl | rfl | rfl | rfl | rfl | rfl | rfl | rfl | rfl | rfl | rfl | rfl | rfl | rfl | rfl | rfl | rfl | rfl | rfl | rfl | rfl | rfl | rfl | rfl | rfl | rfl | rfl | rfl | rfl | rfl | rfl | rfl | rfl | rfl | rfl | rfl
        · have ex : y = 0 := sw_eq hn (by decide)
          refine lv_tableIn (off := 164) (tgt := 204) hx hb dL_law_40 (by rw [ex]; decide) (by rw [ex]; decide) (by rw [ex]; rfl) (by decide) ?_
          exact law_c0 hfl C0 hX hi hL hbl X hZ hP hI hS hl hc' hs' kk
        · have ex : y = 1 := sw_eq hn (by decide)
          refine lv_tableIn (off := 189) (tgt := 229) hx hb dL_law_40 (by rw [ex]; decide) (by rw [ex]; decide) (by rw [ex]; rfl) (by decide) ?_
          exact law_c1 hfl C0 hX hi hL hbl X hZ hP hI hS hl hc' hs' kk
        · have ex : y = 2 := sw_eq hn (by decide)
          refine lv_tableIn (off := 226) (tgt := 266) hx hb dL_law_40 (by rw [ex]; decide) (by rw [ex]; decide) (by rw [ex]; rfl) (by decide) ?_
          exact law_c2 hfl C0 hX hi hL hbl X hZ hP hI hS hl hc' hs' kk
        · have ex : y = 3 := sw_eq hn (by decide)
          refine lv_tableIn (off := 251) (tgt := 291) hx hb dL_law_40 (by rw [ex]; decide) (by rw [ex]; decide) (by rw [ex]; rfl) (by decide) ?_
          exact law_c3 hfl C0 hX hi hL hbl X hZ hP hI hS hl hc' hs' kk
        · have ex : y = 4 := sw_eq hn (by decide)
          refine lv_tableIn (off := 288) (tgt := 328) hx hb dL_law_40 (by rw [ex]; decide) (by rw [ex]; decide) (by rw [ex]; rfl) (by decide) ?_
          exact law_c4 hfl C0 hX hi hL hbl X hZ hP hI hS hl hc' hs' kk
        · have ex : y = 5 := sw_eq hn (by decide)
          refine lv_tableIn (off := 325) (tgt := 365) hx hb dL_law_40 (by rw [ex]; decide) (by rw [ex]; decide) (by rw [ex]; rfl) (by decide) ?_
          exact law_c5 hfl C0 hX hi hL hbl X hZ hP hI hS hl hc' hs' kk
        · have ex : y = 6 := sw_eq hn (by decide)
          refine lv_tableIn (off := 362) (tgt := 402) hx hb dL_law_40 (by rw [ex]; decide) (by rw [ex]; decide) (by rw [ex]; rfl) (by decide) ?_
          exact law_c6 hfl C0 hX hi hL hbl X hZ hP hI hS hl hc' hs' kk
        · have ex : y = 7 := sw_eq hn (by decide)
          refine lv_tableIn (off := 399) (tgt := 439) hx hb dL_law_40 (by rw [ex]; decide) (by rw [ex]; decide) (by rw [ex]; rfl) (by decide) ?_
          exact law_c7 hfl C0 hX hi hL hbl X hZ hP hI hS hl hc' hs' kk
        · have ex : y = 8 := sw_eq hn (by decide)
          refine lv_tableIn (off := 424) (tgt := 464) hx hb dL_law_40 (by rw [ex]; decide) (by rw [ex]; decide) (by rw [ex]; rfl) (by decide) ?_
          exact law_c8 hfl C0 hX hi hL hbl X hZ hP hI hS hl hc' hs' kk
        · have ex : y = 9 := sw_eq hn (by decide)
          refine lv_tableIn (off := 437) (tgt := 477) hx hb dL_law_40 (by rw [ex]; decide) (by rw [ex]; decide) (by rw [ex]; rfl) (by decide) ?_
          exact law_c9 hfl C0 hX hi hL hbl X hZ hP hI hS hl hc' hs' kk
        · have ex : y = 10 := sw_eq hn (by decide)
          refine lv_tableIn (off := 474) (tgt := 514) hx hb dL_law_40 (by rw [ex]; decide) (by rw [ex]; decide) (by rw [ex]; rfl) (by decide) ?_
          exact law_c10 hfl C0 hX hi hL hbl X hZ hP hI hS hl hc' hs' kk
        · have ex : y = 11 := sw_eq hn (by decide)
          refine lv_tableIn (off := 499) (tgt := 539) hx hb dL_law_40 (by rw [ex]; decide) (by rw [ex]; decide) (by rw [ex]; rfl) (by decide) ?_
          exact law_c11 hfl C0 hX hi hL hbl X hZ hP hI hS hl hc' hs' kk
        · have ex : y = 12 := sw_eq hn (by decide)
          refine lv_tableIn (off := 524) (tgt := 564) hx hb dL_law_40 (by rw [ex]; decide) (by rw [ex]; decide) (by rw [ex]; rfl) (by decide) ?_
          exact law_c12 hfl C0 hX hi hL hbl X hZ hP hI hS hl hc' hs' kk
        · have ex : y = 13 := sw_eq hn (by decide)
          refine lv_tableIn (off := 573) (tgt := 613) hx hb dL_law_40 (by rw [ex]; decide) (by rw [ex]; decide) (by rw [ex]; rfl) (by decide) ?_
          exact law_c13 hfl C0 hX hi hL hbl X hZ hP hI hS hl hc' hs' kk
        · have ex : y = 14 := sw_eq hn (by decide)
          refine lv_tableIn (off := 610) (tgt := 650) hx hb dL_law_40 (by rw [ex]; decide) (by rw [ex]; decide) (by rw [ex]; rfl) (by decide) ?_
          exact law_c14 hfl C0 hX hi hL hbl X hZ hP hI hS hl hc' hs' kk
        · have ex : y = 15 := sw_eq hn (by decide)
          refine lv_tableIn (off := 647) (tgt := 687) hx hb dL_law_40 (by rw [ex]; decide) (by rw [ex]; decide) (by rw [ex]; rfl) (by decide) ?_
          exact law_c15 hfl C0 hX hi hL hbl X hZ hP hI hS hl hc' hs' kk
        · have ex : y = 16 := sw_eq hn (by decide)
          refine lv_tableIn (off := 672) (tgt := 712) hx hb dL_law_40 (by rw [ex]; decide) (by rw [ex]; decide) (by rw [ex]; rfl) (by decide) ?_
          exact law_c16 hfl C0 hX hi hL hbl X hZ hP hI hS hl hc' hs' kk
        · have ex : y = 17 := sw_eq hn (by decide)
          refine lv_tableIn (off := 697) (tgt := 737) hx hb dL_law_40 (by rw [ex]; decide) (by rw [ex]; decide) (by rw [ex]; rfl) (by decide) ?_
          exact law_c17 hfl C0 hX hi hL hbl X hZ hP hI hS hl hc' hs' kk
        · have ex : y = 18 := sw_eq hn (by decide)
          refine lv_tableIn (off := 722) (tgt := 762) hx hb dL_law_40 (by rw [ex]; decide) (by rw [ex]; decide) (by rw [ex]; rfl) (by decide) ?_
          exact law_c18 hfl C0 hX hi hL hbl X hZ hP hI hS hl hc' hs' kk
        · have ex : y = 19 := sw_eq hn (by decide)
          refine lv_tableIn (off := 759) (tgt := 799) hx hb dL_law_40 (by rw [ex]; decide) (by rw [ex]; decide) (by rw [ex]; rfl) (by decide) ?_
          exact law_c19 hfl C0 hX hi hL hbl X hZ hP hI hS hl hc' hs' kk
        · have ex : y = 20 := sw_eq hn (by decide)
          refine lv_tableIn (off := 772) (tgt := 812) hx hb dL_law_40 (by rw [ex]; decide) (by rw [ex]; decide) (by rw [ex]; rfl) (by decide) ?_
          exact law_c20 hfl C0 hX hi hL hbl X hZ hP hI hS hl hc' hs' kk
        · have ex : y = 21 := sw_eq hn (by decide)
          refine lv_tableIn (off := 797) (tgt := 837) hx hb dL_law_40 (by rw [ex]; decide) (by rw [ex]; decide) (by rw [ex]; rfl) (by decide) ?_
          exact law_c21 hfl C0 hX hi hL hbl X hZ hP hI hS hl hc' hs' kk
        · have ex : y = 22 := sw_eq hn (by decide)
          refine lv_tableIn (off := 822) (tgt := 862) hx hb dL_law_40 (by rw [ex]; decide) (by rw [ex]; decide) (by rw [ex]; rfl) (by decide) ?_
          exact law_c22 hfl C0 hX hi hL hbl X hZ hP hI hS hl hc' hs' kk
        · have ex : y = 23 := sw_eq hn (by decide)
          refine lv_tableIn (off := 847) (tgt := 887) hx hb dL_law_40 (by rw [ex]; decide) (by rw [ex]; decide) (by rw [ex]; rfl) (by decide) ?_
          exact law_c23 hfl C0 hX hi hL hbl X hZ hP hI hS hl hc' hs' kk
        · have ex : y = 24 := sw_eq hn (by decide)
          refine lv_tableIn (off := 896) (tgt := 936) hx hb dL_law_40 (by rw [ex]; decide) (by rw [ex]; decide) (by rw [ex]; rfl) (by decide) ?_
          exact law_c24 hfl C0 hX hi hL hbl X hZ hP hI hS hl hc' hs' kk
        · have ex : y = 25 := sw_eq hn (by decide)
          refine lv_tableIn (off := 933) (tgt := 973) hx hb dL_law_40 (by rw [ex]; decide) (by rw [ex]; decide) (by rw [ex]; rfl) (by decide) ?_
          exact law_c25 hfl C0 hX hi hL hbl X hZ hP hI hS hl hc' hs' kk
        · have ex : y = 26 := sw_eq hn (by decide)
          refine lv_tableIn (off := 1006) (tgt := 1046) hx hb dL_law_40 (by rw [ex]; decide) (by rw [ex]; decide) (by rw [ex]; rfl) (by decide) ?_
          exact law_c26 hfl C0 hX hi hL hbl X hZ hP hI hS hl hc' hs' kk
        · have ex : y = 27 := sw_eq hn (by decide)
          refine lv_tableIn (off := 1067) (tgt := 1107) hx hb dL_law_40 (by rw [ex]; decide) (by rw [ex]; decide) (by rw [ex]; rfl) (by decide) ?_
          exact law_c27 hfl C0 hX hi hL hbl X hZ hP hI hS hl hc' hs' kk
        · have ex : y = 28 := sw_eq hn (by decide)
          refine lv_tableIn (off := 1080) (tgt := 1120) hx hb dL_law_40 (by rw [ex]; decide) (by rw [ex]; decide) (by rw [ex]; rfl) (by decide) ?_
          exact law_c28 hfl C0 hX hi hL hbl X hZ hP hI hS hl hc' hs' kk
        · have ex : y = 29 := sw_eq hn (by decide)
          refine lv_tableIn (off := 1093) (tgt := 1133) hx hb dL_law_40 (by rw [ex]; decide) (by rw [ex]; decide) (by rw [ex]; rfl) (by decide) ?_
          exact law_c29 hfl C0 hX hi hL hbl X hZ hP hI hS hl hc' hs' kk
        · have ex : y = 30 := sw_eq hn (by decide)
          refine lv_tableIn (off := 1118) (tgt := 1158) hx hb dL_law_40 (by rw [ex]; decide) (by rw [ex]; decide) (by rw [ex]; rfl) (by decide) ?_
          exact law_c30 hfl C0 hX hi hL hbl X hZ hP hI hS hl hc' hs' kk
        · have ex : y = 31 := sw_eq hn (by decide)
          refine lv_tableIn (off := 1179) (tgt := 1219) hx hb dL_law_40 (by rw [ex]; decide) (by rw [ex]; decide) (by rw [ex]; rfl) (by decide) ?_
          exact law_c31 hfl C0 hX hi hL hbl X hZ hP hI hS hl hc' hs' kk
        · have ex : y = 32 := sw_eq hn (by decide)
          refine lv_tableIn (off := 1228) (tgt := 1268) hx hb dL_law_40 (by rw [ex]; decide) (by rw [ex]; decide) (by rw [ex]; rfl) (by decide) ?_
          exact law_c32 hfl C0 hX hi hL hbl X hZ hP hI hS hl hc' hs' kk
        · have ex : y = 33 := sw_eq hn (by decide)
          refine lv_tableIn (off := 1277) (tgt := 1317) hx hb dL_law_40 (by rw [ex]; decide) (by rw [ex]; decide) (by rw [ex]; rfl) (by decide) ?_
          exact law_c33 hfl C0 hX hi hL hbl X hZ hP hI hS hl hc' hs' kk
        · have ex : y = 34 := sw_eq hn (by decide)
          refine lv_tableIn (off := 1317) (tgt := 1357) hx hb dL_law_40 (by rw [ex]; decide) (by rw [ex]; decide) (by rw [ex]; rfl) (by decide) ?_
          exact law_c34 hfl C0 hX hi hL hbl X hZ hP hI hS hl hc' hs' kk
        · have ex : y = 35 := sw_eq hn (by decide)
          refine lv_tableIn (off := 1390) (tgt := 1430) hx hb dL_law_40 (by rw [ex]; decide) (by rw [ex]; decide) (by rw [ex]; rfl) (by decide) ?_
          exact law_c35 hfl C0 hX hi hL hbl X hZ hP hI hS hl hc' hs' kk
        · have ex : y = 36 := sw_eq hn (by decide)
          refine lv_tableIn (off := 1415) (tgt := 1455) hx hb dL_law_40 (by rw [ex]; decide) (by rw [ex]; decide) (by rw [ex]; rfl) (by decide) ?_
          exact law_c36 hfl C0 hX hi hL hbl X hZ hP hI hS hl hc' hs' kk
