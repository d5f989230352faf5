set_option maxHeartbeats 1000000 in
set_option maxRecDepth 100000 in
theorem lw_loop {p : Program} {l : Launch} {e : Env} {s : State} {m : MethodId} {below : List Frame} {meth : Method} {c : Code} {b L : Nat} {xs : Nat → Int32} (C0 : lw_At p s m meth c b L xs) (hL : L ≤ 2048) {dC : Nat → ClassId} {dI : Nat → Nat → Nat} {h0 qd qs qv : Nat} {cI cJ : ClassId} {h1 md ms mv mh mn : Nat} {cI2 cJ2 : ClassId} (hK : va_K (dC, dI) classes [(cI, .int), (cJ, .long), (cI2, .int), (cJ2, .long)] s) : ∀ (f i n : Nat) (u1 : XS) (u2 : MS) (ls : Array Slot) (H : Heap) (locs : List Loc), L ≤ i + 4 * f → i ≤ 3000 → n + 2 * f ≤ 3000 → Rl u1 u2 n → lv_has ls 4 [(0, .ref b), (1, .ref h0), (2, .ref h1), (3, .int (nI i))] → va_P (dC, dI) classes (Xw h0 qd qs qv cI cJ u1 ++ Mw h1 md ms mv mh mn cI2 cJ2 u2) H → va_D (fun q => s.heap.size ≤ q) (Xw h0 qd qs qv cI cJ u1 ++ Mw h1 md ms mv mh mn cI2 cJ2 u2) → va_S (fun q => s.heap.size ≤ q) s.heap H locs → W p l e room_1 s m #[Value.ref b] below meth c H locs 10 275 (lw_Z below #[Value.ref b] s) (F0 m 18 ls []) := by
  have C1 := C0
  obtain ⟨hx, hb, hr, hml, hown, hts0, hX, hbl, hlocks, hgv⟩ := C0
  have hts := fun (w : Cond) (h : w ∈ lw_U) => hts0 w (List.mem_filter.mp h).1
  have hbA : ¬ (fun q => s.heap.size ≤ q) b := Nat.not_le.mpr hbl
  have hA : ∀ q : Nat, s.heap.size ≤ q → (fun q => s.heap.size ≤ q) q := fun q h => h
  have hend : ∀ (i : Nat) (u1 : XS) (u2 : MS) (ls : Array Slot) (H : Heap) (locs : List Loc), ¬ i + 4 ≤ L → i ≤ 3000 → lv_has ls 4 [(0, .ref b), (1, .ref h0), (2, .ref h1), (3, .int (nI i))] → va_P (dC, dI) classes (Xw h0 qd qs qv cI cJ u1 ++ Mw h1 md ms mv mh mn cI2 cJ2 u2) H → va_D (fun q => s.heap.size ≤ q) (Xw h0 qd qs qv cI cJ u1 ++ Mw h1 md ms mv mh mn cI2 cJ2 u2) → va_S (fun q => s.heap.size ≤ q) s.heap H locs → W p l e room_1 s m #[Value.ref b] below meth c H locs 10 275 (lw_Z below #[Value.ref b] s) (F0 m 18 ls []) := by
    intro i u1 u2 ls H locs h4 hi hl hP hD hS
    refine lv_iload_n hx hb d_law_18 rfl (lv_at hl 3 rfl) ?_
    refine lv_aload_n hx hb d_law_19 rfl (lv_at hl 0 rfl) ?_
    refine va_slen hx hb hX hbl hbA hS d_law_20 ?_
    refine lv_iconst (v := nI 4) hx hb d_law_21 (by decide) ?_
    refine lv_isub hx hb d_law_22 ?_
    refine z_top rfl ?_
    refine lv_icmp_gt (tgt := 386) hx hb d_law_23 (by decide) (fun _ => ?_) (fun h9 => absurd (z_end h4 hL (by omega)) h9)
    refine lv_iconst (v := (1 : Int32)) hx hb d_law_386 (by decide) ?_
    refine va_forget hS.2.2 ?_
    refine W.widen (k := 10) (n := 275) (by decide) (by decide) ?_
    exact lw_ret hx hb hr hlocks d_law_387
  intro f
  induction f with
  | zero => exact fun i n u1 u2 ls H locs hf hi hn hRl hl hP hD hS => hend i u1 u2 ls H locs (by omega) hi hl hP hD hS
  | succ f ih =>
    intro i n u1 u2 ls H locs hf hi hn hRl hl hP hD hS
    by_cases h4 : i + 4 ≤ L
    · have next : ∀ (u1 : XS) (u2 : MS) (ls : Array Slot) (H : Heap) (locs : List Loc), Rl u1 u2 (n + 2) → lv_has ls 4 [(0, .ref b), (1, .ref h0), (2, .ref h1), (3, .int (nI i))] → va_P (dC, dI) classes (Xw h0 qd qs qv cI cJ u1 ++ Mw h1 md ms mv mh mn cI2 cJ2 u2) H → va_D (fun q => s.heap.size ≤ q) (Xw h0 qd qs qv cI cJ u1 ++ Mw h1 md ms mv mh mn cI2 cJ2 u2) → va_S (fun q => s.heap.size ≤ q) s.heap H locs → W p l e room_1 s m #[Value.ref b] below meth c H locs 10 275 (lw_Z below #[Value.ref b] s) (F0 m 380 ls []) := by
        intro u1 u2 ls H locs hRl hl hP hD hS
        refine lv_iinc (k := 3) hx hb d_law_380 hl rfl (z_inc _ 4) (by decide) rfl (fun ls hl => ?_)
        have hl : lv_has ls 4 [(3, .int (nI (i + 4))), (0, .ref b), (1, .ref h0), (2, .ref h1)] := hl
        refine lv_goto (tgt := 18) hx hb d_law_383 (by decide) ?_
        exact ih (i + 4) (n + 2) u1 u2 ls H locs (by omega) (by omega) (by omega) hRl (lv_sub hl [1, 2, 3, 0] rfl) hP hD hS
      refine lv_iload_n hx hb d_law_18 rfl (lv_at hl 3 rfl) ?_
      refine lv_aload_n hx hb d_law_19 rfl (lv_at hl 0 rfl) ?_
      refine va_slen hx hb hX hbl hbA hS d_law_20 ?_
      refine lv_iconst (v := nI 4) hx hb d_law_21 (by decide) ?_
      refine lv_isub hx hb d_law_22 ?_
      refine z_top (pk_sub (by omega)) ?_
      refine lv_icmp_gt (tgt := 386) hx hb d_law_23 (by decide) (fun h9 => absurd h9 (fun q => absurd ((nI_ltI (by omega) (by omega)).mp q) (by omega))) (fun _ => ?_)
      refine lv_aload_n hx hb d_law_26 rfl (lv_at hl 0 rfl) ?_
      refine lv_iload_n hx hb d_law_27 rfl (lv_at hl 3 rfl) ?_
      refine z_sld hx hb hX hbl hbA hS (by omega) (by omega) d_law_28 ?_
      refine lv_bipush (v := (15 : Int32)) hx hb d_law_29 (by decide) ?_
      refine lv_iand hx hb d_law_31 ?_
      obtain ⟨j, hj, ej⟩ := pk_andE (xs i) (m := 15) 4 (by decide)
      refine z_top ej ?_
      rcases (show j = 0 ∨ j = 1 ∨ j = 2 ∨ j = 3 ∨ j = 4 ∨ j = 5 ∨ j = 6 ∨ j = 7 ∨ j = 8 ∨ j = 9 ∨ j = 10 ∨ j = 11 ∨ j = 12 ∨ j = 13 ∨ j = 14 ∨ j = 15 by omega) with rfl | rfl | rfl | rfl | rfl | rfl | rfl | rfl | rfl | rfl | rfl | rfl | rfl | rfl | rfl | rfl
      · refine lv_tableIn (tgt := 100) hx hb d_law_32 (by decide) (by decide) rfl (by decide) ?_
        exact lw_case0 C1 hL hbA hA hK h4 (by omega) hRl hl hP hD hS next
      · refine lv_tableIn (tgt := 113) hx hb d_law_32 (by decide) (by decide) rfl (by decide) ?_
        exact lw_case1 C1 hL hbA hA hK h4 (by omega) hRl hl hP hD hS next
      · refine lv_tableIn (tgt := 136) hx hb d_law_32 (by decide) (by decide) rfl (by decide) ?_
        exact lw_case2 C1 hL hbA hA hK h4 (by omega) hRl hl hP hD hS next
      · refine lv_tableIn (tgt := 149) hx hb d_law_32 (by decide) (by decide) rfl (by decide) ?_
        exact lw_case3 C1 hL hbA hA hK h4 (by omega) hRl hl hP hD hS next
      · refine lv_tableIn (tgt := 212) hx hb d_law_32 (by decide) (by decide) rfl (by decide) ?_
        exact lw_case4 C1 hL hbA hA hK h4 (by omega) hRl hl hP hD hS next
      · refine lv_tableIn (tgt := 236) hx hb d_law_32 (by decide) (by decide) rfl (by decide) ?_
        exact lw_case5 C1 hL hbA hA hK h4 (by omega) hRl hl hP hD hS next
      · refine lv_tableIn (tgt := 249) hx hb d_law_32 (by decide) (by decide) rfl (by decide) ?_
        exact lw_case6 C1 hL hbA hA hK h4 (by omega) hRl hl hP hD hS next
      · refine lv_tableIn (tgt := 262) hx hb d_law_32 (by decide) (by decide) rfl (by decide) ?_
        exact lw_case7 C1 hL hbA hA hK h4 (by omega) hRl hl hP hD hS next
      · refine lv_tableIn (tgt := 295) hx hb d_law_32 (by decide) (by decide) rfl (by decide) ?_
        exact lw_case8 C1 hL hbA hA hK h4 (by omega) hRl hl hP hD hS next
      · refine lv_tableIn (tgt := 318) hx hb d_law_32 (by decide) (by decide) rfl (by decide) ?_
        exact lw_case9 C1 hL hbA hA hK h4 (by omega) hRl hl hP hD hS next
      · refine lv_tableIn (tgt := 341) hx hb d_law_32 (by decide) (by decide) rfl (by decide) ?_
        exact lw_case10 C1 hL hbA hA hK h4 (by omega) hRl hl hP hD hS next
      · refine lv_tableIn (tgt := 354) hx hb d_law_32 (by decide) (by decide) rfl (by decide) ?_
        exact lw_case11 C1 hL hbA hA hK h4 (by omega) hRl hl hP hD hS next
      · refine lv_tableIn (tgt := 367) hx hb d_law_32 (by decide) (by decide) rfl (by decide) ?_
        exact lw_case12 C1 hL hbA hA hK h4 (by omega) hRl hl hP hD hS next
      · refine lv_tableOut (tgt := 380) hx hb d_law_32 (Or.inr (by decide)) (by decide) ?_
        exact next u1 u2 ls H locs (Rl_up (Rl_up hRl)) hl hP hD hS
      · refine lv_tableOut (tgt := 380) hx hb d_law_32 (Or.inr (by decide)) (by decide) ?_
        exact next u1 u2 ls H locs (Rl_up (Rl_up hRl)) hl hP hD hS
      · refine lv_tableOut (tgt := 380) hx hb d_law_32 (Or.inr (by decide)) (by decide) ?_
        exact next u1 u2 ls H locs (Rl_up (Rl_up hRl)) hl hP hD hS
    · exact hend i u1 u2 ls H locs h4 hi hl hP hD hS
