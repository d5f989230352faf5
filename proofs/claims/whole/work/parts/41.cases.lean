set_option maxHeartbeats 1000000 in
set_option maxRecDepth 100000 in
theorem lw_case0 {p : Program} {l : Launch} {e : Env} {s : State} {m : MethodId} {below : List Frame} {meth : Method} {c : Code} {b L : Nat} {xs : Nat → Int32} (C0 : lw_At p s m meth c b L xs) (hL : L ≤ 2048) {dC : Nat → ClassId} {dI : Nat → Nat → Nat} {h0 qd qs qv : Nat} {cI cJ : ClassId} {h1 md ms mv mh mn : Nat} {cI2 cJ2 : ClassId} {A : Nat → Prop} (hbA : ¬ A b) (hA : ∀ q, s.heap.size ≤ q → A q) (hK : va_K (dC, dI) classes [(cI, .int), (cJ, .long), (cI2, .int), (cJ2, .long)] s) {i n : Nat} (hi : i + 4 ≤ L) (hn : n ≤ 100000) {u1 : XS} {u2 : MS} (hRl : Rl u1 u2 n) {ls : Array Slot} {H : Heap} {locs : List Loc} (hl : lv_has ls 4 [(0, .ref b), (1, .ref h0), (2, .ref h1), (3, .int (nI i))]) (hP : va_P (dC, dI) classes (Xw h0 qd qs qv cI cJ u1 ++ Mw h1 md ms mv mh mn cI2 cJ2 u2) H) (hD : va_D A (Xw h0 qd qs qv cI cJ u1 ++ Mw h1 md ms mv mh mn cI2 cJ2 u2)) (hS : va_S A s.heap H locs) (kk : ∀ (u1 : XS) (u2 : MS) (ls : Array Slot) (H : Heap) (locs : List Loc), Rl u1 u2 (n + 2) → lv_has ls 4 [(0, .ref b), (1, .ref h0), (2, .ref h1), (3, .int (nI i))] → va_P (dC, dI) classes (Xw h0 qd qs qv cI cJ u1 ++ Mw h1 md ms mv mh mn cI2 cJ2 u2) H → va_D A (Xw h0 qd qs qv cI cJ u1 ++ Mw h1 md ms mv mh mn cI2 cJ2 u2) → va_S A s.heap H locs → W p l e room_1 s m #[Value.ref b] below meth c H locs 10 275 (lw_Z below #[Value.ref b] s) (F0 m 380 ls [])) : W p l e room_1 s m #[Value.ref b] below meth c H locs 10 275 (lw_Z below #[Value.ref b] s) (F0 m 100 ls []) := by
  obtain ⟨hx, hb, hr, hml, hown, hts0, hX, hbl, hlocks, hgv⟩ := C0
  have hts := fun (w : Cond) (h : w ∈ lw_U) => hts0 w (List.mem_filter.mp h).1
  obtain ⟨dk, hf, gn, rt, ct, sl, sm, pw, ln, lq, vq, ch, cu, lk, lq2, vq2, hs, nd, rfl, rfl, hR⟩ := hRl
  have h_f := hR.1
  have h_n := hR.2.1
  refine lv_aload_n hx hb d_law_100 rfl (lv_at hl 1 rfl) ?_
  have hPc := hP.sub (ws' := Xw h0 qd qs qv cI cJ (dk, hf, gn, rt, ct, sl, sm, pw, ln, lq, vq, ch)) [0, 1, 2, 3] rfl
  have hDc := hD.sub (ws' := Xw h0 qd qs qv cI cJ (dk, hf, gn, rt, ct, sl, sm, pw, ln, lq, vq, ch)) [0, 1, 2, 3] (by decide) rfl
  have hKc := hK.sub (tys' := [(cI, .int), (cJ, .long)]) [0, 1] rfl
  refine z_lawi (wr := Mw h1 md ms mv mh mn cI2 cJ2 (dk, hf, gn, rt, ct, pw, sl, sm, cu, ln, lk, lq2, vq2, hs, nd)) [0, 1, 2, 3] [4, 5, 6, 7, 8, 9] (va_runV (C := R_X) (b := h0) (As := []) (rest := []) ⟨hx, hb, hml, hown, hts⟩ (c_mount l dC dI h0 qd qs qv cI cJ _ dk hf gn rt ct sl sm pw ln lq vq ch  (by omega)) (cwV 0 hts g_law_13 rfl rfl rfl (by decide +kernel) ⟨(Nat.le_of_ble_eq_true rfl), (Nat.le_of_ble_eq_true rfl)⟩) (z_preV (va_recv (q0 := 0) hKc hPc rfl rfl) hPc hKc hDc) rfl rfl hl.1 rfl (lv_room (Nat.le_of_ble_eq_true rfl)) d_law_101 ⟨(Nat.le_of_ble_eq_true rfl), (Nat.le_of_ble_eq_true rfl)⟩) rfl rfl (by decide) (by decide) hS hP hD hA (fun r1 u1 H locs hr1 hP hD hS => ?_)
  have hP := hP.sub (ws' := Xw h0 qd qs qv cI cJ u1 ++ Mw h1 md ms mv mh mn cI2 cJ2 (dk, hf, gn, rt, ct, pw, sl, sm, cu, ln, lk, lq2, vq2, hs, nd)) [6, 7, 8, 9, 0, 1, 2, 3, 4, 5] rfl
  have hD := hD.sub (ws' := Xw h0 qd qs qv cI cJ u1 ++ Mw h1 md ms mv mh mn cI2 cJ2 (dk, hf, gn, rt, ct, pw, sl, sm, cu, ln, lk, lq2, vq2, hs, nd)) [6, 7, 8, 9, 0, 1, 2, 3, 4, 5] (by decide) rfl
  refine lv_aload_n hx hb d_law_104 rfl (lv_at hl 2 rfl) ?_
  have hPc := hP.sub (ws' := Mw h1 md ms mv mh mn cI2 cJ2 (dk, hf, gn, rt, ct, pw, sl, sm, cu, ln, lk, lq2, vq2, hs, nd)) [4, 5, 6, 7, 8, 9] rfl
  have hDc := hD.sub (ws' := Mw h1 md ms mv mh mn cI2 cJ2 (dk, hf, gn, rt, ct, pw, sl, sm, cu, ln, lk, lq2, vq2, hs, nd)) [4, 5, 6, 7, 8, 9] (by decide) rfl
  have hKc := hK.sub (tys' := [(cI2, .int), (cJ2, .long)]) [2, 3] rfl
  refine z_lawi (wr := Xw h0 qd qs qv cI cJ u1) [4, 5, 6, 7, 8, 9] [0, 1, 2, 3] (va_runV (C := R_M) (b := h1) (As := []) (rest := [.int r1]) ⟨hx, hb, hml, hown, hts⟩ (mc_mount l dC dI h1 md ms mv mh mn cI2 cJ2 _ dk hf gn rt ct pw sl sm cu ln lk lq2 vq2 hs nd  (by omega)) (cwV 0 hts g_law_17 rfl rfl rfl (by decide +kernel) ⟨(Nat.le_of_ble_eq_true rfl), (Nat.le_of_ble_eq_true rfl)⟩) (z_preV (va_recv (q0 := 0) hKc hPc rfl rfl) hPc hKc hDc) rfl rfl hl.1 rfl (lv_room (Nat.le_of_ble_eq_true rfl)) d_law_105 ⟨(Nat.le_of_ble_eq_true rfl), (Nat.le_of_ble_eq_true rfl)⟩) rfl rfl (by decide) (by decide) hS hP hD hA (fun r2 u2 H locs hr2 hP hD hS => ?_)
  have hP : va_P (dC, dI) classes (Xw h0 qd qs qv cI cJ u1 ++ Mw h1 md ms mv mh mn cI2 cJ2 u2) H := hP
  have hD : va_D A (Xw h0 qd qs qv cI cJ u1 ++ Mw h1 md ms mv mh mn cI2 cJ2 u2) := hD
  obtain ⟨he, hRl⟩ := rl_mount hR hr1 hr2
  refine lv_icmp_eq (tgt := 380) hx hb d_law_108 (by decide) (fun _ => ?_) (fun h9 => absurd he h9)
  exact kk _ _ ls _ _ (Rl_up hRl) hl hP hD hS
set_option maxHeartbeats 1000000 in
set_option maxRecDepth 100000 in
theorem lw_case1 {p : Program} {l : Launch} {e : Env} {s : State} {m : MethodId} {below : List Frame} {meth : Method} {c : Code} {b L : Nat} {xs : Nat → Int32} (C0 : lw_At p s m meth c b L xs) (hL : L ≤ 2048) {dC : Nat → ClassId} {dI : Nat → Nat → Nat} {h0 qd qs qv : Nat} {cI cJ : ClassId} {h1 md ms mv mh mn : Nat} {cI2 cJ2 : ClassId} {A : Nat → Prop} (hbA : ¬ A b) (hA : ∀ q, s.heap.size ≤ q → A q) (hK : va_K (dC, dI) classes [(cI, .int), (cJ, .long), (cI2, .int), (cJ2, .long)] s) {i n : Nat} (hi : i + 4 ≤ L) (hn : n ≤ 100000) {u1 : XS} {u2 : MS} (hRl : Rl u1 u2 n) {ls : Array Slot} {H : Heap} {locs : List Loc} (hl : lv_has ls 4 [(0, .ref b), (1, .ref h0), (2, .ref h1), (3, .int (nI i))]) (hP : va_P (dC, dI) classes (Xw h0 qd qs qv cI cJ u1 ++ Mw h1 md ms mv mh mn cI2 cJ2 u2) H) (hD : va_D A (Xw h0 qd qs qv cI cJ u1 ++ Mw h1 md ms mv mh mn cI2 cJ2 u2)) (hS : va_S A s.heap H locs) (kk : ∀ (u1 : XS) (u2 : MS) (ls : Array Slot) (H : Heap) (locs : List Loc), Rl u1 u2 (n + 2) → lv_has ls 4 [(0, .ref b), (1, .ref h0), (2, .ref h1), (3, .int (nI i))] → va_P (dC, dI) classes (Xw h0 qd qs qv cI cJ u1 ++ Mw h1 md ms mv mh mn cI2 cJ2 u2) H → va_D A (Xw h0 qd qs qv cI cJ u1 ++ Mw h1 md ms mv mh mn cI2 cJ2 u2) → va_S A s.heap H locs → W p l e room_1 s m #[Value.ref b] below meth c H locs 10 275 (lw_Z below #[Value.ref b] s) (F0 m 380 ls [])) : W p l e room_1 s m #[Value.ref b] below meth c H locs 10 275 (lw_Z below #[Value.ref b] s) (F0 m 113 ls []) := by
  obtain ⟨hx, hb, hr, hml, hown, hts0, hX, hbl, hlocks, hgv⟩ := C0
  have hts := fun (w : Cond) (h : w ∈ lw_U) => hts0 w (List.mem_filter.mp h).1
  obtain ⟨dk, hf, gn, rt, ct, sl, sm, pw, ln, lq, vq, ch, cu, lk, lq2, vq2, hs, nd, rfl, rfl, hR⟩ := hRl
  have h_f := hR.1
  have h_n := hR.2.1
  refine lv_aload_n hx hb d_law_113 rfl (lv_at hl 1 rfl) ?_
  refine lv_aload_n hx hb d_law_114 rfl (lv_at hl 0 rfl) ?_
  refine lv_iload_n hx hb d_law_115 rfl (lv_at hl 3 rfl) ?_
  refine lv_iconst (v := nI 1) hx hb d_law_116 (by decide) ?_
  refine lv_iadd hx hb d_law_117 ?_
  refine z_top (nI_add _ _) ?_
  refine z_sld hx hb hX hbl hbA hS (by omega) (by omega) d_law_118 ?_
  have hPc := hP.sub (ws' := Xw h0 qd qs qv cI cJ (dk, hf, gn, rt, ct, sl, sm, pw, ln, lq, vq, ch)) [0, 1, 2, 3] rfl
  have hDc := hD.sub (ws' := Xw h0 qd qs qv cI cJ (dk, hf, gn, rt, ct, sl, sm, pw, ln, lq, vq, ch)) [0, 1, 2, 3] (by decide) rfl
  have hKc := hK.sub (tys' := [(cI, .int), (cJ, .long)]) [0, 1] rfl
  refine z_lawi (wr := Mw h1 md ms mv mh mn cI2 cJ2 (dk, hf, gn, rt, ct, pw, sl, sm, cu, ln, lk, lq2, vq2, hs, nd)) [0, 1, 2, 3] [4, 5, 6, 7, 8, 9] (va_runV (C := R_X) (b := h0) (As := [.int (xs (i + 1))]) (rest := []) ⟨hx, hb, hml, hown, hts⟩ (c_arm l dC dI h0 qd qs qv cI cJ _ dk hf gn rt ct sl sm pw ln lq vq ch (xs (i + 1))) (cwV 1 hts g_law_18 rfl rfl rfl (by decide +kernel) ⟨(Nat.le_of_ble_eq_true rfl), (Nat.le_of_ble_eq_true rfl)⟩) (z_preV (va_recv (q0 := 0) hKc hPc rfl rfl) hPc hKc hDc) rfl rfl hl.1 rfl (lv_room (Nat.le_of_ble_eq_true rfl)) d_law_119 ⟨(Nat.le_of_ble_eq_true rfl), (Nat.le_of_ble_eq_true rfl)⟩) rfl rfl (by decide) (by decide) hS hP hD hA (fun r1 u1 H locs hr1 hP hD hS => ?_)
  have hP := hP.sub (ws' := Xw h0 qd qs qv cI cJ u1 ++ Mw h1 md ms mv mh mn cI2 cJ2 (dk, hf, gn, rt, ct, pw, sl, sm, cu, ln, lk, lq2, vq2, hs, nd)) [6, 7, 8, 9, 0, 1, 2, 3, 4, 5] rfl
  have hD := hD.sub (ws' := Xw h0 qd qs qv cI cJ u1 ++ Mw h1 md ms mv mh mn cI2 cJ2 (dk, hf, gn, rt, ct, pw, sl, sm, cu, ln, lk, lq2, vq2, hs, nd)) [6, 7, 8, 9, 0, 1, 2, 3, 4, 5] (by decide) rfl
  refine lv_aload_n hx hb d_law_122 rfl (lv_at hl 2 rfl) ?_
  refine lv_aload_n hx hb d_law_123 rfl (lv_at hl 0 rfl) ?_
  refine lv_iload_n hx hb d_law_124 rfl (lv_at hl 3 rfl) ?_
  refine lv_iconst (v := nI 1) hx hb d_law_125 (by decide) ?_
  refine lv_iadd hx hb d_law_126 ?_
  refine z_top (nI_add _ _) ?_
  refine z_sld hx hb hX hbl hbA hS (by omega) (by omega) d_law_127 ?_
  have hPc := hP.sub (ws' := Mw h1 md ms mv mh mn cI2 cJ2 (dk, hf, gn, rt, ct, pw, sl, sm, cu, ln, lk, lq2, vq2, hs, nd)) [4, 5, 6, 7, 8, 9] rfl
  have hDc := hD.sub (ws' := Mw h1 md ms mv mh mn cI2 cJ2 (dk, hf, gn, rt, ct, pw, sl, sm, cu, ln, lk, lq2, vq2, hs, nd)) [4, 5, 6, 7, 8, 9] (by decide) rfl
  have hKc := hK.sub (tys' := [(cI2, .int), (cJ2, .long)]) [2, 3] rfl
  refine z_lawi (wr := Xw h0 qd qs qv cI cJ u1) [4, 5, 6, 7, 8, 9] [0, 1, 2, 3] (va_runV (C := R_M) (b := h1) (As := [.int (xs (i + 1))]) (rest := [.int r1]) ⟨hx, hb, hml, hown, hts⟩ (mc_arm l dC dI h1 md ms mv mh mn cI2 cJ2 _ dk hf gn rt ct pw sl sm cu ln lk lq2 vq2 hs nd (xs (i + 1))) (cwV 1 hts g_law_22 rfl rfl rfl (by decide +kernel) ⟨(Nat.le_of_ble_eq_true rfl), (Nat.le_of_ble_eq_true rfl)⟩) (z_preV (va_recv (q0 := 0) hKc hPc rfl rfl) hPc hKc hDc) rfl rfl hl.1 rfl (lv_room (Nat.le_of_ble_eq_true rfl)) d_law_128 ⟨(Nat.le_of_ble_eq_true rfl), (Nat.le_of_ble_eq_true rfl)⟩) rfl rfl (by decide) (by decide) hS hP hD hA (fun r2 u2 H locs hr2 hP hD hS => ?_)
  have hP : va_P (dC, dI) classes (Xw h0 qd qs qv cI cJ u1 ++ Mw h1 md ms mv mh mn cI2 cJ2 u2) H := hP
  have hD : va_D A (Xw h0 qd qs qv cI cJ u1 ++ Mw h1 md ms mv mh mn cI2 cJ2 u2) := hD
  obtain ⟨he, hRl⟩ := rl_arm hR hr1 hr2
  refine lv_icmp_eq (tgt := 380) hx hb d_law_131 (by decide) (fun _ => ?_) (fun h9 => absurd he h9)
  exact kk _ _ ls _ _ (Rl_up hRl) hl hP hD hS
set_option maxHeartbeats 1000000 in
set_option maxRecDepth 100000 in
theorem lw_case2 {p : Program} {l : Launch} {e : Env} {s : State} {m : MethodId} {below : List Frame} {meth : Method} {c : Code} {b L : Nat} {xs : Nat → Int32} (C0 : lw_At p s m meth c b L xs) (hL : L ≤ 2048) {dC : Nat → ClassId} {dI : Nat → Nat → Nat} {h0 qd qs qv : Nat} {cI cJ : ClassId} {h1 md ms mv mh mn : Nat} {cI2 cJ2 : ClassId} {A : Nat → Prop} (hbA : ¬ A b) (hA : ∀ q, s.heap.size ≤ q → A q) (hK : va_K (dC, dI) classes [(cI, .int), (cJ, .long), (cI2, .int), (cJ2, .long)] s) {i n : Nat} (hi : i + 4 ≤ L) (hn : n ≤ 100000) {u1 : XS} {u2 : MS} (hRl : Rl u1 u2 n) {ls : Array Slot} {H : Heap} {locs : List Loc} (hl : lv_has ls 4 [(0, .ref b), (1, .ref h0), (2, .ref h1), (3, .int (nI i))]) (hP : va_P (dC, dI) classes (Xw h0 qd qs qv cI cJ u1 ++ Mw h1 md ms mv mh mn cI2 cJ2 u2) H) (hD : va_D A (Xw h0 qd qs qv cI cJ u1 ++ Mw h1 md ms mv mh mn cI2 cJ2 u2)) (hS : va_S A s.heap H locs) (kk : ∀ (u1 : XS) (u2 : MS) (ls : Array Slot) (H : Heap) (locs : List Loc), Rl u1 u2 (n + 2) → lv_has ls 4 [(0, .ref b), (1, .ref h0), (2, .ref h1), (3, .int (nI i))] → va_P (dC, dI) classes (Xw h0 qd qs qv cI cJ u1 ++ Mw h1 md ms mv mh mn cI2 cJ2 u2) H → va_D A (Xw h0 qd qs qv cI cJ u1 ++ Mw h1 md ms mv mh mn cI2 cJ2 u2) → va_S A s.heap H locs → W p l e room_1 s m #[Value.ref b] below meth c H locs 10 275 (lw_Z below #[Value.ref b] s) (F0 m 380 ls [])) : W p l e room_1 s m #[Value.ref b] below meth c H locs 10 275 (lw_Z below #[Value.ref b] s) (F0 m 136 ls []) := by
  obtain ⟨hx, hb, hr, hml, hown, hts0, hX, hbl, hlocks, hgv⟩ := C0
  have hts := fun (w : Cond) (h : w ∈ lw_U) => hts0 w (List.mem_filter.mp h).1
  obtain ⟨dk, hf, gn, rt, ct, sl, sm, pw, ln, lq, vq, ch, cu, lk, lq2, vq2, hs, nd, rfl, rfl, hR⟩ := hRl
  have h_f := hR.1
  have h_n := hR.2.1
  refine lv_aload_n hx hb d_law_136 rfl (lv_at hl 1 rfl) ?_
  have hPc := hP.sub (ws' := Xw h0 qd qs qv cI cJ (dk, hf, gn, rt, ct, sl, sm, pw, ln, lq, vq, ch)) [0, 1, 2, 3] rfl
  have hDc := hD.sub (ws' := Xw h0 qd qs qv cI cJ (dk, hf, gn, rt, ct, sl, sm, pw, ln, lq, vq, ch)) [0, 1, 2, 3] (by decide) rfl
  have hKc := hK.sub (tys' := [(cI, .int), (cJ, .long)]) [0, 1] rfl
  refine vp_callSi (W.runV (C := R_X) (b := h0) (As := []) (rest := []) ⟨hx, hb, hml, hown, hts⟩ (c_isOn l dC dI h0 qd qs qv cI cJ _ dk hf gn rt ct sl sm pw ln lq vq ch ) (cwV 0 hts g_law_23 rfl rfl rfl (by decide +kernel) ⟨(Nat.le_of_ble_eq_true rfl), (Nat.le_of_ble_eq_true rfl)⟩) (z_preV (va_recv (q0 := 0) hKc hPc rfl rfl) hPc hKc hDc) rfl rfl hl.1 rfl (lv_room (Nat.le_of_ble_eq_true rfl)) d_law_137 ⟨(Nat.le_of_ble_eq_true rfl), (Nat.le_of_ble_eq_true rfl)⟩) (fun r1 hr1 => ?_)
  refine lv_aload_n hx hb d_law_140 rfl (lv_at hl 2 rfl) ?_
  have hPc := hP.sub (ws' := Mw h1 md ms mv mh mn cI2 cJ2 (dk, hf, gn, rt, ct, pw, sl, sm, cu, ln, lk, lq2, vq2, hs, nd)) [4, 5, 6, 7, 8, 9] rfl
  have hDc := hD.sub (ws' := Mw h1 md ms mv mh mn cI2 cJ2 (dk, hf, gn, rt, ct, pw, sl, sm, cu, ln, lk, lq2, vq2, hs, nd)) [4, 5, 6, 7, 8, 9] (by decide) rfl
  have hKc := hK.sub (tys' := [(cI2, .int), (cJ2, .long)]) [2, 3] rfl
  refine vp_callSi (W.runV (C := R_M) (b := h1) (As := []) (rest := [.int r1]) ⟨hx, hb, hml, hown, hts⟩ (mc_isOn l dC dI h1 md ms mv mh mn cI2 cJ2 _ dk hf gn rt ct pw sl sm cu ln lk lq2 vq2 hs nd ) (cwV 0 hts g_law_27 rfl rfl rfl (by decide +kernel) ⟨(Nat.le_of_ble_eq_true rfl), (Nat.le_of_ble_eq_true rfl)⟩) (z_preV (va_recv (q0 := 0) hKc hPc rfl rfl) hPc hKc hDc) rfl rfl hl.1 rfl (lv_room (Nat.le_of_ble_eq_true rfl)) d_law_141 ⟨(Nat.le_of_ble_eq_true rfl), (Nat.le_of_ble_eq_true rfl)⟩) (fun r2 hr2 => ?_)
  have he : r1 = r2 := hr1.trans hr2.symm
  refine lv_icmp_eq (tgt := 380) hx hb d_law_144 (by decide) (fun _ => ?_) (fun h9 => absurd he h9)
  exact kk _ _ ls _ _ (Rl_up (Rl_up (Rl_mk hR))) hl hP hD hS
set_option maxHeartbeats 1000000 in
set_option maxRecDepth 100000 in
theorem lw_case3 {p : Program} {l : Launch} {e : Env} {s : State} {m : MethodId} {below : List Frame} {meth : Method} {c : Code} {b L : Nat} {xs : Nat → Int32} (C0 : lw_At p s m meth c b L xs) (hL : L ≤ 2048) {dC : Nat → ClassId} {dI : Nat → Nat → Nat} {h0 qd qs qv : Nat} {cI cJ : ClassId} {h1 md ms mv mh mn : Nat} {cI2 cJ2 : ClassId} {A : Nat → Prop} (hbA : ¬ A b) (hA : ∀ q, s.heap.size ≤ q → A q) (hK : va_K (dC, dI) classes [(cI, .int), (cJ, .long), (cI2, .int), (cJ2, .long)] s) {i n : Nat} (hi : i + 4 ≤ L) (hn : n ≤ 100000) {u1 : XS} {u2 : MS} (hRl : Rl u1 u2 n) {ls : Array Slot} {H : Heap} {locs : List Loc} (hl : lv_has ls 4 [(0, .ref b), (1, .ref h0), (2, .ref h1), (3, .int (nI i))]) (hP : va_P (dC, dI) classes (Xw h0 qd qs qv cI cJ u1 ++ Mw h1 md ms mv mh mn cI2 cJ2 u2) H) (hD : va_D A (Xw h0 qd qs qv cI cJ u1 ++ Mw h1 md ms mv mh mn cI2 cJ2 u2)) (hS : va_S A s.heap H locs) (kk : ∀ (u1 : XS) (u2 : MS) (ls : Array Slot) (H : Heap) (locs : List Loc), Rl u1 u2 (n + 2) → lv_has ls 4 [(0, .ref b), (1, .ref h0), (2, .ref h1), (3, .int (nI i))] → va_P (dC, dI) classes (Xw h0 qd qs qv cI cJ u1 ++ Mw h1 md ms mv mh mn cI2 cJ2 u2) H → va_D A (Xw h0 qd qs qv cI cJ u1 ++ Mw h1 md ms mv mh mn cI2 cJ2 u2) → va_S A s.heap H locs → W p l e room_1 s m #[Value.ref b] below meth c H locs 10 275 (lw_Z below #[Value.ref b] s) (F0 m 380 ls [])) : W p l e room_1 s m #[Value.ref b] below meth c H locs 10 275 (lw_Z below #[Value.ref b] s) (F0 m 149 ls []) := by
  obtain ⟨hx, hb, hr, hml, hown, hts0, hX, hbl, hlocks, hgv⟩ := C0
  have hts := fun (w : Cond) (h : w ∈ lw_U) => hts0 w (List.mem_filter.mp h).1
  obtain ⟨dk, hf, gn, rt, ct, sl, sm, pw, ln, lq, vq, ch, cu, lk, lq2, vq2, hs, nd, rfl, rfl, hR⟩ := hRl
  have h_f := hR.1
  have h_n := hR.2.1
  refine lv_aload_n hx hb d_law_149 rfl (lv_at hl 1 rfl) ?_
  refine lv_aload_n hx hb d_law_150 rfl (lv_at hl 0 rfl) ?_
  refine lv_iload_n hx hb d_law_151 rfl (lv_at hl 3 rfl) ?_
  refine lv_iconst (v := nI 1) hx hb d_law_152 (by decide) ?_
  refine lv_iadd hx hb d_law_153 ?_
  refine z_top (nI_add _ _) ?_
  refine z_sld hx hb hX hbl hbA hS (by omega) (by omega) d_law_154 ?_
  refine lv_aload_n hx hb d_law_155 rfl (lv_at hl 0 rfl) ?_
  refine lv_iload_n hx hb d_law_156 rfl (lv_at hl 3 rfl) ?_
  refine lv_iconst (v := nI 2) hx hb d_law_157 (by decide) ?_
  refine lv_iadd hx hb d_law_158 ?_
  refine z_top (nI_add _ _) ?_
  refine z_sld hx hb hX hbl hbA hS (by omega) (by omega) d_law_159 ?_
  refine lv_i2l hx hb d_law_160 rfl ?_
  refine lv_bipush (v := (32 : Int32)) hx hb d_law_161 (by decide) ?_
  refine lv_lshl hx hb d_law_163 rfl ?_
  refine lv_aload_n hx hb d_law_164 rfl (lv_at hl 0 rfl) ?_
  refine lv_iload_n hx hb d_law_165 rfl (lv_at hl 3 rfl) ?_
  refine lv_iconst (v := nI 3) hx hb d_law_166 (by decide) ?_
  refine lv_iadd hx hb d_law_167 ?_
  refine z_top (nI_add _ _) ?_
  refine z_sld hx hb hX hbl hbA hS (by omega) (by omega) d_law_168 ?_
  refine lv_i2l hx hb d_law_169 rfl ?_
  refine lv_ldc2 (v := 4294967295) hx hb hown (hts _ m_422) d_law_170 ?_
  refine lv_land hx hb d_law_173 ?_
  refine lv_lor hx hb d_law_174 ?_
  have hPc := hP.sub (ws' := Xw h0 qd qs qv cI cJ (dk, hf, gn, rt, ct, sl, sm, pw, ln, lq, vq, ch)) [0, 1, 2, 3] rfl
  have hDc := hD.sub (ws' := Xw h0 qd qs qv cI cJ (dk, hf, gn, rt, ct, sl, sm, pw, ln, lq, vq, ch)) [0, 1, 2, 3] (by decide) rfl
  have hKc := hK.sub (tys' := [(cI, .int), (cJ, .long)]) [0, 1] rfl
  refine z_lawi (wr := Mw h1 md ms mv mh mn cI2 cJ2 (dk, hf, gn, rt, ct, pw, sl, sm, cu, ln, lk, lq2, vq2, hs, nd)) [0, 1, 2, 3] [4, 5, 6, 7, 8, 9] (va_runV (C := R_X) (b := h0) (As := [.int (xs (i + 1)), .long ((((xs (i + 2)).toInt64) <<< ((32 : Int32).toInt64 &&& 63)) ||| (((xs (i + 3)).toInt64) &&& (4294967295 : Int64)))]) (rest := []) ⟨hx, hb, hml, hown, hts⟩ (c_write l dC dI h0 qd qs qv cI cJ _ dk hf gn rt ct sl sm pw ln lq vq ch (xs (i + 1)) ((((xs (i + 2)).toInt64) <<< ((32 : Int32).toInt64 &&& 63)) ||| (((xs (i + 3)).toInt64) &&& (4294967295 : Int64))) (by omega) (by omega)) (cwV 2 hts g_law_30 rfl rfl rfl (by decide +kernel) ⟨(Nat.le_of_ble_eq_true rfl), (Nat.le_of_ble_eq_true rfl)⟩) (z_preV (va_recv (q0 := 0) hKc hPc rfl rfl) hPc hKc hDc) rfl rfl hl.1 rfl (lv_room (Nat.le_of_ble_eq_true rfl)) d_law_175 ⟨(Nat.le_of_ble_eq_true rfl), (Nat.le_of_ble_eq_true rfl)⟩) rfl rfl (by decide) (by decide) hS hP hD hA (fun r1 u1 H locs hr1 hP hD hS => ?_)
  have hP := hP.sub (ws' := Xw h0 qd qs qv cI cJ u1 ++ Mw h1 md ms mv mh mn cI2 cJ2 (dk, hf, gn, rt, ct, pw, sl, sm, cu, ln, lk, lq2, vq2, hs, nd)) [6, 7, 8, 9, 0, 1, 2, 3, 4, 5] rfl
  have hD := hD.sub (ws' := Xw h0 qd qs qv cI cJ u1 ++ Mw h1 md ms mv mh mn cI2 cJ2 (dk, hf, gn, rt, ct, pw, sl, sm, cu, ln, lk, lq2, vq2, hs, nd)) [6, 7, 8, 9, 0, 1, 2, 3, 4, 5] (by decide) rfl
  refine lv_aload_n hx hb d_law_178 rfl (lv_at hl 2 rfl) ?_
  refine lv_aload_n hx hb d_law_179 rfl (lv_at hl 0 rfl) ?_
  refine lv_iload_n hx hb d_law_180 rfl (lv_at hl 3 rfl) ?_
  refine lv_iconst (v := nI 1) hx hb d_law_181 (by decide) ?_
  refine lv_iadd hx hb d_law_182 ?_
  refine z_top (nI_add _ _) ?_
  refine z_sld hx hb hX hbl hbA hS (by omega) (by omega) d_law_183 ?_
  refine lv_aload_n hx hb d_law_184 rfl (lv_at hl 0 rfl) ?_
  refine lv_iload_n hx hb d_law_185 rfl (lv_at hl 3 rfl) ?_
  refine lv_iconst (v := nI 2) hx hb d_law_186 (by decide) ?_
  refine lv_iadd hx hb d_law_187 ?_
  refine z_top (nI_add _ _) ?_
  refine z_sld hx hb hX hbl hbA hS (by omega) (by omega) d_law_188 ?_
  refine lv_i2l hx hb d_law_189 rfl ?_
  refine lv_bipush (v := (32 : Int32)) hx hb d_law_190 (by decide) ?_
  refine lv_lshl hx hb d_law_192 rfl ?_
  refine lv_aload_n hx hb d_law_193 rfl (lv_at hl 0 rfl) ?_
  refine lv_iload_n hx hb d_law_194 rfl (lv_at hl 3 rfl) ?_
  refine lv_iconst (v := nI 3) hx hb d_law_195 (by decide) ?_
  refine lv_iadd hx hb d_law_196 ?_
  refine z_top (nI_add _ _) ?_
  refine z_sld hx hb hX hbl hbA hS (by omega) (by omega) d_law_197 ?_
  refine lv_i2l hx hb d_law_198 rfl ?_
  refine lv_ldc2 (v := 4294967295) hx hb hown (hts _ m_422) d_law_199 ?_
  refine lv_land hx hb d_law_202 ?_
  refine lv_lor hx hb d_law_203 ?_
  have hPc := hP.sub (ws' := Mw h1 md ms mv mh mn cI2 cJ2 (dk, hf, gn, rt, ct, pw, sl, sm, cu, ln, lk, lq2, vq2, hs, nd)) [4, 5, 6, 7, 8, 9] rfl
  have hDc := hD.sub (ws' := Mw h1 md ms mv mh mn cI2 cJ2 (dk, hf, gn, rt, ct, pw, sl, sm, cu, ln, lk, lq2, vq2, hs, nd)) [4, 5, 6, 7, 8, 9] (by decide) rfl
  have hKc := hK.sub (tys' := [(cI2, .int), (cJ2, .long)]) [2, 3] rfl
  refine z_lawi (wr := Xw h0 qd qs qv cI cJ u1) [4, 5, 6, 7, 8, 9] [0, 1, 2, 3] (va_runV (C := R_M) (b := h1) (As := [.int (xs (i + 1)), .long ((((xs (i + 2)).toInt64) <<< ((32 : Int32).toInt64 &&& 63)) ||| (((xs (i + 3)).toInt64) &&& (4294967295 : Int64)))]) (rest := [.int r1]) ⟨hx, hb, hml, hown, hts⟩ (mc_write l dC dI h1 md ms mv mh mn cI2 cJ2 _ dk hf gn rt ct pw sl sm cu ln lk lq2 vq2 hs nd (xs (i + 1)) ((((xs (i + 2)).toInt64) <<< ((32 : Int32).toInt64 &&& 63)) ||| (((xs (i + 3)).toInt64) &&& (4294967295 : Int64))) (by omega) (by omega)) (cwV 2 hts g_law_34 rfl rfl rfl (by decide +kernel) ⟨(Nat.le_of_ble_eq_true rfl), (Nat.le_of_ble_eq_true rfl)⟩) (z_preV (va_recv (q0 := 0) hKc hPc rfl rfl) hPc hKc hDc) rfl rfl hl.1 rfl (lv_room (Nat.le_of_ble_eq_true rfl)) d_law_204 ⟨(Nat.le_of_ble_eq_true rfl), (Nat.le_of_ble_eq_true rfl)⟩) rfl rfl (by decide) (by decide) hS hP hD hA (fun r2 u2 H locs hr2 hP hD hS => ?_)
  have hP : va_P (dC, dI) classes (Xw h0 qd qs qv cI cJ u1 ++ Mw h1 md ms mv mh mn cI2 cJ2 u2) H := hP
  have hD : va_D A (Xw h0 qd qs qv cI cJ u1 ++ Mw h1 md ms mv mh mn cI2 cJ2 u2) := hD
  obtain ⟨he, hRl⟩ := rl_write hR (by omega) hr1 hr2
  refine lv_icmp_eq (tgt := 380) hx hb d_law_207 (by decide) (fun _ => ?_) (fun h9 => absurd he h9)
  exact kk _ _ ls _ _ (hRl) hl hP hD hS
set_option maxHeartbeats 1000000 in
set_option maxRecDepth 100000 in
theorem lw_case4 {p : Program} {l : Launch} {e : Env} {s : State} {m : MethodId} {below : List Frame} {meth : Method} {c : Code} {b L : Nat} {xs : Nat → Int32} (C0 : lw_At p s m meth c b L xs) (hL : L ≤ 2048) {dC : Nat → ClassId} {dI : Nat → Nat → Nat} {h0 qd qs qv : Nat} {cI cJ : ClassId} {h1 md ms mv mh mn : Nat} {cI2 cJ2 : ClassId} {A : Nat → Prop} (hbA : ¬ A b) (hA : ∀ q, s.heap.size ≤ q → A q) (hK : va_K (dC, dI) classes [(cI, .int), (cJ, .long), (cI2, .int), (cJ2, .long)] s) {i n : Nat} (hi : i + 4 ≤ L) (hn : n ≤ 100000) {u1 : XS} {u2 : MS} (hRl : Rl u1 u2 n) {ls : Array Slot} {H : Heap} {locs : List Loc} (hl : lv_has ls 4 [(0, .ref b), (1, .ref h0), (2, .ref h1), (3, .int (nI i))]) (hP : va_P (dC, dI) classes (Xw h0 qd qs qv cI cJ u1 ++ Mw h1 md ms mv mh mn cI2 cJ2 u2) H) (hD : va_D A (Xw h0 qd qs qv cI cJ u1 ++ Mw h1 md ms mv mh mn cI2 cJ2 u2)) (hS : va_S A s.heap H locs) (kk : ∀ (u1 : XS) (u2 : MS) (ls : Array Slot) (H : Heap) (locs : List Loc), Rl u1 u2 (n + 2) → lv_has ls 4 [(0, .ref b), (1, .ref h0), (2, .ref h1), (3, .int (nI i))] → va_P (dC, dI) classes (Xw h0 qd qs qv cI cJ u1 ++ Mw h1 md ms mv mh mn cI2 cJ2 u2) H → va_D A (Xw h0 qd qs qv cI cJ u1 ++ Mw h1 md ms mv mh mn cI2 cJ2 u2) → va_S A s.heap H locs → W p l e room_1 s m #[Value.ref b] below meth c H locs 10 275 (lw_Z below #[Value.ref b] s) (F0 m 380 ls [])) : W p l e room_1 s m #[Value.ref b] below meth c H locs 10 275 (lw_Z below #[Value.ref b] s) (F0 m 212 ls []) := by
  obtain ⟨hx, hb, hr, hml, hown, hts0, hX, hbl, hlocks, hgv⟩ := C0
  have hts := fun (w : Cond) (h : w ∈ lw_U) => hts0 w (List.mem_filter.mp h).1
  obtain ⟨dk, hf, gn, rt, ct, sl, sm, pw, ln, lq, vq, ch, cu, lk, lq2, vq2, hs, nd, rfl, rfl, hR⟩ := hRl
  have h_f := hR.1
  have h_n := hR.2.1
  refine lv_aload_n hx hb d_law_212 rfl (lv_at hl 1 rfl) ?_
  refine lv_aload_n hx hb d_law_213 rfl (lv_at hl 0 rfl) ?_
  refine lv_iload_n hx hb d_law_214 rfl (lv_at hl 3 rfl) ?_
  refine lv_iconst (v := nI 1) hx hb d_law_215 (by decide) ?_
  refine lv_iadd hx hb d_law_216 ?_
  refine z_top (nI_add _ _) ?_
  refine z_sld hx hb hX hbl hbA hS (by omega) (by omega) d_law_217 ?_
  have hPc := hP.sub (ws' := Xw h0 qd qs qv cI cJ (dk, hf, gn, rt, ct, sl, sm, pw, ln, lq, vq, ch)) [0, 1, 2, 3] rfl
  have hDc := hD.sub (ws' := Xw h0 qd qs qv cI cJ (dk, hf, gn, rt, ct, sl, sm, pw, ln, lq, vq, ch)) [0, 1, 2, 3] (by decide) rfl
  have hKc := hK.sub (tys' := [(cI, .int), (cJ, .long)]) [0, 1] rfl
  refine vp_callSl (W.runV (C := R_X) (b := h0) (As := [.int (xs (i + 1))]) (rest := []) ⟨hx, hb, hml, hown, hts⟩ (c_read l dC dI h0 qd qs qv cI cJ _ dk hf gn rt ct sl sm pw ln lq vq ch (xs (i + 1)) (by omega) (by omega)) (cwV 1 hts g_law_35 rfl rfl rfl (by decide +kernel) ⟨(Nat.le_of_ble_eq_true rfl), (Nat.le_of_ble_eq_true rfl)⟩) (z_preV (va_recv (q0 := 0) hKc hPc rfl rfl) hPc hKc hDc) rfl rfl hl.1 rfl (lv_room (Nat.le_of_ble_eq_true rfl)) d_law_218 ⟨(Nat.le_of_ble_eq_true rfl), (Nat.le_of_ble_eq_true rfl)⟩) (fun r1 hr1 => ?_)
  refine lv_aload_n hx hb d_law_221 rfl (lv_at hl 2 rfl) ?_
  refine lv_aload_n hx hb d_law_222 rfl (lv_at hl 0 rfl) ?_
  refine lv_iload_n hx hb d_law_223 rfl (lv_at hl 3 rfl) ?_
  refine lv_iconst (v := nI 1) hx hb d_law_224 (by decide) ?_
  refine lv_iadd hx hb d_law_225 ?_
  refine z_top (nI_add _ _) ?_
  refine z_sld hx hb hX hbl hbA hS (by omega) (by omega) d_law_226 ?_
  have hPc := hP.sub (ws' := Mw h1 md ms mv mh mn cI2 cJ2 (dk, hf, gn, rt, ct, pw, sl, sm, cu, ln, lk, lq2, vq2, hs, nd)) [4, 5, 6, 7, 8, 9] rfl
  have hDc := hD.sub (ws' := Mw h1 md ms mv mh mn cI2 cJ2 (dk, hf, gn, rt, ct, pw, sl, sm, cu, ln, lk, lq2, vq2, hs, nd)) [4, 5, 6, 7, 8, 9] (by decide) rfl
  have hKc := hK.sub (tys' := [(cI2, .int), (cJ2, .long)]) [2, 3] rfl
  refine vp_callSl (W.runV (C := R_M) (b := h1) (As := [.int (xs (i + 1))]) (rest := [.long r1]) ⟨hx, hb, hml, hown, hts⟩ (mc_read l dC dI h1 md ms mv mh mn cI2 cJ2 _ dk hf gn rt ct pw sl sm cu ln lk lq2 vq2 hs nd (xs (i + 1)) (by omega) (by omega)) (cwV 1 hts g_law_39 rfl rfl rfl (by decide +kernel) ⟨(Nat.le_of_ble_eq_true rfl), (Nat.le_of_ble_eq_true rfl)⟩) (z_preV (va_recv (q0 := 0) hKc hPc rfl rfl) hPc hKc hDc) rfl rfl hl.1 rfl (lv_room (Nat.le_of_ble_eq_true rfl)) d_law_227 ⟨(Nat.le_of_ble_eq_true rfl), (Nat.le_of_ble_eq_true rfl)⟩) (fun r2 hr2 => ?_)
  have he : r1 = r2 := rl_read hR hr1 hr2
  refine W.lcmp hx hb d_law_230 ?_
  refine lv_if_eq (tgt := 380) hx hb d_law_231 (by decide) (fun _ => ?_) (fun h9 => absurd ((lg_cmp_eq _ _).mpr he) h9)
  exact kk _ _ ls _ _ (Rl_up (Rl_up (Rl_mk hR))) hl hP hD hS
set_option maxHeartbeats 1000000 in
set_option maxRecDepth 100000 in
theorem lw_case5 {p : Program} {l : Launch} {e : Env} {s : State} {m : MethodId} {below : List Frame} {meth : Method} {c : Code} {b L : Nat} {xs : Nat → Int32} (C0 : lw_At p s m meth c b L xs) (hL : L ≤ 2048) {dC : Nat → ClassId} {dI : Nat → Nat → Nat} {h0 qd qs qv : Nat} {cI cJ : ClassId} {h1 md ms mv mh mn : Nat} {cI2 cJ2 : ClassId} {A : Nat → Prop} (hbA : ¬ A b) (hA : ∀ q, s.heap.size ≤ q → A q) (hK : va_K (dC, dI) classes [(cI, .int), (cJ, .long), (cI2, .int), (cJ2, .long)] s) {i n : Nat} (hi : i + 4 ≤ L) (hn : n ≤ 100000) {u1 : XS} {u2 : MS} (hRl : Rl u1 u2 n) {ls : Array Slot} {H : Heap} {locs : List Loc} (hl : lv_has ls 4 [(0, .ref b), (1, .ref h0), (2, .ref h1), (3, .int (nI i))]) (hP : va_P (dC, dI) classes (Xw h0 qd qs qv cI cJ u1 ++ Mw h1 md ms mv mh mn cI2 cJ2 u2) H) (hD : va_D A (Xw h0 qd qs qv cI cJ u1 ++ Mw h1 md ms mv mh mn cI2 cJ2 u2)) (hS : va_S A s.heap H locs) (kk : ∀ (u1 : XS) (u2 : MS) (ls : Array Slot) (H : Heap) (locs : List Loc), Rl u1 u2 (n + 2) → lv_has ls 4 [(0, .ref b), (1, .ref h0), (2, .ref h1), (3, .int (nI i))] → va_P (dC, dI) classes (Xw h0 qd qs qv cI cJ u1 ++ Mw h1 md ms mv mh mn cI2 cJ2 u2) H → va_D A (Xw h0 qd qs qv cI cJ u1 ++ Mw h1 md ms mv mh mn cI2 cJ2 u2) → va_S A s.heap H locs → W p l e room_1 s m #[Value.ref b] below meth c H locs 10 275 (lw_Z below #[Value.ref b] s) (F0 m 380 ls [])) : W p l e room_1 s m #[Value.ref b] below meth c H locs 10 275 (lw_Z below #[Value.ref b] s) (F0 m 236 ls []) := by
  obtain ⟨hx, hb, hr, hml, hown, hts0, hX, hbl, hlocks, hgv⟩ := C0
  have hts := fun (w : Cond) (h : w ∈ lw_U) => hts0 w (List.mem_filter.mp h).1
  obtain ⟨dk, hf, gn, rt, ct, sl, sm, pw, ln, lq, vq, ch, cu, lk, lq2, vq2, hs, nd, rfl, rfl, hR⟩ := hRl
  have h_f := hR.1
  have h_n := hR.2.1
  refine lv_aload_n hx hb d_law_236 rfl (lv_at hl 1 rfl) ?_
  have hPc := hP.sub (ws' := Xw h0 qd qs qv cI cJ (dk, hf, gn, rt, ct, sl, sm, pw, ln, lq, vq, ch)) [0, 1, 2, 3] rfl
  have hDc := hD.sub (ws' := Xw h0 qd qs qv cI cJ (dk, hf, gn, rt, ct, sl, sm, pw, ln, lq, vq, ch)) [0, 1, 2, 3] (by decide) rfl
  have hKc := hK.sub (tys' := [(cI, .int), (cJ, .long)]) [0, 1] rfl
  refine z_lawi (wr := Mw h1 md ms mv mh mn cI2 cJ2 (dk, hf, gn, rt, ct, pw, sl, sm, cu, ln, lk, lq2, vq2, hs, nd)) [0, 1, 2, 3] [4, 5, 6, 7, 8, 9] (va_runV (C := R_X) (b := h0) (As := []) (rest := []) ⟨hx, hb, hml, hown, hts⟩ (c_sync l dC dI h0 qd qs qv cI cJ _ dk hf gn rt ct sl sm pw ln lq vq ch ) (cwV 0 hts g_law_40 rfl rfl rfl (by decide +kernel) ⟨(Nat.le_of_ble_eq_true rfl), (Nat.le_of_ble_eq_true rfl)⟩) (z_preV (va_recv (q0 := 0) hKc hPc rfl rfl) hPc hKc hDc) rfl rfl hl.1 rfl (lv_room (Nat.le_of_ble_eq_true rfl)) d_law_237 ⟨(Nat.le_of_ble_eq_true rfl), (Nat.le_of_ble_eq_true rfl)⟩) rfl rfl (by decide) (by decide) hS hP hD hA (fun r1 u1 H locs hr1 hP hD hS => ?_)
  have hP := hP.sub (ws' := Xw h0 qd qs qv cI cJ u1 ++ Mw h1 md ms mv mh mn cI2 cJ2 (dk, hf, gn, rt, ct, pw, sl, sm, cu, ln, lk, lq2, vq2, hs, nd)) [6, 7, 8, 9, 0, 1, 2, 3, 4, 5] rfl
  have hD := hD.sub (ws' := Xw h0 qd qs qv cI cJ u1 ++ Mw h1 md ms mv mh mn cI2 cJ2 (dk, hf, gn, rt, ct, pw, sl, sm, cu, ln, lk, lq2, vq2, hs, nd)) [6, 7, 8, 9, 0, 1, 2, 3, 4, 5] (by decide) rfl
  refine lv_aload_n hx hb d_law_240 rfl (lv_at hl 2 rfl) ?_
  have hPc := hP.sub (ws' := Mw h1 md ms mv mh mn cI2 cJ2 (dk, hf, gn, rt, ct, pw, sl, sm, cu, ln, lk, lq2, vq2, hs, nd)) [4, 5, 6, 7, 8, 9] rfl
  have hDc := hD.sub (ws' := Mw h1 md ms mv mh mn cI2 cJ2 (dk, hf, gn, rt, ct, pw, sl, sm, cu, ln, lk, lq2, vq2, hs, nd)) [4, 5, 6, 7, 8, 9] (by decide) rfl
  have hKc := hK.sub (tys' := [(cI2, .int), (cJ2, .long)]) [2, 3] rfl
  refine z_lawi (wr := Xw h0 qd qs qv cI cJ u1) [4, 5, 6, 7, 8, 9] [0, 1, 2, 3] (va_runV (C := R_M) (b := h1) (As := []) (rest := [.int r1]) ⟨hx, hb, hml, hown, hts⟩ (mc_sync l dC dI h1 md ms mv mh mn cI2 cJ2 _ dk hf gn rt ct pw sl sm cu ln lk lq2 vq2 hs nd ) (cwV 0 hts g_law_43 rfl rfl rfl (by decide +kernel) ⟨(Nat.le_of_ble_eq_true rfl), (Nat.le_of_ble_eq_true rfl)⟩) (z_preV (va_recv (q0 := 0) hKc hPc rfl rfl) hPc hKc hDc) rfl rfl hl.1 rfl (lv_room (Nat.le_of_ble_eq_true rfl)) d_law_241 ⟨(Nat.le_of_ble_eq_true rfl), (Nat.le_of_ble_eq_true rfl)⟩) rfl rfl (by decide) (by decide) hS hP hD hA (fun r2 u2 H locs hr2 hP hD hS => ?_)
  have hP : va_P (dC, dI) classes (Xw h0 qd qs qv cI cJ u1 ++ Mw h1 md ms mv mh mn cI2 cJ2 u2) H := hP
  have hD : va_D A (Xw h0 qd qs qv cI cJ u1 ++ Mw h1 md ms mv mh mn cI2 cJ2 u2) := hD
  obtain ⟨he, hRl⟩ := rl_sync hR hr1 hr2
  refine lv_icmp_eq (tgt := 380) hx hb d_law_244 (by decide) (fun _ => ?_) (fun h9 => absurd he h9)
  exact kk _ _ ls _ _ (Rl_up hRl) hl hP hD hS
set_option maxHeartbeats 1000000 in
set_option maxRecDepth 100000 in
theorem lw_case6 {p : Program} {l : Launch} {e : Env} {s : State} {m : MethodId} {below : List Frame} {meth : Method} {c : Code} {b L : Nat} {xs : Nat → Int32} (C0 : lw_At p s m meth c b L xs) (hL : L ≤ 2048) {dC : Nat → ClassId} {dI : Nat → Nat → Nat} {h0 qd qs qv : Nat} {cI cJ : ClassId} {h1 md ms mv mh mn : Nat} {cI2 cJ2 : ClassId} {A : Nat → Prop} (hbA : ¬ A b) (hA : ∀ q, s.heap.size ≤ q → A q) (hK : va_K (dC, dI) classes [(cI, .int), (cJ, .long), (cI2, .int), (cJ2, .long)] s) {i n : Nat} (hi : i + 4 ≤ L) (hn : n ≤ 100000) {u1 : XS} {u2 : MS} (hRl : Rl u1 u2 n) {ls : Array Slot} {H : Heap} {locs : List Loc} (hl : lv_has ls 4 [(0, .ref b), (1, .ref h0), (2, .ref h1), (3, .int (nI i))]) (hP : va_P (dC, dI) classes (Xw h0 qd qs qv cI cJ u1 ++ Mw h1 md ms mv mh mn cI2 cJ2 u2) H) (hD : va_D A (Xw h0 qd qs qv cI cJ u1 ++ Mw h1 md ms mv mh mn cI2 cJ2 u2)) (hS : va_S A s.heap H locs) (kk : ∀ (u1 : XS) (u2 : MS) (ls : Array Slot) (H : Heap) (locs : List Loc), Rl u1 u2 (n + 2) → lv_has ls 4 [(0, .ref b), (1, .ref h0), (2, .ref h1), (3, .int (nI i))] → va_P (dC, dI) classes (Xw h0 qd qs qv cI cJ u1 ++ Mw h1 md ms mv mh mn cI2 cJ2 u2) H → va_D A (Xw h0 qd qs qv cI cJ u1 ++ Mw h1 md ms mv mh mn cI2 cJ2 u2) → va_S A s.heap H locs → W p l e room_1 s m #[Value.ref b] below meth c H locs 10 275 (lw_Z below #[Value.ref b] s) (F0 m 380 ls [])) : W p l e room_1 s m #[Value.ref b] below meth c H locs 10 275 (lw_Z below #[Value.ref b] s) (F0 m 249 ls []) := by
  obtain ⟨hx, hb, hr, hml, hown, hts0, hX, hbl, hlocks, hgv⟩ := C0
  have hts := fun (w : Cond) (h : w ∈ lw_U) => hts0 w (List.mem_filter.mp h).1
  obtain ⟨dk, hf, gn, rt, ct, sl, sm, pw, ln, lq, vq, ch, cu, lk, lq2, vq2, hs, nd, rfl, rfl, hR⟩ := hRl
  have h_f := hR.1
  have h_n := hR.2.1
  refine lv_aload_n hx hb d_law_249 rfl (lv_at hl 1 rfl) ?_
  have hPc := hP.sub (ws' := Xw h0 qd qs qv cI cJ (dk, hf, gn, rt, ct, sl, sm, pw, ln, lq, vq, ch)) [0, 1, 2, 3] rfl
  have hDc := hD.sub (ws' := Xw h0 qd qs qv cI cJ (dk, hf, gn, rt, ct, sl, sm, pw, ln, lq, vq, ch)) [0, 1, 2, 3] (by decide) rfl
  have hKc := hK.sub (tys' := [(cI, .int), (cJ, .long)]) [0, 1] rfl
  refine z_lawi (wr := Mw h1 md ms mv mh mn cI2 cJ2 (dk, hf, gn, rt, ct, pw, sl, sm, cu, ln, lk, lq2, vq2, hs, nd)) [0, 1, 2, 3] [4, 5, 6, 7, 8, 9] (va_runV (C := R_X) (b := h0) (As := []) (rest := []) ⟨hx, hb, hml, hown, hts⟩ (c_checkpoint l dC dI h0 qd qs qv cI cJ _ dk hf gn rt ct sl sm pw ln lq vq ch  (by omega) (by omega)) (cwV 0 hts g_law_44 rfl rfl rfl (by decide +kernel) ⟨(Nat.le_of_ble_eq_true rfl), (Nat.le_of_ble_eq_true rfl)⟩) (z_preV (va_recv (q0 := 0) hKc hPc rfl rfl) hPc hKc hDc) rfl rfl hl.1 rfl (lv_room (Nat.le_of_ble_eq_true rfl)) d_law_250 ⟨(Nat.le_of_ble_eq_true rfl), (Nat.le_of_ble_eq_true rfl)⟩) rfl rfl (by decide) (by decide) hS hP hD hA (fun r1 u1 H locs hr1 hP hD hS => ?_)
  have hP := hP.sub (ws' := Xw h0 qd qs qv cI cJ u1 ++ Mw h1 md ms mv mh mn cI2 cJ2 (dk, hf, gn, rt, ct, pw, sl, sm, cu, ln, lk, lq2, vq2, hs, nd)) [6, 7, 8, 9, 0, 1, 2, 3, 4, 5] rfl
  have hD := hD.sub (ws' := Xw h0 qd qs qv cI cJ u1 ++ Mw h1 md ms mv mh mn cI2 cJ2 (dk, hf, gn, rt, ct, pw, sl, sm, cu, ln, lk, lq2, vq2, hs, nd)) [6, 7, 8, 9, 0, 1, 2, 3, 4, 5] (by decide) rfl
  refine lv_aload_n hx hb d_law_253 rfl (lv_at hl 2 rfl) ?_
  have hPc := hP.sub (ws' := Mw h1 md ms mv mh mn cI2 cJ2 (dk, hf, gn, rt, ct, pw, sl, sm, cu, ln, lk, lq2, vq2, hs, nd)) [4, 5, 6, 7, 8, 9] rfl
  have hDc := hD.sub (ws' := Mw h1 md ms mv mh mn cI2 cJ2 (dk, hf, gn, rt, ct, pw, sl, sm, cu, ln, lk, lq2, vq2, hs, nd)) [4, 5, 6, 7, 8, 9] (by decide) rfl
  have hKc := hK.sub (tys' := [(cI2, .int), (cJ2, .long)]) [2, 3] rfl
  refine z_lawi (wr := Xw h0 qd qs qv cI cJ u1) [4, 5, 6, 7, 8, 9] [0, 1, 2, 3] (va_runV (C := R_M) (b := h1) (As := []) (rest := [.int r1]) ⟨hx, hb, hml, hown, hts⟩ (mc_checkpoint l dC dI h1 md ms mv mh mn cI2 cJ2 _ dk hf gn rt ct pw sl sm cu ln lk lq2 vq2 hs nd  (by omega) (by omega)) (cwV 0 hts g_law_47 rfl rfl rfl (by decide +kernel) ⟨(Nat.le_of_ble_eq_true rfl), (Nat.le_of_ble_eq_true rfl)⟩) (z_preV (va_recv (q0 := 0) hKc hPc rfl rfl) hPc hKc hDc) rfl rfl hl.1 rfl (lv_room (Nat.le_of_ble_eq_true rfl)) d_law_254 ⟨(Nat.le_of_ble_eq_true rfl), (Nat.le_of_ble_eq_true rfl)⟩) rfl rfl (by decide) (by decide) hS hP hD hA (fun r2 u2 H locs hr2 hP hD hS => ?_)
  have hP : va_P (dC, dI) classes (Xw h0 qd qs qv cI cJ u1 ++ Mw h1 md ms mv mh mn cI2 cJ2 u2) H := hP
  have hD : va_D A (Xw h0 qd qs qv cI cJ u1 ++ Mw h1 md ms mv mh mn cI2 cJ2 u2) := hD
  obtain ⟨he, hRl⟩ := rl_check hR (by omega) hr1 hr2
  refine lv_icmp_eq (tgt := 380) hx hb d_law_257 (by decide) (fun _ => ?_) (fun h9 => absurd he h9)
  exact kk _ _ ls _ _ (Rl_up hRl) hl hP hD hS
set_option maxHeartbeats 1000000 in
set_option maxRecDepth 100000 in
theorem lw_case7 {p : Program} {l : Launch} {e : Env} {s : State} {m : MethodId} {below : List Frame} {meth : Method} {c : Code} {b L : Nat} {xs : Nat → Int32} (C0 : lw_At p s m meth c b L xs) (hL : L ≤ 2048) {dC : Nat → ClassId} {dI : Nat → Nat → Nat} {h0 qd qs qv : Nat} {cI cJ : ClassId} {h1 md ms mv mh mn : Nat} {cI2 cJ2 : ClassId} {A : Nat → Prop} (hbA : ¬ A b) (hA : ∀ q, s.heap.size ≤ q → A q) (hK : va_K (dC, dI) classes [(cI, .int), (cJ, .long), (cI2, .int), (cJ2, .long)] s) {i n : Nat} (hi : i + 4 ≤ L) (hn : n ≤ 100000) {u1 : XS} {u2 : MS} (hRl : Rl u1 u2 n) {ls : Array Slot} {H : Heap} {locs : List Loc} (hl : lv_has ls 4 [(0, .ref b), (1, .ref h0), (2, .ref h1), (3, .int (nI i))]) (hP : va_P (dC, dI) classes (Xw h0 qd qs qv cI cJ u1 ++ Mw h1 md ms mv mh mn cI2 cJ2 u2) H) (hD : va_D A (Xw h0 qd qs qv cI cJ u1 ++ Mw h1 md ms mv mh mn cI2 cJ2 u2)) (hS : va_S A s.heap H locs) (kk : ∀ (u1 : XS) (u2 : MS) (ls : Array Slot) (H : Heap) (locs : List Loc), Rl u1 u2 (n + 2) → lv_has ls 4 [(0, .ref b), (1, .ref h0), (2, .ref h1), (3, .int (nI i))] → va_P (dC, dI) classes (Xw h0 qd qs qv cI cJ u1 ++ Mw h1 md ms mv mh mn cI2 cJ2 u2) H → va_D A (Xw h0 qd qs qv cI cJ u1 ++ Mw h1 md ms mv mh mn cI2 cJ2 u2) → va_S A s.heap H locs → W p l e room_1 s m #[Value.ref b] below meth c H locs 10 275 (lw_Z below #[Value.ref b] s) (F0 m 380 ls [])) : W p l e room_1 s m #[Value.ref b] below meth c H locs 10 275 (lw_Z below #[Value.ref b] s) (F0 m 262 ls []) := by
  obtain ⟨hx, hb, hr, hml, hown, hts0, hX, hbl, hlocks, hgv⟩ := C0
  have hts := fun (w : Cond) (h : w ∈ lw_U) => hts0 w (List.mem_filter.mp h).1
  obtain ⟨dk, hf, gn, rt, ct, sl, sm, pw, ln, lq, vq, ch, cu, lk, lq2, vq2, hs, nd, rfl, rfl, hR⟩ := hRl
  have h_f := hR.1
  have h_n := hR.2.1
  refine lv_aload_n hx hb d_law_262 rfl (lv_at hl 1 rfl) ?_
  refine lv_aload_n hx hb d_law_263 rfl (lv_at hl 0 rfl) ?_
  refine lv_iload_n hx hb d_law_264 rfl (lv_at hl 3 rfl) ?_
  refine lv_iconst (v := nI 1) hx hb d_law_265 (by decide) ?_
  refine lv_iadd hx hb d_law_266 ?_
  refine z_top (nI_add _ _) ?_
  refine z_sld hx hb hX hbl hbA hS (by omega) (by omega) d_law_267 ?_
  refine lv_aload_n hx hb d_law_268 rfl (lv_at hl 0 rfl) ?_
  refine lv_iload_n hx hb d_law_269 rfl (lv_at hl 3 rfl) ?_
  refine lv_iconst (v := nI 2) hx hb d_law_270 (by decide) ?_
  refine lv_iadd hx hb d_law_271 ?_
  refine z_top (nI_add _ _) ?_
  refine z_sld hx hb hX hbl hbA hS (by omega) (by omega) d_law_272 ?_
  have hPc := hP.sub (ws' := Xw h0 qd qs qv cI cJ (dk, hf, gn, rt, ct, sl, sm, pw, ln, lq, vq, ch)) [0, 1, 2, 3] rfl
  have hDc := hD.sub (ws' := Xw h0 qd qs qv cI cJ (dk, hf, gn, rt, ct, sl, sm, pw, ln, lq, vq, ch)) [0, 1, 2, 3] (by decide) rfl
  have hKc := hK.sub (tys' := [(cI, .int), (cJ, .long)]) [0, 1] rfl
  refine z_lawi (wr := Mw h1 md ms mv mh mn cI2 cJ2 (dk, hf, gn, rt, ct, pw, sl, sm, cu, ln, lk, lq2, vq2, hs, nd)) [0, 1, 2, 3] [4, 5, 6, 7, 8, 9] (va_runV (C := R_X) (b := h0) (As := [.int (xs (i + 1)), .int (xs (i + 2))]) (rest := []) ⟨hx, hb, hml, hown, hts⟩ (c_alter l dC dI h0 qd qs qv cI cJ _ dk hf gn rt ct sl sm pw ln lq vq ch (xs (i + 1)) (xs (i + 2))) (cwV 2 hts g_law_48 rfl rfl rfl (by decide +kernel) ⟨(Nat.le_of_ble_eq_true rfl), (Nat.le_of_ble_eq_true rfl)⟩) (z_preV (va_recv (q0 := 0) hKc hPc rfl rfl) hPc hKc hDc) rfl rfl hl.1 rfl (lv_room (Nat.le_of_ble_eq_true rfl)) d_law_273 ⟨(Nat.le_of_ble_eq_true rfl), (Nat.le_of_ble_eq_true rfl)⟩) rfl rfl (by decide) (by decide) hS hP hD hA (fun r1 u1 H locs hr1 hP hD hS => ?_)
  have hP := hP.sub (ws' := Xw h0 qd qs qv cI cJ u1 ++ Mw h1 md ms mv mh mn cI2 cJ2 (dk, hf, gn, rt, ct, pw, sl, sm, cu, ln, lk, lq2, vq2, hs, nd)) [6, 7, 8, 9, 0, 1, 2, 3, 4, 5] rfl
  have hD := hD.sub (ws' := Xw h0 qd qs qv cI cJ u1 ++ Mw h1 md ms mv mh mn cI2 cJ2 (dk, hf, gn, rt, ct, pw, sl, sm, cu, ln, lk, lq2, vq2, hs, nd)) [6, 7, 8, 9, 0, 1, 2, 3, 4, 5] (by decide) rfl
  refine lv_aload_n hx hb d_law_276 rfl (lv_at hl 2 rfl) ?_
  refine lv_aload_n hx hb d_law_277 rfl (lv_at hl 0 rfl) ?_
  refine lv_iload_n hx hb d_law_278 rfl (lv_at hl 3 rfl) ?_
  refine lv_iconst (v := nI 1) hx hb d_law_279 (by decide) ?_
  refine lv_iadd hx hb d_law_280 ?_
  refine z_top (nI_add _ _) ?_
  refine z_sld hx hb hX hbl hbA hS (by omega) (by omega) d_law_281 ?_
  refine lv_aload_n hx hb d_law_282 rfl (lv_at hl 0 rfl) ?_
  refine lv_iload_n hx hb d_law_283 rfl (lv_at hl 3 rfl) ?_
  refine lv_iconst (v := nI 2) hx hb d_law_284 (by decide) ?_
  refine lv_iadd hx hb d_law_285 ?_
  refine z_top (nI_add _ _) ?_
  refine z_sld hx hb hX hbl hbA hS (by omega) (by omega) d_law_286 ?_
  have hPc := hP.sub (ws' := Mw h1 md ms mv mh mn cI2 cJ2 (dk, hf, gn, rt, ct, pw, sl, sm, cu, ln, lk, lq2, vq2, hs, nd)) [4, 5, 6, 7, 8, 9] rfl
  have hDc := hD.sub (ws' := Mw h1 md ms mv mh mn cI2 cJ2 (dk, hf, gn, rt, ct, pw, sl, sm, cu, ln, lk, lq2, vq2, hs, nd)) [4, 5, 6, 7, 8, 9] (by decide) rfl
  have hKc := hK.sub (tys' := [(cI2, .int), (cJ2, .long)]) [2, 3] rfl
  refine z_lawi (wr := Xw h0 qd qs qv cI cJ u1) [4, 5, 6, 7, 8, 9] [0, 1, 2, 3] (va_runV (C := R_M) (b := h1) (As := [.int (xs (i + 1)), .int (xs (i + 2))]) (rest := [.int r1]) ⟨hx, hb, hml, hown, hts⟩ (mc_alter l dC dI h1 md ms mv mh mn cI2 cJ2 _ dk hf gn rt ct pw sl sm cu ln lk lq2 vq2 hs nd (xs (i + 1)) (xs (i + 2))) (cwV 2 hts g_law_52 rfl rfl rfl (by decide +kernel) ⟨(Nat.le_of_ble_eq_true rfl), (Nat.le_of_ble_eq_true rfl)⟩) (z_preV (va_recv (q0 := 0) hKc hPc rfl rfl) hPc hKc hDc) rfl rfl hl.1 rfl (lv_room (Nat.le_of_ble_eq_true rfl)) d_law_287 ⟨(Nat.le_of_ble_eq_true rfl), (Nat.le_of_ble_eq_true rfl)⟩) rfl rfl (by decide) (by decide) hS hP hD hA (fun r2 u2 H locs hr2 hP hD hS => ?_)
  have hP : va_P (dC, dI) classes (Xw h0 qd qs qv cI cJ u1 ++ Mw h1 md ms mv mh mn cI2 cJ2 u2) H := hP
  have hD : va_D A (Xw h0 qd qs qv cI cJ u1 ++ Mw h1 md ms mv mh mn cI2 cJ2 u2) := hD
  obtain ⟨he, hRl⟩ := rl_alter hR hr1 hr2
  refine lv_icmp_eq (tgt := 380) hx hb d_law_290 (by decide) (fun _ => ?_) (fun h9 => absurd he h9)
  exact kk _ _ ls _ _ (Rl_up hRl) hl hP hD hS
set_option maxHeartbeats 1000000 in
set_option maxRecDepth 100000 in
theorem lw_case8 {p : Program} {l : Launch} {e : Env} {s : State} {m : MethodId} {below : List Frame} {meth : Method} {c : Code} {b L : Nat} {xs : Nat → Int32} (C0 : lw_At p s m meth c b L xs) (hL : L ≤ 2048) {dC : Nat → ClassId} {dI : Nat → Nat → Nat} {h0 qd qs qv : Nat} {cI cJ : ClassId} {h1 md ms mv mh mn : Nat} {cI2 cJ2 : ClassId} {A : Nat → Prop} (hbA : ¬ A b) (hA : ∀ q, s.heap.size ≤ q → A q) (hK : va_K (dC, dI) classes [(cI, .int), (cJ, .long), (cI2, .int), (cJ2, .long)] s) {i n : Nat} (hi : i + 4 ≤ L) (hn : n ≤ 100000) {u1 : XS} {u2 : MS} (hRl : Rl u1 u2 n) {ls : Array Slot} {H : Heap} {locs : List Loc} (hl : lv_has ls 4 [(0, .ref b), (1, .ref h0), (2, .ref h1), (3, .int (nI i))]) (hP : va_P (dC, dI) classes (Xw h0 qd qs qv cI cJ u1 ++ Mw h1 md ms mv mh mn cI2 cJ2 u2) H) (hD : va_D A (Xw h0 qd qs qv cI cJ u1 ++ Mw h1 md ms mv mh mn cI2 cJ2 u2)) (hS : va_S A s.heap H locs) (kk : ∀ (u1 : XS) (u2 : MS) (ls : Array Slot) (H : Heap) (locs : List Loc), Rl u1 u2 (n + 2) → lv_has ls 4 [(0, .ref b), (1, .ref h0), (2, .ref h1), (3, .int (nI i))] → va_P (dC, dI) classes (Xw h0 qd qs qv cI cJ u1 ++ Mw h1 md ms mv mh mn cI2 cJ2 u2) H → va_D A (Xw h0 qd qs qv cI cJ u1 ++ Mw h1 md ms mv mh mn cI2 cJ2 u2) → va_S A s.heap H locs → W p l e room_1 s m #[Value.ref b] below meth c H locs 10 275 (lw_Z below #[Value.ref b] s) (F0 m 380 ls [])) : W p l e room_1 s m #[Value.ref b] below meth c H locs 10 275 (lw_Z below #[Value.ref b] s) (F0 m 295 ls []) := by
  obtain ⟨hx, hb, hr, hml, hown, hts0, hX, hbl, hlocks, hgv⟩ := C0
  have hts := fun (w : Cond) (h : w ∈ lw_U) => hts0 w (List.mem_filter.mp h).1
  obtain ⟨dk, hf, gn, rt, ct, sl, sm, pw, ln, lq, vq, ch, cu, lk, lq2, vq2, hs, nd, rfl, rfl, hR⟩ := hRl
  have h_f := hR.1
  have h_n := hR.2.1
  refine lv_aload_n hx hb d_law_295 rfl (lv_at hl 1 rfl) ?_
  refine lv_aload_n hx hb d_law_296 rfl (lv_at hl 0 rfl) ?_
  refine lv_iload_n hx hb d_law_297 rfl (lv_at hl 3 rfl) ?_
  refine lv_iconst (v := nI 1) hx hb d_law_298 (by decide) ?_
  refine lv_iadd hx hb d_law_299 ?_
  refine z_top (nI_add _ _) ?_
  refine z_sld hx hb hX hbl hbA hS (by omega) (by omega) d_law_300 ?_
  have hPc := hP.sub (ws' := Xw h0 qd qs qv cI cJ (dk, hf, gn, rt, ct, sl, sm, pw, ln, lq, vq, ch)) [0, 1, 2, 3] rfl
  have hDc := hD.sub (ws' := Xw h0 qd qs qv cI cJ (dk, hf, gn, rt, ct, sl, sm, pw, ln, lq, vq, ch)) [0, 1, 2, 3] (by decide) rfl
  have hKc := hK.sub (tys' := [(cI, .int), (cJ, .long)]) [0, 1] rfl
  refine vp_callSi (W.runV (C := R_X) (b := h0) (As := [.int (xs (i + 1))]) (rest := []) ⟨hx, hb, hml, hown, hts⟩ (c_peek l dC dI h0 qd qs qv cI cJ _ dk hf gn rt ct sl sm pw ln lq vq ch (xs (i + 1))) (cwV 1 hts g_law_53 rfl rfl rfl (by decide +kernel) ⟨(Nat.le_of_ble_eq_true rfl), (Nat.le_of_ble_eq_true rfl)⟩) (z_preV (va_recv (q0 := 0) hKc hPc rfl rfl) hPc hKc hDc) rfl rfl hl.1 rfl (lv_room (Nat.le_of_ble_eq_true rfl)) d_law_301 ⟨(Nat.le_of_ble_eq_true rfl), (Nat.le_of_ble_eq_true rfl)⟩) (fun r1 hr1 => ?_)
  refine lv_aload_n hx hb d_law_304 rfl (lv_at hl 2 rfl) ?_
  refine lv_aload_n hx hb d_law_305 rfl (lv_at hl 0 rfl) ?_
  refine lv_iload_n hx hb d_law_306 rfl (lv_at hl 3 rfl) ?_
  refine lv_iconst (v := nI 1) hx hb d_law_307 (by decide) ?_
  refine lv_iadd hx hb d_law_308 ?_
  refine z_top (nI_add _ _) ?_
  refine z_sld hx hb hX hbl hbA hS (by omega) (by omega) d_law_309 ?_
  have hPc := hP.sub (ws' := Mw h1 md ms mv mh mn cI2 cJ2 (dk, hf, gn, rt, ct, pw, sl, sm, cu, ln, lk, lq2, vq2, hs, nd)) [4, 5, 6, 7, 8, 9] rfl
  have hDc := hD.sub (ws' := Mw h1 md ms mv mh mn cI2 cJ2 (dk, hf, gn, rt, ct, pw, sl, sm, cu, ln, lk, lq2, vq2, hs, nd)) [4, 5, 6, 7, 8, 9] (by decide) rfl
  have hKc := hK.sub (tys' := [(cI2, .int), (cJ2, .long)]) [2, 3] rfl
  refine vp_callSi (W.runV (C := R_M) (b := h1) (As := [.int (xs (i + 1))]) (rest := [.int r1]) ⟨hx, hb, hml, hown, hts⟩ (mc_peek l dC dI h1 md ms mv mh mn cI2 cJ2 _ dk hf gn rt ct pw sl sm cu ln lk lq2 vq2 hs nd (xs (i + 1))) (cwV 1 hts g_law_57 rfl rfl rfl (by decide +kernel) ⟨(Nat.le_of_ble_eq_true rfl), (Nat.le_of_ble_eq_true rfl)⟩) (z_preV (va_recv (q0 := 0) hKc hPc rfl rfl) hPc hKc hDc) rfl rfl hl.1 rfl (lv_room (Nat.le_of_ble_eq_true rfl)) d_law_310 ⟨(Nat.le_of_ble_eq_true rfl), (Nat.le_of_ble_eq_true rfl)⟩) (fun r2 hr2 => ?_)
  have he : r1 = r2 := hr1.trans hr2.symm
  refine lv_icmp_eq (tgt := 380) hx hb d_law_313 (by decide) (fun _ => ?_) (fun h9 => absurd he h9)
  exact kk _ _ ls _ _ (Rl_up (Rl_up (Rl_mk hR))) hl hP hD hS
set_option maxHeartbeats 1000000 in
set_option maxRecDepth 100000 in
theorem lw_case9 {p : Program} {l : Launch} {e : Env} {s : State} {m : MethodId} {below : List Frame} {meth : Method} {c : Code} {b L : Nat} {xs : Nat → Int32} (C0 : lw_At p s m meth c b L xs) (hL : L ≤ 2048) {dC : Nat → ClassId} {dI : Nat → Nat → Nat} {h0 qd qs qv : Nat} {cI cJ : ClassId} {h1 md ms mv mh mn : Nat} {cI2 cJ2 : ClassId} {A : Nat → Prop} (hbA : ¬ A b) (hA : ∀ q, s.heap.size ≤ q → A q) (hK : va_K (dC, dI) classes [(cI, .int), (cJ, .long), (cI2, .int), (cJ2, .long)] s) {i n : Nat} (hi : i + 4 ≤ L) (hn : n ≤ 100000) {u1 : XS} {u2 : MS} (hRl : Rl u1 u2 n) {ls : Array Slot} {H : Heap} {locs : List Loc} (hl : lv_has ls 4 [(0, .ref b), (1, .ref h0), (2, .ref h1), (3, .int (nI i))]) (hP : va_P (dC, dI) classes (Xw h0 qd qs qv cI cJ u1 ++ Mw h1 md ms mv mh mn cI2 cJ2 u2) H) (hD : va_D A (Xw h0 qd qs qv cI cJ u1 ++ Mw h1 md ms mv mh mn cI2 cJ2 u2)) (hS : va_S A s.heap H locs) (kk : ∀ (u1 : XS) (u2 : MS) (ls : Array Slot) (H : Heap) (locs : List Loc), Rl u1 u2 (n + 2) → lv_has ls 4 [(0, .ref b), (1, .ref h0), (2, .ref h1), (3, .int (nI i))] → va_P (dC, dI) classes (Xw h0 qd qs qv cI cJ u1 ++ Mw h1 md ms mv mh mn cI2 cJ2 u2) H → va_D A (Xw h0 qd qs qv cI cJ u1 ++ Mw h1 md ms mv mh mn cI2 cJ2 u2) → va_S A s.heap H locs → W p l e room_1 s m #[Value.ref b] below meth c H locs 10 275 (lw_Z below #[Value.ref b] s) (F0 m 380 ls [])) : W p l e room_1 s m #[Value.ref b] below meth c H locs 10 275 (lw_Z below #[Value.ref b] s) (F0 m 318 ls []) := by
  obtain ⟨hx, hb, hr, hml, hown, hts0, hX, hbl, hlocks, hgv⟩ := C0
  have hts := fun (w : Cond) (h : w ∈ lw_U) => hts0 w (List.mem_filter.mp h).1
  obtain ⟨dk, hf, gn, rt, ct, sl, sm, pw, ln, lq, vq, ch, cu, lk, lq2, vq2, hs, nd, rfl, rfl, hR⟩ := hRl
  have h_f := hR.1
  have h_n := hR.2.1
  refine lv_aload_n hx hb d_law_318 rfl (lv_at hl 1 rfl) ?_
  refine lv_aload_n hx hb d_law_319 rfl (lv_at hl 0 rfl) ?_
  refine lv_iload_n hx hb d_law_320 rfl (lv_at hl 3 rfl) ?_
  refine lv_iconst (v := nI 1) hx hb d_law_321 (by decide) ?_
  refine lv_iadd hx hb d_law_322 ?_
  refine z_top (nI_add _ _) ?_
  refine z_sld hx hb hX hbl hbA hS (by omega) (by omega) d_law_323 ?_
  have hPc := hP.sub (ws' := Xw h0 qd qs qv cI cJ (dk, hf, gn, rt, ct, sl, sm, pw, ln, lq, vq, ch)) [0, 1, 2, 3] rfl
  have hDc := hD.sub (ws' := Xw h0 qd qs qv cI cJ (dk, hf, gn, rt, ct, sl, sm, pw, ln, lq, vq, ch)) [0, 1, 2, 3] (by decide) rfl
  have hKc := hK.sub (tys' := [(cI, .int), (cJ, .long)]) [0, 1] rfl
  refine vp_callSi (W.runV (C := R_X) (b := h0) (As := [.int (xs (i + 1))]) (rest := []) ⟨hx, hb, hml, hown, hts⟩ (c_seal l dC dI h0 qd qs qv cI cJ _ dk hf gn rt ct sl sm pw ln lq vq ch (xs (i + 1))) (cwV 1 hts g_law_58 rfl rfl rfl (by decide +kernel) ⟨(Nat.le_of_ble_eq_true rfl), (Nat.le_of_ble_eq_true rfl)⟩) (z_preV (va_recv (q0 := 0) hKc hPc rfl rfl) hPc hKc hDc) rfl rfl hl.1 rfl (lv_room (Nat.le_of_ble_eq_true rfl)) d_law_324 ⟨(Nat.le_of_ble_eq_true rfl), (Nat.le_of_ble_eq_true rfl)⟩) (fun r1 hr1 => ?_)
  refine lv_aload_n hx hb d_law_327 rfl (lv_at hl 2 rfl) ?_
  refine lv_aload_n hx hb d_law_328 rfl (lv_at hl 0 rfl) ?_
  refine lv_iload_n hx hb d_law_329 rfl (lv_at hl 3 rfl) ?_
  refine lv_iconst (v := nI 1) hx hb d_law_330 (by decide) ?_
  refine lv_iadd hx hb d_law_331 ?_
  refine z_top (nI_add _ _) ?_
  refine z_sld hx hb hX hbl hbA hS (by omega) (by omega) d_law_332 ?_
  have hPc := hP.sub (ws' := Mw h1 md ms mv mh mn cI2 cJ2 (dk, hf, gn, rt, ct, pw, sl, sm, cu, ln, lk, lq2, vq2, hs, nd)) [4, 5, 6, 7, 8, 9] rfl
  have hDc := hD.sub (ws' := Mw h1 md ms mv mh mn cI2 cJ2 (dk, hf, gn, rt, ct, pw, sl, sm, cu, ln, lk, lq2, vq2, hs, nd)) [4, 5, 6, 7, 8, 9] (by decide) rfl
  have hKc := hK.sub (tys' := [(cI2, .int), (cJ2, .long)]) [2, 3] rfl
  refine vp_callSi (W.runV (C := R_M) (b := h1) (As := [.int (xs (i + 1))]) (rest := [.int r1]) ⟨hx, hb, hml, hown, hts⟩ (mc_seal l dC dI h1 md ms mv mh mn cI2 cJ2 _ dk hf gn rt ct pw sl sm cu ln lk lq2 vq2 hs nd (xs (i + 1))) (cwV 1 hts g_law_61 rfl rfl rfl (by decide +kernel) ⟨(Nat.le_of_ble_eq_true rfl), (Nat.le_of_ble_eq_true rfl)⟩) (z_preV (va_recv (q0 := 0) hKc hPc rfl rfl) hPc hKc hDc) rfl rfl hl.1 rfl (lv_room (Nat.le_of_ble_eq_true rfl)) d_law_333 ⟨(Nat.le_of_ble_eq_true rfl), (Nat.le_of_ble_eq_true rfl)⟩) (fun r2 hr2 => ?_)
  have he : r1 = r2 := hr1.trans hr2.symm
  refine lv_icmp_eq (tgt := 380) hx hb d_law_336 (by decide) (fun _ => ?_) (fun h9 => absurd he h9)
  exact kk _ _ ls _ _ (Rl_up (Rl_up (Rl_mk hR))) hl hP hD hS
set_option maxHeartbeats 1000000 in
set_option maxRecDepth 100000 in
theorem lw_case10 {p : Program} {l : Launch} {e : Env} {s : State} {m : MethodId} {below : List Frame} {meth : Method} {c : Code} {b L : Nat} {xs : Nat → Int32} (C0 : lw_At p s m meth c b L xs) (hL : L ≤ 2048) {dC : Nat → ClassId} {dI : Nat → Nat → Nat} {h0 qd qs qv : Nat} {cI cJ : ClassId} {h1 md ms mv mh mn : Nat} {cI2 cJ2 : ClassId} {A : Nat → Prop} (hbA : ¬ A b) (hA : ∀ q, s.heap.size ≤ q → A q) (hK : va_K (dC, dI) classes [(cI, .int), (cJ, .long), (cI2, .int), (cJ2, .long)] s) {i n : Nat} (hi : i + 4 ≤ L) (hn : n ≤ 100000) {u1 : XS} {u2 : MS} (hRl : Rl u1 u2 n) {ls : Array Slot} {H : Heap} {locs : List Loc} (hl : lv_has ls 4 [(0, .ref b), (1, .ref h0), (2, .ref h1), (3, .int (nI i))]) (hP : va_P (dC, dI) classes (Xw h0 qd qs qv cI cJ u1 ++ Mw h1 md ms mv mh mn cI2 cJ2 u2) H) (hD : va_D A (Xw h0 qd qs qv cI cJ u1 ++ Mw h1 md ms mv mh mn cI2 cJ2 u2)) (hS : va_S A s.heap H locs) (kk : ∀ (u1 : XS) (u2 : MS) (ls : Array Slot) (H : Heap) (locs : List Loc), Rl u1 u2 (n + 2) → lv_has ls 4 [(0, .ref b), (1, .ref h0), (2, .ref h1), (3, .int (nI i))] → va_P (dC, dI) classes (Xw h0 qd qs qv cI cJ u1 ++ Mw h1 md ms mv mh mn cI2 cJ2 u2) H → va_D A (Xw h0 qd qs qv cI cJ u1 ++ Mw h1 md ms mv mh mn cI2 cJ2 u2) → va_S A s.heap H locs → W p l e room_1 s m #[Value.ref b] below meth c H locs 10 275 (lw_Z below #[Value.ref b] s) (F0 m 380 ls [])) : W p l e room_1 s m #[Value.ref b] below meth c H locs 10 275 (lw_Z below #[Value.ref b] s) (F0 m 341 ls []) := by
  obtain ⟨hx, hb, hr, hml, hown, hts0, hX, hbl, hlocks, hgv⟩ := C0
  have hts := fun (w : Cond) (h : w ∈ lw_U) => hts0 w (List.mem_filter.mp h).1
  obtain ⟨dk, hf, gn, rt, ct, sl, sm, pw, ln, lq, vq, ch, cu, lk, lq2, vq2, hs, nd, rfl, rfl, hR⟩ := hRl
  have h_f := hR.1
  have h_n := hR.2.1
  refine lv_aload_n hx hb d_law_341 rfl (lv_at hl 1 rfl) ?_
  have hPc := hP.sub (ws' := Xw h0 qd qs qv cI cJ (dk, hf, gn, rt, ct, sl, sm, pw, ln, lq, vq, ch)) [0, 1, 2, 3] rfl
  have hDc := hD.sub (ws' := Xw h0 qd qs qv cI cJ (dk, hf, gn, rt, ct, sl, sm, pw, ln, lq, vq, ch)) [0, 1, 2, 3] (by decide) rfl
  have hKc := hK.sub (tys' := [(cI, .int), (cJ, .long)]) [0, 1] rfl
  refine vp_callSi (W.runV (C := R_X) (b := h0) (As := []) (rest := []) ⟨hx, hb, hml, hown, hts⟩ (c_writes l dC dI h0 qd qs qv cI cJ _ dk hf gn rt ct sl sm pw ln lq vq ch ) (cwV 0 hts g_law_62 rfl rfl rfl (by decide +kernel) ⟨(Nat.le_of_ble_eq_true rfl), (Nat.le_of_ble_eq_true rfl)⟩) (z_preV (va_recv (q0 := 0) hKc hPc rfl rfl) hPc hKc hDc) rfl rfl hl.1 rfl (lv_room (Nat.le_of_ble_eq_true rfl)) d_law_342 ⟨(Nat.le_of_ble_eq_true rfl), (Nat.le_of_ble_eq_true rfl)⟩) (fun r1 hr1 => ?_)
  refine lv_aload_n hx hb d_law_345 rfl (lv_at hl 2 rfl) ?_
  have hPc := hP.sub (ws' := Mw h1 md ms mv mh mn cI2 cJ2 (dk, hf, gn, rt, ct, pw, sl, sm, cu, ln, lk, lq2, vq2, hs, nd)) [4, 5, 6, 7, 8, 9] rfl
  have hDc := hD.sub (ws' := Mw h1 md ms mv mh mn cI2 cJ2 (dk, hf, gn, rt, ct, pw, sl, sm, cu, ln, lk, lq2, vq2, hs, nd)) [4, 5, 6, 7, 8, 9] (by decide) rfl
  have hKc := hK.sub (tys' := [(cI2, .int), (cJ2, .long)]) [2, 3] rfl
  refine vp_callSi (W.runV (C := R_M) (b := h1) (As := []) (rest := [.int r1]) ⟨hx, hb, hml, hown, hts⟩ (mc_writes l dC dI h1 md ms mv mh mn cI2 cJ2 _ dk hf gn rt ct pw sl sm cu ln lk lq2 vq2 hs nd ) (cwV 0 hts g_law_65 rfl rfl rfl (by decide +kernel) ⟨(Nat.le_of_ble_eq_true rfl), (Nat.le_of_ble_eq_true rfl)⟩) (z_preV (va_recv (q0 := 0) hKc hPc rfl rfl) hPc hKc hDc) rfl rfl hl.1 rfl (lv_room (Nat.le_of_ble_eq_true rfl)) d_law_346 ⟨(Nat.le_of_ble_eq_true rfl), (Nat.le_of_ble_eq_true rfl)⟩) (fun r2 hr2 => ?_)
  have he : r1 = r2 := hr1.trans hr2.symm
  refine lv_icmp_eq (tgt := 380) hx hb d_law_349 (by decide) (fun _ => ?_) (fun h9 => absurd he h9)
  exact kk _ _ ls _ _ (Rl_up (Rl_up (Rl_mk hR))) hl hP hD hS
set_option maxHeartbeats 1000000 in
set_option maxRecDepth 100000 in
theorem lw_case11 {p : Program} {l : Launch} {e : Env} {s : State} {m : MethodId} {below : List Frame} {meth : Method} {c : Code} {b L : Nat} {xs : Nat → Int32} (C0 : lw_At p s m meth c b L xs) (hL : L ≤ 2048) {dC : Nat → ClassId} {dI : Nat → Nat → Nat} {h0 qd qs qv : Nat} {cI cJ : ClassId} {h1 md ms mv mh mn : Nat} {cI2 cJ2 : ClassId} {A : Nat → Prop} (hbA : ¬ A b) (hA : ∀ q, s.heap.size ≤ q → A q) (hK : va_K (dC, dI) classes [(cI, .int), (cJ, .long), (cI2, .int), (cJ2, .long)] s) {i n : Nat} (hi : i + 4 ≤ L) (hn : n ≤ 100000) {u1 : XS} {u2 : MS} (hRl : Rl u1 u2 n) {ls : Array Slot} {H : Heap} {locs : List Loc} (hl : lv_has ls 4 [(0, .ref b), (1, .ref h0), (2, .ref h1), (3, .int (nI i))]) (hP : va_P (dC, dI) classes (Xw h0 qd qs qv cI cJ u1 ++ Mw h1 md ms mv mh mn cI2 cJ2 u2) H) (hD : va_D A (Xw h0 qd qs qv cI cJ u1 ++ Mw h1 md ms mv mh mn cI2 cJ2 u2)) (hS : va_S A s.heap H locs) (kk : ∀ (u1 : XS) (u2 : MS) (ls : Array Slot) (H : Heap) (locs : List Loc), Rl u1 u2 (n + 2) → lv_has ls 4 [(0, .ref b), (1, .ref h0), (2, .ref h1), (3, .int (nI i))] → va_P (dC, dI) classes (Xw h0 qd qs qv cI cJ u1 ++ Mw h1 md ms mv mh mn cI2 cJ2 u2) H → va_D A (Xw h0 qd qs qv cI cJ u1 ++ Mw h1 md ms mv mh mn cI2 cJ2 u2) → va_S A s.heap H locs → W p l e room_1 s m #[Value.ref b] below meth c H locs 10 275 (lw_Z below #[Value.ref b] s) (F0 m 380 ls [])) : W p l e room_1 s m #[Value.ref b] below meth c H locs 10 275 (lw_Z below #[Value.ref b] s) (F0 m 354 ls []) := by
  obtain ⟨hx, hb, hr, hml, hown, hts0, hX, hbl, hlocks, hgv⟩ := C0
  have hts := fun (w : Cond) (h : w ∈ lw_U) => hts0 w (List.mem_filter.mp h).1
  obtain ⟨dk, hf, gn, rt, ct, sl, sm, pw, ln, lq, vq, ch, cu, lk, lq2, vq2, hs, nd, rfl, rfl, hR⟩ := hRl
  have h_f := hR.1
  have h_n := hR.2.1
  refine lv_aload_n hx hb d_law_354 rfl (lv_at hl 1 rfl) ?_
  have hPc := hP.sub (ws' := Xw h0 qd qs qv cI cJ (dk, hf, gn, rt, ct, sl, sm, pw, ln, lq, vq, ch)) [0, 1, 2, 3] rfl
  have hDc := hD.sub (ws' := Xw h0 qd qs qv cI cJ (dk, hf, gn, rt, ct, sl, sm, pw, ln, lq, vq, ch)) [0, 1, 2, 3] (by decide) rfl
  have hKc := hK.sub (tys' := [(cI, .int), (cJ, .long)]) [0, 1] rfl
  refine vp_callSi (W.runV (C := R_X) (b := h0) (As := []) (rest := []) ⟨hx, hb, hml, hown, hts⟩ (c_sound l dC dI h0 qd qs qv cI cJ _ dk hf gn rt ct sl sm pw ln lq vq ch  (by omega) (by omega)) (cwV 0 hts g_law_66 rfl rfl rfl (by decide +kernel) ⟨(Nat.le_of_ble_eq_true rfl), (Nat.le_of_ble_eq_true rfl)⟩) (z_preV (va_recv (q0 := 0) hKc hPc rfl rfl) hPc hKc hDc) rfl rfl hl.1 rfl (lv_room (Nat.le_of_ble_eq_true rfl)) d_law_355 ⟨(Nat.le_of_ble_eq_true rfl), (Nat.le_of_ble_eq_true rfl)⟩) (fun r1 hr1 => ?_)
  refine lv_aload_n hx hb d_law_358 rfl (lv_at hl 2 rfl) ?_
  have hPc := hP.sub (ws' := Mw h1 md ms mv mh mn cI2 cJ2 (dk, hf, gn, rt, ct, pw, sl, sm, cu, ln, lk, lq2, vq2, hs, nd)) [4, 5, 6, 7, 8, 9] rfl
  have hDc := hD.sub (ws' := Mw h1 md ms mv mh mn cI2 cJ2 (dk, hf, gn, rt, ct, pw, sl, sm, cu, ln, lk, lq2, vq2, hs, nd)) [4, 5, 6, 7, 8, 9] (by decide) rfl
  have hKc := hK.sub (tys' := [(cI2, .int), (cJ2, .long)]) [2, 3] rfl
  refine vp_callSi (W.runV (C := R_M) (b := h1) (As := []) (rest := [.int r1]) ⟨hx, hb, hml, hown, hts⟩ (mc_sound l dC dI h1 md ms mv mh mn cI2 cJ2 _ dk hf gn rt ct pw sl sm cu ln lk lq2 vq2 hs nd  (by omega) (by omega)) (cwV 0 hts g_law_69 rfl rfl rfl (by decide +kernel) ⟨(Nat.le_of_ble_eq_true rfl), (Nat.le_of_ble_eq_true rfl)⟩) (z_preV (va_recv (q0 := 0) hKc hPc rfl rfl) hPc hKc hDc) rfl rfl hl.1 rfl (lv_room (Nat.le_of_ble_eq_true rfl)) d_law_359 ⟨(Nat.le_of_ble_eq_true rfl), (Nat.le_of_ble_eq_true rfl)⟩) (fun r2 hr2 => ?_)
  have he : r1 = r2 := rl_sound hR hr1 hr2
  refine lv_icmp_eq (tgt := 380) hx hb d_law_362 (by decide) (fun _ => ?_) (fun h9 => absurd he h9)
  exact kk _ _ ls _ _ (Rl_up (Rl_up (Rl_mk hR))) hl hP hD hS
set_option maxHeartbeats 1000000 in
set_option maxRecDepth 100000 in
theorem lw_case12 {p : Program} {l : Launch} {e : Env} {s : State} {m : MethodId} {below : List Frame} {meth : Method} {c : Code} {b L : Nat} {xs : Nat → Int32} (C0 : lw_At p s m meth c b L xs) (hL : L ≤ 2048) {dC : Nat → ClassId} {dI : Nat → Nat → Nat} {h0 qd qs qv : Nat} {cI cJ : ClassId} {h1 md ms mv mh mn : Nat} {cI2 cJ2 : ClassId} {A : Nat → Prop} (hbA : ¬ A b) (hA : ∀ q, s.heap.size ≤ q → A q) (hK : va_K (dC, dI) classes [(cI, .int), (cJ, .long), (cI2, .int), (cJ2, .long)] s) {i n : Nat} (hi : i + 4 ≤ L) (hn : n ≤ 100000) {u1 : XS} {u2 : MS} (hRl : Rl u1 u2 n) {ls : Array Slot} {H : Heap} {locs : List Loc} (hl : lv_has ls 4 [(0, .ref b), (1, .ref h0), (2, .ref h1), (3, .int (nI i))]) (hP : va_P (dC, dI) classes (Xw h0 qd qs qv cI cJ u1 ++ Mw h1 md ms mv mh mn cI2 cJ2 u2) H) (hD : va_D A (Xw h0 qd qs qv cI cJ u1 ++ Mw h1 md ms mv mh mn cI2 cJ2 u2)) (hS : va_S A s.heap H locs) (kk : ∀ (u1 : XS) (u2 : MS) (ls : Array Slot) (H : Heap) (locs : List Loc), Rl u1 u2 (n + 2) → lv_has ls 4 [(0, .ref b), (1, .ref h0), (2, .ref h1), (3, .int (nI i))] → va_P (dC, dI) classes (Xw h0 qd qs qv cI cJ u1 ++ Mw h1 md ms mv mh mn cI2 cJ2 u2) H → va_D A (Xw h0 qd qs qv cI cJ u1 ++ Mw h1 md ms mv mh mn cI2 cJ2 u2) → va_S A s.heap H locs → W p l e room_1 s m #[Value.ref b] below meth c H locs 10 275 (lw_Z below #[Value.ref b] s) (F0 m 380 ls [])) : W p l e room_1 s m #[Value.ref b] below meth c H locs 10 275 (lw_Z below #[Value.ref b] s) (F0 m 367 ls []) := by
  obtain ⟨hx, hb, hr, hml, hown, hts0, hX, hbl, hlocks, hgv⟩ := C0
  have hts := fun (w : Cond) (h : w ∈ lw_U) => hts0 w (List.mem_filter.mp h).1
  obtain ⟨dk, hf, gn, rt, ct, sl, sm, pw, ln, lq, vq, ch, cu, lk, lq2, vq2, hs, nd, rfl, rfl, hR⟩ := hRl
  have h_f := hR.1
  have h_n := hR.2.1
  refine lv_aload_n hx hb d_law_367 rfl (lv_at hl 1 rfl) ?_
  have hPc := hP.sub (ws' := Xw h0 qd qs qv cI cJ (dk, hf, gn, rt, ct, sl, sm, pw, ln, lq, vq, ch)) [0, 1, 2, 3] rfl
  have hDc := hD.sub (ws' := Xw h0 qd qs qv cI cJ (dk, hf, gn, rt, ct, sl, sm, pw, ln, lq, vq, ch)) [0, 1, 2, 3] (by decide) rfl
  have hKc := hK.sub (tys' := [(cI, .int), (cJ, .long)]) [0, 1] rfl
  refine vp_callSi (W.runV (C := R_X) (b := h0) (As := []) (rest := []) ⟨hx, hb, hml, hown, hts⟩ (c_steps l dC dI h0 qd qs qv cI cJ _ dk hf gn rt ct sl sm pw ln lq vq ch ) (cwV 0 hts g_law_70 rfl rfl rfl (by decide +kernel) ⟨(Nat.le_of_ble_eq_true rfl), (Nat.le_of_ble_eq_true rfl)⟩) (z_preV (va_recv (q0 := 0) hKc hPc rfl rfl) hPc hKc hDc) rfl rfl hl.1 rfl (lv_room (Nat.le_of_ble_eq_true rfl)) d_law_368 ⟨(Nat.le_of_ble_eq_true rfl), (Nat.le_of_ble_eq_true rfl)⟩) (fun r1 hr1 => ?_)
  refine lv_aload_n hx hb d_law_371 rfl (lv_at hl 2 rfl) ?_
  have hPc := hP.sub (ws' := Mw h1 md ms mv mh mn cI2 cJ2 (dk, hf, gn, rt, ct, pw, sl, sm, cu, ln, lk, lq2, vq2, hs, nd)) [4, 5, 6, 7, 8, 9] rfl
  have hDc := hD.sub (ws' := Mw h1 md ms mv mh mn cI2 cJ2 (dk, hf, gn, rt, ct, pw, sl, sm, cu, ln, lk, lq2, vq2, hs, nd)) [4, 5, 6, 7, 8, 9] (by decide) rfl
  have hKc := hK.sub (tys' := [(cI2, .int), (cJ2, .long)]) [2, 3] rfl
  refine vp_callSi (W.runV (C := R_M) (b := h1) (As := []) (rest := [.int r1]) ⟨hx, hb, hml, hown, hts⟩ (mc_steps l dC dI h1 md ms mv mh mn cI2 cJ2 _ dk hf gn rt ct pw sl sm cu ln lk lq2 vq2 hs nd ) (cwV 0 hts g_law_73 rfl rfl rfl (by decide +kernel) ⟨(Nat.le_of_ble_eq_true rfl), (Nat.le_of_ble_eq_true rfl)⟩) (z_preV (va_recv (q0 := 0) hKc hPc rfl rfl) hPc hKc hDc) rfl rfl hl.1 rfl (lv_room (Nat.le_of_ble_eq_true rfl)) d_law_372 ⟨(Nat.le_of_ble_eq_true rfl), (Nat.le_of_ble_eq_true rfl)⟩) (fun r2 hr2 => ?_)
  have he : r1 = r2 := hr1.trans hr2.symm
  refine lv_icmp_eq (tgt := 380) hx hb d_law_375 (by decide) (fun _ => ?_) (fun h9 => absurd he h9)
  exact kk _ _ ls _ _ (Rl_up (Rl_up (Rl_mk hR))) hl hP hD hS
