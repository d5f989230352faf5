set_option maxHeartbeats 4000000 in
set_option maxRecDepth 100000 in
theorem mc_nodes (l : Launch) (dC : Nat → ClassId) (dI : Nat → Nat → Nat) (h0 qd qs qv qh qn : Nat) (cI cJ : ClassId) (sz : Nat) (dk : Nat → Int32) (hf : Nat) (gn : Int32) (rt : Int32) (ct : Int32) (pw : Bool) (sl : Int32) (sm : Int32) (cu : Bool) (ln : Nat) (lk : Int32) (lq : Nat → Int32) (vq : Nat → Int64) (hs : Nat → Int64) (nd : Nat → Int32) (a1 : Nat) (g1 : Int32) (h_a : a1 < 2) : Met l y_M_nodes w_M_nodes ({ frames := 2, cells := 0, slots := 0, locals := 48 }) (va_Pc [.ref h0, .int (nI a1), .int g1] (z_pre (dC, dI) classes [(cI, .int), (cJ, .long)] (Mw h0 qd qs qv qh qn cI cJ (dk, hf, gn, rt, ct, pw, sl, sm, cu, ln, lk, lq, vq, hs, nd)) sz)) (va_Qv (fun (u : MS) => u = (dk, hf, gn, rt, ct, pw, sl, sm, cu, ln, lk, lq, vq, hs, ndB 7 (ndA dk a1 g1 8 0 nd))) (fun u => z_at (dC, dI) classes [(cI, .int), (cJ, .long)] (va_A (Mw h0 qd qs qv qh qn cI cJ (dk, hf, gn, rt, ct, pw, sl, sm, cu, ln, lk, lq, vq, hs, nd)) sz) (Mw h0 qd qs qv qh qn cI cJ u)) (va_A (Mw h0 qd qs qv qh qn cI cJ (dk, hf, gn, rt, ct, pw, sl, sm, cu, ln, lk, lq, vq, hs, nd)) sz)) 0 0 (va_A (Mw h0 qd qs qv qh qn cI cJ (dk, hf, gn, rt, ct, pw, sl, sm, cu, ln, lk, lq, vq, hs, nd)) sz) := by
  refine Met.ofW (cc := b_M_nodes) (maxL := 4) (ret := none) (by decide) rfl ?_
  intro p e s m args below meth c s₁ B hml hv
  obtain ⟨rfl, hsz, hP, hK, hD0⟩ := hv
  have hx := B.exec
  have hb := B.bytes
  have hr := B.returns
  have hts := fun (w : Cond) (h : w ∈ lw_U) => atoms_spec (ws := w_M_nodes) B.pre w (List.mem_cons_of_mem _ h)
  have hown : s.vm.findClass R_M = some m.cls := findClass_of_methodNamed B.named
  have hlocks := B.notSynchronized
  subst hsz
  have hD := hD0.self (sz := s.heap.size)
  generalize hAe : va_A (Mw h0 qd qs qv qh qn cI cJ (dk, hf, gn, rt, ct, pw, sl, sm, cu, ln, lk, lq, vq, hs, nd)) s.heap.size = A at hD ⊢
  have hA : ∀ q : Nat, s.heap.size ≤ q → A q := fun q h => by rw [← hAe]; exact Or.inr h
  have hS : va_S A s.heap s.heap [] := va_S.rf
  have hP : va_P (dC, dI) classes (Mw h0 qd qs qv qh qn cI cJ (dk, hf, gn, rt, ct, pw, sl, sm, cu, ln, lk, lq, vq, hs, nd)) s.heap := hP
  have hl := lv_entry ([.ref h0, .int (nI a1), .int g1]) (n := 4) (Nat.le_of_ble_eq_true rfl)
  rw [lg_entry_eq]
  generalize (lg_sl ([.ref h0, .int (nI a1), .int g1]) ++ List.replicate (4 - (lg_sl ([.ref h0, .int (nI a1), .int g1])).length) Slot.unset).toArray = ls at hl ⊢
  have hl : lv_has ls 4 [(0, .ref h0), (1, .int (nI a1)), (2, .int g1)] := hl
  have loop2 : ∀ (k : Nat) (n0 : Nat → Int32) (ls : Array Slot) (H : Heap) (locs : List Loc), k ≤ 7 → lv_has ls 4 [(0, .ref h0), (1, .int (nI a1)), (2, .int g1), (3, .int (nI k))] → va_P (dC, dI) classes (Mw h0 qd qs qv qh qn cI cJ (dk, hf, gn, rt, ct, pw, sl, sm, cu, ln, lk, lq, vq, hs, n0)) H → va_D A (Mw h0 qd qs qv qh qn cI cJ (dk, hf, gn, rt, ct, pw, sl, sm, cu, ln, lk, lq, vq, hs, n0)) → va_S A s.heap H locs → ndB k n0 = ndB 7 (ndA dk a1 g1 8 0 nd) → W p l e (headSpec w_M_nodes ({ frames := 2, cells := 0, slots := 0, locals := 48 })).room s m ([.ref h0, .int (nI a1), .int g1].toArray) below meth c H locs 0 0 (MQ below (va_Qv (fun (u : MS) => u = (dk, hf, gn, rt, ct, pw, sl, sm, cu, ln, lk, lq, vq, hs, ndB 7 (ndA dk a1 g1 8 0 nd))) (fun u => z_at (dC, dI) classes [(cI, .int), (cJ, .long)] A (Mw h0 qd qs qv qh qn cI cJ u)) A) ([.ref h0, .int (nI a1), .int g1].toArray) s 0 0 A) (F0 m 60 ls []) := by
    intro k
    induction k with
    | zero =>
      intro n0 ls H locs hk hl hP hD hS hF
      have hF : n0 = ndB 7 (ndA dk a1 g1 8 0 nd) := hF
      refine lv_iload_n hx hb d_M_nodes_60 rfl (lv_at hl 3 rfl) ?_
      refine lv_if_le (tgt := 97) hx hb d_M_nodes_61 (by decide) (fun _ => ?_) (fun h9 => absurd (by decide) h9)
      exact W.vret hx hb hr (fun t ht hW => ⟨⟨(dk, hf, gn, rt, ct, pw, sl, sm, cu, ln, lk, lq, vq, hs, n0), rfl, (by rw [← hF]), by rw [ht]; exact hP, va_K.moved hW.alike hK, hD⟩, hS.F ht⟩) hS.2.2 d_M_nodes_97
    | succ k ih =>
      intro n0 ls H locs hk hl hP hD hS hF
      refine lv_iload_n hx hb d_M_nodes_60 rfl (lv_at hl 3 rfl) ?_
      refine lv_if_le (tgt := 97) hx hb d_M_nodes_61 (by decide) (fun h9 => absurd h9 (nI_nle (by omega) (by omega))) (fun _ => ?_)
      refine lv_aload_n hx hb d_M_nodes_64 rfl (lv_at hl 0 rfl) ?_
      refine va_get (D := (dC, dI)) (ci := 1) (v := .ref qn) (C := R_M) (T := F_M) (N := 15) hx hb hts lay_M hown hK hP 0 rfl rfl 14 (by decide) (hts _ m_284) (fun _ h9 => h9) rfl d_M_nodes_65 ?_
      refine lv_iload_n hx hb d_M_nodes_68 rfl (lv_at hl 3 rfl) ?_
      refine lv_aload_n hx hb d_M_nodes_69 rfl (lv_at hl 0 rfl) ?_
      refine va_get (D := (dC, dI)) (ci := 1) (v := .ref qn) (C := R_M) (T := F_M) (N := 15) hx hb hts lay_M hown hK hP 0 rfl rfl 14 (by decide) (hts _ m_284) (fun _ h9 => h9) rfl d_M_nodes_70 ?_
      refine lv_iconst (v := nI 2) hx hb d_M_nodes_73 (by decide) ?_
      refine lv_iload_n hx hb d_M_nodes_74 rfl (lv_at hl 3 rfl) ?_
      refine lv_imul hx hb d_M_nodes_75 ?_
      refine z_top (pk_mul _ _) ?_
      refine z_iald hx hb hK hP 5 0 rfl rfl (by omega) (by decide) d_M_nodes_76 ?_
      refine lv_aload_n hx hb d_M_nodes_77 rfl (lv_at hl 0 rfl) ?_
      refine va_get (D := (dC, dI)) (ci := 1) (v := .ref qn) (C := R_M) (T := F_M) (N := 15) hx hb hts lay_M hown hK hP 0 rfl rfl 14 (by decide) (hts _ m_284) (fun _ h9 => h9) rfl d_M_nodes_78 ?_
      refine lv_iconst (v := nI 2) hx hb d_M_nodes_81 (by decide) ?_
      refine lv_iload_n hx hb d_M_nodes_82 rfl (lv_at hl 3 rfl) ?_
      refine lv_imul hx hb d_M_nodes_83 ?_
      refine z_top (pk_mul _ _) ?_
      refine lv_iconst (v := nI 1) hx hb d_M_nodes_84 (by decide) ?_
      refine lv_iadd hx hb d_M_nodes_85 ?_
      refine z_top (nI_add _ _) ?_
      refine z_iald hx hb hK hP 5 0 rfl rfl (by omega) (by decide) d_M_nodes_86 ?_
      refine vp_callSi (W.runS (As := [.int (n0 (2 * (k + 1))), .int (n0 ((2 * (k + 1)) + 1))]) (rest := [.int (nI (k + 1)), .ref qn]) ⟨hx, hb, hml, hown, hts⟩ (mc_digest l (n0 (2 * (k + 1))) (n0 ((2 * (k + 1)) + 1))) (cwS 2 hts g_M_47 rfl rfl rfl (by decide +kernel) ⟨(Nat.le_of_ble_eq_true rfl), (Nat.le_of_ble_eq_true rfl)⟩) preEq rfl rfl hl.1 rfl (lv_room (Nat.le_of_ble_eq_true rfl)) d_M_nodes_87 ⟨(Nat.le_of_ble_eq_true rfl), (Nat.le_of_ble_eq_true rfl)⟩) (fun r hr0 => ?_)
      subst hr0
      refine z_iast hx hb hK hP hD hS 5 0 rfl rfl (by omega) (by decide) d_M_nodes_90 (fun H locs hP hD hS => ?_)
      have hP : va_P (dC, dI) classes (Mw h0 qd qs qv qh qn cI cJ (dk, hf, gn, rt, ct, pw, sl, sm, cu, ln, lk, lq, vq, hs, upd n0 (k + 1) (dg (n0 (2 * (k + 1))) (n0 ((2 * (k + 1)) + 1))))) H := hP
      have hD : va_D A (Mw h0 qd qs qv qh qn cI cJ (dk, hf, gn, rt, ct, pw, sl, sm, cu, ln, lk, lq, vq, hs, upd n0 (k + 1) (dg (n0 (2 * (k + 1))) (n0 ((2 * (k + 1)) + 1))))) := hD
      refine lv_iinc (k := 3) hx hb d_M_nodes_91 hl rfl (z_dec _) (by decide) rfl (fun ls hl => ?_)
      have hl : lv_has ls 4 [(3, .int (nI k)), (0, .ref h0), (1, .int (nI a1)), (2, .int g1)] := hl
      refine lv_goto (tgt := 60) hx hb d_M_nodes_94 (by decide) ?_
      exact ih _ ls _ _ (by omega) (lv_sub hl [1, 2, 3, 0] rfl) hP hD hS hF
  have loop1 : ∀ (j k : Nat) (n0 : Nat → Int32) (ls : Array Slot) (H : Heap) (locs : List Loc), k + j = 8 → lv_has ls 4 [(0, .ref h0), (1, .int (nI a1)), (2, .int g1), (3, .int (nI k))] → va_P (dC, dI) classes (Mw h0 qd qs qv qh qn cI cJ (dk, hf, gn, rt, ct, pw, sl, sm, cu, ln, lk, lq, vq, hs, n0)) H → va_D A (Mw h0 qd qs qv qh qn cI cJ (dk, hf, gn, rt, ct, pw, sl, sm, cu, ln, lk, lq, vq, hs, n0)) → va_S A s.heap H locs → ndA dk a1 g1 j k n0 = ndA dk a1 g1 8 0 nd → W p l e (headSpec w_M_nodes ({ frames := 2, cells := 0, slots := 0, locals := 48 })).room s m ([.ref h0, .int (nI a1), .int g1].toArray) below meth c H locs 0 0 (MQ below (va_Qv (fun (u : MS) => u = (dk, hf, gn, rt, ct, pw, sl, sm, cu, ln, lk, lq, vq, hs, ndB 7 (ndA dk a1 g1 8 0 nd))) (fun u => z_at (dC, dI) classes [(cI, .int), (cJ, .long)] A (Mw h0 qd qs qv qh qn cI cJ u)) A) ([.ref h0, .int (nI a1), .int g1].toArray) s 0 0 A) (F0 m 2 ls []) := by
    intro j
    induction j with
    | zero =>
      intro k n0 ls H locs hk hl hP hD hS hF
      have hF : n0 = ndA dk a1 g1 8 0 nd := hF
      refine lv_iload_n hx hb d_M_nodes_2 rfl (lv_at hl 3 rfl) ?_
      refine lv_bipush (v := nI 8) hx hb d_M_nodes_3 (by decide) ?_
      refine lv_icmp_ge (tgt := 57) hx hb d_M_nodes_5 (by decide) (fun _ => ?_) (fun h9 => absurd ((nI_leI (by omega) (by omega)).mpr (by omega)) h9)
      refine lv_bipush (v := nI 7) hx hb d_M_nodes_57 (by decide) ?_
      refine lv_istore_n hx hb d_M_nodes_59 rfl hl (by decide) rfl (fun ls hl => ?_)
      have hl : lv_has ls 4 [(3, .int (nI 7)), (0, .ref h0), (1, .int (nI a1)), (2, .int g1)] := hl
      exact loop2 7 _ ls _ _ (by decide) (lv_sub hl [1, 2, 3, 0] rfl) hP hD hS (by rw [hF])
    | succ j ih =>
      intro k n0 ls H locs hk hl hP hD hS hF
      refine lv_iload_n hx hb d_M_nodes_2 rfl (lv_at hl 3 rfl) ?_
      refine lv_bipush (v := nI 8) hx hb d_M_nodes_3 (by decide) ?_
      refine lv_icmp_ge (tgt := 57) hx hb d_M_nodes_5 (by decide) (fun h9 => absurd h9 (fun q => absurd ((nI_leI (by omega) (by omega)).mp q) (by omega))) (fun _ => ?_)
      refine lv_aload_n hx hb d_M_nodes_8 rfl (lv_at hl 0 rfl) ?_
      refine va_get (D := (dC, dI)) (ci := 1) (v := .ref qn) (C := R_M) (T := F_M) (N := 15) hx hb hts lay_M hown hK hP 0 rfl rfl 14 (by decide) (hts _ m_284) (fun _ h9 => h9) rfl d_M_nodes_9 ?_
      refine lv_bipush (v := nI 8) hx hb d_M_nodes_12 (by decide) ?_
      refine lv_iload_n hx hb d_M_nodes_14 rfl (lv_at hl 3 rfl) ?_
      refine lv_iadd hx hb d_M_nodes_15 ?_
      refine z_top (nI_add _ _) ?_
      refine lv_aload_n hx hb d_M_nodes_16 rfl (lv_at hl 0 rfl) ?_
      refine lv_iload_n hx hb d_M_nodes_17 rfl (lv_at hl 3 rfl) ?_
      refine lv_iload_n hx hb d_M_nodes_18 rfl (lv_at hl 2 rfl) ?_
      refine lv_aload_n hx hb d_M_nodes_19 rfl (lv_at hl 0 rfl) ?_
      refine va_get (D := (dC, dI)) (ci := 1) (v := .ref qd) (C := R_M) (T := F_M) (N := 15) hx hb hts lay_M hown hK hP 0 rfl rfl 0 (by decide) (hts _ m_270) (fun _ h9 => h9) rfl d_M_nodes_20 ?_
      refine lv_bipush (v := nI 51) hx hb d_M_nodes_23 (by decide) ?_
      refine lv_iload_n hx hb d_M_nodes_25 rfl (lv_at hl 1 rfl) ?_
      refine lv_imul hx hb d_M_nodes_26 ?_
      refine z_top (pk_mul _ _) ?_
      refine lv_iconst (v := nI 2) hx hb d_M_nodes_27 (by decide) ?_
      refine lv_iload_n hx hb d_M_nodes_28 rfl (lv_at hl 3 rfl) ?_
      refine lv_imul hx hb d_M_nodes_29 ?_
      refine z_top (pk_mul _ _) ?_
      refine lv_iadd hx hb d_M_nodes_30 ?_
      refine z_top (nI_add _ _) ?_
      refine z_iald hx hb hK hP 1 0 rfl rfl (by omega) (by decide) d_M_nodes_31 ?_
      refine lv_aload_n hx hb d_M_nodes_32 rfl (lv_at hl 0 rfl) ?_
      refine va_get (D := (dC, dI)) (ci := 1) (v := .ref qd) (C := R_M) (T := F_M) (N := 15) hx hb hts lay_M hown hK hP 0 rfl rfl 0 (by decide) (hts _ m_270) (fun _ h9 => h9) rfl d_M_nodes_33 ?_
      refine lv_bipush (v := nI 51) hx hb d_M_nodes_36 (by decide) ?_
      refine lv_iload_n hx hb d_M_nodes_38 rfl (lv_at hl 1 rfl) ?_
      refine lv_imul hx hb d_M_nodes_39 ?_
      refine z_top (pk_mul _ _) ?_
      refine lv_iconst (v := nI 2) hx hb d_M_nodes_40 (by decide) ?_
      refine lv_iload_n hx hb d_M_nodes_41 rfl (lv_at hl 3 rfl) ?_
      refine lv_imul hx hb d_M_nodes_42 ?_
      refine z_top (pk_mul _ _) ?_
      refine lv_iadd hx hb d_M_nodes_43 ?_
      refine z_top (nI_add _ _) ?_
      refine lv_iconst (v := nI 1) hx hb d_M_nodes_44 (by decide) ?_
      refine lv_iadd hx hb d_M_nodes_45 ?_
      refine z_top (nI_add _ _) ?_
      refine z_iald hx hb hK hP 1 0 rfl rfl (by omega) (by decide) d_M_nodes_46 ?_
      refine vp_callSi (W.runV (C := R_M) (b := h0) (As := [.int (nI k), .int g1, .int (dk ((51 * a1) + (2 * k))), .int (dk (((51 * a1) + (2 * k)) + 1))]) (rest := [.int (nI (8 + k)), .ref qn]) ⟨hx, hb, hml, hown, hts⟩ (mc_leaf l dC dI h0 qd qs qv qh qn cI cJ _ dk hf gn rt ct pw sl sm cu ln lk lq vq hs n0 (nI k) g1 (dk ((51 * a1) + (2 * k))) (dk (((51 * a1) + (2 * k)) + 1))) (cwV 4 hts g_M_52 rfl rfl rfl (by decide +kernel) ⟨(Nat.le_of_ble_eq_true rfl), (Nat.le_of_ble_eq_true rfl)⟩) (z_preV (va_recv (q0 := 0) hK hP rfl rfl) hP hK hD) rfl rfl hl.1 rfl (lv_room (Nat.le_of_ble_eq_true rfl)) d_M_nodes_47 ⟨(Nat.le_of_ble_eq_true rfl), (Nat.le_of_ble_eq_true rfl)⟩) (fun r hr0 => ?_)
      subst hr0
      refine z_iast hx hb hK hP hD hS 5 0 rfl rfl (by omega) (by decide) d_M_nodes_50 (fun H locs hP hD hS => ?_)
      have hP : va_P (dC, dI) classes (Mw h0 qd qs qv qh qn cI cJ (dk, hf, gn, rt, ct, pw, sl, sm, cu, ln, lk, lq, vq, hs, upd n0 (8 + k) (dg (dg (8 * g1 + (nI k)) (dk ((51 * a1) + (2 * k)))) (dk (((51 * a1) + (2 * k)) + 1))))) H := hP
      have hD : va_D A (Mw h0 qd qs qv qh qn cI cJ (dk, hf, gn, rt, ct, pw, sl, sm, cu, ln, lk, lq, vq, hs, upd n0 (8 + k) (dg (dg (8 * g1 + (nI k)) (dk ((51 * a1) + (2 * k)))) (dk (((51 * a1) + (2 * k)) + 1))))) := hD
      refine lv_iinc (k := 3) hx hb d_M_nodes_51 hl rfl (z_inc _ 1) (by decide) rfl (fun ls hl => ?_)
      have hl : lv_has ls 4 [(3, .int (nI (k + 1))), (0, .ref h0), (1, .int (nI a1)), (2, .int g1)] := hl
      refine lv_goto (tgt := 2) hx hb d_M_nodes_54 (by decide) ?_
      exact ih (k + 1) _ ls _ _ (by omega) (lv_sub hl [1, 2, 3, 0] rfl) hP hD hS hF
  refine lv_iconst (v := nI 0) hx hb d_M_nodes_0 (by decide) ?_
  refine lv_istore_n hx hb d_M_nodes_1 rfl hl (by decide) rfl (fun ls hl => ?_)
  have hl : lv_has ls 4 [(3, .int (nI 0)), (0, .ref h0), (1, .int (nI a1)), (2, .int g1)] := hl
  exact loop1 8 0 _ ls _ _ rfl (lv_sub hl [1, 2, 3, 0] rfl) hP hD hS rfl
set_option maxHeartbeats 4000000 in
set_option maxRecDepth 100000 in
theorem mc_step (l : Launch) (dC : Nat → ClassId) (dI : Nat → Nat → Nat) (h0 qd qs qv qh qn : Nat) (cI cJ : ClassId) (sz : Nat) (qq : Bool × M3) (hf : Nat) (gn : Int32) (rt : Int32) (ct : Int32) (pw : Bool) (ln : Nat) (lk : Int32) (lq : Nat → Int32) (vq : Nat → Int64) (hs : Nat → Int64) (nd : Nat → Int32)   : Met l y_M_step w_M_step ({ frames := 0, cells := 0, slots := 0, locals := 0 }) (va_Pc [.ref h0] (z_pre (dC, dI) classes [(cI, .int), (cJ, .long)] (Mw h0 qd qs qv qh qn cI cJ (mS qq hf gn rt ct pw ln lk lq vq hs nd)) sz)) (va_Qi (fun (r : Int32) (u : MS) => ∃ (d1 : Nat → Int32) (sl1 sm1 : Int32), (st1 qq = (true, (d1, sl1, sm1)) ∧ r = 1 ∧ u = (d1, hf, gn, rt, ct, pw, sl1, sm1, false, ln, lk, lq, vq, hs, nd)) ∨ (st1 qq = (false, (d1, sl1, sm1)) ∧ r = 0 ∧ u = (d1, hf, gn, rt, ct, false, sl1, sm1, true, 0, lk, lq, vq, hs, nd))) (fun u => z_at (dC, dI) classes [(cI, .int), (cJ, .long)] (va_A (Mw h0 qd qs qv qh qn cI cJ (mS qq hf gn rt ct pw ln lk lq vq hs nd)) sz) (Mw h0 qd qs qv qh qn cI cJ u)) (va_A (Mw h0 qd qs qv qh qn cI cJ (mS qq hf gn rt ct pw ln lk lq vq hs nd)) sz)) 0 0 (va_A (Mw h0 qd qs qv qh qn cI cJ (mS qq hf gn rt ct pw ln lk lq vq hs nd)) sz) := by
  refine Met.ofW (cc := b_M_step) (maxL := 1) (ret := (some .boolean)) (by decide) rfl ?_
  intro p e s m args below meth c s₁ B hml hv
  obtain ⟨rfl, hsz, hP, hK, hD0⟩ := hv
  have hx := B.exec
  have hb := B.bytes
  have hr := B.returns
  have hts := fun (w : Cond) (h : w ∈ lw_U) => atoms_spec (ws := w_M_step) B.pre w (List.mem_cons_of_mem _ h)
  have hown : s.vm.findClass R_M = some m.cls := findClass_of_methodNamed B.named
  have hlocks := B.notSynchronized
  subst hsz
  have hD := hD0.self (sz := s.heap.size)
  generalize hAe : va_A (Mw h0 qd qs qv qh qn cI cJ (mS qq hf gn rt ct pw ln lk lq vq hs nd)) s.heap.size = A at hD ⊢
  have hA : ∀ q : Nat, s.heap.size ≤ q → A q := fun q h => by rw [← hAe]; exact Or.inr h
  have hS : va_S A s.heap s.heap [] := va_S.rf
  have hP : va_P (dC, dI) classes (Mw h0 qd qs qv qh qn cI cJ (mS qq hf gn rt ct pw ln lk lq vq hs nd)) s.heap := hP
  have hl := lv_entry ([.ref h0]) (n := 1) (Nat.le_of_ble_eq_true rfl)
  rw [lg_entry_eq]
  generalize (lg_sl ([.ref h0]) ++ List.replicate (1 - (lg_sl ([.ref h0])).length) Slot.unset).toArray = ls at hl ⊢
  have hl : lv_has ls 1 [(0, .ref h0)] := hl
  obtain ⟨_ | _, dk, sl, sm⟩ := qq
  · have hP : va_P (dC, dI) classes (Mw h0 qd qs qv qh qn cI cJ (dk, hf, gn, rt, ct, false, sl, sm, true, 0, lk, lq, vq, hs, nd)) s.heap := hP
    have hD : va_D A (Mw h0 qd qs qv qh qn cI cJ (dk, hf, gn, rt, ct, false, sl, sm, true, 0, lk, lq, vq, hs, nd)) := hD
    refine lv_aload_n hx hb d_M_step_0 rfl (lv_at hl 0 rfl) ?_
    refine va_get (D := (dC, dI)) (ci := 1) (v := .int (bI true)) (C := R_M) (T := F_M) (N := 15) hx hb hts lay_M hown hK hP 0 rfl rfl 8 (by decide) (hts _ m_278) (fun _ h9 => h9) rfl d_M_step_1 ?_
    refine lv_if_eq (tgt := 9) hx hb d_M_step_4 (by decide) (fun h9 => absurd h9 (by decide)) (fun _ => ?_)
    refine lv_iconst (v := (0 : Int32)) hx hb d_M_step_7 (by decide) ?_
    exact W.zret hx hb hr rfl (fun t ht hW => ⟨⟨(0 : Int32), (dk, hf, gn, rt, ct, false, sl, sm, true, 0, lk, lq, vq, hs, nd), rfl, ⟨_, _, _, Or.inr ⟨rfl, rfl, rfl⟩⟩, by rw [ht]; exact hP, va_K.moved hW.alike hK, hD⟩, hS.F ht⟩) hS.2.2 d_M_step_8
  · have hP : va_P (dC, dI) classes (Mw h0 qd qs qv qh qn cI cJ (dk, hf, gn, rt, ct, pw, sl, sm, false, ln, lk, lq, vq, hs, nd)) s.heap := hP
    have hD : va_D A (Mw h0 qd qs qv qh qn cI cJ (dk, hf, gn, rt, ct, pw, sl, sm, false, ln, lk, lq, vq, hs, nd)) := hD
    refine lv_aload_n hx hb d_M_step_0 rfl (lv_at hl 0 rfl) ?_
    refine va_get (D := (dC, dI)) (ci := 1) (v := .int (bI false)) (C := R_M) (T := F_M) (N := 15) hx hb hts lay_M hown hK hP 0 rfl rfl 8 (by decide) (hts _ m_278) (fun _ h9 => h9) rfl d_M_step_1 ?_
    refine lv_if_eq (tgt := 9) hx hb d_M_step_4 (by decide) (fun _ => ?_) (fun h9 => absurd (by decide) h9)
    refine lv_aload_n hx hb d_M_step_9 rfl (lv_at hl 0 rfl) ?_
    refine va_get (D := (dC, dI)) (ci := 1) (v := .int sl) (C := R_M) (T := F_M) (N := 15) hx hb hts lay_M hown hK hP 0 rfl rfl 6 (by decide) (hts _ m_276) (fun _ h9 => h9) rfl d_M_step_10 ?_
    refine lv_if_ne (tgt := 38) hx hb d_M_step_13 (by decide) (fun h1 => ?_) (fun h1 => ?_)
    · refine lv_aload_n hx hb d_M_step_38 rfl (lv_at hl 0 rfl) ?_
      refine lv_aload_n hx hb d_M_step_39 rfl (lv_at hl 0 rfl) ?_
      refine va_get (D := (dC, dI)) (ci := 1) (v := .int sl) (C := R_M) (T := F_M) (N := 15) hx hb hts lay_M hown hK hP 0 rfl rfl 6 (by decide) (hts _ m_276) (fun _ h9 => h9) rfl d_M_step_40 ?_
      refine lv_if_le (tgt := 55) hx hb d_M_step_43 (by decide) (fun h2 => ?_) (fun h2 => ?_)
      · have h2 : ¬ 0 < sl := z_le0 h2
        refine lv_aload_n hx hb d_M_step_55 rfl (lv_at hl 0 rfl) ?_
        refine va_get (D := (dC, dI)) (ci := 1) (v := .int sl) (C := R_M) (T := F_M) (N := 15) hx hb hts lay_M hown hK hP 0 rfl rfl 6 (by decide) (hts _ m_276) (fun _ h9 => h9) rfl d_M_step_56 ?_
        refine va_put (D := (dC, dI)) (ci := 1) (v := .int sl) (ty := .int) (C := R_M) (T := F_M) (N := 15) hx hb hts lay_M t_M t_M_ok n_M hown hK hP hD hS 0 rfl rfl 6 (by decide) (hts _ m_276) (fun _ h9 => h9) rfl (by decide +kernel) rfl rfl (Nat.le_of_ble_eq_true rfl) d_M_step_59 (fun H locs hP hD hS => ?_)
        have hP : va_P (dC, dI) classes (Mw h0 qd qs qv qh qn cI cJ (dk, hf, gn, rt, ct, pw, sl, sm, false, ln, lk, lq, vq, hs, nd)) H := hP
        have hD : va_D A (Mw h0 qd qs qv qh qn cI cJ (dk, hf, gn, rt, ct, pw, sl, sm, false, ln, lk, lq, vq, hs, nd)) := hD
        refine lv_aload_n hx hb d_M_step_62 rfl (lv_at hl 0 rfl) ?_
        refine lv_dup hx hb d_M_step_63 rfl ?_
        refine va_get (D := (dC, dI)) (ci := 1) (v := .int sm) (C := R_M) (T := F_M) (N := 15) hx hb hts lay_M hown hK hP 0 rfl rfl 7 (by decide) (hts _ m_277) (fun _ h9 => h9) rfl d_M_step_64 ?_
        refine lv_iconst (v := (1 : Int32)) hx hb d_M_step_67 (by decide) ?_
        refine lv_iadd hx hb d_M_step_68 ?_
        refine va_put (D := (dC, dI)) (ci := 1) (v := .int (sm + (1 : Int32))) (ty := .int) (C := R_M) (T := F_M) (N := 15) hx hb hts lay_M t_M t_M_ok n_M hown hK hP hD hS 0 rfl rfl 7 (by decide) (hts _ m_277) (fun _ h9 => h9) rfl (by decide +kernel) rfl rfl (Nat.le_of_ble_eq_true rfl) d_M_step_69 (fun H locs hP hD hS => ?_)
        have hP : va_P (dC, dI) classes (Mw h0 qd qs qv qh qn cI cJ (dk, hf, gn, rt, ct, pw, sl, sm + (1 : Int32), false, ln, lk, lq, vq, hs, nd)) H := hP
        have hD : va_D A (Mw h0 qd qs qv qh qn cI cJ (dk, hf, gn, rt, ct, pw, sl, sm + (1 : Int32), false, ln, lk, lq, vq, hs, nd)) := hD
        refine lv_iconst (v := (1 : Int32)) hx hb d_M_step_72 (by decide) ?_
        exact W.zret hx hb hr rfl (fun t ht hW => ⟨⟨(1 : Int32), (dk, hf, gn, rt, ct, pw, sl, sm + (1 : Int32), false, ln, lk, lq, vq, hs, nd), rfl, ⟨_, _, _, Or.inl ⟨(by rw [st1_1 h1, dec1, if_neg h2]), rfl, rfl⟩⟩, by rw [ht]; exact hP, va_K.moved hW.alike hK, hD⟩, hS.F ht⟩) hS.2.2 d_M_step_73
      · have h2 : 0 < sl := z_nle0 h2
        refine lv_aload_n hx hb d_M_step_46 rfl (lv_at hl 0 rfl) ?_
        refine va_get (D := (dC, dI)) (ci := 1) (v := .int sl) (C := R_M) (T := F_M) (N := 15) hx hb hts lay_M hown hK hP 0 rfl rfl 6 (by decide) (hts _ m_276) (fun _ h9 => h9) rfl d_M_step_47 ?_
        refine lv_iconst (v := (1 : Int32)) hx hb d_M_step_50 (by decide) ?_
        refine lv_isub hx hb d_M_step_51 ?_
        refine lv_goto (tgt := 59) hx hb d_M_step_52 (by decide) ?_
        refine va_put (D := (dC, dI)) (ci := 1) (v := .int (sl - (1 : Int32))) (ty := .int) (C := R_M) (T := F_M) (N := 15) hx hb hts lay_M t_M t_M_ok n_M hown hK hP hD hS 0 rfl rfl 6 (by decide) (hts _ m_276) (fun _ h9 => h9) rfl (by decide +kernel) rfl rfl (Nat.le_of_ble_eq_true rfl) d_M_step_59 (fun H locs hP hD hS => ?_)
        have hP : va_P (dC, dI) classes (Mw h0 qd qs qv qh qn cI cJ (dk, hf, gn, rt, ct, pw, sl - (1 : Int32), sm, false, ln, lk, lq, vq, hs, nd)) H := hP
        have hD : va_D A (Mw h0 qd qs qv qh qn cI cJ (dk, hf, gn, rt, ct, pw, sl - (1 : Int32), sm, false, ln, lk, lq, vq, hs, nd)) := hD
        refine lv_aload_n hx hb d_M_step_62 rfl (lv_at hl 0 rfl) ?_
        refine lv_dup hx hb d_M_step_63 rfl ?_
        refine va_get (D := (dC, dI)) (ci := 1) (v := .int sm) (C := R_M) (T := F_M) (N := 15) hx hb hts lay_M hown hK hP 0 rfl rfl 7 (by decide) (hts _ m_277) (fun _ h9 => h9) rfl d_M_step_64 ?_
        refine lv_iconst (v := (1 : Int32)) hx hb d_M_step_67 (by decide) ?_
        refine lv_iadd hx hb d_M_step_68 ?_
        refine va_put (D := (dC, dI)) (ci := 1) (v := .int (sm + (1 : Int32))) (ty := .int) (C := R_M) (T := F_M) (N := 15) hx hb hts lay_M t_M t_M_ok n_M hown hK hP hD hS 0 rfl rfl 7 (by decide) (hts _ m_277) (fun _ h9 => h9) rfl (by decide +kernel) rfl rfl (Nat.le_of_ble_eq_true rfl) d_M_step_69 (fun H locs hP hD hS => ?_)
        have hP : va_P (dC, dI) classes (Mw h0 qd qs qv qh qn cI cJ (dk, hf, gn, rt, ct, pw, sl - (1 : Int32), sm + (1 : Int32), false, ln, lk, lq, vq, hs, nd)) H := hP
        have hD : va_D A (Mw h0 qd qs qv qh qn cI cJ (dk, hf, gn, rt, ct, pw, sl - (1 : Int32), sm + (1 : Int32), false, ln, lk, lq, vq, hs, nd)) := hD
        refine lv_iconst (v := (1 : Int32)) hx hb d_M_step_72 (by decide) ?_
        exact W.zret hx hb hr rfl (fun t ht hW => ⟨⟨(1 : Int32), (dk, hf, gn, rt, ct, pw, sl - (1 : Int32), sm + (1 : Int32), false, ln, lk, lq, vq, hs, nd), rfl, ⟨_, _, _, Or.inl ⟨(by rw [st1_1 h1, dec1, if_pos h2]), rfl, rfl⟩⟩, by rw [ht]; exact hP, va_K.moved hW.alike hK, hD⟩, hS.F ht⟩) hS.2.2 d_M_step_73
    · refine lv_aload_n hx hb d_M_step_16 rfl (lv_at hl 0 rfl) ?_
      refine lv_iconst (v := (-1 : Int32)) hx hb d_M_step_17 (by decide) ?_
      refine va_put (D := (dC, dI)) (ci := 1) (v := .int (-1 : Int32)) (ty := .int) (C := R_M) (T := F_M) (N := 15) hx hb hts lay_M t_M t_M_ok n_M hown hK hP hD hS 0 rfl rfl 6 (by decide) (hts _ m_276) (fun _ h9 => h9) rfl (by decide +kernel) rfl rfl (Nat.le_of_ble_eq_true rfl) d_M_step_18 (fun H locs hP hD hS => ?_)
      have hP : va_P (dC, dI) classes (Mw h0 qd qs qv qh qn cI cJ (dk, hf, gn, rt, ct, pw, (-1 : Int32), sm, false, ln, lk, lq, vq, hs, nd)) H := hP
      have hD : va_D A (Mw h0 qd qs qv qh qn cI cJ (dk, hf, gn, rt, ct, pw, (-1 : Int32), sm, false, ln, lk, lq, vq, hs, nd)) := hD
      refine lv_aload_n hx hb d_M_step_21 rfl (lv_at hl 0 rfl) ?_
      refine lv_iconst (v := (0 : Int32)) hx hb d_M_step_22 (by decide) ?_
      refine va_put (D := (dC, dI)) (ci := 1) (v := .int (0 : Int32)) (ty := .boolean) (C := R_M) (T := F_M) (N := 15) hx hb hts lay_M t_M t_M_ok n_M hown hK hP hD hS 0 rfl rfl 5 (by decide) (hts _ m_275) (fun _ h9 => h9) rfl (by decide +kernel) rfl rfl (Nat.le_of_ble_eq_true rfl) d_M_step_23 (fun H locs hP hD hS => ?_)
      have hP : va_P (dC, dI) classes (Mw h0 qd qs qv qh qn cI cJ (dk, hf, gn, rt, ct, false, (-1 : Int32), sm, false, ln, lk, lq, vq, hs, nd)) H := hP
      have hD : va_D A (Mw h0 qd qs qv qh qn cI cJ (dk, hf, gn, rt, ct, false, (-1 : Int32), sm, false, ln, lk, lq, vq, hs, nd)) := hD
      refine lv_aload_n hx hb d_M_step_26 rfl (lv_at hl 0 rfl) ?_
      refine lv_iconst (v := nI 0) hx hb d_M_step_27 (by decide) ?_
      refine va_put (D := (dC, dI)) (ci := 1) (v := .int (nI 0)) (ty := .int) (C := R_M) (T := F_M) (N := 15) hx hb hts lay_M t_M t_M_ok n_M hown hK hP hD hS 0 rfl rfl 9 (by decide) (hts _ m_279) (fun _ h9 => h9) rfl (by decide +kernel) rfl rfl (Nat.le_of_ble_eq_true rfl) d_M_step_28 (fun H locs hP hD hS => ?_)
      have hP : va_P (dC, dI) classes (Mw h0 qd qs qv qh qn cI cJ (dk, hf, gn, rt, ct, false, (-1 : Int32), sm, false, 0, lk, lq, vq, hs, nd)) H := hP
      have hD : va_D A (Mw h0 qd qs qv qh qn cI cJ (dk, hf, gn, rt, ct, false, (-1 : Int32), sm, false, 0, lk, lq, vq, hs, nd)) := hD
      refine lv_aload_n hx hb d_M_step_31 rfl (lv_at hl 0 rfl) ?_
      refine lv_iconst (v := (1 : Int32)) hx hb d_M_step_32 (by decide) ?_
      refine va_put (D := (dC, dI)) (ci := 1) (v := .int (1 : Int32)) (ty := .boolean) (C := R_M) (T := F_M) (N := 15) hx hb hts lay_M t_M t_M_ok n_M hown hK hP hD hS 0 rfl rfl 8 (by decide) (hts _ m_278) (fun _ h9 => h9) rfl (by decide +kernel) rfl rfl (Nat.le_of_ble_eq_true rfl) d_M_step_33 (fun H locs hP hD hS => ?_)
      have hP : va_P (dC, dI) classes (Mw h0 qd qs qv qh qn cI cJ (dk, hf, gn, rt, ct, false, (-1 : Int32), sm, true, 0, lk, lq, vq, hs, nd)) H := hP
      have hD : va_D A (Mw h0 qd qs qv qh qn cI cJ (dk, hf, gn, rt, ct, false, (-1 : Int32), sm, true, 0, lk, lq, vq, hs, nd)) := hD
      refine lv_iconst (v := (0 : Int32)) hx hb d_M_step_36 (by decide) ?_
      exact W.zret hx hb hr rfl (fun t ht hW => ⟨⟨(0 : Int32), (dk, hf, gn, rt, ct, false, (-1 : Int32), sm, true, 0, lk, lq, vq, hs, nd), rfl, ⟨_, _, _, Or.inr ⟨st1_0 h1, rfl, rfl⟩⟩, by rw [ht]; exact hP, va_K.moved hW.alike hK, hD⟩, hS.F ht⟩) hS.2.2 d_M_step_37
set_option maxHeartbeats 4000000 in
set_option maxRecDepth 100000 in
theorem mc_put (l : Launch) (dC : Nat → ClassId) (dI : Nat → Nat → Nat) (h0 qd qs qv qh qn : Nat) (cI cJ : ClassId) (sz : Nat) (qq : Bool × M3) (hf : Nat) (gn : Int32) (rt : Int32) (ct : Int32) (pw : Bool) (ln : Nat) (lk : Int32) (lq : Nat → Int32) (vq : Nat → Int64) (hs : Nat → Int64) (nd : Nat → Int32) (pp : Nat) (w0 : Int32) (h_p : pp < 102) : Met l y_M_put w_M_put ({ frames := 1, cells := 0, slots := 0, locals := 20 }) (va_Pc [.ref h0, .int (nI pp), .int w0] (z_pre (dC, dI) classes [(cI, .int), (cJ, .long)] (Mw h0 qd qs qv qh qn cI cJ (mS qq hf gn rt ct pw ln lk lq vq hs nd)) sz)) (va_Qv (fun (u : MS) => ∃ q1 : Bool × M3, q1 = wr1 qq pp w0 ∧ u = mS q1 hf gn rt ct pw ln lk lq vq hs nd) (fun u => z_at (dC, dI) classes [(cI, .int), (cJ, .long)] (va_A (Mw h0 qd qs qv qh qn cI cJ (mS qq hf gn rt ct pw ln lk lq vq hs nd)) sz) (Mw h0 qd qs qv qh qn cI cJ u)) (va_A (Mw h0 qd qs qv qh qn cI cJ (mS qq hf gn rt ct pw ln lk lq vq hs nd)) sz)) 0 0 (va_A (Mw h0 qd qs qv qh qn cI cJ (mS qq hf gn rt ct pw ln lk lq vq hs nd)) sz) := by
  refine Met.ofW (cc := b_M_put) (maxL := 3) (ret := none) (by decide) rfl ?_
  intro p e s m args below meth c s₁ B hml hv
  obtain ⟨rfl, hsz, hP, hK, hD0⟩ := hv
  have hx := B.exec
  have hb := B.bytes
  have hr := B.returns
  have hts := fun (w : Cond) (h : w ∈ lw_U) => atoms_spec (ws := w_M_put) B.pre w (List.mem_cons_of_mem _ h)
  have hown : s.vm.findClass R_M = some m.cls := findClass_of_methodNamed B.named
  have hlocks := B.notSynchronized
  subst hsz
  have hD := hD0.self (sz := s.heap.size)
  generalize hAe : va_A (Mw h0 qd qs qv qh qn cI cJ (mS qq hf gn rt ct pw ln lk lq vq hs nd)) s.heap.size = A at hD ⊢
  have hA : ∀ q : Nat, s.heap.size ≤ q → A q := fun q h => by rw [← hAe]; exact Or.inr h
  have hS : va_S A s.heap s.heap [] := va_S.rf
  have hP : va_P (dC, dI) classes (Mw h0 qd qs qv qh qn cI cJ (mS qq hf gn rt ct pw ln lk lq vq hs nd)) s.heap := hP
  have hl := lv_entry ([.ref h0, .int (nI pp), .int w0]) (n := 3) (Nat.le_of_ble_eq_true rfl)
  rw [lg_entry_eq]
  generalize (lg_sl ([.ref h0, .int (nI pp), .int w0]) ++ List.replicate (3 - (lg_sl ([.ref h0, .int (nI pp), .int w0])).length) Slot.unset).toArray = ls at hl ⊢
  have hl : lv_has ls 3 [(0, .ref h0), (1, .int (nI pp)), (2, .int w0)] := hl
  refine lv_aload_n hx hb d_M_put_0 rfl (lv_at hl 0 rfl) ?_
  refine z_calli (va_runV (C := R_M) (b := h0) (As := []) (rest := []) ⟨hx, hb, hml, hown, hts⟩ (mc_step l dC dI h0 qd qs qv qh qn cI cJ _ qq hf gn rt ct pw ln lk lq vq hs nd ) (cwV 0 hts g_M_69 rfl rfl rfl (by decide +kernel) ⟨(Nat.le_of_ble_eq_true rfl), (Nat.le_of_ble_eq_true rfl)⟩) (z_preV (va_recv (q0 := 0) hK hP rfl rfl) hP hK hD) rfl rfl hl.1 rfl (lv_room (Nat.le_of_ble_eq_true rfl)) d_M_put_1 ⟨(Nat.le_of_ble_eq_true rfl), (Nat.le_of_ble_eq_true rfl)⟩) hS hD hA (fun r u H locs hr0 hP hD hS => ?_)
  obtain ⟨d1, sl1, sm1, ⟨hc1, rfl, rfl⟩ | ⟨hc1, rfl, rfl⟩⟩ := hr0
  · refine lv_if_eq (tgt := 14) hx hb d_M_put_4 (by decide) (fun h9 => absurd h9 (by decide)) (fun _ => ?_)
    refine lv_aload_n hx hb d_M_put_7 rfl (lv_at hl 0 rfl) ?_
    refine va_get (D := (dC, dI)) (ci := 1) (v := .ref qd) (C := R_M) (T := F_M) (N := 15) hx hb hts lay_M hown hK hP 0 rfl rfl 0 (by decide) (hts _ m_270) (fun _ h9 => h9) rfl d_M_put_8 ?_
    refine lv_iload_n hx hb d_M_put_11 rfl (lv_at hl 1 rfl) ?_
    refine lv_iload_n hx hb d_M_put_12 rfl (lv_at hl 2 rfl) ?_
    refine z_iast hx hb hK hP hD hS 1 0 rfl rfl (by omega) (by decide) d_M_put_13 (fun H locs hP hD hS => ?_)
    have hP : va_P (dC, dI) classes (Mw h0 qd qs qv qh qn cI cJ (upd d1 pp w0, hf, gn, rt, ct, pw, sl1, sm1, false, ln, lk, lq, vq, hs, nd)) H := hP
    have hD : va_D A (Mw h0 qd qs qv qh qn cI cJ (upd d1 pp w0, hf, gn, rt, ct, pw, sl1, sm1, false, ln, lk, lq, vq, hs, nd)) := hD
    exact W.vret hx hb hr (fun t ht hW => ⟨⟨(upd d1 pp w0, hf, gn, rt, ct, pw, sl1, sm1, false, ln, lk, lq, vq, hs, nd), rfl, ⟨_, (wr1_t hc1).symm, rfl⟩, by rw [ht]; exact hP, va_K.moved hW.alike hK, hD⟩, hS.F ht⟩) hS.2.2 d_M_put_14
  · refine lv_if_eq (tgt := 14) hx hb d_M_put_4 (by decide) (fun _ => ?_) (fun h9 => absurd (by decide) h9)
    exact W.vret hx hb hr (fun t ht hW => ⟨⟨(d1, hf, gn, rt, ct, false, sl1, sm1, true, 0, lk, lq, vq, hs, nd), rfl, ⟨_, (wr1_n hc1).symm, rfl⟩, by rw [ht]; exact hP, va_K.moved hW.alike hK, hD⟩, hS.F ht⟩) hS.2.2 d_M_put_14
set_option maxHeartbeats 4000000 in
set_option maxRecDepth 100000 in
theorem mc_changeSeal (l : Launch) (dC : Nat → ClassId) (dI : Nat → Nat → Nat) (h0 qd qs qv qh qn : Nat) (cI cJ : ClassId) (sz : Nat) (qq : Bool × M3) (hf : Nat) (gn : Int32) (rt : Int32) (ct : Int32) (pw : Bool) (ln : Nat) (lk : Int32) (lq : Nat → Int32) (vq : Nat → Int64) (hs : Nat → Int64) (nd : Nat → Int32) (a1 : Nat) (b1 c1 e1 : Int32)  : Met l y_M_changeSeal w_M_changeSeal ({ frames := 1, cells := 0, slots := 0, locals := 20 }) (va_Pc [.ref h0, .int (nI a1), .int b1, .int c1, .int e1] (z_pre (dC, dI) classes [(cI, .int), (cJ, .long)] (Mw h0 qd qs qv qh qn cI cJ (mS qq hf gn rt ct pw ln lk lq vq hs nd)) sz)) (va_Qv (fun (u : MS) => ∃ (d1 : Nat → Int32) (sl1 sm1 : Int32), (st1 qq = (true, (d1, sl1, sm1)) ∧ u = (d1, a1, b1, c1, e1, pw, sl1, sm1, false, ln, lk, lq, vq, hs, nd)) ∨ (st1 qq = (false, (d1, sl1, sm1)) ∧ u = (d1, hf, gn, rt, ct, false, sl1, sm1, true, 0, lk, lq, vq, hs, nd))) (fun u => z_at (dC, dI) classes [(cI, .int), (cJ, .long)] (va_A (Mw h0 qd qs qv qh qn cI cJ (mS qq hf gn rt ct pw ln lk lq vq hs nd)) sz) (Mw h0 qd qs qv qh qn cI cJ u)) (va_A (Mw h0 qd qs qv qh qn cI cJ (mS qq hf gn rt ct pw ln lk lq vq hs nd)) sz)) 0 0 (va_A (Mw h0 qd qs qv qh qn cI cJ (mS qq hf gn rt ct pw ln lk lq vq hs nd)) sz) := by
  refine Met.ofW (cc := b_M_changeSeal) (maxL := 5) (ret := none) (by decide) rfl ?_
  intro p e s m args below meth c s₁ B hml hv
  obtain ⟨rfl, hsz, hP, hK, hD0⟩ := hv
  have hx := B.exec
  have hb := B.bytes
  have hr := B.returns
  have hts := fun (w : Cond) (h : w ∈ lw_U) => atoms_spec (ws := w_M_changeSeal) B.pre w (List.mem_cons_of_mem _ h)
  have hown : s.vm.findClass R_M = some m.cls := findClass_of_methodNamed B.named
  have hlocks := B.notSynchronized
  subst hsz
  have hD := hD0.self (sz := s.heap.size)
  generalize hAe : va_A (Mw h0 qd qs qv qh qn cI cJ (mS qq hf gn rt ct pw ln lk lq vq hs nd)) s.heap.size = A at hD ⊢
  have hA : ∀ q : Nat, s.heap.size ≤ q → A q := fun q h => by rw [← hAe]; exact Or.inr h
  have hS : va_S A s.heap s.heap [] := va_S.rf
  have hP : va_P (dC, dI) classes (Mw h0 qd qs qv qh qn cI cJ (mS qq hf gn rt ct pw ln lk lq vq hs nd)) s.heap := hP
  have hl := lv_entry ([.ref h0, .int (nI a1), .int b1, .int c1, .int e1]) (n := 5) (Nat.le_of_ble_eq_true rfl)
  rw [lg_entry_eq]
  generalize (lg_sl ([.ref h0, .int (nI a1), .int b1, .int c1, .int e1]) ++ List.replicate (5 - (lg_sl ([.ref h0, .int (nI a1), .int b1, .int c1, .int e1])).length) Slot.unset).toArray = ls at hl ⊢
  have hl : lv_has ls 5 [(0, .ref h0), (1, .int (nI a1)), (2, .int b1), (3, .int c1), (4, .int e1)] := hl
  refine lv_aload_n hx hb d_M_changeSeal_0 rfl (lv_at hl 0 rfl) ?_
  refine z_calli (va_runV (C := R_M) (b := h0) (As := []) (rest := []) ⟨hx, hb, hml, hown, hts⟩ (mc_step l dC dI h0 qd qs qv qh qn cI cJ _ qq hf gn rt ct pw ln lk lq vq hs nd ) (cwV 0 hts g_M_69 rfl rfl rfl (by decide +kernel) ⟨(Nat.le_of_ble_eq_true rfl), (Nat.le_of_ble_eq_true rfl)⟩) (z_preV (va_recv (q0 := 0) hK hP rfl rfl) hP hK hD) rfl rfl hl.1 rfl (lv_room (Nat.le_of_ble_eq_true rfl)) d_M_changeSeal_1 ⟨(Nat.le_of_ble_eq_true rfl), (Nat.le_of_ble_eq_true rfl)⟩) hS hD hA (fun r u H locs hr0 hP hD hS => ?_)
  obtain ⟨d1, sl1, sm1, ⟨hc1, rfl, rfl⟩ | ⟨hc1, rfl, rfl⟩⟩ := hr0
  · refine lv_if_eq (tgt := 28) hx hb d_M_changeSeal_4 (by decide) (fun h9 => absurd h9 (by decide)) (fun _ => ?_)
    refine lv_aload_n hx hb d_M_changeSeal_7 rfl (lv_at hl 0 rfl) ?_
    refine lv_iload_n hx hb d_M_changeSeal_8 rfl (lv_at hl 1 rfl) ?_
    refine va_put (D := (dC, dI)) (ci := 1) (v := .int (nI a1)) (ty := .int) (C := R_M) (T := F_M) (N := 15) hx hb hts lay_M t_M t_M_ok n_M hown hK hP hD hS 0 rfl rfl 1 (by decide) (hts _ m_271) (fun _ h9 => h9) rfl (by decide +kernel) rfl rfl (Nat.le_of_ble_eq_true rfl) d_M_changeSeal_9 (fun H locs hP hD hS => ?_)
    have hP : va_P (dC, dI) classes (Mw h0 qd qs qv qh qn cI cJ (d1, a1, gn, rt, ct, pw, sl1, sm1, false, ln, lk, lq, vq, hs, nd)) H := hP
    have hD : va_D A (Mw h0 qd qs qv qh qn cI cJ (d1, a1, gn, rt, ct, pw, sl1, sm1, false, ln, lk, lq, vq, hs, nd)) := hD
    refine lv_aload_n hx hb d_M_changeSeal_12 rfl (lv_at hl 0 rfl) ?_
    refine lv_iload_n hx hb d_M_changeSeal_13 rfl (lv_at hl 2 rfl) ?_
    refine va_put (D := (dC, dI)) (ci := 1) (v := .int b1) (ty := .int) (C := R_M) (T := F_M) (N := 15) hx hb hts lay_M t_M t_M_ok n_M hown hK hP hD hS 0 rfl rfl 2 (by decide) (hts _ m_272) (fun _ h9 => h9) rfl (by decide +kernel) rfl rfl (Nat.le_of_ble_eq_true rfl) d_M_changeSeal_14 (fun H locs hP hD hS => ?_)
    have hP : va_P (dC, dI) classes (Mw h0 qd qs qv qh qn cI cJ (d1, a1, b1, rt, ct, pw, sl1, sm1, false, ln, lk, lq, vq, hs, nd)) H := hP
    have hD : va_D A (Mw h0 qd qs qv qh qn cI cJ (d1, a1, b1, rt, ct, pw, sl1, sm1, false, ln, lk, lq, vq, hs, nd)) := hD
    refine lv_aload_n hx hb d_M_changeSeal_17 rfl (lv_at hl 0 rfl) ?_
    refine lv_iload_n hx hb d_M_changeSeal_18 rfl (lv_at hl 3 rfl) ?_
    refine va_put (D := (dC, dI)) (ci := 1) (v := .int c1) (ty := .int) (C := R_M) (T := F_M) (N := 15) hx hb hts lay_M t_M t_M_ok n_M hown hK hP hD hS 0 rfl rfl 3 (by decide) (hts _ m_273) (fun _ h9 => h9) rfl (by decide +kernel) rfl rfl (Nat.le_of_ble_eq_true rfl) d_M_changeSeal_19 (fun H locs hP hD hS => ?_)
    have hP : va_P (dC, dI) classes (Mw h0 qd qs qv qh qn cI cJ (d1, a1, b1, c1, ct, pw, sl1, sm1, false, ln, lk, lq, vq, hs, nd)) H := hP
    have hD : va_D A (Mw h0 qd qs qv qh qn cI cJ (d1, a1, b1, c1, ct, pw, sl1, sm1, false, ln, lk, lq, vq, hs, nd)) := hD
    refine lv_aload_n hx hb d_M_changeSeal_22 rfl (lv_at hl 0 rfl) ?_
    refine lv_iload hx hb d_M_changeSeal_23 (lv_at hl 4 rfl) ?_
    refine va_put (D := (dC, dI)) (ci := 1) (v := .int e1) (ty := .int) (C := R_M) (T := F_M) (N := 15) hx hb hts lay_M t_M t_M_ok n_M hown hK hP hD hS 0 rfl rfl 4 (by decide) (hts _ m_274) (fun _ h9 => h9) rfl (by decide +kernel) rfl rfl (Nat.le_of_ble_eq_true rfl) d_M_changeSeal_25 (fun H locs hP hD hS => ?_)
    have hP : va_P (dC, dI) classes (Mw h0 qd qs qv qh qn cI cJ (d1, a1, b1, c1, e1, pw, sl1, sm1, false, ln, lk, lq, vq, hs, nd)) H := hP
    have hD : va_D A (Mw h0 qd qs qv qh qn cI cJ (d1, a1, b1, c1, e1, pw, sl1, sm1, false, ln, lk, lq, vq, hs, nd)) := hD
    exact W.vret hx hb hr (fun t ht hW => ⟨⟨(d1, a1, b1, c1, e1, pw, sl1, sm1, false, ln, lk, lq, vq, hs, nd), rfl, ⟨_, _, _, Or.inl ⟨hc1, rfl⟩⟩, by rw [ht]; exact hP, va_K.moved hW.alike hK, hD⟩, hS.F ht⟩) hS.2.2 d_M_changeSeal_28
  · refine lv_if_eq (tgt := 28) hx hb d_M_changeSeal_4 (by decide) (fun _ => ?_) (fun h9 => absurd (by decide) h9)
    exact W.vret hx hb hr (fun t ht hW => ⟨⟨(d1, hf, gn, rt, ct, false, sl1, sm1, true, 0, lk, lq, vq, hs, nd), rfl, ⟨_, _, _, Or.inr ⟨hc1, rfl⟩⟩, by rw [ht]; exact hP, va_K.moved hW.alike hK, hD⟩, hS.F ht⟩) hS.2.2 d_M_changeSeal_28
