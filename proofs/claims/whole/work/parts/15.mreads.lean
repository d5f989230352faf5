set_option maxHeartbeats 4000000 in
set_option maxRecDepth 100000 in
theorem mc_clear (l : Launch) (dC : Nat → ClassId) (dI : Nat → Nat → Nat) (h0 qd qs qv qh qn : Nat) (cI cJ : ClassId) (sz : Nat) (dk : Nat → Int32) (hf : Nat) (gn : Int32) (rt : Int32) (ct : Int32) (pw : Bool) (sl : Int32) (sm : Int32) (cu : Bool) (ln : Nat) (lk : Int32) (lq : Nat → Int32) (vq : Nat → Int64) (hs : Nat → Int64) (nd : Nat → Int32) (pp : Nat) (g0 : Int32) (h_p : pp < 102) : Met l y_M_clear w_M_clear ({ frames := 2, cells := 0, slots := 0, locals := 44 }) (va_Pc [.ref h0, .int (nI pp), .int g0] (z_pre (dC, dI) classes [(cI, .int), (cJ, .long)] (Mw h0 qd qs qv qh qn cI cJ (dk, hf, gn, rt, ct, pw, sl, sm, cu, ln, lk, lq, vq, hs, nd)) sz)) (vp_Si (fun r => r = enc (dk pp) (nI pp) g0)) 0 0 (fun _ => False) := by
  refine Met.ofW (cc := b_M_clear) (maxL := 3) (ret := (some .int)) (by decide) rfl ?_
  intro p e s m args below meth c s₁ B hml hv
  obtain ⟨rfl, hsz, hP, hK, hD0⟩ := hv
  have hx := B.exec
  have hb := B.bytes
  have hr := B.returns
  have hts := fun (w : Cond) (h : w ∈ lw_U) => atoms_spec (ws := w_M_clear) B.pre w (List.mem_cons_of_mem _ h)
  have hown : s.vm.findClass R_M = some m.cls := findClass_of_methodNamed B.named
  have hlocks := B.notSynchronized
  subst hsz
  have hD := hD0
  have hl := lv_entry ([.ref h0, .int (nI pp), .int g0]) (n := 3) (Nat.le_of_ble_eq_true rfl)
  rw [lg_entry_eq]
  generalize (lg_sl ([.ref h0, .int (nI pp), .int g0]) ++ List.replicate (3 - (lg_sl ([.ref h0, .int (nI pp), .int g0])).length) Slot.unset).toArray = ls at hl ⊢
  have hl : lv_has ls 3 [(0, .ref h0), (1, .int (nI pp)), (2, .int g0)] := hl
  refine lv_aload_n hx hb d_M_clear_0 rfl (lv_at hl 0 rfl) ?_
  refine va_get (D := (dC, dI)) (ci := 1) (v := .ref qd) (C := R_M) (T := F_M) (N := 15) hx hb hts lay_M hown hK hP 0 rfl rfl 0 (by decide) (hts _ m_270) (fun _ h9 => h9) rfl d_M_clear_1 ?_
  refine lv_iload_n hx hb d_M_clear_4 rfl (lv_at hl 1 rfl) ?_
  refine z_iald hx hb hK hP 1 0 rfl rfl (by omega) (by decide) d_M_clear_5 ?_
  refine lv_iload_n hx hb d_M_clear_6 rfl (lv_at hl 2 rfl) ?_
  refine lv_iload_n hx hb d_M_clear_7 rfl (lv_at hl 1 rfl) ?_
  refine vp_callSi (W.runS (As := [.int g0, .int (nI pp)]) (rest := [.int (dk pp)]) ⟨hx, hb, hml, hown, hts⟩ (mc_key l g0 (nI pp)) (cwS 2 hts g_M_33 rfl rfl rfl (by decide +kernel) ⟨(Nat.le_of_ble_eq_true rfl), (Nat.le_of_ble_eq_true rfl)⟩) preEq rfl rfl hl.1 rfl (lv_room (Nat.le_of_ble_eq_true rfl)) d_M_clear_8 ⟨(Nat.le_of_ble_eq_true rfl), (Nat.le_of_ble_eq_true rfl)⟩) (fun r hr0 => ?_)
  subst hr0
  refine lv_ixor hx hb d_M_clear_11 ?_
  exact W.iret hx hb hr (fun t ht hW => ⟨_, rfl, rfl, ht⟩) (fun q h => by cases h) d_M_clear_12
set_option maxHeartbeats 4000000 in
set_option maxRecDepth 100000 in
theorem mc_leaf (l : Launch) (dC : Nat → ClassId) (dI : Nat → Nat → Nat) (h0 qd qs qv qh qn : Nat) (cI cJ : ClassId) (sz : Nat) (dk : Nat → Int32) (hf : Nat) (gn : Int32) (rt : Int32) (ct : Int32) (pw : Bool) (sl : Int32) (sm : Int32) (cu : Bool) (ln : Nat) (lk : Int32) (lq : Nat → Int32) (vq : Nat → Int64) (hs : Nat → Int64) (nd : Nat → Int32) (s0 g0 c0 d0 : Int32)  : Met l y_M_leaf w_M_leaf ({ frames := 1, cells := 0, slots := 0, locals := 23 }) (va_Pc [.ref h0, .int s0, .int g0, .int c0, .int d0] (z_pre (dC, dI) classes [(cI, .int), (cJ, .long)] (Mw h0 qd qs qv qh qn cI cJ (dk, hf, gn, rt, ct, pw, sl, sm, cu, ln, lk, lq, vq, hs, nd)) sz)) (vp_Si (fun r => r = dg (dg (8 * g0 + s0) c0) d0)) 0 0 (fun _ => False) := by
  refine Met.ofW (cc := b_M_leaf) (maxL := 6) (ret := (some .int)) (by decide) rfl ?_
  intro p e s m args below meth c s₁ B hml hv
  obtain ⟨rfl, hsz, hP, hK, hD0⟩ := hv
  have hx := B.exec
  have hb := B.bytes
  have hr := B.returns
  have hts := fun (w : Cond) (h : w ∈ lw_U) => atoms_spec (ws := w_M_leaf) B.pre w (List.mem_cons_of_mem _ h)
  have hown : s.vm.findClass R_M = some m.cls := findClass_of_methodNamed B.named
  have hlocks := B.notSynchronized
  subst hsz
  have hD := hD0
  have hl := lv_entry ([.ref h0, .int s0, .int g0, .int c0, .int d0]) (n := 6) (Nat.le_of_ble_eq_true rfl)
  rw [lg_entry_eq]
  generalize (lg_sl ([.ref h0, .int s0, .int g0, .int c0, .int d0]) ++ List.replicate (6 - (lg_sl ([.ref h0, .int s0, .int g0, .int c0, .int d0])).length) Slot.unset).toArray = ls at hl ⊢
  have hl : lv_has ls 6 [(0, .ref h0), (1, .int s0), (2, .int g0), (3, .int c0), (4, .int d0)] := hl
  refine lv_bipush (v := (8 : Int32)) hx hb d_M_leaf_0 (by decide) ?_
  refine lv_iload_n hx hb d_M_leaf_2 rfl (lv_at hl 2 rfl) ?_
  refine lv_imul hx hb d_M_leaf_3 ?_
  refine lv_iload_n hx hb d_M_leaf_4 rfl (lv_at hl 1 rfl) ?_
  refine lv_iadd hx hb d_M_leaf_5 ?_
  refine lv_iload_n hx hb d_M_leaf_6 rfl (lv_at hl 3 rfl) ?_
  refine vp_callSi (W.runS (As := [.int (((8 : Int32) * g0) + s0), .int c0]) (rest := []) ⟨hx, hb, hml, hown, hts⟩ (mc_digest l (((8 : Int32) * g0) + s0) c0) (cwS 2 hts g_M_47 rfl rfl rfl (by decide +kernel) ⟨(Nat.le_of_ble_eq_true rfl), (Nat.le_of_ble_eq_true rfl)⟩) preEq rfl rfl hl.1 rfl (lv_room (Nat.le_of_ble_eq_true rfl)) d_M_leaf_7 ⟨(Nat.le_of_ble_eq_true rfl), (Nat.le_of_ble_eq_true rfl)⟩) (fun r hr0 => ?_)
  subst hr0
  refine lv_istore hx hb d_M_leaf_10 hl (by decide) rfl (fun ls hl => ?_)
  have hl : lv_has ls 6 [(5, .int (dg (((8 : Int32) * g0) + s0) c0)), (0, .ref h0), (1, .int s0), (2, .int g0), (3, .int c0), (4, .int d0)] := hl
  refine lv_iload hx hb d_M_leaf_12 (lv_at hl 0 rfl) ?_
  refine lv_iload hx hb d_M_leaf_14 (lv_at hl 5 rfl) ?_
  refine vp_callSi (W.runS (As := [.int (dg (((8 : Int32) * g0) + s0) c0), .int d0]) (rest := []) ⟨hx, hb, hml, hown, hts⟩ (mc_digest l (dg (((8 : Int32) * g0) + s0) c0) d0) (cwS 2 hts g_M_47 rfl rfl rfl (by decide +kernel) ⟨(Nat.le_of_ble_eq_true rfl), (Nat.le_of_ble_eq_true rfl)⟩) preEq rfl rfl hl.1 rfl (lv_room (Nat.le_of_ble_eq_true rfl)) d_M_leaf_16 ⟨(Nat.le_of_ble_eq_true rfl), (Nat.le_of_ble_eq_true rfl)⟩) (fun r hr0 => ?_)
  subst hr0
  exact W.iret hx hb hr (fun t ht hW => ⟨_, rfl, rfl, ht⟩) (fun q h => by cases h) d_M_leaf_19
set_option maxHeartbeats 4000000 in
set_option maxRecDepth 100000 in
theorem mc_entryAt (l : Launch) (dC : Nat → ClassId) (dI : Nat → Nat → Nat) (h0 qd qs qv qh qn : Nat) (cI cJ : ClassId) (sz : Nat) (dk : Nat → Int32) (hf : Nat) (gn : Int32) (rt : Int32) (ct : Int32) (pw : Bool) (sl : Int32) (sm : Int32) (cu : Bool) (ln : Nat) (lk : Int32) (lq : Nat → Int32) (vq : Nat → Int64) (hs : Nat → Int64) (nd : Nat → Int32) (kk : Nat)  : Met l y_M_entryAt w_M_entryAt ({ frames := 0, cells := 0, slots := 0, locals := 0 }) (va_Pc [.ref h0, .int (nI kk)] (z_pre (dC, dI) classes [(cI, .int), (cJ, .long)] (Mw h0 qd qs qv qh qn cI cJ (dk, hf, gn, rt, ct, pw, sl, sm, cu, ln, lk, lq, vq, hs, nd)) sz)) (vp_Si (fun r => r = nI (51 * hf + 31 + 4 * kk))) 0 0 (fun _ => False) := by
  refine Met.ofW (cc := b_M_entryAt) (maxL := 2) (ret := (some .int)) (by decide) rfl ?_
  intro p e s m args below meth c s₁ B hml hv
  obtain ⟨rfl, hsz, hP, hK, hD0⟩ := hv
  have hx := B.exec
  have hb := B.bytes
  have hr := B.returns
  have hts := fun (w : Cond) (h : w ∈ lw_U) => atoms_spec (ws := w_M_entryAt) B.pre w (List.mem_cons_of_mem _ h)
  have hown : s.vm.findClass R_M = some m.cls := findClass_of_methodNamed B.named
  have hlocks := B.notSynchronized
  subst hsz
  have hD := hD0
  have hl := lv_entry ([.ref h0, .int (nI kk)]) (n := 2) (Nat.le_of_ble_eq_true rfl)
  rw [lg_entry_eq]
  generalize (lg_sl ([.ref h0, .int (nI kk)]) ++ List.replicate (2 - (lg_sl ([.ref h0, .int (nI kk)])).length) Slot.unset).toArray = ls at hl ⊢
  have hl : lv_has ls 2 [(0, .ref h0), (1, .int (nI kk))] := hl
  refine lv_bipush (v := nI 51) hx hb d_M_entryAt_0 (by decide) ?_
  refine lv_aload_n hx hb d_M_entryAt_2 rfl (lv_at hl 0 rfl) ?_
  refine va_get (D := (dC, dI)) (ci := 1) (v := .int (nI hf)) (C := R_M) (T := F_M) (N := 15) hx hb hts lay_M hown hK hP 0 rfl rfl 1 (by decide) (hts _ m_271) (fun _ h9 => h9) rfl d_M_entryAt_3 ?_
  refine lv_imul hx hb d_M_entryAt_6 ?_
  refine z_top (pk_mul _ _) ?_
  refine lv_bipush (v := nI 31) hx hb d_M_entryAt_7 (by decide) ?_
  refine lv_iadd hx hb d_M_entryAt_9 ?_
  refine z_top (nI_add _ _) ?_
  refine lv_iconst (v := nI 4) hx hb d_M_entryAt_10 (by decide) ?_
  refine lv_iload_n hx hb d_M_entryAt_11 rfl (lv_at hl 1 rfl) ?_
  refine lv_imul hx hb d_M_entryAt_12 ?_
  refine z_top (pk_mul _ _) ?_
  refine lv_iadd hx hb d_M_entryAt_13 ?_
  refine z_top (nI_add _ _) ?_
  exact W.iret hx hb hr (fun t ht hW => ⟨_, rfl, rfl, ht⟩) (fun q h => by cases h) d_M_entryAt_14
set_option maxHeartbeats 4000000 in
set_option maxRecDepth 100000 in
theorem mc_chain (l : Launch) (dC : Nat → ClassId) (dI : Nat → Nat → Nat) (h0 qd qs qv qh qn : Nat) (cI cJ : ClassId) (sz : Nat) (dk : Nat → Int32) (hf : Nat) (gn : Int32) (rt : Int32) (ct : Int32) (pw : Bool) (sl : Int32) (sm : Int32) (cu : Bool) (ln : Nat) (lk : Int32) (lq : Nat → Int32) (vq : Nat → Int64) (hs : Nat → Int64) (nd : Nat → Int32) (nn : Nat) (h_f : hf < 2) (h_n : nn ≤ 5) : Met l y_M_chain w_M_chain ({ frames := 1, cells := 0, slots := 0, locals := 23 }) (va_Pc [.ref h0, .int (nI nn)] (z_pre (dC, dI) classes [(cI, .int), (cJ, .long)] (Mw h0 qd qs qv qh qn cI cJ (dk, hf, gn, rt, ct, pw, sl, sm, cu, ln, lk, lq, vq, hs, nd)) sz)) (vp_Si (fun r => r = chM dk hf nn 0 (dg (dg 19088743 rt) gn))) 0 0 (fun _ => False) := by
  refine Met.ofW (cc := b_M_chain) (maxL := 5) (ret := (some .int)) (by decide) rfl ?_
  intro p e s m args below meth c s₁ B hml hv
  obtain ⟨rfl, hsz, hP, hK, hD0⟩ := hv
  have hx := B.exec
  have hb := B.bytes
  have hr := B.returns
  have hts := fun (w : Cond) (h : w ∈ lw_U) => atoms_spec (ws := w_M_chain) B.pre w (List.mem_cons_of_mem _ h)
  have hown : s.vm.findClass R_M = some m.cls := findClass_of_methodNamed B.named
  have hlocks := B.notSynchronized
  subst hsz
  have hD := hD0
  have hl := lv_entry ([.ref h0, .int (nI nn)]) (n := 5) (Nat.le_of_ble_eq_true rfl)
  rw [lg_entry_eq]
  generalize (lg_sl ([.ref h0, .int (nI nn)]) ++ List.replicate (5 - (lg_sl ([.ref h0, .int (nI nn)])).length) Slot.unset).toArray = ls at hl ⊢
  have hl : lv_has ls 5 [(0, .ref h0), (1, .int (nI nn))] := hl
  have loop : ∀ (j k : Nat) (x : Int32) (ls : Array Slot), k + j = nn → lv_has ls 5 [(0, .ref h0), (1, .int (nI nn)), (2, .int x), (3, .int (nI k))] → chM dk hf j k x = chM dk hf nn 0 (dg (dg 19088743 rt) gn) → W p l e (headSpec w_M_chain ({ frames := 1, cells := 0, slots := 0, locals := 23 })).room s m ([.ref h0, .int (nI nn)].toArray) below meth c s.heap [] 0 0 (MQ below (vp_Si (fun r => r = chM dk hf nn 0 (dg (dg 19088743 rt) gn))) ([.ref h0, .int (nI nn)].toArray) s 0 0 (fun _ => False)) (F0 m 19 ls []) := by
    intro j
    induction j with
    | zero =>
      intro k x ls hk hl hF
      refine lv_iload_n hx hb d_M_chain_19 rfl (lv_at hl 3 rfl) ?_
      refine lv_iload_n hx hb d_M_chain_20 rfl (lv_at hl 1 rfl) ?_
      refine lv_icmp_ge (tgt := 77) hx hb d_M_chain_21 (by decide) (fun _ => ?_) (fun h9 => absurd ((nI_leI (by omega) (by omega)).mpr (by omega)) h9)
      refine lv_iload_n hx hb d_M_chain_77 rfl (lv_at hl 2 rfl) ?_
      exact W.iret hx hb hr (fun t ht hW => ⟨_, rfl, hF, ht⟩) (fun q h => by cases h) d_M_chain_78
    | succ j ih =>
      intro k x ls hk hl hF
      refine lv_iload_n hx hb d_M_chain_19 rfl (lv_at hl 3 rfl) ?_
      refine lv_iload_n hx hb d_M_chain_20 rfl (lv_at hl 1 rfl) ?_
      refine lv_icmp_ge (tgt := 77) hx hb d_M_chain_21 (by decide) (fun h9 => absurd h9 (fun q => absurd ((nI_leI (by omega) (by omega)).mp q) (by omega))) (fun _ => ?_)
      refine lv_aload_n hx hb d_M_chain_24 rfl (lv_at hl 0 rfl) ?_
      refine lv_iload_n hx hb d_M_chain_25 rfl (lv_at hl 3 rfl) ?_
      refine vp_callSi (W.runV (C := R_M) (b := h0) (As := [.int (nI k)]) (rest := []) ⟨hx, hb, hml, hown, hts⟩ (mc_entryAt l dC dI h0 qd qs qv qh qn cI cJ _ dk hf gn rt ct pw sl sm cu ln lk lq vq hs nd k) (cwV 1 hts g_M_79 rfl rfl rfl (by decide +kernel) ⟨(Nat.le_of_ble_eq_true rfl), (Nat.le_of_ble_eq_true rfl)⟩) (z_preV (va_recv (q0 := 0) hK hP rfl rfl) hP hK hD) rfl rfl hl.1 rfl (lv_room (Nat.le_of_ble_eq_true rfl)) d_M_chain_26 ⟨(Nat.le_of_ble_eq_true rfl), (Nat.le_of_ble_eq_true rfl)⟩) (fun r hr0 => ?_)
      subst hr0
      refine lv_istore hx hb d_M_chain_29 hl (by decide) rfl (fun ls hl => ?_)
      have hl : lv_has ls 5 [(4, .int (nI (51 * hf + 31 + 4 * k))), (0, .ref h0), (1, .int (nI nn)), (2, .int x), (3, .int (nI k))] := hl
      refine lv_iload_n hx hb d_M_chain_31 rfl (lv_at hl 3 rfl) ?_
      refine lv_aload_n hx hb d_M_chain_32 rfl (lv_at hl 1 rfl) ?_
      refine va_get (D := (dC, dI)) (ci := 1) (v := .ref qd) (C := R_M) (T := F_M) (N := 15) hx hb hts lay_M hown hK hP 0 rfl rfl 0 (by decide) (hts _ m_270) (fun _ h9 => h9) rfl d_M_chain_33 ?_
      refine lv_iload hx hb d_M_chain_36 (lv_at hl 0 rfl) ?_
      refine z_iald hx hb hK hP 1 0 rfl rfl (by omega) (by decide) d_M_chain_38 ?_
      refine vp_callSi (W.runS (As := [.int x, .int (dk (51 * hf + 31 + 4 * k))]) (rest := []) ⟨hx, hb, hml, hown, hts⟩ (mc_digest l x (dk (51 * hf + 31 + 4 * k))) (cwS 2 hts g_M_47 rfl rfl rfl (by decide +kernel) ⟨(Nat.le_of_ble_eq_true rfl), (Nat.le_of_ble_eq_true rfl)⟩) preEq rfl rfl hl.1 rfl (lv_room (Nat.le_of_ble_eq_true rfl)) d_M_chain_39 ⟨(Nat.le_of_ble_eq_true rfl), (Nat.le_of_ble_eq_true rfl)⟩) (fun r hr0 => ?_)
      subst hr0
      refine lv_istore_n hx hb d_M_chain_42 rfl hl (by decide) rfl (fun ls hl => ?_)
      have hl : lv_has ls 5 [(2, .int (dg x (dk (51 * hf + 31 + 4 * k)))), (4, .int (nI (51 * hf + 31 + 4 * k))), (0, .ref h0), (1, .int (nI nn)), (3, .int (nI k))] := hl
      refine lv_iload_n hx hb d_M_chain_43 rfl (lv_at hl 0 rfl) ?_
      refine lv_aload_n hx hb d_M_chain_44 rfl (lv_at hl 2 rfl) ?_
      refine va_get (D := (dC, dI)) (ci := 1) (v := .ref qd) (C := R_M) (T := F_M) (N := 15) hx hb hts lay_M hown hK hP 0 rfl rfl 0 (by decide) (hts _ m_270) (fun _ h9 => h9) rfl d_M_chain_45 ?_
      refine lv_iload hx hb d_M_chain_48 (lv_at hl 1 rfl) ?_
      refine lv_iconst (v := nI 1) hx hb d_M_chain_50 (by decide) ?_
      refine lv_iadd hx hb d_M_chain_51 ?_
      refine z_top (nI_add _ _) ?_
      refine z_iald hx hb hK hP 1 0 rfl rfl (by omega) (by decide) d_M_chain_52 ?_
      refine vp_callSi (W.runS (As := [.int (dg x (dk (51 * hf + 31 + 4 * k))), .int (dk ((51 * hf + 31 + 4 * k) + 1))]) (rest := []) ⟨hx, hb, hml, hown, hts⟩ (mc_digest l (dg x (dk (51 * hf + 31 + 4 * k))) (dk ((51 * hf + 31 + 4 * k) + 1))) (cwS 2 hts g_M_47 rfl rfl rfl (by decide +kernel) ⟨(Nat.le_of_ble_eq_true rfl), (Nat.le_of_ble_eq_true rfl)⟩) preEq rfl rfl hl.1 rfl (lv_room (Nat.le_of_ble_eq_true rfl)) d_M_chain_53 ⟨(Nat.le_of_ble_eq_true rfl), (Nat.le_of_ble_eq_true rfl)⟩) (fun r hr0 => ?_)
      subst hr0
      refine lv_istore_n hx hb d_M_chain_56 rfl hl (by decide) rfl (fun ls hl => ?_)
      have hl : lv_has ls 5 [(2, .int (dg (dg x (dk (51 * hf + 31 + 4 * k))) (dk ((51 * hf + 31 + 4 * k) + 1)))), (4, .int (nI (51 * hf + 31 + 4 * k))), (0, .ref h0), (1, .int (nI nn)), (3, .int (nI k))] := hl
      refine lv_iload_n hx hb d_M_chain_57 rfl (lv_at hl 0 rfl) ?_
      refine lv_aload_n hx hb d_M_chain_58 rfl (lv_at hl 2 rfl) ?_
      refine va_get (D := (dC, dI)) (ci := 1) (v := .ref qd) (C := R_M) (T := F_M) (N := 15) hx hb hts lay_M hown hK hP 0 rfl rfl 0 (by decide) (hts _ m_270) (fun _ h9 => h9) rfl d_M_chain_59 ?_
      refine lv_iload hx hb d_M_chain_62 (lv_at hl 1 rfl) ?_
      refine lv_iconst (v := nI 2) hx hb d_M_chain_64 (by decide) ?_
      refine lv_iadd hx hb d_M_chain_65 ?_
      refine z_top (nI_add _ _) ?_
      refine z_iald hx hb hK hP 1 0 rfl rfl (by omega) (by decide) d_M_chain_66 ?_
      refine vp_callSi (W.runS (As := [.int (dg (dg x (dk (51 * hf + 31 + 4 * k))) (dk ((51 * hf + 31 + 4 * k) + 1))), .int (dk ((51 * hf + 31 + 4 * k) + 2))]) (rest := []) ⟨hx, hb, hml, hown, hts⟩ (mc_digest l (dg (dg x (dk (51 * hf + 31 + 4 * k))) (dk ((51 * hf + 31 + 4 * k) + 1))) (dk ((51 * hf + 31 + 4 * k) + 2))) (cwS 2 hts g_M_47 rfl rfl rfl (by decide +kernel) ⟨(Nat.le_of_ble_eq_true rfl), (Nat.le_of_ble_eq_true rfl)⟩) preEq rfl rfl hl.1 rfl (lv_room (Nat.le_of_ble_eq_true rfl)) d_M_chain_67 ⟨(Nat.le_of_ble_eq_true rfl), (Nat.le_of_ble_eq_true rfl)⟩) (fun r hr0 => ?_)
      subst hr0
      refine lv_istore_n hx hb d_M_chain_70 rfl hl (by decide) rfl (fun ls hl => ?_)
      have hl : lv_has ls 5 [(2, .int (dg (dg (dg x (dk (51 * hf + 31 + 4 * k))) (dk ((51 * hf + 31 + 4 * k) + 1))) (dk ((51 * hf + 31 + 4 * k) + 2)))), (4, .int (nI (51 * hf + 31 + 4 * k))), (0, .ref h0), (1, .int (nI nn)), (3, .int (nI k))] := hl
      refine lv_iinc (k := 4) hx hb d_M_chain_71 hl rfl (z_inc _ 1) (by decide) rfl (fun ls hl => ?_)
      have hl : lv_has ls 5 [(3, .int (nI (k + 1))), (2, .int (dg (dg (dg x (dk (51 * hf + 31 + 4 * k))) (dk ((51 * hf + 31 + 4 * k) + 1))) (dk ((51 * hf + 31 + 4 * k) + 2)))), (4, .int (nI (51 * hf + 31 + 4 * k))), (0, .ref h0), (1, .int (nI nn))] := hl
      refine lv_goto (tgt := 19) hx hb d_M_chain_74 (by decide) ?_
      exact ih (k + 1) _ ls (by omega) (lv_sub hl [3, 4, 1, 0] rfl) hF
  refine lv_ldc (v := 19088743) hx hb hown (hts _ m_256) d_M_chain_0 ?_
  refine lv_aload_n hx hb d_M_chain_2 rfl (lv_at hl 0 rfl) ?_
  refine va_get (D := (dC, dI)) (ci := 1) (v := .int rt) (C := R_M) (T := F_M) (N := 15) hx hb hts lay_M hown hK hP 0 rfl rfl 3 (by decide) (hts _ m_273) (fun _ h9 => h9) rfl d_M_chain_3 ?_
  refine vp_callSi (W.runS (As := [.int (19088743 : Int32), .int rt]) (rest := []) ⟨hx, hb, hml, hown, hts⟩ (mc_digest l (19088743 : Int32) rt) (cwS 2 hts g_M_47 rfl rfl rfl (by decide +kernel) ⟨(Nat.le_of_ble_eq_true rfl), (Nat.le_of_ble_eq_true rfl)⟩) preEq rfl rfl hl.1 rfl (lv_room (Nat.le_of_ble_eq_true rfl)) d_M_chain_6 ⟨(Nat.le_of_ble_eq_true rfl), (Nat.le_of_ble_eq_true rfl)⟩) (fun r hr0 => ?_)
  subst hr0
  refine lv_aload_n hx hb d_M_chain_9 rfl (lv_at hl 0 rfl) ?_
  refine va_get (D := (dC, dI)) (ci := 1) (v := .int gn) (C := R_M) (T := F_M) (N := 15) hx hb hts lay_M hown hK hP 0 rfl rfl 2 (by decide) (hts _ m_272) (fun _ h9 => h9) rfl d_M_chain_10 ?_
  refine vp_callSi (W.runS (As := [.int (dg (19088743 : Int32) rt), .int gn]) (rest := []) ⟨hx, hb, hml, hown, hts⟩ (mc_digest l (dg (19088743 : Int32) rt) gn) (cwS 2 hts g_M_47 rfl rfl rfl (by decide +kernel) ⟨(Nat.le_of_ble_eq_true rfl), (Nat.le_of_ble_eq_true rfl)⟩) preEq rfl rfl hl.1 rfl (lv_room (Nat.le_of_ble_eq_true rfl)) d_M_chain_13 ⟨(Nat.le_of_ble_eq_true rfl), (Nat.le_of_ble_eq_true rfl)⟩) (fun r hr0 => ?_)
  subst hr0
  refine lv_istore_n hx hb d_M_chain_16 rfl hl (by decide) rfl (fun ls hl => ?_)
  have hl : lv_has ls 5 [(2, .int (dg (dg (19088743 : Int32) rt) gn)), (0, .ref h0), (1, .int (nI nn))] := hl
  refine lv_iconst (v := nI 0) hx hb d_M_chain_17 (by decide) ?_
  refine lv_istore_n hx hb d_M_chain_18 rfl hl (by decide) rfl (fun ls hl => ?_)
  have hl : lv_has ls 5 [(3, .int (nI 0)), (2, .int (dg (dg (19088743 : Int32) rt) gn)), (0, .ref h0), (1, .int (nI nn))] := hl
  exact loop nn 0 _ ls (by omega) (lv_sub hl [2, 3, 1, 0] rfl) rfl
set_option maxHeartbeats 4000000 in
set_option maxRecDepth 100000 in
theorem mc_recorded (l : Launch) (dC : Nat → ClassId) (dI : Nat → Nat → Nat) (h0 qd qs qv qh qn : Nat) (cI cJ : ClassId) (sz : Nat) (dk : Nat → Int32) (hf : Nat) (gn : Int32) (rt : Int32) (ct : Int32) (pw : Bool) (sl : Int32) (sm : Int32) (cu : Bool) (ln : Nat) (lk : Int32) (lq : Nat → Int32) (vq : Nat → Int64) (hs : Nat → Int64) (nd : Nat → Int32) (kk : Nat) (h_f : hf < 2) (h_k : kk < 5) : Met l y_M_recorded w_M_recorded ({ frames := 3, cells := 0, slots := 0, locals := 66 }) (va_Pc [.ref h0, .int (nI kk)] (z_pre (dC, dI) classes [(cI, .int), (cJ, .long)] (Mw h0 qd qs qv qh qn cI cJ (dk, hf, gn, rt, ct, pw, sl, sm, cu, ln, lk, lq, vq, hs, nd)) sz)) (vp_Sl (fun r => r = vat dk gn (51 * hf + 31 + 4 * kk + 1))) 0 0 (fun _ => False) := by
  refine Met.ofW (cc := b_M_recorded) (maxL := 5) (ret := (some .long)) (by decide) rfl ?_
  intro p e s m args below meth c s₁ B hml hv
  obtain ⟨rfl, hsz, hP, hK, hD0⟩ := hv
  have hx := B.exec
  have hb := B.bytes
  have hr := B.returns
  have hts := fun (w : Cond) (h : w ∈ lw_U) => atoms_spec (ws := w_M_recorded) B.pre w (List.mem_cons_of_mem _ h)
  have hown : s.vm.findClass R_M = some m.cls := findClass_of_methodNamed B.named
  have hlocks := B.notSynchronized
  subst hsz
  have hD := hD0
  have hl := lv_entry ([.ref h0, .int (nI kk)]) (n := 5) (Nat.le_of_ble_eq_true rfl)
  rw [lg_entry_eq]
  generalize (lg_sl ([.ref h0, .int (nI kk)]) ++ List.replicate (5 - (lg_sl ([.ref h0, .int (nI kk)])).length) Slot.unset).toArray = ls at hl ⊢
  have hl : lv_has ls 5 [(0, .ref h0), (1, .int (nI kk))] := hl
  refine lv_aload_n hx hb d_M_recorded_0 rfl (lv_at hl 0 rfl) ?_
  refine lv_iload_n hx hb d_M_recorded_1 rfl (lv_at hl 1 rfl) ?_
  refine vp_callSi (W.runV (C := R_M) (b := h0) (As := [.int (nI kk)]) (rest := []) ⟨hx, hb, hml, hown, hts⟩ (mc_entryAt l dC dI h0 qd qs qv qh qn cI cJ _ dk hf gn rt ct pw sl sm cu ln lk lq vq hs nd kk) (cwV 1 hts g_M_79 rfl rfl rfl (by decide +kernel) ⟨(Nat.le_of_ble_eq_true rfl), (Nat.le_of_ble_eq_true rfl)⟩) (z_preV (va_recv (q0 := 0) hK hP rfl rfl) hP hK hD) rfl rfl hl.1 rfl (lv_room (Nat.le_of_ble_eq_true rfl)) d_M_recorded_2 ⟨(Nat.le_of_ble_eq_true rfl), (Nat.le_of_ble_eq_true rfl)⟩) (fun r hr0 => ?_)
  subst hr0
  refine lv_istore_n hx hb d_M_recorded_5 rfl hl (by decide) rfl (fun ls hl => ?_)
  have hl : lv_has ls 5 [(2, .int (nI (51 * hf + 31 + 4 * kk))), (0, .ref h0), (1, .int (nI kk))] := hl
  refine lv_aload_n hx hb d_M_recorded_6 rfl (lv_at hl 1 rfl) ?_
  refine lv_iload_n hx hb d_M_recorded_7 rfl (lv_at hl 0 rfl) ?_
  refine lv_iconst (v := nI 1) hx hb d_M_recorded_8 (by decide) ?_
  refine lv_iadd hx hb d_M_recorded_9 ?_
  refine z_top (nI_add _ _) ?_
  refine lv_aload_n hx hb d_M_recorded_10 rfl (lv_at hl 1 rfl) ?_
  refine va_get (D := (dC, dI)) (ci := 1) (v := .int gn) (C := R_M) (T := F_M) (N := 15) hx hb hts lay_M hown hK hP 0 rfl rfl 2 (by decide) (hts _ m_272) (fun _ h9 => h9) rfl d_M_recorded_11 ?_
  refine vp_callSi (W.runV (C := R_M) (b := h0) (As := [.int (nI ((51 * hf + 31 + 4 * kk) + 1)), .int gn]) (rest := []) ⟨hx, hb, hml, hown, hts⟩ (mc_clear l dC dI h0 qd qs qv qh qn cI cJ _ dk hf gn rt ct pw sl sm cu ln lk lq vq hs nd ((51 * hf + 31 + 4 * kk) + 1) gn (by omega)) (cwV 2 hts g_M_83 rfl rfl rfl (by decide +kernel) ⟨(Nat.le_of_ble_eq_true rfl), (Nat.le_of_ble_eq_true rfl)⟩) (z_preV (va_recv (q0 := 0) hK hP rfl rfl) hP hK hD) rfl rfl hl.1 rfl (lv_room (Nat.le_of_ble_eq_true rfl)) d_M_recorded_14 ⟨(Nat.le_of_ble_eq_true rfl), (Nat.le_of_ble_eq_true rfl)⟩) (fun r hr0 => ?_)
  subst hr0
  refine lv_istore_n hx hb d_M_recorded_17 rfl hl (by decide) rfl (fun ls hl => ?_)
  have hl : lv_has ls 5 [(3, .int (enc (dk ((51 * hf + 31 + 4 * kk) + 1)) (nI ((51 * hf + 31 + 4 * kk) + 1)) gn)), (2, .int (nI (51 * hf + 31 + 4 * kk))), (0, .ref h0), (1, .int (nI kk))] := hl
  refine lv_aload_n hx hb d_M_recorded_18 rfl (lv_at hl 2 rfl) ?_
  refine lv_iload_n hx hb d_M_recorded_19 rfl (lv_at hl 1 rfl) ?_
  refine lv_iconst (v := nI 2) hx hb d_M_recorded_20 (by decide) ?_
  refine lv_iadd hx hb d_M_recorded_21 ?_
  refine z_top (nI_add _ _) ?_
  refine lv_aload_n hx hb d_M_recorded_22 rfl (lv_at hl 2 rfl) ?_
  refine va_get (D := (dC, dI)) (ci := 1) (v := .int gn) (C := R_M) (T := F_M) (N := 15) hx hb hts lay_M hown hK hP 0 rfl rfl 2 (by decide) (hts _ m_272) (fun _ h9 => h9) rfl d_M_recorded_23 ?_
  refine vp_callSi (W.runV (C := R_M) (b := h0) (As := [.int (nI ((51 * hf + 31 + 4 * kk) + 2)), .int gn]) (rest := []) ⟨hx, hb, hml, hown, hts⟩ (mc_clear l dC dI h0 qd qs qv qh qn cI cJ _ dk hf gn rt ct pw sl sm cu ln lk lq vq hs nd ((51 * hf + 31 + 4 * kk) + 2) gn (by omega)) (cwV 2 hts g_M_83 rfl rfl rfl (by decide +kernel) ⟨(Nat.le_of_ble_eq_true rfl), (Nat.le_of_ble_eq_true rfl)⟩) (z_preV (va_recv (q0 := 0) hK hP rfl rfl) hP hK hD) rfl rfl hl.1 rfl (lv_room (Nat.le_of_ble_eq_true rfl)) d_M_recorded_26 ⟨(Nat.le_of_ble_eq_true rfl), (Nat.le_of_ble_eq_true rfl)⟩) (fun r hr0 => ?_)
  subst hr0
  refine lv_istore hx hb d_M_recorded_29 hl (by decide) rfl (fun ls hl => ?_)
  have hl : lv_has ls 5 [(4, .int (enc (dk ((51 * hf + 31 + 4 * kk) + 2)) (nI ((51 * hf + 31 + 4 * kk) + 2)) gn)), (3, .int (enc (dk ((51 * hf + 31 + 4 * kk) + 1)) (nI ((51 * hf + 31 + 4 * kk) + 1)) gn)), (2, .int (nI (51 * hf + 31 + 4 * kk))), (0, .ref h0), (1, .int (nI kk))] := hl
  refine lv_iload_n hx hb d_M_recorded_31 rfl (lv_at hl 1 rfl) ?_
  refine lv_iload hx hb d_M_recorded_32 (lv_at hl 0 rfl) ?_
  refine vp_callSl (W.runS (As := [.int (enc (dk ((51 * hf + 31 + 4 * kk) + 1)) (nI ((51 * hf + 31 + 4 * kk) + 1)) gn), .int (enc (dk ((51 * hf + 31 + 4 * kk) + 2)) (nI ((51 * hf + 31 + 4 * kk) + 2)) gn)]) (rest := []) ⟨hx, hb, hml, hown, hts⟩ (mc_joined l (enc (dk ((51 * hf + 31 + 4 * kk) + 1)) (nI ((51 * hf + 31 + 4 * kk) + 1)) gn) (enc (dk ((51 * hf + 31 + 4 * kk) + 2)) (nI ((51 * hf + 31 + 4 * kk) + 2)) gn)) (cwS 2 hts g_M_86 rfl rfl rfl (by decide +kernel) ⟨(Nat.le_of_ble_eq_true rfl), (Nat.le_of_ble_eq_true rfl)⟩) preEq rfl rfl hl.1 rfl (lv_room (Nat.le_of_ble_eq_true rfl)) d_M_recorded_34 ⟨(Nat.le_of_ble_eq_true rfl), (Nat.le_of_ble_eq_true rfl)⟩) (fun r hr0 => ?_)
  subst hr0
  exact W.lret hx hb hr (fun t ht hW => ⟨_, rfl, rfl, ht⟩) (fun q h => by cases h) d_M_recorded_37
set_option maxHeartbeats 4000000 in
set_option maxRecDepth 100000 in
theorem mc_due (l : Launch) (dC : Nat → ClassId) (dI : Nat → Nat → Nat) (h0 qd qs qv qh qn : Nat) (cI cJ : ClassId) (sz : Nat) (dk : Nat → Int32) (hf : Nat) (gn : Int32) (rt : Int32) (ct : Int32) (pw : Bool) (sl : Int32) (sm : Int32) (cu : Bool) (ln : Nat) (lk : Int32) (lq : Nat → Int32) (vq : Nat → Int64) (hs : Nat → Int64) (nd : Nat → Int32) (kk : Nat) (h_f : hf < 2) (h_k : kk < 5) : Met l y_M_due w_M_due ({ frames := 4, cells := 0, slots := 0, locals := 90 }) (va_Pc [.ref h0, .int (nI kk)] (z_pre (dC, dI) classes [(cI, .int), (cJ, .long)] (Mw h0 qd qs qv qh qn cI cJ (dk, hf, gn, rt, ct, pw, sl, sm, cu, ln, lk, lq, vq, hs, nd)) sz)) (vp_Si (fun r => r = (if jgood dk hf gn (chM dk hf kk 0 (dg (dg 19088743 rt) gn)) kk then 1 else 0))) 0 0 (fun _ => False) := by
  refine Met.ofW (cc := b_M_due) (maxL := 3) (ret := (some .boolean)) (by decide) rfl ?_
  intro p e s m args below meth c s₁ B hml hv
  obtain ⟨rfl, hsz, hP, hK, hD0⟩ := hv
  have hx := B.exec
  have hb := B.bytes
  have hr := B.returns
  have hts := fun (w : Cond) (h : w ∈ lw_U) => atoms_spec (ws := w_M_due) B.pre w (List.mem_cons_of_mem _ h)
  have hown : s.vm.findClass R_M = some m.cls := findClass_of_methodNamed B.named
  have hlocks := B.notSynchronized
  subst hsz
  have hD := hD0
  have hl := lv_entry ([.ref h0, .int (nI kk)]) (n := 3) (Nat.le_of_ble_eq_true rfl)
  rw [lg_entry_eq]
  generalize (lg_sl ([.ref h0, .int (nI kk)]) ++ List.replicate (3 - (lg_sl ([.ref h0, .int (nI kk)])).length) Slot.unset).toArray = ls at hl ⊢
  have hl : lv_has ls 3 [(0, .ref h0), (1, .int (nI kk))] := hl
  refine lv_aload_n hx hb d_M_due_0 rfl (lv_at hl 0 rfl) ?_
  refine lv_aload_n hx hb d_M_due_1 rfl (lv_at hl 0 rfl) ?_
  refine lv_iload_n hx hb d_M_due_2 rfl (lv_at hl 1 rfl) ?_
  refine vp_callSi (W.runV (C := R_M) (b := h0) (As := [.int (nI kk)]) (rest := [.ref h0]) ⟨hx, hb, hml, hown, hts⟩ (mc_entryAt l dC dI h0 qd qs qv qh qn cI cJ _ dk hf gn rt ct pw sl sm cu ln lk lq vq hs nd kk) (cwV 1 hts g_M_79 rfl rfl rfl (by decide +kernel) ⟨(Nat.le_of_ble_eq_true rfl), (Nat.le_of_ble_eq_true rfl)⟩) (z_preV (va_recv (q0 := 0) hK hP rfl rfl) hP hK hD) rfl rfl hl.1 rfl (lv_room (Nat.le_of_ble_eq_true rfl)) d_M_due_3 ⟨(Nat.le_of_ble_eq_true rfl), (Nat.le_of_ble_eq_true rfl)⟩) (fun r hr0 => ?_)
  subst hr0
  refine lv_aload_n hx hb d_M_due_6 rfl (lv_at hl 0 rfl) ?_
  refine va_get (D := (dC, dI)) (ci := 1) (v := .int gn) (C := R_M) (T := F_M) (N := 15) hx hb hts lay_M hown hK hP 0 rfl rfl 2 (by decide) (hts _ m_272) (fun _ h9 => h9) rfl d_M_due_7 ?_
  refine vp_callSi (W.runV (C := R_M) (b := h0) (As := [.int (nI (51 * hf + 31 + 4 * kk)), .int gn]) (rest := []) ⟨hx, hb, hml, hown, hts⟩ (mc_clear l dC dI h0 qd qs qv qh qn cI cJ _ dk hf gn rt ct pw sl sm cu ln lk lq vq hs nd (51 * hf + 31 + 4 * kk) gn (by omega)) (cwV 2 hts g_M_83 rfl rfl rfl (by decide +kernel) ⟨(Nat.le_of_ble_eq_true rfl), (Nat.le_of_ble_eq_true rfl)⟩) (z_preV (va_recv (q0 := 0) hK hP rfl rfl) hP hK hD) rfl rfl hl.1 rfl (lv_room (Nat.le_of_ble_eq_true rfl)) d_M_due_10 ⟨(Nat.le_of_ble_eq_true rfl), (Nat.le_of_ble_eq_true rfl)⟩) (fun r hr0 => ?_)
  subst hr0
  refine lv_istore_n hx hb d_M_due_13 rfl hl (by decide) rfl (fun ls hl => ?_)
  have hl : lv_has ls 3 [(2, .int (enc (dk (51 * hf + 31 + 4 * kk)) (nI (51 * hf + 31 + 4 * kk)) gn)), (0, .ref h0), (1, .int (nI kk))] := hl
  refine lv_aload_n hx hb d_M_due_14 rfl (lv_at hl 1 rfl) ?_
  refine va_get (D := (dC, dI)) (ci := 1) (v := .ref qd) (C := R_M) (T := F_M) (N := 15) hx hb hts lay_M hown hK hP 0 rfl rfl 0 (by decide) (hts _ m_270) (fun _ h9 => h9) rfl d_M_due_15 ?_
  refine lv_aload_n hx hb d_M_due_18 rfl (lv_at hl 1 rfl) ?_
  refine lv_iload_n hx hb d_M_due_19 rfl (lv_at hl 2 rfl) ?_
  refine vp_callSi (W.runV (C := R_M) (b := h0) (As := [.int (nI kk)]) (rest := [.ref qd]) ⟨hx, hb, hml, hown, hts⟩ (mc_entryAt l dC dI h0 qd qs qv qh qn cI cJ _ dk hf gn rt ct pw sl sm cu ln lk lq vq hs nd kk) (cwV 1 hts g_M_79 rfl rfl rfl (by decide +kernel) ⟨(Nat.le_of_ble_eq_true rfl), (Nat.le_of_ble_eq_true rfl)⟩) (z_preV (va_recv (q0 := 0) hK hP rfl rfl) hP hK hD) rfl rfl hl.1 rfl (lv_room (Nat.le_of_ble_eq_true rfl)) d_M_due_20 ⟨(Nat.le_of_ble_eq_true rfl), (Nat.le_of_ble_eq_true rfl)⟩) (fun r hr0 => ?_)
  subst hr0
  refine lv_iconst (v := nI 3) hx hb d_M_due_23 (by decide) ?_
  refine lv_iadd hx hb d_M_due_24 ?_
  refine z_top (nI_add _ _) ?_
  refine z_iald hx hb hK hP 1 0 rfl rfl (by omega) (by decide) d_M_due_25 ?_
  refine lv_aload_n hx hb d_M_due_26 rfl (lv_at hl 1 rfl) ?_
  refine lv_iload_n hx hb d_M_due_27 rfl (lv_at hl 2 rfl) ?_
  refine lv_iconst (v := nI 1) hx hb d_M_due_28 (by decide) ?_
  refine lv_iadd hx hb d_M_due_29 ?_
  refine z_top (nI_add _ _) ?_
  refine vp_callSi (W.runV (C := R_M) (b := h0) (As := [.int (nI (kk + 1))]) (rest := [.int (dk ((51 * hf + 31 + 4 * kk) + 3))]) ⟨hx, hb, hml, hown, hts⟩ (mc_chain l dC dI h0 qd qs qv qh qn cI cJ _ dk hf gn rt ct pw sl sm cu ln lk lq vq hs nd (kk + 1) (by omega) (by omega)) (cwV 1 hts g_M_90 rfl rfl rfl (by decide +kernel) ⟨(Nat.le_of_ble_eq_true rfl), (Nat.le_of_ble_eq_true rfl)⟩) (z_preV (va_recv (q0 := 0) hK hP rfl rfl) hP hK hD) rfl rfl hl.1 rfl (lv_room (Nat.le_of_ble_eq_true rfl)) d_M_due_30 ⟨(Nat.le_of_ble_eq_true rfl), (Nat.le_of_ble_eq_true rfl)⟩) (fun r hr0 => ?_)
  subst hr0
  refine lv_iconst (v := (1 : Int32)) hx hb d_M_due_33 (by decide) ?_
  refine lv_ior hx hb d_M_due_34 ?_
  refine lv_icmp_ne (tgt := 62) hx hb d_M_due_35 (by decide) (fun h1 => ?_) (fun h1 => ?_)
  · refine lv_iconst (v := (0 : Int32)) hx hb d_M_due_62 (by decide) ?_
    exact W.zret hx hb hr rfl (fun t ht hW => ⟨_, rfl, (by rw [if_neg (fun q => h1 (by rw [chM_s]; exact q.1))]), ht⟩) (fun q h => by cases h) d_M_due_63
  · refine lv_iload_n hx hb d_M_due_38 rfl (lv_at hl 0 rfl) ?_
    refine lv_if_lt (tgt := 62) hx hb d_M_due_39 (by decide) (fun h2 => ?_) (fun h2 => ?_)
    · refine lv_iconst (v := (0 : Int32)) hx hb d_M_due_62 (by decide) ?_
      exact W.zret hx hb hr rfl (fun t ht hW => ⟨_, rfl, (by rw [if_neg (fun q => q.2.1 (isIn_lo h2))]), ht⟩) (fun q h => by cases h) d_M_due_63
    · refine lv_iload_n hx hb d_M_due_42 rfl (lv_at hl 0 rfl) ?_
      refine lv_bipush (v := (8 : Int32)) hx hb d_M_due_43 (by decide) ?_
      refine lv_icmp_ge (tgt := 62) hx hb d_M_due_45 (by decide) (fun h3 => ?_) (fun h3 => ?_)
      · refine lv_iconst (v := (0 : Int32)) hx hb d_M_due_62 (by decide) ?_
        exact W.zret hx hb hr rfl (fun t ht hW => ⟨_, rfl, (by rw [if_neg (fun q => q.2.1 (isIn_hi h3))]), ht⟩) (fun q h => by cases h) d_M_due_63
      · refine lv_aload_n hx hb d_M_due_48 rfl (lv_at hl 1 rfl) ?_
        refine lv_iload_n hx hb d_M_due_49 rfl (lv_at hl 2 rfl) ?_
        refine vp_callSl (W.runV (C := R_M) (b := h0) (As := [.int (nI kk)]) (rest := []) ⟨hx, hb, hml, hown, hts⟩ (mc_recorded l dC dI h0 qd qs qv qh qn cI cJ _ dk hf gn rt ct pw sl sm cu ln lk lq vq hs nd kk (by omega) (by omega)) (cwV 1 hts g_M_93 rfl rfl rfl (by decide +kernel) ⟨(Nat.le_of_ble_eq_true rfl), (Nat.le_of_ble_eq_true rfl)⟩) (z_preV (va_recv (q0 := 0) hK hP rfl rfl) hP hK hD) rfl rfl hl.1 rfl (lv_room (Nat.le_of_ble_eq_true rfl)) d_M_due_50 ⟨(Nat.le_of_ble_eq_true rfl), (Nat.le_of_ble_eq_true rfl)⟩) (fun r hr0 => ?_)
        subst hr0
        refine lv_lconst (v := 0) hx hb d_M_due_53 (by decide) ?_
        refine W.lcmp hx hb d_M_due_54 ?_
        refine lv_if_lt (tgt := 62) hx hb d_M_due_55 (by decide) (fun h4 => ?_) (fun h4 => ?_)
        · refine lv_iconst (v := (0 : Int32)) hx hb d_M_due_62 (by decide) ?_
          exact W.zret hx hb hr rfl (fun t ht hW => ⟨_, rfl, (by rw [if_neg (fun q => z_nn2 h4 q.2.2)]), ht⟩) (fun q h => by cases h) d_M_due_63
        · refine lv_iconst (v := (1 : Int32)) hx hb d_M_due_58 (by decide) ?_
          refine lv_goto (tgt := 63) hx hb d_M_due_59 (by decide) ?_
          exact W.zret hx hb hr rfl (fun t ht hW => ⟨_, rfl, (by rw [if_pos ⟨by rw [← chM_s]; exact h1, isIn_no h2 h3, z_nn h4⟩]), ht⟩) (fun q h => by cases h) d_M_due_63
set_option maxHeartbeats 4000000 in
set_option maxRecDepth 100000 in
theorem mc_looked (l : Launch) (dC : Nat → ClassId) (dI : Nat → Nat → Nat) (h0 qd qs qv qh qn : Nat) (cI cJ : ClassId) (sz : Nat) (dk : Nat → Int32) (hf : Nat) (gn : Int32) (rt : Int32) (ct : Int32) (pw : Bool) (sl : Int32) (sm : Int32) (cu : Bool) (ln : Nat) (lk : Int32) (lq : Nat → Int32) (vq : Nat → Int64) (hs : Nat → Int64) (nd : Nat → Int32) (sc : Nat) (h_f : hf < 2) (h_s : sc < 8) : Met l y_M_looked w_M_looked ({ frames := 3, cells := 0, slots := 0, locals := 66 }) (va_Pc [.ref h0, .int (nI sc)] (z_pre (dC, dI) classes [(cI, .int), (cJ, .long)] (Mw h0 qd qs qv qh qn cI cJ (dk, hf, gn, rt, ct, pw, sl, sm, cu, ln, lk, lq, vq, hs, nd)) sz)) (vp_Sl (fun r => r = vlkM dk hf gn rt sc)) 0 0 (fun _ => False) := by
  refine Met.ofW (cc := b_M_looked) (maxL := 6) (ret := (some .long)) (by decide) rfl ?_
  intro p e s m args below meth c s₁ B hml hv
  obtain ⟨rfl, hsz, hP, hK, hD0⟩ := hv
  have hx := B.exec
  have hb := B.bytes
  have hr := B.returns
  have hts := fun (w : Cond) (h : w ∈ lw_U) => atoms_spec (ws := w_M_looked) B.pre w (List.mem_cons_of_mem _ h)
  have hown : s.vm.findClass R_M = some m.cls := findClass_of_methodNamed B.named
  have hlocks := B.notSynchronized
  subst hsz
  have hD := hD0
  have hl := lv_entry ([.ref h0, .int (nI sc)]) (n := 6) (Nat.le_of_ble_eq_true rfl)
  rw [lg_entry_eq]
  generalize (lg_sl ([.ref h0, .int (nI sc)]) ++ List.replicate (6 - (lg_sl ([.ref h0, .int (nI sc)])).length) Slot.unset).toArray = ls at hl ⊢
  have hl : lv_has ls 6 [(0, .ref h0), (1, .int (nI sc))] := hl
  have loop : ∀ (f k : Nat) (x : Int32) (ls : Array Slot), k ≤ f → k < 16 → lv_has ls 6 [(0, .ref h0), (2, .int (nI (51 * hf + 2 * sc))), (3, .int x), (4, .int (nI k))] → rup dk hf f k x = rabove dk hf gn sc → W p l e (headSpec w_M_looked ({ frames := 3, cells := 0, slots := 0, locals := 66 })).room s m ([.ref h0, .int (nI sc)].toArray) below meth c s.heap [] 0 0 (MQ below (vp_Sl (fun r => r = vlkM dk hf gn rt sc)) ([.ref h0, .int (nI sc)].toArray) s 0 0 (fun _ => False)) (F0 m 42 ls []) := by
    intro f
    induction f with
    | zero =>
      intro k x ls hf0 hk16 hl hF
      have hF2 : x = rabove dk hf gn sc := hF
      refine lv_iload hx hb d_M_looked_42 (lv_at hl 3 rfl) ?_
      refine lv_iconst (v := nI 1) hx hb d_M_looked_44 (by decide) ?_
      refine lv_icmp_le (tgt := 116) hx hb d_M_looked_45 (by decide) (fun _ => ?_) (fun h9 => absurd ((nI_leI (by omega) (by omega)).mpr (by omega)) h9)
      refine lv_aload_n hx hb d_M_looked_116 rfl (lv_at hl 0 rfl) ?_
      refine lv_iload_n hx hb d_M_looked_117 rfl (lv_at hl 1 rfl) ?_
      refine lv_aload_n hx hb d_M_looked_118 rfl (lv_at hl 0 rfl) ?_
      refine va_get (D := (dC, dI)) (ci := 1) (v := .int gn) (C := R_M) (T := F_M) (N := 15) hx hb hts lay_M hown hK hP 0 rfl rfl 2 (by decide) (hts _ m_272) (fun _ h9 => h9) rfl d_M_looked_119 ?_
      refine vp_callSi (W.runV (C := R_M) (b := h0) (As := [.int (nI (51 * hf + 2 * sc)), .int gn]) (rest := []) ⟨hx, hb, hml, hown, hts⟩ (mc_clear l dC dI h0 qd qs qv qh qn cI cJ _ dk hf gn rt ct pw sl sm cu ln lk lq vq hs nd (51 * hf + 2 * sc) gn (by omega)) (cwV 2 hts g_M_83 rfl rfl rfl (by decide +kernel) ⟨(Nat.le_of_ble_eq_true rfl), (Nat.le_of_ble_eq_true rfl)⟩) (z_preV (va_recv (q0 := 0) hK hP rfl rfl) hP hK hD) rfl rfl hl.1 rfl (lv_room (Nat.le_of_ble_eq_true rfl)) d_M_looked_122 ⟨(Nat.le_of_ble_eq_true rfl), (Nat.le_of_ble_eq_true rfl)⟩) (fun r hr0 => ?_)
      subst hr0
      refine lv_istore hx hb d_M_looked_125 hl (by decide) rfl (fun ls hl => ?_)
      have hl : lv_has ls 6 [(4, .int (enc (dk (51 * hf + 2 * sc)) (nI (51 * hf + 2 * sc)) gn)), (0, .ref h0), (2, .int (nI (51 * hf + 2 * sc))), (3, .int x)] := hl
      refine lv_aload_n hx hb d_M_looked_127 rfl (lv_at hl 1 rfl) ?_
      refine lv_iload_n hx hb d_M_looked_128 rfl (lv_at hl 2 rfl) ?_
      refine lv_iconst (v := nI 1) hx hb d_M_looked_129 (by decide) ?_
      refine lv_iadd hx hb d_M_looked_130 ?_
      refine z_top (nI_add _ _) ?_
      refine lv_aload_n hx hb d_M_looked_131 rfl (lv_at hl 1 rfl) ?_
      refine va_get (D := (dC, dI)) (ci := 1) (v := .int gn) (C := R_M) (T := F_M) (N := 15) hx hb hts lay_M hown hK hP 0 rfl rfl 2 (by decide) (hts _ m_272) (fun _ h9 => h9) rfl d_M_looked_132 ?_
      refine vp_callSi (W.runV (C := R_M) (b := h0) (As := [.int (nI ((51 * hf + 2 * sc) + 1)), .int gn]) (rest := []) ⟨hx, hb, hml, hown, hts⟩ (mc_clear l dC dI h0 qd qs qv qh qn cI cJ _ dk hf gn rt ct pw sl sm cu ln lk lq vq hs nd ((51 * hf + 2 * sc) + 1) gn (by omega)) (cwV 2 hts g_M_83 rfl rfl rfl (by decide +kernel) ⟨(Nat.le_of_ble_eq_true rfl), (Nat.le_of_ble_eq_true rfl)⟩) (z_preV (va_recv (q0 := 0) hK hP rfl rfl) hP hK hD) rfl rfl hl.1 rfl (lv_room (Nat.le_of_ble_eq_true rfl)) d_M_looked_135 ⟨(Nat.le_of_ble_eq_true rfl), (Nat.le_of_ble_eq_true rfl)⟩) (fun r hr0 => ?_)
      subst hr0
      refine lv_istore hx hb d_M_looked_138 hl (by decide) rfl (fun ls hl => ?_)
      have hl : lv_has ls 6 [(5, .int (enc (dk ((51 * hf + 2 * sc) + 1)) (nI ((51 * hf + 2 * sc) + 1)) gn)), (4, .int (enc (dk (51 * hf + 2 * sc)) (nI (51 * hf + 2 * sc)) gn)), (0, .ref h0), (2, .int (nI (51 * hf + 2 * sc))), (3, .int x)] := hl
      refine lv_iload_n hx hb d_M_looked_140 rfl (lv_at hl 4 rfl) ?_
      refine lv_aload_n hx hb d_M_looked_141 rfl (lv_at hl 2 rfl) ?_
      refine va_get (D := (dC, dI)) (ci := 1) (v := .int rt) (C := R_M) (T := F_M) (N := 15) hx hb hts lay_M hown hK hP 0 rfl rfl 3 (by decide) (hts _ m_273) (fun _ h9 => h9) rfl d_M_looked_142 ?_
      refine lv_icmp_ne (tgt := 163) hx hb d_M_looked_145 (by decide) (fun h1 => ?_) (fun h1 => ?_)
      · refine lv_ldc2 (v := -1) hx hb hown (hts _ m_356) d_M_looked_163 ?_
        exact W.lret hx hb hr (fun t ht hW => ⟨_, rfl, (by unfold vlkM; rw [if_neg (fun q => h1 (hF2.trans q))]), ht⟩) (fun q h => by cases h) d_M_looked_166
      · refine lv_iload hx hb d_M_looked_148 (lv_at hl 1 rfl) ?_
        refine lv_if_lt (tgt := 163) hx hb d_M_looked_150 (by decide) (fun h2 => ?_) (fun h2 => ?_)
        · refine lv_ldc2 (v := -1) hx hb hown (hts _ m_356) d_M_looked_163 ?_
          exact W.lret hx hb hr (fun t ht hW => ⟨_, rfl, (by unfold vlkM; rw [if_pos (hF2.symm.trans h1), if_pos h2]), ht⟩) (fun q h => by cases h) d_M_looked_166
        · refine lv_iload hx hb d_M_looked_153 (lv_at hl 1 rfl) ?_
          refine lv_iload hx hb d_M_looked_155 (lv_at hl 0 rfl) ?_
          refine vp_callSl (W.runS (As := [.int (enc (dk (51 * hf + 2 * sc)) (nI (51 * hf + 2 * sc)) gn), .int (enc (dk ((51 * hf + 2 * sc) + 1)) (nI ((51 * hf + 2 * sc) + 1)) gn)]) (rest := []) ⟨hx, hb, hml, hown, hts⟩ (mc_joined l (enc (dk (51 * hf + 2 * sc)) (nI (51 * hf + 2 * sc)) gn) (enc (dk ((51 * hf + 2 * sc) + 1)) (nI ((51 * hf + 2 * sc) + 1)) gn)) (cwS 2 hts g_M_86 rfl rfl rfl (by decide +kernel) ⟨(Nat.le_of_ble_eq_true rfl), (Nat.le_of_ble_eq_true rfl)⟩) preEq rfl rfl hl.1 rfl (lv_room (Nat.le_of_ble_eq_true rfl)) d_M_looked_157 ⟨(Nat.le_of_ble_eq_true rfl), (Nat.le_of_ble_eq_true rfl)⟩) (fun r hr0 => ?_)
          subst hr0
          refine lv_goto (tgt := 166) hx hb d_M_looked_160 (by decide) ?_
          exact W.lret hx hb hr (fun t ht hW => ⟨_, rfl, (by unfold vlkM; rw [if_pos (hF2.symm.trans h1), if_neg h2]; rfl), ht⟩) (fun q h => by cases h) d_M_looked_166
    | succ f ih =>
      intro k x ls hf0 hk16 hl hF
      by_cases hk1 : k ≤ 1
      · have hF2 : x = rabove dk hf gn sc := by rw [← hF, rup, if_pos hk1]
        refine lv_iload hx hb d_M_looked_42 (lv_at hl 3 rfl) ?_
        refine lv_iconst (v := nI 1) hx hb d_M_looked_44 (by decide) ?_
        refine lv_icmp_le (tgt := 116) hx hb d_M_looked_45 (by decide) (fun _ => ?_) (fun h9 => absurd ((nI_leI (by omega) (by omega)).mpr hk1) h9)
        refine lv_aload_n hx hb d_M_looked_116 rfl (lv_at hl 0 rfl) ?_
        refine lv_iload_n hx hb d_M_looked_117 rfl (lv_at hl 1 rfl) ?_
        refine lv_aload_n hx hb d_M_looked_118 rfl (lv_at hl 0 rfl) ?_
        refine va_get (D := (dC, dI)) (ci := 1) (v := .int gn) (C := R_M) (T := F_M) (N := 15) hx hb hts lay_M hown hK hP 0 rfl rfl 2 (by decide) (hts _ m_272) (fun _ h9 => h9) rfl d_M_looked_119 ?_
        refine vp_callSi (W.runV (C := R_M) (b := h0) (As := [.int (nI (51 * hf + 2 * sc)), .int gn]) (rest := []) ⟨hx, hb, hml, hown, hts⟩ (mc_clear l dC dI h0 qd qs qv qh qn cI cJ _ dk hf gn rt ct pw sl sm cu ln lk lq vq hs nd (51 * hf + 2 * sc) gn (by omega)) (cwV 2 hts g_M_83 rfl rfl rfl (by decide +kernel) ⟨(Nat.le_of_ble_eq_true rfl), (Nat.le_of_ble_eq_true rfl)⟩) (z_preV (va_recv (q0 := 0) hK hP rfl rfl) hP hK hD) rfl rfl hl.1 rfl (lv_room (Nat.le_of_ble_eq_true rfl)) d_M_looked_122 ⟨(Nat.le_of_ble_eq_true rfl), (Nat.le_of_ble_eq_true rfl)⟩) (fun r hr0 => ?_)
        subst hr0
        refine lv_istore hx hb d_M_looked_125 hl (by decide) rfl (fun ls hl => ?_)
        have hl : lv_has ls 6 [(4, .int (enc (dk (51 * hf + 2 * sc)) (nI (51 * hf + 2 * sc)) gn)), (0, .ref h0), (2, .int (nI (51 * hf + 2 * sc))), (3, .int x)] := hl
        refine lv_aload_n hx hb d_M_looked_127 rfl (lv_at hl 1 rfl) ?_
        refine lv_iload_n hx hb d_M_looked_128 rfl (lv_at hl 2 rfl) ?_
        refine lv_iconst (v := nI 1) hx hb d_M_looked_129 (by decide) ?_
        refine lv_iadd hx hb d_M_looked_130 ?_
        refine z_top (nI_add _ _) ?_
        refine lv_aload_n hx hb d_M_looked_131 rfl (lv_at hl 1 rfl) ?_
        refine va_get (D := (dC, dI)) (ci := 1) (v := .int gn) (C := R_M) (T := F_M) (N := 15) hx hb hts lay_M hown hK hP 0 rfl rfl 2 (by decide) (hts _ m_272) (fun _ h9 => h9) rfl d_M_looked_132 ?_
        refine vp_callSi (W.runV (C := R_M) (b := h0) (As := [.int (nI ((51 * hf + 2 * sc) + 1)), .int gn]) (rest := []) ⟨hx, hb, hml, hown, hts⟩ (mc_clear l dC dI h0 qd qs qv qh qn cI cJ _ dk hf gn rt ct pw sl sm cu ln lk lq vq hs nd ((51 * hf + 2 * sc) + 1) gn (by omega)) (cwV 2 hts g_M_83 rfl rfl rfl (by decide +kernel) ⟨(Nat.le_of_ble_eq_true rfl), (Nat.le_of_ble_eq_true rfl)⟩) (z_preV (va_recv (q0 := 0) hK hP rfl rfl) hP hK hD) rfl rfl hl.1 rfl (lv_room (Nat.le_of_ble_eq_true rfl)) d_M_looked_135 ⟨(Nat.le_of_ble_eq_true rfl), (Nat.le_of_ble_eq_true rfl)⟩) (fun r hr0 => ?_)
        subst hr0
        refine lv_istore hx hb d_M_looked_138 hl (by decide) rfl (fun ls hl => ?_)
        have hl : lv_has ls 6 [(5, .int (enc (dk ((51 * hf + 2 * sc) + 1)) (nI ((51 * hf + 2 * sc) + 1)) gn)), (4, .int (enc (dk (51 * hf + 2 * sc)) (nI (51 * hf + 2 * sc)) gn)), (0, .ref h0), (2, .int (nI (51 * hf + 2 * sc))), (3, .int x)] := hl
        refine lv_iload_n hx hb d_M_looked_140 rfl (lv_at hl 4 rfl) ?_
        refine lv_aload_n hx hb d_M_looked_141 rfl (lv_at hl 2 rfl) ?_
        refine va_get (D := (dC, dI)) (ci := 1) (v := .int rt) (C := R_M) (T := F_M) (N := 15) hx hb hts lay_M hown hK hP 0 rfl rfl 3 (by decide) (hts _ m_273) (fun _ h9 => h9) rfl d_M_looked_142 ?_
        refine lv_icmp_ne (tgt := 163) hx hb d_M_looked_145 (by decide) (fun h3 => ?_) (fun h3 => ?_)
        · refine lv_ldc2 (v := -1) hx hb hown (hts _ m_356) d_M_looked_163 ?_
          exact W.lret hx hb hr (fun t ht hW => ⟨_, rfl, (by unfold vlkM; rw [if_neg (fun q => h3 (hF2.trans q))]), ht⟩) (fun q h => by cases h) d_M_looked_166
        · refine lv_iload hx hb d_M_looked_148 (lv_at hl 1 rfl) ?_
          refine lv_if_lt (tgt := 163) hx hb d_M_looked_150 (by decide) (fun h4 => ?_) (fun h4 => ?_)
          · refine lv_ldc2 (v := -1) hx hb hown (hts _ m_356) d_M_looked_163 ?_
            exact W.lret hx hb hr (fun t ht hW => ⟨_, rfl, (by unfold vlkM; rw [if_pos (hF2.symm.trans h3), if_pos h4]), ht⟩) (fun q h => by cases h) d_M_looked_166
          · refine lv_iload hx hb d_M_looked_153 (lv_at hl 1 rfl) ?_
            refine lv_iload hx hb d_M_looked_155 (lv_at hl 0 rfl) ?_
            refine vp_callSl (W.runS (As := [.int (enc (dk (51 * hf + 2 * sc)) (nI (51 * hf + 2 * sc)) gn), .int (enc (dk ((51 * hf + 2 * sc) + 1)) (nI ((51 * hf + 2 * sc) + 1)) gn)]) (rest := []) ⟨hx, hb, hml, hown, hts⟩ (mc_joined l (enc (dk (51 * hf + 2 * sc)) (nI (51 * hf + 2 * sc)) gn) (enc (dk ((51 * hf + 2 * sc) + 1)) (nI ((51 * hf + 2 * sc) + 1)) gn)) (cwS 2 hts g_M_86 rfl rfl rfl (by decide +kernel) ⟨(Nat.le_of_ble_eq_true rfl), (Nat.le_of_ble_eq_true rfl)⟩) preEq rfl rfl hl.1 rfl (lv_room (Nat.le_of_ble_eq_true rfl)) d_M_looked_157 ⟨(Nat.le_of_ble_eq_true rfl), (Nat.le_of_ble_eq_true rfl)⟩) (fun r hr0 => ?_)
            subst hr0
            refine lv_goto (tgt := 166) hx hb d_M_looked_160 (by decide) ?_
            exact W.lret hx hb hr (fun t ht hW => ⟨_, rfl, (by unfold vlkM; rw [if_pos (hF2.symm.trans h3), if_neg h4]; rfl), ht⟩) (fun q h => by cases h) d_M_looked_166
      · by_cases hpar : k % 2 = 0
        · refine lv_iload hx hb d_M_looked_42 (lv_at hl 3 rfl) ?_
          refine lv_iconst (v := nI 1) hx hb d_M_looked_44 (by decide) ?_
          refine lv_icmp_le (tgt := 116) hx hb d_M_looked_45 (by decide) (fun h9 => absurd h9 (fun q => hk1 ((nI_leI (by omega) (by omega)).mp q))) (fun _ => ?_)
          refine lv_aload_n hx hb d_M_looked_48 rfl (lv_at hl 0 rfl) ?_
          refine va_get (D := (dC, dI)) (ci := 1) (v := .ref qd) (C := R_M) (T := F_M) (N := 15) hx hb hts lay_M hown hK hP 0 rfl rfl 0 (by decide) (hts _ m_270) (fun _ h9 => h9) rfl d_M_looked_49 ?_
          refine lv_bipush (v := nI 51) hx hb d_M_looked_52 (by decide) ?_
          refine lv_aload_n hx hb d_M_looked_54 rfl (lv_at hl 0 rfl) ?_
          refine va_get (D := (dC, dI)) (ci := 1) (v := .int (nI hf)) (C := R_M) (T := F_M) (N := 15) hx hb hts lay_M hown hK hP 0 rfl rfl 1 (by decide) (hts _ m_271) (fun _ h9 => h9) rfl d_M_looked_55 ?_
          refine lv_imul hx hb d_M_looked_58 ?_
          refine z_top (pk_mul _ _) ?_
          refine lv_bipush (v := nI 15) hx hb d_M_looked_59 (by decide) ?_
          refine lv_iadd hx hb d_M_looked_61 ?_
          refine z_top (nI_add _ _) ?_
          refine lv_iload hx hb d_M_looked_62 (lv_at hl 3 rfl) ?_
          refine lv_iconst (v := nI 2) hx hb d_M_looked_64 (by decide) ?_
          refine lv_irem hx hb d_M_looked_65 (by decide) ?_
          refine z_top (pk_rem (by omega) (by decide) (by decide)) ?_
          refine lv_if_ne (tgt := 76) hx hb d_M_looked_66 (by decide) (fun h9 => absurd (by rw [hpar]; rfl) h9) (fun _ => ?_)
          refine lv_iload hx hb d_M_looked_69 (lv_at hl 3 rfl) ?_
          refine lv_iconst (v := nI 1) hx hb d_M_looked_71 (by decide) ?_
          refine lv_iadd hx hb d_M_looked_72 ?_
          refine z_top (nI_add _ _) ?_
          refine lv_goto (tgt := 80) hx hb d_M_looked_73 (by decide) ?_
          refine lv_iadd hx hb d_M_looked_80 ?_
          refine z_top (nI_add _ _) ?_
          refine z_iald hx hb hK hP 1 0 rfl rfl (by omega) (by decide) d_M_looked_81 ?_
          refine lv_istore hx hb d_M_looked_82 hl (by decide) rfl (fun ls hl => ?_)
          have hl : lv_has ls 6 [(5, .int (dk (((51 * hf) + 15) + (k + 1)))), (0, .ref h0), (2, .int (nI (51 * hf + 2 * sc))), (3, .int x), (4, .int (nI k))] := hl
          refine lv_iload hx hb d_M_looked_84 (lv_at hl 4 rfl) ?_
          refine lv_iconst (v := nI 2) hx hb d_M_looked_86 (by decide) ?_
          refine lv_irem hx hb d_M_looked_87 (by decide) ?_
          refine z_top (pk_rem (by omega) (by decide) (by decide)) ?_
          refine lv_if_ne (tgt := 100) hx hb d_M_looked_88 (by decide) (fun h9 => absurd (by rw [hpar]; rfl) h9) (fun _ => ?_)
          refine lv_iload_n hx hb d_M_looked_91 rfl (lv_at hl 3 rfl) ?_
          refine lv_iload hx hb d_M_looked_92 (lv_at hl 0 rfl) ?_
          refine vp_callSi (W.runS (As := [.int x, .int (dk (((51 * hf) + 15) + (k + 1)))]) (rest := []) ⟨hx, hb, hml, hown, hts⟩ (mc_digest l x (dk (((51 * hf) + 15) + (k + 1)))) (cwS 2 hts g_M_47 rfl rfl rfl (by decide +kernel) ⟨(Nat.le_of_ble_eq_true rfl), (Nat.le_of_ble_eq_true rfl)⟩) preEq rfl rfl hl.1 rfl (lv_room (Nat.le_of_ble_eq_true rfl)) d_M_looked_94 ⟨(Nat.le_of_ble_eq_true rfl), (Nat.le_of_ble_eq_true rfl)⟩) (fun r hr0 => ?_)
          subst hr0
          refine lv_goto (tgt := 106) hx hb d_M_looked_97 (by decide) ?_
          refine lv_istore_n hx hb d_M_looked_106 rfl hl (by decide) rfl (fun ls hl => ?_)
          have hl : lv_has ls 6 [(3, .int (dg x (dk (((51 * hf) + 15) + (k + 1))))), (5, .int (dk (((51 * hf) + 15) + (k + 1)))), (0, .ref h0), (2, .int (nI (51 * hf + 2 * sc))), (4, .int (nI k))] := hl
          refine lv_iload hx hb d_M_looked_107 (lv_at hl 4 rfl) ?_
          refine lv_iconst (v := nI 2) hx hb d_M_looked_109 (by decide) ?_
          refine lv_idiv hx hb d_M_looked_110 (by decide) ?_
          refine z_top (pk_div (by omega) (by decide) (by decide)) ?_
          refine lv_istore hx hb d_M_looked_111 hl (by decide) rfl (fun ls hl => ?_)
          have hl : lv_has ls 6 [(4, .int (nI (k / 2))), (3, .int (dg x (dk (((51 * hf) + 15) + (k + 1))))), (5, .int (dk (((51 * hf) + 15) + (k + 1)))), (0, .ref h0), (2, .int (nI (51 * hf + 2 * sc)))] := hl
          refine lv_goto (tgt := 42) hx hb d_M_looked_113 (by decide) ?_
          exact ih (k / 2) _ ls (by omega) (by omega) (lv_sub hl [3, 4, 1, 0] rfl) (by rw [← hF, rup, if_neg hk1, if_pos hpar, (z_x1 k hk16).1 hpar])
        · refine lv_iload hx hb d_M_looked_42 (lv_at hl 3 rfl) ?_
          refine lv_iconst (v := nI 1) hx hb d_M_looked_44 (by decide) ?_
          refine lv_icmp_le (tgt := 116) hx hb d_M_looked_45 (by decide) (fun h9 => absurd h9 (fun q => hk1 ((nI_leI (by omega) (by omega)).mp q))) (fun _ => ?_)
          refine lv_aload_n hx hb d_M_looked_48 rfl (lv_at hl 0 rfl) ?_
          refine va_get (D := (dC, dI)) (ci := 1) (v := .ref qd) (C := R_M) (T := F_M) (N := 15) hx hb hts lay_M hown hK hP 0 rfl rfl 0 (by decide) (hts _ m_270) (fun _ h9 => h9) rfl d_M_looked_49 ?_
          refine lv_bipush (v := nI 51) hx hb d_M_looked_52 (by decide) ?_
          refine lv_aload_n hx hb d_M_looked_54 rfl (lv_at hl 0 rfl) ?_
          refine va_get (D := (dC, dI)) (ci := 1) (v := .int (nI hf)) (C := R_M) (T := F_M) (N := 15) hx hb hts lay_M hown hK hP 0 rfl rfl 1 (by decide) (hts _ m_271) (fun _ h9 => h9) rfl d_M_looked_55 ?_
          refine lv_imul hx hb d_M_looked_58 ?_
          refine z_top (pk_mul _ _) ?_
          refine lv_bipush (v := nI 15) hx hb d_M_looked_59 (by decide) ?_
          refine lv_iadd hx hb d_M_looked_61 ?_
          refine z_top (nI_add _ _) ?_
          refine lv_iload hx hb d_M_looked_62 (lv_at hl 3 rfl) ?_
          refine lv_iconst (v := nI 2) hx hb d_M_looked_64 (by decide) ?_
          refine lv_irem hx hb d_M_looked_65 (by decide) ?_
          refine z_top (pk_rem (by omega) (by decide) (by decide)) ?_
          refine lv_if_ne (tgt := 76) hx hb d_M_looked_66 (by decide) (fun _ => ?_) (fun h9 => absurd h9 (fun q => hpar ((nI_eq (b := 0) (by omega) (by omega)).mp q)))
          refine lv_iload hx hb d_M_looked_76 (lv_at hl 3 rfl) ?_
          refine lv_iconst (v := nI 1) hx hb d_M_looked_78 (by decide) ?_
          refine lv_isub hx hb d_M_looked_79 ?_
          refine z_top (pk_sub (by omega)) ?_
          refine lv_iadd hx hb d_M_looked_80 ?_
          refine z_top (nI_add _ _) ?_
          refine z_iald hx hb hK hP 1 0 rfl rfl (by omega) (by decide) d_M_looked_81 ?_
          refine lv_istore hx hb d_M_looked_82 hl (by decide) rfl (fun ls hl => ?_)
          have hl : lv_has ls 6 [(5, .int (dk (((51 * hf) + 15) + (k - 1)))), (0, .ref h0), (2, .int (nI (51 * hf + 2 * sc))), (3, .int x), (4, .int (nI k))] := hl
          refine lv_iload hx hb d_M_looked_84 (lv_at hl 4 rfl) ?_
          refine lv_iconst (v := nI 2) hx hb d_M_looked_86 (by decide) ?_
          refine lv_irem hx hb d_M_looked_87 (by decide) ?_
          refine z_top (pk_rem (by omega) (by decide) (by decide)) ?_
          refine lv_if_ne (tgt := 100) hx hb d_M_looked_88 (by decide) (fun _ => ?_) (fun h9 => absurd h9 (fun q => hpar ((nI_eq (b := 0) (by omega) (by omega)).mp q)))
          refine lv_iload hx hb d_M_looked_100 (lv_at hl 0 rfl) ?_
          refine lv_iload_n hx hb d_M_looked_102 rfl (lv_at hl 3 rfl) ?_
          refine vp_callSi (W.runS (As := [.int (dk (((51 * hf) + 15) + (k - 1))), .int x]) (rest := []) ⟨hx, hb, hml, hown, hts⟩ (mc_digest l (dk (((51 * hf) + 15) + (k - 1))) x) (cwS 2 hts g_M_47 rfl rfl rfl (by decide +kernel) ⟨(Nat.le_of_ble_eq_true rfl), (Nat.le_of_ble_eq_true rfl)⟩) preEq rfl rfl hl.1 rfl (lv_room (Nat.le_of_ble_eq_true rfl)) d_M_looked_103 ⟨(Nat.le_of_ble_eq_true rfl), (Nat.le_of_ble_eq_true rfl)⟩) (fun r hr0 => ?_)
          subst hr0
          refine lv_istore_n hx hb d_M_looked_106 rfl hl (by decide) rfl (fun ls hl => ?_)
          have hl : lv_has ls 6 [(3, .int (dg (dk (((51 * hf) + 15) + (k - 1))) x)), (5, .int (dk (((51 * hf) + 15) + (k - 1)))), (0, .ref h0), (2, .int (nI (51 * hf + 2 * sc))), (4, .int (nI k))] := hl
          refine lv_iload hx hb d_M_looked_107 (lv_at hl 4 rfl) ?_
          refine lv_iconst (v := nI 2) hx hb d_M_looked_109 (by decide) ?_
          refine lv_idiv hx hb d_M_looked_110 (by decide) ?_
          refine z_top (pk_div (by omega) (by decide) (by decide)) ?_
          refine lv_istore hx hb d_M_looked_111 hl (by decide) rfl (fun ls hl => ?_)
          have hl : lv_has ls 6 [(4, .int (nI (k / 2))), (3, .int (dg (dk (((51 * hf) + 15) + (k - 1))) x)), (5, .int (dk (((51 * hf) + 15) + (k - 1)))), (0, .ref h0), (2, .int (nI (51 * hf + 2 * sc)))] := hl
          refine lv_goto (tgt := 42) hx hb d_M_looked_113 (by decide) ?_
          exact ih (k / 2) _ ls (by omega) (by omega) (lv_sub hl [3, 4, 1, 0] rfl) (by rw [← hF, rup, if_neg hk1, if_neg hpar, (z_x1 k hk16).2 hpar])
  refine lv_bipush (v := nI 51) hx hb d_M_looked_0 (by decide) ?_
  refine lv_aload_n hx hb d_M_looked_2 rfl (lv_at hl 0 rfl) ?_
  refine va_get (D := (dC, dI)) (ci := 1) (v := .int (nI hf)) (C := R_M) (T := F_M) (N := 15) hx hb hts lay_M hown hK hP 0 rfl rfl 1 (by decide) (hts _ m_271) (fun _ h9 => h9) rfl d_M_looked_3 ?_
  refine lv_imul hx hb d_M_looked_6 ?_
  refine z_top (pk_mul _ _) ?_
  refine lv_iconst (v := nI 2) hx hb d_M_looked_7 (by decide) ?_
  refine lv_iload_n hx hb d_M_looked_8 rfl (lv_at hl 1 rfl) ?_
  refine lv_imul hx hb d_M_looked_9 ?_
  refine z_top (pk_mul _ _) ?_
  refine lv_iadd hx hb d_M_looked_10 ?_
  refine z_top (nI_add _ _) ?_
  refine lv_istore_n hx hb d_M_looked_11 rfl hl (by decide) rfl (fun ls hl => ?_)
  have hl : lv_has ls 6 [(2, .int (nI ((51 * hf) + (2 * sc)))), (0, .ref h0), (1, .int (nI sc))] := hl
  refine lv_aload_n hx hb d_M_looked_12 rfl (lv_at hl 1 rfl) ?_
  refine lv_iload_n hx hb d_M_looked_13 rfl (lv_at hl 2 rfl) ?_
  refine lv_aload_n hx hb d_M_looked_14 rfl (lv_at hl 1 rfl) ?_
  refine va_get (D := (dC, dI)) (ci := 1) (v := .int gn) (C := R_M) (T := F_M) (N := 15) hx hb hts lay_M hown hK hP 0 rfl rfl 2 (by decide) (hts _ m_272) (fun _ h9 => h9) rfl d_M_looked_15 ?_
  refine lv_aload_n hx hb d_M_looked_18 rfl (lv_at hl 1 rfl) ?_
  refine va_get (D := (dC, dI)) (ci := 1) (v := .ref qd) (C := R_M) (T := F_M) (N := 15) hx hb hts lay_M hown hK hP 0 rfl rfl 0 (by decide) (hts _ m_270) (fun _ h9 => h9) rfl d_M_looked_19 ?_
  refine lv_iload_n hx hb d_M_looked_22 rfl (lv_at hl 0 rfl) ?_
  refine z_iald hx hb hK hP 1 0 rfl rfl (by omega) (by decide) d_M_looked_23 ?_
  refine lv_aload_n hx hb d_M_looked_24 rfl (lv_at hl 1 rfl) ?_
  refine va_get (D := (dC, dI)) (ci := 1) (v := .ref qd) (C := R_M) (T := F_M) (N := 15) hx hb hts lay_M hown hK hP 0 rfl rfl 0 (by decide) (hts _ m_270) (fun _ h9 => h9) rfl d_M_looked_25 ?_
  refine lv_iload_n hx hb d_M_looked_28 rfl (lv_at hl 0 rfl) ?_
  refine lv_iconst (v := nI 1) hx hb d_M_looked_29 (by decide) ?_
  refine lv_iadd hx hb d_M_looked_30 ?_
  refine z_top (nI_add _ _) ?_
  refine z_iald hx hb hK hP 1 0 rfl rfl (by omega) (by decide) d_M_looked_31 ?_
  refine vp_callSi (W.runV (C := R_M) (b := h0) (As := [.int (nI sc), .int gn, .int (dk ((51 * hf) + (2 * sc))), .int (dk (((51 * hf) + (2 * sc)) + 1))]) (rest := []) ⟨hx, hb, hml, hown, hts⟩ (mc_leaf l dC dI h0 qd qs qv qh qn cI cJ _ dk hf gn rt ct pw sl sm cu ln lk lq vq hs nd (nI sc) gn (dk ((51 * hf) + (2 * sc))) (dk (((51 * hf) + (2 * sc)) + 1))) (cwV 4 hts g_M_52 rfl rfl rfl (by decide +kernel) ⟨(Nat.le_of_ble_eq_true rfl), (Nat.le_of_ble_eq_true rfl)⟩) (z_preV (va_recv (q0 := 0) hK hP rfl rfl) hP hK hD) rfl rfl hl.1 rfl (lv_room (Nat.le_of_ble_eq_true rfl)) d_M_looked_32 ⟨(Nat.le_of_ble_eq_true rfl), (Nat.le_of_ble_eq_true rfl)⟩) (fun r hr0 => ?_)
  subst hr0
  refine lv_istore_n hx hb d_M_looked_35 rfl hl (by decide) rfl (fun ls hl => ?_)
  have hl : lv_has ls 6 [(3, .int (dg (dg (8 * gn + (nI sc)) (dk ((51 * hf) + (2 * sc)))) (dk (((51 * hf) + (2 * sc)) + 1)))), (2, .int (nI ((51 * hf) + (2 * sc)))), (0, .ref h0), (1, .int (nI sc))] := hl
  refine lv_bipush (v := nI 8) hx hb d_M_looked_36 (by decide) ?_
  refine lv_iload_n hx hb d_M_looked_38 rfl (lv_at hl 3 rfl) ?_
  refine lv_iadd hx hb d_M_looked_39 ?_
  refine z_top (nI_add _ _) ?_
  refine lv_istore hx hb d_M_looked_40 hl (by decide) rfl (fun ls hl => ?_)
  have hl : lv_has ls 6 [(4, .int (nI (8 + sc))), (3, .int (dg (dg (8 * gn + (nI sc)) (dk ((51 * hf) + (2 * sc)))) (dk (((51 * hf) + (2 * sc)) + 1)))), (2, .int (nI ((51 * hf) + (2 * sc)))), (0, .ref h0), (1, .int (nI sc))] := hl
  exact loop 16 (8 + sc) _ ls (by omega) (by omega) (lv_sub hl [3, 2, 1, 0] rfl) (by unfold rabove; rw [due_leaf])
set_option maxHeartbeats 4000000 in
set_option maxRecDepth 100000 in
theorem mc_value (l : Launch) (dC : Nat → ClassId) (dI : Nat → Nat → Nat) (h0 qd qs qv qh qn : Nat) (cI cJ : ClassId) (sz : Nat) (dk : Nat → Int32) (hf : Nat) (gn : Int32) (rt : Int32) (ct : Int32) (pw : Bool) (sl : Int32) (sm : Int32) (cu : Bool) (ln : Nat) (lk : Int32) (lq : Nat → Int32) (vq : Nat → Int64) (hs : Nat → Int64) (nd : Nat → Int32) (sc : Nat) (h_f : hf < 2) (h_n : ln ≤ 5) (h_s : sc < 8) : Met l y_M_value w_M_value ({ frames := 4, cells := 0, slots := 0, locals := 91 }) (va_Pc [.ref h0, .int (nI sc)] (z_pre (dC, dI) classes [(cI, .int), (cJ, .long)] (Mw h0 qd qs qv qh qn cI cJ (dk, hf, gn, rt, ct, pw, sl, sm, cu, ln, lk, lq, vq, hs, nd)) sz)) (vp_Sl (fun r => r = vofM dk hf gn rt ln lq vq sc)) 0 0 (fun _ => False) := by
  refine Met.ofW (cc := b_M_value) (maxL := 3) (ret := (some .long)) (by decide) rfl ?_
  intro p e s m args below meth c s₁ B hml hv
  obtain ⟨rfl, hsz, hP, hK, hD0⟩ := hv
  have hx := B.exec
  have hb := B.bytes
  have hr := B.returns
  have hts := fun (w : Cond) (h : w ∈ lw_U) => atoms_spec (ws := w_M_value) B.pre w (List.mem_cons_of_mem _ h)
  have hown : s.vm.findClass R_M = some m.cls := findClass_of_methodNamed B.named
  have hlocks := B.notSynchronized
  subst hsz
  have hD := hD0
  have hl := lv_entry ([.ref h0, .int (nI sc)]) (n := 3) (Nat.le_of_ble_eq_true rfl)
  rw [lg_entry_eq]
  generalize (lg_sl ([.ref h0, .int (nI sc)]) ++ List.replicate (3 - (lg_sl ([.ref h0, .int (nI sc)])).length) Slot.unset).toArray = ls at hl ⊢
  have hl : lv_has ls 3 [(0, .ref h0), (1, .int (nI sc))] := hl
  have loop : ∀ (i : Nat) (ls : Array Slot), i ≤ ln → lv_has ls 3 [(0, .ref h0), (1, .int (nI sc)), (2, .int (nI i - 1))] → lkp lq vq (nI sc) i = lkp lq vq (nI sc) ln → W p l e (headSpec w_M_value ({ frames := 4, cells := 0, slots := 0, locals := 91 })).room s m ([.ref h0, .int (nI sc)].toArray) below meth c s.heap [] 0 0 (MQ below (vp_Sl (fun r => r = vofM dk hf gn rt ln lq vq sc)) ([.ref h0, .int (nI sc)].toArray) s 0 0 (fun _ => False)) (F0 m 7 ls []) := by
    intro i
    induction i with
    | zero =>
      intro ls hi hl hF
      refine lv_iload_n hx hb d_M_value_7 rfl (lv_at hl 2 rfl) ?_
      refine lv_if_lt (tgt := 34) hx hb d_M_value_8 (by decide) (fun _ => ?_) (fun h9 => absurd (by decide) h9)
      refine lv_aload_n hx hb d_M_value_34 rfl (lv_at hl 0 rfl) ?_
      refine lv_iload_n hx hb d_M_value_35 rfl (lv_at hl 1 rfl) ?_
      refine vp_callSl (W.runV (C := R_M) (b := h0) (As := [.int (nI sc)]) (rest := []) ⟨hx, hb, hml, hown, hts⟩ (mc_looked l dC dI h0 qd qs qv qh qn cI cJ _ dk hf gn rt ct pw sl sm cu ln lk lq vq hs nd sc (by omega) (by omega)) (cwV 1 hts g_M_106 rfl rfl rfl (by decide +kernel) ⟨(Nat.le_of_ble_eq_true rfl), (Nat.le_of_ble_eq_true rfl)⟩) (z_preV (va_recv (q0 := 0) hK hP rfl rfl) hP hK hD) rfl rfl hl.1 rfl (lv_room (Nat.le_of_ble_eq_true rfl)) d_M_value_36 ⟨(Nat.le_of_ble_eq_true rfl), (Nat.le_of_ble_eq_true rfl)⟩) (fun r hr0 => ?_)
      subst hr0
      exact W.lret hx hb hr (fun t ht hW => ⟨_, rfl, (by unfold vofM; rw [← hF, lkp]), ht⟩) (fun q h => by cases h) d_M_value_39
    | succ i ih =>
      intro ls hi hl hF
      rw [nI_pred] at hl
      refine lv_iload_n hx hb d_M_value_7 rfl (lv_at hl 2 rfl) ?_
      refine lv_if_lt (tgt := 34) hx hb d_M_value_8 (by decide) (fun h9 => absurd h9 (nI_pos (by omega))) (fun _ => ?_)
      refine lv_aload_n hx hb d_M_value_11 rfl (lv_at hl 0 rfl) ?_
      refine va_get (D := (dC, dI)) (ci := 1) (v := .ref qs) (C := R_M) (T := F_M) (N := 15) hx hb hts lay_M hown hK hP 0 rfl rfl 11 (by decide) (hts _ m_281) (fun _ h9 => h9) rfl d_M_value_12 ?_
      refine lv_iload_n hx hb d_M_value_15 rfl (lv_at hl 2 rfl) ?_
      refine z_iald hx hb hK hP 2 0 rfl rfl (by omega) (by decide) d_M_value_16 ?_
      refine lv_iload_n hx hb d_M_value_17 rfl (lv_at hl 1 rfl) ?_
      refine lv_icmp_ne (tgt := 28) hx hb d_M_value_18 (by decide) (fun h1 => ?_) (fun h1 => ?_)
      · refine lv_iinc (k := 2) hx hb d_M_value_28 hl rfl (z_dm _) (by decide) rfl (fun ls hl => ?_)
        have hl : lv_has ls 3 [(2, .int (nI i - 1)), (0, .ref h0), (1, .int (nI sc))] := hl
        refine lv_goto (tgt := 7) hx hb d_M_value_31 (by decide) ?_
        exact ih ls (by omega) (lv_sub hl [1, 2, 0] rfl) (by rw [← hF, lkp, if_neg h1])
      · refine lv_aload_n hx hb d_M_value_21 rfl (lv_at hl 0 rfl) ?_
        refine va_get (D := (dC, dI)) (ci := 1) (v := .ref qv) (C := R_M) (T := F_M) (N := 15) hx hb hts lay_M hown hK hP 0 rfl rfl 12 (by decide) (hts _ m_282) (fun _ h9 => h9) rfl d_M_value_22 ?_
        refine lv_iload_n hx hb d_M_value_25 rfl (lv_at hl 2 rfl) ?_
        refine z_lald hx hb hK hP 3 1 rfl rfl (by omega) (by decide) d_M_value_26 ?_
        exact W.lret hx hb hr (fun t ht hW => ⟨_, rfl, (by unfold vofM; rw [← hF, lkp, if_pos h1]), ht⟩) (fun q h => by cases h) d_M_value_27
  refine lv_aload_n hx hb d_M_value_0 rfl (lv_at hl 0 rfl) ?_
  refine va_get (D := (dC, dI)) (ci := 1) (v := .int (nI ln)) (C := R_M) (T := F_M) (N := 15) hx hb hts lay_M hown hK hP 0 rfl rfl 9 (by decide) (hts _ m_279) (fun _ h9 => h9) rfl d_M_value_1 ?_
  refine lv_iconst (v := (1 : Int32)) hx hb d_M_value_4 (by decide) ?_
  refine lv_isub hx hb d_M_value_5 ?_
  refine z_top rfl ?_
  refine lv_istore_n hx hb d_M_value_6 rfl hl (by decide) rfl (fun ls hl => ?_)
  have hl : lv_has ls 3 [(2, .int (nI ln - 1)), (0, .ref h0), (1, .int (nI sc))] := hl
  exact loop ln ls (Nat.le_refl _) (lv_sub hl [1, 2, 0] rfl) rfl
