set_option maxHeartbeats 4000000 in
set_option maxRecDepth 100000 in
theorem c_dueNode (l : Launch) (dC : Nat → ClassId) (dI : Nat → Nat → Nat) (h0 qd qs qv : Nat) (cI cJ : ClassId) (sz : Nat) (dk : Nat → Int32) (hf : Nat) (gn : Int32) (rt : Int32) (ct : Int32) (sl : Int32) (sm : Int32) (pw : Bool) (ln : Nat) (lq : Nat → Int32) (vq : Nat → Int64) (ch : Int32) (hh kk : Nat) (g0 : Int32) (h_h : hh < 2) (h_k : kk < 16) : Met l y_X_dueNode w_X_dueNode ({ frames := 1, cells := 0, slots := 0, locals := 22 }) (va_Pc [.ref h0, .int (nI hh), .int (nI kk), .int g0] (z_pre (dC, dI) classes [(cI, .int), (cJ, .long)] (Xw h0 qd qs qv cI cJ (dk, hf, gn, rt, ct, sl, sm, pw, ln, lq, vq, ch)) sz)) (vp_Si (fun r => r = due dk hh kk g0)) 0 0 (fun _ => False) := by
  refine Met.ofW (cc := b_X_dueNode) (maxL := 6) (ret := (some .int)) (by decide) rfl ?_
  intro p e s m args below meth c s₁ B hml hv
  obtain ⟨rfl, hsz, hP, hK, hD0⟩ := hv
  have hx := B.exec
  have hb := B.bytes
  have hr := B.returns
  have hts := fun (w : Cond) (h : w ∈ lw_U) => atoms_spec (ws := w_X_dueNode) B.pre w (List.mem_cons_of_mem _ h)
  have hown : s.vm.findClass R_X = some m.cls := findClass_of_methodNamed B.named
  have hlocks := B.notSynchronized
  subst hsz
  have hD := hD0
  have hl := lv_entry ([.ref h0, .int (nI hh), .int (nI kk), .int g0]) (n := 6) (Nat.le_of_ble_eq_true rfl)
  rw [lg_entry_eq]
  generalize (lg_sl ([.ref h0, .int (nI hh), .int (nI kk), .int g0]) ++ List.replicate (6 - (lg_sl ([.ref h0, .int (nI hh), .int (nI kk), .int g0])).length) Slot.unset).toArray = ls at hl ⊢
  have hl : lv_has ls 6 [(0, .ref h0), (1, .int (nI hh)), (2, .int (nI kk)), (3, .int g0)] := hl
  refine lv_iload_n hx hb d_X_dueNode_0 rfl (lv_at hl 2 rfl) ?_
  refine lv_bipush (v := nI 8) hx hb d_X_dueNode_1 (by decide) ?_
  refine lv_icmp_lt (tgt := 50) hx hb d_X_dueNode_3 (by decide) (fun h1 => ?_) (fun h1 => ?_)
  · have h1 : kk < 8 := (nI_ltI (by omega) (by omega)).mp h1
    refine lv_aload_n hx hb d_X_dueNode_50 rfl (lv_at hl 0 rfl) ?_
    refine va_get (D := (dC, dI)) (ci := 0) (v := .ref qd) (C := R_X) (T := F_X) (N := 12) hx hb hts lay_X hown hK hP 0 rfl rfl 0 (by decide) (hts _ m_62) (fun _ h9 => h9) rfl d_X_dueNode_51 ?_
    refine lv_iload_n hx hb d_X_dueNode_54 rfl (lv_at hl 1 rfl) ?_
    refine lv_iconst (v := nI 2) hx hb d_X_dueNode_55 (by decide) ?_
    refine lv_iload_n hx hb d_X_dueNode_56 rfl (lv_at hl 2 rfl) ?_
    refine lv_imul hx hb d_X_dueNode_57 ?_
    refine z_top (pk_mul _ _) ?_
    refine vp_callSi (W.runS (As := [.int (nI hh), .int (nI (2 * kk))]) (rest := [.ref qd]) ⟨hx, hb, hml, hown, hts⟩ (c_nodePlace l hh (2 * kk)) (cwS 2 hts g_X_31 rfl rfl rfl (by decide +kernel) ⟨(Nat.le_of_ble_eq_true rfl), (Nat.le_of_ble_eq_true rfl)⟩) preEq rfl rfl hl.1 rfl (lv_room (Nat.le_of_ble_eq_true rfl)) d_X_dueNode_58 ⟨(Nat.le_of_ble_eq_true rfl), (Nat.le_of_ble_eq_true rfl)⟩) (fun r hr0 => ?_)
    subst hr0
    refine z_iald hx hb hK hP 1 0 rfl rfl (by omega) (by decide) d_X_dueNode_61 ?_
    refine lv_aload_n hx hb d_X_dueNode_62 rfl (lv_at hl 0 rfl) ?_
    refine va_get (D := (dC, dI)) (ci := 0) (v := .ref qd) (C := R_X) (T := F_X) (N := 12) hx hb hts lay_X hown hK hP 0 rfl rfl 0 (by decide) (hts _ m_62) (fun _ h9 => h9) rfl d_X_dueNode_63 ?_
    refine lv_iload_n hx hb d_X_dueNode_66 rfl (lv_at hl 1 rfl) ?_
    refine lv_iconst (v := nI 2) hx hb d_X_dueNode_67 (by decide) ?_
    refine lv_iload_n hx hb d_X_dueNode_68 rfl (lv_at hl 2 rfl) ?_
    refine lv_imul hx hb d_X_dueNode_69 ?_
    refine z_top (pk_mul _ _) ?_
    refine lv_iconst (v := nI 1) hx hb d_X_dueNode_70 (by decide) ?_
    refine lv_iadd hx hb d_X_dueNode_71 ?_
    refine z_top (nI_add _ _) ?_
    refine vp_callSi (W.runS (As := [.int (nI hh), .int (nI ((2 * kk) + 1))]) (rest := [.ref qd, .int (dk (51 * hh + 15 + (2 * kk)))]) ⟨hx, hb, hml, hown, hts⟩ (c_nodePlace l hh ((2 * kk) + 1)) (cwS 2 hts g_X_31 rfl rfl rfl (by decide +kernel) ⟨(Nat.le_of_ble_eq_true rfl), (Nat.le_of_ble_eq_true rfl)⟩) preEq rfl rfl hl.1 rfl (lv_room (Nat.le_of_ble_eq_true rfl)) d_X_dueNode_72 ⟨(Nat.le_of_ble_eq_true rfl), (Nat.le_of_ble_eq_true rfl)⟩) (fun r hr0 => ?_)
    subst hr0
    refine z_iald hx hb hK hP 1 0 rfl rfl (by omega) (by decide) d_X_dueNode_75 ?_
    refine vp_callSi (W.runS (As := [.int (dk (51 * hh + 15 + (2 * kk))), .int (dk (51 * hh + 15 + ((2 * kk) + 1)))]) (rest := []) ⟨hx, hb, hml, hown, hts⟩ (c_digest l (dk (51 * hh + 15 + (2 * kk))) (dk (51 * hh + 15 + ((2 * kk) + 1)))) (cwS 2 hts g_X_100 rfl rfl rfl (by decide +kernel) ⟨(Nat.le_of_ble_eq_true rfl), (Nat.le_of_ble_eq_true rfl)⟩) preEq rfl rfl hl.1 rfl (lv_room (Nat.le_of_ble_eq_true rfl)) d_X_dueNode_76 ⟨(Nat.le_of_ble_eq_true rfl), (Nat.le_of_ble_eq_true rfl)⟩) (fun r hr0 => ?_)
    subst hr0
    exact W.iret hx hb hr (fun t ht hW => ⟨_, rfl, (by unfold due; rw [if_neg (by omega)]), ht⟩) (fun q h => by cases h) d_X_dueNode_79
  · have h1 : ¬ kk < 8 := fun q => h1 ((nI_ltI (by omega) (by omega)).mpr q)
    refine lv_iload_n hx hb d_X_dueNode_6 rfl (lv_at hl 2 rfl) ?_
    refine lv_bipush (v := nI 8) hx hb d_X_dueNode_7 (by decide) ?_
    refine lv_isub hx hb d_X_dueNode_9 ?_
    refine z_top (pk_sub (by omega)) ?_
    refine lv_istore hx hb d_X_dueNode_10 hl (by decide) rfl (fun ls hl => ?_)
    have hl : lv_has ls 6 [(4, .int (nI (kk - 8))), (0, .ref h0), (1, .int (nI hh)), (2, .int (nI kk)), (3, .int g0)] := hl
    refine lv_iload_n hx hb d_X_dueNode_12 rfl (lv_at hl 2 rfl) ?_
    refine lv_iload hx hb d_X_dueNode_13 (lv_at hl 0 rfl) ?_
    refine vp_callSi (W.runS (As := [.int (nI hh), .int (nI (kk - 8))]) (rest := []) ⟨hx, hb, hml, hown, hts⟩ (c_sectorPlace l hh (kk - 8)) (cwS 2 hts g_X_103 rfl rfl rfl (by decide +kernel) ⟨(Nat.le_of_ble_eq_true rfl), (Nat.le_of_ble_eq_true rfl)⟩) preEq rfl rfl hl.1 rfl (lv_room (Nat.le_of_ble_eq_true rfl)) d_X_dueNode_15 ⟨(Nat.le_of_ble_eq_true rfl), (Nat.le_of_ble_eq_true rfl)⟩) (fun r hr0 => ?_)
    subst hr0
    refine lv_istore hx hb d_X_dueNode_18 hl (by decide) rfl (fun ls hl => ?_)
    have hl : lv_has ls 6 [(5, .int (nI (51 * hh + 2 * (kk - 8)))), (4, .int (nI (kk - 8))), (0, .ref h0), (1, .int (nI hh)), (2, .int (nI kk)), (3, .int g0)] := hl
    refine lv_bipush (v := (8 : Int32)) hx hb d_X_dueNode_20 (by decide) ?_
    refine lv_iload_n hx hb d_X_dueNode_22 rfl (lv_at hl 5 rfl) ?_
    refine lv_imul hx hb d_X_dueNode_23 ?_
    refine lv_iload hx hb d_X_dueNode_24 (lv_at hl 1 rfl) ?_
    refine lv_iadd hx hb d_X_dueNode_26 ?_
    refine lv_aload_n hx hb d_X_dueNode_27 rfl (lv_at hl 2 rfl) ?_
    refine va_get (D := (dC, dI)) (ci := 0) (v := .ref qd) (C := R_X) (T := F_X) (N := 12) hx hb hts lay_X hown hK hP 0 rfl rfl 0 (by decide) (hts _ m_62) (fun _ h9 => h9) rfl d_X_dueNode_28 ?_
    refine lv_iload hx hb d_X_dueNode_31 (lv_at hl 0 rfl) ?_
    refine z_iald hx hb hK hP 1 0 rfl rfl (by omega) (by decide) d_X_dueNode_33 ?_
    refine vp_callSi (W.runS (As := [.int (((8 : Int32) * g0) + (nI (kk - 8))), .int (dk (51 * hh + 2 * (kk - 8)))]) (rest := []) ⟨hx, hb, hml, hown, hts⟩ (c_digest l (((8 : Int32) * g0) + (nI (kk - 8))) (dk (51 * hh + 2 * (kk - 8)))) (cwS 2 hts g_X_100 rfl rfl rfl (by decide +kernel) ⟨(Nat.le_of_ble_eq_true rfl), (Nat.le_of_ble_eq_true rfl)⟩) preEq rfl rfl hl.1 rfl (lv_room (Nat.le_of_ble_eq_true rfl)) d_X_dueNode_34 ⟨(Nat.le_of_ble_eq_true rfl), (Nat.le_of_ble_eq_true rfl)⟩) (fun r hr0 => ?_)
    subst hr0
    refine lv_aload_n hx hb d_X_dueNode_37 rfl (lv_at hl 2 rfl) ?_
    refine va_get (D := (dC, dI)) (ci := 0) (v := .ref qd) (C := R_X) (T := F_X) (N := 12) hx hb hts lay_X hown hK hP 0 rfl rfl 0 (by decide) (hts _ m_62) (fun _ h9 => h9) rfl d_X_dueNode_38 ?_
    refine lv_iload hx hb d_X_dueNode_41 (lv_at hl 0 rfl) ?_
    refine lv_iconst (v := nI 1) hx hb d_X_dueNode_43 (by decide) ?_
    refine lv_iadd hx hb d_X_dueNode_44 ?_
    refine z_top (nI_add _ _) ?_
    refine z_iald hx hb hK hP 1 0 rfl rfl (by omega) (by decide) d_X_dueNode_45 ?_
    refine vp_callSi (W.runS (As := [.int (dg (((8 : Int32) * g0) + (nI (kk - 8))) (dk (51 * hh + 2 * (kk - 8)))), .int (dk ((51 * hh + 2 * (kk - 8)) + 1))]) (rest := []) ⟨hx, hb, hml, hown, hts⟩ (c_digest l (dg (((8 : Int32) * g0) + (nI (kk - 8))) (dk (51 * hh + 2 * (kk - 8)))) (dk ((51 * hh + 2 * (kk - 8)) + 1))) (cwS 2 hts g_X_100 rfl rfl rfl (by decide +kernel) ⟨(Nat.le_of_ble_eq_true rfl), (Nat.le_of_ble_eq_true rfl)⟩) preEq rfl rfl hl.1 rfl (lv_room (Nat.le_of_ble_eq_true rfl)) d_X_dueNode_46 ⟨(Nat.le_of_ble_eq_true rfl), (Nat.le_of_ble_eq_true rfl)⟩) (fun r hr0 => ?_)
    subst hr0
    exact W.iret hx hb hr (fun t ht hW => ⟨_, rfl, (by unfold due; rw [if_pos (by omega)]), ht⟩) (fun q h => by cases h) d_X_dueNode_49
set_option maxHeartbeats 4000000 in
set_option maxRecDepth 100000 in
theorem c_valueAt (l : Launch) (dC : Nat → ClassId) (dI : Nat → Nat → Nat) (h0 qd qs qv : Nat) (cI cJ : ClassId) (sz : Nat) (dk : Nat → Int32) (hf : Nat) (gn : Int32) (rt : Int32) (ct : Int32) (sl : Int32) (sm : Int32) (pw : Bool) (ln : Nat) (lq : Nat → Int32) (vq : Nat → Int64) (ch : Int32) (pp : Nat) (h_p : pp + 1 < 102) : Met l y_X_valueAt w_X_valueAt ({ frames := 2, cells := 0, slots := 0, locals := 44 }) (va_Pc [.ref h0, .int (nI pp)] (z_pre (dC, dI) classes [(cI, .int), (cJ, .long)] (Xw h0 qd qs qv cI cJ (dk, hf, gn, rt, ct, sl, sm, pw, ln, lq, vq, ch)) sz)) (vp_Sl (fun r => r = vat dk gn pp)) 0 0 (fun _ => False) := by
  refine Met.ofW (cc := b_X_valueAt) (maxL := 6) (ret := (some .long)) (by decide) rfl ?_
  intro p e s m args below meth c s₁ B hml hv
  obtain ⟨rfl, hsz, hP, hK, hD0⟩ := hv
  have hx := B.exec
  have hb := B.bytes
  have hr := B.returns
  have hts := fun (w : Cond) (h : w ∈ lw_U) => atoms_spec (ws := w_X_valueAt) B.pre w (List.mem_cons_of_mem _ h)
  have hown : s.vm.findClass R_X = some m.cls := findClass_of_methodNamed B.named
  have hlocks := B.notSynchronized
  subst hsz
  have hD := hD0
  have hl := lv_entry ([.ref h0, .int (nI pp)]) (n := 6) (Nat.le_of_ble_eq_true rfl)
  rw [lg_entry_eq]
  generalize (lg_sl ([.ref h0, .int (nI pp)]) ++ List.replicate (6 - (lg_sl ([.ref h0, .int (nI pp)])).length) Slot.unset).toArray = ls at hl ⊢
  have hl : lv_has ls 6 [(0, .ref h0), (1, .int (nI pp))] := hl
  refine lv_aload_n hx hb d_X_valueAt_0 rfl (lv_at hl 0 rfl) ?_
  refine va_get (D := (dC, dI)) (ci := 0) (v := .ref qd) (C := R_X) (T := F_X) (N := 12) hx hb hts lay_X hown hK hP 0 rfl rfl 0 (by decide) (hts _ m_62) (fun _ h9 => h9) rfl d_X_valueAt_1 ?_
  refine lv_iload_n hx hb d_X_valueAt_4 rfl (lv_at hl 1 rfl) ?_
  refine z_iald hx hb hK hP 1 0 rfl rfl (by omega) (by decide) d_X_valueAt_5 ?_
  refine lv_iload_n hx hb d_X_valueAt_6 rfl (lv_at hl 1 rfl) ?_
  refine lv_aload_n hx hb d_X_valueAt_7 rfl (lv_at hl 0 rfl) ?_
  refine va_get (D := (dC, dI)) (ci := 0) (v := .int gn) (C := R_X) (T := F_X) (N := 12) hx hb hts lay_X hown hK hP 0 rfl rfl 2 (by decide) (hts _ m_64) (fun _ h9 => h9) rfl d_X_valueAt_8 ?_
  refine vp_callSi (W.runS (As := [.int (dk pp), .int (nI pp), .int gn]) (rest := []) ⟨hx, hb, hml, hown, hts⟩ (c_encipher l (dk pp) (nI pp) gn) (cwS 3 hts g_X_27 rfl rfl rfl (by decide +kernel) ⟨(Nat.le_of_ble_eq_true rfl), (Nat.le_of_ble_eq_true rfl)⟩) preEq rfl rfl hl.1 rfl (lv_room (Nat.le_of_ble_eq_true rfl)) d_X_valueAt_11 ⟨(Nat.le_of_ble_eq_true rfl), (Nat.le_of_ble_eq_true rfl)⟩) (fun r hr0 => ?_)
  subst hr0
  refine lv_i2l hx hb d_X_valueAt_14 rfl ?_
  refine lv_lstore_n hx hb d_X_valueAt_15 rfl hl (by decide) rfl (fun ls hl => ?_)
  have hl : lv_has ls 6 [(2, .long ((enc (dk pp) (nI pp) gn).toInt64)), (0, .ref h0), (1, .int (nI pp))] := hl
  refine lv_aload_n hx hb d_X_valueAt_16 rfl (lv_at hl 1 rfl) ?_
  refine va_get (D := (dC, dI)) (ci := 0) (v := .ref qd) (C := R_X) (T := F_X) (N := 12) hx hb hts lay_X hown hK hP 0 rfl rfl 0 (by decide) (hts _ m_62) (fun _ h9 => h9) rfl d_X_valueAt_17 ?_
  refine lv_iload_n hx hb d_X_valueAt_20 rfl (lv_at hl 2 rfl) ?_
  refine lv_iconst (v := nI 1) hx hb d_X_valueAt_21 (by decide) ?_
  refine lv_iadd hx hb d_X_valueAt_22 ?_
  refine z_top (nI_add _ _) ?_
  refine z_iald hx hb hK hP 1 0 rfl rfl (by omega) (by decide) d_X_valueAt_23 ?_
  refine lv_iload_n hx hb d_X_valueAt_24 rfl (lv_at hl 2 rfl) ?_
  refine lv_iconst (v := nI 1) hx hb d_X_valueAt_25 (by decide) ?_
  refine lv_iadd hx hb d_X_valueAt_26 ?_
  refine z_top (nI_add _ _) ?_
  refine lv_aload_n hx hb d_X_valueAt_27 rfl (lv_at hl 1 rfl) ?_
  refine va_get (D := (dC, dI)) (ci := 0) (v := .int gn) (C := R_X) (T := F_X) (N := 12) hx hb hts lay_X hown hK hP 0 rfl rfl 2 (by decide) (hts _ m_64) (fun _ h9 => h9) rfl d_X_valueAt_28 ?_
  refine vp_callSi (W.runS (As := [.int (dk (pp + 1)), .int (nI (pp + 1)), .int gn]) (rest := []) ⟨hx, hb, hml, hown, hts⟩ (c_encipher l (dk (pp + 1)) (nI (pp + 1)) gn) (cwS 3 hts g_X_27 rfl rfl rfl (by decide +kernel) ⟨(Nat.le_of_ble_eq_true rfl), (Nat.le_of_ble_eq_true rfl)⟩) preEq rfl rfl hl.1 rfl (lv_room (Nat.le_of_ble_eq_true rfl)) d_X_valueAt_31 ⟨(Nat.le_of_ble_eq_true rfl), (Nat.le_of_ble_eq_true rfl)⟩) (fun r hr0 => ?_)
  subst hr0
  refine lv_i2l hx hb d_X_valueAt_34 rfl ?_
  refine lv_lstore hx hb d_X_valueAt_35 hl (by decide) rfl (fun ls hl => ?_)
  have hl : lv_has ls 6 [(4, .long ((enc (dk (pp + 1)) (nI (pp + 1)) gn).toInt64)), (2, .long ((enc (dk pp) (nI pp) gn).toInt64)), (0, .ref h0), (1, .int (nI pp))] := hl
  refine lv_lload_n hx hb d_X_valueAt_37 rfl (lv_at hl 1 rfl) ?_
  refine lv_bipush (v := (32 : Int32)) hx hb d_X_valueAt_38 (by decide) ?_
  refine lv_lshl hx hb d_X_valueAt_40 rfl ?_
  refine lv_lload hx hb d_X_valueAt_41 (lv_at hl 0 rfl) ?_
  refine lv_ldc2 (v := 4294967295) hx hb hown (hts _ m_124) d_X_valueAt_43 ?_
  refine lv_land hx hb d_X_valueAt_46 ?_
  refine lv_lor hx hb d_X_valueAt_47 ?_
  exact W.lret hx hb hr (fun t ht hW => ⟨_, rfl, rfl, ht⟩) (fun q h => by cases h) d_X_valueAt_48
set_option maxHeartbeats 4000000 in
set_option maxRecDepth 100000 in
theorem c_rootAbove (l : Launch) (dC : Nat → ClassId) (dI : Nat → Nat → Nat) (h0 qd qs qv : Nat) (cI cJ : ClassId) (sz : Nat) (dk : Nat → Int32) (hf : Nat) (gn : Int32) (rt : Int32) (ct : Int32) (sl : Int32) (sm : Int32) (pw : Bool) (ln : Nat) (lq : Nat → Int32) (vq : Nat → Int64) (ch : Int32) (sc : Nat) (h_f : hf < 2) (h_s : sc < 8) : Met l y_X_rootAbove w_X_rootAbove ({ frames := 2, cells := 0, slots := 0, locals := 47 }) (va_Pc [.ref h0, .int (nI sc)] (z_pre (dC, dI) classes [(cI, .int), (cJ, .long)] (Xw h0 qd qs qv cI cJ (dk, hf, gn, rt, ct, sl, sm, pw, ln, lq, vq, ch)) sz)) (vp_Si (fun r => r = rabove dk hf gn sc)) 0 0 (fun _ => False) := by
  refine Met.ofW (cc := b_X_rootAbove) (maxL := 5) (ret := (some .int)) (by decide) rfl ?_
  intro p e s m args below meth c s₁ B hml hv
  obtain ⟨rfl, hsz, hP, hK, hD0⟩ := hv
  have hx := B.exec
  have hb := B.bytes
  have hr := B.returns
  have hts := fun (w : Cond) (h : w ∈ lw_U) => atoms_spec (ws := w_X_rootAbove) B.pre w (List.mem_cons_of_mem _ h)
  have hown : s.vm.findClass R_X = some m.cls := findClass_of_methodNamed B.named
  have hlocks := B.notSynchronized
  subst hsz
  have hD := hD0
  have hl := lv_entry ([.ref h0, .int (nI sc)]) (n := 5) (Nat.le_of_ble_eq_true rfl)
  rw [lg_entry_eq]
  generalize (lg_sl ([.ref h0, .int (nI sc)]) ++ List.replicate (5 - (lg_sl ([.ref h0, .int (nI sc)])).length) Slot.unset).toArray = ls at hl ⊢
  have hl : lv_has ls 5 [(0, .ref h0), (1, .int (nI sc))] := hl
  have loop : ∀ (f k : Nat) (x : Int32) (ls : Array Slot), k ≤ f → k < 16 → lv_has ls 5 [(0, .ref h0), (2, .int x), (3, .int (nI k))] → rup dk hf f k x = rabove dk hf gn sc → W p l e (headSpec w_X_rootAbove ({ frames := 2, cells := 0, slots := 0, locals := 47 })).room s m ([.ref h0, .int (nI sc)].toArray) below meth c s.heap [] 0 0 (MQ below (vp_Si (fun r => r = rabove dk hf gn sc)) ([.ref h0, .int (nI sc)].toArray) s 0 0 (fun _ => False)) (F0 m 22 ls []) := by
    intro f
    induction f with
    | zero =>
      intro k x ls hf0 hk16 hl hF
      refine lv_iload_n hx hb d_X_rootAbove_22 rfl (lv_at hl 2 rfl) ?_
      refine lv_iconst (v := nI 1) hx hb d_X_rootAbove_23 (by decide) ?_
      refine lv_icmp_le (tgt := 73) hx hb d_X_rootAbove_24 (by decide) (fun _ => ?_) (fun h9 => absurd ((nI_leI (by omega) (by omega)).mpr (by omega)) h9)
      refine lv_iload_n hx hb d_X_rootAbove_73 rfl (lv_at hl 1 rfl) ?_
      exact W.iret hx hb hr (fun t ht hW => ⟨_, rfl, (by rw [← hF]; rfl), ht⟩) (fun q h => by cases h) d_X_rootAbove_74
    | succ f ih =>
      intro k x ls hf0 hk16 hl hF
      have hx1 : k ^^^ 1 < 16 := Nat.xor_lt_two_pow (n := 4) hk16 (by decide)
      refine lv_iload_n hx hb d_X_rootAbove_22 rfl (lv_at hl 2 rfl) ?_
      refine lv_iconst (v := nI 1) hx hb d_X_rootAbove_23 (by decide) ?_
      refine lv_icmp_le (tgt := 73) hx hb d_X_rootAbove_24 (by decide) (fun h1 => ?_) (fun h1 => ?_)
      · have h1 : k ≤ 1 := (nI_leI (by omega) (by omega)).mp h1
        refine lv_iload_n hx hb d_X_rootAbove_73 rfl (lv_at hl 1 rfl) ?_
        exact W.iret hx hb hr (fun t ht hW => ⟨_, rfl, (by rw [← hF, rup, if_pos (by omega)]), ht⟩) (fun q h => by cases h) d_X_rootAbove_74
      · have h1 : ¬ k ≤ 1 := fun q => h1 ((nI_leI (by omega) (by omega)).mpr q)
        refine lv_aload_n hx hb d_X_rootAbove_27 rfl (lv_at hl 0 rfl) ?_
        refine va_get (D := (dC, dI)) (ci := 0) (v := .ref qd) (C := R_X) (T := F_X) (N := 12) hx hb hts lay_X hown hK hP 0 rfl rfl 0 (by decide) (hts _ m_62) (fun _ h9 => h9) rfl d_X_rootAbove_28 ?_
        refine lv_aload_n hx hb d_X_rootAbove_31 rfl (lv_at hl 0 rfl) ?_
        refine va_get (D := (dC, dI)) (ci := 0) (v := .int (nI hf)) (C := R_X) (T := F_X) (N := 12) hx hb hts lay_X hown hK hP 0 rfl rfl 1 (by decide) (hts _ m_63) (fun _ h9 => h9) rfl d_X_rootAbove_32 ?_
        refine lv_iload_n hx hb d_X_rootAbove_35 rfl (lv_at hl 2 rfl) ?_
        refine lv_iconst (v := nI 1) hx hb d_X_rootAbove_36 (by decide) ?_
        refine lv_ixor hx hb d_X_rootAbove_37 ?_
        refine z_top (nx_xor _ _) ?_
        refine vp_callSi (W.runS (As := [.int (nI hf), .int (nI (k ^^^ 1))]) (rest := [.ref qd]) ⟨hx, hb, hml, hown, hts⟩ (c_nodePlace l hf (k ^^^ 1)) (cwS 2 hts g_X_31 rfl rfl rfl (by decide +kernel) ⟨(Nat.le_of_ble_eq_true rfl), (Nat.le_of_ble_eq_true rfl)⟩) preEq rfl rfl hl.1 rfl (lv_room (Nat.le_of_ble_eq_true rfl)) d_X_rootAbove_38 ⟨(Nat.le_of_ble_eq_true rfl), (Nat.le_of_ble_eq_true rfl)⟩) (fun r hr0 => ?_)
        subst hr0
        refine z_iald hx hb hK hP 1 0 rfl rfl (by omega) (by decide) d_X_rootAbove_41 ?_
        refine lv_istore hx hb d_X_rootAbove_42 hl (by decide) rfl (fun ls hl => ?_)
        have hl : lv_has ls 5 [(4, .int (dk (51 * hf + 15 + (k ^^^ 1)))), (0, .ref h0), (2, .int x), (3, .int (nI k))] := hl
        refine lv_iload_n hx hb d_X_rootAbove_44 rfl (lv_at hl 3 rfl) ?_
        refine lv_iconst (v := nI 2) hx hb d_X_rootAbove_45 (by decide) ?_
        refine lv_irem hx hb d_X_rootAbove_46 (by decide) ?_
        refine z_top (pk_rem (by omega) (by decide) (by decide)) ?_
        refine lv_if_ne (tgt := 59) hx hb d_X_rootAbove_47 (by decide) (fun h2 => ?_) (fun h2 => ?_)
        · have h2 : ¬ k % 2 = 0 := fun q => h2 (by rw [q]; rfl)
          refine lv_iload hx hb d_X_rootAbove_59 (lv_at hl 0 rfl) ?_
          refine lv_iload_n hx hb d_X_rootAbove_61 rfl (lv_at hl 2 rfl) ?_
          refine vp_callSi (W.runS (As := [.int (dk (51 * hf + 15 + (k ^^^ 1))), .int x]) (rest := []) ⟨hx, hb, hml, hown, hts⟩ (c_digest l (dk (51 * hf + 15 + (k ^^^ 1))) x) (cwS 2 hts g_X_100 rfl rfl rfl (by decide +kernel) ⟨(Nat.le_of_ble_eq_true rfl), (Nat.le_of_ble_eq_true rfl)⟩) preEq rfl rfl hl.1 rfl (lv_room (Nat.le_of_ble_eq_true rfl)) d_X_rootAbove_62 ⟨(Nat.le_of_ble_eq_true rfl), (Nat.le_of_ble_eq_true rfl)⟩) (fun r hr0 => ?_)
          subst hr0
          refine lv_istore_n hx hb d_X_rootAbove_65 rfl hl (by decide) rfl (fun ls hl => ?_)
          have hl : lv_has ls 5 [(2, .int (dg (dk (51 * hf + 15 + (k ^^^ 1))) x)), (4, .int (dk (51 * hf + 15 + (k ^^^ 1)))), (0, .ref h0), (3, .int (nI k))] := hl
          refine lv_iload_n hx hb d_X_rootAbove_66 rfl (lv_at hl 3 rfl) ?_
          refine lv_iconst (v := nI 2) hx hb d_X_rootAbove_67 (by decide) ?_
          refine lv_idiv hx hb d_X_rootAbove_68 (by decide) ?_
          refine z_top (pk_div (by omega) (by decide) (by decide)) ?_
          refine lv_istore_n hx hb d_X_rootAbove_69 rfl hl (by decide) rfl (fun ls hl => ?_)
          have hl : lv_has ls 5 [(3, .int (nI (k / 2))), (2, .int (dg (dk (51 * hf + 15 + (k ^^^ 1))) x)), (4, .int (dk (51 * hf + 15 + (k ^^^ 1)))), (0, .ref h0)] := hl
          refine lv_goto (tgt := 22) hx hb d_X_rootAbove_70 (by decide) ?_
          exact ih (k / 2) _ ls (by omega) (by omega) (lv_sub hl [3, 1, 0] rfl) (by rw [← hF, rup, if_neg (by omega)]; first | rw [if_pos (by omega)] | rw [if_neg (by omega)])
        · have h2 : k % 2 = 0 := (nI_eq (b := 0) (by omega) (by omega)).mp h2
          refine lv_iload_n hx hb d_X_rootAbove_50 rfl (lv_at hl 2 rfl) ?_
          refine lv_iload hx hb d_X_rootAbove_51 (lv_at hl 0 rfl) ?_
          refine vp_callSi (W.runS (As := [.int x, .int (dk (51 * hf + 15 + (k ^^^ 1)))]) (rest := []) ⟨hx, hb, hml, hown, hts⟩ (c_digest l x (dk (51 * hf + 15 + (k ^^^ 1)))) (cwS 2 hts g_X_100 rfl rfl rfl (by decide +kernel) ⟨(Nat.le_of_ble_eq_true rfl), (Nat.le_of_ble_eq_true rfl)⟩) preEq rfl rfl hl.1 rfl (lv_room (Nat.le_of_ble_eq_true rfl)) d_X_rootAbove_53 ⟨(Nat.le_of_ble_eq_true rfl), (Nat.le_of_ble_eq_true rfl)⟩) (fun r hr0 => ?_)
          subst hr0
          refine lv_goto (tgt := 65) hx hb d_X_rootAbove_56 (by decide) ?_
          refine lv_istore_n hx hb d_X_rootAbove_65 rfl hl (by decide) rfl (fun ls hl => ?_)
          have hl : lv_has ls 5 [(2, .int (dg x (dk (51 * hf + 15 + (k ^^^ 1))))), (4, .int (dk (51 * hf + 15 + (k ^^^ 1)))), (0, .ref h0), (3, .int (nI k))] := hl
          refine lv_iload_n hx hb d_X_rootAbove_66 rfl (lv_at hl 3 rfl) ?_
          refine lv_iconst (v := nI 2) hx hb d_X_rootAbove_67 (by decide) ?_
          refine lv_idiv hx hb d_X_rootAbove_68 (by decide) ?_
          refine z_top (pk_div (by omega) (by decide) (by decide)) ?_
          refine lv_istore_n hx hb d_X_rootAbove_69 rfl hl (by decide) rfl (fun ls hl => ?_)
          have hl : lv_has ls 5 [(3, .int (nI (k / 2))), (2, .int (dg x (dk (51 * hf + 15 + (k ^^^ 1))))), (4, .int (dk (51 * hf + 15 + (k ^^^ 1)))), (0, .ref h0)] := hl
          refine lv_goto (tgt := 22) hx hb d_X_rootAbove_70 (by decide) ?_
          exact ih (k / 2) _ ls (by omega) (by omega) (lv_sub hl [3, 1, 0] rfl) (by rw [← hF, rup, if_neg (by omega)]; first | rw [if_pos (by omega)] | rw [if_neg (by omega)])
  refine lv_aload_n hx hb d_X_rootAbove_0 rfl (lv_at hl 0 rfl) ?_
  refine lv_aload_n hx hb d_X_rootAbove_1 rfl (lv_at hl 0 rfl) ?_
  refine va_get (D := (dC, dI)) (ci := 0) (v := .int (nI hf)) (C := R_X) (T := F_X) (N := 12) hx hb hts lay_X hown hK hP 0 rfl rfl 1 (by decide) (hts _ m_63) (fun _ h9 => h9) rfl d_X_rootAbove_2 ?_
  refine lv_bipush (v := nI 8) hx hb d_X_rootAbove_5 (by decide) ?_
  refine lv_iload_n hx hb d_X_rootAbove_7 rfl (lv_at hl 1 rfl) ?_
  refine lv_iadd hx hb d_X_rootAbove_8 ?_
  refine z_top (nI_add _ _) ?_
  refine lv_aload_n hx hb d_X_rootAbove_9 rfl (lv_at hl 0 rfl) ?_
  refine va_get (D := (dC, dI)) (ci := 0) (v := .int gn) (C := R_X) (T := F_X) (N := 12) hx hb hts lay_X hown hK hP 0 rfl rfl 2 (by decide) (hts _ m_64) (fun _ h9 => h9) rfl d_X_rootAbove_10 ?_
  refine vp_callSi (W.runV (C := R_X) (b := h0) (As := [.int (nI hf), .int (nI (8 + sc)), .int gn]) (rest := []) ⟨hx, hb, hml, hown, hts⟩ (c_dueNode l dC dI h0 qd qs qv cI cJ _ dk hf gn rt ct sl sm pw ln lq vq ch hf (8 + sc) gn (by omega) (by omega)) (cwV 3 hts g_X_35 rfl rfl rfl (by decide +kernel) ⟨(Nat.le_of_ble_eq_true rfl), (Nat.le_of_ble_eq_true rfl)⟩) (z_preV (va_recv (q0 := 0) hK hP rfl rfl) hP hK hD) rfl rfl hl.1 rfl (lv_room (Nat.le_of_ble_eq_true rfl)) d_X_rootAbove_13 ⟨(Nat.le_of_ble_eq_true rfl), (Nat.le_of_ble_eq_true rfl)⟩) (fun r hr0 => ?_)
  subst hr0
  refine lv_istore_n hx hb d_X_rootAbove_16 rfl hl (by decide) rfl (fun ls hl => ?_)
  have hl : lv_has ls 5 [(2, .int (due dk hf (8 + sc) gn)), (0, .ref h0), (1, .int (nI sc))] := hl
  refine lv_bipush (v := nI 8) hx hb d_X_rootAbove_17 (by decide) ?_
  refine lv_iload_n hx hb d_X_rootAbove_19 rfl (lv_at hl 2 rfl) ?_
  refine lv_iadd hx hb d_X_rootAbove_20 ?_
  refine z_top (nI_add _ _) ?_
  refine lv_istore_n hx hb d_X_rootAbove_21 rfl hl (by decide) rfl (fun ls hl => ?_)
  have hl : lv_has ls 5 [(3, .int (nI (8 + sc))), (2, .int (due dk hf (8 + sc) gn)), (0, .ref h0), (1, .int (nI sc))] := hl
  exact loop 16 (8 + sc) _ ls (by omega) (by omega) (lv_sub hl [2, 1, 0] rfl) rfl
set_option maxHeartbeats 4000000 in
set_option maxRecDepth 100000 in
theorem c_valueOf (l : Launch) (dC : Nat → ClassId) (dI : Nat → Nat → Nat) (h0 qd qs qv : Nat) (cI cJ : ClassId) (sz : Nat) (dk : Nat → Int32) (hf : Nat) (gn : Int32) (rt : Int32) (ct : Int32) (sl : Int32) (sm : Int32) (pw : Bool) (ln : Nat) (lq : Nat → Int32) (vq : Nat → Int64) (ch : Int32) (sc : Nat) (h_f : hf < 2) (h_n : ln ≤ 5) (h_s : sc < 8) : Met l y_X_valueOf w_X_valueOf ({ frames := 3, cells := 0, slots := 0, locals := 71 }) (va_Pc [.ref h0, .int (nI sc)] (z_pre (dC, dI) classes [(cI, .int), (cJ, .long)] (Xw h0 qd qs qv cI cJ (dk, hf, gn, rt, ct, sl, sm, pw, ln, lq, vq, ch)) sz)) (vp_Sl (fun r => r = vof dk hf gn rt ln lq vq sc)) 0 0 (fun _ => False) := by
  refine Met.ofW (cc := b_X_valueOf) (maxL := 4) (ret := (some .long)) (by decide) rfl ?_
  intro p e s m args below meth c s₁ B hml hv
  obtain ⟨rfl, hsz, hP, hK, hD0⟩ := hv
  have hx := B.exec
  have hb := B.bytes
  have hr := B.returns
  have hts := fun (w : Cond) (h : w ∈ lw_U) => atoms_spec (ws := w_X_valueOf) B.pre w (List.mem_cons_of_mem _ h)
  have hown : s.vm.findClass R_X = some m.cls := findClass_of_methodNamed B.named
  have hlocks := B.notSynchronized
  subst hsz
  have hD := hD0
  have hl := lv_entry ([.ref h0, .int (nI sc)]) (n := 4) (Nat.le_of_ble_eq_true rfl)
  rw [lg_entry_eq]
  generalize (lg_sl ([.ref h0, .int (nI sc)]) ++ List.replicate (4 - (lg_sl ([.ref h0, .int (nI sc)])).length) Slot.unset).toArray = ls at hl ⊢
  have hl : lv_has ls 4 [(0, .ref h0), (1, .int (nI sc))] := hl
  have loop : ∀ (i : Nat) (ls : Array Slot), i ≤ ln → lv_has ls 4 [(0, .ref h0), (1, .int (nI sc)), (2, .int (nI i - 1))] → lkp lq vq (nI sc) i = lkp lq vq (nI sc) ln → W p l e (headSpec w_X_valueOf ({ frames := 3, cells := 0, slots := 0, locals := 71 })).room s m ([.ref h0, .int (nI sc)].toArray) below meth c s.heap [] 0 0 (MQ below (vp_Sl (fun r => r = vof dk hf gn rt ln lq vq sc)) ([.ref h0, .int (nI sc)].toArray) s 0 0 (fun _ => False)) (F0 m 7 ls []) := by
    intro i
    induction i with
    | zero =>
      intro ls hi hl hF
      refine lv_iload_n hx hb d_X_valueOf_7 rfl (lv_at hl 2 rfl) ?_
      refine lv_if_lt (tgt := 34) hx hb d_X_valueOf_8 (by decide) (fun _ => ?_) (fun h9 => absurd (by decide) h9)
      refine lv_aload_n hx hb d_X_valueOf_34 rfl (lv_at hl 0 rfl) ?_
      refine lv_iload_n hx hb d_X_valueOf_35 rfl (lv_at hl 1 rfl) ?_
      refine vp_callSi (W.runV (C := R_X) (b := h0) (As := [.int (nI sc)]) (rest := []) ⟨hx, hb, hml, hown, hts⟩ (c_rootAbove l dC dI h0 qd qs qv cI cJ _ dk hf gn rt ct sl sm pw ln lq vq ch sc (by omega) (by omega)) (cwV 1 hts g_X_108 rfl rfl rfl (by decide +kernel) ⟨(Nat.le_of_ble_eq_true rfl), (Nat.le_of_ble_eq_true rfl)⟩) (z_preV (va_recv (q0 := 0) hK hP rfl rfl) hP hK hD) rfl rfl hl.1 rfl (lv_room (Nat.le_of_ble_eq_true rfl)) d_X_valueOf_36 ⟨(Nat.le_of_ble_eq_true rfl), (Nat.le_of_ble_eq_true rfl)⟩) (fun r hr0 => ?_)
      subst hr0
      refine lv_aload_n hx hb d_X_valueOf_39 rfl (lv_at hl 0 rfl) ?_
      refine va_get (D := (dC, dI)) (ci := 0) (v := .int rt) (C := R_X) (T := F_X) (N := 12) hx hb hts lay_X hown hK hP 0 rfl rfl 3 (by decide) (hts _ m_65) (fun _ h9 => h9) rfl d_X_valueOf_40 ?_
      refine lv_icmp_eq (tgt := 50) hx hb d_X_valueOf_43 (by decide) (fun h1 => ?_) (fun h1 => ?_)
      · refine lv_aload_n hx hb d_X_valueOf_50 rfl (lv_at hl 0 rfl) ?_
        refine lv_aload_n hx hb d_X_valueOf_51 rfl (lv_at hl 0 rfl) ?_
        refine va_get (D := (dC, dI)) (ci := 0) (v := .int (nI hf)) (C := R_X) (T := F_X) (N := 12) hx hb hts lay_X hown hK hP 0 rfl rfl 1 (by decide) (hts _ m_63) (fun _ h9 => h9) rfl d_X_valueOf_52 ?_
        refine lv_iload_n hx hb d_X_valueOf_55 rfl (lv_at hl 1 rfl) ?_
        refine vp_callSi (W.runS (As := [.int (nI hf), .int (nI sc)]) (rest := [.ref h0]) ⟨hx, hb, hml, hown, hts⟩ (c_sectorPlace l hf sc) (cwS 2 hts g_X_103 rfl rfl rfl (by decide +kernel) ⟨(Nat.le_of_ble_eq_true rfl), (Nat.le_of_ble_eq_true rfl)⟩) preEq rfl rfl hl.1 rfl (lv_room (Nat.le_of_ble_eq_true rfl)) d_X_valueOf_56 ⟨(Nat.le_of_ble_eq_true rfl), (Nat.le_of_ble_eq_true rfl)⟩) (fun r hr0 => ?_)
        subst hr0
        refine vp_callSl (W.runV (C := R_X) (b := h0) (As := [.int (nI (51 * hf + 2 * sc))]) (rest := []) ⟨hx, hb, hml, hown, hts⟩ (c_valueAt l dC dI h0 qd qs qv cI cJ _ dk hf gn rt ct sl sm pw ln lq vq ch (51 * hf + 2 * sc) (by omega)) (cwV 1 hts g_X_114 rfl rfl rfl (by decide +kernel) ⟨(Nat.le_of_ble_eq_true rfl), (Nat.le_of_ble_eq_true rfl)⟩) (z_preV (va_recv (q0 := 0) hK hP rfl rfl) hP hK hD) rfl rfl hl.1 rfl (lv_room (Nat.le_of_ble_eq_true rfl)) d_X_valueOf_59 ⟨(Nat.le_of_ble_eq_true rfl), (Nat.le_of_ble_eq_true rfl)⟩) (fun r hr0 => ?_)
        subst hr0
        refine lv_lstore_n hx hb d_X_valueOf_62 rfl hl (by decide) rfl (fun ls hl => ?_)
        have hl : lv_has ls 4 [(2, .long (vat dk gn (51 * hf + 2 * sc))), (0, .ref h0), (1, .int (nI sc))] := hl
        refine lv_lload_n hx hb d_X_valueOf_63 rfl (lv_at hl 0 rfl) ?_
        refine lv_lconst (v := 0) hx hb d_X_valueOf_64 (by decide) ?_
        refine W.lcmp hx hb d_X_valueOf_65 ?_
        refine lv_if_ge (tgt := 75) hx hb d_X_valueOf_66 (by decide) (fun h2 => ?_) (fun h2 => ?_)
        · refine lv_lload_n hx hb d_X_valueOf_75 rfl (lv_at hl 0 rfl) ?_
          exact W.lret hx hb hr (fun t ht hW => ⟨_, rfl, (by simp only [vof, ← hF, lkp, vlook]; simp [*]), ht⟩) (fun q h => by cases h) d_X_valueOf_76
        · refine lv_ldc2 (v := -3) hx hb hown (hts _ m_167) d_X_valueOf_69 ?_
          refine lv_goto (tgt := 76) hx hb d_X_valueOf_72 (by decide) ?_
          exact W.lret hx hb hr (fun t ht hW => ⟨_, rfl, (by simp only [vof, ← hF, lkp, vlook]; simp [*]), ht⟩) (fun q h => by cases h) d_X_valueOf_76
      · refine lv_ldc2 (v := -3) hx hb hown (hts _ m_167) d_X_valueOf_46 ?_
        exact W.lret hx hb hr (fun t ht hW => ⟨_, rfl, (by simp only [vof, ← hF, lkp, vlook]; simp [*]), ht⟩) (fun q h => by cases h) d_X_valueOf_49
    | succ i ih =>
      intro ls hi hl hF
      rw [nI_pred] at hl
      refine lv_iload_n hx hb d_X_valueOf_7 rfl (lv_at hl 2 rfl) ?_
      refine lv_if_lt (tgt := 34) hx hb d_X_valueOf_8 (by decide) (fun h9 => absurd h9 (nI_pos (by omega))) (fun _ => ?_)
      refine lv_aload_n hx hb d_X_valueOf_11 rfl (lv_at hl 0 rfl) ?_
      refine va_get (D := (dC, dI)) (ci := 0) (v := .ref qs) (C := R_X) (T := F_X) (N := 12) hx hb hts lay_X hown hK hP 0 rfl rfl 9 (by decide) (hts _ m_71) (fun _ h9 => h9) rfl d_X_valueOf_12 ?_
      refine lv_iload_n hx hb d_X_valueOf_15 rfl (lv_at hl 2 rfl) ?_
      refine z_iald hx hb hK hP 2 0 rfl rfl (by omega) (by decide) d_X_valueOf_16 ?_
      refine lv_iload_n hx hb d_X_valueOf_17 rfl (lv_at hl 1 rfl) ?_
      refine lv_icmp_ne (tgt := 28) hx hb d_X_valueOf_18 (by decide) (fun h3 => ?_) (fun h3 => ?_)
      · refine lv_iinc (k := 2) hx hb d_X_valueOf_28 hl rfl (z_dm _) (by decide) rfl (fun ls hl => ?_)
        have hl : lv_has ls 4 [(2, .int (nI i - 1)), (0, .ref h0), (1, .int (nI sc))] := hl
        refine lv_goto (tgt := 7) hx hb d_X_valueOf_31 (by decide) ?_
        exact ih ls (by omega) (lv_sub hl [1, 2, 0] rfl) (by rw [← hF, lkp]; simp [*])
      · refine lv_aload_n hx hb d_X_valueOf_21 rfl (lv_at hl 0 rfl) ?_
        refine va_get (D := (dC, dI)) (ci := 0) (v := .ref qv) (C := R_X) (T := F_X) (N := 12) hx hb hts lay_X hown hK hP 0 rfl rfl 10 (by decide) (hts _ m_72) (fun _ h9 => h9) rfl d_X_valueOf_22 ?_
        refine lv_iload_n hx hb d_X_valueOf_25 rfl (lv_at hl 2 rfl) ?_
        refine z_lald hx hb hK hP 3 1 rfl rfl (by omega) (by decide) d_X_valueOf_26 ?_
        exact W.lret hx hb hr (fun t ht hW => ⟨_, rfl, (by unfold vof; rw [← hF, lkp, if_pos h3]), ht⟩) (fun q h => by cases h) d_X_valueOf_27
  refine lv_aload_n hx hb d_X_valueOf_0 rfl (lv_at hl 0 rfl) ?_
  refine va_get (D := (dC, dI)) (ci := 0) (v := .int (nI ln)) (C := R_X) (T := F_X) (N := 12) hx hb hts lay_X hown hK hP 0 rfl rfl 8 (by decide) (hts _ m_70) (fun _ h9 => h9) rfl d_X_valueOf_1 ?_
  refine lv_iconst (v := (1 : Int32)) hx hb d_X_valueOf_4 (by decide) ?_
  refine lv_isub hx hb d_X_valueOf_5 ?_
  refine z_top rfl ?_
  refine lv_istore_n hx hb d_X_valueOf_6 rfl hl (by decide) rfl (fun ls hl => ?_)
  have hl : lv_has ls 4 [(2, .int (nI ln - 1)), (0, .ref h0), (1, .int (nI sc))] := hl
  exact loop ln ls (Nat.le_refl _) (lv_sub hl [1, 2, 0] rfl) rfl
set_option maxHeartbeats 4000000 in
set_option maxRecDepth 100000 in
theorem c_soundSectors (l : Launch) (dC : Nat → ClassId) (dI : Nat → Nat → Nat) (h0 qd qs qv : Nat) (cI cJ : ClassId) (sz : Nat) (dk : Nat → Int32) (hf : Nat) (gn : Int32) (rt : Int32) (ct : Int32) (sl : Int32) (sm : Int32) (pw : Bool) (ln : Nat) (lq : Nat → Int32) (vq : Nat → Int64) (ch : Int32)  (h_f : hf < 2) (h_n : ln ≤ 5) : Met l y_X_soundSectors w_X_soundSectors ({ frames := 4, cells := 0, slots := 0, locals := 94 }) (va_Pc [.ref h0] (z_pre (dC, dI) classes [(cI, .int), (cJ, .long)] (Xw h0 qd qs qv cI cJ (dk, hf, gn, rt, ct, sl, sm, pw, ln, lq, vq, ch)) sz)) (vp_Si (fun r => r = sndF (vof dk hf gn rt ln lq vq) 8 0 0)) 0 0 (fun _ => False) := by
  refine Met.ofW (cc := b_X_soundSectors) (maxL := 3) (ret := (some .int)) (by decide) rfl ?_
  intro p e s m args below meth c s₁ B hml hv
  obtain ⟨rfl, hsz, hP, hK, hD0⟩ := hv
  have hx := B.exec
  have hb := B.bytes
  have hr := B.returns
  have hts := fun (w : Cond) (h : w ∈ lw_U) => atoms_spec (ws := w_X_soundSectors) B.pre w (List.mem_cons_of_mem _ h)
  have hown : s.vm.findClass R_X = some m.cls := findClass_of_methodNamed B.named
  have hlocks := B.notSynchronized
  subst hsz
  have hD := hD0
  have hl := lv_entry ([.ref h0]) (n := 3) (Nat.le_of_ble_eq_true rfl)
  rw [lg_entry_eq]
  generalize (lg_sl ([.ref h0]) ++ List.replicate (3 - (lg_sl ([.ref h0])).length) Slot.unset).toArray = ls at hl ⊢
  have hl : lv_has ls 3 [(0, .ref h0)] := hl
  have loop : ∀ (j k : Nat) (x : Int32) (ls : Array Slot), k + j = 8 → lv_has ls 3 [(0, .ref h0), (1, .int x), (2, .int (nI k))] → sndF (vof dk hf gn rt ln lq vq) j k x = sndF (vof dk hf gn rt ln lq vq) 8 0 0 → W p l e (headSpec w_X_soundSectors ({ frames := 4, cells := 0, slots := 0, locals := 94 })).room s m ([.ref h0].toArray) below meth c s.heap [] 0 0 (MQ below (vp_Si (fun r => r = sndF (vof dk hf gn rt ln lq vq) 8 0 0)) ([.ref h0].toArray) s 0 0 (fun _ => False)) (F0 m 4 ls []) := by
    intro j
    induction j with
    | zero =>
      intro k x ls hk hl hF
      refine lv_iload_n hx hb d_X_soundSectors_4 rfl (lv_at hl 2 rfl) ?_
      refine lv_bipush (v := nI 8) hx hb d_X_soundSectors_5 (by decide) ?_
      refine lv_icmp_ge (tgt := 32) hx hb d_X_soundSectors_7 (by decide) (fun _ => ?_) (fun h9 => absurd ((nI_leI (by omega) (by omega)).mpr (by omega)) h9)
      refine lv_iload_n hx hb d_X_soundSectors_32 rfl (lv_at hl 1 rfl) ?_
      exact W.iret hx hb hr (fun t ht hW => ⟨_, rfl, hF, ht⟩) (fun q h => by cases h) d_X_soundSectors_33
    | succ j ih =>
      intro k x ls hk hl hF
      refine lv_iload_n hx hb d_X_soundSectors_4 rfl (lv_at hl 2 rfl) ?_
      refine lv_bipush (v := nI 8) hx hb d_X_soundSectors_5 (by decide) ?_
      refine lv_icmp_ge (tgt := 32) hx hb d_X_soundSectors_7 (by decide) (fun h9 => absurd h9 (fun q => absurd ((nI_leI (by omega) (by omega)).mp q) (by omega))) (fun _ => ?_)
      refine lv_aload_n hx hb d_X_soundSectors_10 rfl (lv_at hl 0 rfl) ?_
      refine lv_iload_n hx hb d_X_soundSectors_11 rfl (lv_at hl 2 rfl) ?_
      refine vp_callSl (W.runV (C := R_X) (b := h0) (As := [.int (nI k)]) (rest := []) ⟨hx, hb, hml, hown, hts⟩ (c_valueOf l dC dI h0 qd qs qv cI cJ _ dk hf gn rt ct sl sm pw ln lq vq ch k (by omega) (by omega) (by omega)) (cwV 1 hts g_X_77 rfl rfl rfl (by decide +kernel) ⟨(Nat.le_of_ble_eq_true rfl), (Nat.le_of_ble_eq_true rfl)⟩) (z_preV (va_recv (q0 := 0) hK hP rfl rfl) hP hK hD) rfl rfl hl.1 rfl (lv_room (Nat.le_of_ble_eq_true rfl)) d_X_soundSectors_12 ⟨(Nat.le_of_ble_eq_true rfl), (Nat.le_of_ble_eq_true rfl)⟩) (fun r hr0 => ?_)
      subst hr0
      refine lv_lconst (v := 0) hx hb d_X_soundSectors_15 (by decide) ?_
      refine W.lcmp hx hb d_X_soundSectors_16 ?_
      refine lv_if_lt (tgt := 26) hx hb d_X_soundSectors_17 (by decide) (fun h1 => ?_) (fun h1 => ?_)
      · refine lv_iinc (k := 2) hx hb d_X_soundSectors_26 hl rfl (z_inc _ 1) (by decide) rfl (fun ls hl => ?_)
        have hl : lv_has ls 3 [(2, .int (nI (k + 1))), (0, .ref h0), (1, .int x)] := hl
        refine lv_goto (tgt := 4) hx hb d_X_soundSectors_29 (by decide) ?_
        exact ih (k + 1) _ ls (by omega) (lv_sub hl [1, 2, 0] rfl) (by rw [← hF, sndF]; simp [*])
      · refine lv_iload_n hx hb d_X_soundSectors_20 rfl (lv_at hl 1 rfl) ?_
        refine lv_iconst (v := (1 : Int32)) hx hb d_X_soundSectors_21 (by decide) ?_
        refine lv_iload_n hx hb d_X_soundSectors_22 rfl (lv_at hl 2 rfl) ?_
        refine lv_ishl hx hb d_X_soundSectors_23 ?_
        refine lv_iadd hx hb d_X_soundSectors_24 ?_
        refine lv_istore_n hx hb d_X_soundSectors_25 rfl hl (by decide) rfl (fun ls hl => ?_)
        have hl : lv_has ls 3 [(1, .int (x + ((1 : Int32) <<< ((nI k) &&& 31)))), (0, .ref h0), (2, .int (nI k))] := hl
        refine lv_iinc (k := 2) hx hb d_X_soundSectors_26 hl rfl (z_inc _ 1) (by decide) rfl (fun ls hl => ?_)
        have hl : lv_has ls 3 [(2, .int (nI (k + 1))), (1, .int (x + ((1 : Int32) <<< ((nI k) &&& 31)))), (0, .ref h0)] := hl
        refine lv_goto (tgt := 4) hx hb d_X_soundSectors_29 (by decide) ?_
        exact ih (k + 1) _ ls (by omega) (lv_sub hl [2, 1, 0] rfl) (by rw [← hF, sndF]; simp [*])
  refine lv_iconst (v := (0 : Int32)) hx hb d_X_soundSectors_0 (by decide) ?_
  refine lv_istore_n hx hb d_X_soundSectors_1 rfl hl (by decide) rfl (fun ls hl => ?_)
  have hl : lv_has ls 3 [(1, .int (0 : Int32)), (0, .ref h0)] := hl
  refine lv_iconst (v := nI 0) hx hb d_X_soundSectors_2 (by decide) ?_
  refine lv_istore_n hx hb d_X_soundSectors_3 rfl hl (by decide) rfl (fun ls hl => ?_)
  have hl : lv_has ls 3 [(2, .int (nI 0)), (1, .int (0 : Int32)), (0, .ref h0)] := hl
  exact loop 8 0 _ ls rfl (lv_sub hl [2, 1, 0] rfl) rfl
set_option maxHeartbeats 4000000 in
set_option maxRecDepth 100000 in
theorem c_chainBehind (l : Launch) (dC : Nat → ClassId) (dI : Nat → Nat → Nat) (h0 qd qs qv : Nat) (cI cJ : ClassId) (sz : Nat) (dk : Nat → Int32) (hf : Nat) (gn : Int32) (rt : Int32) (ct : Int32) (sl : Int32) (sm : Int32) (pw : Bool) (ln : Nat) (lq : Nat → Int32) (vq : Nat → Int64) (ch : Int32) (pp : Nat) (h_p : pp + 2 < 102) : Met l y_X_chainBehind w_X_chainBehind ({ frames := 1, cells := 0, slots := 0, locals := 22 }) (va_Pc [.ref h0, .int (nI pp)] (z_pre (dC, dI) classes [(cI, .int), (cJ, .long)] (Xw h0 qd qs qv cI cJ (dk, hf, gn, rt, ct, sl, sm, pw, ln, lq, vq, ch)) sz)) (vp_Si (fun r => r = chn ch dk pp)) 0 0 (fun _ => False) := by
  refine Met.ofW (cc := b_X_chainBehind) (maxL := 2) (ret := (some .int)) (by decide) rfl ?_
  intro p e s m args below meth c s₁ B hml hv
  obtain ⟨rfl, hsz, hP, hK, hD0⟩ := hv
  have hx := B.exec
  have hb := B.bytes
  have hr := B.returns
  have hts := fun (w : Cond) (h : w ∈ lw_U) => atoms_spec (ws := w_X_chainBehind) B.pre w (List.mem_cons_of_mem _ h)
  have hown : s.vm.findClass R_X = some m.cls := findClass_of_methodNamed B.named
  have hlocks := B.notSynchronized
  subst hsz
  have hD := hD0
  have hl := lv_entry ([.ref h0, .int (nI pp)]) (n := 2) (Nat.le_of_ble_eq_true rfl)
  rw [lg_entry_eq]
  generalize (lg_sl ([.ref h0, .int (nI pp)]) ++ List.replicate (2 - (lg_sl ([.ref h0, .int (nI pp)])).length) Slot.unset).toArray = ls at hl ⊢
  have hl : lv_has ls 2 [(0, .ref h0), (1, .int (nI pp))] := hl
  refine lv_aload_n hx hb d_X_chainBehind_0 rfl (lv_at hl 0 rfl) ?_
  refine va_get (D := (dC, dI)) (ci := 0) (v := .int ch) (C := R_X) (T := F_X) (N := 12) hx hb hts lay_X hown hK hP 0 rfl rfl 11 (by decide) (hts _ m_73) (fun _ h9 => h9) rfl d_X_chainBehind_1 ?_
  refine lv_aload_n hx hb d_X_chainBehind_4 rfl (lv_at hl 0 rfl) ?_
  refine va_get (D := (dC, dI)) (ci := 0) (v := .ref qd) (C := R_X) (T := F_X) (N := 12) hx hb hts lay_X hown hK hP 0 rfl rfl 0 (by decide) (hts _ m_62) (fun _ h9 => h9) rfl d_X_chainBehind_5 ?_
  refine lv_iload_n hx hb d_X_chainBehind_8 rfl (lv_at hl 1 rfl) ?_
  refine z_iald hx hb hK hP 1 0 rfl rfl (by omega) (by decide) d_X_chainBehind_9 ?_
  refine vp_callSi (W.runS (As := [.int ch, .int (dk pp)]) (rest := []) ⟨hx, hb, hml, hown, hts⟩ (c_digest l ch (dk pp)) (cwS 2 hts g_X_100 rfl rfl rfl (by decide +kernel) ⟨(Nat.le_of_ble_eq_true rfl), (Nat.le_of_ble_eq_true rfl)⟩) preEq rfl rfl hl.1 rfl (lv_room (Nat.le_of_ble_eq_true rfl)) d_X_chainBehind_10 ⟨(Nat.le_of_ble_eq_true rfl), (Nat.le_of_ble_eq_true rfl)⟩) (fun r hr0 => ?_)
  subst hr0
  refine lv_aload_n hx hb d_X_chainBehind_13 rfl (lv_at hl 0 rfl) ?_
  refine va_get (D := (dC, dI)) (ci := 0) (v := .ref qd) (C := R_X) (T := F_X) (N := 12) hx hb hts lay_X hown hK hP 0 rfl rfl 0 (by decide) (hts _ m_62) (fun _ h9 => h9) rfl d_X_chainBehind_14 ?_
  refine lv_iload_n hx hb d_X_chainBehind_17 rfl (lv_at hl 1 rfl) ?_
  refine lv_iconst (v := nI 1) hx hb d_X_chainBehind_18 (by decide) ?_
  refine lv_iadd hx hb d_X_chainBehind_19 ?_
  refine z_top (nI_add _ _) ?_
  refine z_iald hx hb hK hP 1 0 rfl rfl (by omega) (by decide) d_X_chainBehind_20 ?_
  refine vp_callSi (W.runS (As := [.int (dg ch (dk pp)), .int (dk (pp + 1))]) (rest := []) ⟨hx, hb, hml, hown, hts⟩ (c_digest l (dg ch (dk pp)) (dk (pp + 1))) (cwS 2 hts g_X_100 rfl rfl rfl (by decide +kernel) ⟨(Nat.le_of_ble_eq_true rfl), (Nat.le_of_ble_eq_true rfl)⟩) preEq rfl rfl hl.1 rfl (lv_room (Nat.le_of_ble_eq_true rfl)) d_X_chainBehind_21 ⟨(Nat.le_of_ble_eq_true rfl), (Nat.le_of_ble_eq_true rfl)⟩) (fun r hr0 => ?_)
  subst hr0
  refine lv_aload_n hx hb d_X_chainBehind_24 rfl (lv_at hl 0 rfl) ?_
  refine va_get (D := (dC, dI)) (ci := 0) (v := .ref qd) (C := R_X) (T := F_X) (N := 12) hx hb hts lay_X hown hK hP 0 rfl rfl 0 (by decide) (hts _ m_62) (fun _ h9 => h9) rfl d_X_chainBehind_25 ?_
  refine lv_iload_n hx hb d_X_chainBehind_28 rfl (lv_at hl 1 rfl) ?_
  refine lv_iconst (v := nI 2) hx hb d_X_chainBehind_29 (by decide) ?_
  refine lv_iadd hx hb d_X_chainBehind_30 ?_
  refine z_top (nI_add _ _) ?_
  refine z_iald hx hb hK hP 1 0 rfl rfl (by omega) (by decide) d_X_chainBehind_31 ?_
  refine vp_callSi (W.runS (As := [.int (dg (dg ch (dk pp)) (dk (pp + 1))), .int (dk (pp + 2))]) (rest := []) ⟨hx, hb, hml, hown, hts⟩ (c_digest l (dg (dg ch (dk pp)) (dk (pp + 1))) (dk (pp + 2))) (cwS 2 hts g_X_100 rfl rfl rfl (by decide +kernel) ⟨(Nat.le_of_ble_eq_true rfl), (Nat.le_of_ble_eq_true rfl)⟩) preEq rfl rfl hl.1 rfl (lv_room (Nat.le_of_ble_eq_true rfl)) d_X_chainBehind_32 ⟨(Nat.le_of_ble_eq_true rfl), (Nat.le_of_ble_eq_true rfl)⟩) (fun r hr0 => ?_)
  subst hr0
  exact W.iret hx hb hr (fun t ht hW => ⟨_, rfl, rfl, ht⟩) (fun q h => by cases h) d_X_chainBehind_35
