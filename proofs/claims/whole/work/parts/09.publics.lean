set_option maxHeartbeats 4000000 in
set_option maxRecDepth 100000 in
theorem c_moveToOtherHalf (l : Launch) (dC : Nat → ClassId) (dI : Nat → Nat → Nat) (h0 qd qs qv : Nat) (cI cJ : ClassId) (sz : Nat) (dk : Nat → Int32) (hf : Nat) (gn : Int32) (rt : Int32) (ct : Int32) (sl : Int32) (sm : Int32) (pw : Bool) (ln : Nat) (lq : Nat → Int32) (vq : Nat → Int64) (ch : Int32)  (h_f : hf < 2) (h_n : ln ≤ 5) : Met l y_X_moveToOtherHalf w_X_moveToOtherHalf ({ frames := 5, cells := 0, slots := 0, locals := 117 }) (va_Pc [.ref h0] (z_pre (dC, dI) classes [(cI, .int), (cJ, .long)] (Xw h0 qd qs qv cI cJ (dk, hf, gn, rt, ct, sl, sm, pw, ln, lq, vq, ch)) sz)) (va_Qi (fun (r : Int32) (u : XS) => mvF (dk, hf, gn, rt, ct, sl, sm, pw, ln, lq, vq, ch) = (r, u) ∧ ((∃ (d1 : Nat → Int32) (sl1 sm1 : Int32), r = gn + 1 ∧ u = (d1, 1 - hf, gn + 1, d1 (51 * (1 - hf) + 15 + 1), 0, sl1, sm1, pw, 0, lq, vq, dg (dg 19088743 (d1 (51 * (1 - hf) + 15 + 1))) (gn + 1))) ∨ (r = -3 ∧ u = (dk, hf, gn, rt, ct, sl, sm, pw, ln, lq, vq, ch)) ∨ (∃ (d1 : Nat → Int32) (sl1 sm1 : Int32), r = -4 ∧ u = (d1, hf, gn, rt, ct, sl1, sm1, false, 0, lq, vq, 0)))) (fun u => z_at (dC, dI) classes [(cI, .int), (cJ, .long)] (va_A (Xw h0 qd qs qv cI cJ (dk, hf, gn, rt, ct, sl, sm, pw, ln, lq, vq, ch)) sz) (Xw h0 qd qs qv cI cJ u)) (va_A (Xw h0 qd qs qv cI cJ (dk, hf, gn, rt, ct, sl, sm, pw, ln, lq, vq, ch)) sz)) 0 0 (va_A (Xw h0 qd qs qv cI cJ (dk, hf, gn, rt, ct, sl, sm, pw, ln, lq, vq, ch)) sz) := by
  refine Met.ofW (cc := b_X_moveToOtherHalf) (maxL := 3) (ret := (some .int)) (by decide) rfl ?_
  intro p e s m args below meth c s₁ B hml hv
  obtain ⟨rfl, hsz, hP, hK, hD0⟩ := hv
  have hx := B.exec
  have hb := B.bytes
  have hr := B.returns
  have hts := fun (w : Cond) (h : w ∈ lw_U) => atoms_spec (ws := w_X_moveToOtherHalf) B.pre w (List.mem_cons_of_mem _ h)
  have hown : s.vm.findClass R_X = some m.cls := findClass_of_methodNamed B.named
  have hlocks := B.notSynchronized
  subst hsz
  have hD := hD0.self (sz := s.heap.size)
  generalize hAe : va_A (Xw h0 qd qs qv cI cJ (dk, hf, gn, rt, ct, sl, sm, pw, ln, lq, vq, ch)) s.heap.size = A at hD ⊢
  have hA : ∀ q : Nat, s.heap.size ≤ q → A q := fun q h => by rw [← hAe]; exact Or.inr h
  have hS : va_S A s.heap s.heap [] := va_S.rf
  have hP : va_P (dC, dI) classes (Xw h0 qd qs qv cI cJ (dk, hf, gn, rt, ct, sl, sm, pw, ln, lq, vq, ch)) s.heap := hP
  have hl := lv_entry ([.ref h0]) (n := 3) (Nat.le_of_ble_eq_true rfl)
  rw [lg_entry_eq]
  generalize (lg_sl ([.ref h0]) ++ List.replicate (3 - (lg_sl ([.ref h0])).length) Slot.unset).toArray = ls at hl ⊢
  have hl : lv_has ls 3 [(0, .ref h0)] := hl
  refine lv_aload_n hx hb d_X_moveToOtherHalf_0 rfl (lv_at hl 0 rfl) ?_
  refine vp_callSi (W.runV (C := R_X) (b := h0) (As := []) (rest := []) ⟨hx, hb, hml, hown, hts⟩ (c_soundSectors l dC dI h0 qd qs qv cI cJ _ dk hf gn rt ct sl sm pw ln lq vq ch (by omega) (by omega)) (cwV 0 hts g_X_91 rfl rfl rfl (by decide +kernel) ⟨(Nat.le_of_ble_eq_true rfl), (Nat.le_of_ble_eq_true rfl)⟩) (z_preV (va_recv (q0 := 0) hK hP rfl rfl) hP hK hD) rfl rfl hl.1 rfl (lv_room (Nat.le_of_ble_eq_true rfl)) d_X_moveToOtherHalf_1 ⟨(Nat.le_of_ble_eq_true rfl), (Nat.le_of_ble_eq_true rfl)⟩) (fun r hr0 => ?_)
  subst hr0
  refine lv_sipush (v := (255 : Int32)) hx hb d_X_moveToOtherHalf_4 (by decide) ?_
  refine lv_icmp_eq (tgt := 13) hx hb d_X_moveToOtherHalf_7 (by decide) (fun h1 => ?_) (fun h1 => ?_)
  · refine lv_iconst (v := nI 1) hx hb d_X_moveToOtherHalf_13 (by decide) ?_
    refine lv_aload_n hx hb d_X_moveToOtherHalf_14 rfl (lv_at hl 0 rfl) ?_
    refine va_get (D := (dC, dI)) (ci := 0) (v := .int (nI hf)) (C := R_X) (T := F_X) (N := 12) hx hb hts lay_X hown hK hP 0 rfl rfl 1 (by decide) (hts _ m_63) (fun _ h9 => h9) rfl d_X_moveToOtherHalf_15 ?_
    refine lv_isub hx hb d_X_moveToOtherHalf_18 ?_
    refine z_top (pk_sub (by omega)) ?_
    refine lv_istore_n hx hb d_X_moveToOtherHalf_19 rfl hl (by decide) rfl (fun ls hl => ?_)
    have hl : lv_has ls 3 [(1, .int (nI (1 - hf))), (0, .ref h0)] := hl
    refine lv_aload_n hx hb d_X_moveToOtherHalf_20 rfl (lv_at hl 1 rfl) ?_
    refine va_get (D := (dC, dI)) (ci := 0) (v := .int gn) (C := R_X) (T := F_X) (N := 12) hx hb hts lay_X hown hK hP 0 rfl rfl 2 (by decide) (hts _ m_64) (fun _ h9 => h9) rfl d_X_moveToOtherHalf_21 ?_
    refine lv_iconst (v := (1 : Int32)) hx hb d_X_moveToOtherHalf_24 (by decide) ?_
    refine lv_iadd hx hb d_X_moveToOtherHalf_25 ?_
    refine lv_istore_n hx hb d_X_moveToOtherHalf_26 rfl hl (by decide) rfl (fun ls hl => ?_)
    have hl : lv_has ls 3 [(2, .int (gn + (1 : Int32))), (1, .int (nI (1 - hf))), (0, .ref h0)] := hl
    refine lv_aload_n hx hb d_X_moveToOtherHalf_27 rfl (lv_at hl 2 rfl) ?_
    refine lv_iload_n hx hb d_X_moveToOtherHalf_28 rfl (lv_at hl 1 rfl) ?_
    refine z_calli (va_runV (C := R_X) (b := h0) (As := [.int (nI (1 - hf))]) (rest := []) ⟨hx, hb, hml, hown, hts⟩ (c_clearMarks l dC dI h0 qd qs qv cI cJ _ dk hf gn rt ct sl sm pw ln lq vq ch (1 - hf) (by omega)) (cwV 1 hts g_X_151 rfl rfl rfl (by decide +kernel) ⟨(Nat.le_of_ble_eq_true rfl), (Nat.le_of_ble_eq_true rfl)⟩) (z_preV (va_recv (q0 := 0) hK hP rfl rfl) hP hK hD) rfl rfl hl.1 rfl (lv_room (Nat.le_of_ble_eq_true rfl)) d_X_moveToOtherHalf_29 ⟨(Nat.le_of_ble_eq_true rfl), (Nat.le_of_ble_eq_true rfl)⟩) hS hD hA (fun r u H locs hr0 hP hD hS => ?_)
    obtain ⟨d2, sl2, sm2, ⟨hc2, rfl, rfl⟩ | ⟨hc2, rfl, rfl⟩⟩ := hr0
    · refine lv_if_eq (tgt := 73) hx hb d_X_moveToOtherHalf_32 (by decide) (fun h9 => absurd h9 (by decide)) (fun _ => ?_)
      refine lv_aload_n hx hb d_X_moveToOtherHalf_35 rfl (lv_at hl 2 rfl) ?_
      refine lv_iload_n hx hb d_X_moveToOtherHalf_36 rfl (lv_at hl 1 rfl) ?_
      refine lv_iload_n hx hb d_X_moveToOtherHalf_37 rfl (lv_at hl 0 rfl) ?_
      refine z_calli (va_runV (C := R_X) (b := h0) (As := [.int (nI (1 - hf)), .int (gn + (1 : Int32))]) (rest := []) ⟨hx, hb, hml, hown, hts⟩ (c_storeSectors l dC dI h0 qd qs qv cI cJ _ d2 hf gn rt ct sl2 sm2 pw ln lq vq ch (1 - hf) (gn + (1 : Int32)) (by omega) (by omega) (by omega)) (cwV 2 hts g_X_154 rfl rfl rfl (by decide +kernel) ⟨(Nat.le_of_ble_eq_true rfl), (Nat.le_of_ble_eq_true rfl)⟩) (z_preV (va_recv (q0 := 0) hK hP rfl rfl) hP hK hD) rfl rfl hl.1 rfl (lv_room (Nat.le_of_ble_eq_true rfl)) d_X_moveToOtherHalf_38 ⟨(Nat.le_of_ble_eq_true rfl), (Nat.le_of_ble_eq_true rfl)⟩) hS hD hA (fun r u H locs hr0 hP hD hS => ?_)
      obtain ⟨d3, sl3, sm3, ⟨hc3, rfl, rfl⟩ | ⟨hc3, rfl, rfl⟩⟩ := hr0
      · refine lv_if_eq (tgt := 73) hx hb d_X_moveToOtherHalf_41 (by decide) (fun h9 => absurd h9 (by decide)) (fun _ => ?_)
        refine lv_aload_n hx hb d_X_moveToOtherHalf_44 rfl (lv_at hl 2 rfl) ?_
        refine lv_iload_n hx hb d_X_moveToOtherHalf_45 rfl (lv_at hl 1 rfl) ?_
        refine lv_iload_n hx hb d_X_moveToOtherHalf_46 rfl (lv_at hl 0 rfl) ?_
        refine z_calli (va_runV (C := R_X) (b := h0) (As := [.int (nI (1 - hf)), .int (gn + (1 : Int32))]) (rest := []) ⟨hx, hb, hml, hown, hts⟩ (c_storeNodes l dC dI h0 qd qs qv cI cJ _ d3 hf gn rt ct sl3 sm3 pw ln lq vq ch (1 - hf) (gn + (1 : Int32)) (by omega)) (cwV 2 hts g_X_157 rfl rfl rfl (by decide +kernel) ⟨(Nat.le_of_ble_eq_true rfl), (Nat.le_of_ble_eq_true rfl)⟩) (z_preV (va_recv (q0 := 0) hK hP rfl rfl) hP hK hD) rfl rfl hl.1 rfl (lv_room (Nat.le_of_ble_eq_true rfl)) d_X_moveToOtherHalf_47 ⟨(Nat.le_of_ble_eq_true rfl), (Nat.le_of_ble_eq_true rfl)⟩) hS hD hA (fun r u H locs hr0 hP hD hS => ?_)
        obtain ⟨d4, sl4, sm4, ⟨hc4, rfl, rfl⟩ | ⟨hc4, rfl, rfl⟩⟩ := hr0
        · refine lv_if_eq (tgt := 73) hx hb d_X_moveToOtherHalf_50 (by decide) (fun h9 => absurd h9 (by decide)) (fun _ => ?_)
          refine lv_aload_n hx hb d_X_moveToOtherHalf_53 rfl (lv_at hl 2 rfl) ?_
          refine lv_iload_n hx hb d_X_moveToOtherHalf_54 rfl (lv_at hl 1 rfl) ?_
          refine lv_iload_n hx hb d_X_moveToOtherHalf_55 rfl (lv_at hl 0 rfl) ?_
          refine lv_aload_n hx hb d_X_moveToOtherHalf_56 rfl (lv_at hl 2 rfl) ?_
          refine va_get (D := (dC, dI)) (ci := 0) (v := .ref qd) (C := R_X) (T := F_X) (N := 12) hx hb hts lay_X hown hK hP 0 rfl rfl 0 (by decide) (hts _ m_62) (fun _ h9 => h9) rfl d_X_moveToOtherHalf_57 ?_
          refine lv_iload_n hx hb d_X_moveToOtherHalf_60 rfl (lv_at hl 1 rfl) ?_
          refine lv_iconst (v := nI 1) hx hb d_X_moveToOtherHalf_61 (by decide) ?_
          refine vp_callSi (W.runS (As := [.int (nI (1 - hf)), .int (nI 1)]) (rest := [.ref qd, .int (gn + (1 : Int32)), .int (nI (1 - hf)), .ref h0]) ⟨hx, hb, hml, hown, hts⟩ (c_nodePlace l (1 - hf) 1) (cwS 2 hts g_X_31 rfl rfl rfl (by decide +kernel) ⟨(Nat.le_of_ble_eq_true rfl), (Nat.le_of_ble_eq_true rfl)⟩) preEq rfl rfl hl.1 rfl (lv_room (Nat.le_of_ble_eq_true rfl)) d_X_moveToOtherHalf_62 ⟨(Nat.le_of_ble_eq_true rfl), (Nat.le_of_ble_eq_true rfl)⟩) (fun r hr0 => ?_)
          subst hr0
          refine z_iald hx hb hK hP 1 0 rfl rfl (by omega) (by decide) d_X_moveToOtherHalf_65 ?_
          refine lv_iconst (v := (0 : Int32)) hx hb d_X_moveToOtherHalf_66 (by decide) ?_
          refine z_calli (va_runV (C := R_X) (b := h0) (As := [.int (nI (1 - hf)), .int (gn + (1 : Int32)), .int (d4 (51 * (1 - hf) + 15 + 1)), .int (0 : Int32)]) (rest := []) ⟨hx, hb, hml, hown, hts⟩ (c_changeSeal l dC dI h0 qd qs qv cI cJ _ d4 hf gn rt ct sl4 sm4 pw ln lq vq ch (1 - hf) (gn + (1 : Int32)) (d4 (51 * (1 - hf) + 15 + 1)) (0 : Int32)) (cwV 4 hts g_X_84 rfl rfl rfl (by decide +kernel) ⟨(Nat.le_of_ble_eq_true rfl), (Nat.le_of_ble_eq_true rfl)⟩) (z_preV (va_recv (q0 := 0) hK hP rfl rfl) hP hK hD) rfl rfl hl.1 rfl (lv_room (Nat.le_of_ble_eq_true rfl)) d_X_moveToOtherHalf_67 ⟨(Nat.le_of_ble_eq_true rfl), (Nat.le_of_ble_eq_true rfl)⟩) hS hD hA (fun r u H locs hr0 hP hD hS => ?_)
          obtain ⟨h5, rfl, rfl⟩ | ⟨h5, rfl, rfl⟩ := hr0
          · refine lv_if_ne (tgt := 76) hx hb d_X_moveToOtherHalf_70 (by decide) (fun h9 => absurd (by decide) h9) (fun _ => ?_)
            refine lv_bipush (v := (-4 : Int32)) hx hb d_X_moveToOtherHalf_73 (by decide) ?_
            exact W.iret hx hb hr (fun t ht hW => ⟨⟨(-4 : Int32), (d4, hf, gn, rt, ct, -1, sm4, false, 0, lq, vq, (0 : Int32)), rfl, ⟨mvF_cut h1 (by rw [cpC, hc2, hc3, hc4]; exact st1_0 h5), Or.inr (Or.inr ⟨_, _, _, rfl, rfl⟩)⟩, by rw [ht]; exact hP, va_K.moved hW.alike hK, hD⟩, hS.F ht⟩) hS.2.2 d_X_moveToOtherHalf_75
          · refine lv_if_ne (tgt := 76) hx hb d_X_moveToOtherHalf_70 (by decide) (fun _ => ?_) (fun h9 => absurd h9 (by decide))
            refine lv_aload_n hx hb d_X_moveToOtherHalf_76 rfl (lv_at hl 2 rfl) ?_
            refine z_callv (va_runV (C := R_X) (b := h0) (As := []) (rest := []) ⟨hx, hb, hml, hown, hts⟩ (c_beginList l dC dI h0 qd qs qv cI cJ _ d4 (1 - hf) (gn + (1 : Int32)) (d4 (51 * (1 - hf) + 15 + 1)) (0 : Int32) (dec1 sl4) (sm4 + 1) pw ln lq vq ch ) (cwV 0 hts g_X_120 rfl rfl rfl (by decide +kernel) ⟨(Nat.le_of_ble_eq_true rfl), (Nat.le_of_ble_eq_true rfl)⟩) (z_preV (va_recv (q0 := 0) hK hP rfl rfl) hP hK hD) rfl rfl hl.1 rfl (lv_room (Nat.le_of_ble_eq_true rfl)) d_X_moveToOtherHalf_77 ⟨(Nat.le_of_ble_eq_true rfl), (Nat.le_of_ble_eq_true rfl)⟩) hS hD hA (fun u H locs hr0 hP hD hS => ?_)
            subst hr0
            refine lv_iload_n hx hb d_X_moveToOtherHalf_80 rfl (lv_at hl 0 rfl) ?_
            exact W.iret hx hb hr (fun t ht hW => ⟨⟨gn + (1 : Int32), (d4, 1 - hf, gn + (1 : Int32), d4 (51 * (1 - hf) + 15 + 1), (0 : Int32), dec1 sl4, sm4 + 1, pw, 0, lq, vq, dg (dg 19088743 (d4 (51 * (1 - hf) + 15 + 1))) (gn + (1 : Int32))), rfl, ⟨mvF_ok h1 (by rw [cpC, hc2, hc3, hc4]; exact st1_1 h5), Or.inl ⟨_, _, _, rfl, rfl⟩⟩, by rw [ht]; exact hP, va_K.moved hW.alike hK, hD⟩, hS.F ht⟩) hS.2.2 d_X_moveToOtherHalf_81
        · refine lv_if_eq (tgt := 73) hx hb d_X_moveToOtherHalf_50 (by decide) (fun _ => ?_) (fun h9 => absurd (by decide) h9)
          refine lv_bipush (v := (-4 : Int32)) hx hb d_X_moveToOtherHalf_73 (by decide) ?_
          exact W.iret hx hb hr (fun t ht hW => ⟨⟨(-4 : Int32), (d4, hf, gn, rt, ct, sl4, sm4, false, 0, lq, vq, (0 : Int32)), rfl, ⟨mvF_cut h1 (by rw [cpC, hc2, hc3, hc4]; first | (simp only [ssF_f, snF_f]; rfl) | rfl), Or.inr (Or.inr ⟨_, _, _, rfl, rfl⟩)⟩, by rw [ht]; exact hP, va_K.moved hW.alike hK, hD⟩, hS.F ht⟩) hS.2.2 d_X_moveToOtherHalf_75
      · refine lv_if_eq (tgt := 73) hx hb d_X_moveToOtherHalf_41 (by decide) (fun _ => ?_) (fun h9 => absurd (by decide) h9)
        refine lv_bipush (v := (-4 : Int32)) hx hb d_X_moveToOtherHalf_73 (by decide) ?_
        exact W.iret hx hb hr (fun t ht hW => ⟨⟨(-4 : Int32), (d3, hf, gn, rt, ct, sl3, sm3, false, 0, lq, vq, (0 : Int32)), rfl, ⟨mvF_cut h1 (by rw [cpC, hc2, hc3]; first | (simp only [ssF_f, snF_f]; rfl) | rfl), Or.inr (Or.inr ⟨_, _, _, rfl, rfl⟩)⟩, by rw [ht]; exact hP, va_K.moved hW.alike hK, hD⟩, hS.F ht⟩) hS.2.2 d_X_moveToOtherHalf_75
    · refine lv_if_eq (tgt := 73) hx hb d_X_moveToOtherHalf_32 (by decide) (fun _ => ?_) (fun h9 => absurd (by decide) h9)
      refine lv_bipush (v := (-4 : Int32)) hx hb d_X_moveToOtherHalf_73 (by decide) ?_
      exact W.iret hx hb hr (fun t ht hW => ⟨⟨(-4 : Int32), (d2, hf, gn, rt, ct, sl2, sm2, false, 0, lq, vq, (0 : Int32)), rfl, ⟨mvF_cut h1 (by rw [cpC, hc2]; first | (simp only [ssF_f, snF_f]; rfl) | rfl), Or.inr (Or.inr ⟨_, _, _, rfl, rfl⟩)⟩, by rw [ht]; exact hP, va_K.moved hW.alike hK, hD⟩, hS.F ht⟩) hS.2.2 d_X_moveToOtherHalf_75
  · refine lv_bipush (v := (-3 : Int32)) hx hb d_X_moveToOtherHalf_10 (by decide) ?_
    exact W.iret hx hb hr (fun t ht hW => ⟨⟨(-3 : Int32), (dk, hf, gn, rt, ct, sl, sm, pw, ln, lq, vq, ch), rfl, ⟨mvF_no h1, Or.inr (Or.inl ⟨rfl, rfl⟩)⟩, by rw [ht]; exact hP, va_K.moved hW.alike hK, hD⟩, hS.F ht⟩) hS.2.2 d_X_moveToOtherHalf_12
set_option maxHeartbeats 4000000 in
set_option maxRecDepth 100000 in
theorem c_mount (l : Launch) (dC : Nat → ClassId) (dI : Nat → Nat → Nat) (h0 qd qs qv : Nat) (cI cJ : ClassId) (sz : Nat) (dk : Nat → Int32) (hf : Nat) (gn : Int32) (rt : Int32) (ct : Int32) (sl : Int32) (sm : Int32) (pw : Bool) (ln : Nat) (lq : Nat → Int32) (vq : Nat → Int64) (ch : Int32)  (h_f : hf < 2) : Met l y_X_mount w_X_mount ({ frames := 4, cells := 0, slots := 0, locals := 95 }) (va_Pc [.ref h0] (z_pre (dC, dI) classes [(cI, .int), (cJ, .long)] (Xw h0 qd qs qv cI cJ (dk, hf, gn, rt, ct, sl, sm, pw, ln, lq, vq, ch)) sz)) (va_Qi (fun (r : Int32) (u : XS) => ∃ (n1 : Nat) (lq1 : Nat → Int32) (vq1 : Nat → Int64) (ch1 : Int32), tj dk hf gn 5 0 lq vq (dg (dg 19088743 rt) gn) = (n1, lq1, vq1, ch1) ∧ n1 ≤ 5 ∧ ((ct ≤ nI n1 ∧ r = nI n1 ∧ u = (dk, hf, gn, rt, ct, sl, sm, true, n1, lq1, vq1, ch1)) ∨ (¬ ct ≤ nI n1 ∧ r = -3 ∧ u = (dk, hf, gn, rt, ct, sl, sm, false, 0, lq1, vq1, 0)))) (fun u => z_at (dC, dI) classes [(cI, .int), (cJ, .long)] (va_A (Xw h0 qd qs qv cI cJ (dk, hf, gn, rt, ct, sl, sm, pw, ln, lq, vq, ch)) sz) (Xw h0 qd qs qv cI cJ u)) (va_A (Xw h0 qd qs qv cI cJ (dk, hf, gn, rt, ct, sl, sm, pw, ln, lq, vq, ch)) sz)) 0 0 (va_A (Xw h0 qd qs qv cI cJ (dk, hf, gn, rt, ct, sl, sm, pw, ln, lq, vq, ch)) sz) := by
  refine Met.ofW (cc := b_X_mount) (maxL := 1) (ret := (some .int)) (by decide) rfl ?_
  intro p e s m args below meth c s₁ B hml hv
  obtain ⟨rfl, hsz, hP, hK, hD0⟩ := hv
  have hx := B.exec
  have hb := B.bytes
  have hr := B.returns
  have hts := fun (w : Cond) (h : w ∈ lw_U) => atoms_spec (ws := w_X_mount) B.pre w (List.mem_cons_of_mem _ h)
  have hown : s.vm.findClass R_X = some m.cls := findClass_of_methodNamed B.named
  have hlocks := B.notSynchronized
  subst hsz
  have hD := hD0.self (sz := s.heap.size)
  generalize hAe : va_A (Xw h0 qd qs qv cI cJ (dk, hf, gn, rt, ct, sl, sm, pw, ln, lq, vq, ch)) s.heap.size = A at hD ⊢
  have hA : ∀ q : Nat, s.heap.size ≤ q → A q := fun q h => by rw [← hAe]; exact Or.inr h
  have hS : va_S A s.heap s.heap [] := va_S.rf
  have hP : va_P (dC, dI) classes (Xw h0 qd qs qv cI cJ (dk, hf, gn, rt, ct, sl, sm, pw, ln, lq, vq, ch)) s.heap := hP
  have hl := lv_entry ([.ref h0]) (n := 1) (Nat.le_of_ble_eq_true rfl)
  rw [lg_entry_eq]
  generalize (lg_sl ([.ref h0]) ++ List.replicate (1 - (lg_sl ([.ref h0])).length) Slot.unset).toArray = ls at hl ⊢
  have hl : lv_has ls 1 [(0, .ref h0)] := hl
  refine lv_aload_n hx hb d_X_mount_0 rfl (lv_at hl 0 rfl) ?_
  refine z_callv (va_runV (C := R_X) (b := h0) (As := []) (rest := []) ⟨hx, hb, hml, hown, hts⟩ (c_takeJournal l dC dI h0 qd qs qv cI cJ _ dk hf gn rt ct sl sm pw ln lq vq ch (by omega)) (cwV 0 hts g_X_41 rfl rfl rfl (by decide +kernel) ⟨(Nat.le_of_ble_eq_true rfl), (Nat.le_of_ble_eq_true rfl)⟩) (z_preV (va_recv (q0 := 0) hK hP rfl rfl) hP hK hD) rfl rfl hl.1 rfl (lv_room (Nat.le_of_ble_eq_true rfl)) d_X_mount_1 ⟨(Nat.le_of_ble_eq_true rfl), (Nat.le_of_ble_eq_true rfl)⟩) hS hD hA (fun u H locs hr0 hP hD hS => ?_)
  obtain ⟨n1, lq1, vq1, ch1, hj1, hn1, rfl⟩ := hr0
  refine lv_aload_n hx hb d_X_mount_4 rfl (lv_at hl 0 rfl) ?_
  refine va_get (D := (dC, dI)) (ci := 0) (v := .int (nI n1)) (C := R_X) (T := F_X) (N := 12) hx hb hts lay_X hown hK hP 0 rfl rfl 8 (by decide) (hts _ m_70) (fun _ h9 => h9) rfl d_X_mount_5 ?_
  refine lv_aload_n hx hb d_X_mount_8 rfl (lv_at hl 0 rfl) ?_
  refine va_get (D := (dC, dI)) (ci := 0) (v := .int ct) (C := R_X) (T := F_X) (N := 12) hx hb hts lay_X hown hK hP 0 rfl rfl 4 (by decide) (hts _ m_66) (fun _ h9 => h9) rfl d_X_mount_9 ?_
  refine lv_icmp_ge (tgt := 22) hx hb d_X_mount_12 (by decide) (fun h2 => ?_) (fun h2 => ?_)
  · refine lv_aload_n hx hb d_X_mount_22 rfl (lv_at hl 0 rfl) ?_
    refine lv_iconst (v := (1 : Int32)) hx hb d_X_mount_23 (by decide) ?_
    refine va_put (D := (dC, dI)) (ci := 0) (v := .int (1 : Int32)) (ty := .boolean) (C := R_X) (T := F_X) (N := 12) hx hb hts lay_X t_X t_X_ok n_X hown hK hP hD hS 0 rfl rfl 7 (by decide) (hts _ m_69) (fun _ h9 => h9) rfl (by decide +kernel) rfl rfl (Nat.le_of_ble_eq_true rfl) d_X_mount_24 (fun H locs hP hD hS => ?_)
    have hP : va_P (dC, dI) classes (Xw h0 qd qs qv cI cJ (dk, hf, gn, rt, ct, sl, sm, true, n1, lq1, vq1, ch1)) H := hP
    have hD : va_D A (Xw h0 qd qs qv cI cJ (dk, hf, gn, rt, ct, sl, sm, true, n1, lq1, vq1, ch1)) := hD
    refine lv_aload_n hx hb d_X_mount_27 rfl (lv_at hl 0 rfl) ?_
    refine va_get (D := (dC, dI)) (ci := 0) (v := .int (nI n1)) (C := R_X) (T := F_X) (N := 12) hx hb hts lay_X hown hK hP 0 rfl rfl 8 (by decide) (hts _ m_70) (fun _ h9 => h9) rfl d_X_mount_28 ?_
    exact W.iret hx hb hr (fun t ht hW => ⟨⟨nI n1, (dk, hf, gn, rt, ct, sl, sm, true, n1, lq1, vq1, ch1), rfl, ⟨_, _, _, _, hj1, hn1, Or.inl ⟨h2, rfl, rfl⟩⟩, by rw [ht]; exact hP, va_K.moved hW.alike hK, hD⟩, hS.F ht⟩) hS.2.2 d_X_mount_31
  · refine lv_aload_n hx hb d_X_mount_15 rfl (lv_at hl 0 rfl) ?_
    refine z_callv (va_runV (C := R_X) (b := h0) (As := []) (rest := []) ⟨hx, hb, hml, hown, hts⟩ (c_forget l dC dI h0 qd qs qv cI cJ _ dk hf gn rt ct sl sm pw n1 lq1 vq1 ch1 ) (cwV 0 hts g_X_50 rfl rfl rfl (by decide +kernel) ⟨(Nat.le_of_ble_eq_true rfl), (Nat.le_of_ble_eq_true rfl)⟩) (z_preV (va_recv (q0 := 0) hK hP rfl rfl) hP hK hD) rfl rfl hl.1 rfl (lv_room (Nat.le_of_ble_eq_true rfl)) d_X_mount_16 ⟨(Nat.le_of_ble_eq_true rfl), (Nat.le_of_ble_eq_true rfl)⟩) hS hD hA (fun u H locs hr0 hP hD hS => ?_)
    subst hr0
    refine lv_bipush (v := (-3 : Int32)) hx hb d_X_mount_19 (by decide) ?_
    exact W.iret hx hb hr (fun t ht hW => ⟨⟨(-3 : Int32), (dk, hf, gn, rt, ct, sl, sm, false, 0, lq1, vq1, (0 : Int32)), rfl, ⟨_, _, _, _, hj1, hn1, Or.inr ⟨h2, rfl, rfl⟩⟩, by rw [ht]; exact hP, va_K.moved hW.alike hK, hD⟩, hS.F ht⟩) hS.2.2 d_X_mount_21
set_option maxHeartbeats 4000000 in
set_option maxRecDepth 100000 in
theorem c_arm (l : Launch) (dC : Nat → ClassId) (dI : Nat → Nat → Nat) (h0 qd qs qv : Nat) (cI cJ : ClassId) (sz : Nat) (dk : Nat → Int32) (hf : Nat) (gn : Int32) (rt : Int32) (ct : Int32) (sl : Int32) (sm : Int32) (pw : Bool) (ln : Nat) (lq : Nat → Int32) (vq : Nat → Int64) (ch : Int32) (x0 : Int32)  : Met l y_X_arm w_X_arm ({ frames := 0, cells := 0, slots := 0, locals := 0 }) (va_Pc [.ref h0, .int x0] (z_pre (dC, dI) classes [(cI, .int), (cJ, .long)] (Xw h0 qd qs qv cI cJ (dk, hf, gn, rt, ct, sl, sm, pw, ln, lq, vq, ch)) sz)) (va_Qi (fun (r : Int32) (u : XS) => (0 ≤ x0 ∧ r = 1 ∧ u = (dk, hf, gn, rt, ct, x0, sm, pw, ln, lq, vq, ch)) ∨ (¬ 0 ≤ x0 ∧ r = 0 ∧ u = (dk, hf, gn, rt, ct, sl, sm, pw, ln, lq, vq, ch))) (fun u => z_at (dC, dI) classes [(cI, .int), (cJ, .long)] (va_A (Xw h0 qd qs qv cI cJ (dk, hf, gn, rt, ct, sl, sm, pw, ln, lq, vq, ch)) sz) (Xw h0 qd qs qv cI cJ u)) (va_A (Xw h0 qd qs qv cI cJ (dk, hf, gn, rt, ct, sl, sm, pw, ln, lq, vq, ch)) sz)) 0 0 (va_A (Xw h0 qd qs qv cI cJ (dk, hf, gn, rt, ct, sl, sm, pw, ln, lq, vq, ch)) sz) := by
  refine Met.ofW (cc := b_X_arm) (maxL := 2) (ret := (some .boolean)) (by decide) rfl ?_
  intro p e s m args below meth c s₁ B hml hv
  obtain ⟨rfl, hsz, hP, hK, hD0⟩ := hv
  have hx := B.exec
  have hb := B.bytes
  have hr := B.returns
  have hts := fun (w : Cond) (h : w ∈ lw_U) => atoms_spec (ws := w_X_arm) B.pre w (List.mem_cons_of_mem _ h)
  have hown : s.vm.findClass R_X = some m.cls := findClass_of_methodNamed B.named
  have hlocks := B.notSynchronized
  subst hsz
  have hD := hD0.self (sz := s.heap.size)
  generalize hAe : va_A (Xw h0 qd qs qv cI cJ (dk, hf, gn, rt, ct, sl, sm, pw, ln, lq, vq, ch)) s.heap.size = A at hD ⊢
  have hA : ∀ q : Nat, s.heap.size ≤ q → A q := fun q h => by rw [← hAe]; exact Or.inr h
  have hS : va_S A s.heap s.heap [] := va_S.rf
  have hP : va_P (dC, dI) classes (Xw h0 qd qs qv cI cJ (dk, hf, gn, rt, ct, sl, sm, pw, ln, lq, vq, ch)) s.heap := hP
  have hl := lv_entry ([.ref h0, .int x0]) (n := 2) (Nat.le_of_ble_eq_true rfl)
  rw [lg_entry_eq]
  generalize (lg_sl ([.ref h0, .int x0]) ++ List.replicate (2 - (lg_sl ([.ref h0, .int x0])).length) Slot.unset).toArray = ls at hl ⊢
  have hl : lv_has ls 2 [(0, .ref h0), (1, .int x0)] := hl
  refine lv_iload_n hx hb d_X_arm_0 rfl (lv_at hl 1 rfl) ?_
  refine lv_if_ge (tgt := 6) hx hb d_X_arm_1 (by decide) (fun h1 => ?_) (fun h1 => ?_)
  · refine lv_aload_n hx hb d_X_arm_6 rfl (lv_at hl 0 rfl) ?_
    refine lv_iload_n hx hb d_X_arm_7 rfl (lv_at hl 1 rfl) ?_
    refine va_put (D := (dC, dI)) (ci := 0) (v := .int x0) (ty := .int) (C := R_X) (T := F_X) (N := 12) hx hb hts lay_X t_X t_X_ok n_X hown hK hP hD hS 0 rfl rfl 5 (by decide) (hts _ m_67) (fun _ h9 => h9) rfl (by decide +kernel) rfl rfl (Nat.le_of_ble_eq_true rfl) d_X_arm_8 (fun H locs hP hD hS => ?_)
    have hP : va_P (dC, dI) classes (Xw h0 qd qs qv cI cJ (dk, hf, gn, rt, ct, x0, sm, pw, ln, lq, vq, ch)) H := hP
    have hD : va_D A (Xw h0 qd qs qv cI cJ (dk, hf, gn, rt, ct, x0, sm, pw, ln, lq, vq, ch)) := hD
    refine lv_iconst (v := (1 : Int32)) hx hb d_X_arm_11 (by decide) ?_
    exact W.zret hx hb hr rfl (fun t ht hW => ⟨⟨(1 : Int32), (dk, hf, gn, rt, ct, x0, sm, pw, ln, lq, vq, ch), rfl, Or.inl ⟨h1, rfl, rfl⟩, by rw [ht]; exact hP, va_K.moved hW.alike hK, hD⟩, hS.F ht⟩) hS.2.2 d_X_arm_12
  · refine lv_iconst (v := (0 : Int32)) hx hb d_X_arm_4 (by decide) ?_
    exact W.zret hx hb hr rfl (fun t ht hW => ⟨⟨(0 : Int32), (dk, hf, gn, rt, ct, sl, sm, pw, ln, lq, vq, ch), rfl, Or.inr ⟨h1, rfl, rfl⟩, by rw [ht]; exact hP, va_K.moved hW.alike hK, hD⟩, hS.F ht⟩) hS.2.2 d_X_arm_5
set_option maxHeartbeats 4000000 in
set_option maxRecDepth 100000 in
theorem c_isOn (l : Launch) (dC : Nat → ClassId) (dI : Nat → Nat → Nat) (h0 qd qs qv : Nat) (cI cJ : ClassId) (sz : Nat) (dk : Nat → Int32) (hf : Nat) (gn : Int32) (rt : Int32) (ct : Int32) (sl : Int32) (sm : Int32) (pw : Bool) (ln : Nat) (lq : Nat → Int32) (vq : Nat → Int64) (ch : Int32)   : Met l y_X_isOn w_X_isOn ({ frames := 0, cells := 0, slots := 0, locals := 0 }) (va_Pc [.ref h0] (z_pre (dC, dI) classes [(cI, .int), (cJ, .long)] (Xw h0 qd qs qv cI cJ (dk, hf, gn, rt, ct, sl, sm, pw, ln, lq, vq, ch)) sz)) (vp_Si (fun r => r = bI pw)) 0 0 (fun _ => False) := by
  refine Met.ofW (cc := b_X_isOn) (maxL := 1) (ret := (some .boolean)) (by decide) rfl ?_
  intro p e s m args below meth c s₁ B hml hv
  obtain ⟨rfl, hsz, hP, hK, hD0⟩ := hv
  have hx := B.exec
  have hb := B.bytes
  have hr := B.returns
  have hts := fun (w : Cond) (h : w ∈ lw_U) => atoms_spec (ws := w_X_isOn) B.pre w (List.mem_cons_of_mem _ h)
  have hown : s.vm.findClass R_X = some m.cls := findClass_of_methodNamed B.named
  have hlocks := B.notSynchronized
  subst hsz
  have hD := hD0
  have hl := lv_entry ([.ref h0]) (n := 1) (Nat.le_of_ble_eq_true rfl)
  rw [lg_entry_eq]
  generalize (lg_sl ([.ref h0]) ++ List.replicate (1 - (lg_sl ([.ref h0])).length) Slot.unset).toArray = ls at hl ⊢
  have hl : lv_has ls 1 [(0, .ref h0)] := hl
  refine lv_aload_n hx hb d_X_isOn_0 rfl (lv_at hl 0 rfl) ?_
  refine va_get (D := (dC, dI)) (ci := 0) (v := .int (bI pw)) (C := R_X) (T := F_X) (N := 12) hx hb hts lay_X hown hK hP 0 rfl rfl 7 (by decide) (hts _ m_69) (fun _ h9 => h9) rfl d_X_isOn_1 ?_
  exact W.zret hx hb hr (by cases pw <;> rfl) (fun t ht hW => ⟨_, rfl, rfl, ht⟩) (fun q h => by cases h) d_X_isOn_4
set_option maxHeartbeats 4000000 in
set_option maxRecDepth 100000 in
theorem c_write (l : Launch) (dC : Nat → ClassId) (dI : Nat → Nat → Nat) (h0 qd qs qv : Nat) (cI cJ : ClassId) (sz : Nat) (dk : Nat → Int32) (hf : Nat) (gn : Int32) (rt : Int32) (ct : Int32) (sl : Int32) (sm : Int32) (pw : Bool) (ln : Nat) (lq : Nat → Int32) (vq : Nat → Int64) (ch : Int32) (x0 : Int32) (v0 : Int64) (h_f : hf < 2) (h_n : ln ≤ 5) : Met l y_X_write w_X_write ({ frames := 6, cells := 0, slots := 0, locals := 139 }) (va_Pc [.ref h0, .int x0, .long v0] (z_pre (dC, dI) classes [(cI, .int), (cJ, .long)] (Xw h0 qd qs qv cI cJ (dk, hf, gn, rt, ct, sl, sm, pw, ln, lq, vq, ch)) sz)) (va_Qi (fun (r : Int32) (u : XS) => (r, u) = wrF (dk, hf, gn, rt, ct, sl, sm, pw, ln, lq, vq, ch) x0 v0) (fun u => z_at (dC, dI) classes [(cI, .int), (cJ, .long)] (va_A (Xw h0 qd qs qv cI cJ (dk, hf, gn, rt, ct, sl, sm, pw, ln, lq, vq, ch)) sz) (Xw h0 qd qs qv cI cJ u)) (va_A (Xw h0 qd qs qv cI cJ (dk, hf, gn, rt, ct, sl, sm, pw, ln, lq, vq, ch)) sz)) 0 0 (va_A (Xw h0 qd qs qv cI cJ (dk, hf, gn, rt, ct, sl, sm, pw, ln, lq, vq, ch)) sz) := by
  refine Met.ofW (cc := b_X_write) (maxL := 5) (ret := (some .int)) (by decide) rfl ?_
  intro p e s m args below meth c s₁ B hml hv
  obtain ⟨rfl, hsz, hP, hK, hD0⟩ := hv
  have hx := B.exec
  have hb := B.bytes
  have hr := B.returns
  have hts := fun (w : Cond) (h : w ∈ lw_U) => atoms_spec (ws := w_X_write) B.pre w (List.mem_cons_of_mem _ h)
  have hown : s.vm.findClass R_X = some m.cls := findClass_of_methodNamed B.named
  have hlocks := B.notSynchronized
  subst hsz
  have hD := hD0.self (sz := s.heap.size)
  generalize hAe : va_A (Xw h0 qd qs qv cI cJ (dk, hf, gn, rt, ct, sl, sm, pw, ln, lq, vq, ch)) s.heap.size = A at hD ⊢
  have hA : ∀ q : Nat, s.heap.size ≤ q → A q := fun q h => by rw [← hAe]; exact Or.inr h
  have hS : va_S A s.heap s.heap [] := va_S.rf
  have hP : va_P (dC, dI) classes (Xw h0 qd qs qv cI cJ (dk, hf, gn, rt, ct, sl, sm, pw, ln, lq, vq, ch)) s.heap := hP
  have hl := lv_entry ([.ref h0, .int x0, .long v0]) (n := 5) (Nat.le_of_ble_eq_true rfl)
  rw [lg_entry_eq]
  generalize (lg_sl ([.ref h0, .int x0, .long v0]) ++ List.replicate (5 - (lg_sl ([.ref h0, .int x0, .long v0])).length) Slot.unset).toArray = ls at hl ⊢
  have hl : lv_has ls 5 [(0, .ref h0), (1, .int x0), (2, .long v0)] := hl
  cases pw with
  | false =>
    refine lv_aload_n hx hb d_X_write_0 rfl (lv_at hl 0 rfl) ?_
    refine va_get (D := (dC, dI)) (ci := 0) (v := .int (bI false)) (C := R_X) (T := F_X) (N := 12) hx hb hts lay_X hown hK hP 0 rfl rfl 7 (by decide) (hts _ m_69) (fun _ h9 => h9) rfl d_X_write_1 ?_
    refine lv_if_ne (tgt := 9) hx hb d_X_write_4 (by decide) (fun h9 => absurd (by decide) h9) (fun _ => ?_)
    refine lv_iconst (v := (-1 : Int32)) hx hb d_X_write_7 (by decide) ?_
    exact W.iret hx hb hr (fun t ht hW => ⟨⟨(-1 : Int32), (dk, hf, gn, rt, ct, sl, sm, false, ln, lq, vq, ch), rfl, rfl, by rw [ht]; exact hP, va_K.moved hW.alike hK, hD⟩, hS.F ht⟩) hS.2.2 d_X_write_8
  | true =>
    refine lv_aload_n hx hb d_X_write_0 rfl (lv_at hl 0 rfl) ?_
    refine va_get (D := (dC, dI)) (ci := 0) (v := .int (bI true)) (C := R_X) (T := F_X) (N := 12) hx hb hts lay_X hown hK hP 0 rfl rfl 7 (by decide) (hts _ m_69) (fun _ h9 => h9) rfl d_X_write_1 ?_
    refine lv_if_ne (tgt := 9) hx hb d_X_write_4 (by decide) (fun _ => ?_) (fun h9 => absurd h9 (by decide))
    refine lv_iload_n hx hb d_X_write_9 rfl (lv_at hl 1 rfl) ?_
    refine vp_callSi (W.runS (As := [.int x0]) (rest := []) ⟨hx, hb, hml, hown, hts⟩ (c_isSector l x0) (cwS 1 hts g_X_57 rfl rfl rfl (by decide +kernel) ⟨(Nat.le_of_ble_eq_true rfl), (Nat.le_of_ble_eq_true rfl)⟩) preEq rfl rfl hl.1 rfl (lv_room (Nat.le_of_ble_eq_true rfl)) d_X_write_10 ⟨(Nat.le_of_ble_eq_true rfl), (Nat.le_of_ble_eq_true rfl)⟩) (fun r hr0 => ?_)
    subst hr0
    refine lv_if_eq (tgt := 22) hx hb d_X_write_13 (by decide) (fun h1 => ?_) (fun h1 => ?_)
    · refine lv_bipush (v := (-2 : Int32)) hx hb d_X_write_22 (by decide) ?_
      exact W.iret hx hb hr (fun t ht hW => ⟨⟨(-2 : Int32), (dk, hf, gn, rt, ct, sl, sm, true, ln, lq, vq, ch), rfl, (by simp only [wrF, srF]; simp [*]), by rw [ht]; exact hP, va_K.moved hW.alike hK, hD⟩, hS.F ht⟩) hS.2.2 d_X_write_24
    · refine lv_lload_n hx hb d_X_write_16 rfl (lv_at hl 2 rfl) ?_
      refine lv_lconst (v := 0) hx hb d_X_write_17 (by decide) ?_
      refine W.lcmp hx hb d_X_write_18 ?_
      refine lv_if_ge (tgt := 25) hx hb d_X_write_19 (by decide) (fun h2 => ?_) (fun h2 => ?_)
      · refine lv_aload_n hx hb d_X_write_25 rfl (lv_at hl 0 rfl) ?_
        refine va_get (D := (dC, dI)) (ci := 0) (v := .int (nI ln)) (C := R_X) (T := F_X) (N := 12) hx hb hts lay_X hown hK hP 0 rfl rfl 8 (by decide) (hts _ m_70) (fun _ h9 => h9) rfl d_X_write_26 ?_
        refine lv_iconst (v := nI 5) hx hb d_X_write_29 (by decide) ?_
        refine lv_icmp_lt (tgt := 47) hx hb d_X_write_30 (by decide) (fun h3 => ?_) (fun h3 => ?_)
        · have h3 : ln < 5 := (nI_ltI (by omega) (by omega)).mp h3
          refine lv_aload_n hx hb d_X_write_47 rfl (lv_at hl 0 rfl) ?_
          refine lv_iload_n hx hb d_X_write_48 rfl (lv_at hl 1 rfl) ?_
          refine lv_lload_n hx hb d_X_write_49 rfl (lv_at hl 2 rfl) ?_
          refine z_calli (va_runV (C := R_X) (b := h0) (As := [.int x0, .long v0]) (rest := []) ⟨hx, hb, hml, hown, hts⟩ (c_storeRecord l dC dI h0 qd qs qv cI cJ _ dk hf gn rt ct sl sm true ln lq vq ch x0 v0 (by omega) (by omega)) (cwV 2 hts g_X_65 rfl rfl rfl (by decide +kernel) ⟨(Nat.le_of_ble_eq_true rfl), (Nat.le_of_ble_eq_true rfl)⟩) (z_preV (va_recv (q0 := 0) hK hP rfl rfl) hP hK hD) rfl rfl hl.1 rfl (lv_room (Nat.le_of_ble_eq_true rfl)) d_X_write_50 ⟨(Nat.le_of_ble_eq_true rfl), (Nat.le_of_ble_eq_true rfl)⟩) hS hD hA (fun r u H locs hr0 hP hD hS => ?_)
          obtain ⟨d4, sl4, sm4, ⟨hc4, rfl, rfl⟩ | ⟨hc4, rfl, rfl⟩⟩ := hr0
          · refine lv_if_ne (tgt := 59) hx hb d_X_write_53 (by decide) (fun _ => ?_) (fun h9 => absurd h9 (by decide))
            refine lv_aload_n hx hb d_X_write_59 rfl (lv_at hl 0 rfl) ?_
            refine lv_iload_n hx hb d_X_write_60 rfl (lv_at hl 1 rfl) ?_
            refine lv_lload_n hx hb d_X_write_61 rfl (lv_at hl 2 rfl) ?_
            refine z_callv (va_runV (C := R_X) (b := h0) (As := [.int x0, .long v0]) (rest := []) ⟨hx, hb, hml, hown, hts⟩ (c_addToList l dC dI h0 qd qs qv cI cJ _ d4 hf gn rt ct sl4 sm4 true ln lq vq (chn ch (wv1 (wr1 (true, (dk, sl, sm)) (51 * hf + 31 + 4 * ln) (enc x0 (nI (51 * hf + 31 + 4 * ln)) gn)) ((51 * hf + 31 + 4 * ln) + 1) v0 gn).2.1 (51 * hf + 31 + 4 * ln)) x0 v0 (by omega)) (cwV 2 hts g_X_69 rfl rfl rfl (by decide +kernel) ⟨(Nat.le_of_ble_eq_true rfl), (Nat.le_of_ble_eq_true rfl)⟩) (z_preV (va_recv (q0 := 0) hK hP rfl rfl) hP hK hD) rfl rfl hl.1 rfl (lv_room (Nat.le_of_ble_eq_true rfl)) d_X_write_62 ⟨(Nat.le_of_ble_eq_true rfl), (Nat.le_of_ble_eq_true rfl)⟩) hS hD hA (fun u H locs hr0 hP hD hS => ?_)
            subst hr0
            refine lv_aload_n hx hb d_X_write_65 rfl (lv_at hl 0 rfl) ?_
            refine va_get (D := (dC, dI)) (ci := 0) (v := .int (nI (ln + 1))) (C := R_X) (T := F_X) (N := 12) hx hb hts lay_X hown hK hP 0 rfl rfl 8 (by decide) (hts _ m_70) (fun _ h9 => h9) rfl d_X_write_66 ?_
            exact W.iret hx hb hr (fun t ht hW => ⟨⟨nI (ln + 1), (d4, hf, gn, rt, ct, sl4, sm4, true, ln + 1, upd lq ln x0, vp_updL vq ln v0, chn ch (wv1 (wr1 (true, (dk, sl, sm)) (51 * hf + 31 + 4 * ln) (enc x0 (nI (51 * hf + 31 + 4 * ln)) gn)) ((51 * hf + 31 + 4 * ln) + 1) v0 gn).2.1 (51 * hf + 31 + 4 * ln)), rfl, (by simp only [wrF, srF]; simp [*]), by rw [ht]; exact hP, va_K.moved hW.alike hK, hD⟩, hS.F ht⟩) hS.2.2 d_X_write_69
          · refine lv_if_ne (tgt := 59) hx hb d_X_write_53 (by decide) (fun h9 => absurd (by decide) h9) (fun _ => ?_)
            refine lv_bipush (v := (-4 : Int32)) hx hb d_X_write_56 (by decide) ?_
            exact W.iret hx hb hr (fun t ht hW => ⟨⟨(-4 : Int32), (d4, hf, gn, rt, ct, sl4, sm4, false, 0, lq, vq, (0 : Int32)), rfl, (by simp only [wrF, srF]; simp [*]), by rw [ht]; exact hP, va_K.moved hW.alike hK, hD⟩, hS.F ht⟩) hS.2.2 d_X_write_58
        · have h3 : ¬ ln < 5 := fun q => h3 ((nI_ltI (by omega) (by omega)).mpr q)
          refine lv_aload_n hx hb d_X_write_33 rfl (lv_at hl 0 rfl) ?_
          refine z_calli (va_runV (C := R_X) (b := h0) (As := []) (rest := []) ⟨hx, hb, hml, hown, hts⟩ (c_moveToOtherHalf l dC dI h0 qd qs qv cI cJ _ dk hf gn rt ct sl sm true ln lq vq ch (by omega) (by omega)) (cwV 0 hts g_X_61 rfl rfl rfl (by decide +kernel) ⟨(Nat.le_of_ble_eq_true rfl), (Nat.le_of_ble_eq_true rfl)⟩) (z_preV (va_recv (q0 := 0) hK hP rfl rfl) hP hK hD) rfl rfl hl.1 rfl (lv_room (Nat.le_of_ble_eq_true rfl)) d_X_write_34 ⟨(Nat.le_of_ble_eq_true rfl), (Nat.le_of_ble_eq_true rfl)⟩) hS hD hA (fun r u H locs hr0 hP hD hS => ?_)
          obtain ⟨hm5, ⟨d5, sl5, sm5, rfl, rfl⟩ | ⟨rfl, rfl⟩ | ⟨d5, sl5, sm5, rfl, rfl⟩⟩ := hr0
          · refine lv_istore hx hb d_X_write_37 hl (by decide) rfl (fun ls hl => ?_)
            have hl : lv_has ls 5 [(4, .int (gn + 1)), (0, .ref h0), (1, .int x0), (2, .long v0)] := hl
            refine lv_iload hx hb d_X_write_39 (lv_at hl 0 rfl) ?_
            refine lv_if_ge (tgt := 47) hx hb d_X_write_41 (by decide) (fun h6 => ?_) (fun h6 => ?_)
            · refine lv_aload_n hx hb d_X_write_47 rfl (lv_at hl 1 rfl) ?_
              refine lv_iload_n hx hb d_X_write_48 rfl (lv_at hl 2 rfl) ?_
              refine lv_lload_n hx hb d_X_write_49 rfl (lv_at hl 3 rfl) ?_
              refine z_calli (va_runV (C := R_X) (b := h0) (As := [.int x0, .long v0]) (rest := []) ⟨hx, hb, hml, hown, hts⟩ (c_storeRecord l dC dI h0 qd qs qv cI cJ _ d5 (1 - hf) (gn + 1) (d5 (51 * (1 - hf) + 15 + 1)) (0 : Int32) sl5 sm5 true 0 lq vq (dg (dg 19088743 (d5 (51 * (1 - hf) + 15 + 1))) (gn + 1)) x0 v0 (by omega) (by omega)) (cwV 2 hts g_X_65 rfl rfl rfl (by decide +kernel) ⟨(Nat.le_of_ble_eq_true rfl), (Nat.le_of_ble_eq_true rfl)⟩) (z_preV (va_recv (q0 := 0) hK hP rfl rfl) hP hK hD) rfl rfl hl.1 rfl (lv_room (Nat.le_of_ble_eq_true rfl)) d_X_write_50 ⟨(Nat.le_of_ble_eq_true rfl), (Nat.le_of_ble_eq_true rfl)⟩) hS hD hA (fun r u H locs hr0 hP hD hS => ?_)
              obtain ⟨d7, sl7, sm7, ⟨hc7, rfl, rfl⟩ | ⟨hc7, rfl, rfl⟩⟩ := hr0
              · refine lv_if_ne (tgt := 59) hx hb d_X_write_53 (by decide) (fun _ => ?_) (fun h9 => absurd h9 (by decide))
                refine lv_aload_n hx hb d_X_write_59 rfl (lv_at hl 1 rfl) ?_
                refine lv_iload_n hx hb d_X_write_60 rfl (lv_at hl 2 rfl) ?_
                refine lv_lload_n hx hb d_X_write_61 rfl (lv_at hl 3 rfl) ?_
                refine z_callv (va_runV (C := R_X) (b := h0) (As := [.int x0, .long v0]) (rest := []) ⟨hx, hb, hml, hown, hts⟩ (c_addToList l dC dI h0 qd qs qv cI cJ _ d7 (1 - hf) (gn + 1) (d5 (51 * (1 - hf) + 15 + 1)) (0 : Int32) sl7 sm7 true 0 lq vq (chn (dg (dg 19088743 (d5 (51 * (1 - hf) + 15 + 1))) (gn + 1)) (wv1 (wr1 (true, (d5, sl5, sm5)) (51 * (1 - hf) + 31 + 4 * 0) (enc x0 (nI (51 * (1 - hf) + 31 + 4 * 0)) (gn + 1))) ((51 * (1 - hf) + 31 + 4 * 0) + 1) v0 (gn + 1)).2.1 (51 * (1 - hf) + 31 + 4 * 0)) x0 v0 (by omega)) (cwV 2 hts g_X_69 rfl rfl rfl (by decide +kernel) ⟨(Nat.le_of_ble_eq_true rfl), (Nat.le_of_ble_eq_true rfl)⟩) (z_preV (va_recv (q0 := 0) hK hP rfl rfl) hP hK hD) rfl rfl hl.1 rfl (lv_room (Nat.le_of_ble_eq_true rfl)) d_X_write_62 ⟨(Nat.le_of_ble_eq_true rfl), (Nat.le_of_ble_eq_true rfl)⟩) hS hD hA (fun u H locs hr0 hP hD hS => ?_)
                subst hr0
                refine lv_aload_n hx hb d_X_write_65 rfl (lv_at hl 1 rfl) ?_
                refine va_get (D := (dC, dI)) (ci := 0) (v := .int (nI 1)) (C := R_X) (T := F_X) (N := 12) hx hb hts lay_X hown hK hP 0 rfl rfl 8 (by decide) (hts _ m_70) (fun _ h9 => h9) rfl d_X_write_66 ?_
                exact W.iret hx hb hr (fun t ht hW => ⟨⟨nI 1, (d7, 1 - hf, gn + 1, d5 (51 * (1 - hf) + 15 + 1), (0 : Int32), sl7, sm7, true, 1, upd lq 0 x0, vp_updL vq 0 v0, chn (dg (dg 19088743 (d5 (51 * (1 - hf) + 15 + 1))) (gn + 1)) (wv1 (wr1 (true, (d5, sl5, sm5)) (51 * (1 - hf) + 31 + 4 * 0) (enc x0 (nI (51 * (1 - hf) + 31 + 4 * 0)) (gn + 1))) ((51 * (1 - hf) + 31 + 4 * 0) + 1) v0 (gn + 1)).2.1 (51 * (1 - hf) + 31 + 4 * 0)), rfl, (by simp only [wrF, srF]; simp [*]), by rw [ht]; exact hP, va_K.moved hW.alike hK, hD⟩, hS.F ht⟩) hS.2.2 d_X_write_69
              · refine lv_if_ne (tgt := 59) hx hb d_X_write_53 (by decide) (fun h9 => absurd (by decide) h9) (fun _ => ?_)
                refine lv_bipush (v := (-4 : Int32)) hx hb d_X_write_56 (by decide) ?_
                exact W.iret hx hb hr (fun t ht hW => ⟨⟨(-4 : Int32), (d7, 1 - hf, gn + 1, d5 (51 * (1 - hf) + 15 + 1), (0 : Int32), sl7, sm7, false, 0, lq, vq, (0 : Int32)), rfl, (by simp only [wrF, srF]; simp [*]), by rw [ht]; exact hP, va_K.moved hW.alike hK, hD⟩, hS.F ht⟩) hS.2.2 d_X_write_58
            · refine lv_iload hx hb d_X_write_44 (lv_at hl 0 rfl) ?_
              exact W.iret hx hb hr (fun t ht hW => ⟨⟨gn + 1, (d5, 1 - hf, gn + 1, d5 (51 * (1 - hf) + 15 + 1), (0 : Int32), sl5, sm5, true, 0, lq, vq, dg (dg 19088743 (d5 (51 * (1 - hf) + 15 + 1))) (gn + 1)), rfl, (by simp only [wrF, srF]; simp [*]), by rw [ht]; exact hP, va_K.moved hW.alike hK, hD⟩, hS.F ht⟩) hS.2.2 d_X_write_46
          · refine lv_istore hx hb d_X_write_37 hl (by decide) rfl (fun ls hl => ?_)
            have hl : lv_has ls 5 [(4, .int (-3)), (0, .ref h0), (1, .int x0), (2, .long v0)] := hl
            refine lv_iload hx hb d_X_write_39 (lv_at hl 0 rfl) ?_
            refine lv_if_ge (tgt := 47) hx hb d_X_write_41 (by decide) (fun h9 => absurd h9 (by decide)) (fun _ => ?_)
            refine lv_iload hx hb d_X_write_44 (lv_at hl 0 rfl) ?_
            exact W.iret hx hb hr (fun t ht hW => ⟨⟨-3, (dk, hf, gn, rt, ct, sl, sm, true, ln, lq, vq, ch), rfl, (by simp only [wrF, srF]; simp [*]), by rw [ht]; exact hP, va_K.moved hW.alike hK, hD⟩, hS.F ht⟩) hS.2.2 d_X_write_46
          · refine lv_istore hx hb d_X_write_37 hl (by decide) rfl (fun ls hl => ?_)
            have hl : lv_has ls 5 [(4, .int (-4)), (0, .ref h0), (1, .int x0), (2, .long v0)] := hl
            refine lv_iload hx hb d_X_write_39 (lv_at hl 0 rfl) ?_
            refine lv_if_ge (tgt := 47) hx hb d_X_write_41 (by decide) (fun h9 => absurd h9 (by decide)) (fun _ => ?_)
            refine lv_iload hx hb d_X_write_44 (lv_at hl 0 rfl) ?_
            exact W.iret hx hb hr (fun t ht hW => ⟨⟨-4, (d5, hf, gn, rt, ct, sl5, sm5, false, 0, lq, vq, (0 : Int32)), rfl, (by simp only [wrF, srF]; simp [*]), by rw [ht]; exact hP, va_K.moved hW.alike hK, hD⟩, hS.F ht⟩) hS.2.2 d_X_write_46
      · refine lv_bipush (v := (-2 : Int32)) hx hb d_X_write_22 (by decide) ?_
        exact W.iret hx hb hr (fun t ht hW => ⟨⟨(-2 : Int32), (dk, hf, gn, rt, ct, sl, sm, true, ln, lq, vq, ch), rfl, (by simp only [wrF, srF]; simp [*]), by rw [ht]; exact hP, va_K.moved hW.alike hK, hD⟩, hS.F ht⟩) hS.2.2 d_X_write_24
set_option maxHeartbeats 4000000 in
set_option maxRecDepth 100000 in
theorem c_read (l : Launch) (dC : Nat → ClassId) (dI : Nat → Nat → Nat) (h0 qd qs qv : Nat) (cI cJ : ClassId) (sz : Nat) (dk : Nat → Int32) (hf : Nat) (gn : Int32) (rt : Int32) (ct : Int32) (sl : Int32) (sm : Int32) (pw : Bool) (ln : Nat) (lq : Nat → Int32) (vq : Nat → Int64) (ch : Int32) (x0 : Int32) (h_f : hf < 2) (h_n : ln ≤ 5) : Met l y_X_read w_X_read ({ frames := 4, cells := 0, slots := 0, locals := 94 }) (va_Pc [.ref h0, .int x0] (z_pre (dC, dI) classes [(cI, .int), (cJ, .long)] (Xw h0 qd qs qv cI cJ (dk, hf, gn, rt, ct, sl, sm, pw, ln, lq, vq, ch)) sz)) (vp_Sl (fun r => r = (if pw = true then (if isIn 8 x0 = 0 then -2 else vof dk hf gn rt ln lq vq x0.toNatClampNeg) else -1))) 0 0 (fun _ => False) := by
  refine Met.ofW (cc := b_X_read) (maxL := 2) (ret := (some .long)) (by decide) rfl ?_
  intro p e s m args below meth c s₁ B hml hv
  obtain ⟨rfl, hsz, hP, hK, hD0⟩ := hv
  have hx := B.exec
  have hb := B.bytes
  have hr := B.returns
  have hts := fun (w : Cond) (h : w ∈ lw_U) => atoms_spec (ws := w_X_read) B.pre w (List.mem_cons_of_mem _ h)
  have hown : s.vm.findClass R_X = some m.cls := findClass_of_methodNamed B.named
  have hlocks := B.notSynchronized
  subst hsz
  have hD := hD0
  have hl := lv_entry ([.ref h0, .int x0]) (n := 2) (Nat.le_of_ble_eq_true rfl)
  rw [lg_entry_eq]
  generalize (lg_sl ([.ref h0, .int x0]) ++ List.replicate (2 - (lg_sl ([.ref h0, .int x0])).length) Slot.unset).toArray = ls at hl ⊢
  have hl : lv_has ls 2 [(0, .ref h0), (1, .int x0)] := hl
  cases pw with
  | false =>
    refine lv_aload_n hx hb d_X_read_0 rfl (lv_at hl 0 rfl) ?_
    refine va_get (D := (dC, dI)) (ci := 0) (v := .int (bI false)) (C := R_X) (T := F_X) (N := 12) hx hb hts lay_X hown hK hP 0 rfl rfl 7 (by decide) (hts _ m_69) (fun _ h9 => h9) rfl d_X_read_1 ?_
    refine lv_if_ne (tgt := 11) hx hb d_X_read_4 (by decide) (fun h9 => absurd (by decide) h9) (fun _ => ?_)
    refine lv_ldc2 (v := -1) hx hb hown (hts _ m_210) d_X_read_7 ?_
    exact W.lret hx hb hr (fun t ht hW => ⟨_, rfl, rfl, ht⟩) (fun q h => by cases h) d_X_read_10
  | true =>
    by_cases h8 : isIn 8 x0 = 0
    · refine lv_aload_n hx hb d_X_read_0 rfl (lv_at hl 0 rfl) ?_
      refine va_get (D := (dC, dI)) (ci := 0) (v := .int (bI true)) (C := R_X) (T := F_X) (N := 12) hx hb hts lay_X hown hK hP 0 rfl rfl 7 (by decide) (hts _ m_69) (fun _ h9 => h9) rfl d_X_read_1 ?_
      refine lv_if_ne (tgt := 11) hx hb d_X_read_4 (by decide) (fun _ => ?_) (fun h9 => absurd h9 (by decide))
      refine lv_iload_n hx hb d_X_read_11 rfl (lv_at hl 1 rfl) ?_
      refine vp_callSi (W.runS (As := [.int x0]) (rest := []) ⟨hx, hb, hml, hown, hts⟩ (c_isSector l x0) (cwS 1 hts g_X_57 rfl rfl rfl (by decide +kernel) ⟨(Nat.le_of_ble_eq_true rfl), (Nat.le_of_ble_eq_true rfl)⟩) preEq rfl rfl hl.1 rfl (lv_room (Nat.le_of_ble_eq_true rfl)) d_X_read_12 ⟨(Nat.le_of_ble_eq_true rfl), (Nat.le_of_ble_eq_true rfl)⟩) (fun r hr0 => ?_)
      subst hr0
      refine lv_if_ne (tgt := 22) hx hb d_X_read_15 (by decide) (fun h9 => absurd h8 h9) (fun _ => ?_)
      refine lv_ldc2 (v := -2) hx hb hown (hts _ m_211) d_X_read_18 ?_
      exact W.lret hx hb hr (fun t ht hW => ⟨_, rfl, (by rw [if_pos rfl, if_pos h8]), ht⟩) (fun q h => by cases h) d_X_read_21
    · obtain ⟨j, hj, rfl⟩ := isIn_of (n := 8) h8 rfl (by decide)
      refine lv_aload_n hx hb d_X_read_0 rfl (lv_at hl 0 rfl) ?_
      refine va_get (D := (dC, dI)) (ci := 0) (v := .int (bI true)) (C := R_X) (T := F_X) (N := 12) hx hb hts lay_X hown hK hP 0 rfl rfl 7 (by decide) (hts _ m_69) (fun _ h9 => h9) rfl d_X_read_1 ?_
      refine lv_if_ne (tgt := 11) hx hb d_X_read_4 (by decide) (fun _ => ?_) (fun h9 => absurd h9 (by decide))
      refine lv_iload_n hx hb d_X_read_11 rfl (lv_at hl 1 rfl) ?_
      refine vp_callSi (W.runS (As := [.int (nI j)]) (rest := []) ⟨hx, hb, hml, hown, hts⟩ (c_isSector l (nI j)) (cwS 1 hts g_X_57 rfl rfl rfl (by decide +kernel) ⟨(Nat.le_of_ble_eq_true rfl), (Nat.le_of_ble_eq_true rfl)⟩) preEq rfl rfl hl.1 rfl (lv_room (Nat.le_of_ble_eq_true rfl)) d_X_read_12 ⟨(Nat.le_of_ble_eq_true rfl), (Nat.le_of_ble_eq_true rfl)⟩) (fun r hr0 => ?_)
      subst hr0
      refine lv_if_ne (tgt := 22) hx hb d_X_read_15 (by decide) (fun _ => ?_) (fun h9 => absurd h9 h8)
      refine lv_aload_n hx hb d_X_read_22 rfl (lv_at hl 0 rfl) ?_
      refine lv_iload_n hx hb d_X_read_23 rfl (lv_at hl 1 rfl) ?_
      refine vp_callSl (W.runV (C := R_X) (b := h0) (As := [.int (nI j)]) (rest := []) ⟨hx, hb, hml, hown, hts⟩ (c_valueOf l dC dI h0 qd qs qv cI cJ _ dk hf gn rt ct sl sm true ln lq vq ch j (by omega) (by omega) (by omega)) (cwV 1 hts g_X_77 rfl rfl rfl (by decide +kernel) ⟨(Nat.le_of_ble_eq_true rfl), (Nat.le_of_ble_eq_true rfl)⟩) (z_preV (va_recv (q0 := 0) hK hP rfl rfl) hP hK hD) rfl rfl hl.1 rfl (lv_room (Nat.le_of_ble_eq_true rfl)) d_X_read_24 ⟨(Nat.le_of_ble_eq_true rfl), (Nat.le_of_ble_eq_true rfl)⟩) (fun r hr0 => ?_)
      subst hr0
      exact W.lret hx hb hr (fun t ht hW => ⟨_, rfl, (by rw [if_pos rfl, if_neg h8, nI_clamp (by omega)]), ht⟩) (fun q h => by cases h) d_X_read_27
set_option maxHeartbeats 4000000 in
set_option maxRecDepth 100000 in
theorem c_sync (l : Launch) (dC : Nat → ClassId) (dI : Nat → Nat → Nat) (h0 qd qs qv : Nat) (cI cJ : ClassId) (sz : Nat) (dk : Nat → Int32) (hf : Nat) (gn : Int32) (rt : Int32) (ct : Int32) (sl : Int32) (sm : Int32) (pw : Bool) (ln : Nat) (lq : Nat → Int32) (vq : Nat → Int64) (ch : Int32)   : Met l y_X_sync w_X_sync ({ frames := 3, cells := 0, slots := 0, locals := 64 }) (va_Pc [.ref h0] (z_pre (dC, dI) classes [(cI, .int), (cJ, .long)] (Xw h0 qd qs qv cI cJ (dk, hf, gn, rt, ct, sl, sm, pw, ln, lq, vq, ch)) sz)) (va_Qi (fun (r : Int32) (u : XS) => (pw = false ∧ r = -1 ∧ u = (dk, hf, gn, rt, ct, sl, sm, pw, ln, lq, vq, ch)) ∨ (pw = true ∧ sl = 0 ∧ r = -4 ∧ u = (dk, hf, gn, rt, ct, -1, sm, false, 0, lq, vq, 0)) ∨ (pw = true ∧ ¬ sl = 0 ∧ r = nI ln ∧ u = (dk, hf, gn, rt, nI ln, dec1 sl, sm + 1, pw, ln, lq, vq, ch))) (fun u => z_at (dC, dI) classes [(cI, .int), (cJ, .long)] (va_A (Xw h0 qd qs qv cI cJ (dk, hf, gn, rt, ct, sl, sm, pw, ln, lq, vq, ch)) sz) (Xw h0 qd qs qv cI cJ u)) (va_A (Xw h0 qd qs qv cI cJ (dk, hf, gn, rt, ct, sl, sm, pw, ln, lq, vq, ch)) sz)) 0 0 (va_A (Xw h0 qd qs qv cI cJ (dk, hf, gn, rt, ct, sl, sm, pw, ln, lq, vq, ch)) sz) := by
  refine Met.ofW (cc := b_X_sync) (maxL := 1) (ret := (some .int)) (by decide) rfl ?_
  intro p e s m args below meth c s₁ B hml hv
  obtain ⟨rfl, hsz, hP, hK, hD0⟩ := hv
  have hx := B.exec
  have hb := B.bytes
  have hr := B.returns
  have hts := fun (w : Cond) (h : w ∈ lw_U) => atoms_spec (ws := w_X_sync) B.pre w (List.mem_cons_of_mem _ h)
  have hown : s.vm.findClass R_X = some m.cls := findClass_of_methodNamed B.named
  have hlocks := B.notSynchronized
  subst hsz
  have hD := hD0.self (sz := s.heap.size)
  generalize hAe : va_A (Xw h0 qd qs qv cI cJ (dk, hf, gn, rt, ct, sl, sm, pw, ln, lq, vq, ch)) s.heap.size = A at hD ⊢
  have hA : ∀ q : Nat, s.heap.size ≤ q → A q := fun q h => by rw [← hAe]; exact Or.inr h
  have hS : va_S A s.heap s.heap [] := va_S.rf
  have hP : va_P (dC, dI) classes (Xw h0 qd qs qv cI cJ (dk, hf, gn, rt, ct, sl, sm, pw, ln, lq, vq, ch)) s.heap := hP
  have hl := lv_entry ([.ref h0]) (n := 1) (Nat.le_of_ble_eq_true rfl)
  rw [lg_entry_eq]
  generalize (lg_sl ([.ref h0]) ++ List.replicate (1 - (lg_sl ([.ref h0])).length) Slot.unset).toArray = ls at hl ⊢
  have hl : lv_has ls 1 [(0, .ref h0)] := hl
  cases pw with
  | false =>
    refine lv_aload_n hx hb d_X_sync_0 rfl (lv_at hl 0 rfl) ?_
    refine va_get (D := (dC, dI)) (ci := 0) (v := .int (bI false)) (C := R_X) (T := F_X) (N := 12) hx hb hts lay_X hown hK hP 0 rfl rfl 7 (by decide) (hts _ m_69) (fun _ h9 => h9) rfl d_X_sync_1 ?_
    refine lv_if_ne (tgt := 9) hx hb d_X_sync_4 (by decide) (fun h9 => absurd (by decide) h9) (fun _ => ?_)
    refine lv_iconst (v := (-1 : Int32)) hx hb d_X_sync_7 (by decide) ?_
    exact W.iret hx hb hr (fun t ht hW => ⟨⟨(-1 : Int32), (dk, hf, gn, rt, ct, sl, sm, false, ln, lq, vq, ch), rfl, Or.inl ⟨rfl, rfl, rfl⟩, by rw [ht]; exact hP, va_K.moved hW.alike hK, hD⟩, hS.F ht⟩) hS.2.2 d_X_sync_8
  | true =>
    refine lv_aload_n hx hb d_X_sync_0 rfl (lv_at hl 0 rfl) ?_
    refine va_get (D := (dC, dI)) (ci := 0) (v := .int (bI true)) (C := R_X) (T := F_X) (N := 12) hx hb hts lay_X hown hK hP 0 rfl rfl 7 (by decide) (hts _ m_69) (fun _ h9 => h9) rfl d_X_sync_1 ?_
    refine lv_if_ne (tgt := 9) hx hb d_X_sync_4 (by decide) (fun _ => ?_) (fun h9 => absurd h9 (by decide))
    refine lv_aload_n hx hb d_X_sync_9 rfl (lv_at hl 0 rfl) ?_
    refine lv_aload_n hx hb d_X_sync_10 rfl (lv_at hl 0 rfl) ?_
    refine va_get (D := (dC, dI)) (ci := 0) (v := .int (nI hf)) (C := R_X) (T := F_X) (N := 12) hx hb hts lay_X hown hK hP 0 rfl rfl 1 (by decide) (hts _ m_63) (fun _ h9 => h9) rfl d_X_sync_11 ?_
    refine lv_aload_n hx hb d_X_sync_14 rfl (lv_at hl 0 rfl) ?_
    refine va_get (D := (dC, dI)) (ci := 0) (v := .int gn) (C := R_X) (T := F_X) (N := 12) hx hb hts lay_X hown hK hP 0 rfl rfl 2 (by decide) (hts _ m_64) (fun _ h9 => h9) rfl d_X_sync_15 ?_
    refine lv_aload_n hx hb d_X_sync_18 rfl (lv_at hl 0 rfl) ?_
    refine va_get (D := (dC, dI)) (ci := 0) (v := .int rt) (C := R_X) (T := F_X) (N := 12) hx hb hts lay_X hown hK hP 0 rfl rfl 3 (by decide) (hts _ m_65) (fun _ h9 => h9) rfl d_X_sync_19 ?_
    refine lv_aload_n hx hb d_X_sync_22 rfl (lv_at hl 0 rfl) ?_
    refine va_get (D := (dC, dI)) (ci := 0) (v := .int (nI ln)) (C := R_X) (T := F_X) (N := 12) hx hb hts lay_X hown hK hP 0 rfl rfl 8 (by decide) (hts _ m_70) (fun _ h9 => h9) rfl d_X_sync_23 ?_
    refine z_calli (va_runV (C := R_X) (b := h0) (As := [.int (nI hf), .int gn, .int rt, .int (nI ln)]) (rest := []) ⟨hx, hb, hml, hown, hts⟩ (c_changeSeal l dC dI h0 qd qs qv cI cJ _ dk hf gn rt ct sl sm true ln lq vq ch hf gn rt (nI ln)) (cwV 4 hts g_X_84 rfl rfl rfl (by decide +kernel) ⟨(Nat.le_of_ble_eq_true rfl), (Nat.le_of_ble_eq_true rfl)⟩) (z_preV (va_recv (q0 := 0) hK hP rfl rfl) hP hK hD) rfl rfl hl.1 rfl (lv_room (Nat.le_of_ble_eq_true rfl)) d_X_sync_26 ⟨(Nat.le_of_ble_eq_true rfl), (Nat.le_of_ble_eq_true rfl)⟩) hS hD hA (fun r u H locs hr0 hP hD hS => ?_)
    obtain ⟨h1, rfl, rfl⟩ | ⟨h1, rfl, rfl⟩ := hr0
    · refine lv_if_ne (tgt := 35) hx hb d_X_sync_29 (by decide) (fun h9 => absurd (by decide) h9) (fun _ => ?_)
      refine lv_bipush (v := (-4 : Int32)) hx hb d_X_sync_32 (by decide) ?_
      exact W.iret hx hb hr (fun t ht hW => ⟨⟨(-4 : Int32), (dk, hf, gn, rt, ct, -1, sm, false, 0, lq, vq, (0 : Int32)), rfl, Or.inr (Or.inl ⟨rfl, h1, rfl, rfl⟩), by rw [ht]; exact hP, va_K.moved hW.alike hK, hD⟩, hS.F ht⟩) hS.2.2 d_X_sync_34
    · refine lv_if_ne (tgt := 35) hx hb d_X_sync_29 (by decide) (fun _ => ?_) (fun h9 => absurd h9 (by decide))
      refine lv_aload_n hx hb d_X_sync_35 rfl (lv_at hl 0 rfl) ?_
      refine va_get (D := (dC, dI)) (ci := 0) (v := .int (nI ln)) (C := R_X) (T := F_X) (N := 12) hx hb hts lay_X hown hK hP 0 rfl rfl 8 (by decide) (hts _ m_70) (fun _ h9 => h9) rfl d_X_sync_36 ?_
      exact W.iret hx hb hr (fun t ht hW => ⟨⟨nI ln, (dk, hf, gn, rt, nI ln, dec1 sl, sm + 1, true, ln, lq, vq, ch), rfl, Or.inr (Or.inr ⟨rfl, h1, rfl, rfl⟩), by rw [ht]; exact hP, va_K.moved hW.alike hK, hD⟩, hS.F ht⟩) hS.2.2 d_X_sync_39
set_option maxHeartbeats 4000000 in
set_option maxRecDepth 100000 in
theorem c_checkpoint (l : Launch) (dC : Nat → ClassId) (dI : Nat → Nat → Nat) (h0 qd qs qv : Nat) (cI cJ : ClassId) (sz : Nat) (dk : Nat → Int32) (hf : Nat) (gn : Int32) (rt : Int32) (ct : Int32) (sl : Int32) (sm : Int32) (pw : Bool) (ln : Nat) (lq : Nat → Int32) (vq : Nat → Int64) (ch : Int32)  (h_f : hf < 2) (h_n : ln ≤ 5) : Met l y_X_checkpoint w_X_checkpoint ({ frames := 6, cells := 0, slots := 0, locals := 139 }) (va_Pc [.ref h0] (z_pre (dC, dI) classes [(cI, .int), (cJ, .long)] (Xw h0 qd qs qv cI cJ (dk, hf, gn, rt, ct, sl, sm, pw, ln, lq, vq, ch)) sz)) (va_Qi (fun (r : Int32) (u : XS) => (pw = false ∧ r = -1 ∧ u = (dk, hf, gn, rt, ct, sl, sm, pw, ln, lq, vq, ch)) ∨ (pw = true ∧ mvF (dk, hf, gn, rt, ct, sl, sm, pw, ln, lq, vq, ch) = (r, u))) (fun u => z_at (dC, dI) classes [(cI, .int), (cJ, .long)] (va_A (Xw h0 qd qs qv cI cJ (dk, hf, gn, rt, ct, sl, sm, pw, ln, lq, vq, ch)) sz) (Xw h0 qd qs qv cI cJ u)) (va_A (Xw h0 qd qs qv cI cJ (dk, hf, gn, rt, ct, sl, sm, pw, ln, lq, vq, ch)) sz)) 0 0 (va_A (Xw h0 qd qs qv cI cJ (dk, hf, gn, rt, ct, sl, sm, pw, ln, lq, vq, ch)) sz) := by
  refine Met.ofW (cc := b_X_checkpoint) (maxL := 1) (ret := (some .int)) (by decide) rfl ?_
  intro p e s m args below meth c s₁ B hml hv
  obtain ⟨rfl, hsz, hP, hK, hD0⟩ := hv
  have hx := B.exec
  have hb := B.bytes
  have hr := B.returns
  have hts := fun (w : Cond) (h : w ∈ lw_U) => atoms_spec (ws := w_X_checkpoint) B.pre w (List.mem_cons_of_mem _ h)
  have hown : s.vm.findClass R_X = some m.cls := findClass_of_methodNamed B.named
  have hlocks := B.notSynchronized
  subst hsz
  have hD := hD0.self (sz := s.heap.size)
  generalize hAe : va_A (Xw h0 qd qs qv cI cJ (dk, hf, gn, rt, ct, sl, sm, pw, ln, lq, vq, ch)) s.heap.size = A at hD ⊢
  have hA : ∀ q : Nat, s.heap.size ≤ q → A q := fun q h => by rw [← hAe]; exact Or.inr h
  have hS : va_S A s.heap s.heap [] := va_S.rf
  have hP : va_P (dC, dI) classes (Xw h0 qd qs qv cI cJ (dk, hf, gn, rt, ct, sl, sm, pw, ln, lq, vq, ch)) s.heap := hP
  have hl := lv_entry ([.ref h0]) (n := 1) (Nat.le_of_ble_eq_true rfl)
  rw [lg_entry_eq]
  generalize (lg_sl ([.ref h0]) ++ List.replicate (1 - (lg_sl ([.ref h0])).length) Slot.unset).toArray = ls at hl ⊢
  have hl : lv_has ls 1 [(0, .ref h0)] := hl
  cases pw with
  | false =>
    refine lv_aload_n hx hb d_X_checkpoint_0 rfl (lv_at hl 0 rfl) ?_
    refine va_get (D := (dC, dI)) (ci := 0) (v := .int (bI false)) (C := R_X) (T := F_X) (N := 12) hx hb hts lay_X hown hK hP 0 rfl rfl 7 (by decide) (hts _ m_69) (fun _ h9 => h9) rfl d_X_checkpoint_1 ?_
    refine lv_if_ne (tgt := 9) hx hb d_X_checkpoint_4 (by decide) (fun h9 => absurd (by decide) h9) (fun _ => ?_)
    refine lv_iconst (v := (-1 : Int32)) hx hb d_X_checkpoint_7 (by decide) ?_
    exact W.iret hx hb hr (fun t ht hW => ⟨⟨(-1 : Int32), (dk, hf, gn, rt, ct, sl, sm, false, ln, lq, vq, ch), rfl, Or.inl ⟨rfl, rfl, rfl⟩, by rw [ht]; exact hP, va_K.moved hW.alike hK, hD⟩, hS.F ht⟩) hS.2.2 d_X_checkpoint_8
  | true =>
    refine lv_aload_n hx hb d_X_checkpoint_0 rfl (lv_at hl 0 rfl) ?_
    refine va_get (D := (dC, dI)) (ci := 0) (v := .int (bI true)) (C := R_X) (T := F_X) (N := 12) hx hb hts lay_X hown hK hP 0 rfl rfl 7 (by decide) (hts _ m_69) (fun _ h9 => h9) rfl d_X_checkpoint_1 ?_
    refine lv_if_ne (tgt := 9) hx hb d_X_checkpoint_4 (by decide) (fun _ => ?_) (fun h9 => absurd h9 (by decide))
    refine lv_aload_n hx hb d_X_checkpoint_9 rfl (lv_at hl 0 rfl) ?_
    refine z_calli (va_runV (C := R_X) (b := h0) (As := []) (rest := []) ⟨hx, hb, hml, hown, hts⟩ (c_moveToOtherHalf l dC dI h0 qd qs qv cI cJ _ dk hf gn rt ct sl sm true ln lq vq ch (by omega) (by omega)) (cwV 0 hts g_X_61 rfl rfl rfl (by decide +kernel) ⟨(Nat.le_of_ble_eq_true rfl), (Nat.le_of_ble_eq_true rfl)⟩) (z_preV (va_recv (q0 := 0) hK hP rfl rfl) hP hK hD) rfl rfl hl.1 rfl (lv_room (Nat.le_of_ble_eq_true rfl)) d_X_checkpoint_10 ⟨(Nat.le_of_ble_eq_true rfl), (Nat.le_of_ble_eq_true rfl)⟩) hS hD hA (fun r u H locs hr0 hP hD hS => ?_)
    obtain ⟨hm1, ⟨d1, sl1, sm1, rfl, rfl⟩ | ⟨rfl, rfl⟩ | ⟨d1, sl1, sm1, rfl, rfl⟩⟩ := hr0
    · exact W.iret hx hb hr (fun t ht hW => ⟨⟨gn + 1, (d1, 1 - hf, gn + 1, d1 (51 * (1 - hf) + 15 + 1), (0 : Int32), sl1, sm1, true, 0, lq, vq, dg (dg 19088743 (d1 (51 * (1 - hf) + 15 + 1))) (gn + 1)), rfl, Or.inr ⟨rfl, hm1⟩, by rw [ht]; exact hP, va_K.moved hW.alike hK, hD⟩, hS.F ht⟩) hS.2.2 d_X_checkpoint_13
    · exact W.iret hx hb hr (fun t ht hW => ⟨⟨-3, (dk, hf, gn, rt, ct, sl, sm, true, ln, lq, vq, ch), rfl, Or.inr ⟨rfl, hm1⟩, by rw [ht]; exact hP, va_K.moved hW.alike hK, hD⟩, hS.F ht⟩) hS.2.2 d_X_checkpoint_13
    · exact W.iret hx hb hr (fun t ht hW => ⟨⟨-4, (d1, hf, gn, rt, ct, sl1, sm1, false, 0, lq, vq, (0 : Int32)), rfl, Or.inr ⟨rfl, hm1⟩, by rw [ht]; exact hP, va_K.moved hW.alike hK, hD⟩, hS.F ht⟩) hS.2.2 d_X_checkpoint_13
set_option maxHeartbeats 4000000 in
set_option maxRecDepth 100000 in
theorem c_alter (l : Launch) (dC : Nat → ClassId) (dI : Nat → Nat → Nat) (h0 qd qs qv : Nat) (cI cJ : ClassId) (sz : Nat) (dk : Nat → Int32) (hf : Nat) (gn : Int32) (rt : Int32) (ct : Int32) (sl : Int32) (sm : Int32) (pw : Bool) (ln : Nat) (lq : Nat → Int32) (vq : Nat → Int64) (ch : Int32) (x0 y0 : Int32)  : Met l y_X_alter w_X_alter ({ frames := 1, cells := 0, slots := 0, locals := 20 }) (va_Pc [.ref h0, .int x0, .int y0] (z_pre (dC, dI) classes [(cI, .int), (cJ, .long)] (Xw h0 qd qs qv cI cJ (dk, hf, gn, rt, ct, sl, sm, pw, ln, lq, vq, ch)) sz)) (va_Qi (fun (r : Int32) (u : XS) => (isIn 102 x0 = 0 ∧ r = 0 ∧ u = (dk, hf, gn, rt, ct, sl, sm, pw, ln, lq, vq, ch)) ∨ (¬ isIn 102 x0 = 0 ∧ r = 1 ∧ u = (upd dk x0.toNatClampNeg (dk x0.toNatClampNeg ^^^ y0), hf, gn, rt, ct, sl, sm, pw, ln, lq, vq, ch))) (fun u => z_at (dC, dI) classes [(cI, .int), (cJ, .long)] (va_A (Xw h0 qd qs qv cI cJ (dk, hf, gn, rt, ct, sl, sm, pw, ln, lq, vq, ch)) sz) (Xw h0 qd qs qv cI cJ u)) (va_A (Xw h0 qd qs qv cI cJ (dk, hf, gn, rt, ct, sl, sm, pw, ln, lq, vq, ch)) sz)) 0 0 (va_A (Xw h0 qd qs qv cI cJ (dk, hf, gn, rt, ct, sl, sm, pw, ln, lq, vq, ch)) sz) := by
  refine Met.ofW (cc := b_X_alter) (maxL := 3) (ret := (some .boolean)) (by decide) rfl ?_
  intro p e s m args below meth c s₁ B hml hv
  obtain ⟨rfl, hsz, hP, hK, hD0⟩ := hv
  have hx := B.exec
  have hb := B.bytes
  have hr := B.returns
  have hts := fun (w : Cond) (h : w ∈ lw_U) => atoms_spec (ws := w_X_alter) B.pre w (List.mem_cons_of_mem _ h)
  have hown : s.vm.findClass R_X = some m.cls := findClass_of_methodNamed B.named
  have hlocks := B.notSynchronized
  subst hsz
  have hD := hD0.self (sz := s.heap.size)
  generalize hAe : va_A (Xw h0 qd qs qv cI cJ (dk, hf, gn, rt, ct, sl, sm, pw, ln, lq, vq, ch)) s.heap.size = A at hD ⊢
  have hA : ∀ q : Nat, s.heap.size ≤ q → A q := fun q h => by rw [← hAe]; exact Or.inr h
  have hS : va_S A s.heap s.heap [] := va_S.rf
  have hP : va_P (dC, dI) classes (Xw h0 qd qs qv cI cJ (dk, hf, gn, rt, ct, sl, sm, pw, ln, lq, vq, ch)) s.heap := hP
  have hl := lv_entry ([.ref h0, .int x0, .int y0]) (n := 3) (Nat.le_of_ble_eq_true rfl)
  rw [lg_entry_eq]
  generalize (lg_sl ([.ref h0, .int x0, .int y0]) ++ List.replicate (3 - (lg_sl ([.ref h0, .int x0, .int y0])).length) Slot.unset).toArray = ls at hl ⊢
  have hl : lv_has ls 3 [(0, .ref h0), (1, .int x0), (2, .int y0)] := hl
  by_cases h8 : isIn 102 x0 = 0
  · refine lv_iload_n hx hb d_X_alter_0 rfl (lv_at hl 1 rfl) ?_
    refine vp_callSi (W.runS (As := [.int x0]) (rest := []) ⟨hx, hb, hml, hown, hts⟩ (c_isPlace l x0) (cwS 1 hts g_X_88 rfl rfl rfl (by decide +kernel) ⟨(Nat.le_of_ble_eq_true rfl), (Nat.le_of_ble_eq_true rfl)⟩) preEq rfl rfl hl.1 rfl (lv_room (Nat.le_of_ble_eq_true rfl)) d_X_alter_1 ⟨(Nat.le_of_ble_eq_true rfl), (Nat.le_of_ble_eq_true rfl)⟩) (fun r hr0 => ?_)
    subst hr0
    refine lv_if_ne (tgt := 9) hx hb d_X_alter_4 (by decide) (fun h9 => absurd h8 h9) (fun _ => ?_)
    refine lv_iconst (v := (0 : Int32)) hx hb d_X_alter_7 (by decide) ?_
    exact W.zret hx hb hr rfl (fun t ht hW => ⟨⟨(0 : Int32), (dk, hf, gn, rt, ct, sl, sm, pw, ln, lq, vq, ch), rfl, Or.inl ⟨h8, rfl, rfl⟩, by rw [ht]; exact hP, va_K.moved hW.alike hK, hD⟩, hS.F ht⟩) hS.2.2 d_X_alter_8
  · obtain ⟨j, hj, rfl⟩ := isIn_of (n := 102) h8 rfl (by decide)
    refine lv_iload_n hx hb d_X_alter_0 rfl (lv_at hl 1 rfl) ?_
    refine vp_callSi (W.runS (As := [.int (nI j)]) (rest := []) ⟨hx, hb, hml, hown, hts⟩ (c_isPlace l (nI j)) (cwS 1 hts g_X_88 rfl rfl rfl (by decide +kernel) ⟨(Nat.le_of_ble_eq_true rfl), (Nat.le_of_ble_eq_true rfl)⟩) preEq rfl rfl hl.1 rfl (lv_room (Nat.le_of_ble_eq_true rfl)) d_X_alter_1 ⟨(Nat.le_of_ble_eq_true rfl), (Nat.le_of_ble_eq_true rfl)⟩) (fun r hr0 => ?_)
    subst hr0
    refine lv_if_ne (tgt := 9) hx hb d_X_alter_4 (by decide) (fun _ => ?_) (fun h9 => absurd h9 h8)
    refine lv_aload_n hx hb d_X_alter_9 rfl (lv_at hl 0 rfl) ?_
    refine va_get (D := (dC, dI)) (ci := 0) (v := .ref qd) (C := R_X) (T := F_X) (N := 12) hx hb hts lay_X hown hK hP 0 rfl rfl 0 (by decide) (hts _ m_62) (fun _ h9 => h9) rfl d_X_alter_10 ?_
    refine lv_iload_n hx hb d_X_alter_13 rfl (lv_at hl 1 rfl) ?_
    refine lv_dup2_11 hx hb d_X_alter_14 rfl rfl ?_
    refine z_iald hx hb hK hP 1 0 rfl rfl (by omega) (by decide) d_X_alter_15 ?_
    refine lv_iload_n hx hb d_X_alter_16 rfl (lv_at hl 2 rfl) ?_
    refine lv_ixor hx hb d_X_alter_17 ?_
    refine z_iast hx hb hK hP hD hS 1 0 rfl rfl (by omega) (by decide) d_X_alter_18 (fun H locs hP hD hS => ?_)
    have hP : va_P (dC, dI) classes (Xw h0 qd qs qv cI cJ (upd dk j ((dk j) ^^^ y0), hf, gn, rt, ct, sl, sm, pw, ln, lq, vq, ch)) H := hP
    have hD : va_D A (Xw h0 qd qs qv cI cJ (upd dk j ((dk j) ^^^ y0), hf, gn, rt, ct, sl, sm, pw, ln, lq, vq, ch)) := hD
    refine lv_iconst (v := (1 : Int32)) hx hb d_X_alter_19 (by decide) ?_
    exact W.zret hx hb hr rfl (fun t ht hW => ⟨⟨(1 : Int32), (upd dk j ((dk j) ^^^ y0), hf, gn, rt, ct, sl, sm, pw, ln, lq, vq, ch), rfl, Or.inr ⟨h8, rfl, (by rw [nI_clamp (by omega)])⟩, by rw [ht]; exact hP, va_K.moved hW.alike hK, hD⟩, hS.F ht⟩) hS.2.2 d_X_alter_20
set_option maxHeartbeats 4000000 in
set_option maxRecDepth 100000 in
theorem c_peek (l : Launch) (dC : Nat → ClassId) (dI : Nat → Nat → Nat) (h0 qd qs qv : Nat) (cI cJ : ClassId) (sz : Nat) (dk : Nat → Int32) (hf : Nat) (gn : Int32) (rt : Int32) (ct : Int32) (sl : Int32) (sm : Int32) (pw : Bool) (ln : Nat) (lq : Nat → Int32) (vq : Nat → Int64) (ch : Int32) (x0 : Int32)  : Met l y_X_peek w_X_peek ({ frames := 1, cells := 0, slots := 0, locals := 20 }) (va_Pc [.ref h0, .int x0] (z_pre (dC, dI) classes [(cI, .int), (cJ, .long)] (Xw h0 qd qs qv cI cJ (dk, hf, gn, rt, ct, sl, sm, pw, ln, lq, vq, ch)) sz)) (vp_Si (fun r => r = (if isIn 102 x0 = 0 then 0 else dk x0.toNatClampNeg))) 0 0 (fun _ => False) := by
  refine Met.ofW (cc := b_X_peek) (maxL := 2) (ret := (some .int)) (by decide) rfl ?_
  intro p e s m args below meth c s₁ B hml hv
  obtain ⟨rfl, hsz, hP, hK, hD0⟩ := hv
  have hx := B.exec
  have hb := B.bytes
  have hr := B.returns
  have hts := fun (w : Cond) (h : w ∈ lw_U) => atoms_spec (ws := w_X_peek) B.pre w (List.mem_cons_of_mem _ h)
  have hown : s.vm.findClass R_X = some m.cls := findClass_of_methodNamed B.named
  have hlocks := B.notSynchronized
  subst hsz
  have hD := hD0
  have hl := lv_entry ([.ref h0, .int x0]) (n := 2) (Nat.le_of_ble_eq_true rfl)
  rw [lg_entry_eq]
  generalize (lg_sl ([.ref h0, .int x0]) ++ List.replicate (2 - (lg_sl ([.ref h0, .int x0])).length) Slot.unset).toArray = ls at hl ⊢
  have hl : lv_has ls 2 [(0, .ref h0), (1, .int x0)] := hl
  by_cases h8 : isIn 102 x0 = 0
  · refine lv_iload_n hx hb d_X_peek_0 rfl (lv_at hl 1 rfl) ?_
    refine vp_callSi (W.runS (As := [.int x0]) (rest := []) ⟨hx, hb, hml, hown, hts⟩ (c_isPlace l x0) (cwS 1 hts g_X_88 rfl rfl rfl (by decide +kernel) ⟨(Nat.le_of_ble_eq_true rfl), (Nat.le_of_ble_eq_true rfl)⟩) preEq rfl rfl hl.1 rfl (lv_room (Nat.le_of_ble_eq_true rfl)) d_X_peek_1 ⟨(Nat.le_of_ble_eq_true rfl), (Nat.le_of_ble_eq_true rfl)⟩) (fun r hr0 => ?_)
    subst hr0
    refine lv_if_eq (tgt := 16) hx hb d_X_peek_4 (by decide) (fun _ => ?_) (fun h9 => absurd h8 h9)
    refine lv_iconst (v := (0 : Int32)) hx hb d_X_peek_16 (by decide) ?_
    exact W.iret hx hb hr (fun t ht hW => ⟨_, rfl, (by rw [if_pos h8]), ht⟩) (fun q h => by cases h) d_X_peek_17
  · obtain ⟨j, hj, rfl⟩ := isIn_of (n := 102) h8 rfl (by decide)
    refine lv_iload_n hx hb d_X_peek_0 rfl (lv_at hl 1 rfl) ?_
    refine vp_callSi (W.runS (As := [.int (nI j)]) (rest := []) ⟨hx, hb, hml, hown, hts⟩ (c_isPlace l (nI j)) (cwS 1 hts g_X_88 rfl rfl rfl (by decide +kernel) ⟨(Nat.le_of_ble_eq_true rfl), (Nat.le_of_ble_eq_true rfl)⟩) preEq rfl rfl hl.1 rfl (lv_room (Nat.le_of_ble_eq_true rfl)) d_X_peek_1 ⟨(Nat.le_of_ble_eq_true rfl), (Nat.le_of_ble_eq_true rfl)⟩) (fun r hr0 => ?_)
    subst hr0
    refine lv_if_eq (tgt := 16) hx hb d_X_peek_4 (by decide) (fun h9 => absurd h9 h8) (fun _ => ?_)
    refine lv_aload_n hx hb d_X_peek_7 rfl (lv_at hl 0 rfl) ?_
    refine va_get (D := (dC, dI)) (ci := 0) (v := .ref qd) (C := R_X) (T := F_X) (N := 12) hx hb hts lay_X hown hK hP 0 rfl rfl 0 (by decide) (hts _ m_62) (fun _ h9 => h9) rfl d_X_peek_8 ?_
    refine lv_iload_n hx hb d_X_peek_11 rfl (lv_at hl 1 rfl) ?_
    refine z_iald hx hb hK hP 1 0 rfl rfl (by omega) (by decide) d_X_peek_12 ?_
    refine lv_goto (tgt := 17) hx hb d_X_peek_13 (by decide) ?_
    exact W.iret hx hb hr (fun t ht hW => ⟨_, rfl, (by rw [if_neg h8, nI_clamp (by omega)]), ht⟩) (fun q h => by cases h) d_X_peek_17
set_option maxHeartbeats 4000000 in
set_option maxRecDepth 100000 in
theorem c_seal (l : Launch) (dC : Nat → ClassId) (dI : Nat → Nat → Nat) (h0 qd qs qv : Nat) (cI cJ : ClassId) (sz : Nat) (dk : Nat → Int32) (hf : Nat) (gn : Int32) (rt : Int32) (ct : Int32) (sl : Int32) (sm : Int32) (pw : Bool) (ln : Nat) (lq : Nat → Int32) (vq : Nat → Int64) (ch : Int32) (x0 : Int32)  : Met l y_X_seal w_X_seal ({ frames := 0, cells := 0, slots := 0, locals := 0 }) (va_Pc [.ref h0, .int x0] (z_pre (dC, dI) classes [(cI, .int), (cJ, .long)] (Xw h0 qd qs qv cI cJ (dk, hf, gn, rt, ct, sl, sm, pw, ln, lq, vq, ch)) sz)) (vp_Si (fun r => r = (if x0 = 0 then nI hf else if x0 = 1 then gn else if x0 = 2 then rt else if x0 = 3 then ct else 0))) 0 0 (fun _ => False) := by
  refine Met.ofW (cc := b_X_seal) (maxL := 2) (ret := (some .int)) (by decide) rfl ?_
  intro p e s m args below meth c s₁ B hml hv
  obtain ⟨rfl, hsz, hP, hK, hD0⟩ := hv
  have hx := B.exec
  have hb := B.bytes
  have hr := B.returns
  have hts := fun (w : Cond) (h : w ∈ lw_U) => atoms_spec (ws := w_X_seal) B.pre w (List.mem_cons_of_mem _ h)
  have hown : s.vm.findClass R_X = some m.cls := findClass_of_methodNamed B.named
  have hlocks := B.notSynchronized
  subst hsz
  have hD := hD0
  have hl := lv_entry ([.ref h0, .int x0]) (n := 2) (Nat.le_of_ble_eq_true rfl)
  rw [lg_entry_eq]
  generalize (lg_sl ([.ref h0, .int x0]) ++ List.replicate (2 - (lg_sl ([.ref h0, .int x0])).length) Slot.unset).toArray = ls at hl ⊢
  have hl : lv_has ls 2 [(0, .ref h0), (1, .int x0)] := hl
  refine lv_iload_n hx hb d_X_seal_0 rfl (lv_at hl 1 rfl) ?_
  by_cases hk0 : x0 = 0
  · subst hk0
    refine lv_tableIn (tgt := 32) hx hb d_X_seal_1 (by decide) (by decide) rfl (by decide) ?_
    refine lv_aload_n hx hb d_X_seal_32 rfl (lv_at hl 0 rfl) ?_
    refine va_get (D := (dC, dI)) (ci := 0) (v := .int (nI hf)) (C := R_X) (T := F_X) (N := 12) hx hb hts lay_X hown hK hP 0 rfl rfl 1 (by decide) (hts _ m_63) (fun _ h9 => h9) rfl d_X_seal_33 ?_
    exact W.iret hx hb hr (fun t ht hW => ⟨_, rfl, rfl, ht⟩) (fun q h => by cases h) d_X_seal_36
  by_cases hk1 : x0 = 1
  · subst hk1
    refine lv_tableIn (tgt := 37) hx hb d_X_seal_1 (by decide) (by decide) rfl (by decide) ?_
    refine lv_aload_n hx hb d_X_seal_37 rfl (lv_at hl 0 rfl) ?_
    refine va_get (D := (dC, dI)) (ci := 0) (v := .int gn) (C := R_X) (T := F_X) (N := 12) hx hb hts lay_X hown hK hP 0 rfl rfl 2 (by decide) (hts _ m_64) (fun _ h9 => h9) rfl d_X_seal_38 ?_
    exact W.iret hx hb hr (fun t ht hW => ⟨_, rfl, rfl, ht⟩) (fun q h => by cases h) d_X_seal_41
  by_cases hk2 : x0 = 2
  · subst hk2
    refine lv_tableIn (tgt := 42) hx hb d_X_seal_1 (by decide) (by decide) rfl (by decide) ?_
    refine lv_aload_n hx hb d_X_seal_42 rfl (lv_at hl 0 rfl) ?_
    refine va_get (D := (dC, dI)) (ci := 0) (v := .int rt) (C := R_X) (T := F_X) (N := 12) hx hb hts lay_X hown hK hP 0 rfl rfl 3 (by decide) (hts _ m_65) (fun _ h9 => h9) rfl d_X_seal_43 ?_
    exact W.iret hx hb hr (fun t ht hW => ⟨_, rfl, rfl, ht⟩) (fun q h => by cases h) d_X_seal_46
  by_cases hk3 : x0 = 3
  · subst hk3
    refine lv_tableIn (tgt := 47) hx hb d_X_seal_1 (by decide) (by decide) rfl (by decide) ?_
    refine lv_aload_n hx hb d_X_seal_47 rfl (lv_at hl 0 rfl) ?_
    refine va_get (D := (dC, dI)) (ci := 0) (v := .int ct) (C := R_X) (T := F_X) (N := 12) hx hb hts lay_X hown hK hP 0 rfl rfl 4 (by decide) (hts _ m_66) (fun _ h9 => h9) rfl d_X_seal_48 ?_
    exact W.iret hx hb hr (fun t ht hW => ⟨_, rfl, rfl, ht⟩) (fun q h => by cases h) d_X_seal_51
  refine lv_tableOut (tgt := 52) hx hb d_X_seal_1 (z_out4 hk0 hk1 hk2 hk3) (by decide) ?_
  refine lv_iconst (v := (0 : Int32)) hx hb d_X_seal_52 (by decide) ?_
  exact W.iret hx hb hr (fun t ht hW => ⟨_, rfl, (by rw [if_neg hk0, if_neg hk1, if_neg hk2, if_neg hk3]), ht⟩) (fun q h => by cases h) d_X_seal_53
set_option maxHeartbeats 4000000 in
set_option maxRecDepth 100000 in
theorem c_writes (l : Launch) (dC : Nat → ClassId) (dI : Nat → Nat → Nat) (h0 qd qs qv : Nat) (cI cJ : ClassId) (sz : Nat) (dk : Nat → Int32) (hf : Nat) (gn : Int32) (rt : Int32) (ct : Int32) (sl : Int32) (sm : Int32) (pw : Bool) (ln : Nat) (lq : Nat → Int32) (vq : Nat → Int64) (ch : Int32)   : Met l y_X_writes w_X_writes ({ frames := 0, cells := 0, slots := 0, locals := 0 }) (va_Pc [.ref h0] (z_pre (dC, dI) classes [(cI, .int), (cJ, .long)] (Xw h0 qd qs qv cI cJ (dk, hf, gn, rt, ct, sl, sm, pw, ln, lq, vq, ch)) sz)) (vp_Si (fun r => r = (if pw = true then nI ln else -1))) 0 0 (fun _ => False) := by
  refine Met.ofW (cc := b_X_writes) (maxL := 1) (ret := (some .int)) (by decide) rfl ?_
  intro p e s m args below meth c s₁ B hml hv
  obtain ⟨rfl, hsz, hP, hK, hD0⟩ := hv
  have hx := B.exec
  have hb := B.bytes
  have hr := B.returns
  have hts := fun (w : Cond) (h : w ∈ lw_U) => atoms_spec (ws := w_X_writes) B.pre w (List.mem_cons_of_mem _ h)
  have hown : s.vm.findClass R_X = some m.cls := findClass_of_methodNamed B.named
  have hlocks := B.notSynchronized
  subst hsz
  have hD := hD0
  have hl := lv_entry ([.ref h0]) (n := 1) (Nat.le_of_ble_eq_true rfl)
  rw [lg_entry_eq]
  generalize (lg_sl ([.ref h0]) ++ List.replicate (1 - (lg_sl ([.ref h0])).length) Slot.unset).toArray = ls at hl ⊢
  have hl : lv_has ls 1 [(0, .ref h0)] := hl
  cases pw with
  | false =>
    refine lv_aload_n hx hb d_X_writes_0 rfl (lv_at hl 0 rfl) ?_
    refine va_get (D := (dC, dI)) (ci := 0) (v := .int (bI false)) (C := R_X) (T := F_X) (N := 12) hx hb hts lay_X hown hK hP 0 rfl rfl 7 (by decide) (hts _ m_69) (fun _ h9 => h9) rfl d_X_writes_1 ?_
    refine lv_if_eq (tgt := 14) hx hb d_X_writes_4 (by decide) (fun _ => ?_) (fun h9 => absurd (by decide) h9)
    refine lv_iconst (v := (-1 : Int32)) hx hb d_X_writes_14 (by decide) ?_
    exact W.iret hx hb hr (fun t ht hW => ⟨_, rfl, rfl, ht⟩) (fun q h => by cases h) d_X_writes_15
  | true =>
    refine lv_aload_n hx hb d_X_writes_0 rfl (lv_at hl 0 rfl) ?_
    refine va_get (D := (dC, dI)) (ci := 0) (v := .int (bI true)) (C := R_X) (T := F_X) (N := 12) hx hb hts lay_X hown hK hP 0 rfl rfl 7 (by decide) (hts _ m_69) (fun _ h9 => h9) rfl d_X_writes_1 ?_
    refine lv_if_eq (tgt := 14) hx hb d_X_writes_4 (by decide) (fun h9 => absurd h9 (by decide)) (fun _ => ?_)
    refine lv_aload_n hx hb d_X_writes_7 rfl (lv_at hl 0 rfl) ?_
    refine va_get (D := (dC, dI)) (ci := 0) (v := .int (nI ln)) (C := R_X) (T := F_X) (N := 12) hx hb hts lay_X hown hK hP 0 rfl rfl 8 (by decide) (hts _ m_70) (fun _ h9 => h9) rfl d_X_writes_8 ?_
    refine lv_goto (tgt := 15) hx hb d_X_writes_11 (by decide) ?_
    exact W.iret hx hb hr (fun t ht hW => ⟨_, rfl, rfl, ht⟩) (fun q h => by cases h) d_X_writes_15
set_option maxHeartbeats 4000000 in
set_option maxRecDepth 100000 in
theorem c_sound (l : Launch) (dC : Nat → ClassId) (dI : Nat → Nat → Nat) (h0 qd qs qv : Nat) (cI cJ : ClassId) (sz : Nat) (dk : Nat → Int32) (hf : Nat) (gn : Int32) (rt : Int32) (ct : Int32) (sl : Int32) (sm : Int32) (pw : Bool) (ln : Nat) (lq : Nat → Int32) (vq : Nat → Int64) (ch : Int32)  (h_f : hf < 2) (h_n : ln ≤ 5) : Met l y_X_sound w_X_sound ({ frames := 5, cells := 0, slots := 0, locals := 116 }) (va_Pc [.ref h0] (z_pre (dC, dI) classes [(cI, .int), (cJ, .long)] (Xw h0 qd qs qv cI cJ (dk, hf, gn, rt, ct, sl, sm, pw, ln, lq, vq, ch)) sz)) (vp_Si (fun r => r = (if pw = true then sndF (vof dk hf gn rt ln lq vq) 8 0 0 else -1))) 0 0 (fun _ => False) := by
  refine Met.ofW (cc := b_X_sound) (maxL := 1) (ret := (some .int)) (by decide) rfl ?_
  intro p e s m args below meth c s₁ B hml hv
  obtain ⟨rfl, hsz, hP, hK, hD0⟩ := hv
  have hx := B.exec
  have hb := B.bytes
  have hr := B.returns
  have hts := fun (w : Cond) (h : w ∈ lw_U) => atoms_spec (ws := w_X_sound) B.pre w (List.mem_cons_of_mem _ h)
  have hown : s.vm.findClass R_X = some m.cls := findClass_of_methodNamed B.named
  have hlocks := B.notSynchronized
  subst hsz
  have hD := hD0
  have hl := lv_entry ([.ref h0]) (n := 1) (Nat.le_of_ble_eq_true rfl)
  rw [lg_entry_eq]
  generalize (lg_sl ([.ref h0]) ++ List.replicate (1 - (lg_sl ([.ref h0])).length) Slot.unset).toArray = ls at hl ⊢
  have hl : lv_has ls 1 [(0, .ref h0)] := hl
  cases pw with
  | false =>
    refine lv_aload_n hx hb d_X_sound_0 rfl (lv_at hl 0 rfl) ?_
    refine va_get (D := (dC, dI)) (ci := 0) (v := .int (bI false)) (C := R_X) (T := F_X) (N := 12) hx hb hts lay_X hown hK hP 0 rfl rfl 7 (by decide) (hts _ m_69) (fun _ h9 => h9) rfl d_X_sound_1 ?_
    refine lv_if_eq (tgt := 14) hx hb d_X_sound_4 (by decide) (fun _ => ?_) (fun h9 => absurd (by decide) h9)
    refine lv_iconst (v := (-1 : Int32)) hx hb d_X_sound_14 (by decide) ?_
    exact W.iret hx hb hr (fun t ht hW => ⟨_, rfl, rfl, ht⟩) (fun q h => by cases h) d_X_sound_15
  | true =>
    refine lv_aload_n hx hb d_X_sound_0 rfl (lv_at hl 0 rfl) ?_
    refine va_get (D := (dC, dI)) (ci := 0) (v := .int (bI true)) (C := R_X) (T := F_X) (N := 12) hx hb hts lay_X hown hK hP 0 rfl rfl 7 (by decide) (hts _ m_69) (fun _ h9 => h9) rfl d_X_sound_1 ?_
    refine lv_if_eq (tgt := 14) hx hb d_X_sound_4 (by decide) (fun h9 => absurd h9 (by decide)) (fun _ => ?_)
    refine lv_aload_n hx hb d_X_sound_7 rfl (lv_at hl 0 rfl) ?_
    refine vp_callSi (W.runV (C := R_X) (b := h0) (As := []) (rest := []) ⟨hx, hb, hml, hown, hts⟩ (c_soundSectors l dC dI h0 qd qs qv cI cJ _ dk hf gn rt ct sl sm true ln lq vq ch (by omega) (by omega)) (cwV 0 hts g_X_91 rfl rfl rfl (by decide +kernel) ⟨(Nat.le_of_ble_eq_true rfl), (Nat.le_of_ble_eq_true rfl)⟩) (z_preV (va_recv (q0 := 0) hK hP rfl rfl) hP hK hD) rfl rfl hl.1 rfl (lv_room (Nat.le_of_ble_eq_true rfl)) d_X_sound_8 ⟨(Nat.le_of_ble_eq_true rfl), (Nat.le_of_ble_eq_true rfl)⟩) (fun r hr0 => ?_)
    subst hr0
    refine lv_goto (tgt := 15) hx hb d_X_sound_11 (by decide) ?_
    exact W.iret hx hb hr (fun t ht hW => ⟨_, rfl, rfl, ht⟩) (fun q h => by cases h) d_X_sound_15
set_option maxHeartbeats 4000000 in
set_option maxRecDepth 100000 in
theorem c_steps (l : Launch) (dC : Nat → ClassId) (dI : Nat → Nat → Nat) (h0 qd qs qv : Nat) (cI cJ : ClassId) (sz : Nat) (dk : Nat → Int32) (hf : Nat) (gn : Int32) (rt : Int32) (ct : Int32) (sl : Int32) (sm : Int32) (pw : Bool) (ln : Nat) (lq : Nat → Int32) (vq : Nat → Int64) (ch : Int32)   : Met l y_X_steps w_X_steps ({ frames := 0, cells := 0, slots := 0, locals := 0 }) (va_Pc [.ref h0] (z_pre (dC, dI) classes [(cI, .int), (cJ, .long)] (Xw h0 qd qs qv cI cJ (dk, hf, gn, rt, ct, sl, sm, pw, ln, lq, vq, ch)) sz)) (vp_Si (fun r => r = sm)) 0 0 (fun _ => False) := by
  refine Met.ofW (cc := b_X_steps) (maxL := 1) (ret := (some .int)) (by decide) rfl ?_
  intro p e s m args below meth c s₁ B hml hv
  obtain ⟨rfl, hsz, hP, hK, hD0⟩ := hv
  have hx := B.exec
  have hb := B.bytes
  have hr := B.returns
  have hts := fun (w : Cond) (h : w ∈ lw_U) => atoms_spec (ws := w_X_steps) B.pre w (List.mem_cons_of_mem _ h)
  have hown : s.vm.findClass R_X = some m.cls := findClass_of_methodNamed B.named
  have hlocks := B.notSynchronized
  subst hsz
  have hD := hD0
  have hl := lv_entry ([.ref h0]) (n := 1) (Nat.le_of_ble_eq_true rfl)
  rw [lg_entry_eq]
  generalize (lg_sl ([.ref h0]) ++ List.replicate (1 - (lg_sl ([.ref h0])).length) Slot.unset).toArray = ls at hl ⊢
  have hl : lv_has ls 1 [(0, .ref h0)] := hl
  refine lv_aload_n hx hb d_X_steps_0 rfl (lv_at hl 0 rfl) ?_
  refine va_get (D := (dC, dI)) (ci := 0) (v := .int sm) (C := R_X) (T := F_X) (N := 12) hx hb hts lay_X hown hK hP 0 rfl rfl 6 (by decide) (hts _ m_68) (fun _ h9 => h9) rfl d_X_steps_1 ?_
  exact W.iret hx hb hr (fun t ht hW => ⟨_, rfl, rfl, ht⟩) (fun q h => by cases h) d_X_steps_4
